abbrev TR : Type := Nat × (Nat → Int64)
abbrev TB : Type := Nat × Nat × Nat × (Nat → Int64) × (Nat → Nat) × (Nat → Nat)
abbrev TY : Type := (Nat → TR) × (Nat → TB)
def rQ (ad : Nat → Nat) : Nat → Option Nat := fun j => if j < 12 then some (ad (9 + 2 * j)) else none
def bQ (ad : Nat → Nat) : Nat → Option Nat := fun j => if j < 6 then some (ad (33 + 6 * j)) else none
theorem rQ_at {ad : Nat → Nat} {j : Nat} (h : j < 12) : rQ ad j = some (ad (9 + 2 * j)) := if_pos h
theorem bQ_at {ad : Nat → Nat} {j : Nat} (h : j < 6) : bQ ad j = some (ad (33 + 6 * j)) := if_pos h
def YS (cT : Nat → ClassId) (ad : Nat → Nat) (G : Nat → va_E) : Prop := G 0 = .inr (4, [.ref (ad 1), .ref (ad 2), .ref (ad 3)]) ∧ G 1 = aQ (cT 5) 12 (rQ ad) ∧ G 2 = aQ (cT 6) 6 (bQ ad)
def BRt (cT : Nat → ClassId) (ad : Nat → Nat) (G : Nat → va_E) (k : Nat) (b : TB) : Prop := BR cT ad G k b.1 b.2.1 b.2.2.1 b.2.2.2.1 b.2.2.2.2.1 b.2.2.2.2.2
def BIt (b : TB) : Prop := BI b.1 b.2.1 b.2.2.2.2.1 b.2.2.2.2.2 ∧ b.2.2.1 ≤ 1
def YW (cT : Nat → ClassId) (ad : Nat → Nat) (G : Nat → va_E) (σ : TY) : Prop :=
  YS cT ad G ∧ (∀ j, j < 12 → RR cT ad G (9 + 2 * j) (σ.1 j).1 (σ.1 j).2) ∧ (∀ b, b < 6 → BRt cT ad G (33 + 6 * b) (σ.2 b)) ∧ ∃ (sz cn bx : Nat) (pt : Nat → Int64) (w : Nat → Nat) (nu : Nat → Int64) (ne en : Nat → Nat), RB cT ad G 3 sz cn bx pt w nu ne en
def YI (σ : TY) : Prop := (∀ j, j < 12 → (σ.1 j).1 ≤ 48) ∧ ∀ b, b < 6 → BIt (σ.2 b)
def setR (σ : TY) (j : Nat) (r : TR) : TY := (va_up σ.1 j r, σ.2)
def setB (σ : TY) (b : Nat) (r : TB) : TY := (σ.1, va_up σ.2 b r)
theorem BR.keep {cT : Nat → ClassId} {ad : Nat → Nat} {G G' : Nat → va_E} {k sz cn bx : Nat} {pt : Nat → Int64} {K L : Nat → Nat} (h : BR cT ad G k sz cn bx pt K L) (hG : ∀ j, k ≤ j → j < k + 6 → G' j = G j) : BR cT ad G' k sz cn bx pt K L := by
  obtain ⟨p, w, nu, ne, en, h1, h2⟩ := h
  exact ⟨p, w, nu, ne, en, h1.keep hG, h2⟩
theorem YW.row {cT : Nat → ClassId} {ad : Nat → Nat} {G G' : Nat → va_E} {σ : TY} (h : YW cT ad G σ) {j c : Nat} {f : Nat → Int64} (hj : j < 12) (hf : ∀ i, (i < 9 + 2 * j ∨ 9 + 2 * j + 2 ≤ i) → G' i = G i) (hR : RR cT ad G' (9 + 2 * j) c f) : YW cT ad G' (setR σ j (c, f)) := by
  obtain ⟨⟨h1, h2, h3⟩, h4, h5, sz, cn, bx, pt, w, nu, ne, en, h6⟩ := h
  refine ⟨⟨(hf 0 (by omega)).trans h1, (hf 1 (by omega)).trans h2, (hf 2 (by omega)).trans h3⟩, fun i hi => ?_, fun b hb => ?_, sz, cn, bx, pt, w, nu, ne, en, h6.keep (fun i a b => hf i (by omega))⟩
  · show RR cT ad G' (9 + 2 * i) (va_up σ.1 j (c, f) i).1 (va_up σ.1 j (c, f) i).2
    by_cases e : i = j
    · subst e
      rw [va_up_self]
      exact hR
    · rw [va_up_ne _ _ e]
      exact (h4 i hi).keep (fun a p q => hf a (by omega))
  · exact (h5 b hb).keep (fun a p q => hf a (by omega))
theorem YW.bench {cT : Nat → ClassId} {ad : Nat → Nat} {G G' : Nat → va_E} {σ : TY} (h : YW cT ad G σ) {b : Nat} {r : TB} (hb : b < 6) (hf : ∀ i, (i < 33 + 6 * b ∨ 33 + 6 * b + 6 ≤ i) → G' i = G i) (hR : BRt cT ad G' (33 + 6 * b) r) : YW cT ad G' (setB σ b r) := by
  obtain ⟨⟨h1, h2, h3⟩, h4, h5, sz, cn, bx, pt, w, nu, ne, en, h6⟩ := h
  refine ⟨⟨(hf 0 (by omega)).trans h1, (hf 1 (by omega)).trans h2, (hf 2 (by omega)).trans h3⟩, fun i hi => (h4 i hi).keep (fun a p q => hf a (by omega)), fun i hi => ?_, sz, cn, bx, pt, w, nu, ne, en, h6.keep (fun i a b => hf i (by omega))⟩
  show BRt cT ad G' (33 + 6 * i) (va_up σ.2 b r i)
  by_cases e : i = b
  · subst e
    rw [va_up_self]
    exact hR
  · rw [va_up_ne _ _ e]
    exact (h5 i hi).keep (fun a p q => hf a (by omega))
theorem YW.spare {cT : Nat → ClassId} {ad : Nat → Nat} {G G' : Nat → va_E} {σ : TY} (h : YW cT ad G σ) {sz cn bx : Nat} {pt : Nat → Int64} {K L : Nat → Nat} (hf : ∀ i, (i < 3 ∨ 3 + 6 ≤ i) → G' i = G i) (hR : BR cT ad G' 3 sz cn bx pt K L) : YW cT ad G' σ := by
  obtain ⟨⟨h1, h2, h3⟩, h4, h5, -⟩ := h
  obtain ⟨p, w, nu, ne, en, h6, -⟩ := hR
  exact ⟨⟨(hf 0 (by omega)).trans h1, (hf 1 (by omega)).trans h2, (hf 2 (by omega)).trans h3⟩, fun i hi => (h4 i hi).keep (fun a p q => hf a (by omega)), fun b hb => (h5 b hb).keep (fun a p q => hf a (by omega)), sz, cn, bx, p, w, nu, ne, en, h6⟩
theorem YI.row {σ : TY} (h : YI σ) {j c : Nat} {f : Nat → Int64} (hc : c ≤ 48) : YI (setR σ j (c, f)) := by
  refine ⟨fun i hi => ?_, h.2⟩
  show (va_up σ.1 j (c, f) i).1 ≤ 48
  by_cases e : i = j
  · subst e
    rw [va_up_self]
    exact hc
  · rw [va_up_ne _ _ e]
    exact h.1 i hi
theorem YI.bench {σ : TY} (h : YI σ) {b : Nat} {r : TB} (hr : BIt r) : YI (setB σ b r) := by
  refine ⟨h.1, fun i hi => ?_⟩
  show BIt (va_up σ.2 b r i)
  by_cases e : i = b
  · subst e
    rw [va_up_self]
    exact hr
  · rw [va_up_ne _ _ e]
    exact h.2 i hi
def kdx (ch : Nat) : Nat := if ch = 105 then 0 else if ch = 108 then 1 else if ch = 111 then 2 else 3
def hwx (ch : Nat) : Nat := if ch = 115 then 0 else if ch = 120 then 1 else if ch = 104 then 2 else if ch = 102 then 3 else 4
theorem kdx_le (ch : Nat) : kdx ch ≤ 3 := by
  unfold kdx
  split
  · omega
  split
  · omega
  split <;> omega
def PT (D : va_G) (cT : Nat → ClassId) (n : Nat) (ad : Nat → Nat) (A : Nat → Prop) (G : Nat → va_E) (t N : Nat) (f : Nat → Value) (as : List Value) : Array Value → State → Prop := va_Pc as (fun U => (va_P D vwCl (gw n ad G) U.heap ∧ va_K D vwCl (tysC cT) U ∧ EX A U ∧ ∀ q, U.heap.size ≤ q → A q) ∧ va_T .char t N f A U U.heap)
theorem PT_blind {D : va_G} {cT : Nat → ClassId} {n : Nat} {ad : Nat → Nat} {A : Nat → Prop} {G : Nat → va_E} {t N : Nat} {f : Nat → Value} {as : List Value} : FrameBlind (PT D cT n ad A G t N f as) := by
  intro a U g mk h
  obtain ⟨h1, h2, h3⟩ := h
  obtain ⟨-, h5⟩ := PG_blind (as := as) (a := a) (U := U) (g := g) (mk := mk) ⟨h1, h2⟩
  exact ⟨h1, h5, va_T.moved (u := U) (U := U.calling g mk a) (Vm.Alike.refl U.vm) h3⟩
section GT
variable {p : Program} {l : Launch} {e : Env} {R : Room} {s : State} {m : MethodId} {args : Array Value} {below : List Frame} {meth : Method} {c : Code} {H : Heap} {locs : List Loc} {cells slots : Nat} {Q : State → Prop}
variable {cc : ByteArray} {pc : Nat} {ls : Array Slot} {rest st0 : List Value} {D : va_G} {cT : Nat → ClassId} {n : Nat} {ad : Nat → Nat} {A : Nat → Prop} {G : Nat → va_E} {post : Option Value → (Nat → va_E) → Prop} {mc ms t N : Nat} {f : Nat → Value}
theorem Met.ofT {y : MethodName} {rm : Room} {maxL : Nat} {ret : Option FieldType} {as : List Value}
    (hy : plainName y.cls = true) (hlen : (lg_sl as).length ≤ maxL)
    (body : ∀ (p : Program) (e : Env) (s : State) (m : MethodId) (args : Array Value) (below : List Frame) (meth : Method) (c : Code) (Q : State → Prop), (∀ t, MQ below (QG D n ad A post) args s mc ms A t → Q t) → p.tables.exec = Jvm.exec → c.code = cc → meth.sig.returnType = ret → c.maxLocals = maxL → meth.locks = false → s.vm.findClass y.cls = some m.cls → (∀ w ∈ WA, w.before args s = true) →
      va_P D vwCl (gw n ad G) s.heap → va_K D vwCl (tysC cT) s → EX A s → (∀ q, s.heap.size ≤ q → A q) → va_S A s.heap s.heap [] → va_T .char t N f A s s.heap → ∀ ls : Array Slot, lv_has ls maxL (lv_args 0 as) →
      W p l e rm s m args below meth c s.heap [] 0 0 Q (F0 m 0 ls [])) : Met l y (wA y cc maxL ret) rm (PT D cT n ad A G t N f as) (QG D n ad A post) mc ms A := by
  refine Met.ofW (cc := cc) (maxL := maxL) (ret := ret) hy rfl ?_
  intro p e s m args below meth c s₁ B hml hv
  obtain ⟨rfl, ⟨hP, hK, hE, hA⟩, hT⟩ := hv
  have hl := lv_entry as (n := maxL) hlen
  rw [lg_entry_eq]
  exact body p e s m _ below meth c _ (fun _ h => h) B.exec B.bytes B.returns hml B.notSynchronized (findClass_of_methodNamed B.named) (fun w hw => atoms_spec (ws := wA y cc maxL ret) B.pre w (List.mem_cons_of_mem _ hw)) hP hK hE hA va_S.rf hT _ hl
theorem g_callST {y : MethodName} {bytes : ByteArray} {maxL nL index na : Nat} {ret : Option FieldType} {ws Ts : List Cond} {rm : Room} {own : String} {As : List Value}
    (S : CallFix p m c cc nL s args Ts own) (hM : Met l y ws rm (PT D cT n ad A G t N f As) (QG D n ad A post) mc ms A) (cw : CallB R s args own index y bytes maxL ret ws rm mc ms na ∧ (Cond.static y).before args s = true)
    (hK : va_K D vwCl (tysC cT) s) (hE : EX A s) (hA : ∀ q, s.heap.size ≤ q → A q) (hP : va_P D vwCl (gw n ad G) H) (hS : va_S A s.heap H locs) (hT : va_T .char t N f A s s.heap)
    (hn : As.length = na) (hsize : ls.size = nL) (hW : 2 * (F0 m pc ls (As.reverse ++ rest)).monitorRoom + (rest.map fun v => v.category).sum ≤ 8) (hdg : decode cc pc = .ok (.invokestatic index, 3)) (hf : cells + mc ≤ R.cells ∧ slots + ms ≤ R.slots)
    (kk : ∀ (v : Option Value) (G1 : Nat → va_E) (H1 : Heap) (locs1 : List Loc), post v G1 → va_P D vwCl (gw n ad G1) H1 → va_S A s.heap H1 locs1 → W p l e R s m args below meth c H1 locs1 (cells + mc) (slots + ms) Q (F0 m (pc + 3) ls (v.toList ++ rest))) : W p l e R s m args below meth c H locs cells slots Q (F0 m pc ls (As.reverse ++ rest)) :=
  g_callR (va_runS (As := As) (rest := rest) (g := F0 m pc ls (As.reverse ++ rest)) S hM cw ⟨PT_blind, fun U hU hW => by
    obtain ⟨h1, h2⟩ := PG_at (as := As) hK hE hA hP hS U hU hW
    exact ⟨h1, h2, va_T.moved hW.alike (by rw [hU]; exact hT.kept hS.2.1)⟩⟩ rfl hn hsize rfl hW hdg hf) hS kk
theorem g_tc (hx : p.tables.exec = Jvm.exec) (hb : c.code = cc) (hT : va_T .char t N f A s s.heap) (hS : va_S A s.heap H locs) {j v : Nat} (hj : j < N) (hN : N < 2 ^ 31) (hv : f j = .int (nI v)) (hdg : decode cc pc = .ok (.caload, 1))
    (kk : W p l e R s m args below meth c H locs cells slots Q (F0 m (pc + 1) ls (.int (nI v) :: rest))) : W p l e R s m args below meth c H locs cells slots Q (F0 m pc ls (.int (nI j) :: .ref t :: rest)) :=
  va_tc hx hb hT hS (vp_in_nI hj hN) (by rw [nI_clamp (by omega)]; exact hv) hdg kk
end GT
theorem ixr {a N k : Nat} (h : a = k) (hk : k < N) : some (Value.int (nI k)) = some (.int (if a = N then -1 else nI a)) := by
  subst h
  rw [if_neg (by omega)]
theorem ixm {a N : Nat} (h : a = N) : some (Value.int (-1)) = some (.int (if a = N then -1 else nI a)) := by
  rw [if_pos h]
def pxRow (ch : Nat) (x : Int32) (E : String) : Prop := (kdx ch = 3 ∧ E = xIA) ∨ (kdx ch < 3 ∧ (x < 0 ∨ nI 4 ≤ x) ∧ E = xIO)
def pxBen (x : Int32) (E : String) : Prop := (x < 0 ∨ nI 6 ≤ x) ∧ E = xIO
def pxItem (σ : TY) (x y : Int32) (E : String) : Prop := ((x < 0 ∨ nI 6 ≤ x) ∨ ∃ b, b < 6 ∧ x = nI b ∧ (y < 0 ∨ nI (σ.2 b).2.1 ≤ y)) ∧ E = xIO
theorem row_ix {x : Int32} {N : Nat} (hN : N < 2 ^ 31) (h0 : ¬ x < 0) (h4 : ¬ nI N ≤ x) : ∃ j, j < N ∧ x = nI j := by
  rcases pk_ix x hN with h | h | h
  · exact absurd h h0
  · exact absurd h h4
  · exact h
theorem lt_ix {x : Int32} {N : Nat} (hN : N < 2 ^ 31) (h0 : ¬ x < 0) (h4 : x < nI N) : ∃ j, j < N ∧ x = nI j := row_ix hN h0 (fun h => absurd h4 (Int32.not_lt.mpr h))
