def NMl : List (String × Nat) := [("[J", 0), ("[I", 1), ("[C", 2), ("[Z", 3), ("[D", 4), ("[LSplityard$Row;", 5), ("[LSplityard$Bench;", 6), ("[[J", 7), ("[[I", 8), ("[[C", 9), ("[[[J", 10)]
def cmN : FieldType → String
  | .object n => n
  | t => t.toString
def AOT (ty : FieldType) (U : State) : Prop := ∃ (comp c : ClassId) (k : Class), U.vm.findClass (cmN ty) = some comp ∧ (U.vm.classes.findIdx? fun (x : Class) => match x.kind with | .array component _ => component == comp | _ => false) = some c ∧ U.vm.classes[c]? = some k ∧ k.kind = .array comp ty ∧ U.vm.findClass ("[" ++ ty.toString) = some c
def AOl : List FieldType := [.object RX1, .object RX0, .array (.array .long), .array .long, .array .int, .array .char]
def NM (cT : Nat → ClassId) (U : State) : Prop := (∀ q ∈ NMl, U.vm.findClass q.1 = some (cT q.2)) ∧ ∀ ty ∈ AOl, AOT ty U
theorem AOT.moved {ty : FieldType} {u U : State} (hvm : u.vm.Alike U.vm) (h : AOT ty u) : AOT ty U := by
  obtain ⟨comp, c, k, h1, h2, h3, h4, h5⟩ := h
  obtain ⟨k', hk', he⟩ := hvm.2.2 _ _ h3
  refine ⟨comp, c, k', by rw [hvm.findClass]; exact h1, ?_, hk', by rw [he]; exact h4, by rw [hvm.findClass]; exact h5⟩
  rw [hvm.findIdx?_eqK _ (fun _ => rfl)]
  exact h2
theorem NM.moved {cT : Nat → ClassId} {u U : State} (hvm : u.vm.Alike U.vm) (h : NM cT u) : NM cT U := ⟨fun q hq => by rw [hvm.findClass]; exact h.1 q hq, fun ty hty => (h.2 ty hty).moved hvm⟩
def PC (D : va_G) (cT : Nat → ClassId) (n : Nat) (ad : Nat → Nat) (A : Nat → Prop) (G : Nat → va_E) (as : List Value) : Array Value → State → Prop := va_Pc as (fun U => (va_P D vwCl (gw n ad G) U.heap ∧ va_K D vwCl (tysC cT) U ∧ EX A U ∧ ∀ q, U.heap.size ≤ q → A q) ∧ NM cT U)
theorem PC_blind {D : va_G} {cT : Nat → ClassId} {n : Nat} {ad : Nat → Nat} {A : Nat → Prop} {G : Nat → va_E} {as : List Value} : FrameBlind (PC D cT n ad A G as) := by
  intro a U g mk h
  obtain ⟨h1, h2, h3⟩ := h
  obtain ⟨-, h5⟩ := PG_blind (as := as) (a := a) (U := U) (g := g) (mk := mk) ⟨h1, h2⟩
  exact ⟨h1, h5, NM.moved (u := U) (U := U.calling g mk a) (Vm.Alike.refl U.vm) h3⟩
section GC
variable {p : Program} {l : Launch} {e : Env} {R : Room} {s : State} {m : MethodId} {args : Array Value} {below : List Frame} {meth : Method} {c : Code} {H : Heap} {locs : List Loc} {cells slots : Nat} {Q : State → Prop}
variable {cc : ByteArray} {pc : Nat} {ls : Array Slot} {rest st0 : List Value} {D : va_G} {cT : Nat → ClassId} {n : Nat} {ad : Nat → Nat} {A : Nat → Prop} {G : Nat → va_E} {post : Option Value → (Nat → va_E) → Prop} {mc ms : Nat}
theorem Met.ofC {y : MethodName} {rm : Room} {maxL : Nat} {ret : Option FieldType} {as : List Value} {Qc : Array Value → State → Outcome → State → Prop}
    (hy : plainName y.cls = true) (hlen : (lg_sl as).length ≤ maxL)
    (body : ∀ (p : Program) (e : Env) (s : State) (m : MethodId) (args : Array Value) (below : List Frame) (meth : Method) (c : Code) (Q : State → Prop), (∀ t, MQ below Qc args s mc ms A t → Q t) → p.tables.exec = Jvm.exec → c.code = cc → meth.sig.returnType = ret → c.maxLocals = maxL → meth.locks = false → meth.name = y.name → s.vm.findClass y.cls = some m.cls → (∀ w ∈ WA, w.before args s = true) →
      va_P D vwCl (gw n ad G) s.heap → va_K D vwCl (tysC cT) s → EX A s → (∀ q, s.heap.size ≤ q → A q) → va_S A s.heap s.heap [] → NM cT s → ∀ ls : Array Slot, lv_has ls maxL (lv_args 0 as) →
      W p l e rm s m args below meth c s.heap [] 0 0 Q (F0 m 0 ls [])) : Met l y (wA y cc maxL ret) rm (PC D cT n ad A G as) Qc mc ms A := by
  refine Met.ofW (cc := cc) (maxL := maxL) (ret := ret) hy rfl ?_
  intro p e s m args below meth c s₁ B hml hv
  obtain ⟨rfl, ⟨hP, hK, hE, hA⟩, hN⟩ := hv
  have hl := lv_entry as (n := maxL) hlen
  rw [lg_entry_eq]
  exact body p e s m _ below meth c _ (fun _ h => h) B.exec B.bytes B.returns hml B.notSynchronized (name_of_methodNamed B.named B.method).1 (findClass_of_methodNamed B.named) (fun w hw => atoms_spec (ws := wA y cc maxL ret) B.pre w (List.mem_cons_of_mem _ hw)) hP hK hE hA va_S.rf hN _ hl
theorem PC_at {as : List Value} (hK : va_K D vwCl (tysC cT) s) (hE : EX A s) (hA : ∀ q, s.heap.size ≤ q → A q) (hN : NM cT s) (hP : va_P D vwCl (gw n ad G) H) (hS : va_S A s.heap H locs) : ∀ U : State, U.heap = H → s.WarmedH U.vm → PC D cT n ad A G as as.toArray U := fun U hU hW => by
  obtain ⟨h1, h2⟩ := PG_at (as := as) hK hE hA hP hS U hU hW
  exact ⟨h1, h2, NM.moved hW.alike hN⟩
theorem g_callVC {y : MethodName} {bytes : ByteArray} {maxL nL index na : Nat} {ret : Option FieldType} {ws Ts : List Cond} {rm : Room} {own : String} {As : List Value} {k ci : Nat} {fs : List Value} {q : vw_C}
    (S : CallFix p m c cc nL s args Ts own) (hM : Met l y ws rm (PC D cT n ad A G (.ref (ad k) :: As)) (QG D n ad A post) mc ms A) (cw : CallW R s args own q.1 index y bytes maxL ret ws rm mc ms na)
    (hK : va_K D vwCl (tysC cT) s) (hE : EX A s) (hA : ∀ q, s.heap.size ≤ q → A q) (hN : NM cT s) (hP : va_P D vwCl (gw n ad G) H) (hS : va_S A s.heap H locs) (hk : k < n) (hG : G k = .inr (ci, fs)) (hc : vwCl[ci]? = some q)
    (hn : As.length = na) (hsize : ls.size = nL) (hW : 2 * (F0 m pc ls (As.reverse ++ .ref (ad k) :: rest)).monitorRoom + (rest.map fun v => v.category).sum ≤ 8) (hdg : decode cc pc = .ok (.invokevirtual index, 3)) (hf : cells + mc ≤ R.cells ∧ slots + ms ≤ R.slots)
    (kk : ∀ (v : Option Value) (G1 : Nat → va_E) (H1 : Heap) (locs1 : List Loc), post v G1 → va_P D vwCl (gw n ad G1) H1 → va_S A s.heap H1 locs1 → W p l e R s m args below meth c H1 locs1 (cells + mc) (slots + ms) Q (F0 m (pc + 3) ls (v.toList ++ rest))) : W p l e R s m args below meth c H locs cells slots Q (F0 m pc ls (As.reverse ++ .ref (ad k) :: rest)) :=
  g_callR (va_runV (As := As) (rest := rest) (g := F0 m pc ls (As.reverse ++ .ref (ad k) :: rest)) S hM cw ⟨PC_blind, va_recv hK hP hc (q0 := k) (gw_get hk hG), PC_at hK hE hA hN hP hS⟩ rfl hn hsize rfl hW hdg hf) hS kk
theorem gw_grow {q : Nat} {x : va_E} {H1 : Heap} (hd : va_D A (gw n ad G ++ [(q, x)])) (hp : va_P D vwCl (gw n ad G ++ [(q, x)]) H1) : ∃ (ad2 : Nat → Nat) (G2 : Nat → va_E), (∀ k, k < n → ad2 k = ad k) ∧ ad2 n = q ∧ G2 n = x ∧ (∀ k, k ≠ n → G2 k = G k) ∧ (∀ G, va_D A (gw (n + 1) ad2 G)) ∧ va_P D vwCl (gw (n + 1) ad2 G2) H1 := by
  rw [gw_push] at hd hp
  obtain ⟨e1, e2⟩ := gw_dis hd
  exact ⟨_, _, fun k hk => va_up_ne _ _ (by omega), va_up_self _ _ _, va_up_self _ _ _, fun k hk => va_up_ne _ _ hk, gw_of_dis e1 e2, hp⟩
theorem g_new1 {atype : ArrayType} {ty : FieldType} {t0 : Nat} {N : Nat} {z : vp_A} (hx : p.tables.exec = Jvm.exec) (hb : c.code = cc) (harr : (Cond.arrayClass (newarray.typeOf atype)).before args s = true) (hty : newarray.typeOf atype = ty) (hNm : s.vm.findClass ("[" ++ ty.toString) = some (cT t0))
    (hP : va_P D vwCl (gw n ad G) H) (hD : ∀ G, va_D A (gw n ad G)) (hS : va_S A s.heap H locs) (hA : ∀ q, s.heap.size ≤ q → A q) (hN : N < 2 ^ 20) (hz : ∀ c : ClassId, vp_cell c z = arrV c N (fun _ => defaultValue ty)) (hcells : cells + 1 ≤ R.cells) (hslots : slots + N ≤ R.slots) (hbytes : N * componentBytes ty ≤ 536870912) (hdg : decode cc pc = .ok (.newarray atype, 2))
    (kk : ∀ (ad2 : Nat → Nat) (G2 : Nat → va_E) (H1 : Heap), (∀ k, k < n → ad2 k = ad k) → G2 n = .inl (cT t0, z) → (∀ k, k ≠ n → G2 k = G k) → (∀ G, va_D A (gw (n + 1) ad2 G)) → va_P D vwCl (gw (n + 1) ad2 G2) H1 → va_S A s.heap H1 locs → W p l e R s m args below meth c H1 locs (cells + 1) (slots + N) Q (F0 m (pc + 2) ls (.ref (ad2 n) :: rest))) : W p l e R s m args below meth c H locs cells slots Q (F0 m pc ls (.int (nI N) :: rest)) := by
  subst hty
  refine va_newaK hx hb harr rfl hdg rfl (nI_pos (by omega)) (nI_clamp (by omega)) hbytes hcells hslots rfl fun H1 cA e1 z1 o1 hAr hNm2 => ?_
  have e9 : cA = cT t0 := Option.some.inj (hNm2.symm.trans hNm)
  subst e9
  have hP1 : va_P D vwCl (gw n ad G ++ [(H.size, .inl (cT t0, z))]) H1 := (hP.kept (fun k x hx9 => o1 x.1 ((hP k x hx9).lt))).app (fun k x hx9 => by
    have h0 : k < 1 := (List.getElem?_eq_some_iff.mp hx9).1
    rw [show k = 0 by omega] at hx9
    cases hx9
    show H1[H.size]? = some (vp_cell _ _)
    rw [hz]; exact e1)
  have hD1 := (hD G).push (e := .inl (cT t0, z)) hP rfl (hA _ hS.1)
  obtain ⟨ad2, G2, h1, h2, h3, h4, h5, h6⟩ := gw_grow hD1 hP1
  rw [← h2]
  exact kk ad2 G2 H1 h1 h3 h4 h5 h6 ⟨Nat.le_trans hS.1 (by omega), fun x h1 h2 => (o1 x (Nat.lt_of_lt_of_le h1 hS.1)).trans (hS.2.1 x h1 h2), hS.2.2⟩
theorem gw_cong {ad2 : Nat → Nat} {G2 : Nat → va_E} (h1 : ∀ k, k < n → ad2 k = ad k) (h2 : ∀ k, k < n → G2 k = G k) : gw n ad2 G2 = gw n ad G := by
  unfold gw
  apply List.map_congr_left
  intro i hi
  have h := List.mem_range.mp hi
  rw [h1 i h, h2 i h]
theorem gw_back {ad2 : Nat → Nat} {Gx : Nat → va_E} {k : Nat} (hk : n ≤ k) (h1 : ∀ k, k < n → ad2 k = ad k) (hP : va_P D vwCl (gw k ad2 Gx) H) : va_P D vwCl (gw n ad (fun j => if j < n then Gx j else G j)) H := by
  rw [← gw_cong (ad2 := ad2) (G2 := Gx) h1 (fun k hk => (if_pos hk).symm)]
  exact gw_pre hk hP
end GC
theorem MC.ad {cT : Nat → ClassId} {ad ad2 : Nat → Nat} {G G2 : Nat → va_E} {th : Nat} {rf : Nat → Nat → Nat → Int64} {sf : Nat → Nat → Nat} {pf : Nat → Nat → Int64} {zf xf : Nat → Nat} {kf lf : Nat → Nat → Nat} {mf : Nat → Nat} (h : MC cT ad G th rf sf pf zf xf kf lf mf) (h1 : ∀ k, k < 114 → ad2 k = ad k) (h2 : ∀ k, 69 ≤ k → k < 114 → G2 k = G k) : MC cT ad2 G2 th rf sf pf zf xf kf lf mf := by
  have e0 : mO ad2 th = mO ad th := by unfold mO; rw [h1 70 (by omega), h1 86 (by omega), h1 90 (by omega), h1 97 (by omega), h1 98 (by omega), h1 99 (by omega), h1 106 (by omega), h1 113 (by omega)]
  have e1 : q3 ad2 = q3 ad := by
    funext i; unfold q3; split
    · rw [h1 _ (by omega)]
    · rfl
  have e2 : ∀ q, q < 3 → q4 ad2 q = q4 ad q := fun q hq => by
    funext i; unfold q4; split
    · rw [h1 _ (by omega)]
    · rfl
  have e3 : qS ad2 = qS ad := by
    funext i; unfold qS; split
    · rw [h1 _ (by omega)]
    · rfl
  have e4 : qP ad2 = qP ad := by
    funext i; unfold qP; split
    · rw [h1 _ (by omega)]
    · rfl
  have e5 : qK ad2 = qK ad := by
    funext i; unfold qK; split
    · rw [h1 _ (by omega)]
    · rfl
  have e6 : qL ad2 = qL ad := by
    funext i; unfold qL; split
    · rw [h1 _ (by omega)]
    · rfl
  obtain ⟨a1, a2, a3, a4, a5, a6, a7, a8, a9, b1, b2, b3, b4, b5, b6, b7, b8⟩ := h
  unfold MC
  rw [e0, e1, e3, e4, e5, e6]
  exact ⟨(h2 _ (by omega) (by omega)).trans a1, (h2 _ (by omega) (by omega)).trans a2, fun q hq => by rw [e2 q hq]; exact (h2 _ (by omega) (by omega)).trans (a3 q hq), fun q hq r hr => (h2 _ (by omega) (by omega)).trans (a4 q hq r hr), (h2 _ (by omega) (by omega)).trans a5, fun q hq => (h2 _ (by omega) (by omega)).trans (a6 q hq), (h2 _ (by omega) (by omega)).trans a7, fun q hq => (h2 _ (by omega) (by omega)).trans (a8 q hq), (h2 _ (by omega) (by omega)).trans a9, (h2 _ (by omega) (by omega)).trans b1, (h2 _ (by omega) (by omega)).trans b2, fun q hq => (h2 _ (by omega) (by omega)).trans (b3 q hq), (h2 _ (by omega) (by omega)).trans b4, fun q hq => (h2 _ (by omega) (by omega)).trans (b5 q hq), (h2 _ (by omega) (by omega)).trans b6, b7, b8⟩
theorem MW.ad {cT : Nat → ClassId} {ad ad2 : Nat → Nat} {G G2 : Nat → va_E} {σ : TY} {th : Nat} (h : MW cT ad G σ th) (h1 : ∀ k, k < 114 → ad2 k = ad k) (h2 : ∀ k, 69 ≤ k → k < 114 → G2 k = G k) : MW cT ad2 G2 σ th := by
  obtain ⟨rf, sf, pf, zf, xf, kf, lf, mf, hC, hA⟩ := h
  exact ⟨rf, sf, pf, zf, xf, kf, lf, mf, hC.ad h1 h2, hA⟩
def wsum (g P : Nat → Nat) : Nat → Nat
  | 0 => 0
  | w + 1 => wsum g P w + g w * P w
theorem wsum_ag {g h P : Nat → Nat} : ∀ w, (∀ i, i < w → g i = h i) → wsum g P w = wsum h P w
  | 0, _ => rfl
  | w + 1, q => by
    show wsum g P w + g w * P w = wsum h P w + h w * P w
    rw [wsum_ag w (fun i hi => q i (by omega)), q w (by omega)]
theorem wsum_up {g P : Nat → Nat} {i c : Nat} : ∀ w, i < w → wsum (va_up g i (g i + c)) P w = wsum g P w + c * P i
  | 0, h => absurd h (Nat.not_lt_zero _)
  | w + 1, h => by
    show wsum (va_up g i (g i + c)) P w + va_up g i (g i + c) w * P w = wsum g P w + g w * P w + c * P i
    by_cases e : i = w
    · subst e
      rw [va_up_self, wsum_ag (h := g) i (fun j hj => va_up_ne _ _ (by omega)), Nat.add_mul]
      omega
    · rw [va_up_ne _ _ (Ne.symm e), wsum_up w (by omega)]
      omega
theorem wsum_0 {P : Nat → Nat} : ∀ w, wsum (fun _ => 0) P w = 0
  | 0 => rfl
  | w + 1 => by
    show wsum (fun _ => 0) P w + 0 * P w = 0
    rw [wsum_0 w, Nat.zero_mul]
theorem pcs_rec {mo k : Nat} (hm : 0 < mo) (hk : k ≤ 48) (h : mo < k) : pcs mo 8 k = pcs mo 8 (k / 2) + pcs mo 8 (k - k / 2) := by
  show (if k ≤ mo then 1 else pcs mo 7 (k / 2) + pcs mo 7 (k - k / 2)) = _
  rw [if_neg (by omega), pcs_stable hm 7 (k / 2) (by omega), pcs_stable hm 7 (k - k / 2) (by omega)]
theorem pcs_one {mo k : Nat} (h : k ≤ mo) : pcs mo 8 k = 1 := if_pos h
theorem wsum_split {g : Nat → Nat} {mo k : Nat} (hm : 0 < mo) (hk : k ≤ 48) (h : mo < k) : wsum (va_up (va_up g (k / 2) (g (k / 2) + g k)) (k - k / 2) (va_up g (k / 2) (g (k / 2) + g k) (k - k / 2) + va_up g (k / 2) (g (k / 2) + g k) k)) (pcs mo 8) k = wsum g (pcs mo 8) (k + 1) := by
  rw [wsum_up k (by omega), wsum_up k (by omega), va_up_ne _ _ (show k ≠ k / 2 by omega)]
  show _ = wsum g (pcs mo 8) k + g k * pcs mo 8 k
  rw [pcs_rec hm hk h, Nat.mul_add]
  omega
def dI (w : Nat) : Int32 := if w = 0 then -1 else nI (w - 1)
theorem dI_s (k : Nat) : dI (k + 1) = nI k := if_neg (by omega)
theorem dI_dec (k : Nat) : nI k + (-1) = dI k := by
  unfold dI
  by_cases h : k = 0
  · subst h; rfl
  · rw [if_neg h]; exact nI_dec1 (by omega)
