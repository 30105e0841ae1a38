def chN (x : Int32) : Nat := (x.toUInt32 % 65536).toNat
theorem chN_lt (x : Int32) : chN x < 65536 := by
  show (x.toUInt32 % 65536).toNat < 65536
  rw [UInt32.toNat_mod]
  exact Nat.mod_lt _ (by decide)
theorem chN_eq (x : Int32) : (x.toUInt32 % 65536).toInt32 = nI (chN x) := by
  apply Int32.toBitVec_inj.mp
  apply BitVec.eq_of_toNat_eq
  show (x.toUInt32 % 65536).toNat = (BitVec.ofNat 32 (chN x)).toNat
  rw [BitVec.toNat_ofNat, Nat.mod_eq_of_lt (by have := chN_lt x; omega)]
  rfl
def lg2 (a b : Int32) : Int64 := (a.toInt64 <<< ((nI 32).toInt64 &&& 63)) ||| (b.toInt64 &&& 4294967295)
theorem cd_pos (L : List String) (E : String) : 0 < cd L E := Nat.succ_pos _
theorem cd_le (L : List String) (E : String) : cd L E ≤ L.length + 1 := by
  unfold cd
  have := List.idxOf_le_length (a := E) (l := L)
  omega
theorem MW.th {cT : Nat → ClassId} {ad : Nat → Nat} {G : Nat → va_E} {σ : TY} {th : Nat} (h : MW cT ad G σ th) : G 69 = mO ad th := by
  obtain ⟨_, _, _, _, _, _, _, _, hC, _⟩ := h
  exact hC.1
def LX (p : Program) (l : Launch) (s : State) (m : MethodId) (meth : Method) (c : Code) (b L : Nat) (xs : Nat → Int32) (D : va_G) (cT : Nat → ClassId) (ad : Nat → Nat) (A : Nat → Prop) : Prop :=
  p.tables.exec = Jvm.exec ∧ c.code = cL_law ∧ c.maxLocals = 9 ∧ s.vm.findClass RL = some m.cls ∧ (∀ w ∈ WA, w.before #[Value.ref b] s = true) ∧ va_X b L xs s s.heap ∧ b < s.heap.size ∧ ¬ A b ∧ va_K D vwCl (tysC cT) s ∧ EX A s ∧ (∀ q, s.heap.size ≤ q → A q) ∧ (∀ G, va_D A (gw 116 ad G)) ∧ NM cT s ∧ l.stackTraces = false ∧ L ≤ 4096
def LSt (cT : Nat → ClassId) (ad : Nat → Nat) (G : Nat → va_E) (σ : TY) (th : Nat) (f : Nat → Int64) (f2 : Nat → UInt64) : Prop := YI σ ∧ YW cT ad G σ ∧ MW cT ad G σ th ∧ G 114 = aJ cT 1 f ∧ G 115 = aD cT 1 f2
abbrev LVL (b : Nat) (ad : Nat → Nat) (i : Nat) : List (Nat × Value) := [(0, .ref b), (1, .ref (ad 0)), (2, .ref (ad 69)), (3, .ref (ad 114)), (4, .ref (ad 115)), (5, .int (nI i))]
def LK (p : Program) (l : Launch) (e : Env) (s : State) (m : MethodId) (below : List Frame) (meth : Method) (c : Code) (b : Nat) (D : va_G) (cT : Nat → ClassId) (ad : Nat → Nat) (A : Nat → Prop) (Q : State → Prop) (i cells slots pc : Nat) : Prop := ∀ (σ : TY) (G : Nat → va_E) (th : Nat) (f : Nat → Int64) (f2 : Nat → UInt64) (H : Heap) (locs : List Loc) (ls : Array Slot), LSt cT ad G σ th f f2 → va_P D vwCl (gw 116 ad G) H → va_S A s.heap H locs → lv_has ls 9 (LVL b ad i) → W p l e room_1 s m #[Value.ref b] below meth c H locs cells slots Q (F0 m pc ls [])
section GL
variable {p : Program} {l : Launch} {e : Env} {R : Room} {s : State} {m : MethodId} {args : Array Value} {below : List Frame} {meth : Method} {c : Code} {H : Heap} {locs : List Loc} {cells slots : Nat} {Q : State → Prop}
variable {cc : ByteArray} {pc : Nat} {ls : Array Slot} {rest : List Value} {A : Nat → Prop} {b L : Nat} {xs : Nat → Int32}
theorem g_sld (hx : p.tables.exec = Jvm.exec) (hb : c.code = cc) (hX : va_X b L xs s s.heap) (hbl : b < s.heap.size) (hbA : ¬ A b) (hS : va_S A s.heap H locs) {j : Nat} (hj : j < L) (hL : L < 2 ^ 31) (hdg : decode cc pc = .ok (.iaload, 1))
    (kk : W p l e R s m args below meth c H locs cells slots Q (F0 m (pc + 1) ls (.int (xs j) :: rest))) : W p l e R s m args below meth c H locs cells slots Q (F0 m pc ls (.int (nI j) :: .ref b :: rest)) := by
  refine va_sld hx hb hX hbl hbA hS (vp_in_nI hj hL) hdg ?_
  rw [nI_clamp (by omega)]
  exact kk
end GL
