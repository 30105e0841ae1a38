def csR (σ : TY) : Nat → Int64
  | 0 => 7
  | j + 1 => rsum (σ.1 j).2 (31 * csR σ j + lN (σ.1 j).1) (σ.1 j).1
def csB (σ : TY) : Nat → Int64
  | 0 => csR σ 12
  | b + 1 => bsum (σ.2 b).2.2.2.2.1 (σ.2 b).2.2.2.2.2 (σ.2 b).2.2.2.1 (31 * csB σ b + lN (σ.2 b).2.1) (σ.2 b).2.1
def shF (c k : Nat) : UInt32 := FP.fdiv (FP.i2f (nI c)) (FP.i2f (nI k))
def mnF (c k : Nat) : UInt64 := FP.ddiv (FP.i2d (nI c)) (FP.i2d (nI k))
set_option maxRecDepth 100000 in
theorem shF_ok0 : ∀ c, c < 97 → ∀ k, k < 49 → 0 < k → shF c k &&& 0x7fffffff ≤ 0x7f800000 := by decide +kernel
set_option maxRecDepth 100000 in
theorem mnF_ok0 : ∀ c, c < 49 → ∀ k, k < 97 → 0 < k → mnF c k &&& 0x7fffffffffffffff ≤ 0x7ff0000000000000 := by decide +kernel
theorem shF_ok {c k : Nat} (h1 : c ≤ 96) (h2 : k ≤ 48) (h3 : 0 < k) : vf_n32 (FP.fdiv (FP.i2f (nI c)) (FP.i2f (nI k))) := shF_ok0 c (by omega) k (by omega) h3
theorem mnF_ok {c k : Nat} (h1 : c ≤ 48) (h2 : k ≤ 96) (h3 : 0 < k) : vf_n64 (FP.ddiv (FP.i2d (nI c)) (FP.i2d (nI k))) := mnF_ok0 c (by omega) k (by omega) h3
section GU
variable {p : Program} {l : Launch} {e : Env} {R : Room} {s : State} {m : MethodId} {args : Array Value} {below : List Frame} {meth : Method} {c : Code} {H : Heap} {locs : List Loc} {cells slots : Nat} {Q : State → Prop}
variable {cc : ByteArray} {pc : Nat} {ls : Array Slot} {rest st0 : List Value} {A : Nat → Prop} {t N : Nat} {f : Nat → Value}
theorem g_ti (hx : p.tables.exec = Jvm.exec) (hb : c.code = cc) (hT : va_T .int t N f A s s.heap) (hS : va_S A s.heap H locs) {j v : Nat} (hj : j < N) (hN : N < 2 ^ 31) (hv : f j = .int (nI v)) (hdg : decode cc pc = .ok (.iaload, 1))
    (kk : W p l e R s m args below meth c H locs cells slots Q (F0 m (pc + 1) ls (.int (nI v) :: rest))) : W p l e R s m args below meth c H locs cells slots Q (F0 m pc ls (.int (nI j) :: .ref t :: rest)) :=
  va_ti hx hb hT hS (vp_in_nI hj hN) (by rw [nI_clamp (by omega)]; exact hv) hdg kk
end GU
