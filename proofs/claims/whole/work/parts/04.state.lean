def RB (cT : Nat → ClassId) (ad : Nat → Nat) (G : Nat → va_E) (k sz cn bx : Nat) (pt : Nat → Int64) (w : Nat → Nat) (nu : Nat → Int64) (ne en : Nat → Nat) : Prop :=
  G k = .inr (2, [.ref (ad (k + 1)), .int (nI sz), .int (nI bx), .ref (ad (k + 2)), .ref (ad (k + 3)), .ref (ad (k + 4)), .ref (ad (k + 5)), .int (nI cn)]) ∧ G (k + 1) = aJ cT 48 pt ∧ G (k + 2) = aI cT 96 w ∧ G (k + 3) = aJ cT 96 nu ∧ G (k + 4) = aI cT 96 ne ∧ G (k + 5) = aI cT 96 en ∧ (∀ j, w j < 2 ^ 31) ∧ (∀ j, ne j < 2 ^ 31) ∧ (∀ j, en j < 2 ^ 31)
def RR (cT : Nat → ClassId) (ad : Nat → Nat) (G : Nat → va_E) (k cn : Nat) (f : Nat → Int64) : Prop :=
  G k = .inr (3, [.ref (ad (k + 1)), .int (nI cn)]) ∧ G (k + 1) = aJ cT 48 f
theorem RB.keep {cT : Nat → ClassId} {ad : Nat → Nat} {G G' : Nat → va_E} {k sz cn bx : Nat} {pt : Nat → Int64} {w : Nat → Nat} {nu : Nat → Int64} {ne en : Nat → Nat} (h : RB cT ad G k sz cn bx pt w nu ne en) (hG : ∀ j, k ≤ j → j < k + 6 → G' j = G j) : RB cT ad G' k sz cn bx pt w nu ne en := by
  obtain ⟨h1, h2, h3, h4, h5, h6, h7⟩ := h
  exact ⟨(hG _ (by omega) (by omega)).trans h1, (hG _ (by omega) (by omega)).trans h2, (hG _ (by omega) (by omega)).trans h3, (hG _ (by omega) (by omega)).trans h4, (hG _ (by omega) (by omega)).trans h5, (hG _ (by omega) (by omega)).trans h6, h7⟩
theorem RR.keep {cT : Nat → ClassId} {ad : Nat → Nat} {G G' : Nat → va_E} {k cn : Nat} {f : Nat → Int64} (h : RR cT ad G k cn f) (hG : ∀ j, k ≤ j → j < k + 2 → G' j = G j) : RR cT ad G' k cn f := by
  obtain ⟨h1, h2⟩ := h
  exact ⟨(hG _ (by omega) (by omega)).trans h1, (hG _ (by omega) (by omega)).trans h2⟩
theorem up_lt {N : Nat} {w : Nat → Nat} {i v : Nat} (h : ∀ j, w j < N) (hv : v < N) : ∀ j, va_up w i v j < N := fun j => by
  by_cases q : j = i
  · subst q; rw [va_up_self]; exact hv
  · rw [va_up_ne _ _ q]; exact h j
theorem cpy_lt {N : Nat} {w : Nat → Nat} {sp dp k : Nat} (h : ∀ j, w j < N) : ∀ j, va_cpy w w sp dp k j < N := fun j => by
  unfold va_cpy
  split
  · exact h _
  · exact h _
theorem and0 (x : Int32) : nI 0 &&& x = nI 0 := by
  rw [show nI 0 = 0 from rfl]
  exact Int32.zero_and
def rsum (f : Nat → Int64) (a : Int64) : Nat → Int64
  | 0 => a
  | i + 1 => 31 * rsum f a i + f i
def revP (f : Nat → Int64) (cn i : Nat) : Nat → Int64 := fun j => if j < i ∨ (cn - i ≤ j ∧ j < cn) then f (cn - 1 - j) else f j
def revA (f : Nat → Int64) (cn : Nat) : Nat → Int64 := fun j => if j < cn then f (cn - 1 - j) else f j
theorem revP_0 (f : Nat → Int64) (cn : Nat) : revP f cn 0 = f := by
  funext j
  unfold revP
  rw [if_neg (by omega)]
theorem revP_end (f : Nat → Int64) (cn : Nat) : revP f cn (cn / 2) = revA f cn := by
  funext j
  unfold revP revA
  by_cases h : j < cn
  · rw [if_pos h]
    by_cases h2 : j < cn / 2 ∨ (cn - cn / 2 ≤ j ∧ j < cn)
    · rw [if_pos h2]
    · rw [if_neg h2, show cn - 1 - j = j by omega]
  · rw [if_neg h, if_neg (by omega)]
theorem revP_step {f : Nat → Int64} {cn i : Nat} (h : i < cn / 2) : va_up (va_up (revP f cn i) i (revP f cn i (cn - 1 - i))) (cn - 1 - i) (revP f cn i i) = revP f cn (i + 1) := by
  funext j
  by_cases h1 : j = cn - 1 - i
  · subst h1
    rw [va_up_self]
    unfold revP
    rw [if_neg (by omega), if_pos (by omega), show cn - 1 - (cn - 1 - i) = i by omega]
  · rw [va_up_ne _ _ h1]
    by_cases h2 : j = i
    · subst h2
      rw [va_up_self]
      unfold revP
      rw [if_neg (by omega), if_pos (by omega)]
    · rw [va_up_ne _ _ h2]
      unfold revP
      by_cases h3 : j < i ∨ (cn - i ≤ j ∧ j < cn)
      · rw [if_pos h3, if_pos (by omega)]
      · rw [if_neg h3, if_neg (by omega)]
