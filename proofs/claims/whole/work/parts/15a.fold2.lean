def rmF (g : Nat) : Room := { frames := 10 + g, cells := 0, slots := 0, locals := 200 + 40 * g }
theorem fbn_join2 {f : Nat → Int64} {hc : Nat} (hh : hc = 115 ∨ hc = 120 ∨ hc = 104 ∨ hc = 102) {a mid b : Nat} (h1 : a ≤ mid) (h2 : mid ≤ b) (hb : b ≤ 48) : fjo f hc (fbn f hc a (mid - a)) (fbn f hc mid (b - mid)) (b - mid) = fbn f hc a (b - a) := by
  obtain ⟨m, rfl⟩ : ∃ m, mid = a + m := ⟨mid - a, by omega⟩
  obtain ⟨k, rfl⟩ : ∃ k, b = a + m + k := ⟨b - (a + m), by omega⟩
  rw [show a + m - a = m by omega, show a + m + k - (a + m) = k by omega, show a + m + k - a = m + k by omega]
  exact fbn_join hh k hb
theorem hwx_lt {hc : Nat} (h : hwx hc ≠ 4) : hc = 115 ∨ hc = 120 ∨ hc = 104 ∨ hc = 102 := by
  unfold hwx at h
  by_cases h1 : hc = 115
  · exact Or.inl h1
  rw [if_neg h1] at h
  by_cases h2 : hc = 120
  · exact Or.inr (Or.inl h2)
  rw [if_neg h2] at h
  by_cases h3 : hc = 104
  · exact Or.inr (Or.inr (Or.inl h3))
  rw [if_neg h3] at h
  by_cases h4 : hc = 102
  · exact Or.inr (Or.inr (Or.inr h4))
  rw [if_neg h4] at h
  exact absurd rfl h
theorem hwx_le (hc : Nat) : hwx hc ≤ 4 := by
  unfold hwx
  split
  · omega
  split
  · omega
  split
  · omega
  split <;> omega
theorem pcs_le48 (most : Nat) (hm : 0 < most) (g k : Nat) : k ≤ 48 → pcs most g k ≤ 48 := fun hk => by
  rcases Nat.eq_zero_or_pos k with q | q
  · cases g with
    | zero => exact (by decide : 1 ≤ 48)
    | succ g =>
      show (if k ≤ most then 1 else _) ≤ 48
      rw [if_pos (by omega)]
      decide
  · have := pcs_le most hm g k q
    omega
