theorem nar_bool {z : Nat} (hz : z ≤ 1) : narrow .boolean (.int (nI z)) = .int (nI z) ∧ fits .boolean (.int (nI z)) = true := by
  rcases (show z = 0 ∨ z = 1 by omega) with rfl | rfl
  · exact ⟨rfl, rfl⟩
  · exact ⟨rfl, rfl⟩
