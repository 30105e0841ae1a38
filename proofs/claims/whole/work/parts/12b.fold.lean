def fnx (f : Nat → Int64) (hc : Nat) (z : Int64) (k : Nat) : Int64 := if hc = 115 then z + f k else if hc = 120 then z ^^^ f k else if hc = 104 then 31 * z + f k else if z < 0 then lN k else if f z.toInt.toNat < f k then lN k else z
def fbn (f : Nat → Int64) (hc a : Nat) : Nat → Int64
  | 0 => if hc = 102 then -1 else 0
  | i + 1 => fnx f hc (fbn f hc a i) (a + i)
def p31 : Nat → Int64
  | 0 => 1
  | n + 1 => p31 n * 31
def fgp (f : Nat → Int64) (x y : Int64) : Int64 := if x < 0 ∨ y < 0 then (if y < x then x else y) else if f x.toInt.toNat < f y.toInt.toNat then y else x
def fjo (f : Nat → Int64) (hc : Nat) (x y : Int64) (k : Nat) : Int64 := if hc = 115 then x + y else if hc = 120 then x ^^^ y else if hc = 104 then x * p31 k + y else fgp f x y
def plc (cn : Nat) (z : Int64) : Prop := z = -1 ∨ ∃ t, t < cn ∧ z = lN t
theorem lN_nneg {t : Nat} (h : t < 2 ^ 31) : ¬ lN t < 0 := fun q => by
  have e : (lN 0 : Int64) = 0 := rfl
  rw [← e, lN_lt h (by decide)] at q
  omega
theorem lN_nat {t : Nat} (h : t < 2 ^ 31) : (lN t).toInt.toNat = t := by
  rw [lN_toInt h]
  exact Int.toNat_natCast t
theorem fnx_f {f : Nat → Int64} {z : Int64} {k : Nat} : fnx f 102 z k = if z < 0 then lN k else if f z.toInt.toNat < f k then lN k else z := by
  unfold fnx
  rw [if_neg (by decide), if_neg (by decide), if_neg (by decide)]
theorem fb_f {f : Nat → Int64} {a : Nat} : ∀ i, a + i ≤ 48 → (i = 0 ∧ fbn f 102 a i = -1) ∨ (0 < i ∧ ∃ t, a ≤ t ∧ t < a + i ∧ fbn f 102 a i = lN t)
  | 0, _ => Or.inl ⟨rfl, if_pos rfl⟩
  | i + 1, h => by
    refine Or.inr ⟨Nat.succ_pos i, ?_⟩
    show ∃ t, a ≤ t ∧ t < a + (i + 1) ∧ fnx f 102 (fbn f 102 a i) (a + i) = lN t
    rw [fnx_f]
    split
    · exact ⟨a + i, by omega, by omega, rfl⟩
    split
    · exact ⟨a + i, by omega, by omega, rfl⟩
    · rename_i h1 h2
      rcases fb_f (f := f) (a := a) i (by omega) with ⟨_, e⟩ | ⟨_, t, h3, h4, e⟩
      · rw [e] at h1
        exact absurd (by decide) h1
      · exact ⟨t, h3, by omega, e⟩
theorem fgp_ff {f : Nat → Int64} {t u : Nat} (ht : t < 48) (hu : u < 48) : fgp f (lN t) (lN u) = if f t < f u then lN u else lN t := by
  unfold fgp
  rw [if_neg (fun q => q.elim (lN_nneg (by omega)) (lN_nneg (by omega))), lN_nat (by omega), lN_nat (by omega)]
theorem fgp_m1 {f : Nat → Int64} {y : Int64} (h : y = -1 ∨ ∃ t, t < 48 ∧ y = lN t) : fgp f (-1) y = y ∧ fgp f y (-1) = y := by
  rcases h with rfl | ⟨t, ht, rfl⟩
  · exact ⟨rfl, rfl⟩
  · have h1 : ¬ lN t < -1 := fun q => lN_nneg (t := t) (by omega) (Int64.lt_trans q (by decide))
    have h2 : -1 < lN t := by
      rcases Int64.lt_or_le (-1) (lN t) with q | q
      · exact q
      · exact absurd (Int64.lt_of_le_of_lt q (by decide)) (lN_nneg (t := t) (by omega))
    refine ⟨?_, ?_⟩
    · unfold fgp
      rw [if_pos (Or.inl (by decide)), if_neg h1]
    · unfold fgp
      rw [if_pos (Or.inr (by decide)), if_pos h2]
theorem fbn_join {f : Nat → Int64} {hc : Nat} (hh : hc = 115 ∨ hc = 120 ∨ hc = 104 ∨ hc = 102) {a m : Nat} : ∀ k, a + m + k ≤ 48 → fjo f hc (fbn f hc a m) (fbn f hc (a + m) k) k = fbn f hc a (m + k)
  | 0, h => by
    rcases hh with rfl | rfl | rfl | rfl
    · show fjo f 115 _ (if (115 : Nat) = 102 then -1 else 0) 0 = _
      unfold fjo
      rw [if_pos rfl, if_neg (by decide)]
      exact Int64.add_zero _
    · show fjo f 120 _ (if (120 : Nat) = 102 then -1 else 0) 0 = _
      unfold fjo
      rw [if_neg (by decide), if_pos rfl, if_neg (by decide)]
      exact Int64.xor_zero
    · show fjo f 104 _ (if (104 : Nat) = 102 then -1 else 0) 0 = _
      unfold fjo
      rw [if_neg (by decide), if_neg (by decide), if_pos rfl, if_neg (by decide)]
      show _ * 1 + 0 = _
      rw [Int64.mul_one, Int64.add_zero]
      rfl
    · show fjo f 102 _ (if (102 : Nat) = 102 then -1 else 0) 0 = _
      unfold fjo
      rw [if_neg (by decide), if_neg (by decide), if_neg (by decide), if_pos rfl]
      refine (fgp_m1 ?_).2
      rcases fb_f (f := f) (a := a) m (by omega) with ⟨_, e⟩ | ⟨_, t, _, h4, e⟩
      · exact Or.inl e
      · exact Or.inr ⟨t, by omega, e⟩
  | k + 1, h => by
    have ih := fbn_join (f := f) (hc := hc) hh (a := a) (m := m) k (by omega)
    show fjo f hc (fbn f hc a m) (fnx f hc (fbn f hc (a + m) k) (a + m + k)) (k + 1) = fnx f hc (fbn f hc a (m + k)) (a + (m + k))
    rw [← Nat.add_assoc, ← ih]
    rcases hh with rfl | rfl | rfl | rfl
    · unfold fjo fnx
      rw [if_pos rfl, if_pos rfl, if_pos rfl, if_pos rfl, Int64.add_assoc]
    · unfold fjo fnx
      rw [if_neg (by decide), if_pos rfl, if_neg (by decide), if_pos rfl, if_neg (by decide), if_pos rfl, if_neg (by decide), if_pos rfl, Int64.xor_assoc]
    · unfold fjo fnx
      rw [if_neg (by decide), if_neg (by decide), if_pos rfl, if_neg (by decide), if_neg (by decide), if_pos rfl, if_neg (by decide), if_neg (by decide), if_pos rfl, if_neg (by decide), if_neg (by decide), if_pos rfl]
      show fbn f 104 a m * (p31 k * 31) + (31 * fbn f 104 (a + m) k + f (a + m + k)) = 31 * (fbn f 104 a m * p31 k + fbn f 104 (a + m) k) + f (a + m + k)
      rw [Int64.mul_add, ← Int64.add_assoc, ← Int64.mul_assoc, Int64.mul_comm (fbn f 104 a m * p31 k) 31]
    · have e0 : ∀ x y n, fjo f 102 x y n = fgp f x y := fun x y n => by
        unfold fjo
        rw [if_neg (by decide), if_neg (by decide), if_neg (by decide)]
      rw [e0, e0, fnx_f, fnx_f]
      rcases fb_f (f := f) (a := a) m (by omega) with ⟨_, eA⟩ | ⟨_, t, _, h4, eA⟩
      · rw [eA]
        rcases fb_f (f := f) (a := a + m) k (by omega) with ⟨_, eB⟩ | ⟨_, u, _, h5, eB⟩
        · rw [eB, if_pos (by decide), (fgp_m1 (Or.inl rfl)).1, if_pos (by decide), (fgp_m1 (Or.inr ⟨_, by omega, rfl⟩)).1]
        · rw [eB, (fgp_m1 (Or.inr ⟨u, by omega, rfl⟩)).1, if_neg (lN_nneg (by omega)), lN_nat (by omega)]
          split
          · exact (fgp_m1 (Or.inr ⟨_, by omega, rfl⟩)).1
          · exact (fgp_m1 (Or.inr ⟨_, by omega, rfl⟩)).1
      · rw [eA]
        rcases fb_f (f := f) (a := a + m) k (by omega) with ⟨_, eB⟩ | ⟨_, u, _, h5, eB⟩
        · rw [eB, if_pos (by decide), (fgp_m1 (Or.inr ⟨t, by omega, rfl⟩)).2, if_neg (lN_nneg (by omega)), lN_nat (by omega), fgp_ff (by omega) (by omega)]
        · rw [eB, if_neg (lN_nneg (by omega)), lN_nat (by omega), fgp_ff (by omega) (by omega)]
          by_cases h1 : f u < f (a + m + k)
          · rw [if_pos h1, fgp_ff (by omega) (by omega)]
            by_cases h2 : f t < f u
            · rw [if_pos h2, if_neg (lN_nneg (by omega)), lN_nat (by omega), if_pos h1, if_pos (Int64.lt_trans h2 h1)]
            · rw [if_neg h2, if_neg (lN_nneg (by omega)), lN_nat (by omega)]
          · rw [if_neg h1, fgp_ff (by omega) (by omega)]
            by_cases h2 : f t < f u
            · rw [if_pos h2, if_neg (lN_nneg (by omega)), lN_nat (by omega), if_neg h1]
            · rw [if_neg h2, if_neg (lN_nneg (by omega)), lN_nat (by omega), if_neg (fun q => h1 (Int64.lt_of_le_of_lt (Int64.not_lt.mp h2) q))]
theorem fb_plc {f : Nat → Int64} {a i cn : Nat} (h : a + i ≤ cn) (hc : cn ≤ 48) : plc cn (fbn f 102 a i) := by
  rcases fb_f (f := f) (a := a) i (by omega) with ⟨_, e⟩ | ⟨_, t, _, h4, e⟩
  · exact Or.inl e
  · exact Or.inr ⟨t, by omega, e⟩
def pcs (most : Nat) : Nat → Nat → Nat
  | 0, _ => 1
  | g + 1, k => if k ≤ most then 1 else pcs most g (k / 2) + pcs most g (k - k / 2)
theorem pcs_pos (most : Nat) : ∀ g k, 0 < pcs most g k
  | 0, _ => Nat.one_pos
  | g + 1, k => by
    show 0 < (if k ≤ most then 1 else _)
    split
    · exact Nat.one_pos
    · exact Nat.add_pos_left (pcs_pos most g _) _
theorem pcs_stable {most : Nat} (hm : 0 < most) : ∀ g k, k ≤ 2 ^ g → pcs most (g + 1) k = pcs most g k
  | 0, k, h => if_pos (by omega)
  | g + 1, k, h => by
    rw [Nat.pow_succ] at h
    show (if k ≤ most then 1 else pcs most (g + 1) (k / 2) + pcs most (g + 1) (k - k / 2)) = if k ≤ most then 1 else pcs most g (k / 2) + pcs most g (k - k / 2)
    split
    · rfl
    · rw [pcs_stable hm g _ (by omega), pcs_stable hm g _ (by omega)]
theorem pcs_le (most : Nat) (hm : 0 < most) : ∀ g k, 0 < k → pcs most g k ≤ k
  | 0, k, h => h
  | g + 1, k, h => by
    show (if k ≤ most then 1 else _) ≤ _
    split
    · exact h
    · have h1 := pcs_le most hm g (k / 2) (by omega)
      have h2 := pcs_le most hm g (k - k / 2) (by omega)
      omega
def twt (most : Nat) (L : Nat → Nat) (i : Nat) : Nat → Nat
  | 0 => 0
  | k + 1 => twt most L i k + pcs most 8 (L (i + k))
theorem twt_ge (most : Nat) (L : Nat → Nat) (i : Nat) : ∀ k, k ≤ twt most L i k
  | 0 => Nat.le_refl 0
  | k + 1 => by
    have h1 := twt_ge most L i k
    have h2 := pcs_pos most 8 (L (i + k))
    show k + 1 ≤ twt most L i k + _
    omega
theorem twt_front (most : Nat) (L : Nat → Nat) (i : Nat) : ∀ k, twt most L i (k + 1) = pcs most 8 (L i) + twt most L (i + 1) k
  | 0 => by
    show 0 + _ = _ + 0
    rw [Nat.add_zero, Nat.zero_add]
    rfl
  | k + 1 => by
    show twt most L i (k + 1) + pcs most 8 (L (i + (k + 1))) = _ + (twt most L (i + 1) k + pcs most 8 (L (i + 1 + k)))
    rw [twt_front most L i k, show i + 1 + k = i + (k + 1) by omega]
    omega
theorem twt_cong {most : Nat} {L M : Nat → Nat} {i j : Nat} : ∀ k, (∀ t, t < k → L (i + t) = M (j + t)) → twt most L i k = twt most M j k
  | 0, _ => rfl
  | k + 1, h => by
    show twt most L i k + _ = twt most M j k + _
    rw [twt_cong k (fun t ht => h t (by omega)), h k (by omega)]
theorem crum_cnt {most : Nat} (hm : 0 < most) : ∀ (f i k : Nat) (K L : Nat → Nat), (∀ j, K j = 112) → (∀ j, L j ≤ 48) → 2 * twt most L i k ≤ f + k → (crum most f i (i + k) K L).1 = i + twt most L i k
  | f, i, 0, K, L, _, _, _ => by
    rw [crum_end (by omega)]
    rfl
  | 0, i, k + 1, K, L, _, _, h => by
    have := twt_ge most L i (k + 1)
    omega
  | f + 1, i, k + 1, K, L, hK, hL, h => by
    have hfr := twt_front most L i k
    have hge := twt_ge most L (i + 1) k
    by_cases hb : most < L i
    · rw [crum_split (Nat.succ_pos _) (by omega) ⟨hK i, hb⟩]
      have e8 : pcs most 8 (L i) = pcs most 8 (L i / 2) + pcs most 8 (L i - L i / 2) := by
        have h48 := hL i
        show (if L i ≤ most then 1 else pcs most 7 (L i / 2) + pcs most 7 (L i - L i / 2)) = _
        rw [if_neg (by omega), pcs_stable hm 7 _ (show L i / 2 ≤ 128 by omega), pcs_stable hm 7 _ (show L i - L i / 2 ≤ 128 by omega)]
      have et : twt most (insN (va_up L i (L i - L i / 2)) i 1 (L i / 2)) i (k + 1 + 1) = twt most L i (k + 1) := by
        have e5 : twt most (insN (va_up L i (L i - L i / 2)) i 1 (L i / 2)) (i + 1 + 1) k = twt most L (i + 1) k := twt_cong k (fun t ht => by
          rw [insN_hi (by omega), va_up_ne _ _ (by omega)]
          congr 1
          omega)
        rw [twt_front, twt_front, e5, insN_in (Nat.le_refl _) (by omega), insN_hi (Nat.le_refl _), Nat.add_sub_cancel, va_up_self, hfr, e8]
        omega
      have ih := crum_cnt hm f i (k + 1 + 1) (insN K i 1 112) (insN (va_up L i (L i - L i / 2)) i 1 (L i / 2)) (fun j => by unfold insN; split; exact hK _; split; rfl; exact hK _) (fun j => by
        have h48 := hL i
        unfold insN
        split
        · by_cases e : j = i
          · subst e; rw [va_up_self]; omega
          · rw [va_up_ne _ _ e]; exact hL _
        split
        · omega
        · by_cases e : j - 1 = i
          · rw [e, va_up_self]; omega
          · rw [va_up_ne _ _ e]; exact hL _) (by rw [et]; omega)
      rw [et] at ih
      exact ih
    · rw [crum_next (Nat.succ_pos _) (by omega) (fun q => hb q.2)]
      have e1 : pcs most 8 (L i) = 1 := if_pos (by omega)
      rw [e1] at hfr
      have ih := crum_cnt hm f (i + 1) k K L hK hL (by omega)
      show (crum most f (i + 1) (i + (k + 1)) K L).1 = _
      rw [show i + (k + 1) = i + 1 + k by omega, ih, hfr]
      omega
theorem crum_one {most s : Nat} (hm : 0 < most) (hs : s ≤ 48) : (crum most 300 0 1 (fun _ => 112) (fun _ => s)).1 = pcs most 8 s := by
  have hle : pcs most 8 s ≤ 48 := by
    rcases Nat.eq_zero_or_pos s with q | q
    · have e : pcs most 8 s = 1 := if_pos (by omega)
      omega
    · have := pcs_le most hm 8 s q
      omega
  have e1 : twt most (fun _ => s) 0 1 = pcs most 8 s := Nat.zero_add _
  have h := crum_cnt hm 300 0 1 (fun _ => 112) (fun _ => s) (fun _ => rfl) (fun _ => hs) (by rw [e1]; omega)
  rw [e1, Nat.zero_add, Nat.zero_add] at h
  exact h
