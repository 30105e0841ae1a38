def onI (σ : TY) (x y : Int32) (P : Nat → Nat → Prop) : Prop := ∃ b i, b < 6 ∧ x = nI b ∧ i < (σ.2 b).2.1 ∧ y = nI i ∧ P b i
def onB (x : Int32) (P : Nat → Prop) : Prop := ∃ b, b < 6 ∧ x = nI b ∧ P b
def onR (ch : Nat) (x : Int32) (P : Nat → Prop) : Prop := ∃ q j, q < 3 ∧ j < 4 ∧ kdx ch = q ∧ x = nI j ∧ P (4 * q + j)
def pxIs (σ : TY) (x y : Int32) (P : Nat → Prop) (E : String) : Prop := pxItem σ x y E ∨ onI σ x y (fun b i => P ((σ.2 b).2.2.2.2.1 i) ∧ E = xIS)
def giveB (β : TB) (i m : Nat) : TB := (β.1, β.2.1 + m, β.2.2.1, β.2.2.2.1, insN β.2.2.2.2.1 i m 110, insN (va_up β.2.2.2.2.2 i (β.2.2.2.2.2 i - m)) i m 1)
def halfB (β : TB) (i : Nat) : TB := (β.1, β.2.1 + 1, β.2.2.1, β.2.2.2.1, insN β.2.2.2.2.1 i 1 112, insN (va_up β.2.2.2.2.2 i (β.2.2.2.2.2 i - β.2.2.2.2.2 i / 2)) i 1 (β.2.2.2.2.2 i / 2))
def iterB (β : TB) (i : Nat) : TB := (β.1, β.2.1, β.2.2.1, β.2.2.2.1, va_up β.2.2.2.2.1 i 116, β.2.2.2.2.2)
def crumB (β : TB) (q : Nat) : TB := (β.1, (crum q 300 0 β.2.1 β.2.2.2.2.1 β.2.2.2.2.2).1, β.2.2.1, β.2.2.2.1, (crum q 300 0 β.2.1 β.2.2.2.2.1 β.2.2.2.2.2).2.1, (crum q 300 0 β.2.1 β.2.2.2.2.1 β.2.2.2.2.2).2.2)
def sweepB (β : TB) : TB := (β.1, swk β.2.2.2.2.2 β.2.1, β.2.2.1, β.2.2.2.1, swF β.2.2.2.2.1 β.2.2.2.2.2 β.2.1, swF β.2.2.2.2.2 β.2.2.2.2.2 β.2.1)
def openB (f : Nat → Int64) (a b z : Nat) : TB := (b - a, 1, z, fun j => f (a + j), fun _ => 112, fun _ => b - a)
theorem insN_0 (F : Nat → Nat) (i v : Nat) : insN F i 0 v = F := by
  funext j
  rcases Nat.lt_or_ge j i with q | q
  · exact insN_lo q
  · exact insN_hi (by omega)
theorem giveB_0 (β : TB) (i : Nat) : giveB β i 0 = β := by
  obtain ⟨a, b, c, d, K, L⟩ := β
  show (a, b + 0, c, d, insN K i 0 110, insN (va_up L i (L i - 0)) i 0 1) = _
  rw [insN_0, insN_0, up_same (by rw [Nat.sub_zero])]
  rfl
theorem setB_same (σ : TY) (b : Nat) : setB σ b (σ.2 b) = σ := by
  obtain ⟨x, y⟩ := σ
  show (x, va_up y b (y b)) = _
  rw [up_same rfl]
theorem BIt_give {β : TB} {i m : Nat} (h : BIt β) (hi : i < β.2.1) (hk : β.2.2.2.2.1 i ≠ 110) (hm : m ≤ β.2.2.2.2.2 i) : BIt (giveB β i m) := ⟨BI_give h.1 hi hk hm, h.2⟩
theorem BIt_half {β : TB} {i : Nat} (h : BIt β) (hi : i < β.2.1) (hk : β.2.2.2.2.1 i = 112) (hm : 2 ≤ β.2.2.2.2.2 i) : BIt (halfB β i) := ⟨BI_half h.1 hi hk hm, h.2⟩
theorem BIt_sweep {β : TB} (h : BIt β) : BIt (sweepB β) := ⟨BI_sweep h.1, h.2⟩
theorem BIt_crum {β : TB} {q : Nat} (h : BIt β) (hq : 0 < q) : BIt (crumB β q) := ⟨crum_BI hq _ _ _ _ _ h.1, h.2⟩
theorem BI_iter {sz cn : Nat} {K L : Nat → Nat} (h : BI sz cn K L) {i : Nat} (hk : K i = 112) : BI sz cn (va_up K i 116) L := by
  obtain ⟨h1, h2, h3, h4, h5⟩ := h
  refine ⟨h1, h2, fun j hj => ?_, h4, fun hs j hj a b => ?_⟩
  · by_cases e : j = i
    · subst e
      rw [va_up_self]
      exact ⟨Or.inr (Or.inr rfl), fun z => absurd z (by decide)⟩
    · rw [va_up_ne _ _ e]
      exact h3 j hj
  · have hk2 : K j ≠ 110 := by
      by_cases e : j = i
      · subst e; omega
      · rw [va_up_ne _ _ e] at a; exact a
    obtain ⟨c, d⟩ := h5 hs j hj hk2 b
    refine ⟨c, ?_⟩
    rw [va_up_ne _ _ (by intro e; rw [e] at d; omega)]
    exact d
theorem BIt_iter {β : TB} {i : Nat} (h : BIt β) (hk : β.2.2.2.2.1 i = 112) : BIt (iterB β i) := ⟨BI_iter h.1 hk, h.2⟩
theorem BI_open {s : Nat} (h : s ≤ 48) : BI s 1 (fun _ => 112) (fun _ => s) := by
  refine ⟨h, ?_, fun i hi => ⟨Or.inr (Or.inl rfl), fun q => absurd (show (112 : Nat) = 110 from q) (by decide)⟩, fun _ => Nat.le_refl 1, fun hs i hi _ q => absurd (show s = 0 from q) (by omega)⟩
  show 0 + s = s
  omega
theorem BIt_open {f : Nat → Int64} {a b z : Nat} (hz : z ≤ 1) (hb : b ≤ 48) : BIt (openB f a b z) := ⟨BI_open (show b - a ≤ 48 by omega), hz⟩
theorem BL_iter {sz cn : Nat} {pt : Nat → Int64} {K L : Nat → Nat} {p : Nat → Int64} {w : Nat → Nat} {nu : Nat → Int64} {ne en : Nat → Nat} (h : BL sz cn pt K L p w nu ne en) {i : Nat} (hi : i < cn) (hk : K i = 112) : BL sz cn pt (va_up K i 116) L p (va_up w i 116) nu ne en := by
  refine ⟨h.1, fun j hj => ?_⟩
  by_cases e : j = i
  · subst e
    rw [va_up_self, va_up_self]
    obtain ⟨h1, h2, h3⟩ := h.2 j hj
    exact ⟨rfl, fun z => absurd z (by decide), fun _ => h3 (by omega)⟩
  · rw [va_up_ne _ _ e, va_up_ne _ _ e]
    exact h.2 j hj
theorem i2c_nI {n : Nat} (h : n < 65536) : ((nI n).toUInt32 % 65536).toInt32 = nI n := by
  rw [pk_char, pk_tn (by omega), Nat.mod_eq_of_lt h]
def nmOK (ch : Nat) (z : Int64) : Prop := ch = 108 ∨ z = z.toInt32.toInt64
def mBad (y : Int32) : Prop := y < nI 1 ∨ nI 48 < y
def lz (a b : Int64) : Nat → Int64
  | 0 => a
  | i + 1 => lz a b i + b
def layF (ch : Nat) (a b : Int64) (i : Nat) : Int64 := if ch = 108 then lz a b i else (lz a b i).toInt32.toInt64
def chx (ch : Nat) : Nat := if ch = 97 then 17488 else if ch = 105 then 1024 else if ch = 111 then 16 else if ch = 115 then 64 else if ch = 117 then 16384 else 0
theorem chx_ok (ch : Nat) : chx ch < 65536 ∧ nI 17488 &&& nI (chx ch) = nI (chx ch) := by
  unfold chx
  split
  · decide
  split
  · decide
  split
  · decide
  split
  · decide
  split
  · decide
  · decide
theorem most_ix {y : Int32} (h1 : ¬ y < nI 1) (h2 : y ≤ nI 48) : ∃ q, 1 ≤ q ∧ q ≤ 48 ∧ y = nI q := by
  rcases pk_ix y (n := 49) (by decide) with h | h | ⟨j, hj, rfl⟩
  · exact absurd (Int32.lt_of_lt_of_le h (by decide)) h1
  · exact absurd (Int32.le_trans h h2) (by decide)
  · refine ⟨j, ?_, by omega, rfl⟩
    rcases Nat.lt_or_ge j 1 with q | q
    · exact absurd (nI_lt q (by decide)) h1
    · exact q
theorem cnt_ix {y : Int32} {N : Nat} (hN : N < 2 ^ 31 - 1) (h1 : ¬ y < 0) (h2 : y ≤ nI N) : ∃ q, q ≤ N ∧ y = nI q := by
  rcases pk_ix y (n := N + 1) (by omega) with h | h | ⟨j, hj, rfl⟩
  · exact absurd h h1
  · exact absurd (Int32.le_trans h h2) (nI_ge (by omega) (by omega))
  · exact ⟨j, by omega, rfl⟩
theorem part_ix {u z : Int32} {N : Nat} (hN : N < 2 ^ 31 - 1) (h1 : ¬ u < 0) (h2 : ¬ z < u) (h3 : z ≤ nI N) : ∃ a t, a ≤ t ∧ t ≤ N ∧ u = nI a ∧ z = nI t := by
  have h4 : u ≤ z := Int32.not_lt.mp h2
  have h5 : ¬ z < 0 := fun h => h1 (Int32.lt_of_le_of_lt h4 h)
  obtain ⟨t, ht, rfl⟩ := cnt_ix hN h5 h3
  obtain ⟨a, ha, rfl⟩ := cnt_ix (by omega) h1 h4
  exact ⟨a, t, ha, ht, rfl, rfl⟩
def pxOpen (σ : TY) (x : Int32) (ch : Nat) (y u z : Int32) (E : String) : Prop := (kdx ch = 3 ∧ E = xIA) ∨ (kdx ch < 3 ∧ E = xIO ∧ ((y < 0 ∨ nI 4 ≤ y) ∨ (x < 0 ∨ nI 6 ≤ x) ∨ onR ch y (fun r => u < 0 ∨ z < u ∨ nI (σ.1 r).1 < z)))
def pxOpenA (x : Int32) (ch : Nat) (y : Int32) (E : String) : Prop := (kdx ch = 3 ∧ E = xIA) ∨ (kdx ch < 3 ∧ E = xIO ∧ ((y < 0 ∨ nI 4 ≤ y) ∨ (x < 0 ∨ nI 6 ≤ x)))
def isO (ch : Nat) : Nat := if ch = 111 then 1 else 0
theorem lk_def (ch : Nat) (h1 : ¬ ch = 97) (h2 : ¬ ch = 105) (h3 : ¬ ch = 111) (h4 : ¬ ch = 115) (h5 : ¬ ch = 117) : Op.lookupswitch.offset (#[(97, 65), (105, 61), (111, 51), (115, 54), (117, 57)] : Array (Int × Int)).toList 69 (ch : Int) = 69 := by
  have g1 : ¬ (97 : Int) = ch := by omega
  have g2 : ¬ (105 : Int) = ch := by omega
  have g3 : ¬ (111 : Int) = ch := by omega
  have g4 : ¬ (115 : Int) = ch := by omega
  have g5 : ¬ (117 : Int) = ch := by omega
  simp [Op.lookupswitch.offset, List.find?, g1, g2, g3, g4, g5]
