def q3 (ad : Nat → Nat) : Nat → Option Nat := fun i => if i < 3 then some (ad (71 + 5 * i)) else none
def q4 (ad : Nat → Nat) (q : Nat) : Nat → Option Nat := fun i => if i < 4 then some (ad (72 + 5 * q + i)) else none
def qS (ad : Nat → Nat) : Nat → Option Nat := fun i => if i < 3 then some (ad (87 + i)) else none
def qP (ad : Nat → Nat) : Nat → Option Nat := fun i => if i < 6 then some (ad (91 + i)) else none
def qK (ad : Nat → Nat) : Nat → Option Nat := fun i => if i < 6 then some (ad (100 + i)) else none
def qL (ad : Nat → Nat) : Nat → Option Nat := fun i => if i < 6 then some (ad (107 + i)) else none
theorem q3_at {ad : Nat → Nat} {j : Nat} (h : j < 3) : q3 ad j = some (ad (71 + 5 * j)) := if_pos h
theorem q4_at {ad : Nat → Nat} {q j : Nat} (h : j < 4) : q4 ad q j = some (ad (72 + 5 * q + j)) := if_pos h
theorem qS_at {ad : Nat → Nat} {j : Nat} (h : j < 3) : qS ad j = some (ad (87 + j)) := if_pos h
theorem qP_at {ad : Nat → Nat} {j : Nat} (h : j < 6) : qP ad j = some (ad (91 + j)) := if_pos h
theorem qK_at {ad : Nat → Nat} {j : Nat} (h : j < 6) : qK ad j = some (ad (100 + j)) := if_pos h
theorem qL_at {ad : Nat → Nat} {j : Nat} (h : j < 6) : qL ad j = some (ad (107 + j)) := if_pos h
def mO (ad : Nat → Nat) (th : Nat) : va_E := .inr (5, [.ref (ad 70), .ref (ad 86), .ref (ad 90), .ref (ad 97), .ref (ad 98), .ref (ad 99), .ref (ad 106), .ref (ad 113), .int (nI th)])
def MC (cT : Nat → ClassId) (ad : Nat → Nat) (G : Nat → va_E) (th : Nat) (rf : Nat → Nat → Nat → Int64) (sf : Nat → Nat → Nat) (pf : Nat → Nat → Int64) (zf xf : Nat → Nat) (kf lf : Nat → Nat → Nat) (mf : Nat → Nat) : Prop :=
  G 69 = mO ad th ∧ G 70 = aQ (cT 10) 3 (q3 ad) ∧ (∀ q, q < 3 → G (71 + 5 * q) = aQ (cT 7) 4 (q4 ad q)) ∧ (∀ q, q < 3 → ∀ ro, ro < 4 → G (72 + 5 * q + ro) = aJ cT 48 (rf q ro)) ∧ G 86 = aQ (cT 8) 3 (qS ad) ∧ (∀ q, q < 3 → G (87 + q) = aI cT 4 (sf q)) ∧ G 90 = aQ (cT 7) 6 (qP ad) ∧ (∀ b, b < 6 → G (91 + b) = aJ cT 48 (pf b)) ∧ G 97 = aI cT 6 zf ∧ G 98 = aZ cT 6 xf ∧ G 99 = aQ (cT 9) 6 (qK ad) ∧ (∀ b, b < 6 → G (100 + b) = aC cT 128 (kf b)) ∧ G 106 = aQ (cT 8) 6 (qL ad) ∧ (∀ b, b < 6 → G (107 + b) = aI cT 128 (lf b)) ∧ G 113 = aI cT 6 mf ∧ (∀ b, b < 6 → ∀ j, kf b j < 65536) ∧ (∀ b, b < 6 → ∀ j, lf b j < 2 ^ 31)
def MA (σ : TY) (rf : Nat → Nat → Nat → Int64) (sf : Nat → Nat → Nat) (pf : Nat → Nat → Int64) (zf xf : Nat → Nat) (kf lf : Nat → Nat → Nat) (mf : Nat → Nat) : Prop :=
  (∀ q, q < 3 → ∀ ro, ro < 4 → sf q ro = (σ.1 (4 * q + ro)).1 ∧ ∀ k, k < (σ.1 (4 * q + ro)).1 → rf q ro k = (σ.1 (4 * q + ro)).2 k) ∧ ∀ b, b < 6 → zf b = (σ.2 b).1 ∧ mf b = (σ.2 b).2.1 ∧ xf b = (σ.2 b).2.2.1 ∧ (∀ k, k < (σ.2 b).1 → pf b k = (σ.2 b).2.2.2.1 k) ∧ ∀ k, k < (σ.2 b).2.1 → kf b k = (σ.2 b).2.2.2.2.1 k ∧ lf b k = (σ.2 b).2.2.2.2.2 k
def MW (cT : Nat → ClassId) (ad : Nat → Nat) (G : Nat → va_E) (σ : TY) (th : Nat) : Prop := ∃ (rf : Nat → Nat → Nat → Int64) (sf : Nat → Nat → Nat) (pf : Nat → Nat → Int64) (zf xf : Nat → Nat) (kf lf : Nat → Nat → Nat) (mf : Nat → Nat), MC cT ad G th rf sf pf zf xf kf lf mf ∧ MA σ rf sf pf zf xf kf lf mf
section GMW
variable {cT : Nat → ClassId} {ad : Nat → Nat} {G G' : Nat → va_E} {th th' : Nat} {σ : TY} {rf : Nat → Nat → Nat → Int64} {sf : Nat → Nat → Nat} {pf : Nat → Nat → Int64} {zf xf : Nat → Nat} {kf lf : Nat → Nat → Nat} {mf : Nat → Nat}
theorem MC.same (h : MC cT ad G th rf sf pf zf xf kf lf mf) (h0 : G' 69 = mO ad th') (hf : ∀ j, 69 ≤ j → j < 114 → j ≠ 69 → G' j = G j) : MC cT ad G' th' rf sf pf zf xf kf lf mf := by
  obtain ⟨-, a2, a3, a4, a5, a6, a7, a8, a9, b1, b2, b3, b4, b5, b6, b7, b8⟩ := h
  exact ⟨h0, (hf _ (by omega) (by omega) (by omega)).trans a2, fun q hq => (hf _ (by omega) (by omega) (by omega)).trans (a3 q hq), fun q hq r hr => (hf _ (by omega) (by omega) (by omega)).trans (a4 q hq r hr), (hf _ (by omega) (by omega) (by omega)).trans a5, fun q hq => (hf _ (by omega) (by omega) (by omega)).trans (a6 q hq), (hf _ (by omega) (by omega) (by omega)).trans a7, fun b hb => (hf _ (by omega) (by omega) (by omega)).trans (a8 b hb), (hf _ (by omega) (by omega) (by omega)).trans a9, (hf _ (by omega) (by omega) (by omega)).trans b1, (hf _ (by omega) (by omega) (by omega)).trans b2, fun b hb => (hf _ (by omega) (by omega) (by omega)).trans (b3 b hb), (hf _ (by omega) (by omega) (by omega)).trans b4, fun b hb => (hf _ (by omega) (by omega) (by omega)).trans (b5 b hb), (hf _ (by omega) (by omega) (by omega)).trans b6, b7, b8⟩
theorem MW.same (h : MC cT ad G th rf sf pf zf xf kf lf mf) (hA : MA σ rf sf pf zf xf kf lf mf) (h0 : G' 69 = mO ad th') (hf : ∀ j, 69 ≤ j → j < 114 → j ≠ 69 → G' j = G j) : MW cT ad G' σ th' := ⟨rf, sf, pf, zf, xf, kf, lf, mf, h.same h0 hf, hA⟩
theorem MW.keep (h : MW cT ad G σ th) (hf : ∀ j, 69 ≤ j → j < 114 → G' j = G j) : MW cT ad G' σ th := by
  obtain ⟨rf, sf, pf, zf, xf, kf, lf, mf, hC, hA⟩ := h
  exact MW.same hC hA ((hf _ (by omega) (by omega)).trans hC.1) (fun j a b _ => hf j a b)
theorem MW.row (h : MC cT ad G th rf sf pf zf xf kf lf mf) (hA : MA σ rf sf pf zf xf kf lf mf) {q ro : Nat} (hq : q < 3) (hro : ro < 4) {c : Nat} {f r' : Nat → Int64} {s' : Nat → Nat} (h0 : G' 69 = mO ad th') (h1 : G' (72 + 5 * q + ro) = aJ cT 48 r') (h2 : G' (87 + q) = aI cT 4 s') (hf : ∀ j, 69 ≤ j → j < 114 → j ≠ 69 → j ≠ 72 + 5 * q + ro → j ≠ 87 + q → G' j = G j) (hs : s' ro = c) (hs' : ∀ k, k ≠ ro → s' k = sf q k) (hr : ∀ k, k < c → r' k = f k) : MW cT ad G' (setR σ (4 * q + ro) (c, f)) th' := by
  obtain ⟨-, a2, a3, a4, a5, a6, a7, a8, a9, b1, b2, b3, b4, b5, b6, b7, b8⟩ := h
  refine ⟨fun i => if i = q then va_up (rf q) ro r' else rf i, va_up sf q s', pf, zf, xf, kf, lf, mf, ⟨h0, (hf _ (by omega) (by omega) (by omega) (by omega) (by omega)).trans a2, fun q hq => (hf _ (by omega) (by omega) (by omega) (by omega) (by omega)).trans (a3 q hq), fun i hi r hr9 => ?_, (hf _ (by omega) (by omega) (by omega) (by omega) (by omega)).trans a5, fun i hi => ?_, (hf _ (by omega) (by omega) (by omega) (by omega) (by omega)).trans a7, fun b hb => (hf _ (by omega) (by omega) (by omega) (by omega) (by omega)).trans (a8 b hb), (hf _ (by omega) (by omega) (by omega) (by omega) (by omega)).trans a9, (hf _ (by omega) (by omega) (by omega) (by omega) (by omega)).trans b1, (hf _ (by omega) (by omega) (by omega) (by omega) (by omega)).trans b2, fun b hb => (hf _ (by omega) (by omega) (by omega) (by omega) (by omega)).trans (b3 b hb), (hf _ (by omega) (by omega) (by omega) (by omega) (by omega)).trans b4, fun b hb => (hf _ (by omega) (by omega) (by omega) (by omega) (by omega)).trans (b5 b hb), (hf _ (by omega) (by omega) (by omega) (by omega) (by omega)).trans b6, b7, b8⟩, fun i hi r hr9 => ?_, hA.2⟩
  · show _ = aJ cT 48 ((if i = q then va_up (rf q) ro r' else rf i) r)
    by_cases e : i = q
    · subst e
      rw [if_pos rfl]
      by_cases e2 : r = ro
      · subst e2
        rw [va_up_self]
        exact h1
      · rw [va_up_ne _ _ e2]
        exact (hf _ (by omega) (by omega) (by omega) (by omega) (by omega)).trans (a4 i hi r hr9)
    · rw [if_neg e]
      exact (hf _ (by omega) (by omega) (by omega) (by omega) (by omega)).trans (a4 i hi r hr9)
  · by_cases e : i = q
    · subst e
      rw [va_up_self]
      exact h2
    · rw [va_up_ne _ _ e]
      exact (hf _ (by omega) (by omega) (by omega) (by omega) (by omega)).trans (a6 i hi)
  · show va_up sf q s' i r = (va_up σ.1 (4 * q + ro) (c, f) (4 * i + r)).1 ∧ ∀ k, k < (va_up σ.1 (4 * q + ro) (c, f) (4 * i + r)).1 → (if i = q then va_up (rf q) ro r' else rf i) r k = (va_up σ.1 (4 * q + ro) (c, f) (4 * i + r)).2 k
    obtain ⟨hA1, hA2⟩ := hA.1 i hi r hr9
    by_cases e : i = q
    · subst e
      rw [va_up_self, if_pos rfl]
      by_cases e2 : r = ro
      · subst e2
        rw [va_up_self, va_up_self]
        exact ⟨hs, hr⟩
      · rw [va_up_ne _ _ e2, va_up_ne _ _ (show 4 * i + r ≠ 4 * i + ro by omega), hs' r e2]
        exact ⟨hA1, hA2⟩
    · rw [va_up_ne _ _ e, if_neg e, va_up_ne _ _ (show 4 * i + r ≠ 4 * q + ro by omega)]
      exact ⟨hA1, hA2⟩
theorem MW.bench (h : MC cT ad G th rf sf pf zf xf kf lf mf) (hA : MA σ rf sf pf zf xf kf lf mf) {b : Nat} (hb : b < 6) {β : TB} {p' : Nat → Int64} {z' x' k' l' m' : Nat → Nat} (h0 : G' 69 = mO ad th') (h1 : G' (91 + b) = aJ cT 48 p') (h2 : G' 97 = aI cT 6 z') (h3 : G' 98 = aZ cT 6 x') (h4 : G' (100 + b) = aC cT 128 k') (h5 : G' (107 + b) = aI cT 128 l') (h6 : G' 113 = aI cT 6 m') (hk' : ∀ j, k' j < 65536) (hl' : ∀ j, l' j < 2 ^ 31)
    (hf : ∀ j, 69 ≤ j → j < 114 → j ≠ 69 → j ≠ 91 + b → j ≠ 97 → j ≠ 98 → j ≠ 100 + b → j ≠ 107 + b → j ≠ 113 → G' j = G j) (hz : z' b = β.1) (hm : m' b = β.2.1) (hx : x' b = β.2.2.1) (hp : ∀ k, k < β.1 → p' k = β.2.2.2.1 k) (hkl : ∀ k, k < β.2.1 → k' k = β.2.2.2.2.1 k ∧ l' k = β.2.2.2.2.2 k) (ho : ∀ c, c ≠ b → z' c = zf c ∧ x' c = xf c ∧ m' c = mf c) : MW cT ad G' (setB σ b β) th' := by
  obtain ⟨-, a2, a3, a4, a5, a6, a7, a8, a9, b1, b2, b3, b4, b5, b6, b7, b8⟩ := h
  have hg : ∀ j, 69 ≤ j → j < 114 → j ≠ 69 → j ≠ 91 + b ∧ j ≠ 97 ∧ j ≠ 98 ∧ j ≠ 100 + b ∧ j ≠ 107 + b ∧ j ≠ 113 → G' j = G j := fun j u v w x => hf j u v w x.1 x.2.1 x.2.2.1 x.2.2.2.1 x.2.2.2.2.1 x.2.2.2.2.2
  refine ⟨rf, sf, va_up pf b p', z', x', va_up kf b k', va_up lf b l', m', ⟨h0, (hg _ (by omega) (by omega) (by omega) (by omega)).trans a2, fun q hq => (hg _ (by omega) (by omega) (by omega) (by omega)).trans (a3 q hq), fun q hq r hr => (hg _ (by omega) (by omega) (by omega) (by omega)).trans (a4 q hq r hr), (hg _ (by omega) (by omega) (by omega) (by omega)).trans a5, fun q hq => (hg _ (by omega) (by omega) (by omega) (by omega)).trans (a6 q hq), (hg _ (by omega) (by omega) (by omega) (by omega)).trans a7, fun c hc => ?_, h2, h3, (hg _ (by omega) (by omega) (by omega) (by omega)).trans b2, fun c hc => ?_, (hg _ (by omega) (by omega) (by omega) (by omega)).trans b4, fun c hc => ?_, h6, fun c hc => ?_, fun c hc => ?_⟩, hA.1, fun c hc => ?_⟩
  · by_cases e : c = b
    · subst e
      rw [va_up_self]
      exact h1
    · rw [va_up_ne _ _ e]
      exact (hg _ (by omega) (by omega) (by omega) (by omega)).trans (a8 c hc)
  · by_cases e : c = b
    · subst e
      rw [va_up_self]
      exact h4
    · rw [va_up_ne _ _ e]
      exact (hg _ (by omega) (by omega) (by omega) (by omega)).trans (b3 c hc)
  · by_cases e : c = b
    · subst e
      rw [va_up_self]
      exact h5
    · rw [va_up_ne _ _ e]
      exact (hg _ (by omega) (by omega) (by omega) (by omega)).trans (b5 c hc)
  · by_cases e : c = b
    · subst e
      rw [va_up_self]
      exact hk'
    · rw [va_up_ne _ _ e]
      exact b7 c hc
  · by_cases e : c = b
    · subst e
      rw [va_up_self]
      exact hl'
    · rw [va_up_ne _ _ e]
      exact b8 c hc
  · show z' c = (va_up σ.2 b β c).1 ∧ m' c = (va_up σ.2 b β c).2.1 ∧ x' c = (va_up σ.2 b β c).2.2.1 ∧ (∀ k, k < (va_up σ.2 b β c).1 → va_up pf b p' c k = (va_up σ.2 b β c).2.2.2.1 k) ∧ ∀ k, k < (va_up σ.2 b β c).2.1 → va_up kf b k' c k = (va_up σ.2 b β c).2.2.2.2.1 k ∧ va_up lf b l' c k = (va_up σ.2 b β c).2.2.2.2.2 k
    by_cases e : c = b
    · subst e
      rw [va_up_self, va_up_self, va_up_self, va_up_self]
      exact ⟨hz, hm, hx, hp, hkl⟩
    · rw [va_up_ne _ _ e, va_up_ne _ _ e, va_up_ne _ _ e, va_up_ne _ _ e, (ho c e).1, (ho c e).2.1, (ho c e).2.2]
      exact hA.2 c hc
end GMW
def canT (a1 a2 a3 : Nat) : Nat := if a1 = 0 then 1 else if a2 = 0 then 2 else if a3 = 0 then 3 else 0
def canR (a1 a2 a3 : Nat) : Nat := if canT a1 a2 a3 = 0 then 1 else 0
theorem kdx_0 {ch : Nat} (h : ch = 105) : kdx ch = 0 := if_pos h
theorem kdx_1 {ch : Nat} (h : ch = 108) : kdx ch = 1 := by
  subst h
  rfl
theorem kdx_2 {ch : Nat} (h : ch = 111) : kdx ch = 2 := by
  subst h
  rfl
theorem kdx_3 {ch : Nat} (h1 : ch ≠ 105) (h2 : ch ≠ 108) (h3 : ch ≠ 111) : kdx ch = 3 := by
  unfold kdx
  rw [if_neg h1, if_neg h2, if_neg h3]
theorem ix_cases (x : Int32) {N : Nat} (hN : N < 2 ^ 31) : (x < 0 ∨ nI N ≤ x) ∨ ∃ j, j < N ∧ x = nI j := by
  rcases pk_ix x hN with h | h | h
  · exact Or.inl (Or.inl h)
  · exact Or.inl (Or.inr h)
  · exact Or.inr h
theorem ix_ok {j N : Nat} (h : j < N) (hN : N < 2 ^ 31) : ¬ (nI j < 0 ∨ nI N ≤ nI j) := fun q => by
  rcases q with q | q
  · exact absurd q (nI_pos (by omega))
  · exact absurd (nI_lt h hN) (Int32.not_lt.mpr q)
def itmBad (σ : TY) (x y : Int32) : Prop := (x < 0 ∨ nI 6 ≤ x) ∨ ∃ b, b < 6 ∧ x = nI b ∧ (y < 0 ∨ nI (σ.2 b).2.1 ≤ y)
theorem itm_cases {σ : TY} (hI : YI σ) (x y : Int32) : itmBad σ x y ∨ ∃ b, b < 6 ∧ x = nI b ∧ ∃ i, i < (σ.2 b).2.1 ∧ y = nI i := by
  rcases ix_cases x (N := 6) (by decide) with h | ⟨b, hb, rfl⟩
  · exact Or.inl (Or.inl h)
  · have h96 := (BI_cap (hI.2 b hb).1)
    rcases ix_cases y (N := (σ.2 b).2.1) (by omega) with h | ⟨i, hi, rfl⟩
    · exact Or.inl (Or.inr ⟨b, hb, rfl, h⟩)
    · exact Or.inr ⟨b, hb, rfl, i, hi, rfl⟩
def entF (F : Nat → Nat) (i cn v : Nat) : Nat → Nat := fun j => if i < j ∧ j ≤ cn then F (j - 1) else if j = i then v else F j
theorem entF_lt {N : Nat} {F : Nat → Nat} {i cn v : Nat} (h : ∀ j, F j < N) (hv : v < N) : ∀ j, entF F i cn v j < N := fun j => by
  unfold entF
  split
  · exact h _
  · split
    · exact hv
    · exact h _
theorem ent_ins {F k0 : Nat → Nat} {i cn v : Nat} (h : ∀ j, j < cn → k0 j = F j) (hi : i ≤ cn) : ∀ j, j < cn + 1 → entF k0 i cn v j = insN F i 1 v j := fun j hj => by
  unfold entF
  by_cases h1 : i < j ∧ j ≤ cn
  · rw [if_pos h1, insN_hi (by omega), h _ (by omega)]
  · rw [if_neg h1]
    by_cases h2 : j = i
    · rw [if_pos h2, insN_in (by omega) (by omega)]
    · rw [if_neg h2, insN_lo (by omega), h _ (by omega)]
def shR (F : Nat → Nat) (c k : Nat) : Nat → Nat := fun j => if k < j ∧ j ≤ c then F (j - 1) else F j
theorem shR_0 (F : Nat → Nat) (c : Nat) : shR F c c = F := by
  funext j
  unfold shR
  rw [if_neg (by omega)]
theorem shR_lt {N : Nat} {F : Nat → Nat} {c k : Nat} (h : ∀ j, F j < N) : ∀ j, shR F c k j < N := fun j => by
  unfold shR
  split
  · exact h _
  · exact h _
theorem shR_step {F : Nat → Nat} {c k : Nat} (h1 : 0 < k) (h2 : k ≤ c) : va_up (shR F c k) k (shR F c k (k - 1)) = shR F c (k - 1) := by
  funext j
  by_cases e : j = k
  · subst e
    rw [va_up_self]
    unfold shR
    rw [if_neg (by omega), if_pos (by omega)]
  · rw [va_up_ne _ _ e]
    unfold shR
    by_cases h : k < j ∧ j ≤ c
    · rw [if_pos h, if_pos (by omega)]
    · rw [if_neg h, if_neg (by omega)]
theorem shR_ent {F : Nat → Nat} {c i v : Nat} : va_up (shR F c i) i v = entF F i c v := by
  funext j
  unfold entF
  by_cases e : j = i
  · subst e
    rw [va_up_self, if_neg (by omega), if_pos rfl]
  · rw [va_up_ne _ _ e]
    unfold shR
    by_cases h : i < j ∧ j ≤ c
    · rw [if_pos h, if_pos h]
    · rw [if_neg h, if_neg h, if_neg e]
theorem ins_succ (F : Nat → Nat) (i t v : Nat) : insN (insN F i t v) i 1 v = insN F i (t + 1) v := by
  funext j
  rcases Nat.lt_or_ge j i with h | h
  · rw [insN_lo h, insN_lo h, insN_lo h]
  · rcases Nat.lt_or_ge j (i + 1) with h1 | h1
    · rw [insN_in h h1, insN_in h (by omega)]
    · rw [insN_hi h1]
      rcases Nat.lt_or_ge j (i + (t + 1)) with h2 | h2
      · rw [insN_in (by omega) (by omega), insN_in h h2]
      · rw [insN_hi (by omega), insN_hi h2, show j - 1 - t = j - (t + 1) by omega]
def MB (cT : Nat → ClassId) (ad : Nat → Nat) (G : Nat → va_E) (th b : Nat) (k0 l0 m0 : Nat → Nat) : Prop := G 69 = mO ad th ∧ G 99 = aQ (cT 9) 6 (qK ad) ∧ G 106 = aQ (cT 8) 6 (qL ad) ∧ G (100 + b) = aC cT 128 k0 ∧ G (107 + b) = aI cT 128 l0 ∧ G 113 = aI cT 6 m0 ∧ (∀ j, k0 j < 65536) ∧ ∀ j, l0 j < 2 ^ 31
theorem is_int (z : Int64) : (-2147483648 ≤ z ∧ z ≤ 2147483647) ↔ z = z.toInt32.toInt64 := by
  constructor
  · intro h
    have h1 := Int64.le_iff_toInt_le.mp h.1
    have h2 := Int64.le_iff_toInt_le.mp h.2
    rw [show (-2147483648 : Int64).toInt = -2147483648 from rfl] at h1
    rw [show (2147483647 : Int64).toInt = 2147483647 from rfl] at h2
    apply Int64.toInt_inj.mp
    rw [Int32.toInt_toInt64, Int64.toInt_toInt32, Int.bmod_eq_of_le (by omega) (by omega)]
  · intro h
    have h3 := Int32.toInt_lt z.toInt32
    have h4 := Int32.le_toInt z.toInt32
    rw [← Int32.toInt_toInt64, ← h] at h3 h4
    constructor
    · apply Int64.le_iff_toInt_le.mpr
      rw [show (-2147483648 : Int64).toInt = -2147483648 from rfl]
      omega
    · apply Int64.le_iff_toInt_le.mpr
      rw [show (2147483647 : Int64).toInt = 2147483647 from rfl]
      omega
theorem mo_ok {q : Nat} (h1 : 1 ≤ q) (h2 : q ≤ 48) : ¬ (nI q < nI 1 ∨ nI 48 < nI q) := fun z => by
  rcases z with z | z
  · exact absurd z (nI_nlt (by omega) (by omega))
  · exact absurd z (nI_nlt (by omega) (by omega))
theorem itm_ok {σ : TY} {x y : Int32} (hI : YI σ) (h : itmBad σ x y) (h2 : ∃ b, b < 6 ∧ x = nI b ∧ ∃ i, i < (σ.2 b).2.1 ∧ y = nI i) : False := by
  obtain ⟨b, hb, rfl, i, hi, rfl⟩ := h2
  have h96 := BI_cap (hI.2 b hb).1
  rcases h with h | ⟨c, hc, hcx, h⟩
  · exact ix_ok hb (by decide) h
  · have e : b = c := by
      have := congrArg Int32.toNatClampNeg hcx
      rw [nI_clamp (by omega), nI_clamp (by omega)] at this
      exact this
    subst e
    exact ix_ok hi (by omega) h
theorem nI_dec1 {k : Nat} (h : 1 ≤ k) : nI k + (-1) = nI (k - 1) := by
  obtain ⟨j, rfl⟩ : ∃ j, k = j + 1 := ⟨k - 1, by omega⟩
  rw [show j + 1 - 1 = j by omega, ← nI_pred j, Int32.sub_eq_add_neg]
def rowC (ch : Nat) (x : Int32) : Nat := if kdx ch = 3 then 1 else if (x < 0 ∨ nI 4 ≤ x) then 2 else 0
def benC (x : Int32) : Nat := if (x < 0 ∨ nI 6 ≤ x) then 1 else 0
noncomputable def itmC (σ : TY) (x y : Int32) : Nat := @ite Nat (itmBad σ x y) (Classical.propDecidable _) 1 0
noncomputable def isC (σ : TY) (x y : Int32) (P : Nat → Prop) : Nat := @ite Nat (itmBad σ x y) (Classical.propDecidable _) 1 (@ite Nat (onI σ x y (fun b i => P ((σ.2 b).2.2.2.2.1 i))) (Classical.propDecidable _) 2 0)
theorem nI_uniq {a b N : Nat} (ha : a < N) (hb : b < N) (hN : N < 2 ^ 31) (h : nI a = nI b) : a = b := by
  have := congrArg Int32.toNatClampNeg h
  rw [nI_clamp (by omega), nI_clamp (by omega)] at this
  exact this
theorem onR_get {ch : Nat} {x : Int32} {P : Nat → Prop} {q j : Nat} (hj : j < 4) (hk : kdx ch = q) (hx : x = nI j) (h : onR ch x P) : P (4 * q + j) := by
  obtain ⟨q2, j2, hq2, hj2, hk2, hx2, h⟩ := h
  have e1 : q2 = q := hk2.symm.trans hk
  have e2 : j2 = j := nI_uniq hj2 hj (by decide) (hx2.symm.trans hx)
  subst e1
  subst e2
  exact h
theorem onB_get {x : Int32} {P : Nat → Prop} {b : Nat} (hb : b < 6) (hx : x = nI b) (h : onB x P) : P b := by
  obtain ⟨b2, hb2, hx2, h⟩ := h
  have e2 : b2 = b := nI_uniq hb2 hb (by decide) (hx2.symm.trans hx)
  subst e2
  exact h
theorem onI_get {σ : TY} (hI : YI σ) {x y : Int32} {P : Nat → Nat → Prop} {b i : Nat} (hb : b < 6) (hx : x = nI b) (hi : i < (σ.2 b).2.1) (hy : y = nI i) (h : onI σ x y P) : P b i := by
  obtain ⟨b2, i2, hb2, hx2, hi2, hy2, h⟩ := h
  have e2 : b2 = b := nI_uniq hb2 hb (by decide) (hx2.symm.trans hx)
  subst e2
  have h96 := BI_cap (hI.2 b2 hb).1
  have e3 : i2 = i := nI_uniq hi2 hi (by omega) (hy2.symm.trans hy)
  subst e3
  exact h
theorem rowC_ok {ch : Nat} {q j : Nat} (hq : q < 3) (hj : j < 4) (hk : kdx ch = q) : rowC ch (nI j) = 0 := by
  unfold rowC
  rw [if_neg (by omega), if_neg (ix_ok hj (by decide))]
theorem rowC_on {ch : Nat} {x : Int32} {P : Nat → Prop} (h : onR ch x P) : rowC ch x = 0 := by
  obtain ⟨q, j, hq, hj, hk, rfl, -⟩ := h
  exact rowC_ok hq hj hk
theorem rowC_px {ch : Nat} {x : Int32} {E : String} (h : pxRow ch x E) : (E = xIA ∧ rowC ch x = 1) ∨ (E = xIO ∧ rowC ch x = 2) := by
  rcases h with ⟨h1, h2⟩ | ⟨h1, h2, h3⟩
  · exact Or.inl ⟨h2, if_pos h1⟩
  · exact Or.inr ⟨h3, (if_neg (by omega)).trans (if_pos h2)⟩
theorem benC_ok {j : Nat} (hj : j < 6) : benC (nI j) = 0 := if_neg (ix_ok hj (by decide))
theorem benC_on {x : Int32} {P : Nat → Prop} (h : onB x P) : benC x = 0 := by
  obtain ⟨j, hj, rfl, -⟩ := h
  exact benC_ok hj
theorem benC_px {x : Int32} {E : String} (h : pxBen x E) : E = xIO ∧ benC x = 1 := ⟨h.2, if_pos h.1⟩
theorem itm_no {σ : TY} (hI : YI σ) {x y : Int32} {b i : Nat} (hb : b < 6) (hx : x = nI b) (hi : i < (σ.2 b).2.1) (hy : y = nI i) : ¬ itmBad σ x y := fun q => itm_ok hI q ⟨b, hb, hx, i, hi, hy⟩
theorem itmC_on {σ : TY} (hI : YI σ) {x y : Int32} {P : Nat → Nat → Prop} (h : onI σ x y P) : itmC σ x y = 0 := by
  obtain ⟨b, i, hb, hx, hi, hy, -⟩ := h
  exact if_neg (itm_no hI hb hx hi hy)
theorem itmC_px {σ : TY} {x y : Int32} {E : String} (h : pxItem σ x y E) : E = xIO ∧ itmC σ x y = 1 := ⟨h.2, if_pos h.1⟩
theorem isC_bad {σ : TY} {x y : Int32} {P : Nat → Prop} (h : itmBad σ x y) : isC σ x y P = 1 := if_pos h
theorem isC_not {σ : TY} (hI : YI σ) {x y : Int32} {P : Nat → Prop} {b i : Nat} (hb : b < 6) (hx : x = nI b) (hi : i < (σ.2 b).2.1) (hy : y = nI i) (h : P ((σ.2 b).2.2.2.2.1 i)) : isC σ x y P = 2 := (if_neg (itm_no hI hb hx hi hy)).trans (if_pos ⟨b, i, hb, hx, hi, hy, h⟩)
theorem isC_ok {σ : TY} (hI : YI σ) {x y : Int32} {P : Nat → Prop} {b i : Nat} (hb : b < 6) (hx : x = nI b) (hi : i < (σ.2 b).2.1) (hy : y = nI i) (h : ¬ P ((σ.2 b).2.2.2.2.1 i)) : isC σ x y P = 0 := (if_neg (itm_no hI hb hx hi hy)).trans (if_neg (fun q => h (onI_get hI hb hx hi hy q)))
theorem isC_px {σ : TY} (hI : YI σ) {x y : Int32} {P : Nat → Prop} {E : String} (h : pxIs σ x y P E) : (E = xIO ∧ isC σ x y P = 1) ∨ (E = xIS ∧ isC σ x y P = 2) := by
  rcases h with h | ⟨b, i, hb, hx, hi, hy, h1, h2⟩
  · exact Or.inl ⟨h.2, if_pos h.1⟩
  · exact Or.inr ⟨h2, isC_not hI hb hx hi hy h1⟩
