def ps (L : Nat → Nat) : Nat → Nat
  | 0 => 0
  | i + 1 => ps L i + L i
def cnt (K : Nat → Nat) : Nat → Nat
  | 0 => 0
  | i + 1 => cnt K i + (if K i = 110 then 1 else 0)
def lft (K L : Nat → Nat) : Nat → Nat
  | 0 => 0
  | i + 1 => lft K L i + (if K i = 110 then 0 else L i)
def bsum (K L : Nat → Nat) (pt : Nat → Int64) (a : Int64) : Nat → Int64
  | 0 => a
  | i + 1 => 31 * (31 * bsum K L pt a i + lN (K i)) + (if K i = 110 then pt (ps L i) else lN (L i))
def insN (F : Nat → Nat) (i m v : Nat) : Nat → Nat := fun j => if j < i then F j else if j < i + m then v else F (j - m)
def swk (L : Nat → Nat) : Nat → Nat
  | 0 => 0
  | i + 1 => swk L i + (if 0 < L i then 1 else 0)
def swF {α : Type} (F : Nat → α) (L : Nat → Nat) : Nat → (Nat → α)
  | 0 => F
  | i + 1 => if 0 < L i then va_up (swF F L i) (swk L i) (F i) else swF F L i
def BL (sz cn : Nat) (pt : Nat → Int64) (K L : Nat → Nat) (p : Nat → Int64) (w : Nat → Nat) (nu : Nat → Int64) (ne en : Nat → Nat) : Prop :=
  (∀ j, j < sz → p j = pt j) ∧ ∀ i, i < cn → w i = K i ∧ (K i = 110 → nu i = pt (ps L i)) ∧ (K i ≠ 110 → ne i = ps L i ∧ en i = ps L i + L i)
def BR (cT : Nat → ClassId) (ad : Nat → Nat) (G : Nat → va_E) (k sz cn bx : Nat) (pt : Nat → Int64) (K L : Nat → Nat) : Prop :=
  ∃ (p : Nat → Int64) (w : Nat → Nat) (nu : Nat → Int64) (ne en : Nat → Nat), RB cT ad G k sz cn bx p w nu ne en ∧ BL sz cn pt K L p w nu ne en
def BI (sz cn : Nat) (K L : Nat → Nat) : Prop :=
  sz ≤ 48 ∧ ps L cn = sz ∧ (∀ i, i < cn → (K i = 110 ∨ K i = 112 ∨ K i = 116) ∧ (K i = 110 → L i = 1)) ∧ (sz = 0 → cn ≤ 1) ∧ (0 < sz → ∀ i, i < cn → K i ≠ 110 → L i = 0 → 0 < i ∧ K (i - 1) = 110)
theorem cnt_1 {K : Nat → Nat} {i : Nat} (h : K i = 110) : cnt K (i + 1) = cnt K i + 1 := by
  show cnt K i + _ = _
  rw [if_pos h]
theorem cnt_0 {K : Nat → Nat} {i : Nat} (h : K i ≠ 110) : cnt K (i + 1) = cnt K i + 0 := by
  show cnt K i + _ = _
  rw [if_neg h]
theorem cnt_le (K : Nat → Nat) : ∀ n, cnt K n ≤ n
  | 0 => Nat.le_refl 0
  | n + 1 => by
    have h := cnt_le K n
    show cnt K n + _ ≤ _
    split <;> omega
theorem lft_1 {K L : Nat → Nat} {i : Nat} (h : K i = 110) : lft K L (i + 1) = lft K L i + 0 := by
  show lft K L i + _ = _
  rw [if_pos h]
theorem lft_0 {K L : Nat → Nat} {i : Nat} (h : K i ≠ 110) : lft K L (i + 1) = lft K L i + L i := by
  show lft K L i + _ = _
  rw [if_neg h]
theorem ps_mono (L : Nat → Nat) {a b : Nat} (h : a ≤ b) : ps L a ≤ ps L b := by
  induction b with
  | zero =>
    rw [show a = 0 by omega]
    exact Nat.le_refl _
  | succ b ih =>
    rcases Nat.lt_or_ge b a with q | q
    · rw [show a = b + 1 by omega]
      exact Nat.le_refl _
    · have h1 := ih q
      show ps L a ≤ ps L b + L b
      omega
theorem ps_step (L : Nat → Nat) {a b : Nat} (h : a < b) : ps L a + L a ≤ ps L b := ps_mono L (show a + 1 ≤ b from h)
theorem ps_cong {L M : Nat → Nat} {n : Nat} (h : ∀ j, j < n → L j = M j) : ps L n = ps M n := by
  induction n with
  | zero => rfl
  | succ n ih =>
    show ps L n + L n = ps M n + M n
    rw [ih (fun j hj => h j (by omega)), h n (by omega)]
theorem lft_le (K L : Nat → Nat) : ∀ n, lft K L n ≤ ps L n
  | 0 => Nat.le_refl 0
  | n + 1 => by
    have h := lft_le K L n
    show lft K L n + _ ≤ ps L n + L n
    split <;> omega
theorem lft_cnt {K L : Nat → Nat} {n : Nat} (h : ∀ i, i < n → K i = 110 → L i = 1) : lft K L n + cnt K n = ps L n := by
  induction n with
  | zero => rfl
  | succ n ih =>
    have h1 := ih (fun i hi => h i (by omega))
    show lft K L n + _ + (cnt K n + _) = ps L n + L n
    by_cases q : K n = 110
    · rw [if_pos q, if_pos q, h n (by omega) q]; omega
    · rw [if_neg q, if_neg q]; omega
theorem insN_lo {F : Nat → Nat} {i m v j : Nat} (h : j < i) : insN F i m v j = F j := if_pos h
theorem insN_in {F : Nat → Nat} {i m v j : Nat} (h : i ≤ j) (h2 : j < i + m) : insN F i m v j = v := by
  unfold insN
  rw [if_neg (by omega), if_pos h2]
theorem insN_hi {F : Nat → Nat} {i m v j : Nat} (h : i + m ≤ j) : insN F i m v j = F (j - m) := by
  unfold insN
  rw [if_neg (by omega), if_neg (by omega)]
theorem ps_ins_lo {F : Nat → Nat} {i m v j : Nat} (h : j ≤ i) : ps (insN F i m v) j = ps F j := ps_cong (fun a ha => insN_lo (by omega))
theorem ps_ins_in {F : Nat → Nat} {i m v : Nat} : ∀ t, t ≤ m → ps (insN F i m v) (i + t) = ps F i + t * v
  | 0, _ => by
    rw [Nat.zero_mul]
    exact ps_ins_lo (Nat.le_refl _)
  | t + 1, h => by
    show ps (insN F i m v) (i + t) + insN F i m v (i + t) = _
    rw [ps_ins_in t (by omega), insN_in (by omega) (by omega), Nat.succ_mul]
    omega
theorem ps_ins_hi {F : Nat → Nat} {i m v : Nat} : ∀ t, ps (insN F i m v) (i + m + t) = ps F (i + t) + m * v
  | 0 => ps_ins_in m (Nat.le_refl _)
  | t + 1 => by
    show ps (insN F i m v) (i + m + t) + insN F i m v (i + m + t) = ps F (i + t) + F (i + t) + m * v
    rw [ps_ins_hi t, insN_hi (by omega), show i + m + t - m = i + t by omega]
    omega
theorem ps_up_lo {F : Nat → Nat} {i v j : Nat} (h : j ≤ i) : ps (va_up F i v) j = ps F j := ps_cong (fun a ha => va_up_ne _ _ (by omega))
theorem ps_up_hi {F : Nat → Nat} {i v : Nat} (hv : v ≤ F i) : ∀ t, ps (va_up F i v) (i + 1 + t) + (F i - v) = ps F (i + 1 + t)
  | 0 => by
    show ps (va_up F i v) i + va_up F i v i + _ = ps F i + F i
    rw [ps_up_lo (Nat.le_refl _), va_up_self]
    omega
  | t + 1 => by
    have h := ps_up_hi hv t
    show ps (va_up F i v) (i + 1 + t) + va_up F i v (i + 1 + t) + _ = ps F (i + 1 + t) + F (i + 1 + t)
    rw [va_up_ne _ _ (by omega)]
    omega
theorem BI_cap {sz cn : Nat} {K L : Nat → Nat} (h : BI sz cn K L) : cn ≤ 96 := by
  obtain ⟨h1, h2, h3, h4, h5⟩ := h
  rcases Nat.eq_zero_or_pos sz with q | q
  · have := h4 q
    omega
  · have key : ∀ i, i ≤ cn → i ≤ 2 * ps L i ∧ (0 < i → 0 < L (i - 1) → i + 1 ≤ 2 * ps L i) := by
      intro i
      induction i using Nat.strongRecOn with
      | _ i ih =>
        intro hi
        rcases Nat.eq_zero_or_pos i with z | z
        · subst z
          exact ⟨Nat.zero_le _, fun h => absurd h (Nat.lt_irrefl 0)⟩
        · obtain ⟨j, rfl⟩ : ∃ j, i = j + 1 := ⟨i - 1, by omega⟩
          have hj := ih j (by omega) (by omega)
          have e : ps L (j + 1) = ps L j + L j := rfl
          rw [e, Nat.add_sub_cancel]
          rcases Nat.eq_zero_or_pos (L j) with zl | zl
          · obtain ⟨hk, hk2⟩ := h3 j (by omega)
            have hne : K j ≠ 110 := fun w => by
              have := hk2 w
              omega
            obtain ⟨p1, p2⟩ := h5 q j (by omega) hne zl
            have h6 := (h3 (j - 1) (by omega)).2 p2
            have h7 := hj.2 p1 (by omega)
            exact ⟨by omega, fun _ => by omega⟩
          · exact ⟨by omega, fun _ _ => by omega⟩
    have := (key cn (Nat.le_refl _)).1
    omega
theorem BI_give {sz cn : Nat} {K L : Nat → Nat} (h : BI sz cn K L) {i m : Nat} (hi : i < cn) (hk : K i ≠ 110) (hm : m ≤ L i) : BI sz (cn + m) (insN K i m 110) (insN (va_up L i (L i - m)) i m 1) := by
  obtain ⟨h1, h2, h3, h4, h5⟩ := h
  rcases Nat.eq_zero_or_pos m with rfl | hm0
  · have e1 : insN K i 0 110 = K := by
      funext j
      rcases Nat.lt_or_ge j i with q | q
      · exact insN_lo q
      · exact insN_hi (by omega)
    have e2 : insN (va_up L i (L i - 0)) i 0 1 = L := by
      funext j
      have e3 : va_up L i (L i - 0) = L := by
        funext a
        by_cases q : a = i
        · subst q; rw [va_up_self]; rfl
        · rw [va_up_ne _ _ q]
      rw [e3]
      rcases Nat.lt_or_ge j i with q | q
      · exact insN_lo q
      · exact insN_hi (by omega)
    rw [e1, e2]
    exact ⟨h1, h2, h3, h4, h5⟩
  · have hls := ps_step L hi
    refine ⟨h1, ?_, ?_, fun z => by omega, ?_⟩
    · obtain ⟨t, ht⟩ : ∃ t, cn = i + 1 + t := ⟨cn - (i + 1), by omega⟩
      have e1 := ps_ins_hi (F := va_up L i (L i - m)) (i := i) (m := m) (v := 1) (1 + t)
      have e2 := ps_up_hi (F := L) (i := i) (v := L i - m) (by omega) t
      rw [show cn + m = i + m + (1 + t) by omega, e1, show i + (1 + t) = i + 1 + t by omega]
      rw [← ht] at e2 ⊢
      omega
    · intro j hj
      rcases Nat.lt_or_ge j i with q | q
      · rw [insN_lo q, insN_lo q, va_up_ne _ _ (by omega)]
        exact h3 j (by omega)
      · rcases Nat.lt_or_ge j (i + m) with q2 | q2
        · rw [insN_in q q2, insN_in q q2]
          exact ⟨Or.inl rfl, fun _ => rfl⟩
        · rw [insN_hi q2, insN_hi q2]
          by_cases e : j - m = i
          · rw [e, va_up_self]
            exact ⟨(h3 i hi).1, fun z => absurd z hk⟩
          · rw [va_up_ne _ _ e]
            exact h3 (j - m) (by omega)
    · intro hs j hj
      rcases Nat.lt_or_ge j i with q | q
      · rw [insN_lo q, insN_lo q, va_up_ne _ _ (by omega)]
        intro a b
        obtain ⟨c, d⟩ := h5 hs j (by omega) a b
        exact ⟨c, by rw [insN_lo (by omega)]; exact d⟩
      · rcases Nat.lt_or_ge j (i + m) with q2 | q2
        · rw [insN_in q q2]
          intro a
          exact absurd rfl a
        · rw [insN_hi q2, insN_hi q2]
          intro a b
          refine ⟨by omega, ?_⟩
          by_cases e : j - m = i
          · rw [insN_in (by omega) (by omega)]
          · rw [va_up_ne _ _ e] at b
            obtain ⟨c, d⟩ := h5 hs (j - m) (by omega) a b
            by_cases e2 : j - m - 1 = i
            · rw [e2] at d
              exact absurd d hk
            · rw [insN_hi (by omega), show j - 1 - m = j - m - 1 by omega]
              exact d
theorem BI_half {sz cn : Nat} {K L : Nat → Nat} (h : BI sz cn K L) {i : Nat} (hi : i < cn) (hk : K i = 112) (hm : 2 ≤ L i) : BI sz (cn + 1) (insN K i 1 112) (insN (va_up L i (L i - L i / 2)) i 1 (L i / 2)) := by
  obtain ⟨h1, h2, h3, h4, h5⟩ := h
  have hls := ps_step L hi
  have hle : ps L i + L i ≤ sz := by
    rw [← h2]
    exact hls
  refine ⟨h1, ?_, ?_, fun z => by omega, ?_⟩
  · obtain ⟨t, ht⟩ : ∃ t, cn = i + 1 + t := ⟨cn - (i + 1), by omega⟩
    have e1 := ps_ins_hi (F := va_up L i (L i - L i / 2)) (i := i) (m := 1) (v := L i / 2) (1 + t)
    have e2 := ps_up_hi (F := L) (i := i) (v := L i - L i / 2) (by omega) t
    rw [show cn + 1 = i + 1 + (1 + t) by omega, e1, show i + (1 + t) = i + 1 + t by omega]
    rw [← ht] at e2 ⊢
    omega
  · intro j hj
    rcases Nat.lt_or_ge j i with q | q
    · rw [insN_lo q, insN_lo q, va_up_ne _ _ (by omega)]
      exact h3 j (by omega)
    · rcases Nat.lt_or_ge j (i + 1) with q2 | q2
      · rw [insN_in q q2]
        exact ⟨Or.inr (Or.inl rfl), fun z => by omega⟩
      · rw [insN_hi q2, insN_hi q2]
        by_cases e : j - 1 = i
        · rw [e, va_up_self]
          exact ⟨(h3 i hi).1, fun z => by omega⟩
        · rw [va_up_ne _ _ e]
          exact h3 (j - 1) (by omega)
  · intro hs j hj
    rcases Nat.lt_or_ge j i with q | q
    · rw [insN_lo q, insN_lo q, va_up_ne _ _ (by omega)]
      intro a b
      obtain ⟨c, d⟩ := h5 hs j (by omega) a b
      exact ⟨c, by rw [insN_lo (by omega)]; exact d⟩
    · rcases Nat.lt_or_ge j (i + 1) with q2 | q2
      · rw [insN_in q q2, insN_in q q2]
        intro a b
        omega
      · rw [insN_hi q2, insN_hi q2]
        intro a b
        refine ⟨by omega, ?_⟩
        by_cases e : j - 1 = i
        · rw [e, va_up_self] at b
          omega
        · rw [va_up_ne _ _ e] at b
          obtain ⟨c, d⟩ := h5 hs (j - 1) (by omega) a b
          by_cases e2 : j - 1 - 1 = i
          · rw [e2] at d
            omega
          · rw [insN_hi (by omega)]
            exact d
def gvF {α : Type} (F : Nat → α) (i t : Nat) (g : Nat → α) : Nat → α := fun j => if i ≤ j ∧ j < i + t then g (j - i) else F j
theorem gvF_0 {α : Type} (F : Nat → α) (i : Nat) (g : Nat → α) : gvF F i 0 g = F := by
  funext j
  unfold gvF
  rw [if_neg (by omega)]
theorem gvF_step {α : Type} (F : Nat → α) (i t : Nat) (g : Nat → α) : va_up (gvF F i t g) (i + t) (g t) = gvF F i (t + 1) g := by
  funext j
  by_cases h : j = i + t
  · subst h
    rw [va_up_self]
    unfold gvF
    rw [if_pos (by omega), show i + t - i = t by omega]
  · rw [va_up_ne _ _ h]
    unfold gvF
    by_cases h2 : i ≤ j ∧ j < i + t
    · rw [if_pos h2, if_pos (by omega)]
    · rw [if_neg h2, if_neg (by omega)]
theorem gvF_in {α : Type} {F : Nat → α} {i t j : Nat} {g : Nat → α} (h : i ≤ j) (h2 : j < i + t) : gvF F i t g j = g (j - i) := if_pos ⟨h, h2⟩
theorem gvF_out {α : Type} {F : Nat → α} {i t j : Nat} {g : Nat → α} (h : j < i ∨ i + t ≤ j) : gvF F i t g j = F j := if_neg (by omega)
theorem gvF_lt {N : Nat} {w g : Nat → Nat} {i t : Nat} (h : ∀ j, w j < N) (h2 : ∀ j, g j < N) : ∀ j, gvF w i t g j < N := fun j => by
  unfold gvF
  split
  · exact h2 _
  · exact h _
theorem cpy_lo {α : Type} {f : Nat → α} {i m k j : Nat} (h : j < i) : va_cpy f f i (i + m) k j = f j := pk_cpy_out (by omega)
theorem cpy_hi {α : Type} {f : Nat → α} {i m k j : Nat} (h : i + m ≤ j) (h2 : j < i + m + k) : va_cpy f f i (i + m) k j = f (j - m) := by
  rw [pk_cpy_in h (by omega), show i + (j - (i + m)) = j - m by omega]
theorem BL_half {sz cn : Nat} {pt : Nat → Int64} {K L : Nat → Nat} {p : Nat → Int64} {w : Nat → Nat} {nu : Nat → Int64} {ne en : Nat → Nat} (h : BL sz cn pt K L p w nu ne en) {i : Nat} (hi : i < cn) (hk : K i = 112) (hm : 2 ≤ L i) :
    BL sz (cn + 1) pt (insN K i 1 112) (insN (va_up L i (L i - L i / 2)) i 1 (L i / 2)) p (va_up (va_cpy w w i (i + 1) (cn - i)) i 112) (va_cpy nu nu i (i + 1) (cn - i)) (va_up (va_up (va_cpy ne ne i (i + 1) (cn - i)) i (ps L i)) (i + 1) (ps L i + L i / 2)) (va_up (va_cpy en en i (i + 1) (cn - i)) i (ps L i + L i / 2)) := by
  obtain ⟨h1, h2⟩ := h
  refine ⟨h1, fun j hj => ?_⟩
  rcases Nat.lt_trichotomy j i with q | q | q
  · rw [insN_lo q, insN_lo q, va_up_ne _ _ (by omega), va_up_ne _ _ (by omega), va_up_ne _ _ (by omega), va_up_ne _ _ (by omega), va_up_ne _ _ (by omega), cpy_lo q, cpy_lo q, cpy_lo q, cpy_lo q, ps_ins_lo (by omega), ps_up_lo (by omega)]
    exact h2 j (by omega)
  · subst q
    rw [insN_in (Nat.le_refl _) (by omega), insN_in (Nat.le_refl _) (by omega), va_up_self, va_up_ne _ _ (by omega), va_up_self, va_up_self, ps_ins_lo (Nat.le_refl _), ps_up_lo (Nat.le_refl _)]
    exact ⟨rfl, fun z => by omega, fun _ => ⟨rfl, rfl⟩⟩
  · have e1 : ps (insN (va_up L i (L i - L i / 2)) i 1 (L i / 2)) (i + 1) = ps L i + L i / 2 := by
      have e := ps_ins_in (F := va_up L i (L i - L i / 2)) (i := i) (m := 1) (v := L i / 2) 1 (Nat.le_refl _)
      rw [e, ps_up_lo (Nat.le_refl _)]
      omega
    by_cases q2 : j = i + 1
    · subst q2
      obtain ⟨g1, g2, g3⟩ := h2 i hi
      obtain ⟨g4, g5⟩ := g3 (by omega)
      rw [e1, insN_hi (by omega), insN_hi (by omega), Nat.add_sub_cancel, va_up_self, va_up_self, va_up_ne _ _ (by omega), va_up_ne _ _ (by omega), cpy_hi (by omega) (by omega), cpy_hi (by omega) (by omega), cpy_hi (by omega) (by omega), Nat.add_sub_cancel]
      exact ⟨g1, fun z => by omega, fun _ => ⟨rfl, by omega⟩⟩
    · obtain ⟨t, rfl⟩ : ∃ t, j = i + 1 + (1 + t) := ⟨j - (i + 2), by omega⟩
      have e2 := ps_ins_hi (F := va_up L i (L i - L i / 2)) (i := i) (m := 1) (v := L i / 2) (1 + t)
      have e3 := ps_up_hi (F := L) (i := i) (v := L i - L i / 2) (by omega) t
      have e4 : ps (insN (va_up L i (L i - L i / 2)) i 1 (L i / 2)) (i + 1 + (1 + t)) = ps L (i + 1 + t) := by
        rw [e2, show i + (1 + t) = i + 1 + t by omega]
        omega
      have h9 := h2 (i + 1 + t) (by omega)
      rw [e4, insN_hi (by omega), insN_hi (by omega), va_up_ne _ _ (by omega), va_up_ne _ _ (by omega), va_up_ne _ _ (by omega), va_up_ne _ _ (by omega), va_up_ne _ _ (by omega), cpy_hi (by omega) (by omega), cpy_hi (by omega) (by omega), cpy_hi (by omega) (by omega), cpy_hi (by omega) (by omega), show i + 1 + (1 + t) - 1 = i + 1 + t by omega]
      exact h9
theorem BL_give {sz cn : Nat} {pt : Nat → Int64} {K L : Nat → Nat} {p : Nat → Int64} {w : Nat → Nat} {nu : Nat → Int64} {ne en : Nat → Nat} (h : BL sz cn pt K L p w nu ne en) (hz : ps L cn = sz) {i m : Nat} (hi : i < cn) (hk : K i ≠ 110) (hm : m ≤ L i) :
    BL sz (cn + m) pt (insN K i m 110) (insN (va_up L i (L i - m)) i m 1) p (gvF (va_cpy w w i (i + m) (cn - i)) i m (fun _ => 110)) (gvF (va_cpy nu nu i (i + m) (cn - i)) i m (fun t => p (ps L i + t))) (va_up (va_cpy ne ne i (i + m) (cn - i)) (i + m) (ps L i + m)) (va_cpy en en i (i + m) (cn - i)) := by
  obtain ⟨h1, h2⟩ := h
  have hls := ps_step L hi
  refine ⟨h1, fun j hj => ?_⟩
  rcases Nat.lt_or_ge j i with q | q
  · rw [insN_lo q, insN_lo q, va_up_ne _ _ (by omega), va_up_ne _ _ (by omega), gvF_out (Or.inl q), gvF_out (Or.inl q), cpy_lo q, cpy_lo q, cpy_lo q, cpy_lo q, ps_ins_lo (by omega), ps_up_lo (by omega)]
    exact h2 j (by omega)
  · rcases Nat.lt_or_ge j (i + m) with q2 | q2
    · obtain ⟨t, rfl⟩ : ∃ t, j = i + t := ⟨j - i, by omega⟩
      rw [insN_in q q2, gvF_in q q2, gvF_in q q2, ps_ins_in t (by omega), ps_up_lo (Nat.le_refl _), show i + t - i = t by omega, Nat.mul_one]
      exact ⟨rfl, fun _ => h1 _ (by omega), fun z => absurd rfl z⟩
    · have e1 := ps_ins_in (F := va_up L i (L i - m)) (i := i) (m := m) (v := 1) m (Nat.le_refl _)
      rw [ps_up_lo (Nat.le_refl _), Nat.mul_one] at e1
      by_cases q3 : j = i + m
      · subst q3
        obtain ⟨g1, g2, g3⟩ := h2 i hi
        obtain ⟨g4, g5⟩ := g3 hk
        rw [e1, insN_hi q2, insN_hi q2, Nat.add_sub_cancel, va_up_self, va_up_self, gvF_out (by omega), gvF_out (by omega), cpy_hi q2 (by omega), cpy_hi q2 (by omega), cpy_hi q2 (by omega), Nat.add_sub_cancel]
        exact ⟨g1, fun z => absurd z hk, fun _ => ⟨rfl, by omega⟩⟩
      · obtain ⟨t, rfl⟩ : ∃ t, j = i + m + (1 + t) := ⟨j - (i + m + 1), by omega⟩
        have e2 := ps_ins_hi (F := va_up L i (L i - m)) (i := i) (m := m) (v := 1) (1 + t)
        have e3 := ps_up_hi (F := L) (i := i) (v := L i - m) (by omega) t
        have e4 : ps (insN (va_up L i (L i - m)) i m 1) (i + m + (1 + t)) = ps L (i + 1 + t) := by
          rw [e2, show i + (1 + t) = i + 1 + t by omega]
          omega
        have h9 := h2 (i + 1 + t) (by omega)
        rw [e4, insN_hi q2, insN_hi q2, va_up_ne _ _ (by omega), va_up_ne _ _ (by omega), gvF_out (by omega), gvF_out (by omega), cpy_hi q2 (by omega), cpy_hi q2 (by omega), cpy_hi q2 (by omega), cpy_hi q2 (by omega), show i + m + (1 + t) - m = i + 1 + t by omega]
        exact h9
theorem swk_le (L : Nat → Nat) : ∀ n, swk L n ≤ n
  | 0 => Nat.le_refl 0
  | n + 1 => by
    have h := swk_le L n
    show swk L n + _ ≤ _
    split <;> omega
theorem swF_hi {α : Type} (F : Nat → α) (L : Nat → Nat) : ∀ (n j : Nat), n ≤ j → swF F L n j = F j
  | 0, _, _ => rfl
  | n + 1, j, h => by
    have h1 := swk_le L n
    show (if 0 < L n then va_up (swF F L n) (swk L n) (F n) else swF F L n) j = _
    split
    · rw [va_up_ne _ _ (by omega), swF_hi F L n j (by omega)]
    · exact swF_hi F L n j (by omega)
theorem swF_1 {α : Type} (F : Nat → α) {L : Nat → Nat} {n : Nat} (h : 0 < L n) : swF F L (n + 1) = va_up (swF F L n) (swk L n) (F n) := if_pos h
theorem swF_0 {α : Type} (F : Nat → α) {L : Nat → Nat} {n : Nat} (h : ¬ 0 < L n) : swF F L (n + 1) = swF F L n := if_neg h
theorem swk_1 {L : Nat → Nat} {n : Nat} (h : 0 < L n) : swk L (n + 1) = swk L n + 1 := by
  show swk L n + _ = _
  rw [if_pos h]
theorem swk_0 {L : Nat → Nat} {n : Nat} (h : ¬ 0 < L n) : swk L (n + 1) = swk L n := by
  show swk L n + _ = _
  rw [if_neg h, Nat.add_zero]
theorem sw_ps (L : Nat → Nat) : ∀ n, ps (swF L L n) (swk L n) = ps L n
  | 0 => rfl
  | n + 1 => by
    by_cases h : 0 < L n
    · rw [swF_1 L h, swk_1 h]
      show ps (va_up (swF L L n) (swk L n) (L n)) (swk L n) + va_up (swF L L n) (swk L n) (L n) (swk L n) = ps L n + L n
      rw [ps_up_lo (Nat.le_refl _), va_up_self, sw_ps L n]
    · rw [swF_0 L h, swk_0 h, sw_ps L n]
      show ps L n = ps L n + L n
      omega
theorem BL_sweep {sz cn : Nat} {pt : Nat → Int64} {K L : Nat → Nat} {p : Nat → Int64} {w : Nat → Nat} {nu : Nat → Int64} {ne en : Nat → Nat} (h : BL sz cn pt K L p w nu ne en) : ∀ n, n ≤ cn → BL sz (swk L n) pt (swF K L n) (swF L L n) p (swF w L n) (swF nu L n) (swF ne L n) (swF en L n)
  | 0, _ => ⟨h.1, fun i hi => absurd hi (Nat.not_lt_zero _)⟩
  | n + 1, hn => by
    have ih := BL_sweep h n (by omega)
    by_cases hl : 0 < L n
    · rw [swF_1 K hl, swF_1 L hl, swF_1 w hl, swF_1 nu hl, swF_1 ne hl, swF_1 en hl, swk_1 hl]
      refine ⟨h.1, fun i hi => ?_⟩
      by_cases e : i = swk L n
      · subst e
        rw [va_up_self, va_up_self, va_up_self, va_up_self, va_up_self, va_up_self, ps_up_lo (Nat.le_refl _), sw_ps L n]
        exact h.2 n (by omega)
      · rw [va_up_ne _ _ e, va_up_ne _ _ e, va_up_ne _ _ e, va_up_ne _ _ e, va_up_ne _ _ e, va_up_ne _ _ e, ps_up_lo (by omega)]
        exact ih.2 i (by omega)
    · rw [swF_0 K hl, swF_0 L hl, swF_0 w hl, swF_0 nu hl, swF_0 ne hl, swF_0 en hl, swk_0 hl]
      exact ih
theorem sw_each {K L : Nat → Nat} {P : Nat → Nat → Prop} : ∀ (n : Nat), (∀ i, i < n → 0 < L i → P (K i) (L i)) → ∀ i, i < swk L n → 0 < swF L L n i ∧ P (swF K L n i) (swF L L n i)
  | 0, _, i, hi => absurd hi (Nat.not_lt_zero _)
  | n + 1, h, i, hi => by
    have ih := sw_each (K := K) (L := L) (P := P) n (fun j hj => h j (by omega))
    by_cases hl : 0 < L n
    · rw [swk_1 hl] at hi
      rw [swF_1 K hl, swF_1 L hl]
      by_cases e : i = swk L n
      · subst e
        rw [va_up_self, va_up_self]
        exact ⟨hl, h n (by omega) hl⟩
      · rw [va_up_ne _ _ e, va_up_ne _ _ e]
        exact ih i (by omega)
    · rw [swk_0 hl] at hi
      rw [swF_0 K hl, swF_0 L hl]
      exact ih i hi
theorem BI_sweep {sz cn : Nat} {K L : Nat → Nat} (h : BI sz cn K L) : BI sz (swk L cn) (swF K L cn) (swF L L cn) := by
  obtain ⟨h1, h2, h3, h4, h5⟩ := h
  have key := sw_each (K := K) (L := L) (P := fun a b => (a = 110 ∨ a = 112 ∨ a = 116) ∧ (a = 110 → b = 1)) cn (fun i hi _ => h3 i hi)
  refine ⟨h1, by rw [sw_ps]; exact h2, fun i hi => (key i hi).2, fun z => ?_, fun _ i hi _ z => ?_⟩
  · have := swk_le L cn
    have := h4 z
    omega
  · have := (key i hi).1
    omega
theorem lgc_eq {x y : Int64} (h : x = y) : lg_cmp x y = nI 0 := (lg_cmp_eq x y).mpr h
theorem up_same {α : Type} {F : Nat → α} {j : Nat} {v : α} (h : F j = v) : va_up F j v = F := by
  funext a
  by_cases q : a = j
  · subst q; rw [va_up_self, h]
  · rw [va_up_ne _ _ q]
theorem min_nI {a b : Nat} (ha : a < 2 ^ 31) (hb : b < 2 ^ 31) : (if nI b < nI a then nI b else nI a) = nI (min a b) := by
  by_cases h : b < a
  · rw [if_pos (nI_lt h ha), Nat.min_eq_right (by omega)]
  · rw [if_neg (nI_nlt (by omega) hb), Nat.min_eq_left (by omega)]
def crum (most : Nat) : Nat → Nat → Nat → (Nat → Nat) → (Nat → Nat) → Nat × (Nat → Nat) × (Nat → Nat)
  | 0, _, cn, K, L => (cn, K, L)
  | f + 1, i, cn, K, L => if i < cn then (if K i = 112 ∧ most < L i then crum most f i (cn + 1) (insN K i 1 112) (insN (va_up L i (L i - L i / 2)) i 1 (L i / 2)) else crum most f (i + 1) cn K L) else (cn, K, L)
theorem crum_split {most f i cn : Nat} {K L : Nat → Nat} (hf : 0 < f) (hi : i < cn) (h : K i = 112 ∧ most < L i) : crum most f i cn K L = crum most (f - 1) i (cn + 1) (insN K i 1 112) (insN (va_up L i (L i - L i / 2)) i 1 (L i / 2)) := by
  obtain ⟨g, rfl⟩ : ∃ g, f = g + 1 := ⟨f - 1, by omega⟩
  show (if i < cn then _ else _) = _
  rw [if_pos hi, if_pos h]
  rfl
theorem crum_next {most f i cn : Nat} {K L : Nat → Nat} (hf : 0 < f) (hi : i < cn) (h : ¬ (K i = 112 ∧ most < L i)) : crum most f i cn K L = crum most (f - 1) (i + 1) cn K L := by
  obtain ⟨g, rfl⟩ : ∃ g, f = g + 1 := ⟨f - 1, by omega⟩
  show (if i < cn then _ else _) = _
  rw [if_pos hi, if_neg h]
  rfl
theorem crum_end {most f i cn : Nat} {K L : Nat → Nat} (hi : cn ≤ i) : crum most f i cn K L = (cn, K, L) := by
  cases f with
  | zero => rfl
  | succ g =>
    show (if i < cn then _ else _) = _
    rw [if_neg (by omega)]
theorem crum_BI {most sz : Nat} (hm : 0 < most) : ∀ (f i cn : Nat) (K L : Nat → Nat), BI sz cn K L → BI sz (crum most f i cn K L).1 (crum most f i cn K L).2.1 (crum most f i cn K L).2.2
  | 0, _, _, _, _, h => h
  | f + 1, i, cn, K, L, h => by
    by_cases hi : i < cn
    · by_cases hk : K i = 112 ∧ most < L i
      · rw [crum_split (Nat.succ_pos _) hi hk]
        exact crum_BI hm f i _ _ _ (BI_half h hi hk.1 (by omega))
      · rw [crum_next (Nat.succ_pos _) hi hk]
        exact crum_BI hm f (i + 1) _ _ _ h
    · rw [crum_end (by omega)]
      exact h
theorem BL_start {b a : Nat} {pt : Nat → Int64} {f : Nat → Int64} {w : Nat → Nat} {nu : Nat → Int64} {ne en : Nat → Nat} : BL (b - a) 1 (fun j => f (a + j)) (fun _ => 112) (fun _ => b - a) (gvF pt 0 (b - a) (fun j => f (a + j))) (va_up w 0 112) nu (va_up ne 0 0) (va_up en 0 (b - a)) := by
  refine ⟨fun j hj => ?_, fun i hi => ?_⟩
  · rw [gvF_in (Nat.zero_le _) (by omega)]
    rfl
  · obtain rfl : i = 0 := by omega
    rw [va_up_self, va_up_self, va_up_self]
    exact ⟨rfl, fun z => absurd z (by decide), fun _ => ⟨rfl, (Nat.zero_add _).symm⟩⟩
