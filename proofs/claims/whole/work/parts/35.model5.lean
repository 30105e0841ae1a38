theorem giv_K {β : TB} {i u : Nat} {k0 : Nat → Nat} {c : Nat} (h : ∀ j, j < c → k0 j = insN β.2.2.2.2.1 i u 110 j) (hi : i ≤ c) : ∀ j, j < c + 1 → entF k0 i c 110 j = insN β.2.2.2.2.1 i (u + 1) 110 j := fun j hj => by
  rw [← ins_succ]
  exact ent_ins h hi j hj
theorem giv_L {L : Nat → Nat} {i u : Nat} {l0 : Nat → Nat} {c : Nat} (h : ∀ j, j < c → l0 j = insN L i u 1 j) (hi : i ≤ c) : ∀ j, j < c + 1 → entF l0 i c 1 j = insN L i (u + 1) 1 j := fun j hj => by
  rw [← ins_succ]
  exact ent_ins h hi j hj
theorem sw_agree {α : Type} {f g : Nat → α} {L : Nat → Nat} : ∀ n, (∀ k, k < n → f k = g k) → ∀ k, k < swk L n → swF f L n k = swF g L n k
  | 0, _, k, hk => absurd hk (Nat.not_lt_zero _)
  | n + 1, h, k, hk => by
    by_cases q : 0 < L n
    · rw [swF_1 _ q, swF_1 _ q, h n (by omega)]
      rw [swk_1 q] at hk
      by_cases e : k = swk L n
      · subst e; rw [va_up_self, va_up_self]
      · rw [va_up_ne _ _ e, va_up_ne _ _ e]
        exact sw_agree n (fun k hk => h k (by omega)) k (by omega)
    · rw [swF_0 _ q, swF_0 _ q]
      rw [swk_0 q] at hk
      exact sw_agree n (fun k hk => h k (by omega)) k hk
theorem swF_lt {N : Nat} {f L : Nat → Nat} (h : ∀ j, f j < N) : ∀ n j, swF f L n j < N
  | 0, j => h j
  | n + 1, j => by
    by_cases q : 0 < L n
    · rw [swF_1 _ q]; exact up_lt (swF_lt h n) (h n) j
    · rw [swF_0 _ q]; exact swF_lt h n j

set_option maxHeartbeats 4000000 in
set_option maxRecDepth 100000 in
theorem mX3_step_ok (l : Launch) (D : va_G) (cT : Nat → ClassId) (n : Nat) (ad : Nat → Nat) (A : Nat → Prop) (hD : ∀ G, va_D A (gw n ad G)) (G : Nat → va_E) (hn : 114 ≤ n) (σ : TY) (hI : YI σ) (th : Nat) (hM : MW cT ad G σ th)(b i : Nat) (hb6 : b < 6) (hi : i < (σ.2 b).2.1) (hk9 : (σ.2 b).2.2.2.2.1 i ≠ 110) : Met l yX3_step (wA yX3_step cX3_step 3 (some .boolean)) ({ frames := 3, cells := 0, slots := 0, locals := 66 } : Room) (PG D cT n ad A G [.ref (ad 69), .int (nI b), .int (nI i)]) (QG D n ad A (fun v G1 => (v = some (.int (nI (min 1 ((σ.2 b).2.2.2.2.2 i)))) ∧ MW cT ad G1 (setB σ b (giveB (σ.2 b) i (min 1 ((σ.2 b).2.2.2.2.2 i)))) 0) ∧ ∀ j, (j < 69 ∨ 114 ≤ j) → G1 j = G j)) 0 0 A := by
  refine Met.ofG (cc := cX3_step) (maxL := 3) (ret := (some .boolean)) (by decide) (Nat.le_of_ble_eq_true rfl) ?_
  intro p e s m args below meth c Q hQ hx hb hr hml hlocks hown hw hP hK hE hA hS ls hl
  have hl : lv_has ls 3 [(0, .ref (ad 69)), (1, .int (nI b)), (2, .int (nI i))] := hl
  obtain ⟨rf, sf, pf, zf, xf, kf, lf, mf, hC, hMA⟩ := hM
  obtain ⟨hz, hm, hxx, hpp, hkl⟩ := hMA.2 b (by omega)
  obtain ⟨hit, hbx⟩ := hI.2 b (by omega)
  have hcap := BI_cap hit
  have h48 := hit.1
  obtain ⟨hki, hli⟩ := hkl i hi
  have hik := (hit.2.2.1 i hi).1
  have hpl := ps_step (σ.2 b).2.2.2.2.2 hi
  have hpz := hit.2.1
  have hk16 := hC.2.2.2.2.2.2.2.2.2.2.2.2.2.2.2.1 b hb6 i
  refine lv_aload_n hx hb dX3_step_0 rfl (lv_at hl 0 rfl) ?_
  refine lv_iload_n hx hb dX3_step_1 rfl (lv_at hl 1 rfl) ?_
  refine lv_iload_n hx hb dX3_step_2 rfl (lv_at hl 2 rfl) ?_
  refine lv_bipush (v := nI 112) hx hb dX3_step_3 (by decide) ?_
  refine lv_bipush (v := nI 116) hx hb dX3_step_5 (by decide) ?_
  refine g_callV (As := [.int (nI b), .int (nI i), .int (nI 112), .int (nI 116)]) (rest := []) ⟨hx, hb, hml, hown, hw⟩ (mX3_isOf_ok l D cT n ad A hD G hn σ hI th rf sf pf zf xf kf lf mf hC hMA b i (by omega) (by omega) 112 116 (by omega) (by omega)) (cwV 4 hw (gWV wm_X3_78 wi_X3_isOf wse_X3_isOf wini_X3 wc_X3_isOf) rfl rfl rfl (by decide +kernel) ⟨Nat.le_of_ble_eq_true rfl, Nat.le_of_ble_eq_true rfl⟩) hK hE hA hP hS (k := 69) (by omega) hC.1 rfl rfl hl.1 (lv_room (Nat.le_of_ble_eq_true rfl)) dX3_step_7 ⟨Nat.le_of_ble_eq_true rfl, Nat.le_of_ble_eq_true rfl⟩ (fun v_2 G_1 H locs hp hP hS => ?_)
  obtain ⟨rfl, hg_G_1, ho_G_1⟩ := hp
  rw [if_pos (by omega)] at hg_G_1
  refine t_eqi (nI 1) (congrArg nI (if_pos (by omega))) ?_
  have hc_3 : G_1 69 = .inr (5, [.ref (ad 70), .ref (ad 86), .ref (ad 90), .ref (ad 97), .ref (ad 98), .ref (ad 99), .ref (ad 106), .ref (ad 113), .int (nI 0)]) := hg_G_1
  have hc_4 : G_1 70 = aQ (cT 10) 3 (q3 ad) := (ho_G_1 _ (by omega)).trans hC.2.1
  have hc_5 : G_1 86 = aQ (cT 8) 3 (qS ad) := (ho_G_1 _ (by omega)).trans hC.2.2.2.2.1
  have hc_6 : G_1 90 = aQ (cT 7) 6 (qP ad) := (ho_G_1 _ (by omega)).trans hC.2.2.2.2.2.2.1
  have hc_7 : G_1 97 = aI cT 6 zf := (ho_G_1 _ (by omega)).trans hC.2.2.2.2.2.2.2.2.1
  have hc_8 : G_1 98 = aZ cT 6 xf := (ho_G_1 _ (by omega)).trans hC.2.2.2.2.2.2.2.2.2.1
  have hc_9 : G_1 99 = aQ (cT 9) 6 (qK ad) := (ho_G_1 _ (by omega)).trans hC.2.2.2.2.2.2.2.2.2.2.1
  have hc_10 : G_1 106 = aQ (cT 8) 6 (qL ad) := (ho_G_1 _ (by omega)).trans hC.2.2.2.2.2.2.2.2.2.2.2.2.1
  have hc_11 : G_1 113 = aI cT 6 mf := (ho_G_1 _ (by omega)).trans hC.2.2.2.2.2.2.2.2.2.2.2.2.2.2.1
  have hc_12 : G_1 (91 + b) = aJ cT 48 (pf b) := (ho_G_1 _ (by omega)).trans (hC.2.2.2.2.2.2.2.1 b (by omega))
  have hc_13 : G_1 (100 + b) = aC cT 128 (kf b) := (ho_G_1 _ (by omega)).trans (hC.2.2.2.2.2.2.2.2.2.2.2.1 b (by omega))
  have hc_14 : G_1 (107 + b) = aI cT 128 (lf b) := (ho_G_1 _ (by omega)).trans (hC.2.2.2.2.2.2.2.2.2.2.2.2.2.1 b (by omega))
  have hfr_15 : ∀ j, (j ≠ 69) → G_1 j = G j := fun j hj => (ho_G_1 j (by omega)).trans (rfl)
  refine t_if_eq (tgt := 24) hx hb dX3_step_10 (by decide) (by omega) (fun c_16 => absurd c_16 (by omega)) (fun c_16 => ?_)
  refine lv_aload_n hx hb dX3_step_13 rfl (lv_at hl 0 rfl) ?_
  refine g_get (C := RX3) (T := TX3) (N := 9) hx hb hw inX3 hown hK hP (i := 69) (by omega) hc_3 rfl 6 (by decide) (hw _ wf_X3_37) rfl dX3_step_14 ?_
  refine lv_iload_n hx hb dX3_step_17 rfl (lv_at hl 1 rfl) ?_
  refine g_aald hx hb hK hP 8 (i := 106) (by omega) hc_10 rfl rfl (k := (ad (107 + b))) (by omega) (by omega) (qL_at (by omega)) dX3_step_18 ?_
  refine lv_iload_n hx hb dX3_step_19 rfl (lv_at hl 2 rfl) ?_
  refine g_iald hx hb hK hP (i := (107 + b)) (by omega) hc_14 (by omega) (by omega) dX3_step_20 ?_
  refine t_if_ne (tgt := 26) hx hb dX3_step_21 (by decide) (by omega) (fun c_17 => ?_) (fun c_17 => ?_)
  · skip
    have hfr_18 : ∀ j, j ≠ 69 ∧ j ≠ 100 + b ∧ j ≠ 107 + b ∧ j ≠ 113 → G_1 j = G j := fun j hj => hfr_15 j (hj.1)
    have hl16 := (hC.2.2.2.2.2.2.2.2.2.2.2.2.2.2.2.2 b hb6) i
    have hl8 := up_lt (hC.2.2.2.2.2.2.2.2.2.2.2.2.2.2.2.2 b hb6) (i := i) (v := lf b i - 1) (by omega)
    refine lv_aload_n hx hb dX3_step_26 rfl (lv_at hl 0 rfl) ?_
    refine g_get (C := RX3) (T := TX3) (N := 9) hx hb hw inX3 hown hK hP (i := 69) (by omega) hc_3 rfl 6 (by decide) (hw _ wf_X3_37) rfl dX3_step_27 ?_
    refine lv_iload_n hx hb dX3_step_30 rfl (lv_at hl 1 rfl) ?_
    refine g_aald hx hb hK hP 8 (i := 106) (by omega) hc_10 rfl rfl (k := (ad (107 + b))) (by omega) (by omega) (qL_at (by omega)) dX3_step_31 ?_
    refine lv_iload_n hx hb dX3_step_32 rfl (lv_at hl 2 rfl) ?_
    refine lv_dup2_11 hx hb dX3_step_33 rfl rfl ?_
    refine g_iald hx hb hK hP (i := (107 + b)) (by omega) hc_14 (by omega) (by omega) dX3_step_34 ?_
    refine lv_iconst (v := nI 1) hx hb dX3_step_35 (by decide) ?_
    refine lv_isub hx hb dX3_step_36 ?_
    refine t_eqi (nI (((lf b) i) - 1)) (pk_sub (by omega)) ?_
    refine g_iast hx hb hK hP hD hS (i := (107 + b)) (by omega) hc_14 (by omega) (by omega) dX3_step_37 (fun G_19 H locs hg_G_19 ho_G_19 hP hS => ?_)
    have hc_20 : G_19 69 = .inr (5, [.ref (ad 70), .ref (ad 86), .ref (ad 90), .ref (ad 97), .ref (ad 98), .ref (ad 99), .ref (ad 106), .ref (ad 113), .int (nI 0)]) := (ho_G_19 _ (by omega)).trans hc_3
    have hc_21 : G_19 70 = aQ (cT 10) 3 (q3 ad) := (ho_G_19 _ (by omega)).trans hc_4
    have hc_22 : G_19 86 = aQ (cT 8) 3 (qS ad) := (ho_G_19 _ (by omega)).trans hc_5
    have hc_23 : G_19 90 = aQ (cT 7) 6 (qP ad) := (ho_G_19 _ (by omega)).trans hc_6
    have hc_24 : G_19 97 = aI cT 6 zf := (ho_G_19 _ (by omega)).trans hc_7
    have hc_25 : G_19 98 = aZ cT 6 xf := (ho_G_19 _ (by omega)).trans hc_8
    have hc_26 : G_19 99 = aQ (cT 9) 6 (qK ad) := (ho_G_19 _ (by omega)).trans hc_9
    have hc_27 : G_19 106 = aQ (cT 8) 6 (qL ad) := (ho_G_19 _ (by omega)).trans hc_10
    have hc_28 : G_19 113 = aI cT 6 mf := (ho_G_19 _ (by omega)).trans hc_11
    have hc_29 : G_19 (91 + b) = aJ cT 48 (pf b) := (ho_G_19 _ (by omega)).trans hc_12
    have hc_30 : G_19 (100 + b) = aC cT 128 (kf b) := (ho_G_19 _ (by omega)).trans hc_13
    have hc_31 : G_19 (107 + b) = aI cT 128 (va_up (lf b) i (((lf b) i) - 1)) := hg_G_19
    have hfr_32 : ∀ j, j ≠ 69 ∧ j ≠ 100 + b ∧ j ≠ 107 + b ∧ j ≠ 113 → G_19 j = G j := fun j hj => (ho_G_19 j (by omega)).trans (hfr_18 j hj)
    refine lv_aload_n hx hb dX3_step_38 rfl (lv_at hl 0 rfl) ?_
    refine lv_iload_n hx hb dX3_step_39 rfl (lv_at hl 1 rfl) ?_
    refine lv_iload_n hx hb dX3_step_40 rfl (lv_at hl 2 rfl) ?_
    refine lv_bipush (v := nI 110) hx hb dX3_step_41 (by decide) ?_
    refine lv_iconst (v := nI 1) hx hb dX3_step_43 (by decide) ?_
    refine g_callV (As := [.int (nI b), .int (nI i), .int (nI 110), .int (nI 1)]) (rest := []) ⟨hx, hb, hml, hown, hw⟩ (mX3_enter l D cT n ad A hD G_19 hn 0 b i 110 1 (kf b) (va_up (lf b) i (((lf b) i) - 1)) mf hb6 ⟨hc_20, hc_26, hc_27, hc_30, hc_31, hc_28, (hC.2.2.2.2.2.2.2.2.2.2.2.2.2.2.2.1 b hb6), hl8⟩ (by omega) (by omega) (by omega) (by omega)) (cwV 4 hw (gWV wm_X3_86 wi_X3_enter wse_X3_enter wini_X3 wc_X3_enter) rfl rfl rfl (by decide +kernel) ⟨Nat.le_of_ble_eq_true rfl, Nat.le_of_ble_eq_true rfl⟩) hK hE hA hP hS (k := 69) (by omega) hc_20 rfl rfl hl.1 (lv_room (Nat.le_of_ble_eq_true rfl)) dX3_step_44 ⟨Nat.le_of_ble_eq_true rfl, Nat.le_of_ble_eq_true rfl⟩ (fun v_34 G_33 H locs hp hP hS => ?_)
    obtain ⟨rfl, hMB_35, hf_36⟩ := hp
    obtain ⟨hO_G_33, hK0_G_33, hL0_G_33, hk0_G_33, hl0_G_33, hm9_G_33, hk9_G_33, hl9_G_33⟩ := id hMB_35
    have hc_37 : G_33 70 = aQ (cT 10) 3 (q3 ad) := (hf_36 _ (by omega) (by omega) (by omega)).trans hc_21
    have hc_38 : G_33 86 = aQ (cT 8) 3 (qS ad) := (hf_36 _ (by omega) (by omega) (by omega)).trans hc_22
    have hc_39 : G_33 90 = aQ (cT 7) 6 (qP ad) := (hf_36 _ (by omega) (by omega) (by omega)).trans hc_23
    have hc_40 : G_33 97 = aI cT 6 zf := (hf_36 _ (by omega) (by omega) (by omega)).trans hc_24
    have hc_41 : G_33 98 = aZ cT 6 xf := (hf_36 _ (by omega) (by omega) (by omega)).trans hc_25
    have hc_42 : G_33 (91 + b) = aJ cT 48 (pf b) := (hf_36 _ (by omega) (by omega) (by omega)).trans hc_29
    have hfr_43 : ∀ j, j ≠ 69 ∧ j ≠ 100 + b ∧ j ≠ 107 + b ∧ j ≠ 113 → G_33 j = G j := fun j hj => (hf_36 j (by omega) (by omega) (by omega)).trans (hfr_32 j hj)
    refine lv_iconst (v := nI 1) hx hb dX3_step_47 (by decide) ?_
    refine g_ret hQ hx hb hr hlocks rfl hP hS (⟨⟨by rw [show min 1 ((σ.2 b).2.2.2.2.2 i) = 1 by omega], by rw [show min 1 ((σ.2 b).2.2.2.2.2 i) = 1 by omega]; exact MW.bench hC hMA hb6 hO_G_33 hc_42 hc_40 hc_41 hk0_G_33 hl0_G_33 hm9_G_33 hk9_G_33 hl9_G_33 (fun j9 a1 a2 a3 a4 a5 a6 a7 a8 a9 => hfr_43 j9 ⟨a3, a7, a8, a9⟩) hz (by rw [va_up_self, hm]; rfl) hxx hpp (fun k hk => ⟨by rw [hm]; exact giv_K (u := 0) (c := (σ.2 b).2.1) (fun j hj => by rw [insN_0]; exact (hkl j hj).1) (by omega) k hk, by rw [hm, hli]; exact giv_L (u := 0) (c := (σ.2 b).2.1) (fun j hj => by rw [insN_0]; exact upd_ag (fun k hk => (hkl k hk).2) rfl j hj) (by omega) k hk⟩) (fun c hc => ⟨rfl, rfl, va_up_ne _ _ hc⟩)⟩, fun j hj => hfr_43 j (by omega)⟩) (Nat.le_of_ble_eq_true rfl) (Nat.le_of_ble_eq_true rfl) dX3_step_48
  · skip
    refine lv_iconst (v := nI 0) hx hb dX3_step_24 (by decide) ?_
    refine g_ret hQ hx hb hr hlocks rfl hP hS (⟨⟨by rw [show min 1 ((σ.2 b).2.2.2.2.2 i) = 0 by omega], by rw [show min 1 ((σ.2 b).2.2.2.2.2 i) = 0 by omega, giveB_0, setB_same]; exact MW.same hC hMA hc_3 (fun j9 _ _ hj9 => hfr_15 j9 hj9)⟩, fun j hj => hfr_15 j (by omega)⟩) (Nat.le_of_ble_eq_true rfl) (Nat.le_of_ble_eq_true rfl) dX3_step_25

set_option maxHeartbeats 4000000 in
set_option maxRecDepth 100000 in
theorem mX3_step_no (l : Launch) (D : va_G) (cT : Nat → ClassId) (n : Nat) (ad : Nat → Nat) (A : Nat → Prop) (hD : ∀ G, va_D A (gw n ad G)) (G : Nat → va_E) (hn : 114 ≤ n) (σ : TY) (hI : YI σ) (th : Nat) (hM : MW cT ad G σ th) (x y : Int32) (E : String) (hpx : pxIs σ x y (fun c => c = 110) E) : Met l yX3_step (wA yX3_step cX3_step 3 (some .boolean)) ({ frames := 3, cells := 0, slots := 0, locals := 66 } : Room) (PG D cT n ad A G [.ref (ad 69), .int x, .int y]) (QG D n ad A (fun v G1 => ((∃ z, v = some (.int z)) ∧ MW cT ad G1 σ (cd [xIO, xIS] E)) ∧ ∀ j, (j < 69 ∨ 114 ≤ j) → G1 j = G j)) 0 0 A := by
  refine Met.ofG (cc := cX3_step) (maxL := 3) (ret := (some .boolean)) (by decide) (Nat.le_of_ble_eq_true rfl) ?_
  intro p e s m args below meth c Q hQ hx hb hr hml hlocks hown hw hP hK hE hA hS ls hl
  have hl : lv_has ls 3 [(0, .ref (ad 69)), (1, .int x), (2, .int y)] := hl
  obtain ⟨rf, sf, pf, zf, xf, kf, lf, mf, hC, hMA⟩ := hM
  rcases hpx with hpx | ⟨b, i, hb6, rfl, hi, rfl, hKp, rfl⟩
  · skip
    obtain ⟨hib, rfl⟩ := hpx
    refine lv_aload_n hx hb dX3_step_0 rfl (lv_at hl 0 rfl) ?_
    refine lv_iload_n hx hb dX3_step_1 rfl (lv_at hl 1 rfl) ?_
    refine lv_iload_n hx hb dX3_step_2 rfl (lv_at hl 2 rfl) ?_
    refine lv_bipush (v := nI 112) hx hb dX3_step_3 (by decide) ?_
    refine lv_bipush (v := nI 116) hx hb dX3_step_5 (by decide) ?_
    refine g_callV (As := [.int x, .int y, .int (nI 112), .int (nI 116)]) (rest := []) ⟨hx, hb, hml, hown, hw⟩ (mX3_isOf_bad l D cT n ad A hD G hn σ hI th rf sf pf zf xf kf lf mf hC hMA x y hib 112 116 (by omega) (by omega)) (cwV 4 hw (gWV wm_X3_78 wi_X3_isOf wse_X3_isOf wini_X3 wc_X3_isOf) rfl rfl rfl (by decide +kernel) ⟨Nat.le_of_ble_eq_true rfl, Nat.le_of_ble_eq_true rfl⟩) hK hE hA hP hS (k := 69) (by omega) hC.1 rfl rfl hl.1 (lv_room (Nat.le_of_ble_eq_true rfl)) dX3_step_7 ⟨Nat.le_of_ble_eq_true rfl, Nat.le_of_ble_eq_true rfl⟩ (fun v_2 G_1 H locs hp hP hS => ?_)
    obtain ⟨rfl, hg_G_1, ho_G_1⟩ := hp
    have hc_3 : G_1 69 = .inr (5, [.ref (ad 70), .ref (ad 86), .ref (ad 90), .ref (ad 97), .ref (ad 98), .ref (ad 99), .ref (ad 106), .ref (ad 113), .int (nI 1)]) := hg_G_1
    have hc_4 : G_1 70 = aQ (cT 10) 3 (q3 ad) := (ho_G_1 _ (by omega)).trans hC.2.1
    have hc_5 : G_1 86 = aQ (cT 8) 3 (qS ad) := (ho_G_1 _ (by omega)).trans hC.2.2.2.2.1
    have hc_6 : G_1 90 = aQ (cT 7) 6 (qP ad) := (ho_G_1 _ (by omega)).trans hC.2.2.2.2.2.2.1
    have hc_7 : G_1 97 = aI cT 6 zf := (ho_G_1 _ (by omega)).trans hC.2.2.2.2.2.2.2.2.1
    have hc_8 : G_1 98 = aZ cT 6 xf := (ho_G_1 _ (by omega)).trans hC.2.2.2.2.2.2.2.2.2.1
    have hc_9 : G_1 99 = aQ (cT 9) 6 (qK ad) := (ho_G_1 _ (by omega)).trans hC.2.2.2.2.2.2.2.2.2.2.1
    have hc_10 : G_1 106 = aQ (cT 8) 6 (qL ad) := (ho_G_1 _ (by omega)).trans hC.2.2.2.2.2.2.2.2.2.2.2.2.1
    have hc_11 : G_1 113 = aI cT 6 mf := (ho_G_1 _ (by omega)).trans hC.2.2.2.2.2.2.2.2.2.2.2.2.2.2.1
    have hfr_12 : ∀ j, (j ≠ 69) → G_1 j = G j := fun j hj => (ho_G_1 j (by omega)).trans (rfl)
    refine t_if_eq (tgt := 24) hx hb dX3_step_10 (by decide) (by omega) (fun c_13 => ?_) (fun c_13 => absurd c_13 (by omega))
    refine lv_iconst (v := nI 0) hx hb dX3_step_24 (by decide) ?_
    refine g_ret hQ hx hb hr hlocks rfl hP hS (⟨⟨⟨_, rfl⟩, by rw [show cd [xIO, xIS] xIO = 1 from by decide +kernel]; exact MW.same hC hMA hc_3 (fun j9 _ _ hj9 => hfr_12 j9 hj9)⟩, fun j hj => hfr_12 j (by omega)⟩) (Nat.le_of_ble_eq_true rfl) (Nat.le_of_ble_eq_true rfl) dX3_step_25
  · skip
    obtain ⟨hz, hm, hxx, hpp, hkl⟩ := hMA.2 b (by omega)
    obtain ⟨hit, hbx⟩ := hI.2 b (by omega)
    have hcap := BI_cap hit
    have h48 := hit.1
    obtain ⟨hki, hli⟩ := hkl i hi
    have hik := (hit.2.2.1 i hi).1
    have hpl := ps_step (σ.2 b).2.2.2.2.2 hi
    have hpz := hit.2.1
    have hk16 := hC.2.2.2.2.2.2.2.2.2.2.2.2.2.2.2.1 b hb6 i
    refine lv_aload_n hx hb dX3_step_0 rfl (lv_at hl 0 rfl) ?_
    refine lv_iload_n hx hb dX3_step_1 rfl (lv_at hl 1 rfl) ?_
    refine lv_iload_n hx hb dX3_step_2 rfl (lv_at hl 2 rfl) ?_
    refine lv_bipush (v := nI 112) hx hb dX3_step_3 (by decide) ?_
    refine lv_bipush (v := nI 116) hx hb dX3_step_5 (by decide) ?_
    refine g_callV (As := [.int (nI b), .int (nI i), .int (nI 112), .int (nI 116)]) (rest := []) ⟨hx, hb, hml, hown, hw⟩ (mX3_isOf_ok l D cT n ad A hD G hn σ hI th rf sf pf zf xf kf lf mf hC hMA b i (by omega) (by omega) 112 116 (by omega) (by omega)) (cwV 4 hw (gWV wm_X3_78 wi_X3_isOf wse_X3_isOf wini_X3 wc_X3_isOf) rfl rfl rfl (by decide +kernel) ⟨Nat.le_of_ble_eq_true rfl, Nat.le_of_ble_eq_true rfl⟩) hK hE hA hP hS (k := 69) (by omega) hC.1 rfl rfl hl.1 (lv_room (Nat.le_of_ble_eq_true rfl)) dX3_step_7 ⟨Nat.le_of_ble_eq_true rfl, Nat.le_of_ble_eq_true rfl⟩ (fun v_15 G_14 H locs hp hP hS => ?_)
    obtain ⟨rfl, hg_G_14, ho_G_14⟩ := hp
    rw [if_neg (by omega)] at hg_G_14
    refine t_eqi (nI 0) (congrArg nI (if_neg (by omega))) ?_
    have hc_16 : G_14 69 = .inr (5, [.ref (ad 70), .ref (ad 86), .ref (ad 90), .ref (ad 97), .ref (ad 98), .ref (ad 99), .ref (ad 106), .ref (ad 113), .int (nI 2)]) := hg_G_14
    have hc_17 : G_14 70 = aQ (cT 10) 3 (q3 ad) := (ho_G_14 _ (by omega)).trans hC.2.1
    have hc_18 : G_14 86 = aQ (cT 8) 3 (qS ad) := (ho_G_14 _ (by omega)).trans hC.2.2.2.2.1
    have hc_19 : G_14 90 = aQ (cT 7) 6 (qP ad) := (ho_G_14 _ (by omega)).trans hC.2.2.2.2.2.2.1
    have hc_20 : G_14 97 = aI cT 6 zf := (ho_G_14 _ (by omega)).trans hC.2.2.2.2.2.2.2.2.1
    have hc_21 : G_14 98 = aZ cT 6 xf := (ho_G_14 _ (by omega)).trans hC.2.2.2.2.2.2.2.2.2.1
    have hc_22 : G_14 99 = aQ (cT 9) 6 (qK ad) := (ho_G_14 _ (by omega)).trans hC.2.2.2.2.2.2.2.2.2.2.1
    have hc_23 : G_14 106 = aQ (cT 8) 6 (qL ad) := (ho_G_14 _ (by omega)).trans hC.2.2.2.2.2.2.2.2.2.2.2.2.1
    have hc_24 : G_14 113 = aI cT 6 mf := (ho_G_14 _ (by omega)).trans hC.2.2.2.2.2.2.2.2.2.2.2.2.2.2.1
    have hc_25 : G_14 (91 + b) = aJ cT 48 (pf b) := (ho_G_14 _ (by omega)).trans (hC.2.2.2.2.2.2.2.1 b (by omega))
    have hc_26 : G_14 (100 + b) = aC cT 128 (kf b) := (ho_G_14 _ (by omega)).trans (hC.2.2.2.2.2.2.2.2.2.2.2.1 b (by omega))
    have hc_27 : G_14 (107 + b) = aI cT 128 (lf b) := (ho_G_14 _ (by omega)).trans (hC.2.2.2.2.2.2.2.2.2.2.2.2.2.1 b (by omega))
    have hfr_28 : ∀ j, (j ≠ 69) → G_14 j = G j := fun j hj => (ho_G_14 j (by omega)).trans (rfl)
    refine t_if_eq (tgt := 24) hx hb dX3_step_10 (by decide) (by omega) (fun c_29 => ?_) (fun c_29 => absurd c_29 (by omega))
    refine lv_iconst (v := nI 0) hx hb dX3_step_24 (by decide) ?_
    refine g_ret hQ hx hb hr hlocks rfl hP hS (⟨⟨⟨_, rfl⟩, by rw [show cd [xIO, xIS] xIS = 2 from by decide +kernel]; exact MW.same hC hMA hc_16 (fun j9 _ _ hj9 => hfr_28 j9 hj9)⟩, fun j hj => hfr_28 j (by omega)⟩) (Nat.le_of_ble_eq_true rfl) (Nat.le_of_ble_eq_true rfl) dX3_step_25

set_option maxHeartbeats 4000000 in
set_option maxRecDepth 100000 in
theorem mX3_drain_ok (l : Launch) (D : va_G) (cT : Nat → ClassId) (n : Nat) (ad : Nat → Nat) (A : Nat → Prop) (hD : ∀ G, va_D A (gw n ad G)) (G : Nat → va_E) (hn : 114 ≤ n) (σ : TY) (hI : YI σ) (th : Nat) (hM : MW cT ad G σ th)(b i : Nat) (hb6 : b < 6) (hi : i < (σ.2 b).2.1) (hk9 : (σ.2 b).2.2.2.2.1 i ≠ 110) : Met l yX3_drain (wA yX3_drain cX3_drain 5 (some .int)) ({ frames := 3, cells := 0, slots := 0, locals := 66 } : Room) (PG D cT n ad A G [.ref (ad 69), .int (nI b), .int (nI i)]) (QG D n ad A (fun v G1 => (v = some (.int (nI (min 48 ((σ.2 b).2.2.2.2.2 i)))) ∧ MW cT ad G1 (setB σ b (giveB (σ.2 b) i (min 48 ((σ.2 b).2.2.2.2.2 i)))) 0) ∧ ∀ j, (j < 69 ∨ 114 ≤ j) → G1 j = G j)) 0 0 A := by
  refine Met.ofG (cc := cX3_drain) (maxL := 5) (ret := (some .int)) (by decide) (Nat.le_of_ble_eq_true rfl) ?_
  intro p e s m args below meth c Q hQ hx hb hr hml hlocks hown hw hP hK hE hA hS ls hl
  have hl : lv_has ls 5 [(0, .ref (ad 69)), (1, .int (nI b)), (2, .int (nI i))] := hl
  obtain ⟨rf, sf, pf, zf, xf, kf, lf, mf, hC, hMA⟩ := hM
  obtain ⟨hz, hm, hxx, hpp, hkl⟩ := hMA.2 b (by omega)
  obtain ⟨hit, hbx⟩ := hI.2 b (by omega)
  have hcap := BI_cap hit
  have h48 := hit.1
  obtain ⟨hki, hli⟩ := hkl i hi
  have hik := (hit.2.2.1 i hi).1
  have hpl := ps_step (σ.2 b).2.2.2.2.2 hi
  have hpz := hit.2.1
  have hk16 := hC.2.2.2.2.2.2.2.2.2.2.2.2.2.2.2.1 b hb6 i
  have hcg := BI_cap (BI_give hit hi hk9 (Nat.le_refl _))
  have hL48 : (σ.2 b).2.2.2.2.2 i ≤ 48 := by omega
  refine lv_aload_n hx hb dX3_drain_0 rfl (lv_at hl 0 rfl) ?_
  refine lv_iload_n hx hb dX3_drain_1 rfl (lv_at hl 1 rfl) ?_
  refine lv_iload_n hx hb dX3_drain_2 rfl (lv_at hl 2 rfl) ?_
  refine lv_bipush (v := nI 112) hx hb dX3_drain_3 (by decide) ?_
  refine lv_bipush (v := nI 116) hx hb dX3_drain_5 (by decide) ?_
  refine g_callV (As := [.int (nI b), .int (nI i), .int (nI 112), .int (nI 116)]) (rest := []) ⟨hx, hb, hml, hown, hw⟩ (mX3_isOf_ok l D cT n ad A hD G hn σ hI th rf sf pf zf xf kf lf mf hC hMA b i (by omega) (by omega) 112 116 (by omega) (by omega)) (cwV 4 hw (gWV wm_X3_78 wi_X3_isOf wse_X3_isOf wini_X3 wc_X3_isOf) rfl rfl rfl (by decide +kernel) ⟨Nat.le_of_ble_eq_true rfl, Nat.le_of_ble_eq_true rfl⟩) hK hE hA hP hS (k := 69) (by omega) hC.1 rfl rfl hl.1 (lv_room (Nat.le_of_ble_eq_true rfl)) dX3_drain_7 ⟨Nat.le_of_ble_eq_true rfl, Nat.le_of_ble_eq_true rfl⟩ (fun v_2 G_1 H locs hp hP hS => ?_)
  obtain ⟨rfl, hg_G_1, ho_G_1⟩ := hp
  rw [if_pos (by omega)] at hg_G_1
  refine t_eqi (nI 1) (congrArg nI (if_pos (by omega))) ?_
  have hc_3 : G_1 69 = .inr (5, [.ref (ad 70), .ref (ad 86), .ref (ad 90), .ref (ad 97), .ref (ad 98), .ref (ad 99), .ref (ad 106), .ref (ad 113), .int (nI 0)]) := hg_G_1
  have hc_4 : G_1 70 = aQ (cT 10) 3 (q3 ad) := (ho_G_1 _ (by omega)).trans hC.2.1
  have hc_5 : G_1 86 = aQ (cT 8) 3 (qS ad) := (ho_G_1 _ (by omega)).trans hC.2.2.2.2.1
  have hc_6 : G_1 90 = aQ (cT 7) 6 (qP ad) := (ho_G_1 _ (by omega)).trans hC.2.2.2.2.2.2.1
  have hc_7 : G_1 97 = aI cT 6 zf := (ho_G_1 _ (by omega)).trans hC.2.2.2.2.2.2.2.2.1
  have hc_8 : G_1 98 = aZ cT 6 xf := (ho_G_1 _ (by omega)).trans hC.2.2.2.2.2.2.2.2.2.1
  have hc_9 : G_1 99 = aQ (cT 9) 6 (qK ad) := (ho_G_1 _ (by omega)).trans hC.2.2.2.2.2.2.2.2.2.2.1
  have hc_10 : G_1 106 = aQ (cT 8) 6 (qL ad) := (ho_G_1 _ (by omega)).trans hC.2.2.2.2.2.2.2.2.2.2.2.2.1
  have hc_11 : G_1 113 = aI cT 6 mf := (ho_G_1 _ (by omega)).trans hC.2.2.2.2.2.2.2.2.2.2.2.2.2.2.1
  have hc_12 : G_1 (91 + b) = aJ cT 48 (pf b) := (ho_G_1 _ (by omega)).trans (hC.2.2.2.2.2.2.2.1 b (by omega))
  have hc_13 : G_1 (100 + b) = aC cT 128 (kf b) := (ho_G_1 _ (by omega)).trans (hC.2.2.2.2.2.2.2.2.2.2.2.1 b (by omega))
  have hc_14 : G_1 (107 + b) = aI cT 128 (lf b) := (ho_G_1 _ (by omega)).trans (hC.2.2.2.2.2.2.2.2.2.2.2.2.2.1 b (by omega))
  have hfr_15 : ∀ j, (j ≠ 69) → G_1 j = G j := fun j hj => (ho_G_1 j (by omega)).trans (rfl)
  refine t_if_ne (tgt := 15) hx hb dX3_drain_10 (by decide) (by omega) (fun c_16 => ?_) (fun c_16 => absurd c_16 (by omega))
  refine lv_aload_n hx hb dX3_drain_15 rfl (lv_at hl 0 rfl) ?_
  refine g_get (C := RX3) (T := TX3) (N := 9) hx hb hw inX3 hown hK hP (i := 69) (by omega) hc_3 rfl 6 (by decide) (hw _ wf_X3_37) rfl dX3_drain_16 ?_
  refine lv_iload_n hx hb dX3_drain_19 rfl (lv_at hl 1 rfl) ?_
  refine g_aald hx hb hK hP 8 (i := 106) (by omega) hc_10 rfl rfl (k := (ad (107 + b))) (by omega) (by omega) (qL_at (by omega)) dX3_drain_20 ?_
  refine lv_iload_n hx hb dX3_drain_21 rfl (lv_at hl 2 rfl) ?_
  refine g_iald hx hb hK hP (i := (107 + b)) (by omega) hc_14 (by omega) (by omega) dX3_drain_22 ?_
  refine lv_istore_n (lv' := [(3, .int (nI ((lf b) i))), (0, .ref (ad 69)), (1, .int (nI b)), (2, .int (nI i))]) hx hb dX3_drain_23 rfl hl (by decide) rfl (fun ls hl => ?_)
  have hfr_17 : ∀ j, j ≠ 69 ∧ j ≠ 100 + b ∧ j ≠ 107 + b ∧ j ≠ 113 → G_1 j = G j := fun j hj => hfr_15 j (hj.1)
  refine lv_aload_n hx hb dX3_drain_24 rfl (lv_at hl 1 rfl) ?_
  refine g_get (C := RX3) (T := TX3) (N := 9) hx hb hw inX3 hown hK hP (i := 69) (by omega) hc_3 rfl 6 (by decide) (hw _ wf_X3_37) rfl dX3_drain_25 ?_
  refine lv_iload_n hx hb dX3_drain_28 rfl (lv_at hl 2 rfl) ?_
  refine g_aald hx hb hK hP 8 (i := 106) (by omega) hc_10 rfl rfl (k := (ad (107 + b))) (by omega) (by omega) (qL_at (by omega)) dX3_drain_29 ?_
  refine lv_iload_n hx hb dX3_drain_30 rfl (lv_at hl 3 rfl) ?_
  refine lv_iconst (v := nI 0) hx hb dX3_drain_31 (by decide) ?_
  refine g_iast hx hb hK hP hD hS (i := (107 + b)) (by omega) hc_14 (by omega) (by omega) dX3_drain_32 (fun G_18 H locs hg_G_18 ho_G_18 hP hS => ?_)
  have hc_19 : G_18 69 = .inr (5, [.ref (ad 70), .ref (ad 86), .ref (ad 90), .ref (ad 97), .ref (ad 98), .ref (ad 99), .ref (ad 106), .ref (ad 113), .int (nI 0)]) := (ho_G_18 _ (by omega)).trans hc_3
  have hc_20 : G_18 70 = aQ (cT 10) 3 (q3 ad) := (ho_G_18 _ (by omega)).trans hc_4
  have hc_21 : G_18 86 = aQ (cT 8) 3 (qS ad) := (ho_G_18 _ (by omega)).trans hc_5
  have hc_22 : G_18 90 = aQ (cT 7) 6 (qP ad) := (ho_G_18 _ (by omega)).trans hc_6
  have hc_23 : G_18 97 = aI cT 6 zf := (ho_G_18 _ (by omega)).trans hc_7
  have hc_24 : G_18 98 = aZ cT 6 xf := (ho_G_18 _ (by omega)).trans hc_8
  have hc_25 : G_18 99 = aQ (cT 9) 6 (qK ad) := (ho_G_18 _ (by omega)).trans hc_9
  have hc_26 : G_18 106 = aQ (cT 8) 6 (qL ad) := (ho_G_18 _ (by omega)).trans hc_10
  have hc_27 : G_18 113 = aI cT 6 mf := (ho_G_18 _ (by omega)).trans hc_11
  have hc_28 : G_18 (91 + b) = aJ cT 48 (pf b) := (ho_G_18 _ (by omega)).trans hc_12
  have hc_29 : G_18 (100 + b) = aC cT 128 (kf b) := (ho_G_18 _ (by omega)).trans hc_13
  have hc_30 : G_18 (107 + b) = aI cT 128 (va_up (lf b) i 0) := hg_G_18
  have hfr_31 : ∀ j, j ≠ 69 ∧ j ≠ 100 + b ∧ j ≠ 107 + b ∧ j ≠ 113 → G_18 j = G j := fun j hj => (ho_G_18 j (by omega)).trans (hfr_17 j hj)
  refine lv_iconst (v := nI 0) hx hb dX3_drain_33 (by decide) ?_
  refine lv_istore (lv' := [(4, .int (nI 0)), (3, .int (nI ((lf b) i))), (0, .ref (ad 69)), (1, .int (nI b)), (2, .int (nI i))]) hx hb dX3_drain_34 hl (by decide) rfl (fun ls hl => ?_)
  have hl8 := up_lt (hC.2.2.2.2.2.2.2.2.2.2.2.2.2.2.2.2 b hb6) (i := i) (v := 0) (by omega)
  have key_32 : ∀ (fu : Nat) (u : Nat), (u ≤ lf b i) → (lf b i - u) < fu → ∀ (Gl : Nat → va_E) (H : Heap) (locs : List Loc), (∀ j, (j ≠ 100 + b ∧ j ≠ 107 + b ∧ j ≠ 113) → Gl j = G_18 j) → (∃ k0 l0 m0 : Nat → Nat, MB cT ad Gl 0 b k0 l0 m0 ∧ m0 b = (σ.2 b).2.1 + u ∧ (∀ c, c ≠ b → m0 c = mf c) ∧ (∀ j, j < (σ.2 b).2.1 + u → k0 j = insN (σ.2 b).2.2.2.2.1 i u 110 j) ∧ ∀ j, j < (σ.2 b).2.1 + u → l0 j = insN (va_up (σ.2 b).2.2.2.2.2 i ((σ.2 b).2.2.2.2.2 i - (σ.2 b).2.2.2.2.2 i)) i u 1 j) → va_P D vwCl (gw n ad Gl) H → va_S A s.heap H locs → ∀ ls : Array Slot, lv_has ls 5 [(4, .int (nI u)), (3, .int (nI (lf b i))), (2, .int (nI i)), (1, .int (nI b)), (0, .ref (ad 69))] → W p l e ({ frames := 3, cells := 0, slots := 0, locals := 66 } : Room) s m args below meth c H locs 0 0 Q (F0 m 36 ls []) := by
    intro fu_33
    induction fu_33 with
    | zero => intros; exfalso; omega
    | succ fu_33 ih_34 =>
      intro u hu hfu_35 Gl H locs hfL hEL hP hS ls hl
      obtain ⟨k0, l0, m0, ⟨hO, hK0, hL0, hk0, hl0, hm9, hk8, hl8⟩, hmu, hmo, hak, hal⟩ := hEL
      have hc_36 : Gl (91 + b) = aJ cT 48 (pf b) := (hfL _ (by omega)).trans (hc_28)
      have hc_37 : Gl 97 = aI cT 6 zf := (hfL _ (by omega)).trans (hc_23)
      have hc_38 : Gl 98 = aZ cT 6 xf := (hfL _ (by omega)).trans (hc_24)
      have hfM_39 : ∀ j, j ≠ 69 ∧ j ≠ 100 + b ∧ j ≠ 107 + b ∧ j ≠ 113 → Gl j = G j := fun j hj => (hfL j (by omega)).trans (hfr_31 j hj)
      refine lv_iload hx hb dX3_drain_36 (lv_at hl 0 rfl) ?_
      refine lv_iload_n hx hb dX3_drain_38 rfl (lv_at hl 1 rfl) ?_
      refine t_icmp_ge (tgt := 57) hx hb dX3_drain_39 (by decide) (by omega) (by omega) (fun c_40 => ?_) (fun c_40 => ?_)
      · skip
        obtain rfl : u = (σ.2 b).2.2.2.2.2 i := by omega
        refine lv_iload_n hx hb dX3_drain_57 rfl (lv_at hl 1 rfl) ?_
        refine g_ret hQ hx hb hr hlocks rfl hP hS (⟨⟨by rw [show min 48 ((σ.2 b).2.2.2.2.2 i) = (σ.2 b).2.2.2.2.2 i by omega, hli], by rw [show min 48 ((σ.2 b).2.2.2.2.2 i) = (σ.2 b).2.2.2.2.2 i by omega]; exact MW.bench hC hMA hb6 hO hc_36 hc_37 hc_38 hk0 hl0 hm9 hk8 hl8 (fun j9 a1 a2 a3 a4 a5 a6 a7 a8 a9 => hfM_39 j9 ⟨a3, a7, a8, a9⟩) hz (by rw [hmu]; rfl) hxx hpp (fun k hk => ⟨hak k hk, hal k hk⟩) (fun c hc => ⟨rfl, rfl, hmo c hc⟩)⟩, fun j hj => hfM_39 j (by omega)⟩) (Nat.le_of_ble_eq_true rfl) (Nat.le_of_ble_eq_true rfl) dX3_drain_58
      · skip
        refine lv_aload_n hx hb dX3_drain_42 rfl (lv_at hl 4 rfl) ?_
        refine lv_iload_n hx hb dX3_drain_43 rfl (lv_at hl 3 rfl) ?_
        refine lv_iload_n hx hb dX3_drain_44 rfl (lv_at hl 2 rfl) ?_
        refine lv_bipush (v := nI 110) hx hb dX3_drain_45 (by decide) ?_
        refine lv_iconst (v := nI 1) hx hb dX3_drain_47 (by decide) ?_
        refine g_callV (As := [.int (nI b), .int (nI i), .int (nI 110), .int (nI 1)]) (rest := []) ⟨hx, hb, hml, hown, hw⟩ (mX3_enter l D cT n ad A hD Gl hn 0 b i 110 1 k0 l0 m0 hb6 ⟨hO, hK0, hL0, hk0, hl0, hm9, hk8, hl8⟩ (by omega) (by omega) (by omega) (by omega)) (cwV 4 hw (gWV wm_X3_86 wi_X3_enter wse_X3_enter wini_X3 wc_X3_enter) rfl rfl rfl (by decide +kernel) ⟨Nat.le_of_ble_eq_true rfl, Nat.le_of_ble_eq_true rfl⟩) hK hE hA hP hS (k := 69) (by omega) hO rfl rfl hl.1 (lv_room (Nat.le_of_ble_eq_true rfl)) dX3_drain_48 ⟨Nat.le_of_ble_eq_true rfl, Nat.le_of_ble_eq_true rfl⟩ (fun v_42 G_41 H locs hp hP hS => ?_)
        obtain ⟨rfl, hMB_43, hf_44⟩ := hp
        obtain ⟨hO_G_41, hK0_G_41, hL0_G_41, hk0_G_41, hl0_G_41, hm9_G_41, hk9_G_41, hl9_G_41⟩ := id hMB_43
        have hc_45 : G_41 (91 + b) = aJ cT 48 (pf b) := (hf_44 _ (by omega) (by omega) (by omega)).trans hc_36
        have hc_46 : G_41 97 = aI cT 6 zf := (hf_44 _ (by omega) (by omega) (by omega)).trans hc_37
        have hc_47 : G_41 98 = aZ cT 6 xf := (hf_44 _ (by omega) (by omega) (by omega)).trans hc_38
        have hfr_48 : ∀ j, j ≠ 69 ∧ j ≠ 100 + b ∧ j ≠ 107 + b ∧ j ≠ 113 → G_41 j = G j := fun j hj => (hf_44 j (by omega) (by omega) (by omega)).trans (hfM_39 j hj)
        refine lv_iinc (v := nI (u + 1)) (lv' := [(4, .int (nI (u + 1))), (3, .int (nI (lf b i))), (2, .int (nI i)), (1, .int (nI b)), (0, .ref (ad 69))]) hx hb dX3_drain_51 hl (k := 0) rfl (by exact nI_add u 1) (by decide) rfl (fun ls hl => ?_)
        refine lv_goto (tgt := 36) hx hb dX3_drain_54 (by decide) ?_
        have hfn_49 : ∀ j, (j ≠ 100 + b ∧ j ≠ 107 + b ∧ j ≠ 113) → G_41 j = G_18 j := fun j hj => (hf_44 j hj.1 hj.2.1 hj.2.2).trans (hfL j hj)
        exact ih_34 (u + 1) (by omega) (by omega) _ _ _ (hfn_49) (⟨_, _, _, hMB_43, by rw [va_up_self, hmu]; rfl, fun c hc => (va_up_ne _ _ hc).trans (hmo c hc), fun j hj => by rw [hmu]; exact giv_K hak (by omega) j hj, fun j hj => by rw [hmu]; exact giv_L hal (by omega) j hj⟩) hP hS ls (lv_sub hl [0, 1, 2, 3, 4] rfl)
  exact key_32 _ 0 (by omega) (Nat.lt_succ_self _) _ _ _ (fun _ _ => rfl) (⟨_, _, _, ⟨hc_19, hc_25, hc_26, hc_29, hc_30, hc_27, (hC.2.2.2.2.2.2.2.2.2.2.2.2.2.2.2.1 b hb6), hl8⟩, hm, fun _ _ => rfl, fun j hj => by rw [insN_0]; exact (hkl j (by omega)).1, fun j hj => by rw [insN_0, Nat.sub_self]; exact upd_ag (fun k hk => (hkl k (by omega)).2) rfl j hj⟩) hP hS ls (lv_sub hl [0, 1, 4, 3, 2] rfl)

set_option maxHeartbeats 4000000 in
set_option maxRecDepth 100000 in
theorem mX3_drain_no (l : Launch) (D : va_G) (cT : Nat → ClassId) (n : Nat) (ad : Nat → Nat) (A : Nat → Prop) (hD : ∀ G, va_D A (gw n ad G)) (G : Nat → va_E) (hn : 114 ≤ n) (σ : TY) (hI : YI σ) (th : Nat) (hM : MW cT ad G σ th) (x y : Int32) (E : String) (hpx : pxIs σ x y (fun c => c = 110) E) : Met l yX3_drain (wA yX3_drain cX3_drain 5 (some .int)) ({ frames := 3, cells := 0, slots := 0, locals := 66 } : Room) (PG D cT n ad A G [.ref (ad 69), .int x, .int y]) (QG D n ad A (fun v G1 => ((∃ z, v = some (.int z)) ∧ MW cT ad G1 σ (cd [xIO, xIS] E)) ∧ ∀ j, (j < 69 ∨ 114 ≤ j) → G1 j = G j)) 0 0 A := by
  refine Met.ofG (cc := cX3_drain) (maxL := 5) (ret := (some .int)) (by decide) (Nat.le_of_ble_eq_true rfl) ?_
  intro p e s m args below meth c Q hQ hx hb hr hml hlocks hown hw hP hK hE hA hS ls hl
  have hl : lv_has ls 5 [(0, .ref (ad 69)), (1, .int x), (2, .int y)] := hl
  obtain ⟨rf, sf, pf, zf, xf, kf, lf, mf, hC, hMA⟩ := hM
  rcases hpx with hpx | ⟨b, i, hb6, rfl, hi, rfl, hKp, rfl⟩
  · skip
    obtain ⟨hib, rfl⟩ := hpx
    refine lv_aload_n hx hb dX3_drain_0 rfl (lv_at hl 0 rfl) ?_
    refine lv_iload_n hx hb dX3_drain_1 rfl (lv_at hl 1 rfl) ?_
    refine lv_iload_n hx hb dX3_drain_2 rfl (lv_at hl 2 rfl) ?_
    refine lv_bipush (v := nI 112) hx hb dX3_drain_3 (by decide) ?_
    refine lv_bipush (v := nI 116) hx hb dX3_drain_5 (by decide) ?_
    refine g_callV (As := [.int x, .int y, .int (nI 112), .int (nI 116)]) (rest := []) ⟨hx, hb, hml, hown, hw⟩ (mX3_isOf_bad l D cT n ad A hD G hn σ hI th rf sf pf zf xf kf lf mf hC hMA x y hib 112 116 (by omega) (by omega)) (cwV 4 hw (gWV wm_X3_78 wi_X3_isOf wse_X3_isOf wini_X3 wc_X3_isOf) rfl rfl rfl (by decide +kernel) ⟨Nat.le_of_ble_eq_true rfl, Nat.le_of_ble_eq_true rfl⟩) hK hE hA hP hS (k := 69) (by omega) hC.1 rfl rfl hl.1 (lv_room (Nat.le_of_ble_eq_true rfl)) dX3_drain_7 ⟨Nat.le_of_ble_eq_true rfl, Nat.le_of_ble_eq_true rfl⟩ (fun v_2 G_1 H locs hp hP hS => ?_)
    obtain ⟨rfl, hg_G_1, ho_G_1⟩ := hp
    have hc_3 : G_1 69 = .inr (5, [.ref (ad 70), .ref (ad 86), .ref (ad 90), .ref (ad 97), .ref (ad 98), .ref (ad 99), .ref (ad 106), .ref (ad 113), .int (nI 1)]) := hg_G_1
    have hc_4 : G_1 70 = aQ (cT 10) 3 (q3 ad) := (ho_G_1 _ (by omega)).trans hC.2.1
    have hc_5 : G_1 86 = aQ (cT 8) 3 (qS ad) := (ho_G_1 _ (by omega)).trans hC.2.2.2.2.1
    have hc_6 : G_1 90 = aQ (cT 7) 6 (qP ad) := (ho_G_1 _ (by omega)).trans hC.2.2.2.2.2.2.1
    have hc_7 : G_1 97 = aI cT 6 zf := (ho_G_1 _ (by omega)).trans hC.2.2.2.2.2.2.2.2.1
    have hc_8 : G_1 98 = aZ cT 6 xf := (ho_G_1 _ (by omega)).trans hC.2.2.2.2.2.2.2.2.2.1
    have hc_9 : G_1 99 = aQ (cT 9) 6 (qK ad) := (ho_G_1 _ (by omega)).trans hC.2.2.2.2.2.2.2.2.2.2.1
    have hc_10 : G_1 106 = aQ (cT 8) 6 (qL ad) := (ho_G_1 _ (by omega)).trans hC.2.2.2.2.2.2.2.2.2.2.2.2.1
    have hc_11 : G_1 113 = aI cT 6 mf := (ho_G_1 _ (by omega)).trans hC.2.2.2.2.2.2.2.2.2.2.2.2.2.2.1
    have hfr_12 : ∀ j, (j ≠ 69) → G_1 j = G j := fun j hj => (ho_G_1 j (by omega)).trans (rfl)
    refine t_if_ne (tgt := 15) hx hb dX3_drain_10 (by decide) (by omega) (fun c_13 => absurd c_13 (by omega)) (fun c_13 => ?_)
    refine lv_iconst (v := nI 0) hx hb dX3_drain_13 (by decide) ?_
    refine g_ret hQ hx hb hr hlocks rfl hP hS (⟨⟨⟨_, rfl⟩, by rw [show cd [xIO, xIS] xIO = 1 from by decide +kernel]; exact MW.same hC hMA hc_3 (fun j9 _ _ hj9 => hfr_12 j9 hj9)⟩, fun j hj => hfr_12 j (by omega)⟩) (Nat.le_of_ble_eq_true rfl) (Nat.le_of_ble_eq_true rfl) dX3_drain_14
  · skip
    obtain ⟨hz, hm, hxx, hpp, hkl⟩ := hMA.2 b (by omega)
    obtain ⟨hit, hbx⟩ := hI.2 b (by omega)
    have hcap := BI_cap hit
    have h48 := hit.1
    obtain ⟨hki, hli⟩ := hkl i hi
    have hik := (hit.2.2.1 i hi).1
    have hpl := ps_step (σ.2 b).2.2.2.2.2 hi
    have hpz := hit.2.1
    have hk16 := hC.2.2.2.2.2.2.2.2.2.2.2.2.2.2.2.1 b hb6 i
    refine lv_aload_n hx hb dX3_drain_0 rfl (lv_at hl 0 rfl) ?_
    refine lv_iload_n hx hb dX3_drain_1 rfl (lv_at hl 1 rfl) ?_
    refine lv_iload_n hx hb dX3_drain_2 rfl (lv_at hl 2 rfl) ?_
    refine lv_bipush (v := nI 112) hx hb dX3_drain_3 (by decide) ?_
    refine lv_bipush (v := nI 116) hx hb dX3_drain_5 (by decide) ?_
    refine g_callV (As := [.int (nI b), .int (nI i), .int (nI 112), .int (nI 116)]) (rest := []) ⟨hx, hb, hml, hown, hw⟩ (mX3_isOf_ok l D cT n ad A hD G hn σ hI th rf sf pf zf xf kf lf mf hC hMA b i (by omega) (by omega) 112 116 (by omega) (by omega)) (cwV 4 hw (gWV wm_X3_78 wi_X3_isOf wse_X3_isOf wini_X3 wc_X3_isOf) rfl rfl rfl (by decide +kernel) ⟨Nat.le_of_ble_eq_true rfl, Nat.le_of_ble_eq_true rfl⟩) hK hE hA hP hS (k := 69) (by omega) hC.1 rfl rfl hl.1 (lv_room (Nat.le_of_ble_eq_true rfl)) dX3_drain_7 ⟨Nat.le_of_ble_eq_true rfl, Nat.le_of_ble_eq_true rfl⟩ (fun v_15 G_14 H locs hp hP hS => ?_)
    obtain ⟨rfl, hg_G_14, ho_G_14⟩ := hp
    rw [if_neg (by omega)] at hg_G_14
    refine t_eqi (nI 0) (congrArg nI (if_neg (by omega))) ?_
    have hc_16 : G_14 69 = .inr (5, [.ref (ad 70), .ref (ad 86), .ref (ad 90), .ref (ad 97), .ref (ad 98), .ref (ad 99), .ref (ad 106), .ref (ad 113), .int (nI 2)]) := hg_G_14
    have hc_17 : G_14 70 = aQ (cT 10) 3 (q3 ad) := (ho_G_14 _ (by omega)).trans hC.2.1
    have hc_18 : G_14 86 = aQ (cT 8) 3 (qS ad) := (ho_G_14 _ (by omega)).trans hC.2.2.2.2.1
    have hc_19 : G_14 90 = aQ (cT 7) 6 (qP ad) := (ho_G_14 _ (by omega)).trans hC.2.2.2.2.2.2.1
    have hc_20 : G_14 97 = aI cT 6 zf := (ho_G_14 _ (by omega)).trans hC.2.2.2.2.2.2.2.2.1
    have hc_21 : G_14 98 = aZ cT 6 xf := (ho_G_14 _ (by omega)).trans hC.2.2.2.2.2.2.2.2.2.1
    have hc_22 : G_14 99 = aQ (cT 9) 6 (qK ad) := (ho_G_14 _ (by omega)).trans hC.2.2.2.2.2.2.2.2.2.2.1
    have hc_23 : G_14 106 = aQ (cT 8) 6 (qL ad) := (ho_G_14 _ (by omega)).trans hC.2.2.2.2.2.2.2.2.2.2.2.2.1
    have hc_24 : G_14 113 = aI cT 6 mf := (ho_G_14 _ (by omega)).trans hC.2.2.2.2.2.2.2.2.2.2.2.2.2.2.1
    have hc_25 : G_14 (91 + b) = aJ cT 48 (pf b) := (ho_G_14 _ (by omega)).trans (hC.2.2.2.2.2.2.2.1 b (by omega))
    have hc_26 : G_14 (100 + b) = aC cT 128 (kf b) := (ho_G_14 _ (by omega)).trans (hC.2.2.2.2.2.2.2.2.2.2.2.1 b (by omega))
    have hc_27 : G_14 (107 + b) = aI cT 128 (lf b) := (ho_G_14 _ (by omega)).trans (hC.2.2.2.2.2.2.2.2.2.2.2.2.2.1 b (by omega))
    have hfr_28 : ∀ j, (j ≠ 69) → G_14 j = G j := fun j hj => (ho_G_14 j (by omega)).trans (rfl)
    refine t_if_ne (tgt := 15) hx hb dX3_drain_10 (by decide) (by omega) (fun c_29 => absurd c_29 (by omega)) (fun c_29 => ?_)
    refine lv_iconst (v := nI 0) hx hb dX3_drain_13 (by decide) ?_
    refine g_ret hQ hx hb hr hlocks rfl hP hS (⟨⟨⟨_, rfl⟩, by rw [show cd [xIO, xIS] xIS = 2 from by decide +kernel]; exact MW.same hC hMA hc_16 (fun j9 _ _ hj9 => hfr_28 j9 hj9)⟩, fun j hj => hfr_28 j (by omega)⟩) (Nat.le_of_ble_eq_true rfl) (Nat.le_of_ble_eq_true rfl) dX3_drain_14

set_option maxHeartbeats 4000000 in
set_option maxRecDepth 100000 in
theorem mX3_iterate_ok (l : Launch) (D : va_G) (cT : Nat → ClassId) (n : Nat) (ad : Nat → Nat) (A : Nat → Prop) (hD : ∀ G, va_D A (gw n ad G)) (G : Nat → va_E) (hn : 114 ≤ n) (σ : TY) (hI : YI σ) (th : Nat) (hM : MW cT ad G σ th)(b i : Nat) (hb6 : b < 6) (hi : i < (σ.2 b).2.1) (hk9 : (σ.2 b).2.2.2.2.1 i = 112) (hbz : (σ.2 b).2.2.1 = 0) : Met l yX3_iterate (wA yX3_iterate cX3_iterate 3 (some .int)) ({ frames := 3, cells := 0, slots := 0, locals := 66 } : Room) (PG D cT n ad A G [.ref (ad 69), .int (nI b), .int (nI i)]) (QG D n ad A (fun v G1 => (v = some (.int (nI ((σ.2 b).2.2.2.2.2 i))) ∧ MW cT ad G1 (setB σ b (iterB (σ.2 b) i)) 0) ∧ ∀ j, (j < 69 ∨ 114 ≤ j) → G1 j = G j)) 0 0 A := by
  refine Met.ofG (cc := cX3_iterate) (maxL := 3) (ret := (some .int)) (by decide) (Nat.le_of_ble_eq_true rfl) ?_
  intro p e s m args below meth c Q hQ hx hb hr hml hlocks hown hw hP hK hE hA hS ls hl
  have hl : lv_has ls 3 [(0, .ref (ad 69)), (1, .int (nI b)), (2, .int (nI i))] := hl
  obtain ⟨rf, sf, pf, zf, xf, kf, lf, mf, hC, hMA⟩ := hM
  obtain ⟨hz, hm, hxx, hpp, hkl⟩ := hMA.2 b (by omega)
  obtain ⟨hit, hbx⟩ := hI.2 b (by omega)
  have hcap := BI_cap hit
  have h48 := hit.1
  obtain ⟨hki, hli⟩ := hkl i hi
  have hik := (hit.2.2.1 i hi).1
  have hpl := ps_step (σ.2 b).2.2.2.2.2 hi
  have hpz := hit.2.1
  have hk16 := hC.2.2.2.2.2.2.2.2.2.2.2.2.2.2.2.1 b hb6 i
  refine lv_aload_n hx hb dX3_iterate_0 rfl (lv_at hl 0 rfl) ?_
  refine lv_iload_n hx hb dX3_iterate_1 rfl (lv_at hl 1 rfl) ?_
  refine lv_iload_n hx hb dX3_iterate_2 rfl (lv_at hl 2 rfl) ?_
  refine lv_bipush (v := nI 112) hx hb dX3_iterate_3 (by decide) ?_
  refine lv_bipush (v := nI 112) hx hb dX3_iterate_5 (by decide) ?_
  refine g_callV (As := [.int (nI b), .int (nI i), .int (nI 112), .int (nI 112)]) (rest := []) ⟨hx, hb, hml, hown, hw⟩ (mX3_isOf_ok l D cT n ad A hD G hn σ hI th rf sf pf zf xf kf lf mf hC hMA b i (by omega) (by omega) 112 112 (by omega) (by omega)) (cwV 4 hw (gWV wm_X3_78 wi_X3_isOf wse_X3_isOf wini_X3 wc_X3_isOf) rfl rfl rfl (by decide +kernel) ⟨Nat.le_of_ble_eq_true rfl, Nat.le_of_ble_eq_true rfl⟩) hK hE hA hP hS (k := 69) (by omega) hC.1 rfl rfl hl.1 (lv_room (Nat.le_of_ble_eq_true rfl)) dX3_iterate_7 ⟨Nat.le_of_ble_eq_true rfl, Nat.le_of_ble_eq_true rfl⟩ (fun v_2 G_1 H locs hp hP hS => ?_)
  obtain ⟨rfl, hg_G_1, ho_G_1⟩ := hp
  rw [if_pos (by omega)] at hg_G_1
  refine t_eqi (nI 1) (congrArg nI (if_pos (by omega))) ?_
  have hc_3 : G_1 69 = .inr (5, [.ref (ad 70), .ref (ad 86), .ref (ad 90), .ref (ad 97), .ref (ad 98), .ref (ad 99), .ref (ad 106), .ref (ad 113), .int (nI 0)]) := hg_G_1
  have hc_4 : G_1 70 = aQ (cT 10) 3 (q3 ad) := (ho_G_1 _ (by omega)).trans hC.2.1
  have hc_5 : G_1 86 = aQ (cT 8) 3 (qS ad) := (ho_G_1 _ (by omega)).trans hC.2.2.2.2.1
  have hc_6 : G_1 90 = aQ (cT 7) 6 (qP ad) := (ho_G_1 _ (by omega)).trans hC.2.2.2.2.2.2.1
  have hc_7 : G_1 97 = aI cT 6 zf := (ho_G_1 _ (by omega)).trans hC.2.2.2.2.2.2.2.2.1
  have hc_8 : G_1 98 = aZ cT 6 xf := (ho_G_1 _ (by omega)).trans hC.2.2.2.2.2.2.2.2.2.1
  have hc_9 : G_1 99 = aQ (cT 9) 6 (qK ad) := (ho_G_1 _ (by omega)).trans hC.2.2.2.2.2.2.2.2.2.2.1
  have hc_10 : G_1 106 = aQ (cT 8) 6 (qL ad) := (ho_G_1 _ (by omega)).trans hC.2.2.2.2.2.2.2.2.2.2.2.2.1
  have hc_11 : G_1 113 = aI cT 6 mf := (ho_G_1 _ (by omega)).trans hC.2.2.2.2.2.2.2.2.2.2.2.2.2.2.1
  have hc_12 : G_1 (91 + b) = aJ cT 48 (pf b) := (ho_G_1 _ (by omega)).trans (hC.2.2.2.2.2.2.2.1 b (by omega))
  have hc_13 : G_1 (100 + b) = aC cT 128 (kf b) := (ho_G_1 _ (by omega)).trans (hC.2.2.2.2.2.2.2.2.2.2.2.1 b (by omega))
  have hc_14 : G_1 (107 + b) = aI cT 128 (lf b) := (ho_G_1 _ (by omega)).trans (hC.2.2.2.2.2.2.2.2.2.2.2.2.2.1 b (by omega))
  have hfr_15 : ∀ j, (j ≠ 69) → G_1 j = G j := fun j hj => (ho_G_1 j (by omega)).trans (rfl)
  refine t_if_eq (tgt := 36) hx hb dX3_iterate_10 (by decide) (by omega) (fun c_16 => absurd c_16 (by omega)) (fun c_16 => ?_)
  refine lv_aload_n hx hb dX3_iterate_13 rfl (lv_at hl 0 rfl) ?_
  refine lv_iconst (v := nI 1) hx hb dX3_iterate_14 (by decide) ?_
  refine lv_iconst (v := nI 1) hx hb dX3_iterate_15 (by decide) ?_
  refine lv_aload_n hx hb dX3_iterate_16 rfl (lv_at hl 0 rfl) ?_
  refine g_get (C := RX3) (T := TX3) (N := 9) hx hb hw inX3 hown hK hP (i := 69) (by omega) hc_3 rfl 4 (by decide) (hw _ wf_X3_28) rfl dX3_iterate_17 ?_
  refine lv_iload_n hx hb dX3_iterate_20 rfl (lv_at hl 1 rfl) ?_
  refine g_zald hx hb hK hP (i := 98) (by omega) hc_8 (by omega) (by omega) dX3_iterate_21 ?_
  refine t_if_ne (tgt := 29) hx hb dX3_iterate_22 (by decide) (by omega) (fun c_17 => ?_) (fun c_17 => ?_)
  · exfalso; omega
  · skip
    refine lv_iconst (v := nI 1) hx hb dX3_iterate_25 (by decide) ?_
    refine lv_goto (tgt := 30) hx hb dX3_iterate_26 (by decide) ?_
    refine g_callV (As := [.int (nI 1), .int (nI 1), .int (nI 1)]) (rest := []) ⟨hx, hb, hml, hown, hw⟩ (mX3_can l D cT n ad A hD G_1 hn 0 1 1 1 (by decide) (by decide) (by decide) hc_3) (cwV 3 hw (gWV wm_X3_63 wi_X3_can wse_X3_can wini_X3 wc_X3_can) rfl rfl rfl (by decide +kernel) ⟨Nat.le_of_ble_eq_true rfl, Nat.le_of_ble_eq_true rfl⟩) hK hE hA hP hS (k := 69) (by omega) hc_3 rfl rfl hl.1 (lv_room (Nat.le_of_ble_eq_true rfl)) dX3_iterate_30 ⟨Nat.le_of_ble_eq_true rfl, Nat.le_of_ble_eq_true rfl⟩ (fun v_19 G_18 H locs hp hP hS => ?_)
    obtain ⟨rfl, hg_G_18, ho_G_18⟩ := hp
    have hc_20 : G_18 69 = .inr (5, [.ref (ad 70), .ref (ad 86), .ref (ad 90), .ref (ad 97), .ref (ad 98), .ref (ad 99), .ref (ad 106), .ref (ad 113), .int (nI 0)]) := hg_G_18
    have hc_21 : G_18 70 = aQ (cT 10) 3 (q3 ad) := (ho_G_18 _ (by omega)).trans hc_4
    have hc_22 : G_18 86 = aQ (cT 8) 3 (qS ad) := (ho_G_18 _ (by omega)).trans hc_5
    have hc_23 : G_18 90 = aQ (cT 7) 6 (qP ad) := (ho_G_18 _ (by omega)).trans hc_6
    have hc_24 : G_18 97 = aI cT 6 zf := (ho_G_18 _ (by omega)).trans hc_7
    have hc_25 : G_18 98 = aZ cT 6 xf := (ho_G_18 _ (by omega)).trans hc_8
    have hc_26 : G_18 99 = aQ (cT 9) 6 (qK ad) := (ho_G_18 _ (by omega)).trans hc_9
    have hc_27 : G_18 106 = aQ (cT 8) 6 (qL ad) := (ho_G_18 _ (by omega)).trans hc_10
    have hc_28 : G_18 113 = aI cT 6 mf := (ho_G_18 _ (by omega)).trans hc_11
    have hc_29 : G_18 (91 + b) = aJ cT 48 (pf b) := (ho_G_18 _ (by omega)).trans hc_12
    have hc_30 : G_18 (100 + b) = aC cT 128 (kf b) := (ho_G_18 _ (by omega)).trans hc_13
    have hc_31 : G_18 (107 + b) = aI cT 128 (lf b) := (ho_G_18 _ (by omega)).trans hc_14
    have hfr_32 : ∀ j, (j ≠ 69) → G_18 j = G j := fun j hj => (ho_G_18 j (by omega)).trans (hfr_15 j hj)
    refine t_eqi (nI 1) rfl ?_
    refine t_if_ne (tgt := 38) hx hb dX3_iterate_33 (by decide) (by omega) (fun c_33 => ?_) (fun c_33 => absurd c_33 (by omega))
    have hfr_34 : ∀ j, (j ≠ 69 ∧ j ≠ 100 + b) → G_18 j = G j := fun j hj => hfr_32 j (hj.1)
    refine lv_aload_n hx hb dX3_iterate_38 rfl (lv_at hl 0 rfl) ?_
    refine g_get (C := RX3) (T := TX3) (N := 9) hx hb hw inX3 hown hK hP (i := 69) (by omega) hc_20 rfl 5 (by decide) (hw _ wf_X3_34) rfl dX3_iterate_39 ?_
    refine lv_iload_n hx hb dX3_iterate_42 rfl (lv_at hl 1 rfl) ?_
    refine g_aald hx hb hK hP 9 (i := 99) (by omega) hc_26 rfl rfl (k := (ad (100 + b))) (by omega) (by omega) (qK_at (by omega)) dX3_iterate_43 ?_
    refine lv_iload_n hx hb dX3_iterate_44 rfl (lv_at hl 2 rfl) ?_
    refine lv_bipush (v := nI 116) hx hb dX3_iterate_45 (by decide) ?_
    refine g_cast hx hb hK hP hD hS (i := (100 + b)) (by omega) hc_30 (x := 116) (by omega) (by omega) (by omega) dX3_iterate_47 (fun G_35 H locs hg_G_35 ho_G_35 hP hS => ?_)
    have hc_36 : G_35 69 = .inr (5, [.ref (ad 70), .ref (ad 86), .ref (ad 90), .ref (ad 97), .ref (ad 98), .ref (ad 99), .ref (ad 106), .ref (ad 113), .int (nI 0)]) := (ho_G_35 _ (by omega)).trans hc_20
    have hc_37 : G_35 70 = aQ (cT 10) 3 (q3 ad) := (ho_G_35 _ (by omega)).trans hc_21
    have hc_38 : G_35 86 = aQ (cT 8) 3 (qS ad) := (ho_G_35 _ (by omega)).trans hc_22
    have hc_39 : G_35 90 = aQ (cT 7) 6 (qP ad) := (ho_G_35 _ (by omega)).trans hc_23
    have hc_40 : G_35 97 = aI cT 6 zf := (ho_G_35 _ (by omega)).trans hc_24
    have hc_41 : G_35 98 = aZ cT 6 xf := (ho_G_35 _ (by omega)).trans hc_25
    have hc_42 : G_35 99 = aQ (cT 9) 6 (qK ad) := (ho_G_35 _ (by omega)).trans hc_26
    have hc_43 : G_35 106 = aQ (cT 8) 6 (qL ad) := (ho_G_35 _ (by omega)).trans hc_27
    have hc_44 : G_35 113 = aI cT 6 mf := (ho_G_35 _ (by omega)).trans hc_28
    have hc_45 : G_35 (91 + b) = aJ cT 48 (pf b) := (ho_G_35 _ (by omega)).trans hc_29
    have hc_46 : G_35 (100 + b) = aC cT 128 (va_up (kf b) i 116) := hg_G_35
    have hc_47 : G_35 (107 + b) = aI cT 128 (lf b) := (ho_G_35 _ (by omega)).trans hc_31
    have hfr_48 : ∀ j, (j ≠ 69 ∧ j ≠ 100 + b) → G_35 j = G j := fun j hj => (ho_G_35 j (by omega)).trans (hfr_34 j hj)
    refine lv_aload_n hx hb dX3_iterate_48 rfl (lv_at hl 0 rfl) ?_
    refine g_get (C := RX3) (T := TX3) (N := 9) hx hb hw inX3 hown hK hP (i := 69) (by omega) hc_36 rfl 6 (by decide) (hw _ wf_X3_37) rfl dX3_iterate_49 ?_
    refine lv_iload_n hx hb dX3_iterate_52 rfl (lv_at hl 1 rfl) ?_
    refine g_aald hx hb hK hP 8 (i := 106) (by omega) hc_43 rfl rfl (k := (ad (107 + b))) (by omega) (by omega) (qL_at (by omega)) dX3_iterate_53 ?_
    refine lv_iload_n hx hb dX3_iterate_54 rfl (lv_at hl 2 rfl) ?_
    refine g_iald hx hb hK hP (i := (107 + b)) (by omega) hc_47 (by omega) (by omega) dX3_iterate_55 ?_
    refine g_ret hQ hx hb hr hlocks rfl hP hS (⟨⟨by rw [hli], MW.bench hC hMA hb6 hc_36 hc_45 hc_40 hc_41 hc_46 hc_47 hc_44 (up_lt (hC.2.2.2.2.2.2.2.2.2.2.2.2.2.2.2.1 b hb6) (by omega)) (hC.2.2.2.2.2.2.2.2.2.2.2.2.2.2.2.2 b hb6) (fun j9 a1 a2 a3 a4 a5 a6 a7 a8 a9 => hfr_48 j9 ⟨a3, a7⟩) hz hm hxx hpp (fun k hk => ⟨upd_ag (fun k hk => (hkl k hk).1) rfl k hk, (hkl k hk).2⟩) (fun c hc => ⟨rfl, rfl, rfl⟩)⟩, fun j hj => hfr_48 j (by omega)⟩) (Nat.le_of_ble_eq_true rfl) (Nat.le_of_ble_eq_true rfl) dX3_iterate_56

set_option maxHeartbeats 4000000 in
set_option maxRecDepth 100000 in
theorem mX3_iterate_no (l : Launch) (D : va_G) (cT : Nat → ClassId) (n : Nat) (ad : Nat → Nat) (A : Nat → Prop) (hD : ∀ G, va_D A (gw n ad G)) (G : Nat → va_E) (hn : 114 ≤ n) (σ : TY) (hI : YI σ) (th : Nat) (hM : MW cT ad G σ th) (x y : Int32) (E : String) (hpx : pxIs σ x y (fun c => c ≠ 112) E ∨ onI σ x y (fun b i => (σ.2 b).2.2.2.2.1 i = 112 ∧ 0 < (σ.2 b).2.2.1 ∧ E = xUO)) : Met l yX3_iterate (wA yX3_iterate cX3_iterate 3 (some .int)) ({ frames := 3, cells := 0, slots := 0, locals := 66 } : Room) (PG D cT n ad A G [.ref (ad 69), .int x, .int y]) (QG D n ad A (fun v G1 => ((∃ z, v = some (.int z)) ∧ MW cT ad G1 σ (cd [xIO, xIS, xUO] E)) ∧ ∀ j, (j < 69 ∨ 114 ≤ j) → G1 j = G j)) 0 0 A := by
  refine Met.ofG (cc := cX3_iterate) (maxL := 3) (ret := (some .int)) (by decide) (Nat.le_of_ble_eq_true rfl) ?_
  intro p e s m args below meth c Q hQ hx hb hr hml hlocks hown hw hP hK hE hA hS ls hl
  have hl : lv_has ls 3 [(0, .ref (ad 69)), (1, .int x), (2, .int y)] := hl
  obtain ⟨rf, sf, pf, zf, xf, kf, lf, mf, hC, hMA⟩ := hM
  rcases hpx with hpx | ⟨b, i, hb6, rfl, hi, rfl, hKp, hbz, rfl⟩
  · skip
    rcases hpx with hpx | ⟨b, i, hb6, rfl, hi, rfl, hKp, rfl⟩
    · skip
      obtain ⟨hib, rfl⟩ := hpx
      refine lv_aload_n hx hb dX3_iterate_0 rfl (lv_at hl 0 rfl) ?_
      refine lv_iload_n hx hb dX3_iterate_1 rfl (lv_at hl 1 rfl) ?_
      refine lv_iload_n hx hb dX3_iterate_2 rfl (lv_at hl 2 rfl) ?_
      refine lv_bipush (v := nI 112) hx hb dX3_iterate_3 (by decide) ?_
      refine lv_bipush (v := nI 112) hx hb dX3_iterate_5 (by decide) ?_
      refine g_callV (As := [.int x, .int y, .int (nI 112), .int (nI 112)]) (rest := []) ⟨hx, hb, hml, hown, hw⟩ (mX3_isOf_bad l D cT n ad A hD G hn σ hI th rf sf pf zf xf kf lf mf hC hMA x y hib 112 112 (by omega) (by omega)) (cwV 4 hw (gWV wm_X3_78 wi_X3_isOf wse_X3_isOf wini_X3 wc_X3_isOf) rfl rfl rfl (by decide +kernel) ⟨Nat.le_of_ble_eq_true rfl, Nat.le_of_ble_eq_true rfl⟩) hK hE hA hP hS (k := 69) (by omega) hC.1 rfl rfl hl.1 (lv_room (Nat.le_of_ble_eq_true rfl)) dX3_iterate_7 ⟨Nat.le_of_ble_eq_true rfl, Nat.le_of_ble_eq_true rfl⟩ (fun v_2 G_1 H locs hp hP hS => ?_)
      obtain ⟨rfl, hg_G_1, ho_G_1⟩ := hp
      have hc_3 : G_1 69 = .inr (5, [.ref (ad 70), .ref (ad 86), .ref (ad 90), .ref (ad 97), .ref (ad 98), .ref (ad 99), .ref (ad 106), .ref (ad 113), .int (nI 1)]) := hg_G_1
      have hc_4 : G_1 70 = aQ (cT 10) 3 (q3 ad) := (ho_G_1 _ (by omega)).trans hC.2.1
      have hc_5 : G_1 86 = aQ (cT 8) 3 (qS ad) := (ho_G_1 _ (by omega)).trans hC.2.2.2.2.1
      have hc_6 : G_1 90 = aQ (cT 7) 6 (qP ad) := (ho_G_1 _ (by omega)).trans hC.2.2.2.2.2.2.1
      have hc_7 : G_1 97 = aI cT 6 zf := (ho_G_1 _ (by omega)).trans hC.2.2.2.2.2.2.2.2.1
      have hc_8 : G_1 98 = aZ cT 6 xf := (ho_G_1 _ (by omega)).trans hC.2.2.2.2.2.2.2.2.2.1
      have hc_9 : G_1 99 = aQ (cT 9) 6 (qK ad) := (ho_G_1 _ (by omega)).trans hC.2.2.2.2.2.2.2.2.2.2.1
      have hc_10 : G_1 106 = aQ (cT 8) 6 (qL ad) := (ho_G_1 _ (by omega)).trans hC.2.2.2.2.2.2.2.2.2.2.2.2.1
      have hc_11 : G_1 113 = aI cT 6 mf := (ho_G_1 _ (by omega)).trans hC.2.2.2.2.2.2.2.2.2.2.2.2.2.2.1
      have hfr_12 : ∀ j, (j ≠ 69) → G_1 j = G j := fun j hj => (ho_G_1 j (by omega)).trans (rfl)
      refine t_if_eq (tgt := 36) hx hb dX3_iterate_10 (by decide) (by omega) (fun c_13 => ?_) (fun c_13 => absurd c_13 (by omega))
      refine lv_iconst (v := nI 0) hx hb dX3_iterate_36 (by decide) ?_
      refine g_ret hQ hx hb hr hlocks rfl hP hS (⟨⟨⟨_, rfl⟩, by rw [show cd [xIO, xIS, xUO] xIO = 1 from by decide +kernel]; exact MW.same hC hMA hc_3 (fun j9 _ _ hj9 => hfr_12 j9 hj9)⟩, fun j hj => hfr_12 j (by omega)⟩) (Nat.le_of_ble_eq_true rfl) (Nat.le_of_ble_eq_true rfl) dX3_iterate_37
    · skip
      obtain ⟨hz, hm, hxx, hpp, hkl⟩ := hMA.2 b (by omega)
      obtain ⟨hit, hbx⟩ := hI.2 b (by omega)
      have hcap := BI_cap hit
      have h48 := hit.1
      obtain ⟨hki, hli⟩ := hkl i hi
      have hik := (hit.2.2.1 i hi).1
      have hpl := ps_step (σ.2 b).2.2.2.2.2 hi
      have hpz := hit.2.1
      have hk16 := hC.2.2.2.2.2.2.2.2.2.2.2.2.2.2.2.1 b hb6 i
      refine lv_aload_n hx hb dX3_iterate_0 rfl (lv_at hl 0 rfl) ?_
      refine lv_iload_n hx hb dX3_iterate_1 rfl (lv_at hl 1 rfl) ?_
      refine lv_iload_n hx hb dX3_iterate_2 rfl (lv_at hl 2 rfl) ?_
      refine lv_bipush (v := nI 112) hx hb dX3_iterate_3 (by decide) ?_
      refine lv_bipush (v := nI 112) hx hb dX3_iterate_5 (by decide) ?_
      refine g_callV (As := [.int (nI b), .int (nI i), .int (nI 112), .int (nI 112)]) (rest := []) ⟨hx, hb, hml, hown, hw⟩ (mX3_isOf_ok l D cT n ad A hD G hn σ hI th rf sf pf zf xf kf lf mf hC hMA b i (by omega) (by omega) 112 112 (by omega) (by omega)) (cwV 4 hw (gWV wm_X3_78 wi_X3_isOf wse_X3_isOf wini_X3 wc_X3_isOf) rfl rfl rfl (by decide +kernel) ⟨Nat.le_of_ble_eq_true rfl, Nat.le_of_ble_eq_true rfl⟩) hK hE hA hP hS (k := 69) (by omega) hC.1 rfl rfl hl.1 (lv_room (Nat.le_of_ble_eq_true rfl)) dX3_iterate_7 ⟨Nat.le_of_ble_eq_true rfl, Nat.le_of_ble_eq_true rfl⟩ (fun v_15 G_14 H locs hp hP hS => ?_)
      obtain ⟨rfl, hg_G_14, ho_G_14⟩ := hp
      rw [if_neg (by omega)] at hg_G_14
      refine t_eqi (nI 0) (congrArg nI (if_neg (by omega))) ?_
      have hc_16 : G_14 69 = .inr (5, [.ref (ad 70), .ref (ad 86), .ref (ad 90), .ref (ad 97), .ref (ad 98), .ref (ad 99), .ref (ad 106), .ref (ad 113), .int (nI 2)]) := hg_G_14
      have hc_17 : G_14 70 = aQ (cT 10) 3 (q3 ad) := (ho_G_14 _ (by omega)).trans hC.2.1
      have hc_18 : G_14 86 = aQ (cT 8) 3 (qS ad) := (ho_G_14 _ (by omega)).trans hC.2.2.2.2.1
      have hc_19 : G_14 90 = aQ (cT 7) 6 (qP ad) := (ho_G_14 _ (by omega)).trans hC.2.2.2.2.2.2.1
      have hc_20 : G_14 97 = aI cT 6 zf := (ho_G_14 _ (by omega)).trans hC.2.2.2.2.2.2.2.2.1
      have hc_21 : G_14 98 = aZ cT 6 xf := (ho_G_14 _ (by omega)).trans hC.2.2.2.2.2.2.2.2.2.1
      have hc_22 : G_14 99 = aQ (cT 9) 6 (qK ad) := (ho_G_14 _ (by omega)).trans hC.2.2.2.2.2.2.2.2.2.2.1
      have hc_23 : G_14 106 = aQ (cT 8) 6 (qL ad) := (ho_G_14 _ (by omega)).trans hC.2.2.2.2.2.2.2.2.2.2.2.2.1
      have hc_24 : G_14 113 = aI cT 6 mf := (ho_G_14 _ (by omega)).trans hC.2.2.2.2.2.2.2.2.2.2.2.2.2.2.1
      have hc_25 : G_14 (91 + b) = aJ cT 48 (pf b) := (ho_G_14 _ (by omega)).trans (hC.2.2.2.2.2.2.2.1 b (by omega))
      have hc_26 : G_14 (100 + b) = aC cT 128 (kf b) := (ho_G_14 _ (by omega)).trans (hC.2.2.2.2.2.2.2.2.2.2.2.1 b (by omega))
      have hc_27 : G_14 (107 + b) = aI cT 128 (lf b) := (ho_G_14 _ (by omega)).trans (hC.2.2.2.2.2.2.2.2.2.2.2.2.2.1 b (by omega))
      have hfr_28 : ∀ j, (j ≠ 69) → G_14 j = G j := fun j hj => (ho_G_14 j (by omega)).trans (rfl)
      refine t_if_eq (tgt := 36) hx hb dX3_iterate_10 (by decide) (by omega) (fun c_29 => ?_) (fun c_29 => absurd c_29 (by omega))
      refine lv_iconst (v := nI 0) hx hb dX3_iterate_36 (by decide) ?_
      refine g_ret hQ hx hb hr hlocks rfl hP hS (⟨⟨⟨_, rfl⟩, by rw [show cd [xIO, xIS, xUO] xIS = 2 from by decide +kernel]; exact MW.same hC hMA hc_16 (fun j9 _ _ hj9 => hfr_28 j9 hj9)⟩, fun j hj => hfr_28 j (by omega)⟩) (Nat.le_of_ble_eq_true rfl) (Nat.le_of_ble_eq_true rfl) dX3_iterate_37
  · skip
    obtain ⟨hz, hm, hxx, hpp, hkl⟩ := hMA.2 b (by omega)
    obtain ⟨hit, hbx⟩ := hI.2 b (by omega)
    have hcap := BI_cap hit
    have h48 := hit.1
    obtain ⟨hki, hli⟩ := hkl i hi
    have hik := (hit.2.2.1 i hi).1
    have hpl := ps_step (σ.2 b).2.2.2.2.2 hi
    have hpz := hit.2.1
    have hk16 := hC.2.2.2.2.2.2.2.2.2.2.2.2.2.2.2.1 b hb6 i
    refine lv_aload_n hx hb dX3_iterate_0 rfl (lv_at hl 0 rfl) ?_
    refine lv_iload_n hx hb dX3_iterate_1 rfl (lv_at hl 1 rfl) ?_
    refine lv_iload_n hx hb dX3_iterate_2 rfl (lv_at hl 2 rfl) ?_
    refine lv_bipush (v := nI 112) hx hb dX3_iterate_3 (by decide) ?_
    refine lv_bipush (v := nI 112) hx hb dX3_iterate_5 (by decide) ?_
    refine g_callV (As := [.int (nI b), .int (nI i), .int (nI 112), .int (nI 112)]) (rest := []) ⟨hx, hb, hml, hown, hw⟩ (mX3_isOf_ok l D cT n ad A hD G hn σ hI th rf sf pf zf xf kf lf mf hC hMA b i (by omega) (by omega) 112 112 (by omega) (by omega)) (cwV 4 hw (gWV wm_X3_78 wi_X3_isOf wse_X3_isOf wini_X3 wc_X3_isOf) rfl rfl rfl (by decide +kernel) ⟨Nat.le_of_ble_eq_true rfl, Nat.le_of_ble_eq_true rfl⟩) hK hE hA hP hS (k := 69) (by omega) hC.1 rfl rfl hl.1 (lv_room (Nat.le_of_ble_eq_true rfl)) dX3_iterate_7 ⟨Nat.le_of_ble_eq_true rfl, Nat.le_of_ble_eq_true rfl⟩ (fun v_31 G_30 H locs hp hP hS => ?_)
    obtain ⟨rfl, hg_G_30, ho_G_30⟩ := hp
    rw [if_pos (by omega)] at hg_G_30
    refine t_eqi (nI 1) (congrArg nI (if_pos (by omega))) ?_
    have hc_32 : G_30 69 = .inr (5, [.ref (ad 70), .ref (ad 86), .ref (ad 90), .ref (ad 97), .ref (ad 98), .ref (ad 99), .ref (ad 106), .ref (ad 113), .int (nI 0)]) := hg_G_30
    have hc_33 : G_30 70 = aQ (cT 10) 3 (q3 ad) := (ho_G_30 _ (by omega)).trans hC.2.1
    have hc_34 : G_30 86 = aQ (cT 8) 3 (qS ad) := (ho_G_30 _ (by omega)).trans hC.2.2.2.2.1
    have hc_35 : G_30 90 = aQ (cT 7) 6 (qP ad) := (ho_G_30 _ (by omega)).trans hC.2.2.2.2.2.2.1
    have hc_36 : G_30 97 = aI cT 6 zf := (ho_G_30 _ (by omega)).trans hC.2.2.2.2.2.2.2.2.1
    have hc_37 : G_30 98 = aZ cT 6 xf := (ho_G_30 _ (by omega)).trans hC.2.2.2.2.2.2.2.2.2.1
    have hc_38 : G_30 99 = aQ (cT 9) 6 (qK ad) := (ho_G_30 _ (by omega)).trans hC.2.2.2.2.2.2.2.2.2.2.1
    have hc_39 : G_30 106 = aQ (cT 8) 6 (qL ad) := (ho_G_30 _ (by omega)).trans hC.2.2.2.2.2.2.2.2.2.2.2.2.1
    have hc_40 : G_30 113 = aI cT 6 mf := (ho_G_30 _ (by omega)).trans hC.2.2.2.2.2.2.2.2.2.2.2.2.2.2.1
    have hc_41 : G_30 (91 + b) = aJ cT 48 (pf b) := (ho_G_30 _ (by omega)).trans (hC.2.2.2.2.2.2.2.1 b (by omega))
    have hc_42 : G_30 (100 + b) = aC cT 128 (kf b) := (ho_G_30 _ (by omega)).trans (hC.2.2.2.2.2.2.2.2.2.2.2.1 b (by omega))
    have hc_43 : G_30 (107 + b) = aI cT 128 (lf b) := (ho_G_30 _ (by omega)).trans (hC.2.2.2.2.2.2.2.2.2.2.2.2.2.1 b (by omega))
    have hfr_44 : ∀ j, (j ≠ 69) → G_30 j = G j := fun j hj => (ho_G_30 j (by omega)).trans (rfl)
    refine t_if_eq (tgt := 36) hx hb dX3_iterate_10 (by decide) (by omega) (fun c_45 => absurd c_45 (by omega)) (fun c_45 => ?_)
    refine lv_aload_n hx hb dX3_iterate_13 rfl (lv_at hl 0 rfl) ?_
    refine lv_iconst (v := nI 1) hx hb dX3_iterate_14 (by decide) ?_
    refine lv_iconst (v := nI 1) hx hb dX3_iterate_15 (by decide) ?_
    refine lv_aload_n hx hb dX3_iterate_16 rfl (lv_at hl 0 rfl) ?_
    refine g_get (C := RX3) (T := TX3) (N := 9) hx hb hw inX3 hown hK hP (i := 69) (by omega) hc_32 rfl 4 (by decide) (hw _ wf_X3_28) rfl dX3_iterate_17 ?_
    refine lv_iload_n hx hb dX3_iterate_20 rfl (lv_at hl 1 rfl) ?_
    refine g_zald hx hb hK hP (i := 98) (by omega) hc_37 (by omega) (by omega) dX3_iterate_21 ?_
    refine t_if_ne (tgt := 29) hx hb dX3_iterate_22 (by decide) (by omega) (fun c_46 => ?_) (fun c_46 => ?_)
    · skip
      refine lv_iconst (v := nI 0) hx hb dX3_iterate_29 (by decide) ?_
      refine g_callV (As := [.int (nI 1), .int (nI 1), .int (nI 0)]) (rest := []) ⟨hx, hb, hml, hown, hw⟩ (mX3_can l D cT n ad A hD G_30 hn 0 1 1 0 (by decide) (by decide) (by decide) hc_32) (cwV 3 hw (gWV wm_X3_63 wi_X3_can wse_X3_can wini_X3 wc_X3_can) rfl rfl rfl (by decide +kernel) ⟨Nat.le_of_ble_eq_true rfl, Nat.le_of_ble_eq_true rfl⟩) hK hE hA hP hS (k := 69) (by omega) hc_32 rfl rfl hl.1 (lv_room (Nat.le_of_ble_eq_true rfl)) dX3_iterate_30 ⟨Nat.le_of_ble_eq_true rfl, Nat.le_of_ble_eq_true rfl⟩ (fun v_48 G_47 H locs hp hP hS => ?_)
      obtain ⟨rfl, hg_G_47, ho_G_47⟩ := hp
      have hc_49 : G_47 69 = .inr (5, [.ref (ad 70), .ref (ad 86), .ref (ad 90), .ref (ad 97), .ref (ad 98), .ref (ad 99), .ref (ad 106), .ref (ad 113), .int (nI 3)]) := hg_G_47
      have hc_50 : G_47 70 = aQ (cT 10) 3 (q3 ad) := (ho_G_47 _ (by omega)).trans hc_33
      have hc_51 : G_47 86 = aQ (cT 8) 3 (qS ad) := (ho_G_47 _ (by omega)).trans hc_34
      have hc_52 : G_47 90 = aQ (cT 7) 6 (qP ad) := (ho_G_47 _ (by omega)).trans hc_35
      have hc_53 : G_47 97 = aI cT 6 zf := (ho_G_47 _ (by omega)).trans hc_36
      have hc_54 : G_47 98 = aZ cT 6 xf := (ho_G_47 _ (by omega)).trans hc_37
      have hc_55 : G_47 99 = aQ (cT 9) 6 (qK ad) := (ho_G_47 _ (by omega)).trans hc_38
      have hc_56 : G_47 106 = aQ (cT 8) 6 (qL ad) := (ho_G_47 _ (by omega)).trans hc_39
      have hc_57 : G_47 113 = aI cT 6 mf := (ho_G_47 _ (by omega)).trans hc_40
      have hc_58 : G_47 (91 + b) = aJ cT 48 (pf b) := (ho_G_47 _ (by omega)).trans hc_41
      have hc_59 : G_47 (100 + b) = aC cT 128 (kf b) := (ho_G_47 _ (by omega)).trans hc_42
      have hc_60 : G_47 (107 + b) = aI cT 128 (lf b) := (ho_G_47 _ (by omega)).trans hc_43
      have hfr_61 : ∀ j, (j ≠ 69) → G_47 j = G j := fun j hj => (ho_G_47 j (by omega)).trans (hfr_44 j hj)
      refine t_eqi (nI 0) rfl ?_
      refine t_if_ne (tgt := 38) hx hb dX3_iterate_33 (by decide) (by omega) (fun c_62 => absurd c_62 (by omega)) (fun c_62 => ?_)
      refine lv_iconst (v := nI 0) hx hb dX3_iterate_36 (by decide) ?_
      refine g_ret hQ hx hb hr hlocks rfl hP hS (⟨⟨⟨_, rfl⟩, by rw [show cd [xIO, xIS, xUO] xUO = 3 from by decide +kernel]; exact MW.same hC hMA hc_49 (fun j9 _ _ hj9 => hfr_61 j9 hj9)⟩, fun j hj => hfr_61 j (by omega)⟩) (Nat.le_of_ble_eq_true rfl) (Nat.le_of_ble_eq_true rfl) dX3_iterate_37
    · exfalso; omega

set_option maxHeartbeats 4000000 in
set_option maxRecDepth 100000 in
theorem mX3_hasNext_ok (l : Launch) (D : va_G) (cT : Nat → ClassId) (n : Nat) (ad : Nat → Nat) (A : Nat → Prop) (hD : ∀ G, va_D A (gw n ad G)) (G : Nat → va_E) (hn : 114 ≤ n) (σ : TY) (hI : YI σ) (th : Nat) (hM : MW cT ad G σ th)(b i : Nat) (hb6 : b < 6) (hi : i < (σ.2 b).2.1) (hk9 : (σ.2 b).2.2.2.2.1 i = 116) : Met l yX3_hasNext (wA yX3_hasNext cX3_hasNext 3 (some .boolean)) ({ frames := 3, cells := 0, slots := 0, locals := 66 } : Room) (PG D cT n ad A G [.ref (ad 69), .int (nI b), .int (nI i)]) (QG D n ad A (fun v G1 => (v = some (.int (if 0 < (σ.2 b).2.2.2.2.2 i then 1 else 0)) ∧ MW cT ad G1 (σ) 0) ∧ ∀ j, (j < 69 ∨ 114 ≤ j) → G1 j = G j)) 0 0 A := by
  refine Met.ofG (cc := cX3_hasNext) (maxL := 3) (ret := (some .boolean)) (by decide) (Nat.le_of_ble_eq_true rfl) ?_
  intro p e s m args below meth c Q hQ hx hb hr hml hlocks hown hw hP hK hE hA hS ls hl
  have hl : lv_has ls 3 [(0, .ref (ad 69)), (1, .int (nI b)), (2, .int (nI i))] := hl
  obtain ⟨rf, sf, pf, zf, xf, kf, lf, mf, hC, hMA⟩ := hM
  obtain ⟨hz, hm, hxx, hpp, hkl⟩ := hMA.2 b (by omega)
  obtain ⟨hit, hbx⟩ := hI.2 b (by omega)
  have hcap := BI_cap hit
  have h48 := hit.1
  obtain ⟨hki, hli⟩ := hkl i hi
  have hik := (hit.2.2.1 i hi).1
  have hpl := ps_step (σ.2 b).2.2.2.2.2 hi
  have hpz := hit.2.1
  have hk16 := hC.2.2.2.2.2.2.2.2.2.2.2.2.2.2.2.1 b hb6 i
  have hl16 := (hC.2.2.2.2.2.2.2.2.2.2.2.2.2.2.2.2 b hb6) i
  refine lv_aload_n hx hb dX3_hasNext_0 rfl (lv_at hl 0 rfl) ?_
  refine lv_iload_n hx hb dX3_hasNext_1 rfl (lv_at hl 1 rfl) ?_
  refine lv_iload_n hx hb dX3_hasNext_2 rfl (lv_at hl 2 rfl) ?_
  refine lv_bipush (v := nI 116) hx hb dX3_hasNext_3 (by decide) ?_
  refine lv_bipush (v := nI 116) hx hb dX3_hasNext_5 (by decide) ?_
  refine g_callV (As := [.int (nI b), .int (nI i), .int (nI 116), .int (nI 116)]) (rest := []) ⟨hx, hb, hml, hown, hw⟩ (mX3_isOf_ok l D cT n ad A hD G hn σ hI th rf sf pf zf xf kf lf mf hC hMA b i (by omega) (by omega) 116 116 (by omega) (by omega)) (cwV 4 hw (gWV wm_X3_78 wi_X3_isOf wse_X3_isOf wini_X3 wc_X3_isOf) rfl rfl rfl (by decide +kernel) ⟨Nat.le_of_ble_eq_true rfl, Nat.le_of_ble_eq_true rfl⟩) hK hE hA hP hS (k := 69) (by omega) hC.1 rfl rfl hl.1 (lv_room (Nat.le_of_ble_eq_true rfl)) dX3_hasNext_7 ⟨Nat.le_of_ble_eq_true rfl, Nat.le_of_ble_eq_true rfl⟩ (fun v_2 G_1 H locs hp hP hS => ?_)
  obtain ⟨rfl, hg_G_1, ho_G_1⟩ := hp
  rw [if_pos (by omega)] at hg_G_1
  refine t_eqi (nI 1) (congrArg nI (if_pos (by omega))) ?_
  have hc_3 : G_1 69 = .inr (5, [.ref (ad 70), .ref (ad 86), .ref (ad 90), .ref (ad 97), .ref (ad 98), .ref (ad 99), .ref (ad 106), .ref (ad 113), .int (nI 0)]) := hg_G_1
  have hc_4 : G_1 70 = aQ (cT 10) 3 (q3 ad) := (ho_G_1 _ (by omega)).trans hC.2.1
  have hc_5 : G_1 86 = aQ (cT 8) 3 (qS ad) := (ho_G_1 _ (by omega)).trans hC.2.2.2.2.1
  have hc_6 : G_1 90 = aQ (cT 7) 6 (qP ad) := (ho_G_1 _ (by omega)).trans hC.2.2.2.2.2.2.1
  have hc_7 : G_1 97 = aI cT 6 zf := (ho_G_1 _ (by omega)).trans hC.2.2.2.2.2.2.2.2.1
  have hc_8 : G_1 98 = aZ cT 6 xf := (ho_G_1 _ (by omega)).trans hC.2.2.2.2.2.2.2.2.2.1
  have hc_9 : G_1 99 = aQ (cT 9) 6 (qK ad) := (ho_G_1 _ (by omega)).trans hC.2.2.2.2.2.2.2.2.2.2.1
  have hc_10 : G_1 106 = aQ (cT 8) 6 (qL ad) := (ho_G_1 _ (by omega)).trans hC.2.2.2.2.2.2.2.2.2.2.2.2.1
  have hc_11 : G_1 113 = aI cT 6 mf := (ho_G_1 _ (by omega)).trans hC.2.2.2.2.2.2.2.2.2.2.2.2.2.2.1
  have hc_12 : G_1 (91 + b) = aJ cT 48 (pf b) := (ho_G_1 _ (by omega)).trans (hC.2.2.2.2.2.2.2.1 b (by omega))
  have hc_13 : G_1 (100 + b) = aC cT 128 (kf b) := (ho_G_1 _ (by omega)).trans (hC.2.2.2.2.2.2.2.2.2.2.2.1 b (by omega))
  have hc_14 : G_1 (107 + b) = aI cT 128 (lf b) := (ho_G_1 _ (by omega)).trans (hC.2.2.2.2.2.2.2.2.2.2.2.2.2.1 b (by omega))
  have hfr_15 : ∀ j, (j ≠ 69) → G_1 j = G j := fun j hj => (ho_G_1 j (by omega)).trans (rfl)
  refine t_if_eq (tgt := 28) hx hb dX3_hasNext_10 (by decide) (by omega) (fun c_16 => absurd c_16 (by omega)) (fun c_16 => ?_)
  refine lv_aload_n hx hb dX3_hasNext_13 rfl (lv_at hl 0 rfl) ?_
  refine g_get (C := RX3) (T := TX3) (N := 9) hx hb hw inX3 hown hK hP (i := 69) (by omega) hc_3 rfl 6 (by decide) (hw _ wf_X3_37) rfl dX3_hasNext_14 ?_
  refine lv_iload_n hx hb dX3_hasNext_17 rfl (lv_at hl 1 rfl) ?_
  refine g_aald hx hb hK hP 8 (i := 106) (by omega) hc_10 rfl rfl (k := (ad (107 + b))) (by omega) (by omega) (qL_at (by omega)) dX3_hasNext_18 ?_
  refine lv_iload_n hx hb dX3_hasNext_19 rfl (lv_at hl 2 rfl) ?_
  refine g_iald hx hb hK hP (i := (107 + b)) (by omega) hc_14 (by omega) (by omega) dX3_hasNext_20 ?_
  refine t_if_le (tgt := 28) hx hb dX3_hasNext_21 (by decide) (by omega) (fun c_17 => ?_) (fun c_17 => ?_)
  · skip
    refine lv_iconst (v := nI 0) hx hb dX3_hasNext_28 (by decide) ?_
    refine g_ret hQ hx hb hr hlocks rfl hP hS (⟨⟨by rw [if_neg (by omega)]; rfl, MW.same hC hMA hc_3 (fun j9 _ _ hj9 => hfr_15 j9 hj9)⟩, fun j hj => hfr_15 j (by omega)⟩) (Nat.le_of_ble_eq_true rfl) (Nat.le_of_ble_eq_true rfl) dX3_hasNext_29
  · skip
    refine lv_iconst (v := nI 1) hx hb dX3_hasNext_24 (by decide) ?_
    refine lv_goto (tgt := 29) hx hb dX3_hasNext_25 (by decide) ?_
    refine g_ret hQ hx hb hr hlocks rfl hP hS (⟨⟨by rw [if_pos (by omega)]; rfl, MW.same hC hMA hc_3 (fun j9 _ _ hj9 => hfr_15 j9 hj9)⟩, fun j hj => hfr_15 j (by omega)⟩) (Nat.le_of_ble_eq_true rfl) (Nat.le_of_ble_eq_true rfl) dX3_hasNext_29

set_option maxHeartbeats 4000000 in
set_option maxRecDepth 100000 in
theorem mX3_hasNext_no (l : Launch) (D : va_G) (cT : Nat → ClassId) (n : Nat) (ad : Nat → Nat) (A : Nat → Prop) (hD : ∀ G, va_D A (gw n ad G)) (G : Nat → va_E) (hn : 114 ≤ n) (σ : TY) (hI : YI σ) (th : Nat) (hM : MW cT ad G σ th) (x y : Int32) (E : String) (hpx : pxIs σ x y (fun c => c ≠ 116) E) : Met l yX3_hasNext (wA yX3_hasNext cX3_hasNext 3 (some .boolean)) ({ frames := 3, cells := 0, slots := 0, locals := 66 } : Room) (PG D cT n ad A G [.ref (ad 69), .int x, .int y]) (QG D n ad A (fun v G1 => ((∃ z, v = some (.int z)) ∧ MW cT ad G1 σ (cd [xIO, xIS] E)) ∧ ∀ j, (j < 69 ∨ 114 ≤ j) → G1 j = G j)) 0 0 A := by
  refine Met.ofG (cc := cX3_hasNext) (maxL := 3) (ret := (some .boolean)) (by decide) (Nat.le_of_ble_eq_true rfl) ?_
  intro p e s m args below meth c Q hQ hx hb hr hml hlocks hown hw hP hK hE hA hS ls hl
  have hl : lv_has ls 3 [(0, .ref (ad 69)), (1, .int x), (2, .int y)] := hl
  obtain ⟨rf, sf, pf, zf, xf, kf, lf, mf, hC, hMA⟩ := hM
  rcases hpx with hpx | ⟨b, i, hb6, rfl, hi, rfl, hKp, rfl⟩
  · skip
    obtain ⟨hib, rfl⟩ := hpx
    refine lv_aload_n hx hb dX3_hasNext_0 rfl (lv_at hl 0 rfl) ?_
    refine lv_iload_n hx hb dX3_hasNext_1 rfl (lv_at hl 1 rfl) ?_
    refine lv_iload_n hx hb dX3_hasNext_2 rfl (lv_at hl 2 rfl) ?_
    refine lv_bipush (v := nI 116) hx hb dX3_hasNext_3 (by decide) ?_
    refine lv_bipush (v := nI 116) hx hb dX3_hasNext_5 (by decide) ?_
    refine g_callV (As := [.int x, .int y, .int (nI 116), .int (nI 116)]) (rest := []) ⟨hx, hb, hml, hown, hw⟩ (mX3_isOf_bad l D cT n ad A hD G hn σ hI th rf sf pf zf xf kf lf mf hC hMA x y hib 116 116 (by omega) (by omega)) (cwV 4 hw (gWV wm_X3_78 wi_X3_isOf wse_X3_isOf wini_X3 wc_X3_isOf) rfl rfl rfl (by decide +kernel) ⟨Nat.le_of_ble_eq_true rfl, Nat.le_of_ble_eq_true rfl⟩) hK hE hA hP hS (k := 69) (by omega) hC.1 rfl rfl hl.1 (lv_room (Nat.le_of_ble_eq_true rfl)) dX3_hasNext_7 ⟨Nat.le_of_ble_eq_true rfl, Nat.le_of_ble_eq_true rfl⟩ (fun v_2 G_1 H locs hp hP hS => ?_)
    obtain ⟨rfl, hg_G_1, ho_G_1⟩ := hp
    have hc_3 : G_1 69 = .inr (5, [.ref (ad 70), .ref (ad 86), .ref (ad 90), .ref (ad 97), .ref (ad 98), .ref (ad 99), .ref (ad 106), .ref (ad 113), .int (nI 1)]) := hg_G_1
    have hc_4 : G_1 70 = aQ (cT 10) 3 (q3 ad) := (ho_G_1 _ (by omega)).trans hC.2.1
    have hc_5 : G_1 86 = aQ (cT 8) 3 (qS ad) := (ho_G_1 _ (by omega)).trans hC.2.2.2.2.1
    have hc_6 : G_1 90 = aQ (cT 7) 6 (qP ad) := (ho_G_1 _ (by omega)).trans hC.2.2.2.2.2.2.1
    have hc_7 : G_1 97 = aI cT 6 zf := (ho_G_1 _ (by omega)).trans hC.2.2.2.2.2.2.2.2.1
    have hc_8 : G_1 98 = aZ cT 6 xf := (ho_G_1 _ (by omega)).trans hC.2.2.2.2.2.2.2.2.2.1
    have hc_9 : G_1 99 = aQ (cT 9) 6 (qK ad) := (ho_G_1 _ (by omega)).trans hC.2.2.2.2.2.2.2.2.2.2.1
    have hc_10 : G_1 106 = aQ (cT 8) 6 (qL ad) := (ho_G_1 _ (by omega)).trans hC.2.2.2.2.2.2.2.2.2.2.2.2.1
    have hc_11 : G_1 113 = aI cT 6 mf := (ho_G_1 _ (by omega)).trans hC.2.2.2.2.2.2.2.2.2.2.2.2.2.2.1
    have hfr_12 : ∀ j, (j ≠ 69) → G_1 j = G j := fun j hj => (ho_G_1 j (by omega)).trans (rfl)
    refine t_if_eq (tgt := 28) hx hb dX3_hasNext_10 (by decide) (by omega) (fun c_13 => ?_) (fun c_13 => absurd c_13 (by omega))
    refine lv_iconst (v := nI 0) hx hb dX3_hasNext_28 (by decide) ?_
    refine g_ret hQ hx hb hr hlocks rfl hP hS (⟨⟨⟨_, rfl⟩, by rw [show cd [xIO, xIS] xIO = 1 from by decide +kernel]; exact MW.same hC hMA hc_3 (fun j9 _ _ hj9 => hfr_12 j9 hj9)⟩, fun j hj => hfr_12 j (by omega)⟩) (Nat.le_of_ble_eq_true rfl) (Nat.le_of_ble_eq_true rfl) dX3_hasNext_29
  · skip
    obtain ⟨hz, hm, hxx, hpp, hkl⟩ := hMA.2 b (by omega)
    obtain ⟨hit, hbx⟩ := hI.2 b (by omega)
    have hcap := BI_cap hit
    have h48 := hit.1
    obtain ⟨hki, hli⟩ := hkl i hi
    have hik := (hit.2.2.1 i hi).1
    have hpl := ps_step (σ.2 b).2.2.2.2.2 hi
    have hpz := hit.2.1
    have hk16 := hC.2.2.2.2.2.2.2.2.2.2.2.2.2.2.2.1 b hb6 i
    refine lv_aload_n hx hb dX3_hasNext_0 rfl (lv_at hl 0 rfl) ?_
    refine lv_iload_n hx hb dX3_hasNext_1 rfl (lv_at hl 1 rfl) ?_
    refine lv_iload_n hx hb dX3_hasNext_2 rfl (lv_at hl 2 rfl) ?_
    refine lv_bipush (v := nI 116) hx hb dX3_hasNext_3 (by decide) ?_
    refine lv_bipush (v := nI 116) hx hb dX3_hasNext_5 (by decide) ?_
    refine g_callV (As := [.int (nI b), .int (nI i), .int (nI 116), .int (nI 116)]) (rest := []) ⟨hx, hb, hml, hown, hw⟩ (mX3_isOf_ok l D cT n ad A hD G hn σ hI th rf sf pf zf xf kf lf mf hC hMA b i (by omega) (by omega) 116 116 (by omega) (by omega)) (cwV 4 hw (gWV wm_X3_78 wi_X3_isOf wse_X3_isOf wini_X3 wc_X3_isOf) rfl rfl rfl (by decide +kernel) ⟨Nat.le_of_ble_eq_true rfl, Nat.le_of_ble_eq_true rfl⟩) hK hE hA hP hS (k := 69) (by omega) hC.1 rfl rfl hl.1 (lv_room (Nat.le_of_ble_eq_true rfl)) dX3_hasNext_7 ⟨Nat.le_of_ble_eq_true rfl, Nat.le_of_ble_eq_true rfl⟩ (fun v_15 G_14 H locs hp hP hS => ?_)
    obtain ⟨rfl, hg_G_14, ho_G_14⟩ := hp
    rw [if_neg (by omega)] at hg_G_14
    refine t_eqi (nI 0) (congrArg nI (if_neg (by omega))) ?_
    have hc_16 : G_14 69 = .inr (5, [.ref (ad 70), .ref (ad 86), .ref (ad 90), .ref (ad 97), .ref (ad 98), .ref (ad 99), .ref (ad 106), .ref (ad 113), .int (nI 2)]) := hg_G_14
    have hc_17 : G_14 70 = aQ (cT 10) 3 (q3 ad) := (ho_G_14 _ (by omega)).trans hC.2.1
    have hc_18 : G_14 86 = aQ (cT 8) 3 (qS ad) := (ho_G_14 _ (by omega)).trans hC.2.2.2.2.1
    have hc_19 : G_14 90 = aQ (cT 7) 6 (qP ad) := (ho_G_14 _ (by omega)).trans hC.2.2.2.2.2.2.1
    have hc_20 : G_14 97 = aI cT 6 zf := (ho_G_14 _ (by omega)).trans hC.2.2.2.2.2.2.2.2.1
    have hc_21 : G_14 98 = aZ cT 6 xf := (ho_G_14 _ (by omega)).trans hC.2.2.2.2.2.2.2.2.2.1
    have hc_22 : G_14 99 = aQ (cT 9) 6 (qK ad) := (ho_G_14 _ (by omega)).trans hC.2.2.2.2.2.2.2.2.2.2.1
    have hc_23 : G_14 106 = aQ (cT 8) 6 (qL ad) := (ho_G_14 _ (by omega)).trans hC.2.2.2.2.2.2.2.2.2.2.2.2.1
    have hc_24 : G_14 113 = aI cT 6 mf := (ho_G_14 _ (by omega)).trans hC.2.2.2.2.2.2.2.2.2.2.2.2.2.2.1
    have hc_25 : G_14 (91 + b) = aJ cT 48 (pf b) := (ho_G_14 _ (by omega)).trans (hC.2.2.2.2.2.2.2.1 b (by omega))
    have hc_26 : G_14 (100 + b) = aC cT 128 (kf b) := (ho_G_14 _ (by omega)).trans (hC.2.2.2.2.2.2.2.2.2.2.2.1 b (by omega))
    have hc_27 : G_14 (107 + b) = aI cT 128 (lf b) := (ho_G_14 _ (by omega)).trans (hC.2.2.2.2.2.2.2.2.2.2.2.2.2.1 b (by omega))
    have hfr_28 : ∀ j, (j ≠ 69) → G_14 j = G j := fun j hj => (ho_G_14 j (by omega)).trans (rfl)
    refine t_if_eq (tgt := 28) hx hb dX3_hasNext_10 (by decide) (by omega) (fun c_29 => ?_) (fun c_29 => absurd c_29 (by omega))
    refine lv_iconst (v := nI 0) hx hb dX3_hasNext_28 (by decide) ?_
    refine g_ret hQ hx hb hr hlocks rfl hP hS (⟨⟨⟨_, rfl⟩, by rw [show cd [xIO, xIS] xIS = 2 from by decide +kernel]; exact MW.same hC hMA hc_16 (fun j9 _ _ hj9 => hfr_28 j9 hj9)⟩, fun j hj => hfr_28 j (by omega)⟩) (Nat.le_of_ble_eq_true rfl) (Nat.le_of_ble_eq_true rfl) dX3_hasNext_29
