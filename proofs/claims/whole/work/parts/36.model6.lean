set_option maxHeartbeats 4000000 in
set_option maxRecDepth 100000 in
theorem mX3_crumble_no (l : Launch) (D : va_G) (cT : Nat → ClassId) (n : Nat) (ad : Nat → Nat) (A : Nat → Prop) (hD : ∀ G, va_D A (gw n ad G)) (G : Nat → va_E) (hn : 114 ≤ n) (σ : TY) (hI : YI σ) (th : Nat) (hM : MW cT ad G σ th) (x y : Int32) (E : String) (hpx : pxBen x E ∨ onB x (fun _ => mBad y ∧ E = xIA)) : Met l yX3_crumble (wA yX3_crumble cX3_crumble 5 (some .int)) ({ frames := 1, cells := 0, slots := 0, locals := 23 } : Room) (PG D cT n ad A G [.ref (ad 69), .int x, .int y]) (QG D n ad A (fun v G1 => ((∃ z, v = some (.int z)) ∧ MW cT ad G1 σ (cd [xIO, xIA] E)) ∧ ∀ j, (j < 69 ∨ 114 ≤ j) → G1 j = G j)) 0 0 A := by
  refine Met.ofG (cc := cX3_crumble) (maxL := 5) (ret := (some .int)) (by decide) (Nat.le_of_ble_eq_true rfl) ?_
  intro p e s m args below meth c Q hQ hx hb hr hml hlocks hown hw hP hK hE hA hS ls hl
  have hl : lv_has ls 5 [(0, .ref (ad 69)), (1, .int x), (2, .int y)] := hl
  obtain ⟨rf, sf, pf, zf, xf, kf, lf, mf, hC, hMA⟩ := hM
  rcases hpx with ⟨hbb, rfl⟩ | ⟨b, hb6, rfl, hmo, rfl⟩
  · skip
    rcases Decidable.em (y < nI 1 ∨ nI 48 < y) with hyb | hyo
    · skip
      refine lv_aload_n hx hb dX3_crumble_0 rfl (lv_at hl 0 rfl) ?_
      refine lv_iload_n hx hb dX3_crumble_1 rfl (lv_at hl 1 rfl) ?_
      refine g_callS (As := [.int x]) (rest := [.ref (ad 69)]) ⟨hx, hb, hml, hown, hw⟩ (mX3_isBench l D cT n ad A hD G x) (va_cwS 1 hw (gWS wm_X3_67 wst_X3_isBench wini_X3 wc_X3_isBench) rfl rfl rfl (by decide +kernel) ⟨Nat.le_of_ble_eq_true rfl, Nat.le_of_ble_eq_true rfl⟩) hK hE hA hP hS rfl hl.1 (lv_room (Nat.le_of_ble_eq_true rfl)) dX3_crumble_2 ⟨Nat.le_of_ble_eq_true rfl, Nat.le_of_ble_eq_true rfl⟩ (fun v_2 G_1 H locs hp hP hS => ?_)
      obtain ⟨hv9, hg9⟩ := hp
      subst hv9
      rw [hg9] at hP
      refine t_eqi (nI 0) (congrArg nI (if_pos hbb)) ?_
      refine lv_iload_n hx hb dX3_crumble_5 rfl (lv_at hl 2 rfl) ?_
      refine g_callS (As := [.int y]) (rest := [.int (nI 0), .ref (ad 69)]) ⟨hx, hb, hml, hown, hw⟩ (mX3_isMost l D cT n ad A hD G y) (va_cwS 1 hw (gWS wm_X3_93 wst_X3_isMost wini_X3 wc_X3_isMost) rfl rfl rfl (by decide +kernel) ⟨Nat.le_of_ble_eq_true rfl, Nat.le_of_ble_eq_true rfl⟩) hK hE hA hP hS rfl hl.1 (lv_room (Nat.le_of_ble_eq_true rfl)) dX3_crumble_6 ⟨Nat.le_of_ble_eq_true rfl, Nat.le_of_ble_eq_true rfl⟩ (fun v_4 G_3 H locs hp hP hS => ?_)
      obtain ⟨hv9, hg9⟩ := hp
      subst hv9
      rw [hg9] at hP
      refine t_eqi (nI 0) (congrArg nI (if_pos hyb)) ?_
      refine lv_iconst (v := nI 1) hx hb dX3_crumble_9 (by decide) ?_
      refine g_callV (As := [.int (nI 0), .int (nI 0), .int (nI 1)]) (rest := []) ⟨hx, hb, hml, hown, hw⟩ (mX3_can l D cT n ad A hD G hn th 0 0 1 (by decide) (by decide) (by decide) hC.1) (cwV 3 hw (gWV wm_X3_63 wi_X3_can wse_X3_can wini_X3 wc_X3_can) rfl rfl rfl (by decide +kernel) ⟨Nat.le_of_ble_eq_true rfl, Nat.le_of_ble_eq_true rfl⟩) hK hE hA hP hS (k := 69) (by omega) hC.1 rfl rfl hl.1 (lv_room (Nat.le_of_ble_eq_true rfl)) dX3_crumble_10 ⟨Nat.le_of_ble_eq_true rfl, Nat.le_of_ble_eq_true rfl⟩ (fun v_6 G_5 H locs hp hP hS => ?_)
      obtain ⟨rfl, hg_G_5, ho_G_5⟩ := hp
      have hc_7 : G_5 69 = .inr (5, [.ref (ad 70), .ref (ad 86), .ref (ad 90), .ref (ad 97), .ref (ad 98), .ref (ad 99), .ref (ad 106), .ref (ad 113), .int (nI 1)]) := hg_G_5
      have hc_8 : G_5 70 = aQ (cT 10) 3 (q3 ad) := (ho_G_5 _ (by omega)).trans hC.2.1
      have hc_9 : G_5 86 = aQ (cT 8) 3 (qS ad) := (ho_G_5 _ (by omega)).trans hC.2.2.2.2.1
      have hc_10 : G_5 90 = aQ (cT 7) 6 (qP ad) := (ho_G_5 _ (by omega)).trans hC.2.2.2.2.2.2.1
      have hc_11 : G_5 97 = aI cT 6 zf := (ho_G_5 _ (by omega)).trans hC.2.2.2.2.2.2.2.2.1
      have hc_12 : G_5 98 = aZ cT 6 xf := (ho_G_5 _ (by omega)).trans hC.2.2.2.2.2.2.2.2.2.1
      have hc_13 : G_5 99 = aQ (cT 9) 6 (qK ad) := (ho_G_5 _ (by omega)).trans hC.2.2.2.2.2.2.2.2.2.2.1
      have hc_14 : G_5 106 = aQ (cT 8) 6 (qL ad) := (ho_G_5 _ (by omega)).trans hC.2.2.2.2.2.2.2.2.2.2.2.2.1
      have hc_15 : G_5 113 = aI cT 6 mf := (ho_G_5 _ (by omega)).trans hC.2.2.2.2.2.2.2.2.2.2.2.2.2.2.1
      have hfr_16 : ∀ j, (j ≠ 69) → G_5 j = G j := fun j hj => (ho_G_5 j (by omega)).trans (rfl)
      refine t_eqi (nI 0) rfl ?_
      refine t_if_ne (tgt := 18) hx hb dX3_crumble_13 (by decide) (by omega) (fun c_17 => absurd c_17 (by omega)) (fun c_17 => ?_)
      refine lv_iconst (v := nI 0) hx hb dX3_crumble_16 (by decide) ?_
      refine g_ret hQ hx hb hr hlocks rfl hP hS (⟨⟨⟨_, rfl⟩, by rw [show cd [xIO, xIA] xIO = 1 from by decide +kernel]; exact MW.same hC hMA hc_7 (fun j9 _ _ hj9 => hfr_16 j9 hj9)⟩, fun j hj => hfr_16 j (by omega)⟩) (Nat.le_of_ble_eq_true rfl) (Nat.le_of_ble_eq_true rfl) dX3_crumble_17
    · skip
      obtain ⟨mo, hmo1, hmo2, rfl⟩ := most_ix (fun h9 => hyo (Or.inl h9)) (Int32.not_lt.mp (fun h9 => hyo (Or.inr h9)))
      refine lv_aload_n hx hb dX3_crumble_0 rfl (lv_at hl 0 rfl) ?_
      refine lv_iload_n hx hb dX3_crumble_1 rfl (lv_at hl 1 rfl) ?_
      refine g_callS (As := [.int x]) (rest := [.ref (ad 69)]) ⟨hx, hb, hml, hown, hw⟩ (mX3_isBench l D cT n ad A hD G x) (va_cwS 1 hw (gWS wm_X3_67 wst_X3_isBench wini_X3 wc_X3_isBench) rfl rfl rfl (by decide +kernel) ⟨Nat.le_of_ble_eq_true rfl, Nat.le_of_ble_eq_true rfl⟩) hK hE hA hP hS rfl hl.1 (lv_room (Nat.le_of_ble_eq_true rfl)) dX3_crumble_2 ⟨Nat.le_of_ble_eq_true rfl, Nat.le_of_ble_eq_true rfl⟩ (fun v_19 G_18 H locs hp hP hS => ?_)
      obtain ⟨hv9, hg9⟩ := hp
      subst hv9
      rw [hg9] at hP
      refine t_eqi (nI 0) (congrArg nI (if_pos hbb)) ?_
      refine lv_iload_n hx hb dX3_crumble_5 rfl (lv_at hl 2 rfl) ?_
      refine g_callS (As := [.int (nI mo)]) (rest := [.int (nI 0), .ref (ad 69)]) ⟨hx, hb, hml, hown, hw⟩ (mX3_isMost l D cT n ad A hD G (nI mo)) (va_cwS 1 hw (gWS wm_X3_93 wst_X3_isMost wini_X3 wc_X3_isMost) rfl rfl rfl (by decide +kernel) ⟨Nat.le_of_ble_eq_true rfl, Nat.le_of_ble_eq_true rfl⟩) hK hE hA hP hS rfl hl.1 (lv_room (Nat.le_of_ble_eq_true rfl)) dX3_crumble_6 ⟨Nat.le_of_ble_eq_true rfl, Nat.le_of_ble_eq_true rfl⟩ (fun v_21 G_20 H locs hp hP hS => ?_)
      obtain ⟨hv9, hg9⟩ := hp
      subst hv9
      rw [hg9] at hP
      refine t_eqi (nI 1) (congrArg nI (if_neg (mo_ok (by omega) (by omega)))) ?_
      refine lv_iconst (v := nI 1) hx hb dX3_crumble_9 (by decide) ?_
      refine g_callV (As := [.int (nI 0), .int (nI 1), .int (nI 1)]) (rest := []) ⟨hx, hb, hml, hown, hw⟩ (mX3_can l D cT n ad A hD G hn th 0 1 1 (by decide) (by decide) (by decide) hC.1) (cwV 3 hw (gWV wm_X3_63 wi_X3_can wse_X3_can wini_X3 wc_X3_can) rfl rfl rfl (by decide +kernel) ⟨Nat.le_of_ble_eq_true rfl, Nat.le_of_ble_eq_true rfl⟩) hK hE hA hP hS (k := 69) (by omega) hC.1 rfl rfl hl.1 (lv_room (Nat.le_of_ble_eq_true rfl)) dX3_crumble_10 ⟨Nat.le_of_ble_eq_true rfl, Nat.le_of_ble_eq_true rfl⟩ (fun v_23 G_22 H locs hp hP hS => ?_)
      obtain ⟨rfl, hg_G_22, ho_G_22⟩ := hp
      have hc_24 : G_22 69 = .inr (5, [.ref (ad 70), .ref (ad 86), .ref (ad 90), .ref (ad 97), .ref (ad 98), .ref (ad 99), .ref (ad 106), .ref (ad 113), .int (nI 1)]) := hg_G_22
      have hc_25 : G_22 70 = aQ (cT 10) 3 (q3 ad) := (ho_G_22 _ (by omega)).trans hC.2.1
      have hc_26 : G_22 86 = aQ (cT 8) 3 (qS ad) := (ho_G_22 _ (by omega)).trans hC.2.2.2.2.1
      have hc_27 : G_22 90 = aQ (cT 7) 6 (qP ad) := (ho_G_22 _ (by omega)).trans hC.2.2.2.2.2.2.1
      have hc_28 : G_22 97 = aI cT 6 zf := (ho_G_22 _ (by omega)).trans hC.2.2.2.2.2.2.2.2.1
      have hc_29 : G_22 98 = aZ cT 6 xf := (ho_G_22 _ (by omega)).trans hC.2.2.2.2.2.2.2.2.2.1
      have hc_30 : G_22 99 = aQ (cT 9) 6 (qK ad) := (ho_G_22 _ (by omega)).trans hC.2.2.2.2.2.2.2.2.2.2.1
      have hc_31 : G_22 106 = aQ (cT 8) 6 (qL ad) := (ho_G_22 _ (by omega)).trans hC.2.2.2.2.2.2.2.2.2.2.2.2.1
      have hc_32 : G_22 113 = aI cT 6 mf := (ho_G_22 _ (by omega)).trans hC.2.2.2.2.2.2.2.2.2.2.2.2.2.2.1
      have hfr_33 : ∀ j, (j ≠ 69) → G_22 j = G j := fun j hj => (ho_G_22 j (by omega)).trans (rfl)
      refine t_eqi (nI 0) rfl ?_
      refine t_if_ne (tgt := 18) hx hb dX3_crumble_13 (by decide) (by omega) (fun c_34 => absurd c_34 (by omega)) (fun c_34 => ?_)
      refine lv_iconst (v := nI 0) hx hb dX3_crumble_16 (by decide) ?_
      refine g_ret hQ hx hb hr hlocks rfl hP hS (⟨⟨⟨_, rfl⟩, by rw [show cd [xIO, xIA] xIO = 1 from by decide +kernel]; exact MW.same hC hMA hc_24 (fun j9 _ _ hj9 => hfr_33 j9 hj9)⟩, fun j hj => hfr_33 j (by omega)⟩) (Nat.le_of_ble_eq_true rfl) (Nat.le_of_ble_eq_true rfl) dX3_crumble_17
  · skip
    obtain ⟨hz, hm, hxx, hpp, hkl⟩ := hMA.2 b (by omega)
    obtain ⟨hit, hbx⟩ := hI.2 b (by omega)
    have hcap := BI_cap hit
    have h48 := hit.1
    refine lv_aload_n hx hb dX3_crumble_0 rfl (lv_at hl 0 rfl) ?_
    refine lv_iload_n hx hb dX3_crumble_1 rfl (lv_at hl 1 rfl) ?_
    refine g_callS (As := [.int (nI b)]) (rest := [.ref (ad 69)]) ⟨hx, hb, hml, hown, hw⟩ (mX3_isBench l D cT n ad A hD G (nI b)) (va_cwS 1 hw (gWS wm_X3_67 wst_X3_isBench wini_X3 wc_X3_isBench) rfl rfl rfl (by decide +kernel) ⟨Nat.le_of_ble_eq_true rfl, Nat.le_of_ble_eq_true rfl⟩) hK hE hA hP hS rfl hl.1 (lv_room (Nat.le_of_ble_eq_true rfl)) dX3_crumble_2 ⟨Nat.le_of_ble_eq_true rfl, Nat.le_of_ble_eq_true rfl⟩ (fun v_36 G_35 H locs hp hP hS => ?_)
    obtain ⟨hv9, hg9⟩ := hp
    subst hv9
    rw [hg9] at hP
    refine t_eqi (nI 1) (congrArg nI (if_neg (ix_ok (by omega) (by decide)))) ?_
    refine lv_iload_n hx hb dX3_crumble_5 rfl (lv_at hl 2 rfl) ?_
    refine g_callS (As := [.int y]) (rest := [.int (nI 1), .ref (ad 69)]) ⟨hx, hb, hml, hown, hw⟩ (mX3_isMost l D cT n ad A hD G y) (va_cwS 1 hw (gWS wm_X3_93 wst_X3_isMost wini_X3 wc_X3_isMost) rfl rfl rfl (by decide +kernel) ⟨Nat.le_of_ble_eq_true rfl, Nat.le_of_ble_eq_true rfl⟩) hK hE hA hP hS rfl hl.1 (lv_room (Nat.le_of_ble_eq_true rfl)) dX3_crumble_6 ⟨Nat.le_of_ble_eq_true rfl, Nat.le_of_ble_eq_true rfl⟩ (fun v_38 G_37 H locs hp hP hS => ?_)
    obtain ⟨hv9, hg9⟩ := hp
    subst hv9
    rw [hg9] at hP
    refine t_eqi (nI 0) (congrArg nI (if_pos hmo)) ?_
    refine lv_iconst (v := nI 1) hx hb dX3_crumble_9 (by decide) ?_
    refine g_callV (As := [.int (nI 1), .int (nI 0), .int (nI 1)]) (rest := []) ⟨hx, hb, hml, hown, hw⟩ (mX3_can l D cT n ad A hD G hn th 1 0 1 (by decide) (by decide) (by decide) hC.1) (cwV 3 hw (gWV wm_X3_63 wi_X3_can wse_X3_can wini_X3 wc_X3_can) rfl rfl rfl (by decide +kernel) ⟨Nat.le_of_ble_eq_true rfl, Nat.le_of_ble_eq_true rfl⟩) hK hE hA hP hS (k := 69) (by omega) hC.1 rfl rfl hl.1 (lv_room (Nat.le_of_ble_eq_true rfl)) dX3_crumble_10 ⟨Nat.le_of_ble_eq_true rfl, Nat.le_of_ble_eq_true rfl⟩ (fun v_40 G_39 H locs hp hP hS => ?_)
    obtain ⟨rfl, hg_G_39, ho_G_39⟩ := hp
    have hc_41 : G_39 69 = .inr (5, [.ref (ad 70), .ref (ad 86), .ref (ad 90), .ref (ad 97), .ref (ad 98), .ref (ad 99), .ref (ad 106), .ref (ad 113), .int (nI 2)]) := hg_G_39
    have hc_42 : G_39 70 = aQ (cT 10) 3 (q3 ad) := (ho_G_39 _ (by omega)).trans hC.2.1
    have hc_43 : G_39 86 = aQ (cT 8) 3 (qS ad) := (ho_G_39 _ (by omega)).trans hC.2.2.2.2.1
    have hc_44 : G_39 90 = aQ (cT 7) 6 (qP ad) := (ho_G_39 _ (by omega)).trans hC.2.2.2.2.2.2.1
    have hc_45 : G_39 97 = aI cT 6 zf := (ho_G_39 _ (by omega)).trans hC.2.2.2.2.2.2.2.2.1
    have hc_46 : G_39 98 = aZ cT 6 xf := (ho_G_39 _ (by omega)).trans hC.2.2.2.2.2.2.2.2.2.1
    have hc_47 : G_39 99 = aQ (cT 9) 6 (qK ad) := (ho_G_39 _ (by omega)).trans hC.2.2.2.2.2.2.2.2.2.2.1
    have hc_48 : G_39 106 = aQ (cT 8) 6 (qL ad) := (ho_G_39 _ (by omega)).trans hC.2.2.2.2.2.2.2.2.2.2.2.2.1
    have hc_49 : G_39 113 = aI cT 6 mf := (ho_G_39 _ (by omega)).trans hC.2.2.2.2.2.2.2.2.2.2.2.2.2.2.1
    have hc_50 : G_39 (91 + b) = aJ cT 48 (pf b) := (ho_G_39 _ (by omega)).trans (hC.2.2.2.2.2.2.2.1 b (by omega))
    have hc_51 : G_39 (100 + b) = aC cT 128 (kf b) := (ho_G_39 _ (by omega)).trans (hC.2.2.2.2.2.2.2.2.2.2.2.1 b (by omega))
    have hc_52 : G_39 (107 + b) = aI cT 128 (lf b) := (ho_G_39 _ (by omega)).trans (hC.2.2.2.2.2.2.2.2.2.2.2.2.2.1 b (by omega))
    have hfr_53 : ∀ j, (j ≠ 69) → G_39 j = G j := fun j hj => (ho_G_39 j (by omega)).trans (rfl)
    refine t_eqi (nI 0) rfl ?_
    refine t_if_ne (tgt := 18) hx hb dX3_crumble_13 (by decide) (by omega) (fun c_54 => absurd c_54 (by omega)) (fun c_54 => ?_)
    refine lv_iconst (v := nI 0) hx hb dX3_crumble_16 (by decide) ?_
    refine g_ret hQ hx hb hr hlocks rfl hP hS (⟨⟨⟨_, rfl⟩, by rw [show cd [xIO, xIA] xIA = 2 from by decide +kernel]; exact MW.same hC hMA hc_41 (fun j9 _ _ hj9 => hfr_53 j9 hj9)⟩, fun j hj => hfr_53 j (by omega)⟩) (Nat.le_of_ble_eq_true rfl) (Nat.le_of_ble_eq_true rfl) dX3_crumble_17

set_option maxHeartbeats 4000000 in
set_option maxRecDepth 100000 in
theorem mX3_crumble_ok (l : Launch) (D : va_G) (cT : Nat → ClassId) (n : Nat) (ad : Nat → Nat) (A : Nat → Prop) (hD : ∀ G, va_D A (gw n ad G)) (G : Nat → va_E) (hn : 114 ≤ n) (σ : TY) (hI : YI σ) (th : Nat) (hM : MW cT ad G σ th)(b : Nat) (hb6 : b < 6) (mo : Nat) (hmo1 : 1 ≤ mo) (hmo2 : mo ≤ 48) : Met l yX3_crumble (wA yX3_crumble cX3_crumble 5 (some .int)) ({ frames := 2, cells := 0, slots := 0, locals := 48 } : Room) (PG D cT n ad A G [.ref (ad 69), .int (nI b), .int (nI mo)]) (QG D n ad A (fun v G1 => (v = some (.int (nI ((crumB (σ.2 b) mo).2.1 - (σ.2 b).2.1))) ∧ MW cT ad G1 (setB σ b (crumB (σ.2 b) mo)) 0) ∧ ∀ j, (j < 69 ∨ 114 ≤ j) → G1 j = G j)) 0 0 A := by
  refine Met.ofG (cc := cX3_crumble) (maxL := 5) (ret := (some .int)) (by decide) (Nat.le_of_ble_eq_true rfl) ?_
  intro p e s m args below meth c Q hQ hx hb hr hml hlocks hown hw hP hK hE hA hS ls hl
  have hl : lv_has ls 5 [(0, .ref (ad 69)), (1, .int (nI b)), (2, .int (nI mo))] := hl
  obtain ⟨rf, sf, pf, zf, xf, kf, lf, mf, hC, hMA⟩ := hM
  obtain ⟨hz, hm, hxx, hpp, hkl⟩ := hMA.2 b (by omega)
  obtain ⟨hit, hbx⟩ := hI.2 b (by omega)
  have hcap := BI_cap hit
  have h48 := hit.1
  refine lv_aload_n hx hb dX3_crumble_0 rfl (lv_at hl 0 rfl) ?_
  refine lv_iload_n hx hb dX3_crumble_1 rfl (lv_at hl 1 rfl) ?_
  refine g_callS (As := [.int (nI b)]) (rest := [.ref (ad 69)]) ⟨hx, hb, hml, hown, hw⟩ (mX3_isBench l D cT n ad A hD G (nI b)) (va_cwS 1 hw (gWS wm_X3_67 wst_X3_isBench wini_X3 wc_X3_isBench) rfl rfl rfl (by decide +kernel) ⟨Nat.le_of_ble_eq_true rfl, Nat.le_of_ble_eq_true rfl⟩) hK hE hA hP hS rfl hl.1 (lv_room (Nat.le_of_ble_eq_true rfl)) dX3_crumble_2 ⟨Nat.le_of_ble_eq_true rfl, Nat.le_of_ble_eq_true rfl⟩ (fun v_2 G_1 H locs hp hP hS => ?_)
  obtain ⟨hv9, hg9⟩ := hp
  subst hv9
  rw [hg9] at hP
  refine t_eqi (nI 1) (congrArg nI (if_neg (ix_ok (by omega) (by decide)))) ?_
  refine lv_iload_n hx hb dX3_crumble_5 rfl (lv_at hl 2 rfl) ?_
  refine g_callS (As := [.int (nI mo)]) (rest := [.int (nI 1), .ref (ad 69)]) ⟨hx, hb, hml, hown, hw⟩ (mX3_isMost l D cT n ad A hD G (nI mo)) (va_cwS 1 hw (gWS wm_X3_93 wst_X3_isMost wini_X3 wc_X3_isMost) rfl rfl rfl (by decide +kernel) ⟨Nat.le_of_ble_eq_true rfl, Nat.le_of_ble_eq_true rfl⟩) hK hE hA hP hS rfl hl.1 (lv_room (Nat.le_of_ble_eq_true rfl)) dX3_crumble_6 ⟨Nat.le_of_ble_eq_true rfl, Nat.le_of_ble_eq_true rfl⟩ (fun v_4 G_3 H locs hp hP hS => ?_)
  obtain ⟨hv9, hg9⟩ := hp
  subst hv9
  rw [hg9] at hP
  refine t_eqi (nI 1) (congrArg nI (if_neg (mo_ok (by omega) (by omega)))) ?_
  refine lv_iconst (v := nI 1) hx hb dX3_crumble_9 (by decide) ?_
  refine g_callV (As := [.int (nI 1), .int (nI 1), .int (nI 1)]) (rest := []) ⟨hx, hb, hml, hown, hw⟩ (mX3_can l D cT n ad A hD G hn th 1 1 1 (by decide) (by decide) (by decide) hC.1) (cwV 3 hw (gWV wm_X3_63 wi_X3_can wse_X3_can wini_X3 wc_X3_can) rfl rfl rfl (by decide +kernel) ⟨Nat.le_of_ble_eq_true rfl, Nat.le_of_ble_eq_true rfl⟩) hK hE hA hP hS (k := 69) (by omega) hC.1 rfl rfl hl.1 (lv_room (Nat.le_of_ble_eq_true rfl)) dX3_crumble_10 ⟨Nat.le_of_ble_eq_true rfl, Nat.le_of_ble_eq_true rfl⟩ (fun v_6 G_5 H locs hp hP hS => ?_)
  obtain ⟨rfl, hg_G_5, ho_G_5⟩ := hp
  have hc_7 : G_5 69 = .inr (5, [.ref (ad 70), .ref (ad 86), .ref (ad 90), .ref (ad 97), .ref (ad 98), .ref (ad 99), .ref (ad 106), .ref (ad 113), .int (nI 0)]) := hg_G_5
  have hc_8 : G_5 70 = aQ (cT 10) 3 (q3 ad) := (ho_G_5 _ (by omega)).trans hC.2.1
  have hc_9 : G_5 86 = aQ (cT 8) 3 (qS ad) := (ho_G_5 _ (by omega)).trans hC.2.2.2.2.1
  have hc_10 : G_5 90 = aQ (cT 7) 6 (qP ad) := (ho_G_5 _ (by omega)).trans hC.2.2.2.2.2.2.1
  have hc_11 : G_5 97 = aI cT 6 zf := (ho_G_5 _ (by omega)).trans hC.2.2.2.2.2.2.2.2.1
  have hc_12 : G_5 98 = aZ cT 6 xf := (ho_G_5 _ (by omega)).trans hC.2.2.2.2.2.2.2.2.2.1
  have hc_13 : G_5 99 = aQ (cT 9) 6 (qK ad) := (ho_G_5 _ (by omega)).trans hC.2.2.2.2.2.2.2.2.2.2.1
  have hc_14 : G_5 106 = aQ (cT 8) 6 (qL ad) := (ho_G_5 _ (by omega)).trans hC.2.2.2.2.2.2.2.2.2.2.2.2.1
  have hc_15 : G_5 113 = aI cT 6 mf := (ho_G_5 _ (by omega)).trans hC.2.2.2.2.2.2.2.2.2.2.2.2.2.2.1
  have hc_16 : G_5 (91 + b) = aJ cT 48 (pf b) := (ho_G_5 _ (by omega)).trans (hC.2.2.2.2.2.2.2.1 b (by omega))
  have hc_17 : G_5 (100 + b) = aC cT 128 (kf b) := (ho_G_5 _ (by omega)).trans (hC.2.2.2.2.2.2.2.2.2.2.2.1 b (by omega))
  have hc_18 : G_5 (107 + b) = aI cT 128 (lf b) := (ho_G_5 _ (by omega)).trans (hC.2.2.2.2.2.2.2.2.2.2.2.2.2.1 b (by omega))
  have hfr_19 : ∀ j, (j ≠ 69) → G_5 j = G j := fun j hj => (ho_G_5 j (by omega)).trans (rfl)
  refine t_eqi (nI 1) rfl ?_
  refine t_if_ne (tgt := 18) hx hb dX3_crumble_13 (by decide) (by omega) (fun c_20 => ?_) (fun c_20 => absurd c_20 (by omega))
  have hfr_21 : ∀ j, j ≠ 69 ∧ j ≠ 100 + b ∧ j ≠ 107 + b ∧ j ≠ 113 → G_5 j = G j := fun j hj => hfr_19 j (hj.1)
  refine lv_iconst (v := nI 0) hx hb dX3_crumble_18 (by decide) ?_
  refine lv_istore_n (lv' := [(3, .int (nI 0)), (0, .ref (ad 69)), (1, .int (nI b)), (2, .int (nI mo))]) hx hb dX3_crumble_19 rfl hl (by decide) rfl (fun ls hl => ?_)
  refine lv_iconst (v := nI 0) hx hb dX3_crumble_20 (by decide) ?_
  refine lv_istore (lv' := [(4, .int (nI 0)), (3, .int (nI 0)), (0, .ref (ad 69)), (1, .int (nI b)), (2, .int (nI mo))]) hx hb dX3_crumble_21 hl (by decide) rfl (fun ls hl => ?_)
  have key_22 : ∀ (fu : Nat) (f u sp : Nat) (K1 L1 : Nat → Nat), (BI (σ.2 b).1 ((σ.2 b).2.1 + sp) K1 L1) → (crum mo f u ((σ.2 b).2.1 + sp) K1 L1 = crum mo 300 0 (σ.2 b).2.1 (σ.2 b).2.2.2.2.1 (σ.2 b).2.2.2.2.2) → (f + u + sp = 300) → (u ≤ (σ.2 b).2.1 + sp) → (f) < fu → ∀ (Gl : Nat → va_E) (H : Heap) (locs : List Loc), (∀ j, (j ≠ 100 + b ∧ j ≠ 107 + b ∧ j ≠ 113) → Gl j = G_5 j) → (∃ k0 l0 m0 : Nat → Nat, MB cT ad Gl 0 b k0 l0 m0 ∧ m0 b = (σ.2 b).2.1 + sp ∧ (∀ c, c ≠ b → m0 c = mf c) ∧ (∀ j, j < (σ.2 b).2.1 + sp → k0 j = K1 j) ∧ ∀ j, j < (σ.2 b).2.1 + sp → l0 j = L1 j) → va_P D vwCl (gw n ad Gl) H → va_S A s.heap H locs → ∀ ls : Array Slot, lv_has ls 5 [(4, .int (nI u)), (3, .int (nI sp)), (2, .int (nI mo)), (1, .int (nI b)), (0, .ref (ad 69))] → W p l e ({ frames := 2, cells := 0, slots := 0, locals := 48 } : Room) s m args below meth c H locs 0 0 Q (F0 m 23 ls []) := by
    intro fu_23
    induction fu_23 with
    | zero => intros; exfalso; omega
    | succ fu_23 ih_24 =>
      intro f u sp K1 L1 hI1 hcr hfu9 hu hfu_25 Gl H locs hfL hEL hP hS ls hl
      have hcap1 := BI_cap hI1
      obtain ⟨k0, l0, m0, ⟨hO, hK0, hL0, hk0, hl0, hm9, hk8, hl8⟩, hmu, hmo9, hak, hal⟩ := hEL
      have hc_26 : Gl (91 + b) = aJ cT 48 (pf b) := (hfL _ (by omega)).trans (hc_16)
      have hc_27 : Gl 97 = aI cT 6 zf := (hfL _ (by omega)).trans (hc_11)
      have hc_28 : Gl 98 = aZ cT 6 xf := (hfL _ (by omega)).trans (hc_12)
      have hfM_29 : ∀ j, j ≠ 69 ∧ j ≠ 100 + b ∧ j ≠ 107 + b ∧ j ≠ 113 → Gl j = G j := fun j hj => (hfL j (by omega)).trans (hfr_21 j hj)
      refine lv_iload hx hb dX3_crumble_23 (lv_at hl 0 rfl) ?_
      refine lv_aload_n hx hb dX3_crumble_25 rfl (lv_at hl 4 rfl) ?_
      refine g_get (C := RX3) (T := TX3) (N := 9) hx hb hw inX3 hown hK hP (i := 69) (by omega) hO rfl 7 (by decide) (hw _ wf_X3_40) rfl dX3_crumble_26 ?_
      refine lv_iload_n hx hb dX3_crumble_29 rfl (lv_at hl 3 rfl) ?_
      refine g_iald hx hb hK hP (i := 113) (by omega) hm9 (by omega) (by omega) dX3_crumble_30 ?_
      refine t_icmp_ge (tgt := 81) hx hb dX3_crumble_31 (by decide) (by omega) (by omega) (fun c_30 => ?_) (fun c_30 => ?_)
      · skip
        have hce : ((σ.2 b).2.1 + sp, K1, L1) = crum mo 300 0 (σ.2 b).2.1 (σ.2 b).2.2.2.2.1 (σ.2 b).2.2.2.2.2 := (crum_end (by omega)).symm.trans hcr
        refine lv_iload_n hx hb dX3_crumble_81 rfl (lv_at hl 1 rfl) ?_
        refine g_ret hQ hx hb hr hlocks rfl hP hS (⟨⟨by show _ = some (Value.int (nI ((crum mo 300 0 (σ.2 b).2.1 (σ.2 b).2.2.2.2.1 (σ.2 b).2.2.2.2.2).1 - (σ.2 b).2.1))); rw [← hce]; rw [show (σ.2 b).2.1 + sp - (σ.2 b).2.1 = sp by omega], MW.bench hC hMA hb6 hO hc_26 hc_27 hc_28 hk0 hl0 hm9 hk8 hl8 (fun j9 a1 a2 a3 a4 a5 a6 a7 a8 a9 => hfM_29 j9 ⟨a3, a7, a8, a9⟩) hz (by rw [hmu]; show _ = (crum mo 300 0 (σ.2 b).2.1 (σ.2 b).2.2.2.2.1 (σ.2 b).2.2.2.2.2).1; rw [← hce]) hxx hpp (fun k hk => by have hk9 : k < (crum mo 300 0 (σ.2 b).2.1 (σ.2 b).2.2.2.2.1 (σ.2 b).2.2.2.2.2).1 := hk; rw [← hce] at hk9; show _ = (crum mo 300 0 (σ.2 b).2.1 (σ.2 b).2.2.2.2.1 (σ.2 b).2.2.2.2.2).2.1 k ∧ _ = (crum mo 300 0 (σ.2 b).2.1 (σ.2 b).2.2.2.2.1 (σ.2 b).2.2.2.2.2).2.2 k; rw [← hce]; exact ⟨hak k hk9, hal k hk9⟩) (fun c hc => ⟨rfl, rfl, hmo9 c hc⟩)⟩, fun j hj => hfM_29 j (by omega)⟩) (Nat.le_of_ble_eq_true rfl) (Nat.le_of_ble_eq_true rfl) dX3_crumble_82
      · skip
        have hku := hak u (by omega)
        have hlu := hal u (by omega)
        have hk16 := hk8 u
        have hl16 := hl8 u
        refine lv_aload_n hx hb dX3_crumble_34 rfl (lv_at hl 4 rfl) ?_
        refine g_get (C := RX3) (T := TX3) (N := 9) hx hb hw inX3 hown hK hP (i := 69) (by omega) hO rfl 5 (by decide) (hw _ wf_X3_34) rfl dX3_crumble_35 ?_
        refine lv_iload_n hx hb dX3_crumble_38 rfl (lv_at hl 3 rfl) ?_
        refine g_aald hx hb hK hP 9 (i := 99) (by omega) hK0 rfl rfl (k := (ad (100 + b))) (by omega) (by omega) (qK_at (by omega)) dX3_crumble_39 ?_
        refine lv_iload hx hb dX3_crumble_40 (lv_at hl 0 rfl) ?_
        refine g_cald hx hb hK hP (i := (100 + b)) (by omega) hk0 (by omega) (by omega) dX3_crumble_42 ?_
        refine lv_bipush (v := nI 112) hx hb dX3_crumble_43 (by decide) ?_
        refine t_icmp_ne (tgt := 75) hx hb dX3_crumble_45 (by decide) (by omega) (by omega) (fun c_31 => ?_) (fun c_31 => ?_)
        · skip
          refine lv_iinc (v := nI (u + 1)) (lv' := [(4, .int (nI (u + 1))), (3, .int (nI sp)), (2, .int (nI mo)), (1, .int (nI b)), (0, .ref (ad 69))]) hx hb dX3_crumble_75 hl (k := 0) rfl (by exact nI_add u 1) (by decide) rfl (fun ls hl => ?_)
          refine lv_goto (tgt := 23) hx hb dX3_crumble_78 (by decide) ?_
          exact ih_24 (f - 1) (u + 1) sp K1 L1 (hI1) ((crum_next (by omega) (by omega) (by omega)).symm.trans hcr) (by omega) (by omega) (by omega) _ _ _ (hfL) (⟨_, _, _, ⟨hO, hK0, hL0, hk0, hl0, hm9, hk8, hl8⟩, hmu, hmo9, hak, hal⟩) hP hS ls (lv_sub hl [0, 1, 2, 3, 4] rfl)
        · skip
          have hKu : K1 u = 112 := by omega
          refine lv_aload_n hx hb dX3_crumble_48 rfl (lv_at hl 4 rfl) ?_
          refine g_get (C := RX3) (T := TX3) (N := 9) hx hb hw inX3 hown hK hP (i := 69) (by omega) hO rfl 6 (by decide) (hw _ wf_X3_37) rfl dX3_crumble_49 ?_
          refine lv_iload_n hx hb dX3_crumble_52 rfl (lv_at hl 3 rfl) ?_
          refine g_aald hx hb hK hP 8 (i := 106) (by omega) hL0 rfl rfl (k := (ad (107 + b))) (by omega) (by omega) (qL_at (by omega)) dX3_crumble_53 ?_
          refine lv_iload hx hb dX3_crumble_54 (lv_at hl 0 rfl) ?_
          refine g_iald hx hb hK hP (i := (107 + b)) (by omega) hl0 (by omega) (by omega) dX3_crumble_56 ?_
          refine lv_iload_n hx hb dX3_crumble_57 rfl (lv_at hl 2 rfl) ?_
          refine t_icmp_le (tgt := 75) hx hb dX3_crumble_58 (by decide) (by omega) (by omega) (fun c_32 => ?_) (fun c_32 => ?_)
          · skip
            refine lv_iinc (v := nI (u + 1)) (lv' := [(4, .int (nI (u + 1))), (3, .int (nI sp)), (2, .int (nI mo)), (1, .int (nI b)), (0, .ref (ad 69))]) hx hb dX3_crumble_75 hl (k := 0) rfl (by exact nI_add u 1) (by decide) rfl (fun ls hl => ?_)
            refine lv_goto (tgt := 23) hx hb dX3_crumble_78 (by decide) ?_
            exact ih_24 (f - 1) (u + 1) sp K1 L1 (hI1) ((crum_next (by omega) (by omega) (by omega)).symm.trans hcr) (by omega) (by omega) (by omega) _ _ _ (hfL) (⟨_, _, _, ⟨hO, hK0, hL0, hk0, hl0, hm9, hk8, hl8⟩, hmu, hmo9, hak, hal⟩) hP hS ls (lv_sub hl [0, 1, 2, 3, 4] rfl)
          · skip
            refine lv_aload_n hx hb dX3_crumble_61 rfl (lv_at hl 4 rfl) ?_
            refine lv_iload_n hx hb dX3_crumble_62 rfl (lv_at hl 3 rfl) ?_
            refine lv_iload hx hb dX3_crumble_63 (lv_at hl 0 rfl) ?_
            refine g_callV (As := [.int (nI b), .int (nI u)]) (rest := []) ⟨hx, hb, hml, hown, hw⟩ (mX3_halved l D cT n ad A hD Gl hn 0 b u k0 l0 m0 hb6 ⟨hO, hK0, hL0, hk0, hl0, hm9, hk8, hl8⟩ (by omega) (by omega)) (cwV 2 hw (gWV wm_X3_90 wi_X3_halved wse_X3_halved wini_X3 wc_X3_halved) rfl rfl rfl (by decide +kernel) ⟨Nat.le_of_ble_eq_true rfl, Nat.le_of_ble_eq_true rfl⟩) hK hE hA hP hS (k := 69) (by omega) hO rfl rfl hl.1 (lv_room (Nat.le_of_ble_eq_true rfl)) dX3_crumble_65 ⟨Nat.le_of_ble_eq_true rfl, Nat.le_of_ble_eq_true rfl⟩ (fun v_34 G_33 H locs hp hP hS => ?_)
            obtain ⟨rfl, hMB_35, hf_36⟩ := hp
            obtain ⟨hO_G_33, hK0_G_33, hL0_G_33, hk0_G_33, hl0_G_33, hm9_G_33, hk9_G_33, hl9_G_33⟩ := id hMB_35
            have hc_37 : G_33 (91 + b) = aJ cT 48 (pf b) := (hf_36 _ (by omega) (by omega) (by omega)).trans hc_26
            have hc_38 : G_33 97 = aI cT 6 zf := (hf_36 _ (by omega) (by omega) (by omega)).trans hc_27
            have hc_39 : G_33 98 = aZ cT 6 xf := (hf_36 _ (by omega) (by omega) (by omega)).trans hc_28
            have hfr_40 : ∀ j, j ≠ 69 ∧ j ≠ 100 + b ∧ j ≠ 107 + b ∧ j ≠ 113 → G_33 j = G j := fun j hj => (hf_36 j (by omega) (by omega) (by omega)).trans (hfM_29 j hj)
            refine lv_pop hx hb dX3_crumble_68 rfl ?_
            refine lv_iinc (v := nI (sp + 1)) (lv' := [(3, .int (nI (sp + 1))), (4, .int (nI u)), (2, .int (nI mo)), (1, .int (nI b)), (0, .ref (ad 69))]) hx hb dX3_crumble_69 hl (k := 1) rfl (by exact nI_add sp 1) (by decide) rfl (fun ls hl => ?_)
            refine lv_goto (tgt := 23) hx hb dX3_crumble_72 (by decide) ?_
            have hfn_41 : ∀ j, (j ≠ 100 + b ∧ j ≠ 107 + b ∧ j ≠ 113) → G_33 j = G_5 j := fun j hj => (hf_36 j hj.1 hj.2.1 hj.2.2).trans (hfL j hj)
            exact ih_24 (f - 1) u (sp + 1) (insN K1 u 1 112) (insN (va_up L1 u (L1 u - L1 u / 2)) u 1 (L1 u / 2)) (show BI (σ.2 b).1 ((σ.2 b).2.1 + sp + 1) _ _ from BI_half hI1 (by omega) hKu (by omega)) (show crum mo (f - 1) u ((σ.2 b).2.1 + sp + 1) _ _ = _ from (crum_split (by omega) (by omega) ⟨hKu, by omega⟩).symm.trans hcr) (by omega) (by omega) (by omega) _ _ _ (hfn_41) (⟨_, _, _, hMB_35, by rw [va_up_self, hmu]; rfl, fun c hc => (va_up_ne _ _ hc).trans (hmo9 c hc), fun j hj => by rw [hmu]; exact ent_ins hak (by omega) j hj, fun j hj => by rw [hmu, hal u (by omega)]; exact ent_ins (fun j hj => upd_ag hal rfl j hj) (by omega) j hj⟩) hP hS ls (lv_sub hl [1, 0, 2, 3, 4] rfl)
  exact key_22 _ 300 0 0 ((σ.2 b).2.2.2.2.1) ((σ.2 b).2.2.2.2.2) (hit) (rfl) (by omega) (by omega) (Nat.lt_succ_self _) _ _ _ (fun _ _ => rfl) (⟨_, _, _, ⟨hc_7, hc_13, hc_14, hc_17, hc_18, hc_15, (hC.2.2.2.2.2.2.2.2.2.2.2.2.2.2.2.1 b hb6), (hC.2.2.2.2.2.2.2.2.2.2.2.2.2.2.2.2 b hb6)⟩, hm, fun _ _ => rfl, fun j hj => (hkl j hj).1, fun j hj => (hkl j hj).2⟩) hP hS ls (lv_sub hl [0, 1, 4, 3, 2] rfl)

set_option maxHeartbeats 4000000 in
set_option maxRecDepth 100000 in
theorem mX3_sweep_ok (l : Launch) (D : va_G) (cT : Nat → ClassId) (n : Nat) (ad : Nat → Nat) (A : Nat → Prop) (hD : ∀ G, va_D A (gw n ad G)) (G : Nat → va_E) (hn : 114 ≤ n) (σ : TY) (hI : YI σ) (th : Nat) (hM : MW cT ad G σ th)(b : Nat) (hb6 : b < 6) : Met l yX3_sweep (wA yX3_sweep cX3_sweep 4 (some .int)) ({ frames := 1, cells := 0, slots := 0, locals := 23 } : Room) (PG D cT n ad A G [.ref (ad 69), .int (nI b)]) (QG D n ad A (fun v G1 => (v = some (.int (nI ((σ.2 b).2.1 - swk (σ.2 b).2.2.2.2.2 (σ.2 b).2.1))) ∧ MW cT ad G1 (setB σ b (sweepB (σ.2 b))) 0) ∧ ∀ j, (j < 69 ∨ 114 ≤ j) → G1 j = G j)) 0 0 A := by
  refine Met.ofG (cc := cX3_sweep) (maxL := 4) (ret := (some .int)) (by decide) (Nat.le_of_ble_eq_true rfl) ?_
  intro p e s m args below meth c Q hQ hx hb hr hml hlocks hown hw hP hK hE hA hS ls hl
  have hl : lv_has ls 4 [(0, .ref (ad 69)), (1, .int (nI b))] := hl
  obtain ⟨rf, sf, pf, zf, xf, kf, lf, mf, hC, hMA⟩ := hM
  obtain ⟨hz, hm, hxx, hpp, hkl⟩ := hMA.2 b (by omega)
  obtain ⟨hit, hbx⟩ := hI.2 b (by omega)
  have hcap := BI_cap hit
  have h48 := hit.1
  refine lv_aload_n hx hb dX3_sweep_0 rfl (lv_at hl 0 rfl) ?_
  refine lv_iload_n hx hb dX3_sweep_1 rfl (lv_at hl 1 rfl) ?_
  refine g_callS (As := [.int (nI b)]) (rest := [.ref (ad 69)]) ⟨hx, hb, hml, hown, hw⟩ (mX3_isBench l D cT n ad A hD G (nI b)) (va_cwS 1 hw (gWS wm_X3_67 wst_X3_isBench wini_X3 wc_X3_isBench) rfl rfl rfl (by decide +kernel) ⟨Nat.le_of_ble_eq_true rfl, Nat.le_of_ble_eq_true rfl⟩) hK hE hA hP hS rfl hl.1 (lv_room (Nat.le_of_ble_eq_true rfl)) dX3_sweep_2 ⟨Nat.le_of_ble_eq_true rfl, Nat.le_of_ble_eq_true rfl⟩ (fun v_2 G_1 H locs hp hP hS => ?_)
  obtain ⟨hv9, hg9⟩ := hp
  subst hv9
  rw [hg9] at hP
  refine t_eqi (nI 1) (congrArg nI (if_neg (ix_ok (by omega) (by decide)))) ?_
  refine lv_iconst (v := nI 1) hx hb dX3_sweep_5 (by decide) ?_
  refine lv_iconst (v := nI 1) hx hb dX3_sweep_6 (by decide) ?_
  refine g_callV (As := [.int (nI 1), .int (nI 1), .int (nI 1)]) (rest := []) ⟨hx, hb, hml, hown, hw⟩ (mX3_can l D cT n ad A hD G hn th 1 1 1 (by decide) (by decide) (by decide) hC.1) (cwV 3 hw (gWV wm_X3_63 wi_X3_can wse_X3_can wini_X3 wc_X3_can) rfl rfl rfl (by decide +kernel) ⟨Nat.le_of_ble_eq_true rfl, Nat.le_of_ble_eq_true rfl⟩) hK hE hA hP hS (k := 69) (by omega) hC.1 rfl rfl hl.1 (lv_room (Nat.le_of_ble_eq_true rfl)) dX3_sweep_7 ⟨Nat.le_of_ble_eq_true rfl, Nat.le_of_ble_eq_true rfl⟩ (fun v_4 G_3 H locs hp hP hS => ?_)
  obtain ⟨rfl, hg_G_3, ho_G_3⟩ := hp
  have hc_5 : G_3 69 = .inr (5, [.ref (ad 70), .ref (ad 86), .ref (ad 90), .ref (ad 97), .ref (ad 98), .ref (ad 99), .ref (ad 106), .ref (ad 113), .int (nI 0)]) := hg_G_3
  have hc_6 : G_3 70 = aQ (cT 10) 3 (q3 ad) := (ho_G_3 _ (by omega)).trans hC.2.1
  have hc_7 : G_3 86 = aQ (cT 8) 3 (qS ad) := (ho_G_3 _ (by omega)).trans hC.2.2.2.2.1
  have hc_8 : G_3 90 = aQ (cT 7) 6 (qP ad) := (ho_G_3 _ (by omega)).trans hC.2.2.2.2.2.2.1
  have hc_9 : G_3 97 = aI cT 6 zf := (ho_G_3 _ (by omega)).trans hC.2.2.2.2.2.2.2.2.1
  have hc_10 : G_3 98 = aZ cT 6 xf := (ho_G_3 _ (by omega)).trans hC.2.2.2.2.2.2.2.2.2.1
  have hc_11 : G_3 99 = aQ (cT 9) 6 (qK ad) := (ho_G_3 _ (by omega)).trans hC.2.2.2.2.2.2.2.2.2.2.1
  have hc_12 : G_3 106 = aQ (cT 8) 6 (qL ad) := (ho_G_3 _ (by omega)).trans hC.2.2.2.2.2.2.2.2.2.2.2.2.1
  have hc_13 : G_3 113 = aI cT 6 mf := (ho_G_3 _ (by omega)).trans hC.2.2.2.2.2.2.2.2.2.2.2.2.2.2.1
  have hc_14 : G_3 (91 + b) = aJ cT 48 (pf b) := (ho_G_3 _ (by omega)).trans (hC.2.2.2.2.2.2.2.1 b (by omega))
  have hc_15 : G_3 (100 + b) = aC cT 128 (kf b) := (ho_G_3 _ (by omega)).trans (hC.2.2.2.2.2.2.2.2.2.2.2.1 b (by omega))
  have hc_16 : G_3 (107 + b) = aI cT 128 (lf b) := (ho_G_3 _ (by omega)).trans (hC.2.2.2.2.2.2.2.2.2.2.2.2.2.1 b (by omega))
  have hfr_17 : ∀ j, (j ≠ 69) → G_3 j = G j := fun j hj => (ho_G_3 j (by omega)).trans (rfl)
  refine t_eqi (nI 1) rfl ?_
  refine t_if_ne (tgt := 15) hx hb dX3_sweep_10 (by decide) (by omega) (fun c_18 => ?_) (fun c_18 => absurd c_18 (by omega))
  have hfr_19 : ∀ j, j ≠ 69 ∧ j ≠ 100 + b ∧ j ≠ 107 + b ∧ j ≠ 113 → G_3 j = G j := fun j hj => hfr_17 j (hj.1)
  refine lv_iconst (v := nI 0) hx hb dX3_sweep_15 (by decide) ?_
  refine lv_istore_n (lv' := [(2, .int (nI 0)), (0, .ref (ad 69)), (1, .int (nI b))]) hx hb dX3_sweep_16 rfl hl (by decide) rfl (fun ls hl => ?_)
  refine lv_iconst (v := nI 0) hx hb dX3_sweep_17 (by decide) ?_
  refine lv_istore_n (lv' := [(3, .int (nI 0)), (2, .int (nI 0)), (0, .ref (ad 69)), (1, .int (nI b))]) hx hb dX3_sweep_18 rfl hl (by decide) rfl (fun ls hl => ?_)
  have key_20 : ∀ (fu : Nat) (u : Nat), (u ≤ (σ.2 b).2.1) → ((σ.2 b).2.1 - u) < fu → ∀ (Gl : Nat → va_E) (H : Heap) (locs : List Loc), (∀ j, (j ≠ 100 + b ∧ j ≠ 107 + b) → Gl j = G_3 j) → (Gl (100 + b) = aC cT 128 (swF (kf b) (σ.2 b).2.2.2.2.2 u)) → (Gl (107 + b) = aI cT 128 (swF (lf b) (σ.2 b).2.2.2.2.2 u)) → va_P D vwCl (gw n ad Gl) H → va_S A s.heap H locs → ∀ ls : Array Slot, lv_has ls 4 [(3, .int (nI u)), (2, .int (nI (swk (σ.2 b).2.2.2.2.2 u))), (1, .int (nI b)), (0, .ref (ad 69))] → W p l e ({ frames := 1, cells := 0, slots := 0, locals := 23 } : Room) s m args below meth c H locs 0 0 Q (F0 m 19 ls []) := by
    intro fu_21
    induction fu_21 with
    | zero => intros; exfalso; omega
    | succ fu_21 ih_22 =>
      intro u hu hfu_23 Gl H locs hfL hRK hRL hP hS ls hl
      have hsk := swk_le (σ.2 b).2.2.2.2.2 u
      have hc_24 : Gl 69 = .inr (5, [.ref (ad 70), .ref (ad 86), .ref (ad 90), .ref (ad 97), .ref (ad 98), .ref (ad 99), .ref (ad 106), .ref (ad 113), .int (nI 0)]) := (hfL _ (by omega)).trans (hc_5)
      have hc_25 : Gl 70 = aQ (cT 10) 3 (q3 ad) := (hfL _ (by omega)).trans (hc_6)
      have hc_26 : Gl 86 = aQ (cT 8) 3 (qS ad) := (hfL _ (by omega)).trans (hc_7)
      have hc_27 : Gl 90 = aQ (cT 7) 6 (qP ad) := (hfL _ (by omega)).trans (hc_8)
      have hc_28 : Gl 97 = aI cT 6 zf := (hfL _ (by omega)).trans (hc_9)
      have hc_29 : Gl 98 = aZ cT 6 xf := (hfL _ (by omega)).trans (hc_10)
      have hc_30 : Gl 99 = aQ (cT 9) 6 (qK ad) := (hfL _ (by omega)).trans (hc_11)
      have hc_31 : Gl 106 = aQ (cT 8) 6 (qL ad) := (hfL _ (by omega)).trans (hc_12)
      have hc_32 : Gl 113 = aI cT 6 mf := (hfL _ (by omega)).trans (hc_13)
      have hc_33 : Gl (91 + b) = aJ cT 48 (pf b) := (hfL _ (by omega)).trans (hc_14)
      have hfM_34 : ∀ j, j ≠ 69 ∧ j ≠ 100 + b ∧ j ≠ 107 + b ∧ j ≠ 113 → Gl j = G j := fun j hj => (hfL j (by omega)).trans (hfr_19 j hj)
      refine lv_iload_n hx hb dX3_sweep_19 rfl (lv_at hl 0 rfl) ?_
      refine lv_aload_n hx hb dX3_sweep_20 rfl (lv_at hl 3 rfl) ?_
      refine g_get (C := RX3) (T := TX3) (N := 9) hx hb hw inX3 hown hK hP (i := 69) (by omega) hc_24 rfl 7 (by decide) (hw _ wf_X3_40) rfl dX3_sweep_21 ?_
      refine lv_iload_n hx hb dX3_sweep_24 rfl (lv_at hl 2 rfl) ?_
      refine g_iald hx hb hK hP (i := 113) (by omega) hc_32 (by omega) (by omega) dX3_sweep_25 ?_
      refine t_icmp_ge (tgt := 81) hx hb dX3_sweep_26 (by decide) (by omega) (by omega) (fun c_35 => ?_) (fun c_35 => ?_)
      · skip
        obtain rfl : u = (σ.2 b).2.1 := by omega
        have hsk9 := swk_le (σ.2 b).2.2.2.2.2 (σ.2 b).2.1
        refine lv_aload_n hx hb dX3_sweep_81 rfl (lv_at hl 3 rfl) ?_
        refine g_get (C := RX3) (T := TX3) (N := 9) hx hb hw inX3 hown hK hP (i := 69) (by omega) hc_24 rfl 7 (by decide) (hw _ wf_X3_40) rfl dX3_sweep_82 ?_
        refine lv_iload_n hx hb dX3_sweep_85 rfl (lv_at hl 2 rfl) ?_
        refine g_iald hx hb hK hP (i := 113) (by omega) hc_32 (by omega) (by omega) dX3_sweep_86 ?_
        refine lv_iload_n hx hb dX3_sweep_87 rfl (lv_at hl 1 rfl) ?_
        refine lv_isub hx hb dX3_sweep_88 ?_
        refine t_eqi (nI ((mf b) - (swk (σ.2 b).2.2.2.2.2 (σ.2 b).2.1))) (pk_sub (by omega)) ?_
        refine lv_istore_n (lv' := [(3, .int (nI ((mf b) - (swk (σ.2 b).2.2.2.2.2 (σ.2 b).2.1)))), (2, .int (nI (swk (σ.2 b).2.2.2.2.2 (σ.2 b).2.1))), (1, .int (nI b)), (0, .ref (ad 69))]) hx hb dX3_sweep_89 rfl hl (by decide) rfl (fun ls hl => ?_)
        refine lv_aload_n hx hb dX3_sweep_90 rfl (lv_at hl 3 rfl) ?_
        refine g_get (C := RX3) (T := TX3) (N := 9) hx hb hw inX3 hown hK hP (i := 69) (by omega) hc_24 rfl 7 (by decide) (hw _ wf_X3_40) rfl dX3_sweep_91 ?_
        refine lv_iload_n hx hb dX3_sweep_94 rfl (lv_at hl 2 rfl) ?_
        refine lv_iload_n hx hb dX3_sweep_95 rfl (lv_at hl 1 rfl) ?_
        refine g_iast hx hb hK hP hD hS (i := 113) (by omega) hc_32 (by omega) (by omega) dX3_sweep_96 (fun G_36 H locs hg_G_36 ho_G_36 hP hS => ?_)
        have hc_37 : G_36 69 = .inr (5, [.ref (ad 70), .ref (ad 86), .ref (ad 90), .ref (ad 97), .ref (ad 98), .ref (ad 99), .ref (ad 106), .ref (ad 113), .int (nI 0)]) := (ho_G_36 _ (by omega)).trans hc_24
        have hc_38 : G_36 70 = aQ (cT 10) 3 (q3 ad) := (ho_G_36 _ (by omega)).trans hc_25
        have hc_39 : G_36 86 = aQ (cT 8) 3 (qS ad) := (ho_G_36 _ (by omega)).trans hc_26
        have hc_40 : G_36 90 = aQ (cT 7) 6 (qP ad) := (ho_G_36 _ (by omega)).trans hc_27
        have hc_41 : G_36 97 = aI cT 6 zf := (ho_G_36 _ (by omega)).trans hc_28
        have hc_42 : G_36 98 = aZ cT 6 xf := (ho_G_36 _ (by omega)).trans hc_29
        have hc_43 : G_36 99 = aQ (cT 9) 6 (qK ad) := (ho_G_36 _ (by omega)).trans hc_30
        have hc_44 : G_36 106 = aQ (cT 8) 6 (qL ad) := (ho_G_36 _ (by omega)).trans hc_31
        have hc_45 : G_36 113 = aI cT 6 (va_up mf b (swk (σ.2 b).2.2.2.2.2 (σ.2 b).2.1)) := hg_G_36
        have hc_46 : G_36 (91 + b) = aJ cT 48 (pf b) := (ho_G_36 _ (by omega)).trans hc_33
        have hc_47 : G_36 (100 + b) = aC cT 128 (swF (kf b) (σ.2 b).2.2.2.2.2 (σ.2 b).2.1) := (ho_G_36 _ (by omega)).trans hRK
        have hc_48 : G_36 (107 + b) = aI cT 128 (swF (lf b) (σ.2 b).2.2.2.2.2 (σ.2 b).2.1) := (ho_G_36 _ (by omega)).trans hRL
        have hfr_49 : ∀ j, j ≠ 69 ∧ j ≠ 100 + b ∧ j ≠ 107 + b ∧ j ≠ 113 → G_36 j = G j := fun j hj => (ho_G_36 j (by omega)).trans (hfM_34 j hj)
        refine lv_iload_n hx hb dX3_sweep_97 rfl (lv_at hl 0 rfl) ?_
        refine g_ret hQ hx hb hr hlocks rfl hP hS (⟨⟨by rw [hm], MW.bench hC hMA hb6 hc_37 hc_46 hc_41 hc_42 hc_47 hc_48 hc_45 (swF_lt (hC.2.2.2.2.2.2.2.2.2.2.2.2.2.2.2.1 b hb6) _) (swF_lt (hC.2.2.2.2.2.2.2.2.2.2.2.2.2.2.2.2 b hb6) _) (fun j9 a1 a2 a3 a4 a5 a6 a7 a8 a9 => hfr_49 j9 ⟨a3, a7, a8, a9⟩) hz (va_up_self _ _ _) hxx hpp (fun k hk => ⟨sw_agree _ (fun k hk => (hkl k hk).1) k hk, sw_agree _ (fun k hk => (hkl k hk).2) k hk⟩) (fun c hc => ⟨rfl, rfl, va_up_ne _ _ hc⟩)⟩, fun j hj => hfr_49 j (by omega)⟩) (Nat.le_of_ble_eq_true rfl) (Nat.le_of_ble_eq_true rfl) dX3_sweep_98
      · skip
        have hku : swF (kf b) (σ.2 b).2.2.2.2.2 u u = kf b u := swF_hi _ _ u u (Nat.le_refl _)
        have hlu : swF (lf b) (σ.2 b).2.2.2.2.2 u u = lf b u := swF_hi _ _ u u (Nat.le_refl _)
        have hk16 := (hC.2.2.2.2.2.2.2.2.2.2.2.2.2.2.2.1 b hb6) u
        have hl16 := (hC.2.2.2.2.2.2.2.2.2.2.2.2.2.2.2.2 b hb6) u
        obtain ⟨hku9, hlu9⟩ := hkl u (by omega)
        refine lv_aload_n hx hb dX3_sweep_29 rfl (lv_at hl 3 rfl) ?_
        refine g_get (C := RX3) (T := TX3) (N := 9) hx hb hw inX3 hown hK hP (i := 69) (by omega) hc_24 rfl 6 (by decide) (hw _ wf_X3_37) rfl dX3_sweep_30 ?_
        refine lv_iload_n hx hb dX3_sweep_33 rfl (lv_at hl 2 rfl) ?_
        refine g_aald hx hb hK hP 8 (i := 106) (by omega) hc_31 rfl rfl (k := (ad (107 + b))) (by omega) (by omega) (qL_at (by omega)) dX3_sweep_34 ?_
        refine lv_iload_n hx hb dX3_sweep_35 rfl (lv_at hl 0 rfl) ?_
        refine g_iald hx hb hK hP (i := (107 + b)) (by omega) hRL (by omega) (by omega) dX3_sweep_36 ?_
        refine t_if_le (tgt := 75) hx hb dX3_sweep_37 (by decide) (by omega) (fun c_50 => ?_) (fun c_50 => ?_)
        · skip
          refine lv_iinc (v := nI (u + 1)) (lv' := [(3, .int (nI (u + 1))), (2, .int (nI (swk (σ.2 b).2.2.2.2.2 u))), (1, .int (nI b)), (0, .ref (ad 69))]) hx hb dX3_sweep_75 hl (k := 0) rfl (by exact nI_add u 1) (by decide) rfl (fun ls hl => ?_)
          refine lv_goto (tgt := 19) hx hb dX3_sweep_78 (by decide) ?_
          have hz8 : swk (σ.2 b).2.2.2.2.2 u = swk (σ.2 b).2.2.2.2.2 (u + 1) := by rw [swk_0 (by omega)]
          have hl := hl
          rw [hz8] at hl
          exact ih_22 (u + 1) (by omega) (by omega) _ _ _ (hfL) (hRK.trans (congrArg (aC cT 128) (swF_0 _ (by omega)).symm)) (hRL.trans (congrArg (aI cT 128) (swF_0 _ (by omega)).symm)) hP hS ls (lv_sub hl [0, 1, 2, 3] rfl)
        · skip
          refine lv_aload_n hx hb dX3_sweep_40 rfl (lv_at hl 3 rfl) ?_
          refine g_get (C := RX3) (T := TX3) (N := 9) hx hb hw inX3 hown hK hP (i := 69) (by omega) hc_24 rfl 5 (by decide) (hw _ wf_X3_34) rfl dX3_sweep_41 ?_
          refine lv_iload_n hx hb dX3_sweep_44 rfl (lv_at hl 2 rfl) ?_
          refine g_aald hx hb hK hP 9 (i := 99) (by omega) hc_30 rfl rfl (k := (ad (100 + b))) (by omega) (by omega) (qK_at (by omega)) dX3_sweep_45 ?_
          refine lv_iload_n hx hb dX3_sweep_46 rfl (lv_at hl 1 rfl) ?_
          refine lv_aload_n hx hb dX3_sweep_47 rfl (lv_at hl 3 rfl) ?_
          refine g_get (C := RX3) (T := TX3) (N := 9) hx hb hw inX3 hown hK hP (i := 69) (by omega) hc_24 rfl 5 (by decide) (hw _ wf_X3_34) rfl dX3_sweep_48 ?_
          refine lv_iload_n hx hb dX3_sweep_51 rfl (lv_at hl 2 rfl) ?_
          refine g_aald hx hb hK hP 9 (i := 99) (by omega) hc_30 rfl rfl (k := (ad (100 + b))) (by omega) (by omega) (qK_at (by omega)) dX3_sweep_52 ?_
          refine lv_iload_n hx hb dX3_sweep_53 rfl (lv_at hl 0 rfl) ?_
          refine g_cald hx hb hK hP (i := (100 + b)) (by omega) hRK (by omega) (by omega) dX3_sweep_54 ?_
          refine g_cast hx hb hK hP hD hS (i := (100 + b)) (by omega) hRK (x := ((swF (kf b) (σ.2 b).2.2.2.2.2 u) u)) (by omega) (by omega) (by omega) dX3_sweep_55 (fun G_51 H locs hg_G_51 ho_G_51 hP hS => ?_)
          have hc_52 : G_51 69 = .inr (5, [.ref (ad 70), .ref (ad 86), .ref (ad 90), .ref (ad 97), .ref (ad 98), .ref (ad 99), .ref (ad 106), .ref (ad 113), .int (nI 0)]) := (ho_G_51 _ (by omega)).trans hc_24
          have hc_53 : G_51 70 = aQ (cT 10) 3 (q3 ad) := (ho_G_51 _ (by omega)).trans hc_25
          have hc_54 : G_51 86 = aQ (cT 8) 3 (qS ad) := (ho_G_51 _ (by omega)).trans hc_26
          have hc_55 : G_51 90 = aQ (cT 7) 6 (qP ad) := (ho_G_51 _ (by omega)).trans hc_27
          have hc_56 : G_51 97 = aI cT 6 zf := (ho_G_51 _ (by omega)).trans hc_28
          have hc_57 : G_51 98 = aZ cT 6 xf := (ho_G_51 _ (by omega)).trans hc_29
          have hc_58 : G_51 99 = aQ (cT 9) 6 (qK ad) := (ho_G_51 _ (by omega)).trans hc_30
          have hc_59 : G_51 106 = aQ (cT 8) 6 (qL ad) := (ho_G_51 _ (by omega)).trans hc_31
          have hc_60 : G_51 113 = aI cT 6 mf := (ho_G_51 _ (by omega)).trans hc_32
          have hc_61 : G_51 (91 + b) = aJ cT 48 (pf b) := (ho_G_51 _ (by omega)).trans hc_33
          have hc_62 : G_51 (100 + b) = aC cT 128 (va_up (swF (kf b) (σ.2 b).2.2.2.2.2 u) (swk (σ.2 b).2.2.2.2.2 u) ((swF (kf b) (σ.2 b).2.2.2.2.2 u) u)) := hg_G_51
          have hc_63 : G_51 (107 + b) = aI cT 128 (swF (lf b) (σ.2 b).2.2.2.2.2 u) := (ho_G_51 _ (by omega)).trans hRL
          have hfr_64 : ∀ j, j ≠ 69 ∧ j ≠ 100 + b ∧ j ≠ 107 + b ∧ j ≠ 113 → G_51 j = G j := fun j hj => (ho_G_51 j (by omega)).trans (hfM_34 j hj)
          refine lv_aload_n hx hb dX3_sweep_56 rfl (lv_at hl 3 rfl) ?_
          refine g_get (C := RX3) (T := TX3) (N := 9) hx hb hw inX3 hown hK hP (i := 69) (by omega) hc_52 rfl 6 (by decide) (hw _ wf_X3_37) rfl dX3_sweep_57 ?_
          refine lv_iload_n hx hb dX3_sweep_60 rfl (lv_at hl 2 rfl) ?_
          refine g_aald hx hb hK hP 8 (i := 106) (by omega) hc_59 rfl rfl (k := (ad (107 + b))) (by omega) (by omega) (qL_at (by omega)) dX3_sweep_61 ?_
          refine lv_iload_n hx hb dX3_sweep_62 rfl (lv_at hl 1 rfl) ?_
          refine lv_aload_n hx hb dX3_sweep_63 rfl (lv_at hl 3 rfl) ?_
          refine g_get (C := RX3) (T := TX3) (N := 9) hx hb hw inX3 hown hK hP (i := 69) (by omega) hc_52 rfl 6 (by decide) (hw _ wf_X3_37) rfl dX3_sweep_64 ?_
          refine lv_iload_n hx hb dX3_sweep_67 rfl (lv_at hl 2 rfl) ?_
          refine g_aald hx hb hK hP 8 (i := 106) (by omega) hc_59 rfl rfl (k := (ad (107 + b))) (by omega) (by omega) (qL_at (by omega)) dX3_sweep_68 ?_
          refine lv_iload_n hx hb dX3_sweep_69 rfl (lv_at hl 0 rfl) ?_
          refine g_iald hx hb hK hP (i := (107 + b)) (by omega) hc_63 (by omega) (by omega) dX3_sweep_70 ?_
          refine g_iast hx hb hK hP hD hS (i := (107 + b)) (by omega) hc_63 (by omega) (by omega) dX3_sweep_71 (fun G_65 H locs hg_G_65 ho_G_65 hP hS => ?_)
          have hc_66 : G_65 69 = .inr (5, [.ref (ad 70), .ref (ad 86), .ref (ad 90), .ref (ad 97), .ref (ad 98), .ref (ad 99), .ref (ad 106), .ref (ad 113), .int (nI 0)]) := (ho_G_65 _ (by omega)).trans hc_52
          have hc_67 : G_65 70 = aQ (cT 10) 3 (q3 ad) := (ho_G_65 _ (by omega)).trans hc_53
          have hc_68 : G_65 86 = aQ (cT 8) 3 (qS ad) := (ho_G_65 _ (by omega)).trans hc_54
          have hc_69 : G_65 90 = aQ (cT 7) 6 (qP ad) := (ho_G_65 _ (by omega)).trans hc_55
          have hc_70 : G_65 97 = aI cT 6 zf := (ho_G_65 _ (by omega)).trans hc_56
          have hc_71 : G_65 98 = aZ cT 6 xf := (ho_G_65 _ (by omega)).trans hc_57
          have hc_72 : G_65 99 = aQ (cT 9) 6 (qK ad) := (ho_G_65 _ (by omega)).trans hc_58
          have hc_73 : G_65 106 = aQ (cT 8) 6 (qL ad) := (ho_G_65 _ (by omega)).trans hc_59
          have hc_74 : G_65 113 = aI cT 6 mf := (ho_G_65 _ (by omega)).trans hc_60
          have hc_75 : G_65 (91 + b) = aJ cT 48 (pf b) := (ho_G_65 _ (by omega)).trans hc_61
          have hc_76 : G_65 (100 + b) = aC cT 128 (va_up (swF (kf b) (σ.2 b).2.2.2.2.2 u) (swk (σ.2 b).2.2.2.2.2 u) ((swF (kf b) (σ.2 b).2.2.2.2.2 u) u)) := (ho_G_65 _ (by omega)).trans hc_62
          have hc_77 : G_65 (107 + b) = aI cT 128 (va_up (swF (lf b) (σ.2 b).2.2.2.2.2 u) (swk (σ.2 b).2.2.2.2.2 u) ((swF (lf b) (σ.2 b).2.2.2.2.2 u) u)) := hg_G_65
          have hfr_78 : ∀ j, j ≠ 69 ∧ j ≠ 100 + b ∧ j ≠ 107 + b ∧ j ≠ 113 → G_65 j = G j := fun j hj => (ho_G_65 j (by omega)).trans (hfr_64 j hj)
          refine lv_iinc (v := nI (swk (σ.2 b).2.2.2.2.2 u + 1)) (lv' := [(2, .int (nI (swk (σ.2 b).2.2.2.2.2 u + 1))), (3, .int (nI u)), (1, .int (nI b)), (0, .ref (ad 69))]) hx hb dX3_sweep_72 hl (k := 1) rfl (by exact nI_add (swk (σ.2 b).2.2.2.2.2 u) 1) (by decide) rfl (fun ls hl => ?_)
          refine lv_iinc (v := nI (u + 1)) (lv' := [(3, .int (nI (u + 1))), (2, .int (nI (swk (σ.2 b).2.2.2.2.2 u + 1))), (1, .int (nI b)), (0, .ref (ad 69))]) hx hb dX3_sweep_75 hl (k := 1) rfl (by exact nI_add u 1) (by decide) rfl (fun ls hl => ?_)
          refine lv_goto (tgt := 19) hx hb dX3_sweep_78 (by decide) ?_
          have hz8 : swk (σ.2 b).2.2.2.2.2 u + 1 = swk (σ.2 b).2.2.2.2.2 (u + 1) := by rw [swk_1 (by omega)]
          have hl := hl
          rw [hz8] at hl
          have hfn_79 : ∀ j, (j ≠ 100 + b ∧ j ≠ 107 + b) → G_65 j = G_3 j := fun j hj => ((ho_G_65 j hj.2).trans (ho_G_51 j hj.1)).trans (hfL j hj)
          exact ih_22 (u + 1) (by omega) (by omega) _ _ _ (hfn_79) (hc_76.trans (congrArg (aC cT 128) (by rw [hku, ← swF_1 _ (by omega)]))) (hc_77.trans (congrArg (aI cT 128) (by rw [hlu, ← swF_1 _ (by omega)]))) hP hS ls (lv_sub hl [0, 1, 2, 3] rfl)
  exact key_20 _ 0 (by omega) (Nat.lt_succ_self _) _ _ _ (fun _ _ => rfl) (hc_15) (hc_16) hP hS ls (lv_sub hl [0, 1, 3, 2] rfl)

set_option maxHeartbeats 4000000 in
set_option maxRecDepth 100000 in
theorem mX3_sweep_no (l : Launch) (D : va_G) (cT : Nat → ClassId) (n : Nat) (ad : Nat → Nat) (A : Nat → Prop) (hD : ∀ G, va_D A (gw n ad G)) (G : Nat → va_E) (hn : 114 ≤ n) (σ : TY) (hI : YI σ) (th : Nat) (hM : MW cT ad G σ th) (x : Int32) (E : String) (hpx : pxBen x E) : Met l yX3_sweep (wA yX3_sweep cX3_sweep 4 (some .int)) ({ frames := 1, cells := 0, slots := 0, locals := 23 } : Room) (PG D cT n ad A G [.ref (ad 69), .int x]) (QG D n ad A (fun v G1 => ((∃ z, v = some (.int z)) ∧ MW cT ad G1 σ (cd [xIO] E)) ∧ ∀ j, (j < 69 ∨ 114 ≤ j) → G1 j = G j)) 0 0 A := by
  refine Met.ofG (cc := cX3_sweep) (maxL := 4) (ret := (some .int)) (by decide) (Nat.le_of_ble_eq_true rfl) ?_
  intro p e s m args below meth c Q hQ hx hb hr hml hlocks hown hw hP hK hE hA hS ls hl
  have hl : lv_has ls 4 [(0, .ref (ad 69)), (1, .int x)] := hl
  obtain ⟨rf, sf, pf, zf, xf, kf, lf, mf, hC, hMA⟩ := hM
  obtain ⟨hbb, rfl⟩ := hpx
  refine lv_aload_n hx hb dX3_sweep_0 rfl (lv_at hl 0 rfl) ?_
  refine lv_iload_n hx hb dX3_sweep_1 rfl (lv_at hl 1 rfl) ?_
  refine g_callS (As := [.int x]) (rest := [.ref (ad 69)]) ⟨hx, hb, hml, hown, hw⟩ (mX3_isBench l D cT n ad A hD G x) (va_cwS 1 hw (gWS wm_X3_67 wst_X3_isBench wini_X3 wc_X3_isBench) rfl rfl rfl (by decide +kernel) ⟨Nat.le_of_ble_eq_true rfl, Nat.le_of_ble_eq_true rfl⟩) hK hE hA hP hS rfl hl.1 (lv_room (Nat.le_of_ble_eq_true rfl)) dX3_sweep_2 ⟨Nat.le_of_ble_eq_true rfl, Nat.le_of_ble_eq_true rfl⟩ (fun v_2 G_1 H locs hp hP hS => ?_)
  obtain ⟨hv9, hg9⟩ := hp
  subst hv9
  rw [hg9] at hP
  refine t_eqi (nI 0) (congrArg nI (if_pos hbb)) ?_
  refine lv_iconst (v := nI 1) hx hb dX3_sweep_5 (by decide) ?_
  refine lv_iconst (v := nI 1) hx hb dX3_sweep_6 (by decide) ?_
  refine g_callV (As := [.int (nI 0), .int (nI 1), .int (nI 1)]) (rest := []) ⟨hx, hb, hml, hown, hw⟩ (mX3_can l D cT n ad A hD G hn th 0 1 1 (by decide) (by decide) (by decide) hC.1) (cwV 3 hw (gWV wm_X3_63 wi_X3_can wse_X3_can wini_X3 wc_X3_can) rfl rfl rfl (by decide +kernel) ⟨Nat.le_of_ble_eq_true rfl, Nat.le_of_ble_eq_true rfl⟩) hK hE hA hP hS (k := 69) (by omega) hC.1 rfl rfl hl.1 (lv_room (Nat.le_of_ble_eq_true rfl)) dX3_sweep_7 ⟨Nat.le_of_ble_eq_true rfl, Nat.le_of_ble_eq_true rfl⟩ (fun v_4 G_3 H locs hp hP hS => ?_)
  obtain ⟨rfl, hg_G_3, ho_G_3⟩ := hp
  have hc_5 : G_3 69 = .inr (5, [.ref (ad 70), .ref (ad 86), .ref (ad 90), .ref (ad 97), .ref (ad 98), .ref (ad 99), .ref (ad 106), .ref (ad 113), .int (nI 1)]) := hg_G_3
  have hc_6 : G_3 70 = aQ (cT 10) 3 (q3 ad) := (ho_G_3 _ (by omega)).trans hC.2.1
  have hc_7 : G_3 86 = aQ (cT 8) 3 (qS ad) := (ho_G_3 _ (by omega)).trans hC.2.2.2.2.1
  have hc_8 : G_3 90 = aQ (cT 7) 6 (qP ad) := (ho_G_3 _ (by omega)).trans hC.2.2.2.2.2.2.1
  have hc_9 : G_3 97 = aI cT 6 zf := (ho_G_3 _ (by omega)).trans hC.2.2.2.2.2.2.2.2.1
  have hc_10 : G_3 98 = aZ cT 6 xf := (ho_G_3 _ (by omega)).trans hC.2.2.2.2.2.2.2.2.2.1
  have hc_11 : G_3 99 = aQ (cT 9) 6 (qK ad) := (ho_G_3 _ (by omega)).trans hC.2.2.2.2.2.2.2.2.2.2.1
  have hc_12 : G_3 106 = aQ (cT 8) 6 (qL ad) := (ho_G_3 _ (by omega)).trans hC.2.2.2.2.2.2.2.2.2.2.2.2.1
  have hc_13 : G_3 113 = aI cT 6 mf := (ho_G_3 _ (by omega)).trans hC.2.2.2.2.2.2.2.2.2.2.2.2.2.2.1
  have hfr_14 : ∀ j, (j ≠ 69) → G_3 j = G j := fun j hj => (ho_G_3 j (by omega)).trans (rfl)
  refine t_eqi (nI 0) rfl ?_
  refine t_if_ne (tgt := 15) hx hb dX3_sweep_10 (by decide) (by omega) (fun c_15 => absurd c_15 (by omega)) (fun c_15 => ?_)
  refine lv_iconst (v := nI 0) hx hb dX3_sweep_13 (by decide) ?_
  refine g_ret hQ hx hb hr hlocks rfl hP hS (⟨⟨⟨_, rfl⟩, by rw [show cd [xIO] xIO = 1 from by decide +kernel]; exact MW.same hC hMA hc_5 (fun j9 _ _ hj9 => hfr_14 j9 hj9)⟩, fun j hj => hfr_14 j (by omega)⟩) (Nat.le_of_ble_eq_true rfl) (Nat.le_of_ble_eq_true rfl) dX3_sweep_14

set_option maxHeartbeats 4000000 in
set_option maxRecDepth 100000 in
theorem mX3_isRead_ok (l : Launch) (D : va_G) (cT : Nat → ClassId) (n : Nat) (ad : Nat → Nat) (A : Nat → Prop) (hD : ∀ G, va_D A (gw n ad G)) (G : Nat → va_E) (hn : 114 ≤ n) (σ : TY) (hI : YI σ) (th : Nat) (hM : MW cT ad G σ th)(b : Nat) (hb6 : b < 6) : Met l yX3_isRead (wA yX3_isRead cX3_isRead 2 (some .boolean)) ({ frames := 1, cells := 0, slots := 0, locals := 24 } : Room) (PG D cT n ad A G [.ref (ad 69), .int (nI b)]) (QG D n ad A (fun v G1 => (v = some (.int (if cnt (σ.2 b).2.2.2.2.1 (σ.2 b).2.1 = (σ.2 b).2.1 then 1 else 0)) ∧ MW cT ad G1 (σ) 0) ∧ ∀ j, (j < 69 ∨ 114 ≤ j) → G1 j = G j)) 0 0 A := by
  refine Met.ofG (cc := cX3_isRead) (maxL := 2) (ret := (some .boolean)) (by decide) (Nat.le_of_ble_eq_true rfl) ?_
  intro p e s m args below meth c Q hQ hx hb hr hml hlocks hown hw hP hK hE hA hS ls hl
  have hl : lv_has ls 2 [(0, .ref (ad 69)), (1, .int (nI b))] := hl
  obtain ⟨rf, sf, pf, zf, xf, kf, lf, mf, hC, hMA⟩ := hM
  obtain ⟨hz, hm, hxx, hpp, hkl⟩ := hMA.2 b (by omega)
  obtain ⟨hit, hbx⟩ := hI.2 b (by omega)
  have hcap := BI_cap hit
  have h48 := hit.1
  have hcl := cnt_le (σ.2 b).2.2.2.2.1 (σ.2 b).2.1
  refine lv_aload_n hx hb dX3_isRead_0 rfl (lv_at hl 0 rfl) ?_
  refine lv_iload_n hx hb dX3_isRead_1 rfl (lv_at hl 1 rfl) ?_
  refine g_callS (As := [.int (nI b)]) (rest := [.ref (ad 69)]) ⟨hx, hb, hml, hown, hw⟩ (mX3_isBench l D cT n ad A hD G (nI b)) (va_cwS 1 hw (gWS wm_X3_67 wst_X3_isBench wini_X3 wc_X3_isBench) rfl rfl rfl (by decide +kernel) ⟨Nat.le_of_ble_eq_true rfl, Nat.le_of_ble_eq_true rfl⟩) hK hE hA hP hS rfl hl.1 (lv_room (Nat.le_of_ble_eq_true rfl)) dX3_isRead_2 ⟨Nat.le_of_ble_eq_true rfl, Nat.le_of_ble_eq_true rfl⟩ (fun v_2 G_1 H locs hp hP hS => ?_)
  obtain ⟨hv9, hg9⟩ := hp
  subst hv9
  rw [hg9] at hP
  refine t_eqi (nI 1) (congrArg nI (if_neg (ix_ok (by omega) (by decide)))) ?_
  refine lv_iconst (v := nI 1) hx hb dX3_isRead_5 (by decide) ?_
  refine lv_iconst (v := nI 1) hx hb dX3_isRead_6 (by decide) ?_
  refine g_callV (As := [.int (nI 1), .int (nI 1), .int (nI 1)]) (rest := []) ⟨hx, hb, hml, hown, hw⟩ (mX3_can l D cT n ad A hD G hn th 1 1 1 (by decide) (by decide) (by decide) hC.1) (cwV 3 hw (gWV wm_X3_63 wi_X3_can wse_X3_can wini_X3 wc_X3_can) rfl rfl rfl (by decide +kernel) ⟨Nat.le_of_ble_eq_true rfl, Nat.le_of_ble_eq_true rfl⟩) hK hE hA hP hS (k := 69) (by omega) hC.1 rfl rfl hl.1 (lv_room (Nat.le_of_ble_eq_true rfl)) dX3_isRead_7 ⟨Nat.le_of_ble_eq_true rfl, Nat.le_of_ble_eq_true rfl⟩ (fun v_4 G_3 H locs hp hP hS => ?_)
  obtain ⟨rfl, hg_G_3, ho_G_3⟩ := hp
  have hc_5 : G_3 69 = .inr (5, [.ref (ad 70), .ref (ad 86), .ref (ad 90), .ref (ad 97), .ref (ad 98), .ref (ad 99), .ref (ad 106), .ref (ad 113), .int (nI 0)]) := hg_G_3
  have hc_6 : G_3 70 = aQ (cT 10) 3 (q3 ad) := (ho_G_3 _ (by omega)).trans hC.2.1
  have hc_7 : G_3 86 = aQ (cT 8) 3 (qS ad) := (ho_G_3 _ (by omega)).trans hC.2.2.2.2.1
  have hc_8 : G_3 90 = aQ (cT 7) 6 (qP ad) := (ho_G_3 _ (by omega)).trans hC.2.2.2.2.2.2.1
  have hc_9 : G_3 97 = aI cT 6 zf := (ho_G_3 _ (by omega)).trans hC.2.2.2.2.2.2.2.2.1
  have hc_10 : G_3 98 = aZ cT 6 xf := (ho_G_3 _ (by omega)).trans hC.2.2.2.2.2.2.2.2.2.1
  have hc_11 : G_3 99 = aQ (cT 9) 6 (qK ad) := (ho_G_3 _ (by omega)).trans hC.2.2.2.2.2.2.2.2.2.2.1
  have hc_12 : G_3 106 = aQ (cT 8) 6 (qL ad) := (ho_G_3 _ (by omega)).trans hC.2.2.2.2.2.2.2.2.2.2.2.2.1
  have hc_13 : G_3 113 = aI cT 6 mf := (ho_G_3 _ (by omega)).trans hC.2.2.2.2.2.2.2.2.2.2.2.2.2.2.1
  have hc_14 : G_3 (91 + b) = aJ cT 48 (pf b) := (ho_G_3 _ (by omega)).trans (hC.2.2.2.2.2.2.2.1 b (by omega))
  have hc_15 : G_3 (100 + b) = aC cT 128 (kf b) := (ho_G_3 _ (by omega)).trans (hC.2.2.2.2.2.2.2.2.2.2.2.1 b (by omega))
  have hc_16 : G_3 (107 + b) = aI cT 128 (lf b) := (ho_G_3 _ (by omega)).trans (hC.2.2.2.2.2.2.2.2.2.2.2.2.2.1 b (by omega))
  have hfr_17 : ∀ j, (j ≠ 69) → G_3 j = G j := fun j hj => (ho_G_3 j (by omega)).trans (rfl)
  refine t_eqi (nI 1) rfl ?_
  refine t_if_eq (tgt := 33) hx hb dX3_isRead_10 (by decide) (by omega) (fun c_18 => absurd c_18 (by omega)) (fun c_18 => ?_)
  refine lv_aload_n hx hb dX3_isRead_13 rfl (lv_at hl 0 rfl) ?_
  refine lv_iload_n hx hb dX3_isRead_14 rfl (lv_at hl 1 rfl) ?_
  refine lv_bipush (v := nI 110) hx hb dX3_isRead_15 (by decide) ?_
  refine g_callV (As := [.int (nI b), .int (nI 110)]) (rest := []) ⟨hx, hb, hml, hown, hw⟩ (mX3_count l D cT n ad A hD G_3 hn 0 hc_5 hc_11 b (σ.2 b).2.1 (kf b) (σ.2 b).2.2.2.2.1 mf (by omega) hc_15 hc_13 hm (fun j hj => (hkl j hj).1) (fun j hj => by have := (hit.2.2.1 j hj).1; omega) (by omega)) (cwV 2 hw (gWV wm_X3_96 wi_X3_count wse_X3_count wini_X3 wc_X3_count) rfl rfl rfl (by decide +kernel) ⟨Nat.le_of_ble_eq_true rfl, Nat.le_of_ble_eq_true rfl⟩) hK hE hA hP hS (k := 69) (by omega) hc_5 rfl rfl hl.1 (lv_room (Nat.le_of_ble_eq_true rfl)) dX3_isRead_17 ⟨Nat.le_of_ble_eq_true rfl, Nat.le_of_ble_eq_true rfl⟩ (fun v_20 G_19 H locs hp hP hS => ?_)
  obtain ⟨hv, hg⟩ := hp
  subst hv
  rw [hg] at hP
  refine lv_aload_n hx hb dX3_isRead_20 rfl (lv_at hl 0 rfl) ?_
  refine g_get (C := RX3) (T := TX3) (N := 9) hx hb hw inX3 hown hK hP (i := 69) (by omega) hc_5 rfl 7 (by decide) (hw _ wf_X3_40) rfl dX3_isRead_21 ?_
  refine lv_iload_n hx hb dX3_isRead_24 rfl (lv_at hl 1 rfl) ?_
  refine g_iald hx hb hK hP (i := 113) (by omega) hc_13 (by omega) (by omega) dX3_isRead_25 ?_
  refine t_icmp_ne (tgt := 33) hx hb dX3_isRead_26 (by decide) (by omega) (by omega) (fun c_21 => ?_) (fun c_21 => ?_)
  · skip
    refine lv_iconst (v := nI 0) hx hb dX3_isRead_33 (by decide) ?_
    refine g_ret hQ hx hb hr hlocks rfl hP hS (⟨⟨by rw [if_neg (by omega)]; rfl, MW.same hC hMA hc_5 (fun j9 _ _ hj9 => hfr_17 j9 hj9)⟩, fun j hj => hfr_17 j (by omega)⟩) (Nat.le_of_ble_eq_true rfl) (Nat.le_of_ble_eq_true rfl) dX3_isRead_34
  · skip
    refine lv_iconst (v := nI 1) hx hb dX3_isRead_29 (by decide) ?_
    refine lv_goto (tgt := 34) hx hb dX3_isRead_30 (by decide) ?_
    refine g_ret hQ hx hb hr hlocks rfl hP hS (⟨⟨by rw [if_pos (by omega)]; rfl, MW.same hC hMA hc_5 (fun j9 _ _ hj9 => hfr_17 j9 hj9)⟩, fun j hj => hfr_17 j (by omega)⟩) (Nat.le_of_ble_eq_true rfl) (Nat.le_of_ble_eq_true rfl) dX3_isRead_34

set_option maxHeartbeats 4000000 in
set_option maxRecDepth 100000 in
theorem mX3_isRead_no (l : Launch) (D : va_G) (cT : Nat → ClassId) (n : Nat) (ad : Nat → Nat) (A : Nat → Prop) (hD : ∀ G, va_D A (gw n ad G)) (G : Nat → va_E) (hn : 114 ≤ n) (σ : TY) (hI : YI σ) (th : Nat) (hM : MW cT ad G σ th) (x : Int32) (E : String) (hpx : pxBen x E) : Met l yX3_isRead (wA yX3_isRead cX3_isRead 2 (some .boolean)) ({ frames := 1, cells := 0, slots := 0, locals := 23 } : Room) (PG D cT n ad A G [.ref (ad 69), .int x]) (QG D n ad A (fun v G1 => ((∃ z, v = some (.int z)) ∧ MW cT ad G1 σ (cd [xIO] E)) ∧ ∀ j, (j < 69 ∨ 114 ≤ j) → G1 j = G j)) 0 0 A := by
  refine Met.ofG (cc := cX3_isRead) (maxL := 2) (ret := (some .boolean)) (by decide) (Nat.le_of_ble_eq_true rfl) ?_
  intro p e s m args below meth c Q hQ hx hb hr hml hlocks hown hw hP hK hE hA hS ls hl
  have hl : lv_has ls 2 [(0, .ref (ad 69)), (1, .int x)] := hl
  obtain ⟨rf, sf, pf, zf, xf, kf, lf, mf, hC, hMA⟩ := hM
  obtain ⟨hbb, rfl⟩ := hpx
  refine lv_aload_n hx hb dX3_isRead_0 rfl (lv_at hl 0 rfl) ?_
  refine lv_iload_n hx hb dX3_isRead_1 rfl (lv_at hl 1 rfl) ?_
  refine g_callS (As := [.int x]) (rest := [.ref (ad 69)]) ⟨hx, hb, hml, hown, hw⟩ (mX3_isBench l D cT n ad A hD G x) (va_cwS 1 hw (gWS wm_X3_67 wst_X3_isBench wini_X3 wc_X3_isBench) rfl rfl rfl (by decide +kernel) ⟨Nat.le_of_ble_eq_true rfl, Nat.le_of_ble_eq_true rfl⟩) hK hE hA hP hS rfl hl.1 (lv_room (Nat.le_of_ble_eq_true rfl)) dX3_isRead_2 ⟨Nat.le_of_ble_eq_true rfl, Nat.le_of_ble_eq_true rfl⟩ (fun v_2 G_1 H locs hp hP hS => ?_)
  obtain ⟨hv9, hg9⟩ := hp
  subst hv9
  rw [hg9] at hP
  refine t_eqi (nI 0) (congrArg nI (if_pos hbb)) ?_
  refine lv_iconst (v := nI 1) hx hb dX3_isRead_5 (by decide) ?_
  refine lv_iconst (v := nI 1) hx hb dX3_isRead_6 (by decide) ?_
  refine g_callV (As := [.int (nI 0), .int (nI 1), .int (nI 1)]) (rest := []) ⟨hx, hb, hml, hown, hw⟩ (mX3_can l D cT n ad A hD G hn th 0 1 1 (by decide) (by decide) (by decide) hC.1) (cwV 3 hw (gWV wm_X3_63 wi_X3_can wse_X3_can wini_X3 wc_X3_can) rfl rfl rfl (by decide +kernel) ⟨Nat.le_of_ble_eq_true rfl, Nat.le_of_ble_eq_true rfl⟩) hK hE hA hP hS (k := 69) (by omega) hC.1 rfl rfl hl.1 (lv_room (Nat.le_of_ble_eq_true rfl)) dX3_isRead_7 ⟨Nat.le_of_ble_eq_true rfl, Nat.le_of_ble_eq_true rfl⟩ (fun v_4 G_3 H locs hp hP hS => ?_)
  obtain ⟨rfl, hg_G_3, ho_G_3⟩ := hp
  have hc_5 : G_3 69 = .inr (5, [.ref (ad 70), .ref (ad 86), .ref (ad 90), .ref (ad 97), .ref (ad 98), .ref (ad 99), .ref (ad 106), .ref (ad 113), .int (nI 1)]) := hg_G_3
  have hc_6 : G_3 70 = aQ (cT 10) 3 (q3 ad) := (ho_G_3 _ (by omega)).trans hC.2.1
  have hc_7 : G_3 86 = aQ (cT 8) 3 (qS ad) := (ho_G_3 _ (by omega)).trans hC.2.2.2.2.1
  have hc_8 : G_3 90 = aQ (cT 7) 6 (qP ad) := (ho_G_3 _ (by omega)).trans hC.2.2.2.2.2.2.1
  have hc_9 : G_3 97 = aI cT 6 zf := (ho_G_3 _ (by omega)).trans hC.2.2.2.2.2.2.2.2.1
  have hc_10 : G_3 98 = aZ cT 6 xf := (ho_G_3 _ (by omega)).trans hC.2.2.2.2.2.2.2.2.2.1
  have hc_11 : G_3 99 = aQ (cT 9) 6 (qK ad) := (ho_G_3 _ (by omega)).trans hC.2.2.2.2.2.2.2.2.2.2.1
  have hc_12 : G_3 106 = aQ (cT 8) 6 (qL ad) := (ho_G_3 _ (by omega)).trans hC.2.2.2.2.2.2.2.2.2.2.2.2.1
  have hc_13 : G_3 113 = aI cT 6 mf := (ho_G_3 _ (by omega)).trans hC.2.2.2.2.2.2.2.2.2.2.2.2.2.2.1
  have hfr_14 : ∀ j, (j ≠ 69) → G_3 j = G j := fun j hj => (ho_G_3 j (by omega)).trans (rfl)
  refine t_eqi (nI 0) rfl ?_
  refine t_if_eq (tgt := 33) hx hb dX3_isRead_10 (by decide) (by omega) (fun c_15 => ?_) (fun c_15 => absurd c_15 (by omega))
  refine lv_iconst (v := nI 0) hx hb dX3_isRead_33 (by decide) ?_
  refine g_ret hQ hx hb hr hlocks rfl hP hS (⟨⟨⟨_, rfl⟩, by rw [show cd [xIO] xIO = 1 from by decide +kernel]; exact MW.same hC hMA hc_5 (fun j9 _ _ hj9 => hfr_14 j9 hj9)⟩, fun j hj => hfr_14 j (by omega)⟩) (Nat.le_of_ble_eq_true rfl) (Nat.le_of_ble_eq_true rfl) dX3_isRead_34

set_option maxHeartbeats 4000000 in
set_option maxRecDepth 100000 in
theorem mX3_share_ok (l : Launch) (D : va_G) (cT : Nat → ClassId) (n : Nat) (ad : Nat → Nat) (A : Nat → Prop) (hD : ∀ G, va_D A (gw n ad G)) (G : Nat → va_E) (hn : 114 ≤ n) (σ : TY) (hI : YI σ) (th : Nat) (hM : MW cT ad G σ th)(b : Nat) (hb6 : b < 6) (hz9 : 0 < (σ.2 b).1) : Met l yX3_share (wA yX3_share cX3_share 2 (some .float)) ({ frames := 1, cells := 0, slots := 0, locals := 24 } : Room) (PG D cT n ad A G [.ref (ad 69), .int (nI b)]) (QG D n ad A (fun v G1 => (v = some (.float (shF (cnt (σ.2 b).2.2.2.2.1 (σ.2 b).2.1) (σ.2 b).1)) ∧ MW cT ad G1 (σ) 0) ∧ ∀ j, (j < 69 ∨ 114 ≤ j) → G1 j = G j)) 0 0 A := by
  refine Met.ofG (cc := cX3_share) (maxL := 2) (ret := (some .float)) (by decide) (Nat.le_of_ble_eq_true rfl) ?_
  intro p e s m args below meth c Q hQ hx hb hr hml hlocks hown hw hP hK hE hA hS ls hl
  have hl : lv_has ls 2 [(0, .ref (ad 69)), (1, .int (nI b))] := hl
  obtain ⟨rf, sf, pf, zf, xf, kf, lf, mf, hC, hMA⟩ := hM
  obtain ⟨hz, hm, hxx, hpp, hkl⟩ := hMA.2 b (by omega)
  obtain ⟨hit, hbx⟩ := hI.2 b (by omega)
  have hcap := BI_cap hit
  have h48 := hit.1
  have hcl := cnt_le (σ.2 b).2.2.2.2.1 (σ.2 b).2.1
  refine lv_aload_n hx hb dX3_share_0 rfl (lv_at hl 0 rfl) ?_
  refine lv_iload_n hx hb dX3_share_1 rfl (lv_at hl 1 rfl) ?_
  refine g_callS (As := [.int (nI b)]) (rest := [.ref (ad 69)]) ⟨hx, hb, hml, hown, hw⟩ (mX3_isBench l D cT n ad A hD G (nI b)) (va_cwS 1 hw (gWS wm_X3_67 wst_X3_isBench wini_X3 wc_X3_isBench) rfl rfl rfl (by decide +kernel) ⟨Nat.le_of_ble_eq_true rfl, Nat.le_of_ble_eq_true rfl⟩) hK hE hA hP hS rfl hl.1 (lv_room (Nat.le_of_ble_eq_true rfl)) dX3_share_2 ⟨Nat.le_of_ble_eq_true rfl, Nat.le_of_ble_eq_true rfl⟩ (fun v_2 G_1 H locs hp hP hS => ?_)
  obtain ⟨hv9, hg9⟩ := hp
  subst hv9
  rw [hg9] at hP
  refine t_eqi (nI 1) (congrArg nI (if_neg (ix_ok (by omega) (by decide)))) ?_
  refine lv_iconst (v := nI 1) hx hb dX3_share_5 (by decide) ?_
  refine lv_iconst (v := nI 1) hx hb dX3_share_6 (by decide) ?_
  refine g_callV (As := [.int (nI 1), .int (nI 1), .int (nI 1)]) (rest := []) ⟨hx, hb, hml, hown, hw⟩ (mX3_can l D cT n ad A hD G hn th 1 1 1 (by decide) (by decide) (by decide) hC.1) (cwV 3 hw (gWV wm_X3_63 wi_X3_can wse_X3_can wini_X3 wc_X3_can) rfl rfl rfl (by decide +kernel) ⟨Nat.le_of_ble_eq_true rfl, Nat.le_of_ble_eq_true rfl⟩) hK hE hA hP hS (k := 69) (by omega) hC.1 rfl rfl hl.1 (lv_room (Nat.le_of_ble_eq_true rfl)) dX3_share_7 ⟨Nat.le_of_ble_eq_true rfl, Nat.le_of_ble_eq_true rfl⟩ (fun v_4 G_3 H locs hp hP hS => ?_)
  obtain ⟨rfl, hg_G_3, ho_G_3⟩ := hp
  have hc_5 : G_3 69 = .inr (5, [.ref (ad 70), .ref (ad 86), .ref (ad 90), .ref (ad 97), .ref (ad 98), .ref (ad 99), .ref (ad 106), .ref (ad 113), .int (nI 0)]) := hg_G_3
  have hc_6 : G_3 70 = aQ (cT 10) 3 (q3 ad) := (ho_G_3 _ (by omega)).trans hC.2.1
  have hc_7 : G_3 86 = aQ (cT 8) 3 (qS ad) := (ho_G_3 _ (by omega)).trans hC.2.2.2.2.1
  have hc_8 : G_3 90 = aQ (cT 7) 6 (qP ad) := (ho_G_3 _ (by omega)).trans hC.2.2.2.2.2.2.1
  have hc_9 : G_3 97 = aI cT 6 zf := (ho_G_3 _ (by omega)).trans hC.2.2.2.2.2.2.2.2.1
  have hc_10 : G_3 98 = aZ cT 6 xf := (ho_G_3 _ (by omega)).trans hC.2.2.2.2.2.2.2.2.2.1
  have hc_11 : G_3 99 = aQ (cT 9) 6 (qK ad) := (ho_G_3 _ (by omega)).trans hC.2.2.2.2.2.2.2.2.2.2.1
  have hc_12 : G_3 106 = aQ (cT 8) 6 (qL ad) := (ho_G_3 _ (by omega)).trans hC.2.2.2.2.2.2.2.2.2.2.2.2.1
  have hc_13 : G_3 113 = aI cT 6 mf := (ho_G_3 _ (by omega)).trans hC.2.2.2.2.2.2.2.2.2.2.2.2.2.2.1
  have hc_14 : G_3 (91 + b) = aJ cT 48 (pf b) := (ho_G_3 _ (by omega)).trans (hC.2.2.2.2.2.2.2.1 b (by omega))
  have hc_15 : G_3 (100 + b) = aC cT 128 (kf b) := (ho_G_3 _ (by omega)).trans (hC.2.2.2.2.2.2.2.2.2.2.2.1 b (by omega))
  have hc_16 : G_3 (107 + b) = aI cT 128 (lf b) := (ho_G_3 _ (by omega)).trans (hC.2.2.2.2.2.2.2.2.2.2.2.2.2.1 b (by omega))
  have hfr_17 : ∀ j, (j ≠ 69) → G_3 j = G j := fun j hj => (ho_G_3 j (by omega)).trans (rfl)
  refine t_eqi (nI 1) rfl ?_
  refine t_if_eq (tgt := 36) hx hb dX3_share_10 (by decide) (by omega) (fun c_18 => absurd c_18 (by omega)) (fun c_18 => ?_)
  refine lv_aload_n hx hb dX3_share_13 rfl (lv_at hl 0 rfl) ?_
  refine lv_iconst (v := nI 1) hx hb dX3_share_14 (by decide) ?_
  refine lv_aload_n hx hb dX3_share_15 rfl (lv_at hl 0 rfl) ?_
  refine g_get (C := RX3) (T := TX3) (N := 9) hx hb hw inX3 hown hK hP (i := 69) (by omega) hc_5 rfl 3 (by decide) (hw _ wf_X3_24) rfl dX3_share_16 ?_
  refine lv_iload_n hx hb dX3_share_19 rfl (lv_at hl 1 rfl) ?_
  refine g_iald hx hb hK hP (i := 97) (by omega) hc_9 (by omega) (by omega) dX3_share_20 ?_
  refine t_if_le (tgt := 28) hx hb dX3_share_21 (by decide) (by omega) (fun c_19 => ?_) (fun c_19 => ?_)
  · exfalso; omega
  · skip
    refine lv_iconst (v := nI 1) hx hb dX3_share_24 (by decide) ?_
    refine lv_goto (tgt := 29) hx hb dX3_share_25 (by decide) ?_
    refine lv_iconst (v := nI 1) hx hb dX3_share_29 (by decide) ?_
    refine g_callV (As := [.int (nI 1), .int (nI 1), .int (nI 1)]) (rest := []) ⟨hx, hb, hml, hown, hw⟩ (mX3_can l D cT n ad A hD G_3 hn 0 1 1 1 (by decide) (by decide) (by decide) hc_5) (cwV 3 hw (gWV wm_X3_63 wi_X3_can wse_X3_can wini_X3 wc_X3_can) rfl rfl rfl (by decide +kernel) ⟨Nat.le_of_ble_eq_true rfl, Nat.le_of_ble_eq_true rfl⟩) hK hE hA hP hS (k := 69) (by omega) hc_5 rfl rfl hl.1 (lv_room (Nat.le_of_ble_eq_true rfl)) dX3_share_30 ⟨Nat.le_of_ble_eq_true rfl, Nat.le_of_ble_eq_true rfl⟩ (fun v_21 G_20 H locs hp hP hS => ?_)
    obtain ⟨rfl, hg_G_20, ho_G_20⟩ := hp
    have hc_22 : G_20 69 = .inr (5, [.ref (ad 70), .ref (ad 86), .ref (ad 90), .ref (ad 97), .ref (ad 98), .ref (ad 99), .ref (ad 106), .ref (ad 113), .int (nI 0)]) := hg_G_20
    have hc_23 : G_20 70 = aQ (cT 10) 3 (q3 ad) := (ho_G_20 _ (by omega)).trans hc_6
    have hc_24 : G_20 86 = aQ (cT 8) 3 (qS ad) := (ho_G_20 _ (by omega)).trans hc_7
    have hc_25 : G_20 90 = aQ (cT 7) 6 (qP ad) := (ho_G_20 _ (by omega)).trans hc_8
    have hc_26 : G_20 97 = aI cT 6 zf := (ho_G_20 _ (by omega)).trans hc_9
    have hc_27 : G_20 98 = aZ cT 6 xf := (ho_G_20 _ (by omega)).trans hc_10
    have hc_28 : G_20 99 = aQ (cT 9) 6 (qK ad) := (ho_G_20 _ (by omega)).trans hc_11
    have hc_29 : G_20 106 = aQ (cT 8) 6 (qL ad) := (ho_G_20 _ (by omega)).trans hc_12
    have hc_30 : G_20 113 = aI cT 6 mf := (ho_G_20 _ (by omega)).trans hc_13
    have hc_31 : G_20 (91 + b) = aJ cT 48 (pf b) := (ho_G_20 _ (by omega)).trans hc_14
    have hc_32 : G_20 (100 + b) = aC cT 128 (kf b) := (ho_G_20 _ (by omega)).trans hc_15
    have hc_33 : G_20 (107 + b) = aI cT 128 (lf b) := (ho_G_20 _ (by omega)).trans hc_16
    have hfr_34 : ∀ j, (j ≠ 69) → G_20 j = G j := fun j hj => (ho_G_20 j (by omega)).trans (hfr_17 j hj)
    refine t_eqi (nI 1) rfl ?_
    refine t_if_ne (tgt := 38) hx hb dX3_share_33 (by decide) (by omega) (fun c_35 => ?_) (fun c_35 => absurd c_35 (by omega))
    refine lv_aload_n hx hb dX3_share_38 rfl (lv_at hl 0 rfl) ?_
    refine lv_iload_n hx hb dX3_share_39 rfl (lv_at hl 1 rfl) ?_
    refine lv_bipush (v := nI 110) hx hb dX3_share_40 (by decide) ?_
    refine g_callV (As := [.int (nI b), .int (nI 110)]) (rest := []) ⟨hx, hb, hml, hown, hw⟩ (mX3_count l D cT n ad A hD G_20 hn 0 hc_22 hc_28 b (σ.2 b).2.1 (kf b) (σ.2 b).2.2.2.2.1 mf (by omega) hc_32 hc_30 hm (fun j hj => (hkl j hj).1) (fun j hj => by have := (hit.2.2.1 j hj).1; omega) (by omega)) (cwV 2 hw (gWV wm_X3_96 wi_X3_count wse_X3_count wini_X3 wc_X3_count) rfl rfl rfl (by decide +kernel) ⟨Nat.le_of_ble_eq_true rfl, Nat.le_of_ble_eq_true rfl⟩) hK hE hA hP hS (k := 69) (by omega) hc_22 rfl rfl hl.1 (lv_room (Nat.le_of_ble_eq_true rfl)) dX3_share_42 ⟨Nat.le_of_ble_eq_true rfl, Nat.le_of_ble_eq_true rfl⟩ (fun v_37 G_36 H locs hp hP hS => ?_)
    obtain ⟨hv, hg⟩ := hp
    subst hv
    rw [hg] at hP
    refine lv_i2f hx hb dX3_share_45 ?_
    refine lv_aload_n hx hb dX3_share_46 rfl (lv_at hl 0 rfl) ?_
    refine g_get (C := RX3) (T := TX3) (N := 9) hx hb hw inX3 hown hK hP (i := 69) (by omega) hc_22 rfl 3 (by decide) (hw _ wf_X3_24) rfl dX3_share_47 ?_
    refine lv_iload_n hx hb dX3_share_50 rfl (lv_at hl 1 rfl) ?_
    refine g_iald hx hb hK hP (i := 97) (by omega) hc_26 (by omega) (by omega) dX3_share_51 ?_
    refine lv_i2f hx hb dX3_share_52 ?_
    refine lv_fdiv hx hb dX3_share_53 (shF_ok (by omega) (by omega) (by omega)) ?_
    refine g_retf hQ hx hb hr hlocks hP hS (⟨⟨by rw [hz]; rfl, MW.same hC hMA hc_22 (fun j9 _ _ hj9 => hfr_34 j9 hj9)⟩, fun j hj => hfr_34 j (by omega)⟩) (Nat.le_of_ble_eq_true rfl) (Nat.le_of_ble_eq_true rfl) dX3_share_54

set_option maxHeartbeats 4000000 in
set_option maxRecDepth 100000 in
theorem mX3_share_no (l : Launch) (D : va_G) (cT : Nat → ClassId) (n : Nat) (ad : Nat → Nat) (A : Nat → Prop) (hD : ∀ G, va_D A (gw n ad G)) (G : Nat → va_E) (hn : 114 ≤ n) (σ : TY) (hI : YI σ) (th : Nat) (hM : MW cT ad G σ th) (x : Int32) (E : String) (hpx : pxBen x E ∨ onB x (fun b => (σ.2 b).1 = 0 ∧ E = xAR)) : Met l yX3_share (wA yX3_share cX3_share 2 (some .float)) ({ frames := 1, cells := 0, slots := 0, locals := 23 } : Room) (PG D cT n ad A G [.ref (ad 69), .int x]) (QG D n ad A (fun v G1 => ((∃ z, v = some (.float z)) ∧ MW cT ad G1 σ (cd [xIO, xAR] E)) ∧ ∀ j, (j < 69 ∨ 114 ≤ j) → G1 j = G j)) 0 0 A := by
  refine Met.ofG (cc := cX3_share) (maxL := 2) (ret := (some .float)) (by decide) (Nat.le_of_ble_eq_true rfl) ?_
  intro p e s m args below meth c Q hQ hx hb hr hml hlocks hown hw hP hK hE hA hS ls hl
  have hl : lv_has ls 2 [(0, .ref (ad 69)), (1, .int x)] := hl
  obtain ⟨rf, sf, pf, zf, xf, kf, lf, mf, hC, hMA⟩ := hM
  rcases hpx with ⟨hbb, rfl⟩ | ⟨b, hb6, rfl, hz9, rfl⟩
  · skip
    refine lv_aload_n hx hb dX3_share_0 rfl (lv_at hl 0 rfl) ?_
    refine lv_iload_n hx hb dX3_share_1 rfl (lv_at hl 1 rfl) ?_
    refine g_callS (As := [.int x]) (rest := [.ref (ad 69)]) ⟨hx, hb, hml, hown, hw⟩ (mX3_isBench l D cT n ad A hD G x) (va_cwS 1 hw (gWS wm_X3_67 wst_X3_isBench wini_X3 wc_X3_isBench) rfl rfl rfl (by decide +kernel) ⟨Nat.le_of_ble_eq_true rfl, Nat.le_of_ble_eq_true rfl⟩) hK hE hA hP hS rfl hl.1 (lv_room (Nat.le_of_ble_eq_true rfl)) dX3_share_2 ⟨Nat.le_of_ble_eq_true rfl, Nat.le_of_ble_eq_true rfl⟩ (fun v_2 G_1 H locs hp hP hS => ?_)
    obtain ⟨hv9, hg9⟩ := hp
    subst hv9
    rw [hg9] at hP
    refine t_eqi (nI 0) (congrArg nI (if_pos hbb)) ?_
    refine lv_iconst (v := nI 1) hx hb dX3_share_5 (by decide) ?_
    refine lv_iconst (v := nI 1) hx hb dX3_share_6 (by decide) ?_
    refine g_callV (As := [.int (nI 0), .int (nI 1), .int (nI 1)]) (rest := []) ⟨hx, hb, hml, hown, hw⟩ (mX3_can l D cT n ad A hD G hn th 0 1 1 (by decide) (by decide) (by decide) hC.1) (cwV 3 hw (gWV wm_X3_63 wi_X3_can wse_X3_can wini_X3 wc_X3_can) rfl rfl rfl (by decide +kernel) ⟨Nat.le_of_ble_eq_true rfl, Nat.le_of_ble_eq_true rfl⟩) hK hE hA hP hS (k := 69) (by omega) hC.1 rfl rfl hl.1 (lv_room (Nat.le_of_ble_eq_true rfl)) dX3_share_7 ⟨Nat.le_of_ble_eq_true rfl, Nat.le_of_ble_eq_true rfl⟩ (fun v_4 G_3 H locs hp hP hS => ?_)
    obtain ⟨rfl, hg_G_3, ho_G_3⟩ := hp
    have hc_5 : G_3 69 = .inr (5, [.ref (ad 70), .ref (ad 86), .ref (ad 90), .ref (ad 97), .ref (ad 98), .ref (ad 99), .ref (ad 106), .ref (ad 113), .int (nI 1)]) := hg_G_3
    have hc_6 : G_3 70 = aQ (cT 10) 3 (q3 ad) := (ho_G_3 _ (by omega)).trans hC.2.1
    have hc_7 : G_3 86 = aQ (cT 8) 3 (qS ad) := (ho_G_3 _ (by omega)).trans hC.2.2.2.2.1
    have hc_8 : G_3 90 = aQ (cT 7) 6 (qP ad) := (ho_G_3 _ (by omega)).trans hC.2.2.2.2.2.2.1
    have hc_9 : G_3 97 = aI cT 6 zf := (ho_G_3 _ (by omega)).trans hC.2.2.2.2.2.2.2.2.1
    have hc_10 : G_3 98 = aZ cT 6 xf := (ho_G_3 _ (by omega)).trans hC.2.2.2.2.2.2.2.2.2.1
    have hc_11 : G_3 99 = aQ (cT 9) 6 (qK ad) := (ho_G_3 _ (by omega)).trans hC.2.2.2.2.2.2.2.2.2.2.1
    have hc_12 : G_3 106 = aQ (cT 8) 6 (qL ad) := (ho_G_3 _ (by omega)).trans hC.2.2.2.2.2.2.2.2.2.2.2.2.1
    have hc_13 : G_3 113 = aI cT 6 mf := (ho_G_3 _ (by omega)).trans hC.2.2.2.2.2.2.2.2.2.2.2.2.2.2.1
    have hfr_14 : ∀ j, (j ≠ 69) → G_3 j = G j := fun j hj => (ho_G_3 j (by omega)).trans (rfl)
    refine t_eqi (nI 0) rfl ?_
    refine t_if_eq (tgt := 36) hx hb dX3_share_10 (by decide) (by omega) (fun c_15 => ?_) (fun c_15 => absurd c_15 (by omega))
    refine lv_fconst0 hx hb dX3_share_36 ?_
    refine g_retf hQ hx hb hr hlocks hP hS (⟨⟨⟨_, rfl⟩, by rw [show cd [xIO, xAR] xIO = 1 from by decide +kernel]; exact MW.same hC hMA hc_5 (fun j9 _ _ hj9 => hfr_14 j9 hj9)⟩, fun j hj => hfr_14 j (by omega)⟩) (Nat.le_of_ble_eq_true rfl) (Nat.le_of_ble_eq_true rfl) dX3_share_37
  · skip
    obtain ⟨hz, hm, hxx, hpp, hkl⟩ := hMA.2 b (by omega)
    obtain ⟨hit, hbx⟩ := hI.2 b (by omega)
    have hcap := BI_cap hit
    have h48 := hit.1
    have hcl := cnt_le (σ.2 b).2.2.2.2.1 (σ.2 b).2.1
    refine lv_aload_n hx hb dX3_share_0 rfl (lv_at hl 0 rfl) ?_
    refine lv_iload_n hx hb dX3_share_1 rfl (lv_at hl 1 rfl) ?_
    refine g_callS (As := [.int (nI b)]) (rest := [.ref (ad 69)]) ⟨hx, hb, hml, hown, hw⟩ (mX3_isBench l D cT n ad A hD G (nI b)) (va_cwS 1 hw (gWS wm_X3_67 wst_X3_isBench wini_X3 wc_X3_isBench) rfl rfl rfl (by decide +kernel) ⟨Nat.le_of_ble_eq_true rfl, Nat.le_of_ble_eq_true rfl⟩) hK hE hA hP hS rfl hl.1 (lv_room (Nat.le_of_ble_eq_true rfl)) dX3_share_2 ⟨Nat.le_of_ble_eq_true rfl, Nat.le_of_ble_eq_true rfl⟩ (fun v_17 G_16 H locs hp hP hS => ?_)
    obtain ⟨hv9, hg9⟩ := hp
    subst hv9
    rw [hg9] at hP
    refine t_eqi (nI 1) (congrArg nI (if_neg (ix_ok (by omega) (by decide)))) ?_
    refine lv_iconst (v := nI 1) hx hb dX3_share_5 (by decide) ?_
    refine lv_iconst (v := nI 1) hx hb dX3_share_6 (by decide) ?_
    refine g_callV (As := [.int (nI 1), .int (nI 1), .int (nI 1)]) (rest := []) ⟨hx, hb, hml, hown, hw⟩ (mX3_can l D cT n ad A hD G hn th 1 1 1 (by decide) (by decide) (by decide) hC.1) (cwV 3 hw (gWV wm_X3_63 wi_X3_can wse_X3_can wini_X3 wc_X3_can) rfl rfl rfl (by decide +kernel) ⟨Nat.le_of_ble_eq_true rfl, Nat.le_of_ble_eq_true rfl⟩) hK hE hA hP hS (k := 69) (by omega) hC.1 rfl rfl hl.1 (lv_room (Nat.le_of_ble_eq_true rfl)) dX3_share_7 ⟨Nat.le_of_ble_eq_true rfl, Nat.le_of_ble_eq_true rfl⟩ (fun v_19 G_18 H locs hp hP hS => ?_)
    obtain ⟨rfl, hg_G_18, ho_G_18⟩ := hp
    have hc_20 : G_18 69 = .inr (5, [.ref (ad 70), .ref (ad 86), .ref (ad 90), .ref (ad 97), .ref (ad 98), .ref (ad 99), .ref (ad 106), .ref (ad 113), .int (nI 0)]) := hg_G_18
    have hc_21 : G_18 70 = aQ (cT 10) 3 (q3 ad) := (ho_G_18 _ (by omega)).trans hC.2.1
    have hc_22 : G_18 86 = aQ (cT 8) 3 (qS ad) := (ho_G_18 _ (by omega)).trans hC.2.2.2.2.1
    have hc_23 : G_18 90 = aQ (cT 7) 6 (qP ad) := (ho_G_18 _ (by omega)).trans hC.2.2.2.2.2.2.1
    have hc_24 : G_18 97 = aI cT 6 zf := (ho_G_18 _ (by omega)).trans hC.2.2.2.2.2.2.2.2.1
    have hc_25 : G_18 98 = aZ cT 6 xf := (ho_G_18 _ (by omega)).trans hC.2.2.2.2.2.2.2.2.2.1
    have hc_26 : G_18 99 = aQ (cT 9) 6 (qK ad) := (ho_G_18 _ (by omega)).trans hC.2.2.2.2.2.2.2.2.2.2.1
    have hc_27 : G_18 106 = aQ (cT 8) 6 (qL ad) := (ho_G_18 _ (by omega)).trans hC.2.2.2.2.2.2.2.2.2.2.2.2.1
    have hc_28 : G_18 113 = aI cT 6 mf := (ho_G_18 _ (by omega)).trans hC.2.2.2.2.2.2.2.2.2.2.2.2.2.2.1
    have hc_29 : G_18 (91 + b) = aJ cT 48 (pf b) := (ho_G_18 _ (by omega)).trans (hC.2.2.2.2.2.2.2.1 b (by omega))
    have hc_30 : G_18 (100 + b) = aC cT 128 (kf b) := (ho_G_18 _ (by omega)).trans (hC.2.2.2.2.2.2.2.2.2.2.2.1 b (by omega))
    have hc_31 : G_18 (107 + b) = aI cT 128 (lf b) := (ho_G_18 _ (by omega)).trans (hC.2.2.2.2.2.2.2.2.2.2.2.2.2.1 b (by omega))
    have hfr_32 : ∀ j, (j ≠ 69) → G_18 j = G j := fun j hj => (ho_G_18 j (by omega)).trans (rfl)
    refine t_eqi (nI 1) rfl ?_
    refine t_if_eq (tgt := 36) hx hb dX3_share_10 (by decide) (by omega) (fun c_33 => absurd c_33 (by omega)) (fun c_33 => ?_)
    refine lv_aload_n hx hb dX3_share_13 rfl (lv_at hl 0 rfl) ?_
    refine lv_iconst (v := nI 1) hx hb dX3_share_14 (by decide) ?_
    refine lv_aload_n hx hb dX3_share_15 rfl (lv_at hl 0 rfl) ?_
    refine g_get (C := RX3) (T := TX3) (N := 9) hx hb hw inX3 hown hK hP (i := 69) (by omega) hc_20 rfl 3 (by decide) (hw _ wf_X3_24) rfl dX3_share_16 ?_
    refine lv_iload_n hx hb dX3_share_19 rfl (lv_at hl 1 rfl) ?_
    refine g_iald hx hb hK hP (i := 97) (by omega) hc_24 (by omega) (by omega) dX3_share_20 ?_
    refine t_if_le (tgt := 28) hx hb dX3_share_21 (by decide) (by omega) (fun c_34 => ?_) (fun c_34 => ?_)
    · skip
      refine lv_iconst (v := nI 0) hx hb dX3_share_28 (by decide) ?_
      refine lv_iconst (v := nI 1) hx hb dX3_share_29 (by decide) ?_
      refine g_callV (As := [.int (nI 1), .int (nI 0), .int (nI 1)]) (rest := []) ⟨hx, hb, hml, hown, hw⟩ (mX3_can l D cT n ad A hD G_18 hn 0 1 0 1 (by decide) (by decide) (by decide) hc_20) (cwV 3 hw (gWV wm_X3_63 wi_X3_can wse_X3_can wini_X3 wc_X3_can) rfl rfl rfl (by decide +kernel) ⟨Nat.le_of_ble_eq_true rfl, Nat.le_of_ble_eq_true rfl⟩) hK hE hA hP hS (k := 69) (by omega) hc_20 rfl rfl hl.1 (lv_room (Nat.le_of_ble_eq_true rfl)) dX3_share_30 ⟨Nat.le_of_ble_eq_true rfl, Nat.le_of_ble_eq_true rfl⟩ (fun v_36 G_35 H locs hp hP hS => ?_)
      obtain ⟨rfl, hg_G_35, ho_G_35⟩ := hp
      have hc_37 : G_35 69 = .inr (5, [.ref (ad 70), .ref (ad 86), .ref (ad 90), .ref (ad 97), .ref (ad 98), .ref (ad 99), .ref (ad 106), .ref (ad 113), .int (nI 2)]) := hg_G_35
      have hc_38 : G_35 70 = aQ (cT 10) 3 (q3 ad) := (ho_G_35 _ (by omega)).trans hc_21
      have hc_39 : G_35 86 = aQ (cT 8) 3 (qS ad) := (ho_G_35 _ (by omega)).trans hc_22
      have hc_40 : G_35 90 = aQ (cT 7) 6 (qP ad) := (ho_G_35 _ (by omega)).trans hc_23
      have hc_41 : G_35 97 = aI cT 6 zf := (ho_G_35 _ (by omega)).trans hc_24
      have hc_42 : G_35 98 = aZ cT 6 xf := (ho_G_35 _ (by omega)).trans hc_25
      have hc_43 : G_35 99 = aQ (cT 9) 6 (qK ad) := (ho_G_35 _ (by omega)).trans hc_26
      have hc_44 : G_35 106 = aQ (cT 8) 6 (qL ad) := (ho_G_35 _ (by omega)).trans hc_27
      have hc_45 : G_35 113 = aI cT 6 mf := (ho_G_35 _ (by omega)).trans hc_28
      have hc_46 : G_35 (91 + b) = aJ cT 48 (pf b) := (ho_G_35 _ (by omega)).trans hc_29
      have hc_47 : G_35 (100 + b) = aC cT 128 (kf b) := (ho_G_35 _ (by omega)).trans hc_30
      have hc_48 : G_35 (107 + b) = aI cT 128 (lf b) := (ho_G_35 _ (by omega)).trans hc_31
      have hfr_49 : ∀ j, (j ≠ 69) → G_35 j = G j := fun j hj => (ho_G_35 j (by omega)).trans (hfr_32 j hj)
      refine t_eqi (nI 0) rfl ?_
      refine t_if_ne (tgt := 38) hx hb dX3_share_33 (by decide) (by omega) (fun c_50 => absurd c_50 (by omega)) (fun c_50 => ?_)
      refine lv_fconst0 hx hb dX3_share_36 ?_
      refine g_retf hQ hx hb hr hlocks hP hS (⟨⟨⟨_, rfl⟩, by rw [show cd [xIO, xAR] xAR = 2 from by decide +kernel]; exact MW.same hC hMA hc_37 (fun j9 _ _ hj9 => hfr_49 j9 hj9)⟩, fun j hj => hfr_49 j (by omega)⟩) (Nat.le_of_ble_eq_true rfl) (Nat.le_of_ble_eq_true rfl) dX3_share_37
    · exfalso; omega

set_option maxHeartbeats 4000000 in
set_option maxRecDepth 100000 in
theorem mX3_meanLeft_ok (l : Launch) (D : va_G) (cT : Nat → ClassId) (n : Nat) (ad : Nat → Nat) (A : Nat → Prop) (hD : ∀ G, va_D A (gw n ad G)) (G : Nat → va_E) (hn : 114 ≤ n) (σ : TY) (hI : YI σ) (th : Nat) (hM : MW cT ad G σ th)(b : Nat) (hb6 : b < 6) (hz9 : 0 < (σ.2 b).2.1 - cnt (σ.2 b).2.2.2.2.1 (σ.2 b).2.1) : Met l yX3_meanLeft (wA yX3_meanLeft cX3_meanLeft 3 (some .double)) ({ frames := 1, cells := 0, slots := 0, locals := 24 } : Room) (PG D cT n ad A G [.ref (ad 69), .int (nI b)]) (QG D n ad A (fun v G1 => (v = some (.double (mnF (lft (σ.2 b).2.2.2.2.1 (σ.2 b).2.2.2.2.2 (σ.2 b).2.1) ((σ.2 b).2.1 - cnt (σ.2 b).2.2.2.2.1 (σ.2 b).2.1))) ∧ MW cT ad G1 (σ) 0) ∧ ∀ j, (j < 69 ∨ 114 ≤ j) → G1 j = G j)) 0 0 A := by
  refine Met.ofG (cc := cX3_meanLeft) (maxL := 3) (ret := (some .double)) (by decide) (Nat.le_of_ble_eq_true rfl) ?_
  intro p e s m args below meth c Q hQ hx hb hr hml hlocks hown hw hP hK hE hA hS ls hl
  have hl : lv_has ls 3 [(0, .ref (ad 69)), (1, .int (nI b))] := hl
  obtain ⟨rf, sf, pf, zf, xf, kf, lf, mf, hC, hMA⟩ := hM
  obtain ⟨hz, hm, hxx, hpp, hkl⟩ := hMA.2 b (by omega)
  obtain ⟨hit, hbx⟩ := hI.2 b (by omega)
  have hcap := BI_cap hit
  have h48 := hit.1
  have hcl := cnt_le (σ.2 b).2.2.2.2.1 (σ.2 b).2.1
  have hlc := lft_cnt (K := (σ.2 b).2.2.2.2.1) (L := (σ.2 b).2.2.2.2.2) (n := (σ.2 b).2.1) (fun i hi => (hit.2.2.1 i hi).2)
  have hpz := hit.2.1
  refine lv_aload_n hx hb dX3_meanLeft_0 rfl (lv_at hl 0 rfl) ?_
  refine lv_iload_n hx hb dX3_meanLeft_1 rfl (lv_at hl 1 rfl) ?_
  refine g_callS (As := [.int (nI b)]) (rest := [.ref (ad 69)]) ⟨hx, hb, hml, hown, hw⟩ (mX3_isBench l D cT n ad A hD G (nI b)) (va_cwS 1 hw (gWS wm_X3_67 wst_X3_isBench wini_X3 wc_X3_isBench) rfl rfl rfl (by decide +kernel) ⟨Nat.le_of_ble_eq_true rfl, Nat.le_of_ble_eq_true rfl⟩) hK hE hA hP hS rfl hl.1 (lv_room (Nat.le_of_ble_eq_true rfl)) dX3_meanLeft_2 ⟨Nat.le_of_ble_eq_true rfl, Nat.le_of_ble_eq_true rfl⟩ (fun v_2 G_1 H locs hp hP hS => ?_)
  obtain ⟨hv9, hg9⟩ := hp
  subst hv9
  rw [hg9] at hP
  refine t_eqi (nI 1) (congrArg nI (if_neg (ix_ok (by omega) (by decide)))) ?_
  refine lv_iconst (v := nI 1) hx hb dX3_meanLeft_5 (by decide) ?_
  refine lv_iconst (v := nI 1) hx hb dX3_meanLeft_6 (by decide) ?_
  refine g_callV (As := [.int (nI 1), .int (nI 1), .int (nI 1)]) (rest := []) ⟨hx, hb, hml, hown, hw⟩ (mX3_can l D cT n ad A hD G hn th 1 1 1 (by decide) (by decide) (by decide) hC.1) (cwV 3 hw (gWV wm_X3_63 wi_X3_can wse_X3_can wini_X3 wc_X3_can) rfl rfl rfl (by decide +kernel) ⟨Nat.le_of_ble_eq_true rfl, Nat.le_of_ble_eq_true rfl⟩) hK hE hA hP hS (k := 69) (by omega) hC.1 rfl rfl hl.1 (lv_room (Nat.le_of_ble_eq_true rfl)) dX3_meanLeft_7 ⟨Nat.le_of_ble_eq_true rfl, Nat.le_of_ble_eq_true rfl⟩ (fun v_4 G_3 H locs hp hP hS => ?_)
  obtain ⟨rfl, hg_G_3, ho_G_3⟩ := hp
  have hc_5 : G_3 69 = .inr (5, [.ref (ad 70), .ref (ad 86), .ref (ad 90), .ref (ad 97), .ref (ad 98), .ref (ad 99), .ref (ad 106), .ref (ad 113), .int (nI 0)]) := hg_G_3
  have hc_6 : G_3 70 = aQ (cT 10) 3 (q3 ad) := (ho_G_3 _ (by omega)).trans hC.2.1
  have hc_7 : G_3 86 = aQ (cT 8) 3 (qS ad) := (ho_G_3 _ (by omega)).trans hC.2.2.2.2.1
  have hc_8 : G_3 90 = aQ (cT 7) 6 (qP ad) := (ho_G_3 _ (by omega)).trans hC.2.2.2.2.2.2.1
  have hc_9 : G_3 97 = aI cT 6 zf := (ho_G_3 _ (by omega)).trans hC.2.2.2.2.2.2.2.2.1
  have hc_10 : G_3 98 = aZ cT 6 xf := (ho_G_3 _ (by omega)).trans hC.2.2.2.2.2.2.2.2.2.1
  have hc_11 : G_3 99 = aQ (cT 9) 6 (qK ad) := (ho_G_3 _ (by omega)).trans hC.2.2.2.2.2.2.2.2.2.2.1
  have hc_12 : G_3 106 = aQ (cT 8) 6 (qL ad) := (ho_G_3 _ (by omega)).trans hC.2.2.2.2.2.2.2.2.2.2.2.2.1
  have hc_13 : G_3 113 = aI cT 6 mf := (ho_G_3 _ (by omega)).trans hC.2.2.2.2.2.2.2.2.2.2.2.2.2.2.1
  have hc_14 : G_3 (91 + b) = aJ cT 48 (pf b) := (ho_G_3 _ (by omega)).trans (hC.2.2.2.2.2.2.2.1 b (by omega))
  have hc_15 : G_3 (100 + b) = aC cT 128 (kf b) := (ho_G_3 _ (by omega)).trans (hC.2.2.2.2.2.2.2.2.2.2.2.1 b (by omega))
  have hc_16 : G_3 (107 + b) = aI cT 128 (lf b) := (ho_G_3 _ (by omega)).trans (hC.2.2.2.2.2.2.2.2.2.2.2.2.2.1 b (by omega))
  have hfr_17 : ∀ j, (j ≠ 69) → G_3 j = G j := fun j hj => (ho_G_3 j (by omega)).trans (rfl)
  refine t_eqi (nI 1) rfl ?_
  refine t_if_ne (tgt := 15) hx hb dX3_meanLeft_10 (by decide) (by omega) (fun c_18 => ?_) (fun c_18 => absurd c_18 (by omega))
  refine lv_aload_n hx hb dX3_meanLeft_15 rfl (lv_at hl 0 rfl) ?_
  refine lv_iload_n hx hb dX3_meanLeft_16 rfl (lv_at hl 1 rfl) ?_
  refine lv_bipush (v := nI 110) hx hb dX3_meanLeft_17 (by decide) ?_
  refine g_callV (As := [.int (nI b), .int (nI 110)]) (rest := []) ⟨hx, hb, hml, hown, hw⟩ (mX3_count l D cT n ad A hD G_3 hn 0 hc_5 hc_11 b (σ.2 b).2.1 (kf b) (σ.2 b).2.2.2.2.1 mf (by omega) hc_15 hc_13 hm (fun j hj => (hkl j hj).1) (fun j hj => by have := (hit.2.2.1 j hj).1; omega) (by omega)) (cwV 2 hw (gWV wm_X3_96 wi_X3_count wse_X3_count wini_X3 wc_X3_count) rfl rfl rfl (by decide +kernel) ⟨Nat.le_of_ble_eq_true rfl, Nat.le_of_ble_eq_true rfl⟩) hK hE hA hP hS (k := 69) (by omega) hc_5 rfl rfl hl.1 (lv_room (Nat.le_of_ble_eq_true rfl)) dX3_meanLeft_19 ⟨Nat.le_of_ble_eq_true rfl, Nat.le_of_ble_eq_true rfl⟩ (fun v_20 G_19 H locs hp hP hS => ?_)
  obtain ⟨hv, hg⟩ := hp
  subst hv
  rw [hg] at hP
  refine lv_istore_n (lv' := [(2, .int (nI (cnt (σ.2 b).2.2.2.2.1 (σ.2 b).2.1))), (0, .ref (ad 69)), (1, .int (nI b))]) hx hb dX3_meanLeft_22 rfl hl (by decide) rfl (fun ls hl => ?_)
  refine lv_aload_n hx hb dX3_meanLeft_23 rfl (lv_at hl 1 rfl) ?_
  refine lv_iconst (v := nI 1) hx hb dX3_meanLeft_24 (by decide) ?_
  refine lv_iload_n hx hb dX3_meanLeft_25 rfl (lv_at hl 0 rfl) ?_
  refine lv_aload_n hx hb dX3_meanLeft_26 rfl (lv_at hl 1 rfl) ?_
  refine g_get (C := RX3) (T := TX3) (N := 9) hx hb hw inX3 hown hK hP (i := 69) (by omega) hc_5 rfl 7 (by decide) (hw _ wf_X3_40) rfl dX3_meanLeft_27 ?_
  refine lv_iload_n hx hb dX3_meanLeft_30 rfl (lv_at hl 2 rfl) ?_
  refine g_iald hx hb hK hP (i := 113) (by omega) hc_13 (by omega) (by omega) dX3_meanLeft_31 ?_
  refine t_icmp_ge (tgt := 39) hx hb dX3_meanLeft_32 (by decide) (by omega) (by omega) (fun c_21 => ?_) (fun c_21 => ?_)
  · exfalso; omega
  · skip
    refine lv_iconst (v := nI 1) hx hb dX3_meanLeft_35 (by decide) ?_
    refine lv_goto (tgt := 40) hx hb dX3_meanLeft_36 (by decide) ?_
    refine lv_iconst (v := nI 1) hx hb dX3_meanLeft_40 (by decide) ?_
    refine g_callV (As := [.int (nI 1), .int (nI 1), .int (nI 1)]) (rest := []) ⟨hx, hb, hml, hown, hw⟩ (mX3_can l D cT n ad A hD G_3 hn 0 1 1 1 (by decide) (by decide) (by decide) hc_5) (cwV 3 hw (gWV wm_X3_63 wi_X3_can wse_X3_can wini_X3 wc_X3_can) rfl rfl rfl (by decide +kernel) ⟨Nat.le_of_ble_eq_true rfl, Nat.le_of_ble_eq_true rfl⟩) hK hE hA hP hS (k := 69) (by omega) hc_5 rfl rfl hl.1 (lv_room (Nat.le_of_ble_eq_true rfl)) dX3_meanLeft_41 ⟨Nat.le_of_ble_eq_true rfl, Nat.le_of_ble_eq_true rfl⟩ (fun v_23 G_22 H locs hp hP hS => ?_)
    obtain ⟨rfl, hg_G_22, ho_G_22⟩ := hp
    have hc_24 : G_22 69 = .inr (5, [.ref (ad 70), .ref (ad 86), .ref (ad 90), .ref (ad 97), .ref (ad 98), .ref (ad 99), .ref (ad 106), .ref (ad 113), .int (nI 0)]) := hg_G_22
    have hc_25 : G_22 70 = aQ (cT 10) 3 (q3 ad) := (ho_G_22 _ (by omega)).trans hc_6
    have hc_26 : G_22 86 = aQ (cT 8) 3 (qS ad) := (ho_G_22 _ (by omega)).trans hc_7
    have hc_27 : G_22 90 = aQ (cT 7) 6 (qP ad) := (ho_G_22 _ (by omega)).trans hc_8
    have hc_28 : G_22 97 = aI cT 6 zf := (ho_G_22 _ (by omega)).trans hc_9
    have hc_29 : G_22 98 = aZ cT 6 xf := (ho_G_22 _ (by omega)).trans hc_10
    have hc_30 : G_22 99 = aQ (cT 9) 6 (qK ad) := (ho_G_22 _ (by omega)).trans hc_11
    have hc_31 : G_22 106 = aQ (cT 8) 6 (qL ad) := (ho_G_22 _ (by omega)).trans hc_12
    have hc_32 : G_22 113 = aI cT 6 mf := (ho_G_22 _ (by omega)).trans hc_13
    have hc_33 : G_22 (91 + b) = aJ cT 48 (pf b) := (ho_G_22 _ (by omega)).trans hc_14
    have hc_34 : G_22 (100 + b) = aC cT 128 (kf b) := (ho_G_22 _ (by omega)).trans hc_15
    have hc_35 : G_22 (107 + b) = aI cT 128 (lf b) := (ho_G_22 _ (by omega)).trans hc_16
    have hfr_36 : ∀ j, (j ≠ 69) → G_22 j = G j := fun j hj => (ho_G_22 j (by omega)).trans (hfr_17 j hj)
    refine t_eqi (nI 1) rfl ?_
    refine t_if_ne (tgt := 49) hx hb dX3_meanLeft_44 (by decide) (by omega) (fun c_37 => ?_) (fun c_37 => absurd c_37 (by omega))
    refine lv_aload_n hx hb dX3_meanLeft_49 rfl (lv_at hl 1 rfl) ?_
    refine g_get (C := RX3) (T := TX3) (N := 9) hx hb hw inX3 hown hK hP (i := 69) (by omega) hc_24 rfl 3 (by decide) (hw _ wf_X3_24) rfl dX3_meanLeft_50 ?_
    refine lv_iload_n hx hb dX3_meanLeft_53 rfl (lv_at hl 2 rfl) ?_
    refine g_iald hx hb hK hP (i := 97) (by omega) hc_28 (by omega) (by omega) dX3_meanLeft_54 ?_
    refine lv_iload_n hx hb dX3_meanLeft_55 rfl (lv_at hl 0 rfl) ?_
    refine lv_isub hx hb dX3_meanLeft_56 ?_
    refine t_eqi (nI ((zf b) - (cnt (σ.2 b).2.2.2.2.1 (σ.2 b).2.1))) (pk_sub (by omega)) ?_
    refine lv_i2d hx hb dX3_meanLeft_57 ?_
    refine lv_aload_n hx hb dX3_meanLeft_58 rfl (lv_at hl 1 rfl) ?_
    refine g_get (C := RX3) (T := TX3) (N := 9) hx hb hw inX3 hown hK hP (i := 69) (by omega) hc_24 rfl 7 (by decide) (hw _ wf_X3_40) rfl dX3_meanLeft_59 ?_
    refine lv_iload_n hx hb dX3_meanLeft_62 rfl (lv_at hl 2 rfl) ?_
    refine g_iald hx hb hK hP (i := 113) (by omega) hc_32 (by omega) (by omega) dX3_meanLeft_63 ?_
    refine lv_iload_n hx hb dX3_meanLeft_64 rfl (lv_at hl 0 rfl) ?_
    refine lv_isub hx hb dX3_meanLeft_65 ?_
    refine t_eqi (nI ((mf b) - (cnt (σ.2 b).2.2.2.2.1 (σ.2 b).2.1))) (pk_sub (by omega)) ?_
    refine lv_i2d hx hb dX3_meanLeft_66 ?_
    refine lv_ddiv hx hb dX3_meanLeft_67 (mnF_ok (by omega) (by omega) (by omega)) ?_
    refine g_retd hQ hx hb hr hlocks hP hS (⟨⟨by rw [hm, show zf b - cnt (σ.2 b).2.2.2.2.1 (σ.2 b).2.1 = lft (σ.2 b).2.2.2.2.1 (σ.2 b).2.2.2.2.2 (σ.2 b).2.1 by omega]; rfl, MW.same hC hMA hc_24 (fun j9 _ _ hj9 => hfr_36 j9 hj9)⟩, fun j hj => hfr_36 j (by omega)⟩) (Nat.le_of_ble_eq_true rfl) (Nat.le_of_ble_eq_true rfl) dX3_meanLeft_68

set_option maxHeartbeats 4000000 in
set_option maxRecDepth 100000 in
theorem mX3_meanLeft_no (l : Launch) (D : va_G) (cT : Nat → ClassId) (n : Nat) (ad : Nat → Nat) (A : Nat → Prop) (hD : ∀ G, va_D A (gw n ad G)) (G : Nat → va_E) (hn : 114 ≤ n) (σ : TY) (hI : YI σ) (th : Nat) (hM : MW cT ad G σ th) (x : Int32) (E : String) (hpx : pxBen x E ∨ onB x (fun b => (σ.2 b).2.1 - cnt (σ.2 b).2.2.2.2.1 (σ.2 b).2.1 = 0 ∧ E = xAR)) : Met l yX3_meanLeft (wA yX3_meanLeft cX3_meanLeft 3 (some .double)) ({ frames := 1, cells := 0, slots := 0, locals := 24 } : Room) (PG D cT n ad A G [.ref (ad 69), .int x]) (QG D n ad A (fun v G1 => ((∃ z, v = some (.double z)) ∧ MW cT ad G1 σ (cd [xIO, xAR] E)) ∧ ∀ j, (j < 69 ∨ 114 ≤ j) → G1 j = G j)) 0 0 A := by
  refine Met.ofG (cc := cX3_meanLeft) (maxL := 3) (ret := (some .double)) (by decide) (Nat.le_of_ble_eq_true rfl) ?_
  intro p e s m args below meth c Q hQ hx hb hr hml hlocks hown hw hP hK hE hA hS ls hl
  have hl : lv_has ls 3 [(0, .ref (ad 69)), (1, .int x)] := hl
  obtain ⟨rf, sf, pf, zf, xf, kf, lf, mf, hC, hMA⟩ := hM
  rcases hpx with ⟨hbb, rfl⟩ | ⟨b, hb6, rfl, hz9, rfl⟩
  · skip
    refine lv_aload_n hx hb dX3_meanLeft_0 rfl (lv_at hl 0 rfl) ?_
    refine lv_iload_n hx hb dX3_meanLeft_1 rfl (lv_at hl 1 rfl) ?_
    refine g_callS (As := [.int x]) (rest := [.ref (ad 69)]) ⟨hx, hb, hml, hown, hw⟩ (mX3_isBench l D cT n ad A hD G x) (va_cwS 1 hw (gWS wm_X3_67 wst_X3_isBench wini_X3 wc_X3_isBench) rfl rfl rfl (by decide +kernel) ⟨Nat.le_of_ble_eq_true rfl, Nat.le_of_ble_eq_true rfl⟩) hK hE hA hP hS rfl hl.1 (lv_room (Nat.le_of_ble_eq_true rfl)) dX3_meanLeft_2 ⟨Nat.le_of_ble_eq_true rfl, Nat.le_of_ble_eq_true rfl⟩ (fun v_2 G_1 H locs hp hP hS => ?_)
    obtain ⟨hv9, hg9⟩ := hp
    subst hv9
    rw [hg9] at hP
    refine t_eqi (nI 0) (congrArg nI (if_pos hbb)) ?_
    refine lv_iconst (v := nI 1) hx hb dX3_meanLeft_5 (by decide) ?_
    refine lv_iconst (v := nI 1) hx hb dX3_meanLeft_6 (by decide) ?_
    refine g_callV (As := [.int (nI 0), .int (nI 1), .int (nI 1)]) (rest := []) ⟨hx, hb, hml, hown, hw⟩ (mX3_can l D cT n ad A hD G hn th 0 1 1 (by decide) (by decide) (by decide) hC.1) (cwV 3 hw (gWV wm_X3_63 wi_X3_can wse_X3_can wini_X3 wc_X3_can) rfl rfl rfl (by decide +kernel) ⟨Nat.le_of_ble_eq_true rfl, Nat.le_of_ble_eq_true rfl⟩) hK hE hA hP hS (k := 69) (by omega) hC.1 rfl rfl hl.1 (lv_room (Nat.le_of_ble_eq_true rfl)) dX3_meanLeft_7 ⟨Nat.le_of_ble_eq_true rfl, Nat.le_of_ble_eq_true rfl⟩ (fun v_4 G_3 H locs hp hP hS => ?_)
    obtain ⟨rfl, hg_G_3, ho_G_3⟩ := hp
    have hc_5 : G_3 69 = .inr (5, [.ref (ad 70), .ref (ad 86), .ref (ad 90), .ref (ad 97), .ref (ad 98), .ref (ad 99), .ref (ad 106), .ref (ad 113), .int (nI 1)]) := hg_G_3
    have hc_6 : G_3 70 = aQ (cT 10) 3 (q3 ad) := (ho_G_3 _ (by omega)).trans hC.2.1
    have hc_7 : G_3 86 = aQ (cT 8) 3 (qS ad) := (ho_G_3 _ (by omega)).trans hC.2.2.2.2.1
    have hc_8 : G_3 90 = aQ (cT 7) 6 (qP ad) := (ho_G_3 _ (by omega)).trans hC.2.2.2.2.2.2.1
    have hc_9 : G_3 97 = aI cT 6 zf := (ho_G_3 _ (by omega)).trans hC.2.2.2.2.2.2.2.2.1
    have hc_10 : G_3 98 = aZ cT 6 xf := (ho_G_3 _ (by omega)).trans hC.2.2.2.2.2.2.2.2.2.1
    have hc_11 : G_3 99 = aQ (cT 9) 6 (qK ad) := (ho_G_3 _ (by omega)).trans hC.2.2.2.2.2.2.2.2.2.2.1
    have hc_12 : G_3 106 = aQ (cT 8) 6 (qL ad) := (ho_G_3 _ (by omega)).trans hC.2.2.2.2.2.2.2.2.2.2.2.2.1
    have hc_13 : G_3 113 = aI cT 6 mf := (ho_G_3 _ (by omega)).trans hC.2.2.2.2.2.2.2.2.2.2.2.2.2.2.1
    have hfr_14 : ∀ j, (j ≠ 69) → G_3 j = G j := fun j hj => (ho_G_3 j (by omega)).trans (rfl)
    refine t_eqi (nI 0) rfl ?_
    refine t_if_ne (tgt := 15) hx hb dX3_meanLeft_10 (by decide) (by omega) (fun c_15 => absurd c_15 (by omega)) (fun c_15 => ?_)
    refine lv_dconst0 hx hb dX3_meanLeft_13 ?_
    refine g_retd hQ hx hb hr hlocks hP hS (⟨⟨⟨_, rfl⟩, by rw [show cd [xIO, xAR] xIO = 1 from by decide +kernel]; exact MW.same hC hMA hc_5 (fun j9 _ _ hj9 => hfr_14 j9 hj9)⟩, fun j hj => hfr_14 j (by omega)⟩) (Nat.le_of_ble_eq_true rfl) (Nat.le_of_ble_eq_true rfl) dX3_meanLeft_14
  · skip
    obtain ⟨hz, hm, hxx, hpp, hkl⟩ := hMA.2 b (by omega)
    obtain ⟨hit, hbx⟩ := hI.2 b (by omega)
    have hcap := BI_cap hit
    have h48 := hit.1
    have hcl := cnt_le (σ.2 b).2.2.2.2.1 (σ.2 b).2.1
    refine lv_aload_n hx hb dX3_meanLeft_0 rfl (lv_at hl 0 rfl) ?_
    refine lv_iload_n hx hb dX3_meanLeft_1 rfl (lv_at hl 1 rfl) ?_
    refine g_callS (As := [.int (nI b)]) (rest := [.ref (ad 69)]) ⟨hx, hb, hml, hown, hw⟩ (mX3_isBench l D cT n ad A hD G (nI b)) (va_cwS 1 hw (gWS wm_X3_67 wst_X3_isBench wini_X3 wc_X3_isBench) rfl rfl rfl (by decide +kernel) ⟨Nat.le_of_ble_eq_true rfl, Nat.le_of_ble_eq_true rfl⟩) hK hE hA hP hS rfl hl.1 (lv_room (Nat.le_of_ble_eq_true rfl)) dX3_meanLeft_2 ⟨Nat.le_of_ble_eq_true rfl, Nat.le_of_ble_eq_true rfl⟩ (fun v_17 G_16 H locs hp hP hS => ?_)
    obtain ⟨hv9, hg9⟩ := hp
    subst hv9
    rw [hg9] at hP
    refine t_eqi (nI 1) (congrArg nI (if_neg (ix_ok (by omega) (by decide)))) ?_
    refine lv_iconst (v := nI 1) hx hb dX3_meanLeft_5 (by decide) ?_
    refine lv_iconst (v := nI 1) hx hb dX3_meanLeft_6 (by decide) ?_
    refine g_callV (As := [.int (nI 1), .int (nI 1), .int (nI 1)]) (rest := []) ⟨hx, hb, hml, hown, hw⟩ (mX3_can l D cT n ad A hD G hn th 1 1 1 (by decide) (by decide) (by decide) hC.1) (cwV 3 hw (gWV wm_X3_63 wi_X3_can wse_X3_can wini_X3 wc_X3_can) rfl rfl rfl (by decide +kernel) ⟨Nat.le_of_ble_eq_true rfl, Nat.le_of_ble_eq_true rfl⟩) hK hE hA hP hS (k := 69) (by omega) hC.1 rfl rfl hl.1 (lv_room (Nat.le_of_ble_eq_true rfl)) dX3_meanLeft_7 ⟨Nat.le_of_ble_eq_true rfl, Nat.le_of_ble_eq_true rfl⟩ (fun v_19 G_18 H locs hp hP hS => ?_)
    obtain ⟨rfl, hg_G_18, ho_G_18⟩ := hp
    have hc_20 : G_18 69 = .inr (5, [.ref (ad 70), .ref (ad 86), .ref (ad 90), .ref (ad 97), .ref (ad 98), .ref (ad 99), .ref (ad 106), .ref (ad 113), .int (nI 0)]) := hg_G_18
    have hc_21 : G_18 70 = aQ (cT 10) 3 (q3 ad) := (ho_G_18 _ (by omega)).trans hC.2.1
    have hc_22 : G_18 86 = aQ (cT 8) 3 (qS ad) := (ho_G_18 _ (by omega)).trans hC.2.2.2.2.1
    have hc_23 : G_18 90 = aQ (cT 7) 6 (qP ad) := (ho_G_18 _ (by omega)).trans hC.2.2.2.2.2.2.1
    have hc_24 : G_18 97 = aI cT 6 zf := (ho_G_18 _ (by omega)).trans hC.2.2.2.2.2.2.2.2.1
    have hc_25 : G_18 98 = aZ cT 6 xf := (ho_G_18 _ (by omega)).trans hC.2.2.2.2.2.2.2.2.2.1
    have hc_26 : G_18 99 = aQ (cT 9) 6 (qK ad) := (ho_G_18 _ (by omega)).trans hC.2.2.2.2.2.2.2.2.2.2.1
    have hc_27 : G_18 106 = aQ (cT 8) 6 (qL ad) := (ho_G_18 _ (by omega)).trans hC.2.2.2.2.2.2.2.2.2.2.2.2.1
    have hc_28 : G_18 113 = aI cT 6 mf := (ho_G_18 _ (by omega)).trans hC.2.2.2.2.2.2.2.2.2.2.2.2.2.2.1
    have hc_29 : G_18 (91 + b) = aJ cT 48 (pf b) := (ho_G_18 _ (by omega)).trans (hC.2.2.2.2.2.2.2.1 b (by omega))
    have hc_30 : G_18 (100 + b) = aC cT 128 (kf b) := (ho_G_18 _ (by omega)).trans (hC.2.2.2.2.2.2.2.2.2.2.2.1 b (by omega))
    have hc_31 : G_18 (107 + b) = aI cT 128 (lf b) := (ho_G_18 _ (by omega)).trans (hC.2.2.2.2.2.2.2.2.2.2.2.2.2.1 b (by omega))
    have hfr_32 : ∀ j, (j ≠ 69) → G_18 j = G j := fun j hj => (ho_G_18 j (by omega)).trans (rfl)
    refine t_eqi (nI 1) rfl ?_
    refine t_if_ne (tgt := 15) hx hb dX3_meanLeft_10 (by decide) (by omega) (fun c_33 => ?_) (fun c_33 => absurd c_33 (by omega))
    refine lv_aload_n hx hb dX3_meanLeft_15 rfl (lv_at hl 0 rfl) ?_
    refine lv_iload_n hx hb dX3_meanLeft_16 rfl (lv_at hl 1 rfl) ?_
    refine lv_bipush (v := nI 110) hx hb dX3_meanLeft_17 (by decide) ?_
    refine g_callV (As := [.int (nI b), .int (nI 110)]) (rest := []) ⟨hx, hb, hml, hown, hw⟩ (mX3_count l D cT n ad A hD G_18 hn 0 hc_20 hc_26 b (σ.2 b).2.1 (kf b) (σ.2 b).2.2.2.2.1 mf (by omega) hc_30 hc_28 hm (fun j hj => (hkl j hj).1) (fun j hj => by have := (hit.2.2.1 j hj).1; omega) (by omega)) (cwV 2 hw (gWV wm_X3_96 wi_X3_count wse_X3_count wini_X3 wc_X3_count) rfl rfl rfl (by decide +kernel) ⟨Nat.le_of_ble_eq_true rfl, Nat.le_of_ble_eq_true rfl⟩) hK hE hA hP hS (k := 69) (by omega) hc_20 rfl rfl hl.1 (lv_room (Nat.le_of_ble_eq_true rfl)) dX3_meanLeft_19 ⟨Nat.le_of_ble_eq_true rfl, Nat.le_of_ble_eq_true rfl⟩ (fun v_35 G_34 H locs hp hP hS => ?_)
    obtain ⟨hv, hg⟩ := hp
    subst hv
    rw [hg] at hP
    refine lv_istore_n (lv' := [(2, .int (nI (cnt (σ.2 b).2.2.2.2.1 (σ.2 b).2.1))), (0, .ref (ad 69)), (1, .int (nI b))]) hx hb dX3_meanLeft_22 rfl hl (by decide) rfl (fun ls hl => ?_)
    refine lv_aload_n hx hb dX3_meanLeft_23 rfl (lv_at hl 1 rfl) ?_
    refine lv_iconst (v := nI 1) hx hb dX3_meanLeft_24 (by decide) ?_
    refine lv_iload_n hx hb dX3_meanLeft_25 rfl (lv_at hl 0 rfl) ?_
    refine lv_aload_n hx hb dX3_meanLeft_26 rfl (lv_at hl 1 rfl) ?_
    refine g_get (C := RX3) (T := TX3) (N := 9) hx hb hw inX3 hown hK hP (i := 69) (by omega) hc_20 rfl 7 (by decide) (hw _ wf_X3_40) rfl dX3_meanLeft_27 ?_
    refine lv_iload_n hx hb dX3_meanLeft_30 rfl (lv_at hl 2 rfl) ?_
    refine g_iald hx hb hK hP (i := 113) (by omega) hc_28 (by omega) (by omega) dX3_meanLeft_31 ?_
    refine t_icmp_ge (tgt := 39) hx hb dX3_meanLeft_32 (by decide) (by omega) (by omega) (fun c_36 => ?_) (fun c_36 => ?_)
    · skip
      refine lv_iconst (v := nI 0) hx hb dX3_meanLeft_39 (by decide) ?_
      refine lv_iconst (v := nI 1) hx hb dX3_meanLeft_40 (by decide) ?_
      refine g_callV (As := [.int (nI 1), .int (nI 0), .int (nI 1)]) (rest := []) ⟨hx, hb, hml, hown, hw⟩ (mX3_can l D cT n ad A hD G_18 hn 0 1 0 1 (by decide) (by decide) (by decide) hc_20) (cwV 3 hw (gWV wm_X3_63 wi_X3_can wse_X3_can wini_X3 wc_X3_can) rfl rfl rfl (by decide +kernel) ⟨Nat.le_of_ble_eq_true rfl, Nat.le_of_ble_eq_true rfl⟩) hK hE hA hP hS (k := 69) (by omega) hc_20 rfl rfl hl.1 (lv_room (Nat.le_of_ble_eq_true rfl)) dX3_meanLeft_41 ⟨Nat.le_of_ble_eq_true rfl, Nat.le_of_ble_eq_true rfl⟩ (fun v_38 G_37 H locs hp hP hS => ?_)
      obtain ⟨rfl, hg_G_37, ho_G_37⟩ := hp
      have hc_39 : G_37 69 = .inr (5, [.ref (ad 70), .ref (ad 86), .ref (ad 90), .ref (ad 97), .ref (ad 98), .ref (ad 99), .ref (ad 106), .ref (ad 113), .int (nI 2)]) := hg_G_37
      have hc_40 : G_37 70 = aQ (cT 10) 3 (q3 ad) := (ho_G_37 _ (by omega)).trans hc_21
      have hc_41 : G_37 86 = aQ (cT 8) 3 (qS ad) := (ho_G_37 _ (by omega)).trans hc_22
      have hc_42 : G_37 90 = aQ (cT 7) 6 (qP ad) := (ho_G_37 _ (by omega)).trans hc_23
      have hc_43 : G_37 97 = aI cT 6 zf := (ho_G_37 _ (by omega)).trans hc_24
      have hc_44 : G_37 98 = aZ cT 6 xf := (ho_G_37 _ (by omega)).trans hc_25
      have hc_45 : G_37 99 = aQ (cT 9) 6 (qK ad) := (ho_G_37 _ (by omega)).trans hc_26
      have hc_46 : G_37 106 = aQ (cT 8) 6 (qL ad) := (ho_G_37 _ (by omega)).trans hc_27
      have hc_47 : G_37 113 = aI cT 6 mf := (ho_G_37 _ (by omega)).trans hc_28
      have hc_48 : G_37 (91 + b) = aJ cT 48 (pf b) := (ho_G_37 _ (by omega)).trans hc_29
      have hc_49 : G_37 (100 + b) = aC cT 128 (kf b) := (ho_G_37 _ (by omega)).trans hc_30
      have hc_50 : G_37 (107 + b) = aI cT 128 (lf b) := (ho_G_37 _ (by omega)).trans hc_31
      have hfr_51 : ∀ j, (j ≠ 69) → G_37 j = G j := fun j hj => (ho_G_37 j (by omega)).trans (hfr_32 j hj)
      refine t_eqi (nI 0) rfl ?_
      refine t_if_ne (tgt := 49) hx hb dX3_meanLeft_44 (by decide) (by omega) (fun c_52 => absurd c_52 (by omega)) (fun c_52 => ?_)
      refine lv_dconst0 hx hb dX3_meanLeft_47 ?_
      refine g_retd hQ hx hb hr hlocks hP hS (⟨⟨⟨_, rfl⟩, by rw [show cd [xIO, xAR] xAR = 2 from by decide +kernel]; exact MW.same hC hMA hc_39 (fun j9 _ _ hj9 => hfr_51 j9 hj9)⟩, fun j hj => hfr_51 j (by omega)⟩) (Nat.le_of_ble_eq_true rfl) (Nat.le_of_ble_eq_true rfl) dX3_meanLeft_48
    · exfalso; omega

set_option maxHeartbeats 4000000 in
set_option maxRecDepth 100000 in
theorem mX3_isSound_ok (l : Launch) (D : va_G) (cT : Nat → ClassId) (n : Nat) (ad : Nat → Nat) (A : Nat → Prop) (hD : ∀ G, va_D A (gw n ad G)) (G : Nat → va_E) (hn : 114 ≤ n) (σ : TY) (hI : YI σ) (th : Nat) (hM : MW cT ad G σ th) : Met l yX3_isSound (wA yX3_isSound cX3_isSound 1 (some .boolean)) ({ frames := 0, cells := 0, slots := 0, locals := 0 } : Room) (PG D cT n ad A G [.ref (ad 69)]) (QG D n ad A (fun v G1 => (v = some (.int (nI 1)) ∧ MW cT ad G1 (σ) 0) ∧ ∀ j, (j < 69 ∨ 114 ≤ j) → G1 j = G j)) 0 0 A := by
  refine Met.ofG (cc := cX3_isSound) (maxL := 1) (ret := (some .boolean)) (by decide) (Nat.le_of_ble_eq_true rfl) ?_
  intro p e s m args below meth c Q hQ hx hb hr hml hlocks hown hw hP hK hE hA hS ls hl
  have hl : lv_has ls 1 [(0, .ref (ad 69))] := hl
  obtain ⟨rf, sf, pf, zf, xf, kf, lf, mf, hC, hMA⟩ := hM
  refine lv_aload_n hx hb dX3_isSound_0 rfl (lv_at hl 0 rfl) ?_
  refine lv_iconst (v := nI 0) hx hb dX3_isSound_1 (by decide) ?_
  refine g_put (C := RX3) (T := TX3) (N := 9) hx hb hw inX3 tyX3 tyX3_ok nmX3 hown hK hP hD hS (i := 69) (by omega) hC.1 rfl 8 (by decide) (hw _ wf_X3_43) rfl (tyX3_ok 8 (by decide)) rfl rfl (Nat.le_of_ble_eq_true rfl) dX3_isSound_2 (fun G_1 H locs hg_G_1 ho_G_1 hP hS => ?_)
  have hc_2 : G_1 69 = .inr (5, [.ref (ad 70), .ref (ad 86), .ref (ad 90), .ref (ad 97), .ref (ad 98), .ref (ad 99), .ref (ad 106), .ref (ad 113), .int (nI 0)]) := hg_G_1
  have hc_3 : G_1 70 = aQ (cT 10) 3 (q3 ad) := (ho_G_1 _ (by omega)).trans hC.2.1
  have hc_4 : G_1 86 = aQ (cT 8) 3 (qS ad) := (ho_G_1 _ (by omega)).trans hC.2.2.2.2.1
  have hc_5 : G_1 90 = aQ (cT 7) 6 (qP ad) := (ho_G_1 _ (by omega)).trans hC.2.2.2.2.2.2.1
  have hc_6 : G_1 97 = aI cT 6 zf := (ho_G_1 _ (by omega)).trans hC.2.2.2.2.2.2.2.2.1
  have hc_7 : G_1 98 = aZ cT 6 xf := (ho_G_1 _ (by omega)).trans hC.2.2.2.2.2.2.2.2.2.1
  have hc_8 : G_1 99 = aQ (cT 9) 6 (qK ad) := (ho_G_1 _ (by omega)).trans hC.2.2.2.2.2.2.2.2.2.2.1
  have hc_9 : G_1 106 = aQ (cT 8) 6 (qL ad) := (ho_G_1 _ (by omega)).trans hC.2.2.2.2.2.2.2.2.2.2.2.2.1
  have hc_10 : G_1 113 = aI cT 6 mf := (ho_G_1 _ (by omega)).trans hC.2.2.2.2.2.2.2.2.2.2.2.2.2.2.1
  have hfr_11 : ∀ j, (j ≠ 69) → G_1 j = G j := fun j hj => (ho_G_1 j (by omega)).trans (rfl)
  refine lv_iconst (v := nI 1) hx hb dX3_isSound_5 (by decide) ?_
  refine g_ret hQ hx hb hr hlocks rfl hP hS (⟨⟨rfl, MW.same hC hMA hc_2 (fun j9 _ _ hj9 => hfr_11 j9 hj9)⟩, fun j hj => hfr_11 j (by omega)⟩) (Nat.le_of_ble_eq_true rfl) (Nat.le_of_ble_eq_true rfl) dX3_isSound_6
