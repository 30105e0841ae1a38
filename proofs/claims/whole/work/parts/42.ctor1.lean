set_option maxHeartbeats 4000000 in
set_option maxRecDepth 100000 in
theorem mX1_init (l : Launch) (D : va_G) (cT : Nat → ClassId) (ad : Nat → Nat) (A : Nat → Prop) (G : Nat → va_E) (k : Nat) (hG : G k = .inr (3, [.null, .int (nI 0)])) (hD : ∀ G, va_D A (gw (k + 1) ad G)) : Met l yX1_init (wA yX1_init cX1_init 1 none) ({ frames := 1, cells := 1, slots := 48, locals := 20 } : Room) (PC D cT (k + 1) ad A G [.ref (ad k)]) (QC D (k + 1) (k + 2) ad A (fun ad2 G2 => RR cT ad2 G2 k 0 (fun _ => 0) ∧ ∀ j, j < k → G2 j = G j)) 1 48 A := by
  refine Met.ofC (cc := cX1_init) (maxL := 1) (ret := none) (by decide) (Nat.le_of_ble_eq_true rfl) ?_
  intro p e s m args below meth c Q hQ hx hb hr hml hlocks hname hown hw hP hK hE hA hS hN ls hl
  have hl : lv_has ls 1 [(0, .ref (ad k))] := hl
  refine lv_aload_n hx hb dX1_init_0 rfl (lv_at hl 0 rfl) ?_
  refine W.objInit hx hb hown (hw _ wm_X1_3) (hw _ wi_t1_23) (hw _ wc_t1_24) rfl (hl.1.trans hml.symm) rfl dX1_init_1 (Nat.le_of_ble_eq_true rfl) (Nat.le_of_ble_eq_true rfl) ?_
  refine lv_aload_n hx hb dX1_init_4 rfl (lv_at hl 0 rfl) ?_
  refine lv_bipush (v := nI 48) hx hb dX1_init_5 (by decide) ?_
  refine g_new1 (atype := .long) (ty := .long) (t0 := 0) (N := 48) (z := (48, .inr (.inl (fun _ => 0)))) hx hb (hw _ wo_arrayClass_t1_66) rfl (hN.1 _ (List.mem_of_getElem? (i := 0) rfl)) hP hD hS hA (by omega) (fun _ => rfl) (Nat.le_of_ble_eq_true rfl) (Nat.le_of_ble_eq_true rfl) (Nat.le_of_ble_eq_true rfl) dX1_init_7 (fun adw_1 Gww_1 H hadw_1 hgw_1 how_1 hDw_1 hP hS => ?_)
  have hc_2 : Gww_1 k = .inr (3, [.null, .int (nI 0)]) := ((how_1 _ (by omega)).trans hG).trans rfl
  rw [← hadw_1 k (by omega)] at hl
  rw [← hadw_1 k (by omega)]
  have hads_3 : ∀ j, j < k + 1 → adw_1 j = ad j := fun j hj => (hadw_1 j (by omega)).trans (rfl)
  have hfr_4 : ∀ j, j < k → Gww_1 j = G j := fun j hj => (how_1 j (by omega)).trans (rfl)
  refine g_putF (C := RX1) (T := TX1) (N := 2) hx hb hw inX1 tyX1 tyX1_ok nmX1 hown hK hP hDw_1 hS (i := k) (by omega) hc_2 rfl 0 (by decide) (hw _ wf_X1_9) rfl hname rfl (tyX1_ok 0 (by decide)) rfl rfl (Nat.le_of_ble_eq_true rfl) dX1_init_9 (fun G_5 H locs hg_G_5 ho_G_5 hP hS => ?_)
  have hc_6 : G_5 k = .inr (3, [.ref (adw_1 (k + 1)), .int (nI 0)]) := hg_G_5
  have hc_7 : G_5 (k + 1) = aJ cT 48 (fun _ => 0) := (ho_G_5 _ (by omega)).trans hgw_1
  have hfr_8 : ∀ j, j < k → G_5 j = G j := fun j hj => (ho_G_5 j (by omega)).trans (hfr_4 j hj)
  exact g_retC hQ hx hb hr hlocks (hads_3) hDw_1 hP hS (⟨⟨hc_6, hc_7⟩, hfr_8⟩) (Nat.le_of_ble_eq_true rfl) (Nat.le_of_ble_eq_true rfl) dX1_init_12

set_option maxHeartbeats 4000000 in
set_option maxRecDepth 100000 in
theorem mX0_init (l : Launch) (D : va_G) (cT : Nat → ClassId) (ad : Nat → Nat) (A : Nat → Prop) (G : Nat → va_E) (k : Nat) (hG : G k = .inr (2, [.null, .int (nI 0), .int (nI 0), .null, .null, .null, .null, .int (nI 0)])) (hD : ∀ G, va_D A (gw (k + 1) ad G)) : Met l yX0_init (wA yX0_init cX0_init 1 none) ({ frames := 1, cells := 5, slots := 432, locals := 20 } : Room) (PC D cT (k + 1) ad A G [.ref (ad k)]) (QC D (k + 1) (k + 6) ad A (fun ad2 G2 => RB cT ad2 G2 k 0 0 0 (fun _ => 0) (fun _ => 0) (fun _ => 0) (fun _ => 0) (fun _ => 0) ∧ ∀ j, j < k → G2 j = G j)) 5 432 A := by
  refine Met.ofC (cc := cX0_init) (maxL := 1) (ret := none) (by decide) (Nat.le_of_ble_eq_true rfl) ?_
  intro p e s m args below meth c Q hQ hx hb hr hml hlocks hname hown hw hP hK hE hA hS hN ls hl
  have hl : lv_has ls 1 [(0, .ref (ad k))] := hl
  refine lv_aload_n hx hb dX0_init_0 rfl (lv_at hl 0 rfl) ?_
  refine W.objInit hx hb hown (hw _ wm_X0_3) (hw _ wi_t1_23) (hw _ wc_t1_24) rfl (hl.1.trans hml.symm) rfl dX0_init_1 (Nat.le_of_ble_eq_true rfl) (Nat.le_of_ble_eq_true rfl) ?_
  refine lv_aload_n hx hb dX0_init_4 rfl (lv_at hl 0 rfl) ?_
  refine lv_bipush (v := nI 48) hx hb dX0_init_5 (by decide) ?_
  refine g_new1 (atype := .long) (ty := .long) (t0 := 0) (N := 48) (z := (48, .inr (.inl (fun _ => 0)))) hx hb (hw _ wo_arrayClass_t1_66) rfl (hN.1 _ (List.mem_of_getElem? (i := 0) rfl)) hP hD hS hA (by omega) (fun _ => rfl) (Nat.le_of_ble_eq_true rfl) (Nat.le_of_ble_eq_true rfl) (Nat.le_of_ble_eq_true rfl) dX0_init_7 (fun adw_1 Gww_1 H hadw_1 hgw_1 how_1 hDw_1 hP hS => ?_)
  have hc_2 : Gww_1 k = .inr (2, [.null, .int (nI 0), .int (nI 0), .null, .null, .null, .null, .int (nI 0)]) := ((how_1 _ (by omega)).trans hG).trans rfl
  rw [← hadw_1 k (by omega)] at hl
  rw [← hadw_1 k (by omega)]
  have hads_3 : ∀ j, j < k + 1 → adw_1 j = ad j := fun j hj => (hadw_1 j (by omega)).trans (rfl)
  have hfr_4 : ∀ j, j < k → Gww_1 j = G j := fun j hj => (how_1 j (by omega)).trans (rfl)
  refine g_putF (C := RX0) (T := TX0) (N := 8) hx hb hw inX0 tyX0 tyX0_ok nmX0 hown hK hP hDw_1 hS (i := k) (by omega) hc_2 rfl 0 (by decide) (hw _ wf_X0_9) rfl hname rfl (tyX0_ok 0 (by decide)) rfl rfl (Nat.le_of_ble_eq_true rfl) dX0_init_9 (fun G_5 H locs hg_G_5 ho_G_5 hP hS => ?_)
  have hc_6 : G_5 k = .inr (2, [.ref (adw_1 (k + 1)), .int (nI 0), .int (nI 0), .null, .null, .null, .null, .int (nI 0)]) := hg_G_5
  have hc_7 : G_5 (k + 1) = aJ cT 48 (fun _ => 0) := (ho_G_5 _ (by omega)).trans hgw_1
  have hfr_8 : ∀ j, j < k → G_5 j = G j := fun j hj => (ho_G_5 j (by omega)).trans (hfr_4 j hj)
  refine lv_aload_n hx hb dX0_init_12 rfl (lv_at hl 0 rfl) ?_
  refine lv_bipush (v := nI 96) hx hb dX0_init_13 (by decide) ?_
  refine g_new1 (atype := .int) (ty := .int) (t0 := 1) (N := 96) (z := (96, .inl (fun j => nI ((fun _ => 0) j)))) hx hb (hw _ wo_arrayClass_t1_67) rfl (hN.1 _ (List.mem_of_getElem? (i := 1) rfl)) hP hDw_1 hS hA (by omega) (fun _ => rfl) (Nat.le_of_ble_eq_true rfl) (Nat.le_of_ble_eq_true rfl) (Nat.le_of_ble_eq_true rfl) dX0_init_15 (fun adw_9 Gww_9 H hadw_9 hgw_9 how_9 hDw_9 hP hS => ?_)
  have hc_10 : Gww_9 k = .inr (2, [.ref (adw_9 (k + 1)), .int (nI 0), .int (nI 0), .null, .null, .null, .null, .int (nI 0)]) := ((how_9 _ (by omega)).trans hc_6).trans (by rw [hadw_9 (k + 1) (by omega)])
  have hc_11 : Gww_9 (k + 1) = aJ cT 48 (fun _ => 0) := ((how_9 _ (by omega)).trans hc_7).trans rfl
  rw [← hadw_9 k (by omega)] at hl
  rw [← hadw_9 k (by omega)]
  have hads_12 : ∀ j, j < k + 1 → adw_9 j = ad j := fun j hj => (hadw_9 j (by omega)).trans (hads_3 j hj)
  have hfr_13 : ∀ j, j < k → Gww_9 j = G j := fun j hj => (how_9 j (by omega)).trans (hfr_8 j hj)
  refine g_putF (C := RX0) (T := TX0) (N := 8) hx hb hw inX0 tyX0 tyX0_ok nmX0 hown hK hP hDw_9 hS (i := k) (by omega) hc_10 rfl 3 (by decide) (hw _ wf_X0_15) rfl hname rfl (tyX0_ok 3 (by decide)) rfl rfl (Nat.le_of_ble_eq_true rfl) dX0_init_17 (fun G_14 H locs hg_G_14 ho_G_14 hP hS => ?_)
  have hc_15 : G_14 k = .inr (2, [.ref (adw_9 (k + 1)), .int (nI 0), .int (nI 0), .ref (adw_9 (k + 2)), .null, .null, .null, .int (nI 0)]) := hg_G_14
  have hc_16 : G_14 (k + 1) = aJ cT 48 (fun _ => 0) := (ho_G_14 _ (by omega)).trans hc_11
  have hc_17 : G_14 (k + 2) = aI cT 96 (fun _ => 0) := (ho_G_14 _ (by omega)).trans hgw_9
  have hfr_18 : ∀ j, j < k → G_14 j = G j := fun j hj => (ho_G_14 j (by omega)).trans (hfr_13 j hj)
  refine lv_aload_n hx hb dX0_init_20 rfl (lv_at hl 0 rfl) ?_
  refine lv_bipush (v := nI 96) hx hb dX0_init_21 (by decide) ?_
  refine g_new1 (atype := .long) (ty := .long) (t0 := 0) (N := 96) (z := (96, .inr (.inl (fun _ => 0)))) hx hb (hw _ wo_arrayClass_t1_66) rfl (hN.1 _ (List.mem_of_getElem? (i := 0) rfl)) hP hDw_9 hS hA (by omega) (fun _ => rfl) (Nat.le_of_ble_eq_true rfl) (Nat.le_of_ble_eq_true rfl) (Nat.le_of_ble_eq_true rfl) dX0_init_23 (fun adw_19 Gww_19 H hadw_19 hgw_19 how_19 hDw_19 hP hS => ?_)
  have hc_20 : Gww_19 k = .inr (2, [.ref (adw_19 (k + 1)), .int (nI 0), .int (nI 0), .ref (adw_19 (k + 2)), .null, .null, .null, .int (nI 0)]) := ((how_19 _ (by omega)).trans hc_15).trans (by rw [hadw_19 (k + 1) (by omega), hadw_19 (k + 2) (by omega)])
  have hc_21 : Gww_19 (k + 1) = aJ cT 48 (fun _ => 0) := ((how_19 _ (by omega)).trans hc_16).trans rfl
  have hc_22 : Gww_19 (k + 2) = aI cT 96 (fun _ => 0) := ((how_19 _ (by omega)).trans hc_17).trans rfl
  rw [← hadw_19 k (by omega)] at hl
  rw [← hadw_19 k (by omega)]
  have hads_23 : ∀ j, j < k + 1 → adw_19 j = ad j := fun j hj => (hadw_19 j (by omega)).trans (hads_12 j hj)
  have hfr_24 : ∀ j, j < k → Gww_19 j = G j := fun j hj => (how_19 j (by omega)).trans (hfr_18 j hj)
  refine g_putF (C := RX0) (T := TX0) (N := 8) hx hb hw inX0 tyX0 tyX0_ok nmX0 hown hK hP hDw_19 hS (i := k) (by omega) hc_20 rfl 4 (by decide) (hw _ wf_X0_19) rfl hname rfl (tyX0_ok 4 (by decide)) rfl rfl (Nat.le_of_ble_eq_true rfl) dX0_init_25 (fun G_25 H locs hg_G_25 ho_G_25 hP hS => ?_)
  have hc_26 : G_25 k = .inr (2, [.ref (adw_19 (k + 1)), .int (nI 0), .int (nI 0), .ref (adw_19 (k + 2)), .ref (adw_19 (k + 3)), .null, .null, .int (nI 0)]) := hg_G_25
  have hc_27 : G_25 (k + 1) = aJ cT 48 (fun _ => 0) := (ho_G_25 _ (by omega)).trans hc_21
  have hc_28 : G_25 (k + 2) = aI cT 96 (fun _ => 0) := (ho_G_25 _ (by omega)).trans hc_22
  have hc_29 : G_25 (k + 3) = aJ cT 96 (fun _ => 0) := (ho_G_25 _ (by omega)).trans hgw_19
  have hfr_30 : ∀ j, j < k → G_25 j = G j := fun j hj => (ho_G_25 j (by omega)).trans (hfr_24 j hj)
  refine lv_aload_n hx hb dX0_init_28 rfl (lv_at hl 0 rfl) ?_
  refine lv_bipush (v := nI 96) hx hb dX0_init_29 (by decide) ?_
  refine g_new1 (atype := .int) (ty := .int) (t0 := 1) (N := 96) (z := (96, .inl (fun j => nI ((fun _ => 0) j)))) hx hb (hw _ wo_arrayClass_t1_67) rfl (hN.1 _ (List.mem_of_getElem? (i := 1) rfl)) hP hDw_19 hS hA (by omega) (fun _ => rfl) (Nat.le_of_ble_eq_true rfl) (Nat.le_of_ble_eq_true rfl) (Nat.le_of_ble_eq_true rfl) dX0_init_31 (fun adw_31 Gww_31 H hadw_31 hgw_31 how_31 hDw_31 hP hS => ?_)
  have hc_32 : Gww_31 k = .inr (2, [.ref (adw_31 (k + 1)), .int (nI 0), .int (nI 0), .ref (adw_31 (k + 2)), .ref (adw_31 (k + 3)), .null, .null, .int (nI 0)]) := ((how_31 _ (by omega)).trans hc_26).trans (by rw [hadw_31 (k + 1) (by omega), hadw_31 (k + 2) (by omega), hadw_31 (k + 3) (by omega)])
  have hc_33 : Gww_31 (k + 1) = aJ cT 48 (fun _ => 0) := ((how_31 _ (by omega)).trans hc_27).trans rfl
  have hc_34 : Gww_31 (k + 2) = aI cT 96 (fun _ => 0) := ((how_31 _ (by omega)).trans hc_28).trans rfl
  have hc_35 : Gww_31 (k + 3) = aJ cT 96 (fun _ => 0) := ((how_31 _ (by omega)).trans hc_29).trans rfl
  rw [← hadw_31 k (by omega)] at hl
  rw [← hadw_31 k (by omega)]
  have hads_36 : ∀ j, j < k + 1 → adw_31 j = ad j := fun j hj => (hadw_31 j (by omega)).trans (hads_23 j hj)
  have hfr_37 : ∀ j, j < k → Gww_31 j = G j := fun j hj => (how_31 j (by omega)).trans (hfr_30 j hj)
  refine g_putF (C := RX0) (T := TX0) (N := 8) hx hb hw inX0 tyX0 tyX0_ok nmX0 hown hK hP hDw_31 hS (i := k) (by omega) hc_32 rfl 5 (by decide) (hw _ wf_X0_22) rfl hname rfl (tyX0_ok 5 (by decide)) rfl rfl (Nat.le_of_ble_eq_true rfl) dX0_init_33 (fun G_38 H locs hg_G_38 ho_G_38 hP hS => ?_)
  have hc_39 : G_38 k = .inr (2, [.ref (adw_31 (k + 1)), .int (nI 0), .int (nI 0), .ref (adw_31 (k + 2)), .ref (adw_31 (k + 3)), .ref (adw_31 (k + 4)), .null, .int (nI 0)]) := hg_G_38
  have hc_40 : G_38 (k + 1) = aJ cT 48 (fun _ => 0) := (ho_G_38 _ (by omega)).trans hc_33
  have hc_41 : G_38 (k + 2) = aI cT 96 (fun _ => 0) := (ho_G_38 _ (by omega)).trans hc_34
  have hc_42 : G_38 (k + 3) = aJ cT 96 (fun _ => 0) := (ho_G_38 _ (by omega)).trans hc_35
  have hc_43 : G_38 (k + 4) = aI cT 96 (fun _ => 0) := (ho_G_38 _ (by omega)).trans hgw_31
  have hfr_44 : ∀ j, j < k → G_38 j = G j := fun j hj => (ho_G_38 j (by omega)).trans (hfr_37 j hj)
  refine lv_aload_n hx hb dX0_init_36 rfl (lv_at hl 0 rfl) ?_
  refine lv_bipush (v := nI 96) hx hb dX0_init_37 (by decide) ?_
  refine g_new1 (atype := .int) (ty := .int) (t0 := 1) (N := 96) (z := (96, .inl (fun j => nI ((fun _ => 0) j)))) hx hb (hw _ wo_arrayClass_t1_67) rfl (hN.1 _ (List.mem_of_getElem? (i := 1) rfl)) hP hDw_31 hS hA (by omega) (fun _ => rfl) (Nat.le_of_ble_eq_true rfl) (Nat.le_of_ble_eq_true rfl) (Nat.le_of_ble_eq_true rfl) dX0_init_39 (fun adw_45 Gww_45 H hadw_45 hgw_45 how_45 hDw_45 hP hS => ?_)
  have hc_46 : Gww_45 k = .inr (2, [.ref (adw_45 (k + 1)), .int (nI 0), .int (nI 0), .ref (adw_45 (k + 2)), .ref (adw_45 (k + 3)), .ref (adw_45 (k + 4)), .null, .int (nI 0)]) := ((how_45 _ (by omega)).trans hc_39).trans (by rw [hadw_45 (k + 1) (by omega), hadw_45 (k + 2) (by omega), hadw_45 (k + 3) (by omega), hadw_45 (k + 4) (by omega)])
  have hc_47 : Gww_45 (k + 1) = aJ cT 48 (fun _ => 0) := ((how_45 _ (by omega)).trans hc_40).trans rfl
  have hc_48 : Gww_45 (k + 2) = aI cT 96 (fun _ => 0) := ((how_45 _ (by omega)).trans hc_41).trans rfl
  have hc_49 : Gww_45 (k + 3) = aJ cT 96 (fun _ => 0) := ((how_45 _ (by omega)).trans hc_42).trans rfl
  have hc_50 : Gww_45 (k + 4) = aI cT 96 (fun _ => 0) := ((how_45 _ (by omega)).trans hc_43).trans rfl
  rw [← hadw_45 k (by omega)] at hl
  rw [← hadw_45 k (by omega)]
  have hads_51 : ∀ j, j < k + 1 → adw_45 j = ad j := fun j hj => (hadw_45 j (by omega)).trans (hads_36 j hj)
  have hfr_52 : ∀ j, j < k → Gww_45 j = G j := fun j hj => (how_45 j (by omega)).trans (hfr_44 j hj)
  refine g_putF (C := RX0) (T := TX0) (N := 8) hx hb hw inX0 tyX0 tyX0_ok nmX0 hown hK hP hDw_45 hS (i := k) (by omega) hc_46 rfl 6 (by decide) (hw _ wf_X0_25) rfl hname rfl (tyX0_ok 6 (by decide)) rfl rfl (Nat.le_of_ble_eq_true rfl) dX0_init_41 (fun G_53 H locs hg_G_53 ho_G_53 hP hS => ?_)
  have hc_54 : G_53 k = .inr (2, [.ref (adw_45 (k + 1)), .int (nI 0), .int (nI 0), .ref (adw_45 (k + 2)), .ref (adw_45 (k + 3)), .ref (adw_45 (k + 4)), .ref (adw_45 (k + 5)), .int (nI 0)]) := hg_G_53
  have hc_55 : G_53 (k + 1) = aJ cT 48 (fun _ => 0) := (ho_G_53 _ (by omega)).trans hc_47
  have hc_56 : G_53 (k + 2) = aI cT 96 (fun _ => 0) := (ho_G_53 _ (by omega)).trans hc_48
  have hc_57 : G_53 (k + 3) = aJ cT 96 (fun _ => 0) := (ho_G_53 _ (by omega)).trans hc_49
  have hc_58 : G_53 (k + 4) = aI cT 96 (fun _ => 0) := (ho_G_53 _ (by omega)).trans hc_50
  have hc_59 : G_53 (k + 5) = aI cT 96 (fun _ => 0) := (ho_G_53 _ (by omega)).trans hgw_45
  have hfr_60 : ∀ j, j < k → G_53 j = G j := fun j hj => (ho_G_53 j (by omega)).trans (hfr_52 j hj)
  exact g_retC hQ hx hb hr hlocks (hads_51) hDw_45 hP hS (⟨⟨hc_54, hc_55, hc_56, hc_57, hc_58, hc_59, fun _ => (by show 0 < 2 ^ 31; omega), fun _ => (by show 0 < 2 ^ 31; omega), fun _ => (by show 0 < 2 ^ 31; omega)⟩, hfr_60⟩) (Nat.le_of_ble_eq_true rfl) (Nat.le_of_ble_eq_true rfl) dX0_init_44
