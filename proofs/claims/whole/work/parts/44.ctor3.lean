theorem YW.ad {cT : Nat → ClassId} {ad ad2 : Nat → Nat} {G G2 : Nat → va_E} {σ : TY} (h : YW cT ad G σ) (h1 : ∀ k, k < 69 → ad2 k = ad k) (h2 : ∀ k, k < 69 → G2 k = G k) : YW cT ad2 G2 σ := by
  obtain ⟨⟨a1, a2, a3⟩, a4, a5, sz, cn, bx, pt, w, nu, ne, en, a6⟩ := h
  refine ⟨⟨?_, ?_, ?_⟩, fun j hj => (a4 j hj).ad (h1 _ (by omega)) (fun i _ hi => h2 i (by omega)), fun b hb => ?_, sz, cn, bx, pt, w, nu, ne, en, a6.ad (fun i _ hi => h1 i (by omega)) (fun i _ hi => h2 i (by omega))⟩
  · rw [h1 1 (by omega), h1 2 (by omega), h1 3 (by omega)]
    exact (h2 _ (by omega)).trans a1
  · refine ((h2 _ (by omega)).trans a2).trans (congrArg (aQ (cT 5) 12) (funext fun j => ?_))
    unfold rQ
    by_cases q : j < 12
    · rw [if_pos q, if_pos q, h1 _ (by omega)]
    · rw [if_neg q, if_neg q]
  · refine ((h2 _ (by omega)).trans a3).trans (congrArg (aQ (cT 6) 6) (funext fun j => ?_))
    unfold bQ
    by_cases q : j < 6
    · rw [if_pos q, if_pos q, h1 _ (by omega)]
    · rw [if_neg q, if_neg q]
  · obtain ⟨p, w, nu, ne, en, hb1, hb2⟩ := a5 b hb
    exact ⟨p, w, nu, ne, en, hb1.ad (fun i _ hi => h1 i (by omega)) (fun i _ hi => h2 i (by omega)), hb2⟩
theorem fQ_eq {c : ClassId} {N n : Nat} {f g : Nat → Nat} (h : ∀ j, j < N → f j = g j) : aQ c N (fun j => if j < N then some (f j) else none) = aQ c N (fun j => if j < N then some (g j) else none) := congrArg (aQ c N) (funext fun j => by
  by_cases q : j < N
  · rw [if_pos q, if_pos q, h j q]
  · rw [if_neg q, if_neg q])

set_option maxHeartbeats 4000000 in
set_option maxRecDepth 100000 in
theorem mX3_init (l : Launch) (D : va_G) (cT : Nat → ClassId) (ad : Nat → Nat) (A : Nat → Prop) (G : Nat → va_E) (hG : G 69 = .inr (5, [.null, .null, .null, .null, .null, .null, .null, .null, .int (nI 0)])) (hD : ∀ G, va_D A (gw (70) ad G)) : Met l yX3_init (wA yX3_init cX3_init 1 none) ({ frames := 1, cells := 44, slots := 2466, locals := 20 } : Room) (PC D cT (70) ad A G [.ref (ad 69)]) (QC D (70) (114) ad A (fun ad2 G2 => MW cT ad2 G2 σ0 0 ∧ ∀ j, j < 69 → G2 j = G j)) 44 2466 A := by
  refine Met.ofC (cc := cX3_init) (maxL := 1) (ret := none) (by decide) (Nat.le_of_ble_eq_true rfl) ?_
  intro p e s m args below meth c Q hQ hx hb hr hml hlocks hname hown hw hP hK hE hA hS hN ls hl
  have hl : lv_has ls 1 [(0, .ref (ad 69))] := hl
  refine lv_aload_n hx hb dX3_init_0 rfl (lv_at hl 0 rfl) ?_
  refine W.objInit hx hb hown (hw _ wm_X3_1) (hw _ wi_t1_23) (hw _ wc_t1_24) rfl (hl.1.trans hml.symm) rfl dX3_init_1 (Nat.le_of_ble_eq_true rfl) (Nat.le_of_ble_eq_true rfl) ?_
  refine lv_aload_n hx hb dX3_init_4 rfl (lv_at hl 0 rfl) ?_
  refine lv_iconst (v := nI 3) hx hb dX3_init_5 (by decide) ?_
  refine lv_iconst (v := nI 4) hx hb dX3_init_6 (by decide) ?_
  refine lv_bipush (v := nI 48) hx hb dX3_init_7 (by decide) ?_
  refine g_multi3 hx hb hown (hw _ wcl_X3_9) (hN.2 _ (List.mem_of_getElem? (i := 3) rfl)) (hN.2 _ (List.mem_of_getElem? (i := 2) rfl)) (hN.1 _ (List.mem_of_getElem? (i := 0) rfl)) (hN.1 _ (List.mem_of_getElem? (i := 7) rfl)) (hN.1 _ (List.mem_of_getElem? (i := 10) rfl)) hK hP hD hS hA (Nat.le_of_ble_eq_true rfl) (Nat.le_of_ble_eq_true rfl) dX3_init_9 (fun adw_1 Gww_1 H locs hadw_1 how_1 hgtw_1 hgmw_1 hglw_1 hDw_1 hP hS => ?_)
  have hc_2 : Gww_1 69 = .inr (5, [.null, .null, .null, .null, .null, .null, .null, .null, .int (nI 0)]) := ((how_1 _ (by omega)).trans hG).trans rfl
  rw [← hadw_1 69 (by omega)] at hl
  rw [← hadw_1 69 (by omega)]
  have hads_3 : ∀ j, j < 70 → adw_1 j = ad j := fun j hj => (hadw_1 j (by omega)).trans (rfl)
  have hfr_4 : ∀ j, j < 69 → Gww_1 j = G j := fun j hj => (how_1 j (by omega)).trans (rfl)
  refine g_putF (C := RX3) (T := TX3) (N := 9) hx hb hw inX3 tyX3 tyX3_ok nmX3 hown hK hP hDw_1 hS (i := 69) (by omega) hc_2 rfl 0 (by decide) (hw _ wf_X3_11) rfl hname rfl (tyX3_ok 0 (by decide)) rfl rfl (Nat.le_of_ble_eq_true rfl) dX3_init_13 (fun G_5 H locs hg_G_5 ho_G_5 hP hS => ?_)
  have hc_6 : G_5 69 = .inr (5, [.ref (adw_1 70), .null, .null, .null, .null, .null, .null, .null, .int (nI 0)]) := hg_G_5
  have hfr_7 : ∀ j, j < 69 → G_5 j = G j := fun j hj => (ho_G_5 j (by omega)).trans (hfr_4 j hj)
  refine lv_aload_n hx hb dX3_init_16 rfl (lv_at hl 0 rfl) ?_
  refine lv_iconst (v := nI 3) hx hb dX3_init_17 (by decide) ?_
  refine lv_iconst (v := nI 4) hx hb dX3_init_18 (by decide) ?_
  refine g_multi2 (ty := .int) (t0 := 1) (t1 := 8) (N := 3) (M := 4) (z := (4, .inl (fun j => nI (z0 j)))) hx hb hown (hw _ wcl_X3_14) (hN.2 _ (List.mem_of_getElem? (i := 4) rfl)) (hN.1 _ (List.mem_of_getElem? (i := 1) rfl)) (hN.1 _ (List.mem_of_getElem? (i := 8) rfl)) rfl hK rfl hP hDw_1 hS hA (by omega) (by omega) (Nat.le_of_ble_eq_true rfl) rfl rfl (fun _ => rfl) (Nat.le_of_ble_eq_true rfl) (Nat.le_of_ble_eq_true rfl) dX3_init_19 (fun adw_8 Gww_8 H locs hadw_8 how_8 hgtw_8 hglw_8 hDw_8 hP hS => ?_)
  have hc_9 : Gww_8 69 = .inr (5, [.ref (adw_8 70), .null, .null, .null, .null, .null, .null, .null, .int (nI 0)]) := ((how_8 _ (by omega)).trans hc_6).trans (by rw [hadw_8 70 (by omega)])
  rw [← hadw_8 69 (by omega)] at hl
  rw [← hadw_8 69 (by omega)]
  have hads_10 : ∀ j, j < 70 → adw_8 j = ad j := fun j hj => (hadw_8 j (by omega)).trans (hads_3 j hj)
  have hfr_11 : ∀ j, j < 69 → Gww_8 j = G j := fun j hj => (how_8 j (by omega)).trans (hfr_7 j hj)
  refine g_putF (C := RX3) (T := TX3) (N := 9) hx hb hw inX3 tyX3 tyX3_ok nmX3 hown hK hP hDw_8 hS (i := 69) (by omega) hc_9 rfl 1 (by decide) (hw _ wf_X3_16) rfl hname rfl (tyX3_ok 1 (by decide)) rfl rfl (Nat.le_of_ble_eq_true rfl) dX3_init_23 (fun G_12 H locs hg_G_12 ho_G_12 hP hS => ?_)
  have hc_13 : G_12 69 = .inr (5, [.ref (adw_8 70), .ref (adw_8 86), .null, .null, .null, .null, .null, .null, .int (nI 0)]) := hg_G_12
  have hfr_14 : ∀ j, j < 69 → G_12 j = G j := fun j hj => (ho_G_12 j (by omega)).trans (hfr_11 j hj)
  refine lv_aload_n hx hb dX3_init_26 rfl (lv_at hl 0 rfl) ?_
  refine lv_bipush (v := nI 6) hx hb dX3_init_27 (by decide) ?_
  refine lv_bipush (v := nI 48) hx hb dX3_init_29 (by decide) ?_
  refine g_multi2 (ty := .long) (t0 := 0) (t1 := 7) (N := 6) (M := 48) (z := (48, .inr (.inl (fun _ => 0)))) hx hb hown (hw _ wcl_X3_19) (hN.2 _ (List.mem_of_getElem? (i := 3) rfl)) (hN.1 _ (List.mem_of_getElem? (i := 0) rfl)) (hN.1 _ (List.mem_of_getElem? (i := 7) rfl)) rfl hK rfl hP hDw_8 hS hA (by omega) (by omega) (Nat.le_of_ble_eq_true rfl) rfl rfl (fun _ => rfl) (Nat.le_of_ble_eq_true rfl) (Nat.le_of_ble_eq_true rfl) dX3_init_31 (fun adw_15 Gww_15 H locs hadw_15 how_15 hgtw_15 hglw_15 hDw_15 hP hS => ?_)
  have hc_16 : Gww_15 69 = .inr (5, [.ref (adw_15 70), .ref (adw_15 86), .null, .null, .null, .null, .null, .null, .int (nI 0)]) := ((how_15 _ (by omega)).trans hc_13).trans (by rw [hadw_15 70 (by omega), hadw_15 86 (by omega)])
  rw [← hadw_15 69 (by omega)] at hl
  rw [← hadw_15 69 (by omega)]
  have hads_17 : ∀ j, j < 70 → adw_15 j = ad j := fun j hj => (hadw_15 j (by omega)).trans (hads_10 j hj)
  have hfr_18 : ∀ j, j < 69 → Gww_15 j = G j := fun j hj => (how_15 j (by omega)).trans (hfr_14 j hj)
  refine g_putF (C := RX3) (T := TX3) (N := 9) hx hb hw inX3 tyX3 tyX3_ok nmX3 hown hK hP hDw_15 hS (i := 69) (by omega) hc_16 rfl 2 (by decide) (hw _ wf_X3_21) rfl hname rfl (tyX3_ok 2 (by decide)) rfl rfl (Nat.le_of_ble_eq_true rfl) dX3_init_35 (fun G_19 H locs hg_G_19 ho_G_19 hP hS => ?_)
  have hc_20 : G_19 69 = .inr (5, [.ref (adw_15 70), .ref (adw_15 86), .ref (adw_15 90), .null, .null, .null, .null, .null, .int (nI 0)]) := hg_G_19
  have hfr_21 : ∀ j, j < 69 → G_19 j = G j := fun j hj => (ho_G_19 j (by omega)).trans (hfr_18 j hj)
  refine lv_aload_n hx hb dX3_init_38 rfl (lv_at hl 0 rfl) ?_
  refine lv_bipush (v := nI 6) hx hb dX3_init_39 (by decide) ?_
  refine g_new1 (atype := .int) (ty := .int) (t0 := 1) (N := 6) (z := (6, .inl (fun j => nI ((fun _ => 0) j)))) hx hb (hw _ wo_arrayClass_t1_67) rfl (hN.1 _ (List.mem_of_getElem? (i := 1) rfl)) hP hDw_15 hS hA (by omega) (fun _ => rfl) (Nat.le_of_ble_eq_true rfl) (Nat.le_of_ble_eq_true rfl) (Nat.le_of_ble_eq_true rfl) dX3_init_41 (fun adw_22 Gww_22 H hadw_22 hgw_22 how_22 hDw_22 hP hS => ?_)
  have hc_23 : Gww_22 69 = .inr (5, [.ref (adw_22 70), .ref (adw_22 86), .ref (adw_22 90), .null, .null, .null, .null, .null, .int (nI 0)]) := ((how_22 _ (by omega)).trans hc_20).trans (by rw [hadw_22 70 (by omega), hadw_22 86 (by omega), hadw_22 90 (by omega)])
  rw [← hadw_22 69 (by omega)] at hl
  rw [← hadw_22 69 (by omega)]
  have hads_24 : ∀ j, j < 70 → adw_22 j = ad j := fun j hj => (hadw_22 j (by omega)).trans (hads_17 j hj)
  have hfr_25 : ∀ j, j < 69 → Gww_22 j = G j := fun j hj => (how_22 j (by omega)).trans (hfr_21 j hj)
  refine g_putF (C := RX3) (T := TX3) (N := 9) hx hb hw inX3 tyX3 tyX3_ok nmX3 hown hK hP hDw_22 hS (i := 69) (by omega) hc_23 rfl 3 (by decide) (hw _ wf_X3_24) rfl hname rfl (tyX3_ok 3 (by decide)) rfl rfl (Nat.le_of_ble_eq_true rfl) dX3_init_43 (fun G_26 H locs hg_G_26 ho_G_26 hP hS => ?_)
  have hc_27 : G_26 69 = .inr (5, [.ref (adw_22 70), .ref (adw_22 86), .ref (adw_22 90), .ref (adw_22 97), .null, .null, .null, .null, .int (nI 0)]) := hg_G_26
  have hc_28 : G_26 97 = aI cT 6 (fun _ => 0) := (ho_G_26 _ (by omega)).trans hgw_22
  have hfr_29 : ∀ j, j < 69 → G_26 j = G j := fun j hj => (ho_G_26 j (by omega)).trans (hfr_25 j hj)
  refine lv_aload_n hx hb dX3_init_46 rfl (lv_at hl 0 rfl) ?_
  refine lv_bipush (v := nI 6) hx hb dX3_init_47 (by decide) ?_
  refine g_new1 (atype := .boolean) (ty := .boolean) (t0 := 3) (N := 6) (z := (6, .inl (fun j => nI ((fun _ => 0) j)))) hx hb (hw _ wo_arrayClass_t3_214) rfl (hN.1 _ (List.mem_of_getElem? (i := 3) rfl)) hP hDw_22 hS hA (by omega) (fun _ => rfl) (Nat.le_of_ble_eq_true rfl) (Nat.le_of_ble_eq_true rfl) (Nat.le_of_ble_eq_true rfl) dX3_init_49 (fun adw_30 Gww_30 H hadw_30 hgw_30 how_30 hDw_30 hP hS => ?_)
  have hc_31 : Gww_30 69 = .inr (5, [.ref (adw_30 70), .ref (adw_30 86), .ref (adw_30 90), .ref (adw_30 97), .null, .null, .null, .null, .int (nI 0)]) := ((how_30 _ (by omega)).trans hc_27).trans (by rw [hadw_30 70 (by omega), hadw_30 86 (by omega), hadw_30 90 (by omega), hadw_30 97 (by omega)])
  have hc_32 : Gww_30 97 = aI cT 6 (fun _ => 0) := ((how_30 _ (by omega)).trans hc_28).trans rfl
  rw [← hadw_30 69 (by omega)] at hl
  rw [← hadw_30 69 (by omega)]
  have hads_33 : ∀ j, j < 70 → adw_30 j = ad j := fun j hj => (hadw_30 j (by omega)).trans (hads_24 j hj)
  have hfr_34 : ∀ j, j < 69 → Gww_30 j = G j := fun j hj => (how_30 j (by omega)).trans (hfr_29 j hj)
  refine g_putF (C := RX3) (T := TX3) (N := 9) hx hb hw inX3 tyX3 tyX3_ok nmX3 hown hK hP hDw_30 hS (i := 69) (by omega) hc_31 rfl 4 (by decide) (hw _ wf_X3_28) rfl hname rfl (tyX3_ok 4 (by decide)) rfl rfl (Nat.le_of_ble_eq_true rfl) dX3_init_51 (fun G_35 H locs hg_G_35 ho_G_35 hP hS => ?_)
  have hc_36 : G_35 69 = .inr (5, [.ref (adw_30 70), .ref (adw_30 86), .ref (adw_30 90), .ref (adw_30 97), .ref (adw_30 98), .null, .null, .null, .int (nI 0)]) := hg_G_35
  have hc_37 : G_35 97 = aI cT 6 (fun _ => 0) := (ho_G_35 _ (by omega)).trans hc_32
  have hc_38 : G_35 98 = aZ cT 6 (fun _ => 0) := (ho_G_35 _ (by omega)).trans hgw_30
  have hfr_39 : ∀ j, j < 69 → G_35 j = G j := fun j hj => (ho_G_35 j (by omega)).trans (hfr_34 j hj)
  refine lv_aload_n hx hb dX3_init_54 rfl (lv_at hl 0 rfl) ?_
  refine lv_bipush (v := nI 6) hx hb dX3_init_55 (by decide) ?_
  refine lv_sipush (v := nI 128) hx hb dX3_init_57 (by decide) ?_
  refine g_multi2 (ty := .char) (t0 := 2) (t1 := 9) (N := 6) (M := 128) (z := (128, .inl (fun j => nI (z0 j)))) hx hb hown (hw _ wcl_X3_32) (hN.2 _ (List.mem_of_getElem? (i := 5) rfl)) (hN.1 _ (List.mem_of_getElem? (i := 2) rfl)) (hN.1 _ (List.mem_of_getElem? (i := 9) rfl)) rfl hK rfl hP hDw_30 hS hA (by omega) (by omega) (Nat.le_of_ble_eq_true rfl) rfl rfl (fun _ => rfl) (Nat.le_of_ble_eq_true rfl) (Nat.le_of_ble_eq_true rfl) dX3_init_60 (fun adw_40 Gww_40 H locs hadw_40 how_40 hgtw_40 hglw_40 hDw_40 hP hS => ?_)
  have hc_41 : Gww_40 69 = .inr (5, [.ref (adw_40 70), .ref (adw_40 86), .ref (adw_40 90), .ref (adw_40 97), .ref (adw_40 98), .null, .null, .null, .int (nI 0)]) := ((how_40 _ (by omega)).trans hc_36).trans (by rw [hadw_40 70 (by omega), hadw_40 86 (by omega), hadw_40 90 (by omega), hadw_40 97 (by omega), hadw_40 98 (by omega)])
  have hc_42 : Gww_40 97 = aI cT 6 (fun _ => 0) := ((how_40 _ (by omega)).trans hc_37).trans rfl
  have hc_43 : Gww_40 98 = aZ cT 6 (fun _ => 0) := ((how_40 _ (by omega)).trans hc_38).trans rfl
  rw [← hadw_40 69 (by omega)] at hl
  rw [← hadw_40 69 (by omega)]
  have hads_44 : ∀ j, j < 70 → adw_40 j = ad j := fun j hj => (hadw_40 j (by omega)).trans (hads_33 j hj)
  have hfr_45 : ∀ j, j < 69 → Gww_40 j = G j := fun j hj => (how_40 j (by omega)).trans (hfr_39 j hj)
  refine g_putF (C := RX3) (T := TX3) (N := 9) hx hb hw inX3 tyX3 tyX3_ok nmX3 hown hK hP hDw_40 hS (i := 69) (by omega) hc_41 rfl 5 (by decide) (hw _ wf_X3_34) rfl hname rfl (tyX3_ok 5 (by decide)) rfl rfl (Nat.le_of_ble_eq_true rfl) dX3_init_64 (fun G_46 H locs hg_G_46 ho_G_46 hP hS => ?_)
  have hc_47 : G_46 69 = .inr (5, [.ref (adw_40 70), .ref (adw_40 86), .ref (adw_40 90), .ref (adw_40 97), .ref (adw_40 98), .ref (adw_40 99), .null, .null, .int (nI 0)]) := hg_G_46
  have hc_48 : G_46 97 = aI cT 6 (fun _ => 0) := (ho_G_46 _ (by omega)).trans hc_42
  have hc_49 : G_46 98 = aZ cT 6 (fun _ => 0) := (ho_G_46 _ (by omega)).trans hc_43
  have hfr_50 : ∀ j, j < 69 → G_46 j = G j := fun j hj => (ho_G_46 j (by omega)).trans (hfr_45 j hj)
  refine lv_aload_n hx hb dX3_init_67 rfl (lv_at hl 0 rfl) ?_
  refine lv_bipush (v := nI 6) hx hb dX3_init_68 (by decide) ?_
  refine lv_sipush (v := nI 128) hx hb dX3_init_70 (by decide) ?_
  refine g_multi2 (ty := .int) (t0 := 1) (t1 := 8) (N := 6) (M := 128) (z := (128, .inl (fun j => nI (z0 j)))) hx hb hown (hw _ wcl_X3_14) (hN.2 _ (List.mem_of_getElem? (i := 4) rfl)) (hN.1 _ (List.mem_of_getElem? (i := 1) rfl)) (hN.1 _ (List.mem_of_getElem? (i := 8) rfl)) rfl hK rfl hP hDw_40 hS hA (by omega) (by omega) (Nat.le_of_ble_eq_true rfl) rfl rfl (fun _ => rfl) (Nat.le_of_ble_eq_true rfl) (Nat.le_of_ble_eq_true rfl) dX3_init_73 (fun adw_51 Gww_51 H locs hadw_51 how_51 hgtw_51 hglw_51 hDw_51 hP hS => ?_)
  have hc_52 : Gww_51 69 = .inr (5, [.ref (adw_51 70), .ref (adw_51 86), .ref (adw_51 90), .ref (adw_51 97), .ref (adw_51 98), .ref (adw_51 99), .null, .null, .int (nI 0)]) := ((how_51 _ (by omega)).trans hc_47).trans (by rw [hadw_51 70 (by omega), hadw_51 86 (by omega), hadw_51 90 (by omega), hadw_51 97 (by omega), hadw_51 98 (by omega), hadw_51 99 (by omega)])
  have hc_53 : Gww_51 97 = aI cT 6 (fun _ => 0) := ((how_51 _ (by omega)).trans hc_48).trans rfl
  have hc_54 : Gww_51 98 = aZ cT 6 (fun _ => 0) := ((how_51 _ (by omega)).trans hc_49).trans rfl
  rw [← hadw_51 69 (by omega)] at hl
  rw [← hadw_51 69 (by omega)]
  have hads_55 : ∀ j, j < 70 → adw_51 j = ad j := fun j hj => (hadw_51 j (by omega)).trans (hads_44 j hj)
  have hfr_56 : ∀ j, j < 69 → Gww_51 j = G j := fun j hj => (how_51 j (by omega)).trans (hfr_50 j hj)
  refine g_putF (C := RX3) (T := TX3) (N := 9) hx hb hw inX3 tyX3 tyX3_ok nmX3 hown hK hP hDw_51 hS (i := 69) (by omega) hc_52 rfl 6 (by decide) (hw _ wf_X3_37) rfl hname rfl (tyX3_ok 6 (by decide)) rfl rfl (Nat.le_of_ble_eq_true rfl) dX3_init_77 (fun G_57 H locs hg_G_57 ho_G_57 hP hS => ?_)
  have hc_58 : G_57 69 = .inr (5, [.ref (adw_51 70), .ref (adw_51 86), .ref (adw_51 90), .ref (adw_51 97), .ref (adw_51 98), .ref (adw_51 99), .ref (adw_51 106), .null, .int (nI 0)]) := hg_G_57
  have hc_59 : G_57 97 = aI cT 6 (fun _ => 0) := (ho_G_57 _ (by omega)).trans hc_53
  have hc_60 : G_57 98 = aZ cT 6 (fun _ => 0) := (ho_G_57 _ (by omega)).trans hc_54
  have hfr_61 : ∀ j, j < 69 → G_57 j = G j := fun j hj => (ho_G_57 j (by omega)).trans (hfr_56 j hj)
  refine lv_aload_n hx hb dX3_init_80 rfl (lv_at hl 0 rfl) ?_
  refine lv_bipush (v := nI 6) hx hb dX3_init_81 (by decide) ?_
  refine g_new1 (atype := .int) (ty := .int) (t0 := 1) (N := 6) (z := (6, .inl (fun j => nI ((fun _ => 0) j)))) hx hb (hw _ wo_arrayClass_t1_67) rfl (hN.1 _ (List.mem_of_getElem? (i := 1) rfl)) hP hDw_51 hS hA (by omega) (fun _ => rfl) (Nat.le_of_ble_eq_true rfl) (Nat.le_of_ble_eq_true rfl) (Nat.le_of_ble_eq_true rfl) dX3_init_83 (fun adw_62 Gww_62 H hadw_62 hgw_62 how_62 hDw_62 hP hS => ?_)
  have hc_63 : Gww_62 69 = .inr (5, [.ref (adw_62 70), .ref (adw_62 86), .ref (adw_62 90), .ref (adw_62 97), .ref (adw_62 98), .ref (adw_62 99), .ref (adw_62 106), .null, .int (nI 0)]) := ((how_62 _ (by omega)).trans hc_58).trans (by rw [hadw_62 70 (by omega), hadw_62 86 (by omega), hadw_62 90 (by omega), hadw_62 97 (by omega), hadw_62 98 (by omega), hadw_62 99 (by omega), hadw_62 106 (by omega)])
  have hc_64 : Gww_62 97 = aI cT 6 (fun _ => 0) := ((how_62 _ (by omega)).trans hc_59).trans rfl
  have hc_65 : Gww_62 98 = aZ cT 6 (fun _ => 0) := ((how_62 _ (by omega)).trans hc_60).trans rfl
  rw [← hadw_62 69 (by omega)] at hl
  rw [← hadw_62 69 (by omega)]
  have hads_66 : ∀ j, j < 70 → adw_62 j = ad j := fun j hj => (hadw_62 j (by omega)).trans (hads_55 j hj)
  have hfr_67 : ∀ j, j < 69 → Gww_62 j = G j := fun j hj => (how_62 j (by omega)).trans (hfr_61 j hj)
  refine g_putF (C := RX3) (T := TX3) (N := 9) hx hb hw inX3 tyX3 tyX3_ok nmX3 hown hK hP hDw_62 hS (i := 69) (by omega) hc_63 rfl 7 (by decide) (hw _ wf_X3_40) rfl hname rfl (tyX3_ok 7 (by decide)) rfl rfl (Nat.le_of_ble_eq_true rfl) dX3_init_85 (fun G_68 H locs hg_G_68 ho_G_68 hP hS => ?_)
  have hc_69 : G_68 69 = .inr (5, [.ref (adw_62 70), .ref (adw_62 86), .ref (adw_62 90), .ref (adw_62 97), .ref (adw_62 98), .ref (adw_62 99), .ref (adw_62 106), .ref (adw_62 113), .int (nI 0)]) := hg_G_68
  have hc_70 : G_68 97 = aI cT 6 (fun _ => 0) := (ho_G_68 _ (by omega)).trans hc_64
  have hc_71 : G_68 98 = aZ cT 6 (fun _ => 0) := (ho_G_68 _ (by omega)).trans hc_65
  have hc_72 : G_68 113 = aI cT 6 (fun _ => 0) := (ho_G_68 _ (by omega)).trans hgw_62
  have hfr_73 : ∀ j, j < 69 → G_68 j = G j := fun j hj => (ho_G_68 j (by omega)).trans (hfr_67 j hj)
  have e70 : G_68 70 = aQ (cT 10) 3 (q3 adw_62) := (((ho_G_68 _ (by omega)).trans ((how_62 _ (by omega)).trans ((ho_G_57 _ (by omega)).trans ((how_51 _ (by omega)).trans ((ho_G_46 _ (by omega)).trans ((how_40 _ (by omega)).trans ((ho_G_35 _ (by omega)).trans ((how_30 _ (by omega)).trans ((ho_G_26 _ (by omega)).trans ((how_22 _ (by omega)).trans ((ho_G_19 _ (by omega)).trans ((how_15 _ (by omega)).trans ((ho_G_12 _ (by omega)).trans ((how_8 _ (by omega)).trans ((ho_G_5 _ (by omega)).trans (rfl)))))))))))))))).trans (hgtw_1.trans (fQ_eq (n := 0) (fun j hj => (((hadw_62 _ (by omega)).trans ((hadw_51 _ (by omega)).trans ((hadw_40 _ (by omega)).trans ((hadw_30 _ (by omega)).trans ((hadw_22 _ (by omega)).trans ((hadw_15 _ (by omega)).trans ((hadw_8 _ (by omega)).trans (rfl))))))))).symm))))
  have e71 : ∀ q, q < 3 → G_68 (71 + 5 * q) = aQ (cT 7) 4 (q4 adw_62 q) := fun q hq => ((ho_G_68 _ (by omega)).trans ((how_62 _ (by omega)).trans ((ho_G_57 _ (by omega)).trans ((how_51 _ (by omega)).trans ((ho_G_46 _ (by omega)).trans ((how_40 _ (by omega)).trans ((ho_G_35 _ (by omega)).trans ((how_30 _ (by omega)).trans ((ho_G_26 _ (by omega)).trans ((how_22 _ (by omega)).trans ((ho_G_19 _ (by omega)).trans ((how_15 _ (by omega)).trans ((ho_G_12 _ (by omega)).trans ((how_8 _ (by omega)).trans ((ho_G_5 _ (by omega)).trans (rfl)))))))))))))))).trans ((hgmw_1 q hq).trans (fQ_eq (n := 0) (fun j hj => (((hadw_62 _ (by omega)).trans ((hadw_51 _ (by omega)).trans ((hadw_40 _ (by omega)).trans ((hadw_30 _ (by omega)).trans ((hadw_22 _ (by omega)).trans ((hadw_15 _ (by omega)).trans ((hadw_8 _ (by omega)).trans (rfl))))))))).symm)))
  have e72 : ∀ q, q < 3 → ∀ ro, ro < 4 → G_68 (72 + 5 * q + ro) = aJ cT 48 zl := fun q hq ro hro => ((ho_G_68 _ (by omega)).trans ((how_62 _ (by omega)).trans ((ho_G_57 _ (by omega)).trans ((how_51 _ (by omega)).trans ((ho_G_46 _ (by omega)).trans ((how_40 _ (by omega)).trans ((ho_G_35 _ (by omega)).trans ((how_30 _ (by omega)).trans ((ho_G_26 _ (by omega)).trans ((how_22 _ (by omega)).trans ((ho_G_19 _ (by omega)).trans ((how_15 _ (by omega)).trans ((ho_G_12 _ (by omega)).trans ((how_8 _ (by omega)).trans ((ho_G_5 _ (by omega)).trans (rfl)))))))))))))))).trans (hglw_1 q hq ro hro)
  have e86 : G_68 86 = aQ (cT 8) 3 (qS adw_62) := (((ho_G_68 _ (by omega)).trans ((how_62 _ (by omega)).trans ((ho_G_57 _ (by omega)).trans ((how_51 _ (by omega)).trans ((ho_G_46 _ (by omega)).trans ((how_40 _ (by omega)).trans ((ho_G_35 _ (by omega)).trans ((how_30 _ (by omega)).trans ((ho_G_26 _ (by omega)).trans ((how_22 _ (by omega)).trans ((ho_G_19 _ (by omega)).trans ((how_15 _ (by omega)).trans ((ho_G_12 _ (by omega)).trans (rfl)))))))))))))).trans (hgtw_8.trans (fQ_eq (n := 0) (fun j hj => (((hadw_62 _ (by omega)).trans ((hadw_51 _ (by omega)).trans ((hadw_40 _ (by omega)).trans ((hadw_30 _ (by omega)).trans ((hadw_22 _ (by omega)).trans ((hadw_15 _ (by omega)).trans (rfl)))))))).symm))))
  have f86 : ∀ b, b < 3 → G_68 (87 + b) = aI cT 4 z0 := (fun b hb => ((ho_G_68 _ (by omega)).trans ((how_62 _ (by omega)).trans ((ho_G_57 _ (by omega)).trans ((how_51 _ (by omega)).trans ((ho_G_46 _ (by omega)).trans ((how_40 _ (by omega)).trans ((ho_G_35 _ (by omega)).trans ((how_30 _ (by omega)).trans ((ho_G_26 _ (by omega)).trans ((how_22 _ (by omega)).trans ((ho_G_19 _ (by omega)).trans ((how_15 _ (by omega)).trans ((ho_G_12 _ (by omega)).trans (rfl)))))))))))))).trans (hglw_8 b hb))
  have e90 : G_68 90 = aQ (cT 7) 6 (qP adw_62) := (((ho_G_68 _ (by omega)).trans ((how_62 _ (by omega)).trans ((ho_G_57 _ (by omega)).trans ((how_51 _ (by omega)).trans ((ho_G_46 _ (by omega)).trans ((how_40 _ (by omega)).trans ((ho_G_35 _ (by omega)).trans ((how_30 _ (by omega)).trans ((ho_G_26 _ (by omega)).trans ((how_22 _ (by omega)).trans ((ho_G_19 _ (by omega)).trans (rfl)))))))))))).trans (hgtw_15.trans (fQ_eq (n := 0) (fun j hj => (((hadw_62 _ (by omega)).trans ((hadw_51 _ (by omega)).trans ((hadw_40 _ (by omega)).trans ((hadw_30 _ (by omega)).trans ((hadw_22 _ (by omega)).trans (rfl))))))).symm))))
  have f90 : ∀ b, b < 6 → G_68 (91 + b) = aJ cT 48 zl := (fun b hb => ((ho_G_68 _ (by omega)).trans ((how_62 _ (by omega)).trans ((ho_G_57 _ (by omega)).trans ((how_51 _ (by omega)).trans ((ho_G_46 _ (by omega)).trans ((how_40 _ (by omega)).trans ((ho_G_35 _ (by omega)).trans ((how_30 _ (by omega)).trans ((ho_G_26 _ (by omega)).trans ((how_22 _ (by omega)).trans ((ho_G_19 _ (by omega)).trans (rfl)))))))))))).trans (hglw_15 b hb))
  have e99 : G_68 99 = aQ (cT 9) 6 (qK adw_62) := (((ho_G_68 _ (by omega)).trans ((how_62 _ (by omega)).trans ((ho_G_57 _ (by omega)).trans ((how_51 _ (by omega)).trans ((ho_G_46 _ (by omega)).trans (rfl)))))).trans (hgtw_40.trans (fQ_eq (n := 0) (fun j hj => (((hadw_62 _ (by omega)).trans ((hadw_51 _ (by omega)).trans (rfl)))).symm))))
  have f99 : ∀ b, b < 6 → G_68 (100 + b) = aC cT 128 z0 := (fun b hb => ((ho_G_68 _ (by omega)).trans ((how_62 _ (by omega)).trans ((ho_G_57 _ (by omega)).trans ((how_51 _ (by omega)).trans ((ho_G_46 _ (by omega)).trans (rfl)))))).trans (hglw_40 b hb))
  have e106 : G_68 106 = aQ (cT 8) 6 (qL adw_62) := (((ho_G_68 _ (by omega)).trans ((how_62 _ (by omega)).trans ((ho_G_57 _ (by omega)).trans (rfl)))).trans (hgtw_51.trans (fQ_eq (n := 0) (fun j hj => (((hadw_62 _ (by omega)).trans (rfl))).symm))))
  have f106 : ∀ b, b < 6 → G_68 (107 + b) = aI cT 128 z0 := (fun b hb => ((ho_G_68 _ (by omega)).trans ((how_62 _ (by omega)).trans ((ho_G_57 _ (by omega)).trans (rfl)))).trans (hglw_51 b hb))
  have hMC : MC cT adw_62 G_68 0 (fun _ _ => zl) (fun _ => z0) (fun _ => zl) z0 z0 (fun _ => z0) (fun _ => z0) z0 := ⟨hc_69, e70, e71, e72, e86, f86, e90, f90, hc_70, hc_71, e99, f99, e106, f106, hc_72, fun _ _ _ => (by show 0 < 65536; omega), fun _ _ _ => (by show 0 < 2 ^ 31; omega)⟩
  exact g_retC hQ hx hb hr hlocks (hads_66) hDw_62 hP hS ⟨⟨_, _, _, _, _, _, _, _, hMC, fun _ _ _ _ => ⟨rfl, fun _ hk => absurd hk (Nat.not_lt_zero _)⟩, fun _ _ => ⟨rfl, rfl, rfl, fun _ hk => absurd hk (Nat.not_lt_zero _), fun _ hk => absurd hk (Nat.not_lt_zero _)⟩⟩, hfr_73⟩ (Nat.le_of_ble_eq_true rfl) (Nat.le_of_ble_eq_true rfl) dX3_init_88
