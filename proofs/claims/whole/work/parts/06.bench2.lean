set_option maxHeartbeats 4000000 in
set_option maxRecDepth 100000 in
theorem mX0_makeRoom (l : Launch) (D : va_G) (cT : Nat → ClassId) (n : Nat) (ad : Nat → Nat) (A : Nat → Prop) (hD : ∀ G, va_D A (gw n ad G)) (G : Nat → va_E) (k sz cn bx : Nat) (pt : Nat → Int64) (w : Nat → Nat) (nu : Nat → Int64) (ne en : Nat → Nat) (hk : k + 6 ≤ n) (hR : RB cT ad G k sz cn bx pt w nu ne en) (i q : Nat) (hi : i ≤ cn) (hq : cn + q ≤ 96) : Met l yX0_makeRoom (wA yX0_makeRoom cX0_makeRoom 4 (some .boolean)) ({ frames := 1, cells := 0, slots := 0, locals := 40 } : Room) (PG D cT n ad A G [.ref (ad k), .int (nI i), .int (nI q)]) (QG D n ad A (fun v G1 => v = some (.int (nI 1)) ∧ (∀ j, (j < k ∨ k + 6 ≤ j) → G1 j = G j) ∧ RB cT ad G1 k sz (cn + q) bx pt (va_cpy w w i (i + q) (cn - i)) (va_cpy nu nu i (i + q) (cn - i)) (va_cpy ne ne i (i + q) (cn - i)) (va_cpy en en i (i + q) (cn - i)))) 0 0 A := by
  refine Met.ofG (cc := cX0_makeRoom) (maxL := 4) (ret := (some .boolean)) (by decide) (Nat.le_of_ble_eq_true rfl) ?_
  intro p e s m args below meth c Q hQ hx hb hr hml hlocks hown hw hP hK hE hA hS ls hl
  have hl : lv_has ls 4 [(0, .ref (ad k)), (1, .int (nI i)), (2, .int (nI q))] := hl
  obtain ⟨hB, hB1, hB2, hB3, hB4, hB5, hB6, hB7, hB8⟩ := hR
  refine lv_aload_n hx hb dX0_makeRoom_0 rfl (lv_at hl 0 rfl) ?_
  refine g_get (C := RX0) (T := TX0) (N := 8) hx hb hw inX0 hown hK hP (i := k) (by omega) hB rfl 7 (by decide) (hw _ wf_X0_46) rfl dX0_makeRoom_1 ?_
  refine lv_iload_n hx hb dX0_makeRoom_4 rfl (lv_at hl 1 rfl) ?_
  refine lv_isub hx hb dX0_makeRoom_5 ?_
  refine t_eqi (nI (cn - i)) (pk_sub (by omega)) ?_
  refine lv_istore_n (lv' := [(3, .int (nI (cn - i))), (0, .ref (ad k)), (1, .int (nI i)), (2, .int (nI q))]) hx hb dX0_makeRoom_6 rfl hl (by decide) rfl (fun ls hl => ?_)
  refine lv_iload_n hx hb dX0_makeRoom_7 rfl (lv_at hl 2 rfl) ?_
  refine t_if_lt (tgt := 30) hx hb dX0_makeRoom_8 (by decide) (by omega) ?_
  refine lv_iload_n hx hb dX0_makeRoom_11 rfl (lv_at hl 3 rfl) ?_
  refine t_if_lt (tgt := 30) hx hb dX0_makeRoom_12 (by decide) (by omega) ?_
  refine lv_iload_n hx hb dX0_makeRoom_15 rfl (lv_at hl 0 rfl) ?_
  refine t_if_lt (tgt := 30) hx hb dX0_makeRoom_16 (by decide) (by omega) ?_
  refine lv_aload_n hx hb dX0_makeRoom_19 rfl (lv_at hl 1 rfl) ?_
  refine g_get (C := RX0) (T := TX0) (N := 8) hx hb hw inX0 hown hK hP (i := k) (by omega) hB rfl 7 (by decide) (hw _ wf_X0_46) rfl dX0_makeRoom_20 ?_
  refine lv_iload_n hx hb dX0_makeRoom_23 rfl (lv_at hl 3 rfl) ?_
  refine lv_iadd hx hb dX0_makeRoom_24 ?_
  refine t_eqi (nI (cn + q)) (nI_add cn q) ?_
  refine lv_bipush (v := nI 96) hx hb dX0_makeRoom_25 (by decide) ?_
  refine t_icmp_le (tgt := 32) hx hb dX0_makeRoom_27 (by decide) (by omega) (by omega) (fun c_4 => ?_) (fun c_4 => ?_)
  · skip
    refine lv_aload_n hx hb dX0_makeRoom_32 rfl (lv_at hl 1 rfl) ?_
    refine g_get (C := RX0) (T := TX0) (N := 8) hx hb hw inX0 hown hK hP (i := k) (by omega) hB rfl 3 (by decide) (hw _ wf_X0_15) rfl dX0_makeRoom_33 ?_
    refine lv_iload_n hx hb dX0_makeRoom_36 rfl (lv_at hl 2 rfl) ?_
    refine lv_aload_n hx hb dX0_makeRoom_37 rfl (lv_at hl 1 rfl) ?_
    refine g_get (C := RX0) (T := TX0) (N := 8) hx hb hw inX0 hown hK hP (i := k) (by omega) hB rfl 3 (by decide) (hw _ wf_X0_15) rfl dX0_makeRoom_38 ?_
    refine lv_iload_n hx hb dX0_makeRoom_41 rfl (lv_at hl 2 rfl) ?_
    refine lv_iload_n hx hb dX0_makeRoom_42 rfl (lv_at hl 3 rfl) ?_
    refine lv_iadd hx hb dX0_makeRoom_43 ?_
    refine t_eqi (nI (i + q)) (nI_add i q) ?_
    refine lv_iload_n hx hb dX0_makeRoom_44 rfl (lv_at hl 0 rfl) ?_
    have hbd_6 := cpy_lt hB6 (sp := i) (dp := (i + q)) (k := (cn - i))
    refine g_copyi hx hb (hml.trans hl.1.symm) hown (hw _ wm_X0_103) (hw _ wnat_arraycopy) (hw _ wst_arraycopy) (hw _ wini_J10) hK hP hD hS (i := (k + 2)) (by omega) hB2 (sp := i) (dp := (i + q)) (k := (cn - i)) (by omega) (by omega) (by omega) (Nat.le_of_ble_eq_true rfl) (Nat.le_of_ble_eq_true rfl) dX0_makeRoom_45 (fun G_5 H locs hg_G_5 ho_G_5 hP hS => ?_)
    have hc_7 : G_5 k = .inr (2, [.ref (ad (k + 1)), .int (nI sz), .int (nI bx), .ref (ad (k + 2)), .ref (ad (k + 3)), .ref (ad (k + 4)), .ref (ad (k + 5)), .int (nI cn)]) := (ho_G_5 _ (by omega)).trans hB
    have hc_8 : G_5 (k + 1) = aJ cT 48 pt := (ho_G_5 _ (by omega)).trans hB1
    have hc_9 : G_5 (k + 2) = aI cT 96 (va_cpy w w i (i + q) (cn - i)) := hg_G_5
    have hc_10 : G_5 (k + 3) = aJ cT 96 nu := (ho_G_5 _ (by omega)).trans hB3
    have hc_11 : G_5 (k + 4) = aI cT 96 ne := (ho_G_5 _ (by omega)).trans hB4
    have hc_12 : G_5 (k + 5) = aI cT 96 en := (ho_G_5 _ (by omega)).trans hB5
    have hfr_13 : ∀ j, (j < k ∨ k + 6 ≤ j) → G_5 j = G j := fun j hj => (ho_G_5 j (by omega)).trans (rfl)
    refine lv_aload_n hx hb dX0_makeRoom_48 rfl (lv_at hl 1 rfl) ?_
    refine g_get (C := RX0) (T := TX0) (N := 8) hx hb hw inX0 hown hK hP (i := k) (by omega) hc_7 rfl 4 (by decide) (hw _ wf_X0_19) rfl dX0_makeRoom_49 ?_
    refine lv_iload_n hx hb dX0_makeRoom_52 rfl (lv_at hl 2 rfl) ?_
    refine lv_aload_n hx hb dX0_makeRoom_53 rfl (lv_at hl 1 rfl) ?_
    refine g_get (C := RX0) (T := TX0) (N := 8) hx hb hw inX0 hown hK hP (i := k) (by omega) hc_7 rfl 4 (by decide) (hw _ wf_X0_19) rfl dX0_makeRoom_54 ?_
    refine lv_iload_n hx hb dX0_makeRoom_57 rfl (lv_at hl 2 rfl) ?_
    refine lv_iload_n hx hb dX0_makeRoom_58 rfl (lv_at hl 3 rfl) ?_
    refine lv_iadd hx hb dX0_makeRoom_59 ?_
    refine t_eqi (nI (i + q)) (nI_add i q) ?_
    refine lv_iload_n hx hb dX0_makeRoom_60 rfl (lv_at hl 0 rfl) ?_
    refine g_copyl hx hb (hml.trans hl.1.symm) hown (hw _ wm_X0_103) (hw _ wnat_arraycopy) (hw _ wst_arraycopy) (hw _ wini_J10) hK hP hD hS (i := (k + 3)) (by omega) hc_10 (sp := i) (dp := (i + q)) (k := (cn - i)) (by omega) (by omega) (by omega) (Nat.le_of_ble_eq_true rfl) (Nat.le_of_ble_eq_true rfl) dX0_makeRoom_61 (fun G_14 H locs hg_G_14 ho_G_14 hP hS => ?_)
    have hc_15 : G_14 k = .inr (2, [.ref (ad (k + 1)), .int (nI sz), .int (nI bx), .ref (ad (k + 2)), .ref (ad (k + 3)), .ref (ad (k + 4)), .ref (ad (k + 5)), .int (nI cn)]) := (ho_G_14 _ (by omega)).trans hc_7
    have hc_16 : G_14 (k + 1) = aJ cT 48 pt := (ho_G_14 _ (by omega)).trans hc_8
    have hc_17 : G_14 (k + 2) = aI cT 96 (va_cpy w w i (i + q) (cn - i)) := (ho_G_14 _ (by omega)).trans hc_9
    have hc_18 : G_14 (k + 3) = aJ cT 96 (va_cpy nu nu i (i + q) (cn - i)) := hg_G_14
    have hc_19 : G_14 (k + 4) = aI cT 96 ne := (ho_G_14 _ (by omega)).trans hc_11
    have hc_20 : G_14 (k + 5) = aI cT 96 en := (ho_G_14 _ (by omega)).trans hc_12
    have hfr_21 : ∀ j, (j < k ∨ k + 6 ≤ j) → G_14 j = G j := fun j hj => (ho_G_14 j (by omega)).trans (hfr_13 j hj)
    refine lv_aload_n hx hb dX0_makeRoom_64 rfl (lv_at hl 1 rfl) ?_
    refine g_get (C := RX0) (T := TX0) (N := 8) hx hb hw inX0 hown hK hP (i := k) (by omega) hc_15 rfl 5 (by decide) (hw _ wf_X0_22) rfl dX0_makeRoom_65 ?_
    refine lv_iload_n hx hb dX0_makeRoom_68 rfl (lv_at hl 2 rfl) ?_
    refine lv_aload_n hx hb dX0_makeRoom_69 rfl (lv_at hl 1 rfl) ?_
    refine g_get (C := RX0) (T := TX0) (N := 8) hx hb hw inX0 hown hK hP (i := k) (by omega) hc_15 rfl 5 (by decide) (hw _ wf_X0_22) rfl dX0_makeRoom_70 ?_
    refine lv_iload_n hx hb dX0_makeRoom_73 rfl (lv_at hl 2 rfl) ?_
    refine lv_iload_n hx hb dX0_makeRoom_74 rfl (lv_at hl 3 rfl) ?_
    refine lv_iadd hx hb dX0_makeRoom_75 ?_
    refine t_eqi (nI (i + q)) (nI_add i q) ?_
    refine lv_iload_n hx hb dX0_makeRoom_76 rfl (lv_at hl 0 rfl) ?_
    have hbd_23 := cpy_lt hB7 (sp := i) (dp := (i + q)) (k := (cn - i))
    refine g_copyi hx hb (hml.trans hl.1.symm) hown (hw _ wm_X0_103) (hw _ wnat_arraycopy) (hw _ wst_arraycopy) (hw _ wini_J10) hK hP hD hS (i := (k + 4)) (by omega) hc_19 (sp := i) (dp := (i + q)) (k := (cn - i)) (by omega) (by omega) (by omega) (Nat.le_of_ble_eq_true rfl) (Nat.le_of_ble_eq_true rfl) dX0_makeRoom_77 (fun G_22 H locs hg_G_22 ho_G_22 hP hS => ?_)
    have hc_24 : G_22 k = .inr (2, [.ref (ad (k + 1)), .int (nI sz), .int (nI bx), .ref (ad (k + 2)), .ref (ad (k + 3)), .ref (ad (k + 4)), .ref (ad (k + 5)), .int (nI cn)]) := (ho_G_22 _ (by omega)).trans hc_15
    have hc_25 : G_22 (k + 1) = aJ cT 48 pt := (ho_G_22 _ (by omega)).trans hc_16
    have hc_26 : G_22 (k + 2) = aI cT 96 (va_cpy w w i (i + q) (cn - i)) := (ho_G_22 _ (by omega)).trans hc_17
    have hc_27 : G_22 (k + 3) = aJ cT 96 (va_cpy nu nu i (i + q) (cn - i)) := (ho_G_22 _ (by omega)).trans hc_18
    have hc_28 : G_22 (k + 4) = aI cT 96 (va_cpy ne ne i (i + q) (cn - i)) := hg_G_22
    have hc_29 : G_22 (k + 5) = aI cT 96 en := (ho_G_22 _ (by omega)).trans hc_20
    have hfr_30 : ∀ j, (j < k ∨ k + 6 ≤ j) → G_22 j = G j := fun j hj => (ho_G_22 j (by omega)).trans (hfr_21 j hj)
    refine lv_aload_n hx hb dX0_makeRoom_80 rfl (lv_at hl 1 rfl) ?_
    refine g_get (C := RX0) (T := TX0) (N := 8) hx hb hw inX0 hown hK hP (i := k) (by omega) hc_24 rfl 6 (by decide) (hw _ wf_X0_25) rfl dX0_makeRoom_81 ?_
    refine lv_iload_n hx hb dX0_makeRoom_84 rfl (lv_at hl 2 rfl) ?_
    refine lv_aload_n hx hb dX0_makeRoom_85 rfl (lv_at hl 1 rfl) ?_
    refine g_get (C := RX0) (T := TX0) (N := 8) hx hb hw inX0 hown hK hP (i := k) (by omega) hc_24 rfl 6 (by decide) (hw _ wf_X0_25) rfl dX0_makeRoom_86 ?_
    refine lv_iload_n hx hb dX0_makeRoom_89 rfl (lv_at hl 2 rfl) ?_
    refine lv_iload_n hx hb dX0_makeRoom_90 rfl (lv_at hl 3 rfl) ?_
    refine lv_iadd hx hb dX0_makeRoom_91 ?_
    refine t_eqi (nI (i + q)) (nI_add i q) ?_
    refine lv_iload_n hx hb dX0_makeRoom_92 rfl (lv_at hl 0 rfl) ?_
    have hbd_32 := cpy_lt hB8 (sp := i) (dp := (i + q)) (k := (cn - i))
    refine g_copyi hx hb (hml.trans hl.1.symm) hown (hw _ wm_X0_103) (hw _ wnat_arraycopy) (hw _ wst_arraycopy) (hw _ wini_J10) hK hP hD hS (i := (k + 5)) (by omega) hc_29 (sp := i) (dp := (i + q)) (k := (cn - i)) (by omega) (by omega) (by omega) (Nat.le_of_ble_eq_true rfl) (Nat.le_of_ble_eq_true rfl) dX0_makeRoom_93 (fun G_31 H locs hg_G_31 ho_G_31 hP hS => ?_)
    have hc_33 : G_31 k = .inr (2, [.ref (ad (k + 1)), .int (nI sz), .int (nI bx), .ref (ad (k + 2)), .ref (ad (k + 3)), .ref (ad (k + 4)), .ref (ad (k + 5)), .int (nI cn)]) := (ho_G_31 _ (by omega)).trans hc_24
    have hc_34 : G_31 (k + 1) = aJ cT 48 pt := (ho_G_31 _ (by omega)).trans hc_25
    have hc_35 : G_31 (k + 2) = aI cT 96 (va_cpy w w i (i + q) (cn - i)) := (ho_G_31 _ (by omega)).trans hc_26
    have hc_36 : G_31 (k + 3) = aJ cT 96 (va_cpy nu nu i (i + q) (cn - i)) := (ho_G_31 _ (by omega)).trans hc_27
    have hc_37 : G_31 (k + 4) = aI cT 96 (va_cpy ne ne i (i + q) (cn - i)) := (ho_G_31 _ (by omega)).trans hc_28
    have hc_38 : G_31 (k + 5) = aI cT 96 (va_cpy en en i (i + q) (cn - i)) := hg_G_31
    have hfr_39 : ∀ j, (j < k ∨ k + 6 ≤ j) → G_31 j = G j := fun j hj => (ho_G_31 j (by omega)).trans (hfr_30 j hj)
    refine lv_aload_n hx hb dX0_makeRoom_96 rfl (lv_at hl 1 rfl) ?_
    refine lv_dup hx hb dX0_makeRoom_97 rfl ?_
    refine g_get (C := RX0) (T := TX0) (N := 8) hx hb hw inX0 hown hK hP (i := k) (by omega) hc_33 rfl 7 (by decide) (hw _ wf_X0_46) rfl dX0_makeRoom_98 ?_
    refine lv_iload_n hx hb dX0_makeRoom_101 rfl (lv_at hl 3 rfl) ?_
    refine lv_iadd hx hb dX0_makeRoom_102 ?_
    refine t_eqi (nI (cn + q)) (nI_add cn q) ?_
    refine g_put (C := RX0) (T := TX0) (N := 8) hx hb hw inX0 tyX0 tyX0_ok nmX0 hown hK hP hD hS (i := k) (by omega) hc_33 rfl 7 (by decide) (hw _ wf_X0_46) rfl (tyX0_ok 7 (by decide)) rfl rfl (Nat.le_of_ble_eq_true rfl) dX0_makeRoom_103 (fun G_40 H locs hg_G_40 ho_G_40 hP hS => ?_)
    have hc_41 : G_40 k = .inr (2, [.ref (ad (k + 1)), .int (nI sz), .int (nI bx), .ref (ad (k + 2)), .ref (ad (k + 3)), .ref (ad (k + 4)), .ref (ad (k + 5)), .int (nI (cn + q))]) := hg_G_40
    have hc_42 : G_40 (k + 1) = aJ cT 48 pt := (ho_G_40 _ (by omega)).trans hc_34
    have hc_43 : G_40 (k + 2) = aI cT 96 (va_cpy w w i (i + q) (cn - i)) := (ho_G_40 _ (by omega)).trans hc_35
    have hc_44 : G_40 (k + 3) = aJ cT 96 (va_cpy nu nu i (i + q) (cn - i)) := (ho_G_40 _ (by omega)).trans hc_36
    have hc_45 : G_40 (k + 4) = aI cT 96 (va_cpy ne ne i (i + q) (cn - i)) := (ho_G_40 _ (by omega)).trans hc_37
    have hc_46 : G_40 (k + 5) = aI cT 96 (va_cpy en en i (i + q) (cn - i)) := (ho_G_40 _ (by omega)).trans hc_38
    have hfr_47 : ∀ j, (j < k ∨ k + 6 ≤ j) → G_40 j = G j := fun j hj => (ho_G_40 j (by omega)).trans (hfr_39 j hj)
    refine lv_iconst (v := nI 1) hx hb dX0_makeRoom_106 (by decide) ?_
    refine g_ret hQ hx hb hr hlocks rfl hP hS (⟨rfl, hfr_47, hc_41, hc_42, hc_43, hc_44, hc_45, hc_46, hbd_6, hbd_23, hbd_32⟩) (Nat.le_of_ble_eq_true rfl) (Nat.le_of_ble_eq_true rfl) dX0_makeRoom_107
  · exfalso; omega

set_option maxHeartbeats 4000000 in
set_option maxRecDepth 100000 in
theorem mX0_hasAll (l : Launch) (D : va_G) (cT : Nat → ClassId) (n : Nat) (ad : Nat → Nat) (A : Nat → Prop) (hD : ∀ G, va_D A (gw n ad G)) (G : Nat → va_E) (k sz cn bx : Nat) (pt : Nat → Int64) (w : Nat → Nat) (nu : Nat → Int64) (ne en : Nat → Nat) (hk : k + 6 ≤ n) (hR : RB cT ad G k sz cn bx pt w nu ne en) (i a : Nat) (hi : i < 96) (ha0 : 0 < a) (ha1 : a < 65536) (ha : nI 17488 &&& nI a = nI a) : Met l yX0_hasAll (wA yX0_hasAll cX0_hasAll 4 (some .boolean)) ({ frames := 0, cells := 0, slots := 0, locals := 0 } : Room) (PG D cT n ad A G [.ref (ad k), .int (nI i), .int (nI a)]) (QG D n ad A (fun v G1 => v = some (.int (if w i = 112 then 1 else 0)) ∧ G1 = G)) 0 0 A := by
  refine Met.ofG (cc := cX0_hasAll) (maxL := 4) (ret := (some .boolean)) (by decide) (Nat.le_of_ble_eq_true rfl) ?_
  intro p e s m args below meth c Q hQ hx hb hr hml hlocks hown hw hP hK hE hA hS ls hl
  have hl : lv_has ls 4 [(0, .ref (ad k)), (1, .int (nI i)), (2, .int (nI a))] := hl
  obtain ⟨hB, hB1, hB2, hB3, hB4, hB5, hB6, hB7, hB8⟩ := hR
  refine lv_aload_n hx hb dX0_hasAll_0 rfl (lv_at hl 0 rfl) ?_
  refine g_get (C := RX0) (T := TX0) (N := 8) hx hb hw inX0 hown hK hP (i := k) (by omega) hB rfl 3 (by decide) (hw _ wf_X0_15) rfl dX0_hasAll_1 ?_
  refine lv_iload_n hx hb dX0_hasAll_4 rfl (lv_at hl 1 rfl) ?_
  refine g_iald hx hb hK hP (i := (k + 2)) (by omega) hB2 (by omega) (by omega) dX0_hasAll_5 ?_
  have hbd_1 := hB6 i
  refine lv_bipush (v := nI 112) hx hb dX0_hasAll_6 (by decide) ?_
  refine t_icmp_ne (tgt := 17) hx hb dX0_hasAll_8 (by decide) (by omega) (by omega) (fun c_2 => ?_) (fun c_2 => ?_)
  · skip
    refine lv_iconst (v := nI 0) hx hb dX0_hasAll_17 (by decide) ?_
    refine lv_istore_n (lv' := [(3, .int (nI 0)), (0, .ref (ad k)), (1, .int (nI i)), (2, .int (nI a))]) hx hb dX0_hasAll_18 rfl hl (by decide) rfl (fun ls hl => ?_)
    refine lv_iload_n hx hb dX0_hasAll_19 rfl (lv_at hl 0 rfl) ?_
    refine lv_iload_n hx hb dX0_hasAll_20 rfl (lv_at hl 3 rfl) ?_
    refine lv_iand hx hb dX0_hasAll_21 ?_
    refine t_eqi (nI 0) (and0 _) ?_
    refine lv_iload_n hx hb dX0_hasAll_22 rfl (lv_at hl 3 rfl) ?_
    refine t_icmp_ne (tgt := 30) hx hb dX0_hasAll_23 (by decide) (by omega) (by omega) (fun c_3 => ?_) (fun c_3 => ?_)
    · skip
      refine lv_iconst (v := nI 0) hx hb dX0_hasAll_30 (by decide) ?_
      refine g_ret hQ hx hb hr hlocks rfl hP hS (⟨by rw [if_neg (by omega)]; rfl, rfl⟩) (Nat.le_of_ble_eq_true rfl) (Nat.le_of_ble_eq_true rfl) dX0_hasAll_31
    · skip
      refine lv_iconst (v := nI 1) hx hb dX0_hasAll_26 (by decide) ?_
      refine lv_goto (tgt := 31) hx hb dX0_hasAll_27 (by decide) ?_
      refine g_ret hQ hx hb hr hlocks rfl hP hS (⟨by rw [if_pos (by omega)]; rfl, rfl⟩) (Nat.le_of_ble_eq_true rfl) (Nat.le_of_ble_eq_true rfl) dX0_hasAll_31
  · skip
    refine lv_sipush (v := nI 17488) hx hb dX0_hasAll_11 (by decide) ?_
    refine lv_goto (tgt := 18) hx hb dX0_hasAll_14 (by decide) ?_
    refine lv_istore_n (lv' := [(3, .int (nI 17488)), (0, .ref (ad k)), (1, .int (nI i)), (2, .int (nI a))]) hx hb dX0_hasAll_18 rfl hl (by decide) rfl (fun ls hl => ?_)
    refine lv_iload_n hx hb dX0_hasAll_19 rfl (lv_at hl 0 rfl) ?_
    refine lv_iload_n hx hb dX0_hasAll_20 rfl (lv_at hl 3 rfl) ?_
    refine lv_iand hx hb dX0_hasAll_21 ?_
    refine t_eqi (nI a) (ha) ?_
    refine lv_iload_n hx hb dX0_hasAll_22 rfl (lv_at hl 3 rfl) ?_
    refine t_icmp_ne (tgt := 30) hx hb dX0_hasAll_23 (by decide) (by omega) (by omega) (fun c_4 => ?_) (fun c_4 => ?_)
    · skip
      refine lv_iconst (v := nI 0) hx hb dX0_hasAll_30 (by decide) ?_
      refine g_ret hQ hx hb hr hlocks rfl hP hS (⟨by rw [if_neg (by omega)]; rfl, rfl⟩) (Nat.le_of_ble_eq_true rfl) (Nat.le_of_ble_eq_true rfl) dX0_hasAll_31
    · skip
      refine lv_iconst (v := nI 1) hx hb dX0_hasAll_26 (by decide) ?_
      refine lv_goto (tgt := 31) hx hb dX0_hasAll_27 (by decide) ?_
      refine g_ret hQ hx hb hr hlocks rfl hP hS (⟨by rw [if_pos (by omega)]; rfl, rfl⟩) (Nat.le_of_ble_eq_true rfl) (Nat.le_of_ble_eq_true rfl) dX0_hasAll_31

set_option maxHeartbeats 4000000 in
set_option maxRecDepth 100000 in
theorem mX0_isTooLong (l : Launch) (D : va_G) (cT : Nat → ClassId) (n : Nat) (ad : Nat → Nat) (A : Nat → Prop) (hD : ∀ G, va_D A (gw n ad G)) (G : Nat → va_E) (k sz cn bx : Nat) (pt : Nat → Int64) (w : Nat → Nat) (nu : Nat → Int64) (ne en : Nat → Nat) (hk : k + 6 ≤ n) (hR : RB cT ad G k sz cn bx pt w nu ne en) (i q : Nat) (hi : i < 96) (hq : q < 2 ^ 31) (hne : w i ≠ 110 → ne i ≤ en i) : Met l yX0_isTooLong (wA yX0_isTooLong cX0_isTooLong 3 (some .boolean)) ({ frames := 2, cells := 0, slots := 0, locals := 42 } : Room) (PG D cT n ad A G [.ref (ad k), .int (nI i), .int (nI q)]) (QG D n ad A (fun v G1 => v = some (.int (if w i = 112 ∧ q < en i - ne i then 1 else 0)) ∧ G1 = G)) 0 0 A := by
  refine Met.ofG (cc := cX0_isTooLong) (maxL := 3) (ret := (some .boolean)) (by decide) (Nat.le_of_ble_eq_true rfl) ?_
  intro p e s m args below meth c Q hQ hx hb hr hml hlocks hown hw hP hK hE hA hS ls hl
  have hl : lv_has ls 3 [(0, .ref (ad k)), (1, .int (nI i)), (2, .int (nI q))] := hl
  obtain ⟨hB, hB1, hB2, hB3, hB4, hB5, hB6, hB7, hB8⟩ := hR
  refine lv_aload_n hx hb dX0_isTooLong_0 rfl (lv_at hl 0 rfl) ?_
  refine g_get (C := RX0) (T := TX0) (N := 8) hx hb hw inX0 hown hK hP (i := k) (by omega) hB rfl 3 (by decide) (hw _ wf_X0_15) rfl dX0_isTooLong_1 ?_
  refine lv_iload_n hx hb dX0_isTooLong_4 rfl (lv_at hl 1 rfl) ?_
  refine g_iald hx hb hK hP (i := (k + 2)) (by omega) hB2 (by omega) (by omega) dX0_isTooLong_5 ?_
  have hbd_1 := hB6 i
  refine lv_bipush (v := nI 112) hx hb dX0_isTooLong_6 (by decide) ?_
  refine t_icmp_ne (tgt := 24) hx hb dX0_isTooLong_8 (by decide) (by omega) (by omega) (fun c_2 => ?_) (fun c_2 => ?_)
  · skip
    refine lv_iconst (v := nI 0) hx hb dX0_isTooLong_24 (by decide) ?_
    refine g_ret hQ hx hb hr hlocks rfl hP hS (⟨by rw [if_neg (by omega)]; rfl, rfl⟩) (Nat.le_of_ble_eq_true rfl) (Nat.le_of_ble_eq_true rfl) dX0_isTooLong_25
  · skip
    refine lv_aload_n hx hb dX0_isTooLong_11 rfl (lv_at hl 0 rfl) ?_
    refine lv_iload_n hx hb dX0_isTooLong_12 rfl (lv_at hl 1 rfl) ?_
    have hbd_3 := hB8 i
    refine g_callV (As := [.int (nI i)]) (rest := []) ⟨hx, hb, hml, hown, hw⟩ (mX0_remaining l D cT n ad A hD G k sz cn bx pt w nu ne en (by omega) ⟨hB, hB1, hB2, hB3, hB4, hB5, hB6, hB7, hB8⟩ i (by omega) (by omega)) (cwV 1 hw (gWV wm_X0_57 wi_X0_remaining wse_X0_remaining wini_X0 wc_X0_remaining) rfl rfl rfl (by decide +kernel) ⟨Nat.le_of_ble_eq_true rfl, Nat.le_of_ble_eq_true rfl⟩) hK hE hA hP hS (k := k) (by omega) hB rfl rfl hl.1 (lv_room (Nat.le_of_ble_eq_true rfl)) dX0_isTooLong_13 ⟨Nat.le_of_ble_eq_true rfl, Nat.le_of_ble_eq_true rfl⟩ (fun v_5 G_4 H locs hp hP hS => ?_)
    obtain ⟨hv, hg⟩ := hp
    subst hv
    rw [hg] at hP
    refine t_eqi (nI (en i - ne i)) (by rw [if_neg (by omega)]) ?_
    refine lv_iload_n hx hb dX0_isTooLong_16 rfl (lv_at hl 2 rfl) ?_
    refine t_icmp_le (tgt := 24) hx hb dX0_isTooLong_17 (by decide) (by omega) (by omega) (fun c_6 => ?_) (fun c_6 => ?_)
    · skip
      refine lv_iconst (v := nI 0) hx hb dX0_isTooLong_24 (by decide) ?_
      refine g_ret hQ hx hb hr hlocks rfl hP hS (⟨by rw [if_neg (by omega)]; rfl, rfl⟩) (Nat.le_of_ble_eq_true rfl) (Nat.le_of_ble_eq_true rfl) dX0_isTooLong_25
    · skip
      refine lv_iconst (v := nI 1) hx hb dX0_isTooLong_20 (by decide) ?_
      refine lv_goto (tgt := 25) hx hb dX0_isTooLong_21 (by decide) ?_
      refine g_ret hQ hx hb hr hlocks rfl hP hS (⟨by rw [if_pos (by omega)]; rfl, rfl⟩) (Nat.le_of_ble_eq_true rfl) (Nat.le_of_ble_eq_true rfl) dX0_isTooLong_25
