set_option maxHeartbeats 4000000 in
set_option maxRecDepth 100000 in
theorem mX0_removeEmpty (l : Launch) (D : va_G) (cT : Nat → ClassId) (n : Nat) (ad : Nat → Nat) (A : Nat → Prop) (hD : ∀ G, va_D A (gw n ad G)) (G : Nat → va_E) (k sz cn bx : Nat) (pt : Nat → Int64) (K L : Nat → Nat) (hk : k + 6 ≤ n) (hR : BR cT ad G k sz cn bx pt K L) (hI : BI sz cn K L) : Met l yX0_removeEmpty (wA yX0_removeEmpty cX0_removeEmpty 3 (some .int)) ({ frames := 3, cells := 0, slots := 0, locals := 63 } : Room) (PG D cT n ad A G [.ref (ad k)]) (QG D n ad A (fun v G1 => v = some (.int (nI (cn - swk L cn))) ∧ (∀ j, (j < k ∨ k + 6 ≤ j) → G1 j = G j) ∧ BR cT ad G1 k sz (swk L cn) bx pt (swF K L cn) (swF L L cn))) 0 0 A := by
  refine Met.ofG (cc := cX0_removeEmpty) (maxL := 3) (ret := (some .int)) (by decide) (Nat.le_of_ble_eq_true rfl) ?_
  intro p e s m args below meth c Q hQ hx hb hr hml hlocks hown hw hP hK hE hA hS ls hl
  have hl : lv_has ls 3 [(0, .ref (ad k))] := hl
  obtain ⟨p0, w, nu, ne, en, ⟨hB, hB1, hB2, hB3, hB4, hB5, hB6, hB7, hB8⟩, hBL⟩ := hR
  have hcap := BI_cap hI
  have hsz := hI.1
  have hpz := hI.2.1
  refine lv_iconst (v := nI 0) hx hb dX0_removeEmpty_0 (by decide) ?_
  refine lv_istore_n (lv' := [(1, .int (nI 0)), (0, .ref (ad k))]) hx hb dX0_removeEmpty_1 rfl hl (by decide) rfl (fun ls hl => ?_)
  refine lv_iconst (v := nI 0) hx hb dX0_removeEmpty_2 (by decide) ?_
  refine lv_istore_n (lv' := [(2, .int (nI 0)), (1, .int (nI 0)), (0, .ref (ad k))]) hx hb dX0_removeEmpty_3 rfl hl (by decide) rfl (fun ls hl => ?_)
  have key_1 : ∀ (fu : Nat) (i : Nat), (i ≤ cn) → (cn - i) < fu → ∀ (Gl : Nat → va_E) (H : Heap) (locs : List Loc), (∀ j, (j < k ∨ k + 6 ≤ j) → Gl j = G j) → (RB cT ad Gl k sz cn bx p0 (swF w L i) (swF nu L i) (swF ne L i) (swF en L i)) → va_P D vwCl (gw n ad Gl) H → va_S A s.heap H locs → ∀ ls : Array Slot, lv_has ls 3 [(2, .int (nI i)), (1, .int (nI (swk L i))), (0, .ref (ad k))] → W p l e ({ frames := 3, cells := 0, slots := 0, locals := 63 } : Room) s m args below meth c H locs 0 0 Q (F0 m 4 ls []) := by
    intro fu_2
    induction fu_2 with
    | zero => intros; exfalso; omega
    | succ fu_2 ih_3 =>
      intro i hi hfu_4 Gl H locs hfL hRL hP hS ls hl
      obtain ⟨hc, hc1, hc2, hc3, hc4, hc5, hc6, hc7, hc8⟩ := hRL
      have hsk := swk_le L i
      refine lv_iload_n hx hb dX0_removeEmpty_4 rfl (lv_at hl 0 rfl) ?_
      refine lv_aload_n hx hb dX0_removeEmpty_5 rfl (lv_at hl 2 rfl) ?_
      refine g_get (C := RX0) (T := TX0) (N := 8) hx hb hw inX0 hown hK hP (i := k) (by omega) hc rfl 7 (by decide) (hw _ wf_X0_46) rfl dX0_removeEmpty_6 ?_
      refine t_icmp_ge (tgt := 35) hx hb dX0_removeEmpty_9 (by decide) (by omega) (by omega) (fun c_5 => ?_) (fun c_5 => ?_)
      · skip
        have hie : cn = i := by omega
        subst hie
        refine lv_aload_n hx hb dX0_removeEmpty_35 rfl (lv_at hl 2 rfl) ?_
        refine g_get (C := RX0) (T := TX0) (N := 8) hx hb hw inX0 hown hK hP (i := k) (by omega) hc rfl 7 (by decide) (hw _ wf_X0_46) rfl dX0_removeEmpty_36 ?_
        refine lv_iload_n hx hb dX0_removeEmpty_39 rfl (lv_at hl 1 rfl) ?_
        refine lv_isub hx hb dX0_removeEmpty_40 ?_
        refine t_eqi (nI (cn - (swk L cn))) (pk_sub (by omega)) ?_
        refine lv_istore_n (lv' := [(2, .int (nI (cn - (swk L cn)))), (1, .int (nI (swk L cn))), (0, .ref (ad k))]) hx hb dX0_removeEmpty_41 rfl hl (by decide) rfl (fun ls hl => ?_)
        refine lv_aload_n hx hb dX0_removeEmpty_42 rfl (lv_at hl 2 rfl) ?_
        refine lv_iload_n hx hb dX0_removeEmpty_43 rfl (lv_at hl 1 rfl) ?_
        refine g_put (C := RX0) (T := TX0) (N := 8) hx hb hw inX0 tyX0 tyX0_ok nmX0 hown hK hP hD hS (i := k) (by omega) hc rfl 7 (by decide) (hw _ wf_X0_46) rfl (tyX0_ok 7 (by decide)) rfl rfl (Nat.le_of_ble_eq_true rfl) dX0_removeEmpty_44 (fun G_6 H locs hg_G_6 ho_G_6 hP hS => ?_)
        have hc_7 : G_6 k = .inr (2, [.ref (ad (k + 1)), .int (nI sz), .int (nI bx), .ref (ad (k + 2)), .ref (ad (k + 3)), .ref (ad (k + 4)), .ref (ad (k + 5)), .int (nI (swk L cn))]) := hg_G_6
        have hc_8 : G_6 (k + 1) = aJ cT 48 p0 := (ho_G_6 _ (by omega)).trans hc1
        have hc_9 : G_6 (k + 2) = aI cT 96 (swF w L cn) := (ho_G_6 _ (by omega)).trans hc2
        have hc_10 : G_6 (k + 3) = aJ cT 96 (swF nu L cn) := (ho_G_6 _ (by omega)).trans hc3
        have hc_11 : G_6 (k + 4) = aI cT 96 (swF ne L cn) := (ho_G_6 _ (by omega)).trans hc4
        have hc_12 : G_6 (k + 5) = aI cT 96 (swF en L cn) := (ho_G_6 _ (by omega)).trans hc5
        have hfr_13 : ∀ j, (j < k ∨ k + 6 ≤ j) → G_6 j = G j := fun j hj => (ho_G_6 j (by omega)).trans (hfL j hj)
        refine lv_iload_n hx hb dX0_removeEmpty_47 rfl (lv_at hl 0 rfl) ?_
        refine g_ret hQ hx hb hr hlocks rfl hP hS (⟨rfl, hfr_13, p0, _, _, _, _, ⟨hc_7, hc_8, hc_9, hc_10, hc_11, hc_12, hc6, hc7, hc8⟩, BL_sweep hBL _ (Nat.le_refl _)⟩) (Nat.le_of_ble_eq_true rfl) (Nat.le_of_ble_eq_true rfl) dX0_removeEmpty_48
      · skip
        obtain ⟨hb1, hb2, hb3⟩ := hBL.2 i (by omega)
        have hi3 := hI.2.2.1 i (by omega)
        have hps := ps_step L (show i < cn by omega)
        have hq8 := hB8 i
        have hq7 := hB7 i
        have hq6 := hB6 i
        refine lv_aload_n hx hb dX0_removeEmpty_12 rfl (lv_at hl 2 rfl) ?_
        refine lv_iload_n hx hb dX0_removeEmpty_13 rfl (lv_at hl 0 rfl) ?_
        have hbd_14 := hc8 i
        refine g_callV (As := [.int (nI i)]) (rest := []) ⟨hx, hb, hml, hown, hw⟩ (mX0_width l D cT n ad A hD Gl k sz cn bx p0 (swF w L i) (swF nu L i) (swF ne L i) (swF en L i) (by omega) ⟨hc, hc1, hc2, hc3, hc4, hc5, hc6, hc7, hc8⟩ i (by omega) (by rw [swF_hi w L i i (Nat.le_refl _), swF_hi ne L i i (Nat.le_refl _), swF_hi en L i i (Nat.le_refl _)]; omega)) (cwV 1 hw (gWV wm_X0_53 wi_X0_width wse_X0_width wini_X0 wc_X0_width) rfl rfl rfl (by decide +kernel) ⟨Nat.le_of_ble_eq_true rfl, Nat.le_of_ble_eq_true rfl⟩) hK hE hA hP hS (k := k) (by omega) hc rfl rfl hl.1 (lv_room (Nat.le_of_ble_eq_true rfl)) dX0_removeEmpty_14 ⟨Nat.le_of_ble_eq_true rfl, Nat.le_of_ble_eq_true rfl⟩ (fun v_16 G_15 H locs hp hP hS => ?_)
        obtain ⟨hv, hg⟩ := hp
        subst hv
        rw [hg] at hP
        refine t_eqi (nI (L i)) (congrArg nI (by rw [swF_hi w L i i (Nat.le_refl _), swF_hi ne L i i (Nat.le_refl _), swF_hi en L i i (Nat.le_refl _)]; split <;> omega)) ?_
        refine t_if_le (tgt := 29) hx hb dX0_removeEmpty_17 (by decide) (by omega) (fun c_17 => ?_) (fun c_17 => ?_)
        · skip
          refine lv_iinc (v := nI (i + 1)) (lv' := [(2, .int (nI (i + 1))), (1, .int (nI (swk L i))), (0, .ref (ad k))]) hx hb dX0_removeEmpty_29 hl (k := 0) rfl (by exact nI_add i 1) (by decide) rfl (fun ls hl => ?_)
          refine lv_goto (tgt := 4) hx hb dX0_removeEmpty_32 (by decide) ?_
          have hz8 : swk L i = swk L (i + 1) := by rw [swk_0 (by omega)]
          have hl := hl
          rw [hz8] at hl
          exact ih_3 (i + 1) (by omega) (by omega) _ _ _ (hfL) (⟨hc, hc1, hc2.trans (congrArg (aI cT 96) (swF_0 _ (by omega)).symm), hc3.trans (congrArg (aJ cT 96) (swF_0 _ (by omega)).symm), hc4.trans (congrArg (aI cT 96) (swF_0 _ (by omega)).symm), hc5.trans (congrArg (aI cT 96) (swF_0 _ (by omega)).symm), by rw [swF_0 _ (by omega)]; exact hc6, by rw [swF_0 _ (by omega)]; exact hc7, by rw [swF_0 _ (by omega)]; exact hc8⟩) hP hS ls (lv_sub hl [0, 1, 2] rfl)
        · skip
          refine lv_aload_n hx hb dX0_removeEmpty_20 rfl (lv_at hl 2 rfl) ?_
          refine lv_iload_n hx hb dX0_removeEmpty_21 rfl (lv_at hl 0 rfl) ?_
          refine lv_iload_n hx hb dX0_removeEmpty_22 rfl (lv_at hl 1 rfl) ?_
          refine g_callV (As := [.int (nI i), .int (nI (swk L i))]) (rest := []) ⟨hx, hb, hml, hown, hw⟩ (mX0_copyItem l D cT n ad A hD Gl k sz cn bx p0 (swF w L i) (swF nu L i) (swF ne L i) (swF en L i) (by omega) ⟨hc, hc1, hc2, hc3, hc4, hc5, hc6, hc7, hc8⟩ i (swk L i) (by omega) (by omega)) (cwV 2 hw (gWV wm_X0_83 wi_X0_copyItem wse_X0_copyItem wini_X0 wc_X0_copyItem) rfl rfl rfl (by decide +kernel) ⟨Nat.le_of_ble_eq_true rfl, Nat.le_of_ble_eq_true rfl⟩) hK hE hA hP hS (k := k) (by omega) hc rfl rfl hl.1 (lv_room (Nat.le_of_ble_eq_true rfl)) dX0_removeEmpty_23 ⟨Nat.le_of_ble_eq_true rfl, Nat.le_of_ble_eq_true rfl⟩ (fun v_19 G_18 H locs hp hP hS => ?_)
          obtain ⟨hv, hf_20, hr_21⟩ := hp
          subst hv
          obtain ⟨hb_22, hb_23, hb_24, hb_25, hb_26, hb_27, hb_28, hb_29, hb_30⟩ := hr_21
          have hfr_31 : ∀ j, (j < k ∨ k + 6 ≤ j) → G_18 j = G j := fun j hj => (hf_20 j (by omega)).trans (hfL j hj)
          refine lv_iinc (v := nI (swk L i + 1)) (lv' := [(1, .int (nI (swk L i + 1))), (2, .int (nI i)), (0, .ref (ad k))]) hx hb dX0_removeEmpty_26 hl (k := 1) rfl (by exact nI_add (swk L i) 1) (by decide) rfl (fun ls hl => ?_)
          refine lv_iinc (v := nI (i + 1)) (lv' := [(2, .int (nI (i + 1))), (1, .int (nI (swk L i + 1))), (0, .ref (ad k))]) hx hb dX0_removeEmpty_29 hl (k := 1) rfl (by exact nI_add i 1) (by decide) rfl (fun ls hl => ?_)
          refine lv_goto (tgt := 4) hx hb dX0_removeEmpty_32 (by decide) ?_
          have hz8 : swk L i + 1 = swk L (i + 1) := by rw [swk_1 (by omega)]
          have hl := hl
          rw [hz8] at hl
          exact ih_3 (i + 1) (by omega) (by omega) _ _ _ (hfr_31) (⟨hb_22, hb_23, hb_24.trans (congrArg (aI cT 96) (by rw [swF_hi w L i i (Nat.le_refl _), ← swF_1 _ (by omega)])), hb_25.trans (congrArg (aJ cT 96) (by rw [swF_hi nu L i i (Nat.le_refl _), ← swF_1 _ (by omega)])), hb_26.trans (congrArg (aI cT 96) (by rw [swF_hi ne L i i (Nat.le_refl _), ← swF_1 _ (by omega)])), hb_27.trans (congrArg (aI cT 96) (by rw [swF_hi en L i i (Nat.le_refl _), ← swF_1 _ (by omega)])), by rw [swF_hi w L i i (Nat.le_refl _), ← swF_1 _ (by omega)] at hb_28; exact hb_28, by rw [swF_hi ne L i i (Nat.le_refl _), ← swF_1 _ (by omega)] at hb_29; exact hb_29, by rw [swF_hi en L i i (Nat.le_refl _), ← swF_1 _ (by omega)] at hb_30; exact hb_30⟩) hP hS ls (lv_sub hl [0, 1, 2] rfl)
  exact key_1 _ 0 (by omega) (Nat.lt_succ_self _) _ _ _ (fun _ _ => rfl) (⟨hB, hB1, hB2, hB3, hB4, hB5, hB6, hB7, hB8⟩) hP hS ls (lv_sub hl [0, 1, 2] rfl)

set_option maxHeartbeats 4000000 in
set_option maxRecDepth 100000 in
theorem mX0_halveAll (l : Launch) (D : va_G) (cT : Nat → ClassId) (n : Nat) (ad : Nat → Nat) (A : Nat → Prop) (hD : ∀ G, va_D A (gw n ad G)) (G : Nat → va_E) (k sz cn bx : Nat) (pt : Nat → Int64) (K L : Nat → Nat) (hk : k + 6 ≤ n) (hR : BR cT ad G k sz cn bx pt K L) (hI : BI sz cn K L) (q : Nat) (hq1 : 1 ≤ q) (hq2 : q ≤ 48) : Met l yX0_halveAll (wA yX0_halveAll cX0_halveAll 5 (some .int)) ({ frames := 3, cells := 0, slots := 0, locals := 87 } : Room) (PG D cT n ad A G [.ref (ad k), .int (nI q)]) (QG D n ad A (fun v G1 => v = some (.int (nI ((crum q 300 0 cn K L).1 - cn))) ∧ (∀ j, (j < k ∨ k + 6 ≤ j) → G1 j = G j) ∧ BR cT ad G1 k sz ((crum q 300 0 cn K L).1) bx pt ((crum q 300 0 cn K L).2.1) ((crum q 300 0 cn K L).2.2))) 0 0 A := by
  refine Met.ofG (cc := cX0_halveAll) (maxL := 5) (ret := (some .int)) (by decide) (Nat.le_of_ble_eq_true rfl) ?_
  intro p e s m args below meth c Q hQ hx hb hr hml hlocks hown hw hP hK hE hA hS ls hl
  have hl : lv_has ls 5 [(0, .ref (ad k)), (1, .int (nI q))] := hl
  have hR0 := hR
  obtain ⟨p0, w, nu, ne, en, ⟨hB, hB1, hB2, hB3, hB4, hB5, hB6, hB7, hB8⟩, hBL⟩ := hR
  have hcap := BI_cap hI
  have hsz := hI.1
  have hpz := hI.2.1
  refine lv_aload_n hx hb dX0_halveAll_0 rfl (lv_at hl 0 rfl) ?_
  refine g_get (C := RX0) (T := TX0) (N := 8) hx hb hw inX0 hown hK hP (i := k) (by omega) hB rfl 7 (by decide) (hw _ wf_X0_46) rfl dX0_halveAll_1 ?_
  refine lv_istore_n (lv' := [(2, .int (nI cn)), (0, .ref (ad k)), (1, .int (nI q))]) hx hb dX0_halveAll_4 rfl hl (by decide) rfl (fun ls hl => ?_)
  refine lv_iconst (v := nI 0) hx hb dX0_halveAll_5 (by decide) ?_
  refine lv_istore_n (lv' := [(3, .int (nI 0)), (2, .int (nI cn)), (0, .ref (ad k)), (1, .int (nI q))]) hx hb dX0_halveAll_6 rfl hl (by decide) rfl (fun ls hl => ?_)
  have key_1 : ∀ (fu : Nat) (i f cn1 : Nat) (K1 L1 : Nat → Nat), (i ≤ cn1) → (BI sz cn1 K1 L1) → (crum q f i cn1 K1 L1 = crum q 300 0 cn K L) → (f + i + cn1 = 300 + cn) → (cn ≤ cn1) → (97 - i) < fu → ∀ (Gl : Nat → va_E) (H : Heap) (locs : List Loc), (∀ j, (j < k ∨ k + 6 ≤ j) → Gl j = G j) → (BR cT ad Gl k sz cn1 bx pt K1 L1) → va_P D vwCl (gw n ad Gl) H → va_S A s.heap H locs → ∀ ls : Array Slot, lv_has ls 5 [(3, .int (nI i)), (2, .int (nI cn)), (1, .int (nI q)), (0, .ref (ad k))] → W p l e ({ frames := 3, cells := 0, slots := 0, locals := 87 } : Room) s m args below meth c H locs 0 0 Q (F0 m 7 ls []) := by
    intro fu_2
    induction fu_2 with
    | zero => intros; exfalso; omega
    | succ fu_2 ih_3 =>
      intro i f cn1 K1 L1 hi hI1 hcr hf hcn hfu_4 Gl H locs hfL hRL hP hS ls hl
      obtain ⟨p1, w1, nu1, ne1, en1, ⟨hc, hc1, hc2, hc3, hc4, hc5, hc6, hc7, hc8⟩, hBM⟩ := hRL
      have hcapM := BI_cap hI1
      have hpzM := hI1.2.1
      refine lv_iload_n hx hb dX0_halveAll_7 rfl (lv_at hl 0 rfl) ?_
      refine lv_aload_n hx hb dX0_halveAll_8 rfl (lv_at hl 3 rfl) ?_
      refine g_get (C := RX0) (T := TX0) (N := 8) hx hb hw inX0 hown hK hP (i := k) (by omega) hc rfl 7 (by decide) (hw _ wf_X0_46) rfl dX0_halveAll_9 ?_
      refine t_icmp_ge (tgt := 58) hx hb dX0_halveAll_12 (by decide) (by omega) (by omega) (fun c_5 => ?_) (fun c_5 => ?_)
      · skip
        have hce : crum q 300 0 cn K L = (cn1, K1, L1) := hcr.symm.trans (crum_end (by omega))
        refine lv_aload_n hx hb dX0_halveAll_58 rfl (lv_at hl 3 rfl) ?_
        refine g_get (C := RX0) (T := TX0) (N := 8) hx hb hw inX0 hown hK hP (i := k) (by omega) hc rfl 7 (by decide) (hw _ wf_X0_46) rfl dX0_halveAll_59 ?_
        refine lv_iload_n hx hb dX0_halveAll_62 rfl (lv_at hl 1 rfl) ?_
        refine lv_isub hx hb dX0_halveAll_63 ?_
        refine t_eqi (nI (cn1 - cn)) (pk_sub (by omega)) ?_
        refine g_ret hQ hx hb hr hlocks rfl hP hS (⟨by rw [hce], hfL, by rw [hce]; exact ⟨p1, w1, nu1, ne1, en1, ⟨hc, hc1, hc2, hc3, hc4, hc5, hc6, hc7, hc8⟩, hBM⟩⟩) (Nat.le_of_ble_eq_true rfl) (Nat.le_of_ble_eq_true rfl) dX0_halveAll_64
      · skip
        refine lv_iload_n hx hb dX0_halveAll_15 rfl (lv_at hl 0 rfl) ?_
        refine lv_bipush (v := nI 96) hx hb dX0_halveAll_16 (by decide) ?_
        refine t_icmp_ge (tgt := 58) hx hb dX0_halveAll_18 (by decide) (by omega) (by omega) (fun c_6 => ?_) (fun c_6 => ?_)
        · exfalso; omega
        · skip
          refine lv_iconst (v := nI 0) hx hb dX0_halveAll_21 (by decide) ?_
          refine lv_istore (lv' := [(4, .int (nI 0)), (3, .int (nI i)), (2, .int (nI cn)), (1, .int (nI q)), (0, .ref (ad k))]) hx hb dX0_halveAll_22 hl (by decide) rfl (fun ls hl => ?_)
          have key_7 : ∀ (fu : Nat) (d f2 cn2 : Nat) (K2 L2 : Nat → Nat), (d ≤ 8) → (i < cn2) → (BI sz cn2 K2 L2) → (crum q f2 i cn2 K2 L2 = crum q 300 0 cn K L) → (f2 + i + cn2 = 300 + cn) → (cn ≤ cn2) → (L2 i ≤ 48 / 2 ^ d) → (9 - d) < fu → ∀ (Gm : Nat → va_E) (H : Heap) (locs : List Loc), (∀ j, (j < k ∨ k + 6 ≤ j) → Gm j = G j) → (BR cT ad Gm k sz cn2 bx pt K2 L2) → va_P D vwCl (gw n ad Gm) H → va_S A s.heap H locs → ∀ ls : Array Slot, lv_has ls 5 [(4, .int (nI d)), (3, .int (nI i)), (2, .int (nI cn)), (1, .int (nI q)), (0, .ref (ad k))] → W p l e ({ frames := 3, cells := 0, slots := 0, locals := 87 } : Room) s m args below meth c H locs 0 0 Q (F0 m 24 ls []) := by
            intro fu_8
            induction fu_8 with
            | zero => intros; exfalso; omega
            | succ fu_8 ih_9 =>
              intro d f2 cn2 K2 L2 hd0 hi2 hI2 hcr2 hf2 hcn2 hdp hfu_10 Gm H locs hfM hRM hP hS ls hl
              have hRM := hRM
              obtain ⟨p2, w2, nu2, ne2, en2, ⟨hd, hd1, hd2, hd3, hd4, hd5, hd6, hd7, hd8⟩, hBN⟩ := id hRM
              have hcapN := BI_cap hI2
              have hpzN := hI2.2.1
              obtain ⟨hn1, hn2, hn3⟩ := hBN.2 i (by omega)
              have hn4 := hI2.2.2.1 i (by omega)
              have hn5 := hd8 i
              have hn6 := ps_step L2 (show i < cn2 by omega)
              refine lv_iload hx hb dX0_halveAll_24 (lv_at hl 0 rfl) ?_
              refine lv_bipush (v := nI 8) hx hb dX0_halveAll_26 (by decide) ?_
              refine t_icmp_ge (tgt := 52) hx hb dX0_halveAll_28 (by decide) (by omega) (by omega) (fun c_11 => ?_) (fun c_11 => ?_)
              · skip
                have hnx : ¬ (K2 i = 112 ∧ q < L2 i) := by rw [show d = 8 by omega] at hdp; have h48 : 48 / 2 ^ 8 = 0 := rfl; omega
                refine lv_iinc (v := nI (i + 1)) (lv' := [(3, .int (nI (i + 1))), (4, .int (nI d)), (2, .int (nI cn)), (1, .int (nI q)), (0, .ref (ad k))]) hx hb dX0_halveAll_52 hl (k := 1) rfl (by exact nI_add i 1) (by decide) rfl (fun ls hl => ?_)
                refine lv_goto (tgt := 7) hx hb dX0_halveAll_55 (by decide) ?_
                exact ih_3 (i + 1) (f2 - 1) cn2 K2 L2 (by omega) (hI2) ((crum_next (by omega) (by omega) hnx).symm.trans hcr2) (by omega) (by omega) (by omega) _ _ _ (hfM) (hRM) hP hS ls (lv_sub hl [0, 2, 3, 4] rfl)
              · skip
                refine lv_aload_n hx hb dX0_halveAll_31 rfl (lv_at hl 4 rfl) ?_
                refine lv_iload_n hx hb dX0_halveAll_32 rfl (lv_at hl 1 rfl) ?_
                refine lv_iload_n hx hb dX0_halveAll_33 rfl (lv_at hl 3 rfl) ?_
                refine g_callV (As := [.int (nI i), .int (nI q)]) (rest := []) ⟨hx, hb, hml, hown, hw⟩ (mX0_isTooLong l D cT n ad A hD Gm k sz cn2 bx p2 w2 nu2 ne2 en2 (by omega) ⟨hd, hd1, hd2, hd3, hd4, hd5, hd6, hd7, hd8⟩ i q (by omega) (by omega) (by omega)) (cwV 2 hw (gWV wm_X0_64 wi_X0_isTooLong wse_X0_isTooLong wini_X0 wc_X0_isTooLong) rfl rfl rfl (by decide +kernel) ⟨Nat.le_of_ble_eq_true rfl, Nat.le_of_ble_eq_true rfl⟩) hK hE hA hP hS (k := k) (by omega) hd rfl rfl hl.1 (lv_room (Nat.le_of_ble_eq_true rfl)) dX0_halveAll_34 ⟨Nat.le_of_ble_eq_true rfl, Nat.le_of_ble_eq_true rfl⟩ (fun v_13 G_12 H locs hp hP hS => ?_)
                obtain ⟨hv, hg⟩ := hp
                subst hv
                rw [hg] at hP
                refine t_bool_eq (tgt := 52) hx hb dX0_halveAll_37 (by decide) (fun c_14 => ?_) (fun c_14 => ?_)
                · skip
                  have hnx : ¬ (K2 i = 112 ∧ q < L2 i) := by omega
                  refine lv_iinc (v := nI (i + 1)) (lv' := [(3, .int (nI (i + 1))), (4, .int (nI d)), (2, .int (nI cn)), (1, .int (nI q)), (0, .ref (ad k))]) hx hb dX0_halveAll_52 hl (k := 1) rfl (by exact nI_add i 1) (by decide) rfl (fun ls hl => ?_)
                  refine lv_goto (tgt := 7) hx hb dX0_halveAll_55 (by decide) ?_
                  exact ih_3 (i + 1) (f2 - 1) cn2 K2 L2 (by omega) (hI2) ((crum_next (by omega) (by omega) hnx).symm.trans hcr2) (by omega) (by omega) (by omega) _ _ _ (hfM) (hRM) hP hS ls (lv_sub hl [0, 2, 3, 4] rfl)
                · skip
                  have hkk : K2 i = 112 ∧ q < L2 i := by omega
                  refine lv_aload_n hx hb dX0_halveAll_40 rfl (lv_at hl 4 rfl) ?_
                  refine lv_iload_n hx hb dX0_halveAll_41 rfl (lv_at hl 1 rfl) ?_
                  refine g_callV (As := [.int (nI i)]) (rest := []) ⟨hx, hb, hml, hown, hw⟩ (mX0_halve l D cT n ad A hD Gm k sz cn2 bx pt K2 L2 (by omega) hRM hI2 i (by omega) hkk.1 (by omega)) (cwV 1 hw (gWV wm_X0_67 wi_X0_halve wse_X0_halve wini_X0 wc_X0_halve) rfl rfl rfl (by decide +kernel) ⟨Nat.le_of_ble_eq_true rfl, Nat.le_of_ble_eq_true rfl⟩) hK hE hA hP hS (k := k) (by omega) hd rfl rfl hl.1 (lv_room (Nat.le_of_ble_eq_true rfl)) dX0_halveAll_42 ⟨Nat.le_of_ble_eq_true rfl, Nat.le_of_ble_eq_true rfl⟩ (fun v_16 G_15 H locs hp hP hS => ?_)
                  obtain ⟨hv, hf_17, hr_18⟩ := hp
                  subst hv
                  have hfr_19 : ∀ j, (j < k ∨ k + 6 ≤ j) → G_15 j = G j := fun j hj => (hf_17 j (by omega)).trans (hfM j hj)
                  refine lv_pop hx hb dX0_halveAll_45 rfl ?_
                  refine lv_iinc (v := nI (d + 1)) (lv' := [(4, .int (nI (d + 1))), (3, .int (nI i)), (2, .int (nI cn)), (1, .int (nI q)), (0, .ref (ad k))]) hx hb dX0_halveAll_46 hl (k := 0) rfl (by exact nI_add d 1) (by decide) rfl (fun ls hl => ?_)
                  refine lv_goto (tgt := 24) hx hb dX0_halveAll_49 (by decide) ?_
                  have hd2 : insN (va_up L2 i (L2 i - L2 i / 2)) i 1 (L2 i / 2) i = L2 i / 2 := insN_in (Nat.le_refl _) (by omega)
                  have hdv : L2 i / 2 ≤ 48 / 2 ^ (d + 1) := by rw [Nat.pow_succ, ← Nat.div_div_eq_div_mul]; exact Nat.div_le_div_right hdp
                  exact ih_9 (d + 1) (f2 - 1) (cn2 + 1) (insN K2 i 1 112) (insN (va_up L2 i (L2 i - L2 i / 2)) i 1 (L2 i / 2)) (by omega) (by omega) (BI_half hI2 (by omega) hkk.1 (by omega)) ((crum_split (by omega) (by omega) hkk).symm.trans hcr2) (by omega) (by omega) (by rw [hd2]; exact hdv) (by omega) _ _ _ (hfr_19) (hr_18) hP hS ls (lv_sub hl [0, 1, 2, 3, 4] rfl)
          exact key_7 _ 0 f cn1 K1 L1 (by omega) (by omega) (hI1) (hcr) (by omega) (by omega) (by have hps1 := ps_step L1 (show i < cn1 by omega); rw [Nat.pow_zero, Nat.div_one]; omega) (Nat.lt_succ_self _) _ _ _ (hfL) (⟨p1, w1, nu1, ne1, en1, ⟨hc, hc1, hc2, hc3, hc4, hc5, hc6, hc7, hc8⟩, hBM⟩) hP hS ls (lv_sub hl [0, 1, 2, 3, 4] rfl)
  exact key_1 _ 0 300 cn K L (Nat.zero_le _) (hI) (rfl) (by omega) (Nat.le_refl _) (Nat.lt_succ_self _) _ _ _ (fun _ _ => rfl) (hR0) hP hS ls (lv_sub hl [0, 1, 3, 2] rfl)

set_option maxHeartbeats 4000000 in
set_option maxRecDepth 100000 in
theorem mX0_start (l : Launch) (D : va_G) (cT : Nat → ClassId) (n : Nat) (ad : Nat → Nat) (A : Nat → Prop) (hD : ∀ G, va_D A (gw n ad G)) (G : Nat → va_E) (k sz cn bx : Nat) (pt : Nat → Int64) (w : Nat → Nat) (nu : Nat → Int64) (ne en : Nat → Nat) (hk : k + 6 ≤ n) (hR : RB cT ad G k sz cn bx pt w nu ne en) (r rc : Nat) (f : Nat → Int64) (hrn : r + 2 ≤ n) (hap : r + 2 ≤ k ∨ k + 6 ≤ r) (hRR : RR cT ad G r rc f) (a b z : Nat) (hab : a ≤ b) (hbr : b ≤ rc) (hrc : rc ≤ 48) (hz : z ≤ 1) : Met l yX0_start (wA yX0_start cX0_start 6 none) ({ frames := 1, cells := 0, slots := 0, locals := 23 } : Room) (PG D cT n ad A G [.ref (ad k), .ref (ad r), .int (nI a), .int (nI b), .int (nI z)]) (QG D n ad A (fun v G1 => v = none ∧ (∀ j, (j < k ∨ k + 6 ≤ j) → G1 j = G j) ∧ BR cT ad G1 k (b - a) 1 z (fun j => f (a + j)) (fun _ => 112) (fun _ => b - a))) 0 0 A := by
  refine Met.ofG (cc := cX0_start) (maxL := 6) (ret := none) (by decide) (Nat.le_of_ble_eq_true rfl) ?_
  intro p e s m args below meth c Q hQ hx hb hr hml hlocks hown hw hP hK hE hA hS ls hl
  have hl : lv_has ls 6 [(0, .ref (ad k)), (1, .ref (ad r)), (2, .int (nI a)), (3, .int (nI b)), (4, .int (nI z))] := hl
  obtain ⟨hB, hB1, hB2, hB3, hB4, hB5, hB6, hB7, hB8⟩ := hR
  obtain ⟨hr1, hr2⟩ := hRR
  refine lv_aload_n hx hb dX0_start_0 rfl (lv_at hl 0 rfl) ?_
  refine lv_iconst (v := nI 0) hx hb dX0_start_1 (by decide) ?_
  refine g_put (C := RX0) (T := TX0) (N := 8) hx hb hw inX0 tyX0 tyX0_ok nmX0 hown hK hP hD hS (i := k) (by omega) hB rfl 1 (by decide) (hw _ wf_X0_28) rfl (tyX0_ok 1 (by decide)) rfl rfl (Nat.le_of_ble_eq_true rfl) dX0_start_2 (fun G_1 H locs hg_G_1 ho_G_1 hP hS => ?_)
  have hc_2 : G_1 k = .inr (2, [.ref (ad (k + 1)), .int (nI 0), .int (nI bx), .ref (ad (k + 2)), .ref (ad (k + 3)), .ref (ad (k + 4)), .ref (ad (k + 5)), .int (nI cn)]) := hg_G_1
  have hc_3 : G_1 (k + 1) = aJ cT 48 pt := (ho_G_1 _ (by omega)).trans hB1
  have hc_4 : G_1 (k + 2) = aI cT 96 w := (ho_G_1 _ (by omega)).trans hB2
  have hc_5 : G_1 (k + 3) = aJ cT 96 nu := (ho_G_1 _ (by omega)).trans hB3
  have hc_6 : G_1 (k + 4) = aI cT 96 ne := (ho_G_1 _ (by omega)).trans hB4
  have hc_7 : G_1 (k + 5) = aI cT 96 en := (ho_G_1 _ (by omega)).trans hB5
  have hc_8 : G_1 r = .inr (3, [.ref (ad (r + 1)), .int (nI rc)]) := (ho_G_1 _ (by omega)).trans hr1
  have hc_9 : G_1 (r + 1) = aJ cT 48 f := (ho_G_1 _ (by omega)).trans hr2
  have hfr_10 : ∀ j, (j < k ∨ k + 6 ≤ j) → G_1 j = G j := fun j hj => (ho_G_1 j (by omega)).trans (rfl)
  refine lv_iload_n hx hb dX0_start_5 rfl (lv_at hl 2 rfl) ?_
  refine lv_istore (lv' := [(5, .int (nI a)), (0, .ref (ad k)), (1, .ref (ad r)), (2, .int (nI a)), (3, .int (nI b)), (4, .int (nI z))]) hx hb dX0_start_6 hl (by decide) rfl (fun ls hl => ?_)
  have key_11 : ∀ (fu : Nat) (t : Nat), (a + t ≤ b) → (b - a - t) < fu → ∀ (Gl : Nat → va_E) (H : Heap) (locs : List Loc), (∀ j, (j < k ∨ k + 6 ≤ j) → Gl j = G j) → (RB cT ad Gl k t cn bx (gvF pt 0 t (fun j => f (a + j))) w nu ne en) → va_P D vwCl (gw n ad Gl) H → va_S A s.heap H locs → ∀ ls : Array Slot, lv_has ls 6 [(5, .int (nI (a + t))), (4, .int (nI z)), (3, .int (nI b)), (2, .int (nI a)), (1, .ref (ad r)), (0, .ref (ad k))] → W p l e ({ frames := 1, cells := 0, slots := 0, locals := 23 } : Room) s m args below meth c H locs 0 0 Q (F0 m 8 ls []) := by
    intro fu_12
    induction fu_12 with
    | zero => intros; exfalso; omega
    | succ fu_12 ih_13 =>
      intro t ht hfu_14 Gl H locs hfL hRL hP hS ls hl
      obtain ⟨hc, hc1, hc2, hc3, hc4, hc5, hc6, hc7, hc8⟩ := hRL
      have hs1 : Gl r = .inr (3, [.ref (ad (r + 1)), .int (nI rc)]) := (hfL _ (by omega)).trans hr1
      have hs2 : Gl (r + 1) = aJ cT 48 f := (hfL _ (by omega)).trans hr2
      refine lv_iload hx hb dX0_start_8 (lv_at hl 0 rfl) ?_
      refine lv_iload_n hx hb dX0_start_10 rfl (lv_at hl 2 rfl) ?_
      refine t_icmp_ge (tgt := 57) hx hb dX0_start_11 (by decide) (by omega) (by omega) (fun c_15 => ?_) (fun c_15 => ?_)
      · skip
        have hte : t = b - a := by omega
        subst hte
        refine lv_aload_n hx hb dX0_start_57 rfl (lv_at hl 5 rfl) ?_
        refine lv_iload hx hb dX0_start_58 (lv_at hl 1 rfl) ?_
        refine g_put (C := RX0) (T := TX0) (N := 8) hx hb hw inX0 tyX0 tyX0_ok nmX0 hown hK hP hD hS (i := k) (by omega) hc rfl 2 (by decide) (hw _ wf_X0_38) rfl (tyX0_ok 2 (by decide)) (nar_bool (by omega)).1 (nar_bool (by omega)).2 (Nat.le_of_ble_eq_true rfl) dX0_start_60 (fun G_16 H locs hg_G_16 ho_G_16 hP hS => ?_)
        have hc_17 : G_16 k = .inr (2, [.ref (ad (k + 1)), .int (nI (b - a)), .int (nI z), .ref (ad (k + 2)), .ref (ad (k + 3)), .ref (ad (k + 4)), .ref (ad (k + 5)), .int (nI cn)]) := hg_G_16
        have hc_18 : G_16 (k + 1) = aJ cT 48 (gvF pt 0 (b - a) (fun j => f (a + j))) := (ho_G_16 _ (by omega)).trans hc1
        have hc_19 : G_16 (k + 2) = aI cT 96 w := (ho_G_16 _ (by omega)).trans hc2
        have hc_20 : G_16 (k + 3) = aJ cT 96 nu := (ho_G_16 _ (by omega)).trans hc3
        have hc_21 : G_16 (k + 4) = aI cT 96 ne := (ho_G_16 _ (by omega)).trans hc4
        have hc_22 : G_16 (k + 5) = aI cT 96 en := (ho_G_16 _ (by omega)).trans hc5
        have hc_23 : G_16 r = .inr (3, [.ref (ad (r + 1)), .int (nI rc)]) := (ho_G_16 _ (by omega)).trans hs1
        have hc_24 : G_16 (r + 1) = aJ cT 48 f := (ho_G_16 _ (by omega)).trans hs2
        have hfr_25 : ∀ j, (j < k ∨ k + 6 ≤ j) → G_16 j = G j := fun j hj => (ho_G_16 j (by omega)).trans (hfL j hj)
        refine lv_aload_n hx hb dX0_start_63 rfl (lv_at hl 5 rfl) ?_
        refine lv_iconst (v := nI 0) hx hb dX0_start_64 (by decide) ?_
        refine lv_iconst (v := nI 0) hx hb dX0_start_65 (by decide) ?_
        refine lv_aload_n hx hb dX0_start_66 rfl (lv_at hl 5 rfl) ?_
        refine g_get (C := RX0) (T := TX0) (N := 8) hx hb hw inX0 hown hK hP (i := k) (by omega) hc_17 rfl 1 (by decide) (hw _ wf_X0_28) rfl dX0_start_67 ?_
        refine g_callV (As := [.int (nI 0), .int (nI 0), .int (nI (b - a))]) (rest := []) ⟨hx, hb, hml, hown, hw⟩ (mX0_putPiece l D cT n ad A hD G_16 k (b - a) cn z (gvF pt 0 (b - a) (fun j => f (a + j))) w nu ne en (by omega) ⟨hc_17, hc_18, hc_19, hc_20, hc_21, hc_22, hc6, hc7, hc8⟩ 0 0 (b - a) (by omega) (by omega) (by omega)) (cwV 3 hw (gWV wm_X0_42 wi_X0_putPiece wse_X0_putPiece wini_X0 wc_X0_putPiece) rfl rfl rfl (by decide +kernel) ⟨Nat.le_of_ble_eq_true rfl, Nat.le_of_ble_eq_true rfl⟩) hK hE hA hP hS (k := k) (by omega) hc_17 rfl rfl hl.1 (lv_room (Nat.le_of_ble_eq_true rfl)) dX0_start_70 ⟨Nat.le_of_ble_eq_true rfl, Nat.le_of_ble_eq_true rfl⟩ (fun v_27 G_26 H locs hp hP hS => ?_)
        obtain ⟨hv, hf_28, hr_29⟩ := hp
        subst hv
        have hc_30 : G_26 r = .inr (3, [.ref (ad (r + 1)), .int (nI rc)]) := (hf_28 _ (by omega)).trans hc_23
        have hc_31 : G_26 (r + 1) = aJ cT 48 f := (hf_28 _ (by omega)).trans hc_24
        obtain ⟨hb_32, hb_33, hb_34, hb_35, hb_36, hb_37, hb_38, hb_39, hb_40⟩ := hr_29
        have hfr_41 : ∀ j, (j < k ∨ k + 6 ≤ j) → G_26 j = G j := fun j hj => (hf_28 j (by omega)).trans (hfr_25 j hj)
        refine lv_aload_n hx hb dX0_start_73 rfl (lv_at hl 5 rfl) ?_
        refine lv_iconst (v := nI 1) hx hb dX0_start_74 (by decide) ?_
        refine g_put (C := RX0) (T := TX0) (N := 8) hx hb hw inX0 tyX0 tyX0_ok nmX0 hown hK hP hD hS (i := k) (by omega) hb_32 rfl 7 (by decide) (hw _ wf_X0_46) rfl (tyX0_ok 7 (by decide)) rfl rfl (Nat.le_of_ble_eq_true rfl) dX0_start_75 (fun G_42 H locs hg_G_42 ho_G_42 hP hS => ?_)
        have hc_43 : G_42 k = .inr (2, [.ref (ad (k + 1)), .int (nI (b - a)), .int (nI z), .ref (ad (k + 2)), .ref (ad (k + 3)), .ref (ad (k + 4)), .ref (ad (k + 5)), .int (nI 1)]) := hg_G_42
        have hc_44 : G_42 (k + 1) = aJ cT 48 (gvF pt 0 (b - a) (fun j => f (a + j))) := (ho_G_42 _ (by omega)).trans hb_33
        have hc_45 : G_42 (k + 2) = aI cT 96 (va_up w 0 112) := (ho_G_42 _ (by omega)).trans hb_34
        have hc_46 : G_42 (k + 3) = aJ cT 96 nu := (ho_G_42 _ (by omega)).trans hb_35
        have hc_47 : G_42 (k + 4) = aI cT 96 (va_up ne 0 0) := (ho_G_42 _ (by omega)).trans hb_36
        have hc_48 : G_42 (k + 5) = aI cT 96 (va_up en 0 (b - a)) := (ho_G_42 _ (by omega)).trans hb_37
        have hc_49 : G_42 r = .inr (3, [.ref (ad (r + 1)), .int (nI rc)]) := (ho_G_42 _ (by omega)).trans hc_30
        have hc_50 : G_42 (r + 1) = aJ cT 48 f := (ho_G_42 _ (by omega)).trans hc_31
        have hfr_51 : ∀ j, (j < k ∨ k + 6 ≤ j) → G_42 j = G j := fun j hj => (ho_G_42 j (by omega)).trans (hfr_41 j hj)
        refine g_retv hQ hx hb hr hlocks hP hS (⟨rfl, hfr_51, _, _, _, _, _, ⟨hc_43, hc_44, hc_45, hc_46, hc_47, hc_48, hb_38, hb_39, hb_40⟩, BL_start⟩) (Nat.le_of_ble_eq_true rfl) (Nat.le_of_ble_eq_true rfl) dX0_start_78
      · skip
        refine lv_aload_n hx hb dX0_start_14 rfl (lv_at hl 5 rfl) ?_
        refine g_get (C := RX0) (T := TX0) (N := 8) hx hb hw inX0 hown hK hP (i := k) (by omega) hc rfl 1 (by decide) (hw _ wf_X0_28) rfl dX0_start_15 ?_
        refine lv_aload_n hx hb dX0_start_18 rfl (lv_at hl 5 rfl) ?_
        refine g_get (C := RX0) (T := TX0) (N := 8) hx hb hw inX0 hown hK hP (i := k) (by omega) hc rfl 0 (by decide) (hw _ wf_X0_9) rfl dX0_start_19 ?_
        refine va_alen hx hb hK hP (k + 1) 0 (gw_get (by omega) hc1) rfl (v := nI 48) rfl dX0_start_22 ?_
        refine t_icmp_ge (tgt := 57) hx hb dX0_start_23 (by decide) (by omega) (by omega) (fun c_52 => ?_) (fun c_52 => ?_)
        · exfalso; omega
        · skip
          refine lv_aload_n hx hb dX0_start_26 rfl (lv_at hl 5 rfl) ?_
          refine g_get (C := RX0) (T := TX0) (N := 8) hx hb hw inX0 hown hK hP (i := k) (by omega) hc rfl 0 (by decide) (hw _ wf_X0_9) rfl dX0_start_27 ?_
          refine lv_aload_n hx hb dX0_start_30 rfl (lv_at hl 5 rfl) ?_
          refine g_get (C := RX0) (T := TX0) (N := 8) hx hb hw inX0 hown hK hP (i := k) (by omega) hc rfl 1 (by decide) (hw _ wf_X0_28) rfl dX0_start_31 ?_
          refine lv_aload_n hx hb dX0_start_34 rfl (lv_at hl 4 rfl) ?_
          refine lv_iload hx hb dX0_start_35 (lv_at hl 0 rfl) ?_
          refine g_callV (As := [.int (nI (a + t))]) (rest := [.int (nI t), .ref (ad (k + 1))]) ⟨hx, hb, hml, hown, hw⟩ (mX1_at l D cT n ad A hD Gl r rc f (by omega) ⟨hs1, hs2⟩ (a + t) (by omega) (by omega)) (cwV 1 hw (gWV wm_X0_32 wi_X1_at wse_X1_at wini_X1 wc_X1_at) rfl rfl rfl (by decide +kernel) ⟨Nat.le_of_ble_eq_true rfl, Nat.le_of_ble_eq_true rfl⟩) hK hE hA hP hS (k := r) (by omega) hs1 rfl rfl hl.1 (lv_room (Nat.le_of_ble_eq_true rfl)) dX0_start_37 ⟨Nat.le_of_ble_eq_true rfl, Nat.le_of_ble_eq_true rfl⟩ (fun v_54 G_53 H locs hp hP hS => ?_)
          obtain ⟨hv, hg⟩ := hp
          subst hv
          rw [hg] at hP
          refine g_last hx hb hK hP hD hS (i := (k + 1)) (by omega) hc1 (by omega) (by omega) dX0_start_40 (fun G_55 H locs hg_G_55 ho_G_55 hP hS => ?_)
          have hc_56 : G_55 k = .inr (2, [.ref (ad (k + 1)), .int (nI t), .int (nI bx), .ref (ad (k + 2)), .ref (ad (k + 3)), .ref (ad (k + 4)), .ref (ad (k + 5)), .int (nI cn)]) := (ho_G_55 _ (by omega)).trans hc
          have hc_57 : G_55 (k + 1) = aJ cT 48 (va_up (gvF pt 0 t (fun j => f (a + j))) t (f (a + t))) := hg_G_55
          have hc_58 : G_55 (k + 2) = aI cT 96 w := (ho_G_55 _ (by omega)).trans hc2
          have hc_59 : G_55 (k + 3) = aJ cT 96 nu := (ho_G_55 _ (by omega)).trans hc3
          have hc_60 : G_55 (k + 4) = aI cT 96 ne := (ho_G_55 _ (by omega)).trans hc4
          have hc_61 : G_55 (k + 5) = aI cT 96 en := (ho_G_55 _ (by omega)).trans hc5
          have hc_62 : G_55 r = .inr (3, [.ref (ad (r + 1)), .int (nI rc)]) := (ho_G_55 _ (by omega)).trans hs1
          have hc_63 : G_55 (r + 1) = aJ cT 48 f := (ho_G_55 _ (by omega)).trans hs2
          have hfr_64 : ∀ j, (j < k ∨ k + 6 ≤ j) → G_55 j = G j := fun j hj => (ho_G_55 j (by omega)).trans (hfL j hj)
          refine lv_aload_n hx hb dX0_start_41 rfl (lv_at hl 5 rfl) ?_
          refine lv_dup hx hb dX0_start_42 rfl ?_
          refine g_get (C := RX0) (T := TX0) (N := 8) hx hb hw inX0 hown hK hP (i := k) (by omega) hc_56 rfl 1 (by decide) (hw _ wf_X0_28) rfl dX0_start_43 ?_
          refine lv_iconst (v := nI 1) hx hb dX0_start_46 (by decide) ?_
          refine lv_iadd hx hb dX0_start_47 ?_
          refine t_eqi (nI (t + 1)) (nI_add t 1) ?_
          refine g_put (C := RX0) (T := TX0) (N := 8) hx hb hw inX0 tyX0 tyX0_ok nmX0 hown hK hP hD hS (i := k) (by omega) hc_56 rfl 1 (by decide) (hw _ wf_X0_28) rfl (tyX0_ok 1 (by decide)) rfl rfl (Nat.le_of_ble_eq_true rfl) dX0_start_48 (fun G_65 H locs hg_G_65 ho_G_65 hP hS => ?_)
          have hc_66 : G_65 k = .inr (2, [.ref (ad (k + 1)), .int (nI (t + 1)), .int (nI bx), .ref (ad (k + 2)), .ref (ad (k + 3)), .ref (ad (k + 4)), .ref (ad (k + 5)), .int (nI cn)]) := hg_G_65
          have hc_67 : G_65 (k + 1) = aJ cT 48 (va_up (gvF pt 0 t (fun j => f (a + j))) t (f (a + t))) := (ho_G_65 _ (by omega)).trans hc_57
          have hc_68 : G_65 (k + 2) = aI cT 96 w := (ho_G_65 _ (by omega)).trans hc_58
          have hc_69 : G_65 (k + 3) = aJ cT 96 nu := (ho_G_65 _ (by omega)).trans hc_59
          have hc_70 : G_65 (k + 4) = aI cT 96 ne := (ho_G_65 _ (by omega)).trans hc_60
          have hc_71 : G_65 (k + 5) = aI cT 96 en := (ho_G_65 _ (by omega)).trans hc_61
          have hc_72 : G_65 r = .inr (3, [.ref (ad (r + 1)), .int (nI rc)]) := (ho_G_65 _ (by omega)).trans hc_62
          have hc_73 : G_65 (r + 1) = aJ cT 48 f := (ho_G_65 _ (by omega)).trans hc_63
          have hfr_74 : ∀ j, (j < k ∨ k + 6 ≤ j) → G_65 j = G j := fun j hj => (ho_G_65 j (by omega)).trans (hfr_64 j hj)
          refine lv_iinc (v := nI (a + t + 1)) (lv' := [(5, .int (nI (a + t + 1))), (4, .int (nI z)), (3, .int (nI b)), (2, .int (nI a)), (1, .ref (ad r)), (0, .ref (ad k))]) hx hb dX0_start_51 hl (k := 0) rfl (by exact nI_add (a + t) 1) (by decide) rfl (fun ls hl => ?_)
          refine lv_goto (tgt := 8) hx hb dX0_start_54 (by decide) ?_
          exact ih_13 (t + 1) (by omega) (by omega) _ _ _ (hfr_74) (⟨hc_66, hc_67.trans (congrArg (aJ cT 48) (by have hgs := gvF_step pt 0 t (fun j => f (a + j)); rw [Nat.zero_add] at hgs; exact hgs)), hc_68, hc_69, hc_70, hc_71, hc6, hc7, hc8⟩) hP hS ls (lv_sub hl [0, 1, 2, 3, 4, 5] rfl)
  exact key_11 _ 0 (by omega) (Nat.lt_succ_self _) _ _ _ (hfr_10) (⟨hc_2, hc_3.trans (by rw [gvF_0]), hc_4, hc_5, hc_6, hc_7, hB6, hB7, hB8⟩) hP hS ls (lv_sub hl [0, 5, 4, 3, 2, 1] rfl)
