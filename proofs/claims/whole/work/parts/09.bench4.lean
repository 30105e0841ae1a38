set_option maxHeartbeats 4000000 in
set_option maxRecDepth 100000 in
theorem mX0_isInOrder (l : Launch) (D : va_G) (cT : Nat → ClassId) (n : Nat) (ad : Nat → Nat) (A : Nat → Prop) (hD : ∀ G, va_D A (gw n ad G)) (G : Nat → va_E) (k sz cn bx : Nat) (pt : Nat → Int64) (K L : Nat → Nat) (hk : k + 6 ≤ n) (hR : BR cT ad G k sz cn bx pt K L) (hI : BI sz cn K L) : Met l yX0_isInOrder (wA yX0_isInOrder cX0_isInOrder 3 (some .boolean)) ({ frames := 3, cells := 0, slots := 0, locals := 63 } : Room) (PG D cT n ad A G [.ref (ad k)]) (QG D n ad A (fun v G1 => v = some (.int (nI 1)) ∧ G1 = G)) 0 0 A := by
  refine Met.ofG (cc := cX0_isInOrder) (maxL := 3) (ret := (some .boolean)) (by decide) (Nat.le_of_ble_eq_true rfl) ?_
  intro p e s m args below meth c Q hQ hx hb hr hml hlocks hown hw hP hK hE hA hS ls hl
  have hl : lv_has ls 3 [(0, .ref (ad k))] := hl
  obtain ⟨p0, w, nu, ne, en, ⟨hB, hB1, hB2, hB3, hB4, hB5, hB6, hB7, hB8⟩, hBL⟩ := hR
  have hcap := BI_cap hI
  have hsz := hI.1
  have hpz := hI.2.1
  refine lv_iconst (v := nI 0) hx hb dX0_isInOrder_0 (by decide) ?_
  refine lv_istore_n (lv' := [(1, .int (nI 0)), (0, .ref (ad k))]) hx hb dX0_isInOrder_1 rfl hl (by decide) rfl (fun ls hl => ?_)
  refine lv_iconst (v := nI 0) hx hb dX0_isInOrder_2 (by decide) ?_
  refine lv_istore_n (lv' := [(2, .int (nI 0)), (1, .int (nI 0)), (0, .ref (ad k))]) hx hb dX0_isInOrder_3 rfl hl (by decide) rfl (fun ls hl => ?_)
  have key_1 : ∀ (fu : Nat) (i : Nat), (i ≤ cn) → (cn - i) < fu → ∀ (H : Heap) (locs : List Loc), va_P D vwCl (gw n ad G) H → va_S A s.heap H locs → ∀ ls : Array Slot, lv_has ls 3 [(2, .int (nI i)), (1, .int (nI (ps L i))), (0, .ref (ad k))] → W p l e ({ frames := 3, cells := 0, slots := 0, locals := 63 } : Room) s m args below meth c H locs 0 0 Q (F0 m 4 ls []) := by
    intro fu_2
    induction fu_2 with
    | zero => intros; exfalso; omega
    | succ fu_2 ih_3 =>
      intro i hi hfu_4 H locs hP hS ls hl
      refine lv_iload_n hx hb dX0_isInOrder_4 rfl (lv_at hl 0 rfl) ?_
      refine lv_aload_n hx hb dX0_isInOrder_5 rfl (lv_at hl 2 rfl) ?_
      refine g_get (C := RX0) (T := TX0) (N := 8) hx hb hw inX0 hown hK hP (i := k) (by omega) hB rfl 7 (by decide) (hw _ wf_X0_46) rfl dX0_isInOrder_6 ?_
      refine t_icmp_ge (tgt := 37) hx hb dX0_isInOrder_9 (by decide) (by omega) (by omega) (fun c_5 => ?_) (fun c_5 => ?_)
      · skip
        have hie : i = cn := by omega
        subst hie
        refine lv_iload_n hx hb dX0_isInOrder_37 rfl (lv_at hl 1 rfl) ?_
        refine lv_aload_n hx hb dX0_isInOrder_38 rfl (lv_at hl 2 rfl) ?_
        refine g_get (C := RX0) (T := TX0) (N := 8) hx hb hw inX0 hown hK hP (i := k) (by omega) hB rfl 1 (by decide) (hw _ wf_X0_28) rfl dX0_isInOrder_39 ?_
        refine t_icmp_ne (tgt := 49) hx hb dX0_isInOrder_42 (by decide) (by omega) (by omega) (fun c_6 => ?_) (fun c_6 => ?_)
        · exfalso; omega
        · skip
          refine lv_iconst (v := nI 1) hx hb dX0_isInOrder_45 (by decide) ?_
          refine lv_goto (tgt := 50) hx hb dX0_isInOrder_46 (by decide) ?_
          refine g_ret hQ hx hb hr hlocks rfl hP hS (⟨rfl, rfl⟩) (Nat.le_of_ble_eq_true rfl) (Nat.le_of_ble_eq_true rfl) dX0_isInOrder_50
      · skip
        obtain ⟨hb1, hb2, hb3⟩ := hBL.2 i (by omega)
        have hi3 := hI.2.2.1 i (by omega)
        have hps := ps_step L (show i < cn by omega)
        have hq8 := hB8 i
        have hq7 := hB7 i
        have hq6 := hB6 i
        refine lv_aload_n hx hb dX0_isInOrder_12 rfl (lv_at hl 2 rfl) ?_
        refine lv_iload_n hx hb dX0_isInOrder_13 rfl (lv_at hl 0 rfl) ?_
        refine lv_iload_n hx hb dX0_isInOrder_14 rfl (lv_at hl 1 rfl) ?_
        refine g_callV (As := [.int (nI i), .int (nI (ps L i))]) (rest := []) ⟨hx, hb, hml, hown, hw⟩ (mX0_standsAt l D cT n ad A hD G k sz cn bx pt K L (by omega) ⟨p0, w, nu, ne, en, ⟨hB, hB1, hB2, hB3, hB4, hB5, hB6, hB7, hB8⟩, hBL⟩ hI i (by omega)) (cwV 2 hw (gWV wm_X0_97 wi_X0_standsAt wse_X0_standsAt wini_X0 wc_X0_standsAt) rfl rfl rfl (by decide +kernel) ⟨Nat.le_of_ble_eq_true rfl, Nat.le_of_ble_eq_true rfl⟩) hK hE hA hP hS (k := k) (by omega) hB rfl rfl hl.1 (lv_room (Nat.le_of_ble_eq_true rfl)) dX0_isInOrder_15 ⟨Nat.le_of_ble_eq_true rfl, Nat.le_of_ble_eq_true rfl⟩ (fun v_8 G_7 H locs hp hP hS => ?_)
        obtain ⟨hv, hg⟩ := hp
        subst hv
        rw [hg] at hP
        refine t_if_ne (tgt := 23) hx hb dX0_isInOrder_18 (by decide) (by omega) (fun c_9 => ?_) (fun c_9 => absurd c_9 (by omega))
        refine lv_iload_n hx hb dX0_isInOrder_23 rfl (lv_at hl 1 rfl) ?_
        refine lv_aload_n hx hb dX0_isInOrder_24 rfl (lv_at hl 2 rfl) ?_
        refine lv_iload_n hx hb dX0_isInOrder_25 rfl (lv_at hl 0 rfl) ?_
        have hbd_10 := hB8 i
        refine g_callV (As := [.int (nI i)]) (rest := [.int (nI (ps L i))]) ⟨hx, hb, hml, hown, hw⟩ (mX0_width l D cT n ad A hD G k sz cn bx p0 w nu ne en (by omega) ⟨hB, hB1, hB2, hB3, hB4, hB5, hB6, hB7, hB8⟩ i (by omega) (by omega)) (cwV 1 hw (gWV wm_X0_53 wi_X0_width wse_X0_width wini_X0 wc_X0_width) rfl rfl rfl (by decide +kernel) ⟨Nat.le_of_ble_eq_true rfl, Nat.le_of_ble_eq_true rfl⟩) hK hE hA hP hS (k := k) (by omega) hB rfl rfl hl.1 (lv_room (Nat.le_of_ble_eq_true rfl)) dX0_isInOrder_26 ⟨Nat.le_of_ble_eq_true rfl, Nat.le_of_ble_eq_true rfl⟩ (fun v_12 G_11 H locs hp hP hS => ?_)
        obtain ⟨hv, hg⟩ := hp
        subst hv
        rw [hg] at hP
        refine t_eqi (nI (L i)) (congrArg nI (by split <;> omega)) ?_
        refine lv_iadd hx hb dX0_isInOrder_29 ?_
        refine t_eqi (nI ((ps L i) + (L i))) (nI_add (ps L i) (L i)) ?_
        refine lv_istore_n (lv' := [(1, .int (nI ((ps L i) + (L i)))), (2, .int (nI i)), (0, .ref (ad k))]) hx hb dX0_isInOrder_30 rfl hl (by decide) rfl (fun ls hl => ?_)
        refine lv_iinc (v := nI (i + 1)) (lv' := [(2, .int (nI (i + 1))), (1, .int (nI ((ps L i) + (L i)))), (0, .ref (ad k))]) hx hb dX0_isInOrder_31 hl (k := 1) rfl (by exact nI_add i 1) (by decide) rfl (fun ls hl => ?_)
        refine lv_goto (tgt := 4) hx hb dX0_isInOrder_34 (by decide) ?_
        exact ih_3 (i + 1) (by omega) (by omega) _ _ hP hS ls (lv_sub hl [0, 1, 2] rfl)
  exact key_1 _ 0 (by omega) (Nat.lt_succ_self _) _ _ hP hS ls (lv_sub hl [0, 1, 2] rfl)

set_option maxHeartbeats 4000000 in
set_option maxRecDepth 100000 in
theorem mX0_isWholePart (l : Launch) (D : va_G) (cT : Nat → ClassId) (n : Nat) (ad : Nat → Nat) (A : Nat → Prop) (hD : ∀ G, va_D A (gw n ad G)) (G : Nat → va_E) (k sz cn bx : Nat) (pt : Nat → Int64) (K L : Nat → Nat) (hk : k + 6 ≤ n) (hR : BR cT ad G k sz cn bx pt K L) (hI : BI sz cn K L) : Met l yX0_isWholePart (wA yX0_isWholePart cX0_isWholePart 1 (some .boolean)) ({ frames := 4, cells := 0, slots := 0, locals := 85 } : Room) (PG D cT n ad A G [.ref (ad k)]) (QG D n ad A (fun v G1 => v = some (.int (if cnt K cn = cn then 1 else 0)) ∧ G1 = G)) 0 0 A := by
  refine Met.ofG (cc := cX0_isWholePart) (maxL := 1) (ret := (some .boolean)) (by decide) (Nat.le_of_ble_eq_true rfl) ?_
  intro p e s m args below meth c Q hQ hx hb hr hml hlocks hown hw hP hK hE hA hS ls hl
  have hl : lv_has ls 1 [(0, .ref (ad k))] := hl
  obtain ⟨p0, w, nu, ne, en, ⟨hB, hB1, hB2, hB3, hB4, hB5, hB6, hB7, hB8⟩, hBL⟩ := hR
  have hcap := BI_cap hI
  have hsz := hI.1
  have hpz := hI.2.1
  have hcl := cnt_le K cn
  refine lv_aload_n hx hb dX0_isWholePart_0 rfl (lv_at hl 0 rfl) ?_
  refine g_callV (As := []) (rest := []) ⟨hx, hb, hml, hown, hw⟩ (mX0_countNumbers l D cT n ad A hD G k sz cn bx pt K L (by omega) ⟨p0, w, nu, ne, en, ⟨hB, hB1, hB2, hB3, hB4, hB5, hB6, hB7, hB8⟩, hBL⟩ hI) (cwV 0 hw (gWV wm_X0_87 wi_X0_countNumbers wse_X0_countNumbers wini_X0 wc_X0_countNumbers) rfl rfl rfl (by decide +kernel) ⟨Nat.le_of_ble_eq_true rfl, Nat.le_of_ble_eq_true rfl⟩) hK hE hA hP hS (k := k) (by omega) hB rfl rfl hl.1 (lv_room (Nat.le_of_ble_eq_true rfl)) dX0_isWholePart_1 ⟨Nat.le_of_ble_eq_true rfl, Nat.le_of_ble_eq_true rfl⟩ (fun v_2 G_1 H locs hp hP hS => ?_)
  obtain ⟨hv, hg⟩ := hp
  subst hv
  rw [hg] at hP
  refine lv_aload_n hx hb dX0_isWholePart_4 rfl (lv_at hl 0 rfl) ?_
  refine g_get (C := RX0) (T := TX0) (N := 8) hx hb hw inX0 hown hK hP (i := k) (by omega) hB rfl 7 (by decide) (hw _ wf_X0_46) rfl dX0_isWholePart_5 ?_
  refine t_icmp_ne (tgt := 22) hx hb dX0_isWholePart_8 (by decide) (by omega) (by omega) (fun c_3 => ?_) (fun c_3 => ?_)
  · skip
    refine lv_iconst (v := nI 0) hx hb dX0_isWholePart_22 (by decide) ?_
    refine g_ret hQ hx hb hr hlocks rfl hP hS (⟨by rw [if_neg (by omega)]; rfl, rfl⟩) (Nat.le_of_ble_eq_true rfl) (Nat.le_of_ble_eq_true rfl) dX0_isWholePart_23
  · skip
    refine lv_aload_n hx hb dX0_isWholePart_11 rfl (lv_at hl 0 rfl) ?_
    refine g_callV (As := []) (rest := []) ⟨hx, hb, hml, hown, hw⟩ (mX0_isInOrder l D cT n ad A hD G k sz cn bx pt K L (by omega) ⟨p0, w, nu, ne, en, ⟨hB, hB1, hB2, hB3, hB4, hB5, hB6, hB7, hB8⟩, hBL⟩ hI) (cwV 0 hw (gWV wm_X0_91 wi_X0_isInOrder wse_X0_isInOrder wini_X0 wc_X0_isInOrder) rfl rfl rfl (by decide +kernel) ⟨Nat.le_of_ble_eq_true rfl, Nat.le_of_ble_eq_true rfl⟩) hK hE hA hP hS (k := k) (by omega) hB rfl rfl hl.1 (lv_room (Nat.le_of_ble_eq_true rfl)) dX0_isWholePart_12 ⟨Nat.le_of_ble_eq_true rfl, Nat.le_of_ble_eq_true rfl⟩ (fun v_5 G_4 H locs hp hP hS => ?_)
    obtain ⟨hv, hg⟩ := hp
    subst hv
    rw [hg] at hP
    refine t_if_eq (tgt := 22) hx hb dX0_isWholePart_15 (by decide) (by omega) (fun c_6 => absurd c_6 (by omega)) (fun c_6 => ?_)
    refine lv_iconst (v := nI 1) hx hb dX0_isWholePart_18 (by decide) ?_
    refine lv_goto (tgt := 23) hx hb dX0_isWholePart_19 (by decide) ?_
    refine g_ret hQ hx hb hr hlocks rfl hP hS (⟨by rw [if_pos (by omega)]; rfl, rfl⟩) (Nat.le_of_ble_eq_true rfl) (Nat.le_of_ble_eq_true rfl) dX0_isWholePart_23

set_option maxHeartbeats 4000000 in
set_option maxRecDepth 100000 in
theorem mX0_halve (l : Launch) (D : va_G) (cT : Nat → ClassId) (n : Nat) (ad : Nat → Nat) (A : Nat → Prop) (hD : ∀ G, va_D A (gw n ad G)) (G : Nat → va_E) (k sz cn bx : Nat) (pt : Nat → Int64) (K L : Nat → Nat) (hk : k + 6 ≤ n) (hR : BR cT ad G k sz cn bx pt K L) (hI : BI sz cn K L) (i : Nat) (hi : i < cn) (hKi : K i = 112) (hLi : 2 ≤ L i) : Met l yX0_halve (wA yX0_halve cX0_halve 5 (some .int)) ({ frames := 2, cells := 0, slots := 0, locals := 63 } : Room) (PG D cT n ad A G [.ref (ad k), .int (nI i)]) (QG D n ad A (fun v G1 => v = some (.int (nI (L i / 2))) ∧ (∀ j, (j < k ∨ k + 6 ≤ j) → G1 j = G j) ∧ BR cT ad G1 k sz (cn + 1) bx pt (insN K i 1 112) (insN (va_up L i (L i - L i / 2)) i 1 (L i / 2)))) 0 0 A := by
  refine Met.ofG (cc := cX0_halve) (maxL := 5) (ret := (some .int)) (by decide) (Nat.le_of_ble_eq_true rfl) ?_
  intro p e s m args below meth c Q hQ hx hb hr hml hlocks hown hw hP hK hE hA hS ls hl
  have hl : lv_has ls 5 [(0, .ref (ad k)), (1, .int (nI i))] := hl
  obtain ⟨p0, w, nu, ne, en, ⟨hB, hB1, hB2, hB3, hB4, hB5, hB6, hB7, hB8⟩, hBL⟩ := hR
  have hcap := BI_cap hI
  have hsz := hI.1
  have hpz := hI.2.1
  obtain ⟨hb1, hb2, hb3⟩ := hBL.2 i (hi)
  have hi3 := hI.2.2.1 i (hi)
  have hps := ps_step L (show i < cn by omega)
  have hq8 := hB8 i
  have hq7 := hB7 i
  have hq6 := hB6 i
  have hcap2 := BI_cap (BI_half hI hi hKi hLi)
  refine lv_aload_n hx hb dX0_halve_0 rfl (lv_at hl 0 rfl) ?_
  refine lv_iload_n hx hb dX0_halve_1 rfl (lv_at hl 1 rfl) ?_
  have hbd_1 := hB8 i
  refine g_callV (As := [.int (nI i)]) (rest := []) ⟨hx, hb, hml, hown, hw⟩ (mX0_remaining l D cT n ad A hD G k sz cn bx p0 w nu ne en (by omega) ⟨hB, hB1, hB2, hB3, hB4, hB5, hB6, hB7, hB8⟩ i (by omega) (by omega)) (cwV 1 hw (gWV wm_X0_57 wi_X0_remaining wse_X0_remaining wini_X0 wc_X0_remaining) rfl rfl rfl (by decide +kernel) ⟨Nat.le_of_ble_eq_true rfl, Nat.le_of_ble_eq_true rfl⟩) hK hE hA hP hS (k := k) (by omega) hB rfl rfl hl.1 (lv_room (Nat.le_of_ble_eq_true rfl)) dX0_halve_2 ⟨Nat.le_of_ble_eq_true rfl, Nat.le_of_ble_eq_true rfl⟩ (fun v_3 G_2 H locs hp hP hS => ?_)
  obtain ⟨hv, hg⟩ := hp
  subst hv
  rw [hg] at hP
  refine t_eqi (nI (L i)) (congrArg nI (by rw [if_neg (by omega)]; omega)) ?_
  refine lv_istore_n (lv' := [(2, .int (nI (L i))), (0, .ref (ad k)), (1, .int (nI i))]) hx hb dX0_halve_5 rfl hl (by decide) rfl (fun ls hl => ?_)
  refine lv_iload_n hx hb dX0_halve_6 rfl (lv_at hl 0 rfl) ?_
  refine lv_iconst (v := nI 2) hx hb dX0_halve_7 (by decide) ?_
  refine t_icmp_lt (tgt := 20) hx hb dX0_halve_8 (by decide) (by omega) (by omega) (fun c_4 => ?_) (fun c_4 => ?_)
  · exfalso; omega
  · skip
    refine lv_aload_n hx hb dX0_halve_11 rfl (lv_at hl 1 rfl) ?_
    refine lv_iload_n hx hb dX0_halve_12 rfl (lv_at hl 2 rfl) ?_
    refine lv_iconst (v := nI 1) hx hb dX0_halve_13 (by decide) ?_
    refine g_callV (As := [.int (nI i), .int (nI 1)]) (rest := []) ⟨hx, hb, hml, hown, hw⟩ (mX0_makeRoom l D cT n ad A hD G k sz cn bx p0 w nu ne en (by omega) ⟨hB, hB1, hB2, hB3, hB4, hB5, hB6, hB7, hB8⟩ i 1 (by omega) (by omega)) (cwV 2 hw (gWV wm_X0_60 wi_X0_makeRoom wse_X0_makeRoom wini_X0 wc_X0_makeRoom) rfl rfl rfl (by decide +kernel) ⟨Nat.le_of_ble_eq_true rfl, Nat.le_of_ble_eq_true rfl⟩) hK hE hA hP hS (k := k) (by omega) hB rfl rfl hl.1 (lv_room (Nat.le_of_ble_eq_true rfl)) dX0_halve_14 ⟨Nat.le_of_ble_eq_true rfl, Nat.le_of_ble_eq_true rfl⟩ (fun v_6 G_5 H locs hp hP hS => ?_)
    obtain ⟨hv, hf_7, hr_8⟩ := hp
    subst hv
    obtain ⟨hb_9, hb_10, hb_11, hb_12, hb_13, hb_14, hb_15, hb_16, hb_17⟩ := hr_8
    have hfr_18 : ∀ j, (j < k ∨ k + 6 ≤ j) → G_5 j = G j := fun j hj => (hf_7 j (by omega)).trans (rfl)
    refine t_if_ne (tgt := 22) hx hb dX0_halve_17 (by decide) (by omega) (fun c_19 => ?_) (fun c_19 => absurd c_19 (by omega))
    refine lv_iload_n hx hb dX0_halve_22 rfl (lv_at hl 2 rfl) ?_
    refine lv_iconst (v := nI 1) hx hb dX0_halve_23 (by decide) ?_
    refine lv_iadd hx hb dX0_halve_24 ?_
    refine t_eqi (nI (i + 1)) (nI_add i 1) ?_
    refine lv_istore_n (lv' := [(3, .int (nI (i + 1))), (2, .int (nI (L i))), (0, .ref (ad k)), (1, .int (nI i))]) hx hb dX0_halve_25 rfl hl (by decide) rfl (fun ls hl => ?_)
    refine lv_aload_n hx hb dX0_halve_26 rfl (lv_at hl 2 rfl) ?_
    refine g_get (C := RX0) (T := TX0) (N := 8) hx hb hw inX0 hown hK hP (i := k) (by omega) hb_9 rfl 5 (by decide) (hw _ wf_X0_22) rfl dX0_halve_27 ?_
    refine lv_iload_n hx hb dX0_halve_30 rfl (lv_at hl 0 rfl) ?_
    refine g_iald hx hb hK hP (i := (k + 4)) (by omega) hb_13 (by omega) (by omega) dX0_halve_31 ?_
    have hbd_20 := hb_16 (i + 1)
    refine t_eqi (nI (ps L i)) (congrArg nI (by rw [cpy_hi (by omega) (by omega), show i + 1 - 1 = i from rfl]; omega)) ?_
    refine lv_iload_n hx hb dX0_halve_32 rfl (lv_at hl 1 rfl) ?_
    refine lv_iconst (v := nI 2) hx hb dX0_halve_33 (by decide) ?_
    refine lv_idiv hx hb dX0_halve_34 (nI_ne0 (by omega) (by omega)) ?_
    refine t_eqi (nI ((L i) / 2)) (pk_div (by omega) (by omega) (by omega)) ?_
    refine lv_iadd hx hb dX0_halve_35 ?_
    refine t_eqi (nI ((ps L i) + ((L i) / 2))) (nI_add (ps L i) ((L i) / 2)) ?_
    refine lv_istore (lv' := [(4, .int (nI ((ps L i) + ((L i) / 2)))), (3, .int (nI (i + 1))), (2, .int (nI (L i))), (0, .ref (ad k)), (1, .int (nI i))]) hx hb dX0_halve_36 hl (by decide) rfl (fun ls hl => ?_)
    refine lv_aload_n hx hb dX0_halve_38 rfl (lv_at hl 3 rfl) ?_
    refine lv_iload_n hx hb dX0_halve_39 rfl (lv_at hl 4 rfl) ?_
    refine lv_aload_n hx hb dX0_halve_40 rfl (lv_at hl 3 rfl) ?_
    refine g_get (C := RX0) (T := TX0) (N := 8) hx hb hw inX0 hown hK hP (i := k) (by omega) hb_9 rfl 5 (by decide) (hw _ wf_X0_22) rfl dX0_halve_41 ?_
    refine lv_iload_n hx hb dX0_halve_44 rfl (lv_at hl 1 rfl) ?_
    refine g_iald hx hb hK hP (i := (k + 4)) (by omega) hb_13 (by omega) (by omega) dX0_halve_45 ?_
    have hbd_21 := hb_16 (i + 1)
    refine t_eqi (nI (ps L i)) (congrArg nI (by rw [cpy_hi (by omega) (by omega), show i + 1 - 1 = i from rfl]; omega)) ?_
    refine lv_iload hx hb dX0_halve_46 (lv_at hl 0 rfl) ?_
    refine g_callV (As := [.int (nI i), .int (nI (ps L i)), .int (nI ((ps L i) + ((L i) / 2)))]) (rest := []) ⟨hx, hb, hml, hown, hw⟩ (mX0_putPiece l D cT n ad A hD G_5 k sz (cn + 1) bx p0 (va_cpy w w i (i + 1) (cn - i)) (va_cpy nu nu i (i + 1) (cn - i)) (va_cpy ne ne i (i + 1) (cn - i)) (va_cpy en en i (i + 1) (cn - i)) (by omega) ⟨hb_9, hb_10, hb_11, hb_12, hb_13, hb_14, hb_15, hb_16, hb_17⟩ i (ps L i) ((ps L i) + ((L i) / 2)) (by omega) (by omega) (by omega)) (cwV 3 hw (gWV wm_X0_42 wi_X0_putPiece wse_X0_putPiece wini_X0 wc_X0_putPiece) rfl rfl rfl (by decide +kernel) ⟨Nat.le_of_ble_eq_true rfl, Nat.le_of_ble_eq_true rfl⟩) hK hE hA hP hS (k := k) (by omega) hb_9 rfl rfl hl.1 (lv_room (Nat.le_of_ble_eq_true rfl)) dX0_halve_48 ⟨Nat.le_of_ble_eq_true rfl, Nat.le_of_ble_eq_true rfl⟩ (fun v_23 G_22 H locs hp hP hS => ?_)
    obtain ⟨hv, hf_24, hr_25⟩ := hp
    subst hv
    obtain ⟨hb_26, hb_27, hb_28, hb_29, hb_30, hb_31, hb_32, hb_33, hb_34⟩ := hr_25
    have hfr_35 : ∀ j, (j < k ∨ k + 6 ≤ j) → G_22 j = G j := fun j hj => (hf_24 j (by omega)).trans (hfr_18 j hj)
    refine lv_aload_n hx hb dX0_halve_51 rfl (lv_at hl 3 rfl) ?_
    refine g_get (C := RX0) (T := TX0) (N := 8) hx hb hw inX0 hown hK hP (i := k) (by omega) hb_26 rfl 5 (by decide) (hw _ wf_X0_22) rfl dX0_halve_52 ?_
    refine lv_iload_n hx hb dX0_halve_55 rfl (lv_at hl 1 rfl) ?_
    refine lv_iload hx hb dX0_halve_56 (lv_at hl 0 rfl) ?_
    have hbd_37 := up_lt hb_33 (i := (i + 1)) (v := ((ps L i) + ((L i) / 2))) (by omega)
    refine g_iast hx hb hK hP hD hS (i := (k + 4)) (by omega) hb_30 (by omega) (by omega) dX0_halve_58 (fun G_36 H locs hg_G_36 ho_G_36 hP hS => ?_)
    have hc_38 : G_36 k = .inr (2, [.ref (ad (k + 1)), .int (nI sz), .int (nI bx), .ref (ad (k + 2)), .ref (ad (k + 3)), .ref (ad (k + 4)), .ref (ad (k + 5)), .int (nI (cn + 1))]) := (ho_G_36 _ (by omega)).trans hb_26
    have hc_39 : G_36 (k + 1) = aJ cT 48 p0 := (ho_G_36 _ (by omega)).trans hb_27
    have hc_40 : G_36 (k + 2) = aI cT 96 (va_up (va_cpy w w i (i + 1) (cn - i)) i 112) := (ho_G_36 _ (by omega)).trans hb_28
    have hc_41 : G_36 (k + 3) = aJ cT 96 (va_cpy nu nu i (i + 1) (cn - i)) := (ho_G_36 _ (by omega)).trans hb_29
    have hc_42 : G_36 (k + 4) = aI cT 96 (va_up (va_up (va_cpy ne ne i (i + 1) (cn - i)) i (ps L i)) (i + 1) ((ps L i) + ((L i) / 2))) := hg_G_36
    have hc_43 : G_36 (k + 5) = aI cT 96 (va_up (va_cpy en en i (i + 1) (cn - i)) i ((ps L i) + ((L i) / 2))) := (ho_G_36 _ (by omega)).trans hb_31
    have hfr_44 : ∀ j, (j < k ∨ k + 6 ≤ j) → G_36 j = G j := fun j hj => (ho_G_36 j (by omega)).trans (hfr_35 j hj)
    refine lv_iload_n hx hb dX0_halve_59 rfl (lv_at hl 2 rfl) ?_
    refine lv_iconst (v := nI 2) hx hb dX0_halve_60 (by decide) ?_
    refine lv_idiv hx hb dX0_halve_61 (nI_ne0 (by omega) (by omega)) ?_
    refine t_eqi (nI ((L i) / 2)) (pk_div (by omega) (by omega) (by omega)) ?_
    refine g_ret hQ hx hb hr hlocks rfl hP hS (⟨rfl, hfr_44, p0, _, _, _, _, ⟨hc_38, hc_39, hc_40, hc_41, hc_42, hc_43, hb_32, hbd_37, hb_34⟩, BL_half hBL hi hKi hLi⟩) (Nat.le_of_ble_eq_true rfl) (Nat.le_of_ble_eq_true rfl) dX0_halve_62

set_option maxHeartbeats 4000000 in
set_option maxRecDepth 100000 in
theorem mX0_halveS (l : Launch) (D : va_G) (cT : Nat → ClassId) (n : Nat) (ad : Nat → Nat) (A : Nat → Prop) (hD : ∀ G, va_D A (gw n ad G)) (G : Nat → va_E) (k sz cn bx : Nat) (pt : Nat → Int64) (K L : Nat → Nat) (hk : k + 6 ≤ n) (hR : BR cT ad G k sz cn bx pt K L) (hI : BI sz cn K L) (i : Nat) (hi : i < cn) (hKi : K i = 112) (hLi : L i < 2) : Met l yX0_halve (wA yX0_halve cX0_halve 5 (some .int)) ({ frames := 2, cells := 0, slots := 0, locals := 42 } : Room) (PG D cT n ad A G [.ref (ad k), .int (nI i)]) (QG D n ad A (fun v G1 => v = some (.int (-1)) ∧ G1 = G)) 0 0 A := by
  refine Met.ofG (cc := cX0_halve) (maxL := 5) (ret := (some .int)) (by decide) (Nat.le_of_ble_eq_true rfl) ?_
  intro p e s m args below meth c Q hQ hx hb hr hml hlocks hown hw hP hK hE hA hS ls hl
  have hl : lv_has ls 5 [(0, .ref (ad k)), (1, .int (nI i))] := hl
  obtain ⟨p0, w, nu, ne, en, ⟨hB, hB1, hB2, hB3, hB4, hB5, hB6, hB7, hB8⟩, hBL⟩ := hR
  have hcap := BI_cap hI
  have hsz := hI.1
  have hpz := hI.2.1
  obtain ⟨hb1, hb2, hb3⟩ := hBL.2 i (hi)
  have hi3 := hI.2.2.1 i (hi)
  have hps := ps_step L (show i < cn by omega)
  have hq8 := hB8 i
  have hq7 := hB7 i
  have hq6 := hB6 i
  refine lv_aload_n hx hb dX0_halve_0 rfl (lv_at hl 0 rfl) ?_
  refine lv_iload_n hx hb dX0_halve_1 rfl (lv_at hl 1 rfl) ?_
  have hbd_1 := hB8 i
  refine g_callV (As := [.int (nI i)]) (rest := []) ⟨hx, hb, hml, hown, hw⟩ (mX0_remaining l D cT n ad A hD G k sz cn bx p0 w nu ne en (by omega) ⟨hB, hB1, hB2, hB3, hB4, hB5, hB6, hB7, hB8⟩ i (by omega) (by omega)) (cwV 1 hw (gWV wm_X0_57 wi_X0_remaining wse_X0_remaining wini_X0 wc_X0_remaining) rfl rfl rfl (by decide +kernel) ⟨Nat.le_of_ble_eq_true rfl, Nat.le_of_ble_eq_true rfl⟩) hK hE hA hP hS (k := k) (by omega) hB rfl rfl hl.1 (lv_room (Nat.le_of_ble_eq_true rfl)) dX0_halve_2 ⟨Nat.le_of_ble_eq_true rfl, Nat.le_of_ble_eq_true rfl⟩ (fun v_3 G_2 H locs hp hP hS => ?_)
  obtain ⟨hv, hg⟩ := hp
  subst hv
  rw [hg] at hP
  refine t_eqi (nI (L i)) (congrArg nI (by rw [if_neg (by omega)]; omega)) ?_
  refine lv_istore_n (lv' := [(2, .int (nI (L i))), (0, .ref (ad k)), (1, .int (nI i))]) hx hb dX0_halve_5 rfl hl (by decide) rfl (fun ls hl => ?_)
  refine lv_iload_n hx hb dX0_halve_6 rfl (lv_at hl 0 rfl) ?_
  refine lv_iconst (v := nI 2) hx hb dX0_halve_7 (by decide) ?_
  refine t_icmp_lt (tgt := 20) hx hb dX0_halve_8 (by decide) (by omega) (by omega) (fun c_4 => ?_) (fun c_4 => ?_)
  · skip
    refine lv_iconst (v := (-1)) hx hb dX0_halve_20 (by decide) ?_
    refine g_ret hQ hx hb hr hlocks rfl hP hS (⟨rfl, rfl⟩) (Nat.le_of_ble_eq_true rfl) (Nat.le_of_ble_eq_true rfl) dX0_halve_21
  · exfalso; omega

set_option maxHeartbeats 4000000 in
set_option maxRecDepth 100000 in
theorem mX0_give (l : Launch) (D : va_G) (cT : Nat → ClassId) (n : Nat) (ad : Nat → Nat) (A : Nat → Prop) (hD : ∀ G, va_D A (gw n ad G)) (G : Nat → va_E) (k sz cn bx : Nat) (pt : Nat → Int64) (K L : Nat → Nat) (hk : k + 6 ≤ n) (hR : BR cT ad G k sz cn bx pt K L) (hI : BI sz cn K L) (i q mm : Nat) (hi : i < cn) (hKi : K i ≠ 110) (hm : min q (L i) = mm) (hm1 : 1 ≤ mm) (hmL : mm ≤ L i) (hq : q ≤ 48) : Met l yX0_give (wA yX0_give cX0_give 6 (some .int)) ({ frames := 2, cells := 0, slots := 0, locals := 63 } : Room) (PG D cT n ad A G [.ref (ad k), .int (nI i), .int (nI q)]) (QG D n ad A (fun v G1 => v = some (.int (nI mm)) ∧ (∀ j, (j < k ∨ k + 6 ≤ j) → G1 j = G j) ∧ BR cT ad G1 k sz (cn + mm) bx pt (insN K i mm 110) (insN (va_up L i (L i - mm)) i mm 1))) 0 0 A := by
  refine Met.ofG (cc := cX0_give) (maxL := 6) (ret := (some .int)) (by decide) (Nat.le_of_ble_eq_true rfl) ?_
  intro p e s m args below meth c Q hQ hx hb hr hml hlocks hown hw hP hK hE hA hS ls hl
  have hl : lv_has ls 6 [(0, .ref (ad k)), (1, .int (nI i)), (2, .int (nI q))] := hl
  obtain ⟨p0, w, nu, ne, en, ⟨hB, hB1, hB2, hB3, hB4, hB5, hB6, hB7, hB8⟩, hBL⟩ := hR
  have hcap := BI_cap hI
  have hsz := hI.1
  have hpz := hI.2.1
  obtain ⟨hb1, hb2, hb3⟩ := hBL.2 i (hi)
  have hi3 := hI.2.2.1 i (hi)
  have hps := ps_step L (show i < cn by omega)
  have hq8 := hB8 i
  have hq7 := hB7 i
  have hq6 := hB6 i
  have hcap2 := BI_cap (BI_give hI hi hKi hmL)
  refine lv_iload_n hx hb dX0_give_0 rfl (lv_at hl 2 rfl) ?_
  refine lv_aload_n hx hb dX0_give_1 rfl (lv_at hl 0 rfl) ?_
  refine lv_iload_n hx hb dX0_give_2 rfl (lv_at hl 1 rfl) ?_
  have hbd_1 := hB8 i
  refine g_callV (As := [.int (nI i)]) (rest := [.int (nI q)]) ⟨hx, hb, hml, hown, hw⟩ (mX0_remaining l D cT n ad A hD G k sz cn bx p0 w nu ne en (by omega) ⟨hB, hB1, hB2, hB3, hB4, hB5, hB6, hB7, hB8⟩ i (by omega) (by omega)) (cwV 1 hw (gWV wm_X0_57 wi_X0_remaining wse_X0_remaining wini_X0 wc_X0_remaining) rfl rfl rfl (by decide +kernel) ⟨Nat.le_of_ble_eq_true rfl, Nat.le_of_ble_eq_true rfl⟩) hK hE hA hP hS (k := k) (by omega) hB rfl rfl hl.1 (lv_room (Nat.le_of_ble_eq_true rfl)) dX0_give_3 ⟨Nat.le_of_ble_eq_true rfl, Nat.le_of_ble_eq_true rfl⟩ (fun v_3 G_2 H locs hp hP hS => ?_)
  obtain ⟨hv, hg⟩ := hp
  subst hv
  rw [hg] at hP
  refine t_eqi (nI (L i)) (congrArg nI (by rw [if_neg (by omega)]; omega)) ?_
  refine va_mmin hx hb (hml.trans hl.1.symm) hown (hw _ wm_X0_70) (hw _ wst_J9_min_7cf53) (hw _ wini_J9) (hw _ wc_J9_min_7cf53) (Nat.le_of_ble_eq_true rfl) (Nat.le_of_ble_eq_true rfl) (Nat.zero_le _) (Nat.zero_le _) dX0_give_6 ?_
  refine t_eqi (nI (min q (L i))) (min_nI (by omega) (by omega)) ?_
  refine t_eqi (nI mm) (congrArg nI hm) ?_
  refine lv_istore_n (lv' := [(3, .int (nI mm)), (0, .ref (ad k)), (1, .int (nI i)), (2, .int (nI q))]) hx hb dX0_give_9 rfl hl (by decide) rfl (fun ls hl => ?_)
  refine lv_iload_n hx hb dX0_give_10 rfl (lv_at hl 0 rfl) ?_
  refine lv_iconst (v := nI 1) hx hb dX0_give_11 (by decide) ?_
  refine t_icmp_lt (tgt := 24) hx hb dX0_give_12 (by decide) (by omega) (by omega) (fun c_4 => ?_) (fun c_4 => ?_)
  · exfalso; omega
  · skip
    refine lv_aload_n hx hb dX0_give_15 rfl (lv_at hl 1 rfl) ?_
    refine lv_iload_n hx hb dX0_give_16 rfl (lv_at hl 2 rfl) ?_
    refine lv_iload_n hx hb dX0_give_17 rfl (lv_at hl 0 rfl) ?_
    refine g_callV (As := [.int (nI i), .int (nI mm)]) (rest := []) ⟨hx, hb, hml, hown, hw⟩ (mX0_makeRoom l D cT n ad A hD G k sz cn bx p0 w nu ne en (by omega) ⟨hB, hB1, hB2, hB3, hB4, hB5, hB6, hB7, hB8⟩ i mm (by omega) (by omega)) (cwV 2 hw (gWV wm_X0_60 wi_X0_makeRoom wse_X0_makeRoom wini_X0 wc_X0_makeRoom) rfl rfl rfl (by decide +kernel) ⟨Nat.le_of_ble_eq_true rfl, Nat.le_of_ble_eq_true rfl⟩) hK hE hA hP hS (k := k) (by omega) hB rfl rfl hl.1 (lv_room (Nat.le_of_ble_eq_true rfl)) dX0_give_18 ⟨Nat.le_of_ble_eq_true rfl, Nat.le_of_ble_eq_true rfl⟩ (fun v_6 G_5 H locs hp hP hS => ?_)
    obtain ⟨hv, hf_7, hr_8⟩ := hp
    subst hv
    obtain ⟨hb_9, hb_10, hb_11, hb_12, hb_13, hb_14, hb_15, hb_16, hb_17⟩ := hr_8
    have hfr_18 : ∀ j, (j < k ∨ k + 6 ≤ j) → G_5 j = G j := fun j hj => (hf_7 j (by omega)).trans (rfl)
    refine t_if_ne (tgt := 26) hx hb dX0_give_21 (by decide) (by omega) (fun c_19 => ?_) (fun c_19 => absurd c_19 (by omega))
    refine lv_iload_n hx hb dX0_give_26 rfl (lv_at hl 2 rfl) ?_
    refine lv_iload_n hx hb dX0_give_27 rfl (lv_at hl 0 rfl) ?_
    refine lv_iadd hx hb dX0_give_28 ?_
    refine t_eqi (nI (i + mm)) (nI_add i mm) ?_
    refine lv_istore (lv' := [(4, .int (nI (i + mm))), (3, .int (nI mm)), (0, .ref (ad k)), (1, .int (nI i)), (2, .int (nI q))]) hx hb dX0_give_29 hl (by decide) rfl (fun ls hl => ?_)
    refine lv_iload_n hx hb dX0_give_31 rfl (lv_at hl 3 rfl) ?_
    refine lv_istore (lv' := [(5, .int (nI i)), (4, .int (nI (i + mm))), (3, .int (nI mm)), (0, .ref (ad k)), (1, .int (nI i)), (2, .int (nI q))]) hx hb dX0_give_32 hl (by decide) rfl (fun ls hl => ?_)
    have hne1 : (va_cpy ne ne i (i + mm) (cn - i)) (i + mm) = ps L i := by rw [cpy_hi (by omega) (by omega), Nat.add_sub_cancel]; omega
    have hg110 : ∀ j : Nat, (fun _ : Nat => 110) j < 2 ^ 31 := fun _ => (by decide : 110 < 2 ^ 31)
    have key_20 : ∀ (fu : Nat) (t : Nat), (t ≤ mm) → (mm - t) < fu → ∀ (Gl : Nat → va_E) (H : Heap) (locs : List Loc), (∀ j, (j < k ∨ k + 6 ≤ j) → Gl j = G j) → (RB cT ad Gl k sz (cn + mm) bx p0 (gvF (va_cpy w w i (i + mm) (cn - i)) i t (fun _ => 110)) (gvF (va_cpy nu nu i (i + mm) (cn - i)) i t (fun t => p0 (ps L i + t))) (va_up (va_cpy ne ne i (i + mm) (cn - i)) (i + mm) (ps L i + t)) (va_cpy en en i (i + mm) (cn - i))) → va_P D vwCl (gw n ad Gl) H → va_S A s.heap H locs → ∀ ls : Array Slot, lv_has ls 6 [(5, .int (nI (i + t))), (4, .int (nI (i + mm))), (3, .int (nI mm)), (2, .int (nI q)), (1, .int (nI i)), (0, .ref (ad k))] → W p l e ({ frames := 2, cells := 0, slots := 0, locals := 63 } : Room) s m args below meth c H locs 0 0 Q (F0 m 34 ls []) := by
      intro fu_21
      induction fu_21 with
      | zero => intros; exfalso; omega
      | succ fu_21 ih_22 =>
        intro t ht hfu_23 Gl H locs hfL hRL hP hS ls hl
        obtain ⟨hc, hc1, hc2, hc3, hc4, hc5, hc6, hc7, hc8⟩ := hRL
        refine lv_iload hx hb dX0_give_34 (lv_at hl 0 rfl) ?_
        refine lv_iload hx hb dX0_give_36 (lv_at hl 1 rfl) ?_
        refine t_icmp_ge (tgt := 75) hx hb dX0_give_38 (by decide) (by omega) (by omega) (fun c_24 => ?_) (fun c_24 => ?_)
        · skip
          refine lv_iload_n hx hb dX0_give_75 rfl (lv_at hl 2 rfl) ?_
          refine g_ret hQ hx hb hr hlocks rfl hP hS (⟨rfl, hfL, p0, _, _, _, _, ⟨hc, hc1, hc2, hc3, hc4, hc5, hc6, hc7, hc8⟩, by rw [show t = mm by omega]; exact BL_give hBL hpz hi hKi hmL⟩) (Nat.le_of_ble_eq_true rfl) (Nat.le_of_ble_eq_true rfl) dX0_give_76
        · skip
          refine lv_aload_n hx hb dX0_give_41 rfl (lv_at hl 5 rfl) ?_
          refine lv_iload hx hb dX0_give_42 (lv_at hl 0 rfl) ?_
          refine lv_aload_n hx hb dX0_give_44 rfl (lv_at hl 5 rfl) ?_
          refine lv_aload_n hx hb dX0_give_45 rfl (lv_at hl 5 rfl) ?_
          refine g_get (C := RX0) (T := TX0) (N := 8) hx hb hw inX0 hown hK hP (i := k) (by omega) hc rfl 5 (by decide) (hw _ wf_X0_22) rfl dX0_give_46 ?_
          refine lv_iload hx hb dX0_give_49 (lv_at hl 1 rfl) ?_
          refine g_iald hx hb hK hP (i := (k + 4)) (by omega) hc4 (by omega) (by omega) dX0_give_51 ?_
          have hbd_25 := hc7 (i + mm)
          refine t_eqi (nI (ps L i + t)) (congrArg nI (va_up_self _ _ _)) ?_
          refine g_callV (As := [.int (nI (ps L i + t))]) (rest := [.int (nI (i + t)), .ref (ad k)]) ⟨hx, hb, hml, hown, hw⟩ (mX0_partAt l D cT n ad A hD Gl k sz (cn + mm) bx p0 (gvF (va_cpy w w i (i + mm) (cn - i)) i t (fun _ => 110)) (gvF (va_cpy nu nu i (i + mm) (cn - i)) i t (fun t => p0 (ps L i + t))) (va_up (va_cpy ne ne i (i + mm) (cn - i)) (i + mm) (ps L i + t)) (va_cpy en en i (i + mm) (cn - i)) (by omega) ⟨hc, hc1, hc2, hc3, hc4, hc5, hc6, hc7, hc8⟩ (ps L i + t) (by omega) (by omega)) (cwV 1 hw (gWV wm_X0_76 wi_X0_partAt wse_X0_partAt wini_X0 wc_X0_partAt) rfl rfl rfl (by decide +kernel) ⟨Nat.le_of_ble_eq_true rfl, Nat.le_of_ble_eq_true rfl⟩) hK hE hA hP hS (k := k) (by omega) hc rfl rfl hl.1 (lv_room (Nat.le_of_ble_eq_true rfl)) dX0_give_52 ⟨Nat.le_of_ble_eq_true rfl, Nat.le_of_ble_eq_true rfl⟩ (fun v_27 G_26 H locs hp hP hS => ?_)
          obtain ⟨hv, hg⟩ := hp
          subst hv
          rw [hg] at hP
          refine g_callV (As := [.int (nI (i + t)), .long (p0 (ps L i + t))]) (rest := []) ⟨hx, hb, hml, hown, hw⟩ (mX0_putNumber l D cT n ad A hD Gl k sz (cn + mm) bx p0 (gvF (va_cpy w w i (i + mm) (cn - i)) i t (fun _ => 110)) (gvF (va_cpy nu nu i (i + mm) (cn - i)) i t (fun t => p0 (ps L i + t))) (va_up (va_cpy ne ne i (i + mm) (cn - i)) (i + mm) (ps L i + t)) (va_cpy en en i (i + mm) (cn - i)) (by omega) ⟨hc, hc1, hc2, hc3, hc4, hc5, hc6, hc7, hc8⟩ (i + t) (p0 (ps L i + t)) (by omega)) (cwV 2 hw (gWV wm_X0_79 wi_X0_putNumber wse_X0_putNumber wini_X0 wc_X0_putNumber) rfl rfl rfl (by decide +kernel) ⟨Nat.le_of_ble_eq_true rfl, Nat.le_of_ble_eq_true rfl⟩) hK hE hA hP hS (k := k) (by omega) hc rfl rfl hl.1 (lv_room (Nat.le_of_ble_eq_true rfl)) dX0_give_55 ⟨Nat.le_of_ble_eq_true rfl, Nat.le_of_ble_eq_true rfl⟩ (fun v_29 G_28 H locs hp hP hS => ?_)
          obtain ⟨hv, hf_30, hr_31⟩ := hp
          subst hv
          obtain ⟨hb_32, hb_33, hb_34, hb_35, hb_36, hb_37, hb_38, hb_39, hb_40⟩ := hr_31
          have hfr_41 : ∀ j, (j < k ∨ k + 6 ≤ j) → G_28 j = G j := fun j hj => (hf_30 j (by omega)).trans (hfL j hj)
          refine lv_aload_n hx hb dX0_give_58 rfl (lv_at hl 5 rfl) ?_
          refine g_get (C := RX0) (T := TX0) (N := 8) hx hb hw inX0 hown hK hP (i := k) (by omega) hb_32 rfl 5 (by decide) (hw _ wf_X0_22) rfl dX0_give_59 ?_
          refine lv_iload hx hb dX0_give_62 (lv_at hl 1 rfl) ?_
          refine lv_dup2_11 hx hb dX0_give_64 rfl rfl ?_
          refine g_iald hx hb hK hP (i := (k + 4)) (by omega) hb_36 (by omega) (by omega) dX0_give_65 ?_
          have hbd_42 := hb_39 (i + mm)
          refine t_eqi (nI (ps L i + t)) (congrArg nI (va_up_self _ _ _)) ?_
          refine lv_iconst (v := nI 1) hx hb dX0_give_66 (by decide) ?_
          refine lv_iadd hx hb dX0_give_67 ?_
          refine t_eqi (nI ((ps L i + t) + 1)) (nI_add (ps L i + t) 1) ?_
          have hbd_44 := up_lt hb_39 (i := (i + mm)) (v := ((ps L i + t) + 1)) (by omega)
          refine g_iast hx hb hK hP hD hS (i := (k + 4)) (by omega) hb_36 (by omega) (by omega) dX0_give_68 (fun G_43 H locs hg_G_43 ho_G_43 hP hS => ?_)
          have hc_45 : G_43 k = .inr (2, [.ref (ad (k + 1)), .int (nI sz), .int (nI bx), .ref (ad (k + 2)), .ref (ad (k + 3)), .ref (ad (k + 4)), .ref (ad (k + 5)), .int (nI (cn + mm))]) := (ho_G_43 _ (by omega)).trans hb_32
          have hc_46 : G_43 (k + 1) = aJ cT 48 p0 := (ho_G_43 _ (by omega)).trans hb_33
          have hc_47 : G_43 (k + 2) = aI cT 96 (va_up (gvF (va_cpy w w i (i + mm) (cn - i)) i t (fun _ => 110)) (i + t) 110) := (ho_G_43 _ (by omega)).trans hb_34
          have hc_48 : G_43 (k + 3) = aJ cT 96 (va_up (gvF (va_cpy nu nu i (i + mm) (cn - i)) i t (fun t => p0 (ps L i + t))) (i + t) (p0 (ps L i + t))) := (ho_G_43 _ (by omega)).trans hb_35
          have hc_49 : G_43 (k + 4) = aI cT 96 (va_up (va_up (va_cpy ne ne i (i + mm) (cn - i)) (i + mm) (ps L i + t)) (i + mm) ((ps L i + t) + 1)) := hg_G_43
          have hc_50 : G_43 (k + 5) = aI cT 96 (va_cpy en en i (i + mm) (cn - i)) := (ho_G_43 _ (by omega)).trans hb_37
          have hfr_51 : ∀ j, (j < k ∨ k + 6 ≤ j) → G_43 j = G j := fun j hj => (ho_G_43 j (by omega)).trans (hfr_41 j hj)
          refine lv_iinc (v := nI (i + t + 1)) (lv' := [(5, .int (nI (i + t + 1))), (4, .int (nI (i + mm))), (3, .int (nI mm)), (2, .int (nI q)), (1, .int (nI i)), (0, .ref (ad k))]) hx hb dX0_give_69 hl (k := 0) rfl (by exact nI_add (i + t) 1) (by decide) rfl (fun ls hl => ?_)
          refine lv_goto (tgt := 34) hx hb dX0_give_72 (by decide) ?_
          exact ih_22 (t + 1) (by omega) (by omega) _ _ _ (hfr_51) (⟨hc_45, hc_46, hc_47.trans (congrArg (aI cT 96) (gvF_step _ i t (fun _ => 110))), hc_48.trans (congrArg (aJ cT 96) (gvF_step _ i t (fun t => p0 (ps L i + t)))), hc_49.trans (by rw [bx_uu]; rfl), hc_50, gvF_lt (cpy_lt hB6) hg110, up_lt (cpy_lt hB7) (by omega), hb_40⟩) hP hS ls (lv_sub hl [0, 1, 2, 3, 4, 5] rfl)
    exact key_20 _ 0 (by omega) (Nat.lt_succ_self _) _ _ _ (hfr_18) (⟨hb_9, hb_10, hb_11.trans (by rw [gvF_0]), hb_12.trans (by rw [gvF_0]), hb_13.trans (by rw [Nat.add_zero, up_same hne1]), hb_14, gvF_lt hb_15 hg110, up_lt hb_16 (by omega), hb_17⟩) hP hS ls (lv_sub hl [0, 1, 2, 5, 4, 3] rfl)

set_option maxHeartbeats 4000000 in
set_option maxRecDepth 100000 in
theorem mX0_giveS (l : Launch) (D : va_G) (cT : Nat → ClassId) (n : Nat) (ad : Nat → Nat) (A : Nat → Prop) (hD : ∀ G, va_D A (gw n ad G)) (G : Nat → va_E) (k sz cn bx : Nat) (pt : Nat → Int64) (K L : Nat → Nat) (hk : k + 6 ≤ n) (hR : BR cT ad G k sz cn bx pt K L) (hI : BI sz cn K L) (i q : Nat) (hi : i < cn) (hKi : K i ≠ 110) (hL0 : L i = 0) (hq : q ≤ 48) : Met l yX0_give (wA yX0_give cX0_give 6 (some .int)) ({ frames := 2, cells := 0, slots := 0, locals := 42 } : Room) (PG D cT n ad A G [.ref (ad k), .int (nI i), .int (nI q)]) (QG D n ad A (fun v G1 => v = some (.int (nI 0)) ∧ G1 = G)) 0 0 A := by
  refine Met.ofG (cc := cX0_give) (maxL := 6) (ret := (some .int)) (by decide) (Nat.le_of_ble_eq_true rfl) ?_
  intro p e s m args below meth c Q hQ hx hb hr hml hlocks hown hw hP hK hE hA hS ls hl
  have hl : lv_has ls 6 [(0, .ref (ad k)), (1, .int (nI i)), (2, .int (nI q))] := hl
  obtain ⟨p0, w, nu, ne, en, ⟨hB, hB1, hB2, hB3, hB4, hB5, hB6, hB7, hB8⟩, hBL⟩ := hR
  have hcap := BI_cap hI
  have hsz := hI.1
  have hpz := hI.2.1
  obtain ⟨hb1, hb2, hb3⟩ := hBL.2 i (hi)
  have hi3 := hI.2.2.1 i (hi)
  have hps := ps_step L (show i < cn by omega)
  have hq8 := hB8 i
  have hq7 := hB7 i
  have hq6 := hB6 i
  refine lv_iload_n hx hb dX0_give_0 rfl (lv_at hl 2 rfl) ?_
  refine lv_aload_n hx hb dX0_give_1 rfl (lv_at hl 0 rfl) ?_
  refine lv_iload_n hx hb dX0_give_2 rfl (lv_at hl 1 rfl) ?_
  have hbd_1 := hB8 i
  refine g_callV (As := [.int (nI i)]) (rest := [.int (nI q)]) ⟨hx, hb, hml, hown, hw⟩ (mX0_remaining l D cT n ad A hD G k sz cn bx p0 w nu ne en (by omega) ⟨hB, hB1, hB2, hB3, hB4, hB5, hB6, hB7, hB8⟩ i (by omega) (by omega)) (cwV 1 hw (gWV wm_X0_57 wi_X0_remaining wse_X0_remaining wini_X0 wc_X0_remaining) rfl rfl rfl (by decide +kernel) ⟨Nat.le_of_ble_eq_true rfl, Nat.le_of_ble_eq_true rfl⟩) hK hE hA hP hS (k := k) (by omega) hB rfl rfl hl.1 (lv_room (Nat.le_of_ble_eq_true rfl)) dX0_give_3 ⟨Nat.le_of_ble_eq_true rfl, Nat.le_of_ble_eq_true rfl⟩ (fun v_3 G_2 H locs hp hP hS => ?_)
  obtain ⟨hv, hg⟩ := hp
  subst hv
  rw [hg] at hP
  refine t_eqi (nI (L i)) (congrArg nI (by rw [if_neg (by omega)]; omega)) ?_
  refine va_mmin hx hb (hml.trans hl.1.symm) hown (hw _ wm_X0_70) (hw _ wst_J9_min_7cf53) (hw _ wini_J9) (hw _ wc_J9_min_7cf53) (Nat.le_of_ble_eq_true rfl) (Nat.le_of_ble_eq_true rfl) (Nat.zero_le _) (Nat.zero_le _) dX0_give_6 ?_
  refine t_eqi (nI (min q (L i))) (min_nI (by omega) (by omega)) ?_
  refine t_eqi (nI 0) (congrArg nI (by omega)) ?_
  refine lv_istore_n (lv' := [(3, .int (nI 0)), (0, .ref (ad k)), (1, .int (nI i)), (2, .int (nI q))]) hx hb dX0_give_9 rfl hl (by decide) rfl (fun ls hl => ?_)
  refine lv_iload_n hx hb dX0_give_10 rfl (lv_at hl 0 rfl) ?_
  refine lv_iconst (v := nI 1) hx hb dX0_give_11 (by decide) ?_
  refine t_icmp_lt (tgt := 24) hx hb dX0_give_12 (by decide) (by omega) (by omega) (fun c_4 => ?_) (fun c_4 => absurd c_4 (by omega))
  refine lv_iconst (v := nI 0) hx hb dX0_give_24 (by decide) ?_
  refine g_ret hQ hx hb hr hlocks rfl hP hS (⟨rfl, rfl⟩) (Nat.le_of_ble_eq_true rfl) (Nat.le_of_ble_eq_true rfl) dX0_give_25
