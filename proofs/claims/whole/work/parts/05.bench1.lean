set_option maxHeartbeats 4000000 in
set_option maxRecDepth 100000 in
theorem mX0_isNumber (l : Launch) (D : va_G) (cT : Nat → ClassId) (n : Nat) (ad : Nat → Nat) (A : Nat → Prop) (hD : ∀ G, va_D A (gw n ad G)) (G : Nat → va_E) (k sz cn bx : Nat) (pt : Nat → Int64) (w : Nat → Nat) (nu : Nat → Int64) (ne en : Nat → Nat) (hk : k + 6 ≤ n) (hR : RB cT ad G k sz cn bx pt w nu ne en) (i : Nat) (hi : i < 96) : Met l yX0_isNumber (wA yX0_isNumber cX0_isNumber 2 (some .boolean)) ({ frames := 0, cells := 0, slots := 0, locals := 0 } : Room) (PG D cT n ad A G [.ref (ad k), .int (nI i)]) (QG D n ad A (fun v G1 => v = some (.int (if w i = 110 then 1 else 0)) ∧ G1 = G)) 0 0 A := by
  refine Met.ofG (cc := cX0_isNumber) (maxL := 2) (ret := (some .boolean)) (by decide) (Nat.le_of_ble_eq_true rfl) ?_
  intro p e s m args below meth c Q hQ hx hb hr hml hlocks hown hw hP hK hE hA hS ls hl
  have hl : lv_has ls 2 [(0, .ref (ad k)), (1, .int (nI i))] := hl
  obtain ⟨hB, hB1, hB2, hB3, hB4, hB5, hB6, hB7, hB8⟩ := hR
  refine lv_aload_n hx hb dX0_isNumber_0 rfl (lv_at hl 0 rfl) ?_
  refine g_get (C := RX0) (T := TX0) (N := 8) hx hb hw inX0 hown hK hP (i := k) (by omega) hB rfl 3 (by decide) (hw _ wf_X0_15) rfl dX0_isNumber_1 ?_
  refine lv_iload_n hx hb dX0_isNumber_4 rfl (lv_at hl 1 rfl) ?_
  refine g_iald hx hb hK hP (i := (k + 2)) (by omega) hB2 (by omega) (by omega) dX0_isNumber_5 ?_
  have hbd_1 := hB6 i
  refine lv_bipush (v := nI 110) hx hb dX0_isNumber_6 (by decide) ?_
  refine t_icmp_ne (tgt := 15) hx hb dX0_isNumber_8 (by decide) (by omega) (by omega) (fun c_2 => ?_) (fun c_2 => ?_)
  · skip
    refine lv_iconst (v := nI 0) hx hb dX0_isNumber_15 (by decide) ?_
    refine g_ret hQ hx hb hr hlocks rfl hP hS (⟨by rw [if_neg (by omega)]; rfl, rfl⟩) (Nat.le_of_ble_eq_true rfl) (Nat.le_of_ble_eq_true rfl) dX0_isNumber_16
  · skip
    refine lv_iconst (v := nI 1) hx hb dX0_isNumber_11 (by decide) ?_
    refine lv_goto (tgt := 16) hx hb dX0_isNumber_12 (by decide) ?_
    refine g_ret hQ hx hb hr hlocks rfl hP hS (⟨by rw [if_pos (by omega)]; rfl, rfl⟩) (Nat.le_of_ble_eq_true rfl) (Nat.le_of_ble_eq_true rfl) dX0_isNumber_16

set_option maxHeartbeats 4000000 in
set_option maxRecDepth 100000 in
theorem mX0_remaining (l : Launch) (D : va_G) (cT : Nat → ClassId) (n : Nat) (ad : Nat → Nat) (A : Nat → Prop) (hD : ∀ G, va_D A (gw n ad G)) (G : Nat → va_E) (k sz cn bx : Nat) (pt : Nat → Int64) (w : Nat → Nat) (nu : Nat → Int64) (ne en : Nat → Nat) (hk : k + 6 ≤ n) (hR : RB cT ad G k sz cn bx pt w nu ne en) (i : Nat) (hi : i < 96) (hne : w i ≠ 110 → ne i ≤ en i) : Met l yX0_remaining (wA yX0_remaining cX0_remaining 2 (some .int)) ({ frames := 1, cells := 0, slots := 0, locals := 21 } : Room) (PG D cT n ad A G [.ref (ad k), .int (nI i)]) (QG D n ad A (fun v G1 => v = some (.int (nI (if w i = 110 then 0 else en i - ne i))) ∧ G1 = G)) 0 0 A := by
  refine Met.ofG (cc := cX0_remaining) (maxL := 2) (ret := (some .int)) (by decide) (Nat.le_of_ble_eq_true rfl) ?_
  intro p e s m args below meth c Q hQ hx hb hr hml hlocks hown hw hP hK hE hA hS ls hl
  have hl : lv_has ls 2 [(0, .ref (ad k)), (1, .int (nI i))] := hl
  obtain ⟨hB, hB1, hB2, hB3, hB4, hB5, hB6, hB7, hB8⟩ := hR
  refine lv_aload_n hx hb dX0_remaining_0 rfl (lv_at hl 0 rfl) ?_
  refine lv_iload_n hx hb dX0_remaining_1 rfl (lv_at hl 1 rfl) ?_
  refine g_callV (As := [.int (nI i)]) (rest := []) ⟨hx, hb, hml, hown, hw⟩ (mX0_isNumber l D cT n ad A hD G k sz cn bx pt w nu ne en (by omega) ⟨hB, hB1, hB2, hB3, hB4, hB5, hB6, hB7, hB8⟩ i (by omega)) (cwV 1 hw (gWV wm_X0_49 wi_X0_isNumber wse_X0_isNumber wini_X0 wc_X0_isNumber) rfl rfl rfl (by decide +kernel) ⟨Nat.le_of_ble_eq_true rfl, Nat.le_of_ble_eq_true rfl⟩) hK hE hA hP hS (k := k) (by omega) hB rfl rfl hl.1 (lv_room (Nat.le_of_ble_eq_true rfl)) dX0_remaining_2 ⟨Nat.le_of_ble_eq_true rfl, Nat.le_of_ble_eq_true rfl⟩ (fun v_2 G_1 H locs hp hP hS => ?_)
  obtain ⟨hv, hg⟩ := hp
  subst hv
  rw [hg] at hP
  refine t_bool_eq (tgt := 12) hx hb dX0_remaining_5 (by decide) (fun c_3 => ?_) (fun c_3 => ?_)
  · skip
    refine lv_aload_n hx hb dX0_remaining_12 rfl (lv_at hl 0 rfl) ?_
    refine g_get (C := RX0) (T := TX0) (N := 8) hx hb hw inX0 hown hK hP (i := k) (by omega) hB rfl 6 (by decide) (hw _ wf_X0_25) rfl dX0_remaining_13 ?_
    refine lv_iload_n hx hb dX0_remaining_16 rfl (lv_at hl 1 rfl) ?_
    refine g_iald hx hb hK hP (i := (k + 5)) (by omega) hB5 (by omega) (by omega) dX0_remaining_17 ?_
    have hbd_4 := hB8 i
    refine lv_aload_n hx hb dX0_remaining_18 rfl (lv_at hl 0 rfl) ?_
    refine g_get (C := RX0) (T := TX0) (N := 8) hx hb hw inX0 hown hK hP (i := k) (by omega) hB rfl 5 (by decide) (hw _ wf_X0_22) rfl dX0_remaining_19 ?_
    refine lv_iload_n hx hb dX0_remaining_22 rfl (lv_at hl 1 rfl) ?_
    refine g_iald hx hb hK hP (i := (k + 4)) (by omega) hB4 (by omega) (by omega) dX0_remaining_23 ?_
    have hbd_5 := hB7 i
    refine lv_isub hx hb dX0_remaining_24 ?_
    refine t_eqi (nI ((en i) - (ne i))) (pk_sub (by omega)) ?_
    refine g_ret hQ hx hb hr hlocks rfl hP hS (⟨by first | rw [if_pos (by assumption)] | rw [if_neg (by assumption)], rfl⟩) (Nat.le_of_ble_eq_true rfl) (Nat.le_of_ble_eq_true rfl) dX0_remaining_25
  · skip
    refine lv_iconst (v := nI 0) hx hb dX0_remaining_8 (by decide) ?_
    refine lv_goto (tgt := 25) hx hb dX0_remaining_9 (by decide) ?_
    refine g_ret hQ hx hb hr hlocks rfl hP hS (⟨by first | rw [if_pos (by assumption)] | rw [if_neg (by assumption)], rfl⟩) (Nat.le_of_ble_eq_true rfl) (Nat.le_of_ble_eq_true rfl) dX0_remaining_25

set_option maxHeartbeats 4000000 in
set_option maxRecDepth 100000 in
theorem mX0_width (l : Launch) (D : va_G) (cT : Nat → ClassId) (n : Nat) (ad : Nat → Nat) (A : Nat → Prop) (hD : ∀ G, va_D A (gw n ad G)) (G : Nat → va_E) (k sz cn bx : Nat) (pt : Nat → Int64) (w : Nat → Nat) (nu : Nat → Int64) (ne en : Nat → Nat) (hk : k + 6 ≤ n) (hR : RB cT ad G k sz cn bx pt w nu ne en) (i : Nat) (hi : i < 96) (hne : w i ≠ 110 → ne i ≤ en i) : Met l yX0_width (wA yX0_width cX0_width 2 (some .int)) ({ frames := 2, cells := 0, slots := 0, locals := 42 } : Room) (PG D cT n ad A G [.ref (ad k), .int (nI i)]) (QG D n ad A (fun v G1 => v = some (.int (nI (if w i = 110 then 1 else en i - ne i))) ∧ G1 = G)) 0 0 A := by
  refine Met.ofG (cc := cX0_width) (maxL := 2) (ret := (some .int)) (by decide) (Nat.le_of_ble_eq_true rfl) ?_
  intro p e s m args below meth c Q hQ hx hb hr hml hlocks hown hw hP hK hE hA hS ls hl
  have hl : lv_has ls 2 [(0, .ref (ad k)), (1, .int (nI i))] := hl
  obtain ⟨hB, hB1, hB2, hB3, hB4, hB5, hB6, hB7, hB8⟩ := hR
  refine lv_aload_n hx hb dX0_width_0 rfl (lv_at hl 0 rfl) ?_
  refine lv_iload_n hx hb dX0_width_1 rfl (lv_at hl 1 rfl) ?_
  refine g_callV (As := [.int (nI i)]) (rest := []) ⟨hx, hb, hml, hown, hw⟩ (mX0_isNumber l D cT n ad A hD G k sz cn bx pt w nu ne en (by omega) ⟨hB, hB1, hB2, hB3, hB4, hB5, hB6, hB7, hB8⟩ i (by omega)) (cwV 1 hw (gWV wm_X0_49 wi_X0_isNumber wse_X0_isNumber wini_X0 wc_X0_isNumber) rfl rfl rfl (by decide +kernel) ⟨Nat.le_of_ble_eq_true rfl, Nat.le_of_ble_eq_true rfl⟩) hK hE hA hP hS (k := k) (by omega) hB rfl rfl hl.1 (lv_room (Nat.le_of_ble_eq_true rfl)) dX0_width_2 ⟨Nat.le_of_ble_eq_true rfl, Nat.le_of_ble_eq_true rfl⟩ (fun v_2 G_1 H locs hp hP hS => ?_)
  obtain ⟨hv, hg⟩ := hp
  subst hv
  rw [hg] at hP
  refine t_bool_eq (tgt := 12) hx hb dX0_width_5 (by decide) (fun c_3 => ?_) (fun c_3 => ?_)
  · skip
    refine lv_aload_n hx hb dX0_width_12 rfl (lv_at hl 0 rfl) ?_
    refine lv_iload_n hx hb dX0_width_13 rfl (lv_at hl 1 rfl) ?_
    have hbd_4 := hB8 i
    refine g_callV (As := [.int (nI i)]) (rest := []) ⟨hx, hb, hml, hown, hw⟩ (mX0_remaining l D cT n ad A hD G k sz cn bx pt w nu ne en (by omega) ⟨hB, hB1, hB2, hB3, hB4, hB5, hB6, hB7, hB8⟩ i (by omega) (by omega)) (cwV 1 hw (gWV wm_X0_57 wi_X0_remaining wse_X0_remaining wini_X0 wc_X0_remaining) rfl rfl rfl (by decide +kernel) ⟨Nat.le_of_ble_eq_true rfl, Nat.le_of_ble_eq_true rfl⟩) hK hE hA hP hS (k := k) (by omega) hB rfl rfl hl.1 (lv_room (Nat.le_of_ble_eq_true rfl)) dX0_width_14 ⟨Nat.le_of_ble_eq_true rfl, Nat.le_of_ble_eq_true rfl⟩ (fun v_6 G_5 H locs hp hP hS => ?_)
    obtain ⟨hv, hg⟩ := hp
    subst hv
    rw [hg] at hP
    refine g_ret hQ hx hb hr hlocks rfl hP hS (⟨by first | rw [if_pos (by assumption)] | (rw [if_neg (by assumption), if_neg (by assumption)]), rfl⟩) (Nat.le_of_ble_eq_true rfl) (Nat.le_of_ble_eq_true rfl) dX0_width_17
  · skip
    refine lv_iconst (v := nI 1) hx hb dX0_width_8 (by decide) ?_
    refine lv_goto (tgt := 17) hx hb dX0_width_9 (by decide) ?_
    refine g_ret hQ hx hb hr hlocks rfl hP hS (⟨by first | rw [if_pos (by assumption)] | (rw [if_neg (by assumption), if_neg (by assumption)]), rfl⟩) (Nat.le_of_ble_eq_true rfl) (Nat.le_of_ble_eq_true rfl) dX0_width_17

set_option maxHeartbeats 4000000 in
set_option maxRecDepth 100000 in
theorem mX0_partAt (l : Launch) (D : va_G) (cT : Nat → ClassId) (n : Nat) (ad : Nat → Nat) (A : Nat → Prop) (hD : ∀ G, va_D A (gw n ad G)) (G : Nat → va_E) (k sz cn bx : Nat) (pt : Nat → Int64) (w : Nat → Nat) (nu : Nat → Int64) (ne en : Nat → Nat) (hk : k + 6 ≤ n) (hR : RB cT ad G k sz cn bx pt w nu ne en) (i : Nat) (hi : i < sz) (hsz : sz ≤ 48) : Met l yX0_partAt (wA yX0_partAt cX0_partAt 2 (some .long)) ({ frames := 0, cells := 0, slots := 0, locals := 0 } : Room) (PG D cT n ad A G [.ref (ad k), .int (nI i)]) (QG D n ad A (fun v G1 => v = some (.long (pt i)) ∧ G1 = G)) 0 0 A := by
  refine Met.ofG (cc := cX0_partAt) (maxL := 2) (ret := (some .long)) (by decide) (Nat.le_of_ble_eq_true rfl) ?_
  intro p e s m args below meth c Q hQ hx hb hr hml hlocks hown hw hP hK hE hA hS ls hl
  have hl : lv_has ls 2 [(0, .ref (ad k)), (1, .int (nI i))] := hl
  obtain ⟨hB, hB1, hB2, hB3, hB4, hB5, hB6, hB7, hB8⟩ := hR
  refine lv_iload_n hx hb dX0_partAt_0 rfl (lv_at hl 1 rfl) ?_
  refine t_if_lt (tgt := 21) hx hb dX0_partAt_1 (by decide) (by omega) ?_
  refine lv_iload_n hx hb dX0_partAt_4 rfl (lv_at hl 1 rfl) ?_
  refine lv_aload_n hx hb dX0_partAt_5 rfl (lv_at hl 0 rfl) ?_
  refine g_get (C := RX0) (T := TX0) (N := 8) hx hb hw inX0 hown hK hP (i := k) (by omega) hB rfl 1 (by decide) (hw _ wf_X0_28) rfl dX0_partAt_6 ?_
  refine t_icmp_ge (tgt := 21) hx hb dX0_partAt_9 (by decide) (by omega) (by omega) (fun c_2 => ?_) (fun c_2 => ?_)
  · exfalso; omega
  · skip
    refine lv_aload_n hx hb dX0_partAt_12 rfl (lv_at hl 0 rfl) ?_
    refine g_get (C := RX0) (T := TX0) (N := 8) hx hb hw inX0 hown hK hP (i := k) (by omega) hB rfl 0 (by decide) (hw _ wf_X0_9) rfl dX0_partAt_13 ?_
    refine lv_iload_n hx hb dX0_partAt_16 rfl (lv_at hl 1 rfl) ?_
    refine g_lald hx hb hK hP (i := (k + 1)) (by omega) hB1 (by omega) (by omega) dX0_partAt_17 ?_
    refine lv_goto (tgt := 22) hx hb dX0_partAt_18 (by decide) ?_
    refine g_retl hQ hx hb hr hlocks hP hS (⟨rfl, rfl⟩) (Nat.le_of_ble_eq_true rfl) (Nat.le_of_ble_eq_true rfl) dX0_partAt_22

set_option maxHeartbeats 4000000 in
set_option maxRecDepth 100000 in
theorem mX0_putPiece (l : Launch) (D : va_G) (cT : Nat → ClassId) (n : Nat) (ad : Nat → Nat) (A : Nat → Prop) (hD : ∀ G, va_D A (gw n ad G)) (G : Nat → va_E) (k sz cn bx : Nat) (pt : Nat → Int64) (w : Nat → Nat) (nu : Nat → Int64) (ne en : Nat → Nat) (hk : k + 6 ≤ n) (hR : RB cT ad G k sz cn bx pt w nu ne en) (i a b : Nat) (hi : i < 96) (ha : a < 2 ^ 31) (hb2 : b < 2 ^ 31) : Met l yX0_putPiece (wA yX0_putPiece cX0_putPiece 4 none) ({ frames := 0, cells := 0, slots := 0, locals := 0 } : Room) (PG D cT n ad A G [.ref (ad k), .int (nI i), .int (nI a), .int (nI b)]) (QG D n ad A (fun v G1 => v = none ∧ (∀ j, (j < k ∨ k + 6 ≤ j) → G1 j = G j) ∧ RB cT ad G1 k sz cn bx pt (va_up w i 112) nu (va_up ne i a) (va_up en i b))) 0 0 A := by
  refine Met.ofG (cc := cX0_putPiece) (maxL := 4) (ret := none) (by decide) (Nat.le_of_ble_eq_true rfl) ?_
  intro p e s m args below meth c Q hQ hx hb hr hml hlocks hown hw hP hK hE hA hS ls hl
  have hl : lv_has ls 4 [(0, .ref (ad k)), (1, .int (nI i)), (2, .int (nI a)), (3, .int (nI b))] := hl
  obtain ⟨hB, hB1, hB2, hB3, hB4, hB5, hB6, hB7, hB8⟩ := hR
  refine lv_aload_n hx hb dX0_putPiece_0 rfl (lv_at hl 0 rfl) ?_
  refine g_get (C := RX0) (T := TX0) (N := 8) hx hb hw inX0 hown hK hP (i := k) (by omega) hB rfl 3 (by decide) (hw _ wf_X0_15) rfl dX0_putPiece_1 ?_
  refine lv_iload_n hx hb dX0_putPiece_4 rfl (lv_at hl 1 rfl) ?_
  refine lv_bipush (v := nI 112) hx hb dX0_putPiece_5 (by decide) ?_
  have hbd_2 := up_lt hB6 (i := i) (v := 112) (by omega)
  refine g_iast hx hb hK hP hD hS (i := (k + 2)) (by omega) hB2 (by omega) (by omega) dX0_putPiece_7 (fun G_1 H locs hg_G_1 ho_G_1 hP hS => ?_)
  have hc_3 : G_1 k = .inr (2, [.ref (ad (k + 1)), .int (nI sz), .int (nI bx), .ref (ad (k + 2)), .ref (ad (k + 3)), .ref (ad (k + 4)), .ref (ad (k + 5)), .int (nI cn)]) := (ho_G_1 _ (by omega)).trans hB
  have hc_4 : G_1 (k + 1) = aJ cT 48 pt := (ho_G_1 _ (by omega)).trans hB1
  have hc_5 : G_1 (k + 2) = aI cT 96 (va_up w i 112) := hg_G_1
  have hc_6 : G_1 (k + 3) = aJ cT 96 nu := (ho_G_1 _ (by omega)).trans hB3
  have hc_7 : G_1 (k + 4) = aI cT 96 ne := (ho_G_1 _ (by omega)).trans hB4
  have hc_8 : G_1 (k + 5) = aI cT 96 en := (ho_G_1 _ (by omega)).trans hB5
  have hfr_9 : ∀ j, (j < k ∨ k + 6 ≤ j) → G_1 j = G j := fun j hj => (ho_G_1 j (by omega)).trans (rfl)
  refine lv_aload_n hx hb dX0_putPiece_8 rfl (lv_at hl 0 rfl) ?_
  refine g_get (C := RX0) (T := TX0) (N := 8) hx hb hw inX0 hown hK hP (i := k) (by omega) hc_3 rfl 5 (by decide) (hw _ wf_X0_22) rfl dX0_putPiece_9 ?_
  refine lv_iload_n hx hb dX0_putPiece_12 rfl (lv_at hl 1 rfl) ?_
  refine lv_iload_n hx hb dX0_putPiece_13 rfl (lv_at hl 2 rfl) ?_
  have hbd_11 := up_lt hB7 (i := i) (v := a) (by omega)
  refine g_iast hx hb hK hP hD hS (i := (k + 4)) (by omega) hc_7 (by omega) (by omega) dX0_putPiece_14 (fun G_10 H locs hg_G_10 ho_G_10 hP hS => ?_)
  have hc_12 : G_10 k = .inr (2, [.ref (ad (k + 1)), .int (nI sz), .int (nI bx), .ref (ad (k + 2)), .ref (ad (k + 3)), .ref (ad (k + 4)), .ref (ad (k + 5)), .int (nI cn)]) := (ho_G_10 _ (by omega)).trans hc_3
  have hc_13 : G_10 (k + 1) = aJ cT 48 pt := (ho_G_10 _ (by omega)).trans hc_4
  have hc_14 : G_10 (k + 2) = aI cT 96 (va_up w i 112) := (ho_G_10 _ (by omega)).trans hc_5
  have hc_15 : G_10 (k + 3) = aJ cT 96 nu := (ho_G_10 _ (by omega)).trans hc_6
  have hc_16 : G_10 (k + 4) = aI cT 96 (va_up ne i a) := hg_G_10
  have hc_17 : G_10 (k + 5) = aI cT 96 en := (ho_G_10 _ (by omega)).trans hc_8
  have hfr_18 : ∀ j, (j < k ∨ k + 6 ≤ j) → G_10 j = G j := fun j hj => (ho_G_10 j (by omega)).trans (hfr_9 j hj)
  refine lv_aload_n hx hb dX0_putPiece_15 rfl (lv_at hl 0 rfl) ?_
  refine g_get (C := RX0) (T := TX0) (N := 8) hx hb hw inX0 hown hK hP (i := k) (by omega) hc_12 rfl 6 (by decide) (hw _ wf_X0_25) rfl dX0_putPiece_16 ?_
  refine lv_iload_n hx hb dX0_putPiece_19 rfl (lv_at hl 1 rfl) ?_
  refine lv_iload_n hx hb dX0_putPiece_20 rfl (lv_at hl 3 rfl) ?_
  have hbd_20 := up_lt hB8 (i := i) (v := b) (by omega)
  refine g_iast hx hb hK hP hD hS (i := (k + 5)) (by omega) hc_17 (by omega) (by omega) dX0_putPiece_21 (fun G_19 H locs hg_G_19 ho_G_19 hP hS => ?_)
  have hc_21 : G_19 k = .inr (2, [.ref (ad (k + 1)), .int (nI sz), .int (nI bx), .ref (ad (k + 2)), .ref (ad (k + 3)), .ref (ad (k + 4)), .ref (ad (k + 5)), .int (nI cn)]) := (ho_G_19 _ (by omega)).trans hc_12
  have hc_22 : G_19 (k + 1) = aJ cT 48 pt := (ho_G_19 _ (by omega)).trans hc_13
  have hc_23 : G_19 (k + 2) = aI cT 96 (va_up w i 112) := (ho_G_19 _ (by omega)).trans hc_14
  have hc_24 : G_19 (k + 3) = aJ cT 96 nu := (ho_G_19 _ (by omega)).trans hc_15
  have hc_25 : G_19 (k + 4) = aI cT 96 (va_up ne i a) := (ho_G_19 _ (by omega)).trans hc_16
  have hc_26 : G_19 (k + 5) = aI cT 96 (va_up en i b) := hg_G_19
  have hfr_27 : ∀ j, (j < k ∨ k + 6 ≤ j) → G_19 j = G j := fun j hj => (ho_G_19 j (by omega)).trans (hfr_18 j hj)
  refine g_retv hQ hx hb hr hlocks hP hS (⟨rfl, hfr_27, hc_21, hc_22, hc_23, hc_24, hc_25, hc_26, hbd_2, hbd_11, hbd_20⟩) (Nat.le_of_ble_eq_true rfl) (Nat.le_of_ble_eq_true rfl) dX0_putPiece_22

set_option maxHeartbeats 4000000 in
set_option maxRecDepth 100000 in
theorem mX0_putNumber (l : Launch) (D : va_G) (cT : Nat → ClassId) (n : Nat) (ad : Nat → Nat) (A : Nat → Prop) (hD : ∀ G, va_D A (gw n ad G)) (G : Nat → va_E) (k sz cn bx : Nat) (pt : Nat → Int64) (w : Nat → Nat) (nu : Nat → Int64) (ne en : Nat → Nat) (hk : k + 6 ≤ n) (hR : RB cT ad G k sz cn bx pt w nu ne en) (i : Nat) (x : Int64) (hi : i < 96) : Met l yX0_putNumber (wA yX0_putNumber cX0_putNumber 4 none) ({ frames := 0, cells := 0, slots := 0, locals := 0 } : Room) (PG D cT n ad A G [.ref (ad k), .int (nI i), .long x]) (QG D n ad A (fun v G1 => v = none ∧ (∀ j, (j < k ∨ k + 6 ≤ j) → G1 j = G j) ∧ RB cT ad G1 k sz cn bx pt (va_up w i 110) (va_up nu i x) ne en)) 0 0 A := by
  refine Met.ofG (cc := cX0_putNumber) (maxL := 4) (ret := none) (by decide) (Nat.le_of_ble_eq_true rfl) ?_
  intro p e s m args below meth c Q hQ hx hb hr hml hlocks hown hw hP hK hE hA hS ls hl
  have hl : lv_has ls 4 [(0, .ref (ad k)), (1, .int (nI i)), (2, .long x)] := hl
  obtain ⟨hB, hB1, hB2, hB3, hB4, hB5, hB6, hB7, hB8⟩ := hR
  refine lv_aload_n hx hb dX0_putNumber_0 rfl (lv_at hl 0 rfl) ?_
  refine g_get (C := RX0) (T := TX0) (N := 8) hx hb hw inX0 hown hK hP (i := k) (by omega) hB rfl 3 (by decide) (hw _ wf_X0_15) rfl dX0_putNumber_1 ?_
  refine lv_iload_n hx hb dX0_putNumber_4 rfl (lv_at hl 1 rfl) ?_
  refine lv_bipush (v := nI 110) hx hb dX0_putNumber_5 (by decide) ?_
  have hbd_2 := up_lt hB6 (i := i) (v := 110) (by omega)
  refine g_iast hx hb hK hP hD hS (i := (k + 2)) (by omega) hB2 (by omega) (by omega) dX0_putNumber_7 (fun G_1 H locs hg_G_1 ho_G_1 hP hS => ?_)
  have hc_3 : G_1 k = .inr (2, [.ref (ad (k + 1)), .int (nI sz), .int (nI bx), .ref (ad (k + 2)), .ref (ad (k + 3)), .ref (ad (k + 4)), .ref (ad (k + 5)), .int (nI cn)]) := (ho_G_1 _ (by omega)).trans hB
  have hc_4 : G_1 (k + 1) = aJ cT 48 pt := (ho_G_1 _ (by omega)).trans hB1
  have hc_5 : G_1 (k + 2) = aI cT 96 (va_up w i 110) := hg_G_1
  have hc_6 : G_1 (k + 3) = aJ cT 96 nu := (ho_G_1 _ (by omega)).trans hB3
  have hc_7 : G_1 (k + 4) = aI cT 96 ne := (ho_G_1 _ (by omega)).trans hB4
  have hc_8 : G_1 (k + 5) = aI cT 96 en := (ho_G_1 _ (by omega)).trans hB5
  have hfr_9 : ∀ j, (j < k ∨ k + 6 ≤ j) → G_1 j = G j := fun j hj => (ho_G_1 j (by omega)).trans (rfl)
  refine lv_aload_n hx hb dX0_putNumber_8 rfl (lv_at hl 0 rfl) ?_
  refine g_get (C := RX0) (T := TX0) (N := 8) hx hb hw inX0 hown hK hP (i := k) (by omega) hc_3 rfl 4 (by decide) (hw _ wf_X0_19) rfl dX0_putNumber_9 ?_
  refine lv_iload_n hx hb dX0_putNumber_12 rfl (lv_at hl 1 rfl) ?_
  refine lv_lload_n hx hb dX0_putNumber_13 rfl (lv_at hl 2 rfl) ?_
  refine g_last hx hb hK hP hD hS (i := (k + 3)) (by omega) hc_6 (by omega) (by omega) dX0_putNumber_14 (fun G_10 H locs hg_G_10 ho_G_10 hP hS => ?_)
  have hc_11 : G_10 k = .inr (2, [.ref (ad (k + 1)), .int (nI sz), .int (nI bx), .ref (ad (k + 2)), .ref (ad (k + 3)), .ref (ad (k + 4)), .ref (ad (k + 5)), .int (nI cn)]) := (ho_G_10 _ (by omega)).trans hc_3
  have hc_12 : G_10 (k + 1) = aJ cT 48 pt := (ho_G_10 _ (by omega)).trans hc_4
  have hc_13 : G_10 (k + 2) = aI cT 96 (va_up w i 110) := (ho_G_10 _ (by omega)).trans hc_5
  have hc_14 : G_10 (k + 3) = aJ cT 96 (va_up nu i x) := hg_G_10
  have hc_15 : G_10 (k + 4) = aI cT 96 ne := (ho_G_10 _ (by omega)).trans hc_7
  have hc_16 : G_10 (k + 5) = aI cT 96 en := (ho_G_10 _ (by omega)).trans hc_8
  have hfr_17 : ∀ j, (j < k ∨ k + 6 ≤ j) → G_10 j = G j := fun j hj => (ho_G_10 j (by omega)).trans (hfr_9 j hj)
  refine g_retv hQ hx hb hr hlocks hP hS (⟨rfl, hfr_17, hc_11, hc_12, hc_13, hc_14, hc_15, hc_16, hbd_2, hB7, hB8⟩) (Nat.le_of_ble_eq_true rfl) (Nat.le_of_ble_eq_true rfl) dX0_putNumber_15

set_option maxHeartbeats 4000000 in
set_option maxRecDepth 100000 in
theorem mX0_copyItem (l : Launch) (D : va_G) (cT : Nat → ClassId) (n : Nat) (ad : Nat → Nat) (A : Nat → Prop) (hD : ∀ G, va_D A (gw n ad G)) (G : Nat → va_E) (k sz cn bx : Nat) (pt : Nat → Int64) (w : Nat → Nat) (nu : Nat → Int64) (ne en : Nat → Nat) (hk : k + 6 ≤ n) (hR : RB cT ad G k sz cn bx pt w nu ne en) (i j : Nat) (hi : i < 96) (hj : j < 96) : Met l yX0_copyItem (wA yX0_copyItem cX0_copyItem 3 none) ({ frames := 0, cells := 0, slots := 0, locals := 0 } : Room) (PG D cT n ad A G [.ref (ad k), .int (nI i), .int (nI j)]) (QG D n ad A (fun v G1 => v = none ∧ (∀ j, (j < k ∨ k + 6 ≤ j) → G1 j = G j) ∧ RB cT ad G1 k sz cn bx pt (va_up w j (w i)) (va_up nu j (nu i)) (va_up ne j (ne i)) (va_up en j (en i)))) 0 0 A := by
  refine Met.ofG (cc := cX0_copyItem) (maxL := 3) (ret := none) (by decide) (Nat.le_of_ble_eq_true rfl) ?_
  intro p e s m args below meth c Q hQ hx hb hr hml hlocks hown hw hP hK hE hA hS ls hl
  have hl : lv_has ls 3 [(0, .ref (ad k)), (1, .int (nI i)), (2, .int (nI j))] := hl
  obtain ⟨hB, hB1, hB2, hB3, hB4, hB5, hB6, hB7, hB8⟩ := hR
  refine lv_aload_n hx hb dX0_copyItem_0 rfl (lv_at hl 0 rfl) ?_
  refine g_get (C := RX0) (T := TX0) (N := 8) hx hb hw inX0 hown hK hP (i := k) (by omega) hB rfl 3 (by decide) (hw _ wf_X0_15) rfl dX0_copyItem_1 ?_
  refine lv_iload_n hx hb dX0_copyItem_4 rfl (lv_at hl 2 rfl) ?_
  refine lv_aload_n hx hb dX0_copyItem_5 rfl (lv_at hl 0 rfl) ?_
  refine g_get (C := RX0) (T := TX0) (N := 8) hx hb hw inX0 hown hK hP (i := k) (by omega) hB rfl 3 (by decide) (hw _ wf_X0_15) rfl dX0_copyItem_6 ?_
  refine lv_iload_n hx hb dX0_copyItem_9 rfl (lv_at hl 1 rfl) ?_
  refine g_iald hx hb hK hP (i := (k + 2)) (by omega) hB2 (by omega) (by omega) dX0_copyItem_10 ?_
  have hbd_1 := hB6 i
  have hbd_3 := up_lt hB6 (i := j) (v := (w i)) (by omega)
  refine g_iast hx hb hK hP hD hS (i := (k + 2)) (by omega) hB2 (by omega) (by omega) dX0_copyItem_11 (fun G_2 H locs hg_G_2 ho_G_2 hP hS => ?_)
  have hc_4 : G_2 k = .inr (2, [.ref (ad (k + 1)), .int (nI sz), .int (nI bx), .ref (ad (k + 2)), .ref (ad (k + 3)), .ref (ad (k + 4)), .ref (ad (k + 5)), .int (nI cn)]) := (ho_G_2 _ (by omega)).trans hB
  have hc_5 : G_2 (k + 1) = aJ cT 48 pt := (ho_G_2 _ (by omega)).trans hB1
  have hc_6 : G_2 (k + 2) = aI cT 96 (va_up w j (w i)) := hg_G_2
  have hc_7 : G_2 (k + 3) = aJ cT 96 nu := (ho_G_2 _ (by omega)).trans hB3
  have hc_8 : G_2 (k + 4) = aI cT 96 ne := (ho_G_2 _ (by omega)).trans hB4
  have hc_9 : G_2 (k + 5) = aI cT 96 en := (ho_G_2 _ (by omega)).trans hB5
  have hfr_10 : ∀ j, (j < k ∨ k + 6 ≤ j) → G_2 j = G j := fun j hj => (ho_G_2 j (by omega)).trans (rfl)
  refine lv_aload_n hx hb dX0_copyItem_12 rfl (lv_at hl 0 rfl) ?_
  refine g_get (C := RX0) (T := TX0) (N := 8) hx hb hw inX0 hown hK hP (i := k) (by omega) hc_4 rfl 4 (by decide) (hw _ wf_X0_19) rfl dX0_copyItem_13 ?_
  refine lv_iload_n hx hb dX0_copyItem_16 rfl (lv_at hl 2 rfl) ?_
  refine lv_aload_n hx hb dX0_copyItem_17 rfl (lv_at hl 0 rfl) ?_
  refine g_get (C := RX0) (T := TX0) (N := 8) hx hb hw inX0 hown hK hP (i := k) (by omega) hc_4 rfl 4 (by decide) (hw _ wf_X0_19) rfl dX0_copyItem_18 ?_
  refine lv_iload_n hx hb dX0_copyItem_21 rfl (lv_at hl 1 rfl) ?_
  refine g_lald hx hb hK hP (i := (k + 3)) (by omega) hc_7 (by omega) (by omega) dX0_copyItem_22 ?_
  refine g_last hx hb hK hP hD hS (i := (k + 3)) (by omega) hc_7 (by omega) (by omega) dX0_copyItem_23 (fun G_11 H locs hg_G_11 ho_G_11 hP hS => ?_)
  have hc_12 : G_11 k = .inr (2, [.ref (ad (k + 1)), .int (nI sz), .int (nI bx), .ref (ad (k + 2)), .ref (ad (k + 3)), .ref (ad (k + 4)), .ref (ad (k + 5)), .int (nI cn)]) := (ho_G_11 _ (by omega)).trans hc_4
  have hc_13 : G_11 (k + 1) = aJ cT 48 pt := (ho_G_11 _ (by omega)).trans hc_5
  have hc_14 : G_11 (k + 2) = aI cT 96 (va_up w j (w i)) := (ho_G_11 _ (by omega)).trans hc_6
  have hc_15 : G_11 (k + 3) = aJ cT 96 (va_up nu j (nu i)) := hg_G_11
  have hc_16 : G_11 (k + 4) = aI cT 96 ne := (ho_G_11 _ (by omega)).trans hc_8
  have hc_17 : G_11 (k + 5) = aI cT 96 en := (ho_G_11 _ (by omega)).trans hc_9
  have hfr_18 : ∀ j, (j < k ∨ k + 6 ≤ j) → G_11 j = G j := fun j hj => (ho_G_11 j (by omega)).trans (hfr_10 j hj)
  refine lv_aload_n hx hb dX0_copyItem_24 rfl (lv_at hl 0 rfl) ?_
  refine g_get (C := RX0) (T := TX0) (N := 8) hx hb hw inX0 hown hK hP (i := k) (by omega) hc_12 rfl 5 (by decide) (hw _ wf_X0_22) rfl dX0_copyItem_25 ?_
  refine lv_iload_n hx hb dX0_copyItem_28 rfl (lv_at hl 2 rfl) ?_
  refine lv_aload_n hx hb dX0_copyItem_29 rfl (lv_at hl 0 rfl) ?_
  refine g_get (C := RX0) (T := TX0) (N := 8) hx hb hw inX0 hown hK hP (i := k) (by omega) hc_12 rfl 5 (by decide) (hw _ wf_X0_22) rfl dX0_copyItem_30 ?_
  refine lv_iload_n hx hb dX0_copyItem_33 rfl (lv_at hl 1 rfl) ?_
  refine g_iald hx hb hK hP (i := (k + 4)) (by omega) hc_16 (by omega) (by omega) dX0_copyItem_34 ?_
  have hbd_19 := hB7 i
  have hbd_21 := up_lt hB7 (i := j) (v := (ne i)) (by omega)
  refine g_iast hx hb hK hP hD hS (i := (k + 4)) (by omega) hc_16 (by omega) (by omega) dX0_copyItem_35 (fun G_20 H locs hg_G_20 ho_G_20 hP hS => ?_)
  have hc_22 : G_20 k = .inr (2, [.ref (ad (k + 1)), .int (nI sz), .int (nI bx), .ref (ad (k + 2)), .ref (ad (k + 3)), .ref (ad (k + 4)), .ref (ad (k + 5)), .int (nI cn)]) := (ho_G_20 _ (by omega)).trans hc_12
  have hc_23 : G_20 (k + 1) = aJ cT 48 pt := (ho_G_20 _ (by omega)).trans hc_13
  have hc_24 : G_20 (k + 2) = aI cT 96 (va_up w j (w i)) := (ho_G_20 _ (by omega)).trans hc_14
  have hc_25 : G_20 (k + 3) = aJ cT 96 (va_up nu j (nu i)) := (ho_G_20 _ (by omega)).trans hc_15
  have hc_26 : G_20 (k + 4) = aI cT 96 (va_up ne j (ne i)) := hg_G_20
  have hc_27 : G_20 (k + 5) = aI cT 96 en := (ho_G_20 _ (by omega)).trans hc_17
  have hfr_28 : ∀ j, (j < k ∨ k + 6 ≤ j) → G_20 j = G j := fun j hj => (ho_G_20 j (by omega)).trans (hfr_18 j hj)
  refine lv_aload_n hx hb dX0_copyItem_36 rfl (lv_at hl 0 rfl) ?_
  refine g_get (C := RX0) (T := TX0) (N := 8) hx hb hw inX0 hown hK hP (i := k) (by omega) hc_22 rfl 6 (by decide) (hw _ wf_X0_25) rfl dX0_copyItem_37 ?_
  refine lv_iload_n hx hb dX0_copyItem_40 rfl (lv_at hl 2 rfl) ?_
  refine lv_aload_n hx hb dX0_copyItem_41 rfl (lv_at hl 0 rfl) ?_
  refine g_get (C := RX0) (T := TX0) (N := 8) hx hb hw inX0 hown hK hP (i := k) (by omega) hc_22 rfl 6 (by decide) (hw _ wf_X0_25) rfl dX0_copyItem_42 ?_
  refine lv_iload_n hx hb dX0_copyItem_45 rfl (lv_at hl 1 rfl) ?_
  refine g_iald hx hb hK hP (i := (k + 5)) (by omega) hc_27 (by omega) (by omega) dX0_copyItem_46 ?_
  have hbd_29 := hB8 i
  have hbd_31 := up_lt hB8 (i := j) (v := (en i)) (by omega)
  refine g_iast hx hb hK hP hD hS (i := (k + 5)) (by omega) hc_27 (by omega) (by omega) dX0_copyItem_47 (fun G_30 H locs hg_G_30 ho_G_30 hP hS => ?_)
  have hc_32 : G_30 k = .inr (2, [.ref (ad (k + 1)), .int (nI sz), .int (nI bx), .ref (ad (k + 2)), .ref (ad (k + 3)), .ref (ad (k + 4)), .ref (ad (k + 5)), .int (nI cn)]) := (ho_G_30 _ (by omega)).trans hc_22
  have hc_33 : G_30 (k + 1) = aJ cT 48 pt := (ho_G_30 _ (by omega)).trans hc_23
  have hc_34 : G_30 (k + 2) = aI cT 96 (va_up w j (w i)) := (ho_G_30 _ (by omega)).trans hc_24
  have hc_35 : G_30 (k + 3) = aJ cT 96 (va_up nu j (nu i)) := (ho_G_30 _ (by omega)).trans hc_25
  have hc_36 : G_30 (k + 4) = aI cT 96 (va_up ne j (ne i)) := (ho_G_30 _ (by omega)).trans hc_26
  have hc_37 : G_30 (k + 5) = aI cT 96 (va_up en j (en i)) := hg_G_30
  have hfr_38 : ∀ j, (j < k ∨ k + 6 ≤ j) → G_30 j = G j := fun j hj => (ho_G_30 j (by omega)).trans (hfr_28 j hj)
  refine g_retv hQ hx hb hr hlocks hP hS (⟨rfl, hfr_38, hc_32, hc_33, hc_34, hc_35, hc_36, hc_37, hbd_3, hbd_21, hbd_31⟩) (Nat.le_of_ble_eq_true rfl) (Nat.le_of_ble_eq_true rfl) dX0_copyItem_48
