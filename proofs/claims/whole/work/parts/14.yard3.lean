set_option maxHeartbeats 4000000 in
set_option maxRecDepth 100000 in
theorem mX2_isOfInts (l : Launch) (D : va_G) (cT : Nat → ClassId) (n : Nat) (ad : Nat → Nat) (A : Nat → Prop) (hD : ∀ G, va_D A (gw n ad G)) (G : Nat → va_E) (ch : Nat) (hch : ch < 65536) : Met l yX2_isOfInts (wA yX2_isOfInts cX2_isOfInts 1 (some .boolean)) ({ frames := 0, cells := 0, slots := 0, locals := 0 } : Room) (PG D cT n ad A G [.int (nI ch)]) (QG D n ad A (fun v G1 => v = some (.int (if ¬ ch = 108 then 1 else 0)) ∧ G1 = G)) 0 0 A := by
  refine Met.ofG (cc := cX2_isOfInts) (maxL := 1) (ret := (some .boolean)) (by decide) (Nat.le_of_ble_eq_true rfl) ?_
  intro p e s m args below meth c Q hQ hx hb hr hml hlocks hown hw hP hK hE hA hS ls hl
  have hl : lv_has ls 1 [(0, .int (nI ch))] := hl
  refine lv_iload_n hx hb dX2_isOfInts_0 rfl (lv_at hl 0 rfl) ?_
  refine lv_bipush (v := nI 108) hx hb dX2_isOfInts_1 (by decide) ?_
  refine t_icmp_eq (tgt := 10) hx hb dX2_isOfInts_3 (by decide) (by omega) (by omega) (fun c_1 => ?_) (fun c_1 => ?_)
  · skip
    refine lv_iconst (v := nI 0) hx hb dX2_isOfInts_10 (by decide) ?_
    refine g_ret hQ hx hb hr hlocks rfl hP hS (⟨by rw [if_neg (by omega)]; rfl, rfl⟩) (Nat.le_of_ble_eq_true rfl) (Nat.le_of_ble_eq_true rfl) dX2_isOfInts_11
  · skip
    refine lv_iconst (v := nI 1) hx hb dX2_isOfInts_6 (by decide) ?_
    refine lv_goto (tgt := 11) hx hb dX2_isOfInts_7 (by decide) ?_
    refine g_ret hQ hx hb hr hlocks rfl hP hS (⟨by rw [if_pos (by omega)]; rfl, rfl⟩) (Nat.le_of_ble_eq_true rfl) (Nat.le_of_ble_eq_true rfl) dX2_isOfInts_11

set_option maxHeartbeats 4000000 in
set_option maxRecDepth 100000 in
theorem mX2_characteristicsOf (l : Launch) (D : va_G) (cT : Nat → ClassId) (n : Nat) (ad : Nat → Nat) (A : Nat → Prop) (hD : ∀ G, va_D A (gw n ad G)) (G : Nat → va_E) (ch : Nat) (hch : ch < 65536) : Met l yX2_characteristicsOf (wA yX2_characteristicsOf cX2_characteristicsOf 1 (some .int)) ({ frames := 0, cells := 0, slots := 0, locals := 0 } : Room) (PG D cT n ad A G [.int (nI ch)]) (QG D n ad A (fun v G1 => v = some (.int (nI (chx ch))) ∧ G1 = G)) 0 0 A := by
  refine Met.ofG (cc := cX2_characteristicsOf) (maxL := 1) (ret := (some .int)) (by decide) (Nat.le_of_ble_eq_true rfl) ?_
  intro p e s m args below meth c Q hQ hx hb hr hml hlocks hown hw hP hK hE hA hS ls hl
  have hl : lv_has ls 1 [(0, .int (nI ch))] := hl
  refine lv_iload_n hx hb dX2_characteristicsOf_0 rfl (lv_at hl 0 rfl) ?_
  by_cases hc97 : ch = 97
  · subst hc97
    refine lv_lookup (off := 65) (tgt := 66) hx hb dX2_characteristicsOf_1 (by decide) (by decide) (by decide) ?_
    refine lv_sipush (v := nI 17488) hx hb dX2_characteristicsOf_66 (by decide) ?_
    refine g_ret hQ hx hb hr hlocks rfl hP hS (⟨rfl, rfl⟩) (Nat.le_of_ble_eq_true rfl) (Nat.le_of_ble_eq_true rfl) dX2_characteristicsOf_69
  by_cases hc105 : ch = 105
  · subst hc105
    refine lv_lookup (off := 61) (tgt := 62) hx hb dX2_characteristicsOf_1 (by decide) (by decide) (by decide) ?_
    refine lv_sipush (v := nI 1024) hx hb dX2_characteristicsOf_62 (by decide) ?_
    refine g_ret hQ hx hb hr hlocks rfl hP hS (⟨rfl, rfl⟩) (Nat.le_of_ble_eq_true rfl) (Nat.le_of_ble_eq_true rfl) dX2_characteristicsOf_65
  by_cases hc111 : ch = 111
  · subst hc111
    refine lv_lookup (off := 51) (tgt := 52) hx hb dX2_characteristicsOf_1 (by decide) (by decide) (by decide) ?_
    refine lv_bipush (v := nI 16) hx hb dX2_characteristicsOf_52 (by decide) ?_
    refine g_ret hQ hx hb hr hlocks rfl hP hS (⟨rfl, rfl⟩) (Nat.le_of_ble_eq_true rfl) (Nat.le_of_ble_eq_true rfl) dX2_characteristicsOf_54
  by_cases hc115 : ch = 115
  · subst hc115
    refine lv_lookup (off := 54) (tgt := 55) hx hb dX2_characteristicsOf_1 (by decide) (by decide) (by decide) ?_
    refine lv_bipush (v := nI 64) hx hb dX2_characteristicsOf_55 (by decide) ?_
    refine g_ret hQ hx hb hr hlocks rfl hP hS (⟨rfl, rfl⟩) (Nat.le_of_ble_eq_true rfl) (Nat.le_of_ble_eq_true rfl) dX2_characteristicsOf_57
  by_cases hc117 : ch = 117
  · subst hc117
    refine lv_lookup (off := 57) (tgt := 58) hx hb dX2_characteristicsOf_1 (by decide) (by decide) (by decide) ?_
    refine lv_sipush (v := nI 16384) hx hb dX2_characteristicsOf_58 (by decide) ?_
    refine g_ret hQ hx hb hr hlocks rfl hP hS (⟨rfl, rfl⟩) (Nat.le_of_ble_eq_true rfl) (Nat.le_of_ble_eq_true rfl) dX2_characteristicsOf_61
  refine lv_lookup (off := 69) (tgt := 70) hx hb dX2_characteristicsOf_1 (by decide) (by rw [nI_toInt (by omega)]; exact lk_def ch hc97 hc105 hc111 hc115 hc117) (by decide) ?_
  refine lv_iconst (v := nI 0) hx hb dX2_characteristicsOf_70 (by decide) ?_
  refine g_ret hQ hx hb hr hlocks rfl hP hS (⟨by unfold chx; rw [if_neg hc97, if_neg hc105, if_neg hc111, if_neg hc115, if_neg hc117], rfl⟩) (Nat.le_of_ble_eq_true rfl) (Nat.le_of_ble_eq_true rfl) dX2_characteristicsOf_71

set_option maxHeartbeats 4000000 in
set_option maxRecDepth 100000 in
theorem mX2_requirePieceSize (l : Launch) (hl9 : l.stackTraces = false) (D : va_G) (cT : Nat → ClassId) (n : Nat) (ad : Nat → Nat) (A : Nat → Prop) (hD : ∀ G, va_D A (gw n ad G)) (G : Nat → va_E) (y : Int32) : vx_Met l yX2_requirePieceSize (wA yX2_requirePieceSize cX2_requirePieceSize 1 none) ({ frames := 6, cells := 1, slots := 6, locals := 82 } : Room) (PG D cT n ad A G [.int y]) (QG D n ad A (fun v G1 => (∃ q, 1 ≤ q ∧ q ≤ 48 ∧ y = nI q) ∧ v = none ∧ G1 = G)) (XG D n ad A G (fun E => mBad y ∧ E = xIA)) 1 6 A := by
  refine vx_ofG (cc := cX2_requirePieceSize) (maxL := 1) (ret := none) (by decide) (Nat.le_of_ble_eq_true rfl) ?_
  intro p e s m args below meth c Q hQ hX ht hx hb hr hml hlocks hown hw hP hK hE hA hS ls hl
  have hl : lv_has ls 1 [(0, .int y)] := hl
  refine lv_iload_n hx hb dX2_requirePieceSize_0 rfl (lv_at hl 0 rfl) ?_
  refine lv_iconst (v := nI 1) hx hb dX2_requirePieceSize_1 (by decide) ?_
  refine lv_icmp_lt (tgt := 11) hx hb dX2_requirePieceSize_2 (by decide) (fun c_1 => ?_) (fun c_1 => ?_)
  · skip
    refine g_throwS (text := "no such size of a piece") hX ht hx hb hl9 hown hlocks hw hE hP hS (hl.1.trans hml.symm) (by decide +kernel) (by decide +kernel) at_IA wcl_X2_35 wini_java_lang_IllegalArgumentException (by decide +kernel) (⟨Or.inl c_1, rfl⟩) dX2_requirePieceSize_11 dX2_requirePieceSize_14 dX2_requirePieceSize_15 dX2_requirePieceSize_17 dX2_requirePieceSize_20 (Nat.le_of_ble_eq_true rfl) (Nat.le_of_ble_eq_true rfl) (Nat.le_of_ble_eq_true rfl) (Nat.le_of_ble_eq_true rfl) (Nat.le_of_ble_eq_true rfl) (Nat.le_of_ble_eq_true rfl)
  · skip
    refine lv_iload_n hx hb dX2_requirePieceSize_5 rfl (lv_at hl 0 rfl) ?_
    refine lv_bipush (v := nI 48) hx hb dX2_requirePieceSize_6 (by decide) ?_
    refine lv_icmp_le (tgt := 21) hx hb dX2_requirePieceSize_8 (by decide) (fun c_2 => ?_) (fun c_2 => ?_)
    · skip
      refine g_retv hQ hx hb hr hlocks hP hS (⟨most_ix c_1 c_2, rfl, rfl⟩) (Nat.le_of_ble_eq_true rfl) (Nat.le_of_ble_eq_true rfl) dX2_requirePieceSize_21
    · skip
      refine g_throwS (text := "no such size of a piece") hX ht hx hb hl9 hown hlocks hw hE hP hS (hl.1.trans hml.symm) (by decide +kernel) (by decide +kernel) at_IA wcl_X2_35 wini_java_lang_IllegalArgumentException (by decide +kernel) (⟨Or.inr (Int32.not_le.mp c_2), rfl⟩) dX2_requirePieceSize_11 dX2_requirePieceSize_14 dX2_requirePieceSize_15 dX2_requirePieceSize_17 dX2_requirePieceSize_20 (Nat.le_of_ble_eq_true rfl) (Nat.le_of_ble_eq_true rfl) (Nat.le_of_ble_eq_true rfl) (Nat.le_of_ble_eq_true rfl) (Nat.le_of_ble_eq_true rfl) (Nat.le_of_ble_eq_true rfl)

set_option maxHeartbeats 4000000 in
set_option maxRecDepth 100000 in
theorem mX2_append (l : Launch) (hl9 : l.stackTraces = false) (D : va_G) (cT : Nat → ClassId) (n : Nat) (ad : Nat → Nat) (A : Nat → Prop) (hD : ∀ G, va_D A (gw n ad G)) (G : Nat → va_E) (σ : TY) (hY : YW cT ad G σ) (hn : 69 ≤ n) (hI : YI σ) (ch : Nat) (hch : ch < 65536) (x : Int32) (z : Int64) : vx_Met l yX2_append (wA yX2_append cX2_append 6 (some .int)) ({ frames := 7, cells := 2, slots := 12, locals := 105 } : Room) (PG D cT n ad A G [.ref (ad 0), .int (nI ch), .int x, .long z]) (QG D n ad A (fun v G1 => nmOK ch z ∧ onR ch x (fun r => (σ.1 r).1 < 48 ∧ v = some (.int (nI ((σ.1 r).1 + 1))) ∧ YW cT ad G1 (setR σ r ((σ.1 r).1 + 1, va_up (σ.1 r).2 (σ.1 r).1 z))) ∧ ∀ j, 69 ≤ j → G1 j = G j)) (XG D n ad A G (fun E => (¬ nmOK ch z ∧ E = xIA) ∨ (nmOK ch z ∧ (pxRow ch x E ∨ onR ch x (fun r => (σ.1 r).1 = 48 ∧ E = xIS))))) 2 12 A := by
  refine vx_ofG (cc := cX2_append) (maxL := 6) (ret := (some .int)) (by decide) (Nat.le_of_ble_eq_true rfl) ?_
  intro p e s m args below meth c Q hQ hX ht hx hb hr hml hlocks hown hw hP hK hE hA hS ls hl
  have hl : lv_has ls 6 [(0, .ref (ad 0)), (1, .int (nI ch)), (2, .int x), (3, .long z)] := hl
  obtain ⟨hy0, hy1, hy2⟩ := hY.1
  refine lv_iload_n hx hb dX2_append_0 rfl (lv_at hl 1 rfl) ?_
  refine g_callS (As := [.int (nI ch)]) (rest := []) ⟨hx, hb, hml, hown, hw⟩ (mX2_isOfInts l D cT n ad A hD G ch (by omega)) (va_cwS 1 hw (gWS wm_X2_31 wst_X2_isOfInts wini_X2 wc_X2_isOfInts) rfl rfl rfl (by decide +kernel) ⟨Nat.le_of_ble_eq_true rfl, Nat.le_of_ble_eq_true rfl⟩) hK hE hA hP hS rfl hl.1 (lv_room (Nat.le_of_ble_eq_true rfl)) dX2_append_1 ⟨Nat.le_of_ble_eq_true rfl, Nat.le_of_ble_eq_true rfl⟩ (fun v_2 G_1 H locs hp hP hS => ?_)
  obtain ⟨hv, hg⟩ := hp
  subst hv
  rw [hg] at hP
  refine t_bool_eq (tgt := 25) hx hb dX2_append_4 (by decide) (fun c_3 => ?_) (fun c_3 => ?_)
  · skip
    have hnm : nmOK ch z := Or.inl (Decidable.byContradiction c_3)
    refine lv_aload_n hx hb dX2_append_25 rfl (lv_at hl 0 rfl) ?_
    refine lv_iload_n hx hb dX2_append_26 rfl (lv_at hl 1 rfl) ?_
    refine lv_iload_n hx hb dX2_append_27 rfl (lv_at hl 2 rfl) ?_
    refine g_callVX (As := [.int (nI ch), .int x]) (rest := []) ⟨hx, hb, hml, hown, hw⟩ (mX2_rowOf l hl9 D cT n ad A hD G σ hY hn ch (by omega) x) (cwV 2 hw (gWV wm_X2_42 wi_X2_rowOf wse_X2_rowOf wini_X2 wc_X2_rowOf) rfl rfl rfl (by decide +kernel) ⟨Nat.le_of_ble_eq_true rfl, Nat.le_of_ble_eq_true rfl⟩) hK hE hA hP hS (k := 0) (by omega) hy0 rfl rfl hl.1 (lv_room (Nat.le_of_ble_eq_true rfl)) dX2_append_28 ⟨Nat.le_of_ble_eq_true rfl, Nat.le_of_ble_eq_true rfl⟩ (fun E ce q9 H locs hpx hP hS hce hcv hcl => g_out hX ht hlocks hP hS (Or.inr ⟨hnm, Or.inl hpx⟩) hce hcv hcl (Nat.le_of_ble_eq_true rfl) (Nat.le_of_ble_eq_true rfl)) (fun v_5 G_4 H locs hp hP hS => ?_)
    obtain ⟨⟨q, j, hq, hj, hkd, hxj, hv⟩, hg⟩ := hp
    subst hv
    rw [hg] at hP
    subst hxj
    have hrr := hY.2.1 (4 * q + j) (by omega)
    have hrc := hI.1 (4 * q + j) (by omega)
    obtain ⟨hR1a, hR1b⟩ := id hrr
    refine lv_astore (lv' := [(5, .ref (ad (9 + 2 * (4 * q + j)))), (0, .ref (ad 0)), (1, .int (nI ch)), (2, .int (nI j)), (3, .long z)]) hx hb dX2_append_31 hl (by decide) rfl (fun ls hl => ?_)
    refine lv_aload hx hb dX2_append_33 (lv_at hl 0 rfl) ?_
    refine lv_lload_n hx hb dX2_append_35 rfl (lv_at hl 4 rfl) ?_
    by_cases hfull : (σ.1 (4 * q + j)).1 = 48
    · skip
      refine g_callV (As := [.long z]) (rest := []) ⟨hx, hb, hml, hown, hw⟩ (mX1_addF l D cT n ad A hD G (9 + 2 * (4 * q + j)) ((σ.1 (4 * q + j)).1) ((σ.1 (4 * q + j)).2) (by omega) ⟨hR1a, hR1b⟩ z (by omega)) (cwV 1 hw (gWV wm_X2_46 wi_X1_add wse_X1_add wini_X1 wc_X1_add) rfl rfl rfl (by decide +kernel) ⟨Nat.le_of_ble_eq_true rfl, Nat.le_of_ble_eq_true rfl⟩) hK hE hA hP hS (k := (9 + 2 * (4 * q + j))) (by omega) hR1a rfl rfl hl.1 (lv_room (Nat.le_of_ble_eq_true rfl)) dX2_append_36 ⟨Nat.le_of_ble_eq_true rfl, Nat.le_of_ble_eq_true rfl⟩ (fun v_7 G_6 H locs hp hP hS => ?_)
      obtain ⟨hv, hg⟩ := hp
      subst hv
      rw [hg] at hP
      refine t_if_ne (tgt := 52) hx hb dX2_append_39 (by decide) (by omega) (fun c_8 => absurd c_8 (by omega)) (fun c_8 => ?_)
      refine g_throwS (text := "the row is full") hX ht hx hb hl9 hown hlocks hw hE hP hS (hl.1.trans hml.symm) (by decide +kernel) (by decide +kernel) at_IS wcl_X2_50 wini_java_lang_IllegalStateException (by decide +kernel) (Or.inr ⟨hnm, Or.inr ⟨q, j, hq, hj, hkd, rfl, by omega, rfl⟩⟩) dX2_append_42 dX2_append_45 dX2_append_46 dX2_append_48 dX2_append_51 (Nat.le_of_ble_eq_true rfl) (Nat.le_of_ble_eq_true rfl) (Nat.le_of_ble_eq_true rfl) (Nat.le_of_ble_eq_true rfl) (Nat.le_of_ble_eq_true rfl) (Nat.le_of_ble_eq_true rfl)
    · skip
      refine g_callV (As := [.long z]) (rest := []) ⟨hx, hb, hml, hown, hw⟩ (mX1_add l D cT n ad A hD G (9 + 2 * (4 * q + j)) ((σ.1 (4 * q + j)).1) ((σ.1 (4 * q + j)).2) (by omega) ⟨hR1a, hR1b⟩ z (by omega)) (cwV 1 hw (gWV wm_X2_46 wi_X1_add wse_X1_add wini_X1 wc_X1_add) rfl rfl rfl (by decide +kernel) ⟨Nat.le_of_ble_eq_true rfl, Nat.le_of_ble_eq_true rfl⟩) hK hE hA hP hS (k := (9 + 2 * (4 * q + j))) (by omega) hR1a rfl rfl hl.1 (lv_room (Nat.le_of_ble_eq_true rfl)) dX2_append_36 ⟨Nat.le_of_ble_eq_true rfl, Nat.le_of_ble_eq_true rfl⟩ (fun v_10 G_9 H locs hp hP hS => ?_)
      obtain ⟨hv, hf_11, hr_12, hr_13⟩ := hp
      subst hv
      have hc_14 : G_9 0 = .inr (4, [.ref (ad 1), .ref (ad 2), .ref (ad 3)]) := (hf_11 _ (by omega)).trans hy0
      have hc_15 : G_9 1 = aQ (cT 5) 12 (rQ ad) := (hf_11 _ (by omega)).trans hy1
      have hc_16 : G_9 2 = aQ (cT 6) 6 (bQ ad) := (hf_11 _ (by omega)).trans hy2
      refine t_if_ne (tgt := 52) hx hb dX2_append_39 (by decide) (by omega) (fun c_17 => ?_) (fun c_17 => absurd c_17 (by omega))
      refine lv_aload hx hb dX2_append_52 (lv_at hl 0 rfl) ?_
      refine g_getN (C := RX1) (T := TX1) (N := 2) hx hb hw inX1 hown hK hP (i := (9 + 2 * (4 * q + j))) (by omega) hr_12 rfl 1 (by decide) (hE.2.2.1 (55, "Splityard$Row", "count", "I") (by decide +kernel)) rfl dX2_append_54 ?_
      refine g_ret hQ hx hb hr hlocks rfl hP hS (⟨hnm, ⟨q, j, hq, hj, hkd, rfl, by omega, rfl, YW.row hY (by omega) hf_11 ⟨hr_12, hr_13⟩⟩, fun j hj => hf_11 j (by omega)⟩) (Nat.le_of_ble_eq_true rfl) (Nat.le_of_ble_eq_true rfl) dX2_append_57
  · skip
    refine lv_lload_n hx hb dX2_append_7 rfl (lv_at hl 3 rfl) ?_
    refine lv_lload_n hx hb dX2_append_8 rfl (lv_at hl 3 rfl) ?_
    refine lv_l2i hx hb dX2_append_9 rfl ?_
    refine lv_i2l hx hb dX2_append_10 rfl ?_
    refine W.lcmp hx hb dX2_append_11 ?_
    refine lv_if_eq (tgt := 25) hx hb dX2_append_12 (by decide) (fun c_18 => ?_) (fun c_18 => ?_)
    · skip
      have hnm : nmOK ch z := Or.inr ((lg_cmp_eq _ _).mp c_18)
      refine lv_aload_n hx hb dX2_append_25 rfl (lv_at hl 0 rfl) ?_
      refine lv_iload_n hx hb dX2_append_26 rfl (lv_at hl 1 rfl) ?_
      refine lv_iload_n hx hb dX2_append_27 rfl (lv_at hl 2 rfl) ?_
      refine g_callVX (As := [.int (nI ch), .int x]) (rest := []) ⟨hx, hb, hml, hown, hw⟩ (mX2_rowOf l hl9 D cT n ad A hD G σ hY hn ch (by omega) x) (cwV 2 hw (gWV wm_X2_42 wi_X2_rowOf wse_X2_rowOf wini_X2 wc_X2_rowOf) rfl rfl rfl (by decide +kernel) ⟨Nat.le_of_ble_eq_true rfl, Nat.le_of_ble_eq_true rfl⟩) hK hE hA hP hS (k := 0) (by omega) hy0 rfl rfl hl.1 (lv_room (Nat.le_of_ble_eq_true rfl)) dX2_append_28 ⟨Nat.le_of_ble_eq_true rfl, Nat.le_of_ble_eq_true rfl⟩ (fun E ce q9 H locs hpx hP hS hce hcv hcl => g_out hX ht hlocks hP hS (Or.inr ⟨hnm, Or.inl hpx⟩) hce hcv hcl (Nat.le_of_ble_eq_true rfl) (Nat.le_of_ble_eq_true rfl)) (fun v_20 G_19 H locs hp hP hS => ?_)
      obtain ⟨⟨q, j, hq, hj, hkd, hxj, hv⟩, hg⟩ := hp
      subst hv
      rw [hg] at hP
      subst hxj
      have hrr := hY.2.1 (4 * q + j) (by omega)
      have hrc := hI.1 (4 * q + j) (by omega)
      obtain ⟨hR1a, hR1b⟩ := id hrr
      refine lv_astore (lv' := [(5, .ref (ad (9 + 2 * (4 * q + j)))), (0, .ref (ad 0)), (1, .int (nI ch)), (2, .int (nI j)), (3, .long z)]) hx hb dX2_append_31 hl (by decide) rfl (fun ls hl => ?_)
      refine lv_aload hx hb dX2_append_33 (lv_at hl 0 rfl) ?_
      refine lv_lload_n hx hb dX2_append_35 rfl (lv_at hl 4 rfl) ?_
      by_cases hfull : (σ.1 (4 * q + j)).1 = 48
      · skip
        refine g_callV (As := [.long z]) (rest := []) ⟨hx, hb, hml, hown, hw⟩ (mX1_addF l D cT n ad A hD G (9 + 2 * (4 * q + j)) ((σ.1 (4 * q + j)).1) ((σ.1 (4 * q + j)).2) (by omega) ⟨hR1a, hR1b⟩ z (by omega)) (cwV 1 hw (gWV wm_X2_46 wi_X1_add wse_X1_add wini_X1 wc_X1_add) rfl rfl rfl (by decide +kernel) ⟨Nat.le_of_ble_eq_true rfl, Nat.le_of_ble_eq_true rfl⟩) hK hE hA hP hS (k := (9 + 2 * (4 * q + j))) (by omega) hR1a rfl rfl hl.1 (lv_room (Nat.le_of_ble_eq_true rfl)) dX2_append_36 ⟨Nat.le_of_ble_eq_true rfl, Nat.le_of_ble_eq_true rfl⟩ (fun v_22 G_21 H locs hp hP hS => ?_)
        obtain ⟨hv, hg⟩ := hp
        subst hv
        rw [hg] at hP
        refine t_if_ne (tgt := 52) hx hb dX2_append_39 (by decide) (by omega) (fun c_23 => absurd c_23 (by omega)) (fun c_23 => ?_)
        refine g_throwS (text := "the row is full") hX ht hx hb hl9 hown hlocks hw hE hP hS (hl.1.trans hml.symm) (by decide +kernel) (by decide +kernel) at_IS wcl_X2_50 wini_java_lang_IllegalStateException (by decide +kernel) (Or.inr ⟨hnm, Or.inr ⟨q, j, hq, hj, hkd, rfl, by omega, rfl⟩⟩) dX2_append_42 dX2_append_45 dX2_append_46 dX2_append_48 dX2_append_51 (Nat.le_of_ble_eq_true rfl) (Nat.le_of_ble_eq_true rfl) (Nat.le_of_ble_eq_true rfl) (Nat.le_of_ble_eq_true rfl) (Nat.le_of_ble_eq_true rfl) (Nat.le_of_ble_eq_true rfl)
      · skip
        refine g_callV (As := [.long z]) (rest := []) ⟨hx, hb, hml, hown, hw⟩ (mX1_add l D cT n ad A hD G (9 + 2 * (4 * q + j)) ((σ.1 (4 * q + j)).1) ((σ.1 (4 * q + j)).2) (by omega) ⟨hR1a, hR1b⟩ z (by omega)) (cwV 1 hw (gWV wm_X2_46 wi_X1_add wse_X1_add wini_X1 wc_X1_add) rfl rfl rfl (by decide +kernel) ⟨Nat.le_of_ble_eq_true rfl, Nat.le_of_ble_eq_true rfl⟩) hK hE hA hP hS (k := (9 + 2 * (4 * q + j))) (by omega) hR1a rfl rfl hl.1 (lv_room (Nat.le_of_ble_eq_true rfl)) dX2_append_36 ⟨Nat.le_of_ble_eq_true rfl, Nat.le_of_ble_eq_true rfl⟩ (fun v_25 G_24 H locs hp hP hS => ?_)
        obtain ⟨hv, hf_26, hr_27, hr_28⟩ := hp
        subst hv
        have hc_29 : G_24 0 = .inr (4, [.ref (ad 1), .ref (ad 2), .ref (ad 3)]) := (hf_26 _ (by omega)).trans hy0
        have hc_30 : G_24 1 = aQ (cT 5) 12 (rQ ad) := (hf_26 _ (by omega)).trans hy1
        have hc_31 : G_24 2 = aQ (cT 6) 6 (bQ ad) := (hf_26 _ (by omega)).trans hy2
        refine t_if_ne (tgt := 52) hx hb dX2_append_39 (by decide) (by omega) (fun c_32 => ?_) (fun c_32 => absurd c_32 (by omega))
        refine lv_aload hx hb dX2_append_52 (lv_at hl 0 rfl) ?_
        refine g_getN (C := RX1) (T := TX1) (N := 2) hx hb hw inX1 hown hK hP (i := (9 + 2 * (4 * q + j))) (by omega) hr_27 rfl 1 (by decide) (hE.2.2.1 (55, "Splityard$Row", "count", "I") (by decide +kernel)) rfl dX2_append_54 ?_
        refine g_ret hQ hx hb hr hlocks rfl hP hS (⟨hnm, ⟨q, j, hq, hj, hkd, rfl, by omega, rfl, YW.row hY (by omega) hf_26 ⟨hr_27, hr_28⟩⟩, fun j hj => hf_26 j (by omega)⟩) (Nat.le_of_ble_eq_true rfl) (Nat.le_of_ble_eq_true rfl) dX2_append_57
    · skip
      have hnm : ¬ nmOK ch z := fun q => q.elim c_3 (fun q => c_18 ((lg_cmp_eq _ _).mpr q))
      refine g_throwS (text := "no number of this kind") hX ht hx hb hl9 hown hlocks hw hE hP hS (hl.1.trans hml.symm) (by decide +kernel) (by decide +kernel) at_IA wcl_X2_35 wini_java_lang_IllegalArgumentException (by decide +kernel) (Or.inl ⟨hnm, rfl⟩) dX2_append_15 dX2_append_18 dX2_append_19 dX2_append_21 dX2_append_24 (Nat.le_of_ble_eq_true rfl) (Nat.le_of_ble_eq_true rfl) (Nat.le_of_ble_eq_true rfl) (Nat.le_of_ble_eq_true rfl) (Nat.le_of_ble_eq_true rfl) (Nat.le_of_ble_eq_true rfl)

set_option maxHeartbeats 4000000 in
set_option maxRecDepth 100000 in
theorem mX2_lay (l : Launch) (hl9 : l.stackTraces = false) (D : va_G) (cT : Nat → ClassId) (n : Nat) (ad : Nat → Nat) (A : Nat → Prop) (hD : ∀ G, va_D A (gw n ad G)) (G : Nat → va_E) (σ : TY) (hY : YW cT ad G σ) (hn : 69 ≤ n) (hI : YI σ) (ch : Nat) (hch : ch < 65536) (x y : Int32) (a b : Int64) : vx_Met l yX2_lay (wA yX2_lay cX2_lay 13 (some .int)) ({ frames := 7, cells := 1, slots := 6, locals := 105 } : Room) (PG D cT n ad A G [.ref (ad 0), .int (nI ch), .int x, .int y, .long a, .long b]) (QG D n ad A (fun v G1 => (∃ t, t ≤ 48 ∧ y = nI t ∧ onR ch x (fun r => v = some (.int (nI (σ.1 r).1)) ∧ YW cT ad G1 (setR σ r (t, gvF (σ.1 r).2 0 t (layF ch a b))))) ∧ ∀ j, 69 ≤ j → G1 j = G j)) (XG D n ad A G (fun E => ((y < 0 ∨ nI 48 < y) ∧ E = xIA) ∨ (∃ t, t ≤ 48 ∧ y = nI t ∧ pxRow ch x E))) 1 6 A := by
  refine vx_ofG (cc := cX2_lay) (maxL := 13) (ret := (some .int)) (by decide) (Nat.le_of_ble_eq_true rfl) ?_
  intro p e s m args below meth c Q hQ hX ht hx hb hr hml hlocks hown hw hP hK hE hA hS ls hl
  have hl : lv_has ls 13 [(0, .ref (ad 0)), (1, .int (nI ch)), (2, .int x), (3, .int y), (4, .long a), (6, .long b)] := hl
  obtain ⟨hy0, hy1, hy2⟩ := hY.1
  refine lv_iload_n hx hb dX2_lay_0 rfl (lv_at hl 3 rfl) ?_
  refine lv_if_lt (tgt := 10) hx hb dX2_lay_1 (by decide) (fun c_1 => ?_) (fun c_1 => ?_)
  · skip
    refine g_throwS (text := "no such length of a row") hX ht hx hb hl9 hown hlocks hw hE hP hS (hl.1.trans hml.symm) (by decide +kernel) (by decide +kernel) at_IA wcl_X2_35 wini_java_lang_IllegalArgumentException (by decide +kernel) (Or.inl ⟨Or.inl c_1, rfl⟩) dX2_lay_10 dX2_lay_13 dX2_lay_14 dX2_lay_16 dX2_lay_19 (Nat.le_of_ble_eq_true rfl) (Nat.le_of_ble_eq_true rfl) (Nat.le_of_ble_eq_true rfl) (Nat.le_of_ble_eq_true rfl) (Nat.le_of_ble_eq_true rfl) (Nat.le_of_ble_eq_true rfl)
  · skip
    refine lv_iload_n hx hb dX2_lay_4 rfl (lv_at hl 3 rfl) ?_
    refine lv_bipush (v := nI 48) hx hb dX2_lay_5 (by decide) ?_
    refine lv_icmp_le (tgt := 20) hx hb dX2_lay_7 (by decide) (fun c_2 => ?_) (fun c_2 => ?_)
    · skip
      obtain ⟨t, ht48, rfl⟩ := cnt_ix (by decide) c_1 c_2
      refine lv_aload_n hx hb dX2_lay_20 rfl (lv_at hl 0 rfl) ?_
      refine lv_iload_n hx hb dX2_lay_21 rfl (lv_at hl 1 rfl) ?_
      refine lv_iload_n hx hb dX2_lay_22 rfl (lv_at hl 2 rfl) ?_
      refine g_callVX (As := [.int (nI ch), .int x]) (rest := []) ⟨hx, hb, hml, hown, hw⟩ (mX2_rowOf l hl9 D cT n ad A hD G σ hY hn ch (by omega) x) (cwV 2 hw (gWV wm_X2_42 wi_X2_rowOf wse_X2_rowOf wini_X2 wc_X2_rowOf) rfl rfl rfl (by decide +kernel) ⟨Nat.le_of_ble_eq_true rfl, Nat.le_of_ble_eq_true rfl⟩) hK hE hA hP hS (k := 0) (by omega) hy0 rfl rfl hl.1 (lv_room (Nat.le_of_ble_eq_true rfl)) dX2_lay_23 ⟨Nat.le_of_ble_eq_true rfl, Nat.le_of_ble_eq_true rfl⟩ (fun E ce q9 H locs hpx hP hS hce hcv hcl => g_out hX ht hlocks hP hS (Or.inr ⟨t, ht48, rfl, hpx⟩) hce hcv hcl (Nat.le_of_ble_eq_true rfl) (Nat.le_of_ble_eq_true rfl)) (fun v_4 G_3 H locs hp hP hS => ?_)
      obtain ⟨⟨q, j, hq, hj, hkd, hxj, hv⟩, hg⟩ := hp
      subst hv
      rw [hg] at hP
      subst hxj
      have hrr := hY.2.1 (4 * q + j) (by omega)
      have hrc := hI.1 (4 * q + j) (by omega)
      obtain ⟨hR1a, hR1b⟩ := id hrr
      refine lv_astore (lv' := [(8, .ref (ad (9 + 2 * (4 * q + j)))), (0, .ref (ad 0)), (1, .int (nI ch)), (2, .int (nI j)), (3, .int (nI t)), (4, .long a), (6, .long b)]) hx hb dX2_lay_26 hl (by decide) rfl (fun ls hl => ?_)
      refine lv_aload hx hb dX2_lay_28 (lv_at hl 0 rfl) ?_
      refine g_getN (C := RX1) (T := TX1) (N := 2) hx hb hw inX1 hown hK hP (i := (9 + 2 * (4 * q + j))) (by omega) hR1a rfl 1 (by decide) (hE.2.2.1 (55, "Splityard$Row", "count", "I") (by decide +kernel)) rfl dX2_lay_30 ?_
      refine lv_istore (lv' := [(9, .int (nI ((σ.1 (4 * q + j)).1))), (8, .ref (ad (9 + 2 * (4 * q + j)))), (0, .ref (ad 0)), (1, .int (nI ch)), (2, .int (nI j)), (3, .int (nI t)), (4, .long a), (6, .long b)]) hx hb dX2_lay_33 hl (by decide) rfl (fun ls hl => ?_)
      refine lv_aload hx hb dX2_lay_35 (lv_at hl 1 rfl) ?_
      refine g_callV (As := []) (rest := []) ⟨hx, hb, hml, hown, hw⟩ (mX1_clear l D cT n ad A hD G (9 + 2 * (4 * q + j)) ((σ.1 (4 * q + j)).1) ((σ.1 (4 * q + j)).2) (by omega) ⟨hR1a, hR1b⟩) (cwV 0 hw (gWV wm_X2_61 wi_X1_clear wse_X1_clear wini_X1 wc_X1_clear) rfl rfl rfl (by decide +kernel) ⟨Nat.le_of_ble_eq_true rfl, Nat.le_of_ble_eq_true rfl⟩) hK hE hA hP hS (k := (9 + 2 * (4 * q + j))) (by omega) hR1a rfl rfl hl.1 (lv_room (Nat.le_of_ble_eq_true rfl)) dX2_lay_37 ⟨Nat.le_of_ble_eq_true rfl, Nat.le_of_ble_eq_true rfl⟩ (fun v_6 G_5 H locs hp hP hS => ?_)
      obtain ⟨hv, hf_7, hr_8, hr_9⟩ := hp
      subst hv
      have hc_10 : G_5 0 = .inr (4, [.ref (ad 1), .ref (ad 2), .ref (ad 3)]) := (hf_7 _ (by omega)).trans hy0
      have hc_11 : G_5 1 = aQ (cT 5) 12 (rQ ad) := (hf_7 _ (by omega)).trans hy1
      have hc_12 : G_5 2 = aQ (cT 6) 6 (bQ ad) := (hf_7 _ (by omega)).trans hy2
      refine lv_lload hx hb dX2_lay_40 (lv_at hl 6 rfl) ?_
      refine lv_lstore (lv' := [(10, .long a), (9, .int (nI ((σ.1 (4 * q + j)).1))), (8, .ref (ad (9 + 2 * (4 * q + j)))), (0, .ref (ad 0)), (1, .int (nI ch)), (2, .int (nI j)), (3, .int (nI t)), (4, .long a), (6, .long b)]) hx hb dX2_lay_42 hl (by decide) rfl (fun ls hl => ?_)
      refine lv_iconst (v := nI 0) hx hb dX2_lay_44 (by decide) ?_
      refine lv_istore (lv' := [(12, .int (nI 0)), (10, .long a), (9, .int (nI ((σ.1 (4 * q + j)).1))), (8, .ref (ad (9 + 2 * (4 * q + j)))), (0, .ref (ad 0)), (1, .int (nI ch)), (2, .int (nI j)), (3, .int (nI t)), (4, .long a), (6, .long b)]) hx hb dX2_lay_45 hl (by decide) rfl (fun ls hl => ?_)
      have key_13 : ∀ (fu : Nat) (u : Nat), (u ≤ t) → (t - u) < fu → ∀ (Gl : Nat → va_E) (H : Heap) (locs : List Loc), (∀ j9, (j9 < 9 + 2 * (4 * q + j) ∨ 9 + 2 * (4 * q + j) + 2 ≤ j9) → Gl j9 = G j9) → (RR cT ad Gl (9 + 2 * (4 * q + j)) u (gvF (σ.1 (4 * q + j)).2 0 u (layF ch a b))) → va_P D vwCl (gw n ad Gl) H → va_S A s.heap H locs → ∀ ls : Array Slot, lv_has ls 13 [(12, .int (nI u)), (10, .long (lz a b u)), (9, .int (nI ((σ.1 (4 * q + j)).1))), (8, .ref (ad (9 + 2 * (4 * q + j)))), (6, .long b), (4, .long a), (3, .int (nI t)), (2, .int (nI j)), (1, .int (nI ch)), (0, .ref (ad 0))] → W p l e ({ frames := 7, cells := 1, slots := 6, locals := 105 } : Room) s m args below meth c H locs 1 6 Q (F0 m 47 ls []) := by
        intro fu_14
        induction fu_14 with
        | zero => intros; exfalso; omega
        | succ fu_14 ih_15 =>
          intro u hu hfu_16 Gl H locs hfL hRL hP hS ls hl
          obtain ⟨hL1, hL2⟩ := hRL
          refine lv_iload hx hb dX2_lay_47 (lv_at hl 0 rfl) ?_
          refine lv_iload_n hx hb dX2_lay_49 rfl (lv_at hl 6 rfl) ?_
          refine t_icmp_ge (tgt := 88) hx hb dX2_lay_50 (by decide) (by omega) (by omega) (fun c_17 => ?_) (fun c_17 => ?_)
          · skip
            have hut : u = t := by omega
            subst hut
            refine lv_iload hx hb dX2_lay_88 (lv_at hl 2 rfl) ?_
            refine g_ret hQ hx hb hr hlocks rfl hP hS (⟨⟨u, ht48, rfl, ⟨q, j, hq, hj, hkd, rfl, rfl, YW.row hY (by omega) hfL ⟨hL1, hL2⟩⟩⟩, fun j9 hj => hfL j9 (by omega)⟩) (Nat.le_of_ble_eq_true rfl) (Nat.le_of_ble_eq_true rfl) dX2_lay_90
          · skip
            refine lv_aload hx hb dX2_lay_53 (lv_at hl 3 rfl) ?_
            refine lv_iload_n hx hb dX2_lay_55 rfl (lv_at hl 8 rfl) ?_
            refine g_callS (As := [.int (nI ch)]) (rest := [.ref (ad (9 + 2 * (4 * q + j)))]) ⟨hx, hb, hml, hown, hw⟩ (mX2_isOfInts l D cT n ad A hD Gl ch (by omega)) (va_cwS 1 hw (gWS wm_X2_31 wst_X2_isOfInts wini_X2 wc_X2_isOfInts) rfl rfl rfl (by decide +kernel) ⟨Nat.le_of_ble_eq_true rfl, Nat.le_of_ble_eq_true rfl⟩) hK hE hA hP hS rfl hl.1 (lv_room (Nat.le_of_ble_eq_true rfl)) dX2_lay_56 ⟨Nat.le_of_ble_eq_true rfl, Nat.le_of_ble_eq_true rfl⟩ (fun v_19 G_18 H locs hp hP hS => ?_)
            obtain ⟨hv, hg⟩ := hp
            subst hv
            rw [hg] at hP
            refine t_bool_eq (tgt := 69) hx hb dX2_lay_59 (by decide) (fun c_20 => ?_) (fun c_20 => ?_)
            · skip
              refine lv_lload hx hb dX2_lay_69 (lv_at hl 1 rfl) ?_
              refine g_callV (As := [.long (lz a b u)]) (rest := []) ⟨hx, hb, hml, hown, hw⟩ (mX1_add l D cT n ad A hD Gl (9 + 2 * (4 * q + j)) u (gvF (σ.1 (4 * q + j)).2 0 u (layF ch a b)) (by omega) ⟨hL1, hL2⟩ (lz a b u) (by omega)) (cwV 1 hw (gWV wm_X2_46 wi_X1_add wse_X1_add wini_X1 wc_X1_add) rfl rfl rfl (by decide +kernel) ⟨Nat.le_of_ble_eq_true rfl, Nat.le_of_ble_eq_true rfl⟩) hK hE hA hP hS (k := (9 + 2 * (4 * q + j))) (by omega) hL1 rfl rfl hl.1 (lv_room (Nat.le_of_ble_eq_true rfl)) dX2_lay_71 ⟨Nat.le_of_ble_eq_true rfl, Nat.le_of_ble_eq_true rfl⟩ (fun v_22 G_21 H locs hp hP hS => ?_)
              obtain ⟨hv, hf_23, hr_24, hr_25⟩ := hp
              subst hv
              refine lv_pop hx hb dX2_lay_74 rfl ?_
              refine lv_lload hx hb dX2_lay_75 (lv_at hl 1 rfl) ?_
              refine lv_lload hx hb dX2_lay_77 (lv_at hl 4 rfl) ?_
              refine lv_ladd hx hb dX2_lay_79 ?_
              refine lv_lstore (lv' := [(10, .long ((lz a b u) + b)), (12, .int (nI u)), (9, .int (nI ((σ.1 (4 * q + j)).1))), (8, .ref (ad (9 + 2 * (4 * q + j)))), (6, .long b), (4, .long a), (3, .int (nI t)), (2, .int (nI j)), (1, .int (nI ch)), (0, .ref (ad 0))]) hx hb dX2_lay_80 hl (by decide) rfl (fun ls hl => ?_)
              refine lv_iinc (v := nI (u + 1)) (lv' := [(12, .int (nI (u + 1))), (10, .long ((lz a b u) + b)), (9, .int (nI ((σ.1 (4 * q + j)).1))), (8, .ref (ad (9 + 2 * (4 * q + j)))), (6, .long b), (4, .long a), (3, .int (nI t)), (2, .int (nI j)), (1, .int (nI ch)), (0, .ref (ad 0))]) hx hb dX2_lay_82 hl (k := 1) rfl (by exact nI_add u 1) (by decide) rfl (fun ls hl => ?_)
              refine lv_goto (tgt := 47) hx hb dX2_lay_85 (by decide) ?_
              exact ih_15 (u + 1) (by omega) (by omega) _ _ _ (fun j9 hj9 => (hf_23 j9 hj9).trans (hfL j9 hj9)) (⟨hr_24, hr_25.trans (congrArg (aJ cT 48) (by have hgs := gvF_step (σ.1 (4 * q + j)).2 0 u (layF ch a b); rw [Nat.zero_add] at hgs; rw [← hgs, show layF ch a b u = _ from if_pos (by omega)]))⟩) hP hS ls (lv_sub hl [0, 1, 2, 3, 4, 5, 6, 7, 8, 9] rfl)
            · skip
              refine lv_lload hx hb dX2_lay_62 (lv_at hl 1 rfl) ?_
              refine lv_l2i hx hb dX2_lay_64 rfl ?_
              refine lv_i2l hx hb dX2_lay_65 rfl ?_
              refine lv_goto (tgt := 71) hx hb dX2_lay_66 (by decide) ?_
              refine g_callV (As := [.long (((lz a b u).toInt32).toInt64)]) (rest := []) ⟨hx, hb, hml, hown, hw⟩ (mX1_add l D cT n ad A hD Gl (9 + 2 * (4 * q + j)) u (gvF (σ.1 (4 * q + j)).2 0 u (layF ch a b)) (by omega) ⟨hL1, hL2⟩ (((lz a b u).toInt32).toInt64) (by omega)) (cwV 1 hw (gWV wm_X2_46 wi_X1_add wse_X1_add wini_X1 wc_X1_add) rfl rfl rfl (by decide +kernel) ⟨Nat.le_of_ble_eq_true rfl, Nat.le_of_ble_eq_true rfl⟩) hK hE hA hP hS (k := (9 + 2 * (4 * q + j))) (by omega) hL1 rfl rfl hl.1 (lv_room (Nat.le_of_ble_eq_true rfl)) dX2_lay_71 ⟨Nat.le_of_ble_eq_true rfl, Nat.le_of_ble_eq_true rfl⟩ (fun v_27 G_26 H locs hp hP hS => ?_)
              obtain ⟨hv, hf_28, hr_29, hr_30⟩ := hp
              subst hv
              refine lv_pop hx hb dX2_lay_74 rfl ?_
              refine lv_lload hx hb dX2_lay_75 (lv_at hl 1 rfl) ?_
              refine lv_lload hx hb dX2_lay_77 (lv_at hl 4 rfl) ?_
              refine lv_ladd hx hb dX2_lay_79 ?_
              refine lv_lstore (lv' := [(10, .long ((lz a b u) + b)), (12, .int (nI u)), (9, .int (nI ((σ.1 (4 * q + j)).1))), (8, .ref (ad (9 + 2 * (4 * q + j)))), (6, .long b), (4, .long a), (3, .int (nI t)), (2, .int (nI j)), (1, .int (nI ch)), (0, .ref (ad 0))]) hx hb dX2_lay_80 hl (by decide) rfl (fun ls hl => ?_)
              refine lv_iinc (v := nI (u + 1)) (lv' := [(12, .int (nI (u + 1))), (10, .long ((lz a b u) + b)), (9, .int (nI ((σ.1 (4 * q + j)).1))), (8, .ref (ad (9 + 2 * (4 * q + j)))), (6, .long b), (4, .long a), (3, .int (nI t)), (2, .int (nI j)), (1, .int (nI ch)), (0, .ref (ad 0))]) hx hb dX2_lay_82 hl (k := 1) rfl (by exact nI_add u 1) (by decide) rfl (fun ls hl => ?_)
              refine lv_goto (tgt := 47) hx hb dX2_lay_85 (by decide) ?_
              exact ih_15 (u + 1) (by omega) (by omega) _ _ _ (fun j9 hj9 => (hf_28 j9 hj9).trans (hfL j9 hj9)) (⟨hr_29, hr_30.trans (congrArg (aJ cT 48) (by have hgs := gvF_step (σ.1 (4 * q + j)).2 0 u (layF ch a b); rw [Nat.zero_add] at hgs; rw [← hgs, show layF ch a b u = _ from if_neg (by omega)]))⟩) hP hS ls (lv_sub hl [0, 1, 2, 3, 4, 5, 6, 7, 8, 9] rfl)
      exact key_13 _ 0 (by omega) (Nat.lt_succ_self _) _ _ _ (hf_7) (⟨hr_8, hr_9.trans (by rw [gvF_0])⟩) hP hS ls (lv_sub hl [0, 1, 2, 3, 9, 8, 7, 6, 5, 4] rfl)
    · skip
      refine g_throwS (text := "no such length of a row") hX ht hx hb hl9 hown hlocks hw hE hP hS (hl.1.trans hml.symm) (by decide +kernel) (by decide +kernel) at_IA wcl_X2_35 wini_java_lang_IllegalArgumentException (by decide +kernel) (Or.inl ⟨Or.inr (Int32.not_le.mp c_2), rfl⟩) dX2_lay_10 dX2_lay_13 dX2_lay_14 dX2_lay_16 dX2_lay_19 (Nat.le_of_ble_eq_true rfl) (Nat.le_of_ble_eq_true rfl) (Nat.le_of_ble_eq_true rfl) (Nat.le_of_ble_eq_true rfl) (Nat.le_of_ble_eq_true rfl) (Nat.le_of_ble_eq_true rfl)

set_option maxHeartbeats 4000000 in
set_option maxRecDepth 100000 in
theorem mX2_open (l : Launch) (hl9 : l.stackTraces = false) (D : va_G) (cT : Nat → ClassId) (n : Nat) (ad : Nat → Nat) (A : Nat → Prop) (hD : ∀ G, va_D A (gw n ad G)) (G : Nat → va_E) (σ : TY) (hY : YW cT ad G σ) (hn : 69 ≤ n) (hI : YI σ) (x : Int32) (ch : Nat) (hch : ch < 65536) (y u z : Int32) : vx_Met l yX2_open (wA yX2_open cX2_open 8 (some .int)) ({ frames := 7, cells := 3, slots := 18, locals := 105 } : Room) (PG D cT n ad A G [.ref (ad 0), .int x, .int (nI ch), .int y, .int u, .int z]) (QG D n ad A (fun v G1 => onB x (fun b => onR ch y (fun r => ∃ a t, a ≤ t ∧ t ≤ (σ.1 r).1 ∧ u = nI a ∧ z = nI t ∧ v = some (.int (nI (t - a))) ∧ YW cT ad G1 (setB σ b (openB (σ.1 r).2 a t (isO ch))))) ∧ ∀ j, 69 ≤ j → G1 j = G j)) (XG D n ad A G (pxOpen σ x ch y u z)) 3 18 A := by
  refine vx_ofG (cc := cX2_open) (maxL := 8) (ret := (some .int)) (by decide) (Nat.le_of_ble_eq_true rfl) ?_
  intro p e s m args below meth c Q hQ hX ht hx hb hr hml hlocks hown hw hP hK hE hA hS ls hl
  have hl : lv_has ls 8 [(0, .ref (ad 0)), (1, .int x), (2, .int (nI ch)), (3, .int y), (4, .int u), (5, .int z)] := hl
  obtain ⟨hy0, hy1, hy2⟩ := hY.1
  refine lv_aload_n hx hb dX2_open_0 rfl (lv_at hl 0 rfl) ?_
  refine lv_iload_n hx hb dX2_open_1 rfl (lv_at hl 2 rfl) ?_
  refine lv_iload_n hx hb dX2_open_2 rfl (lv_at hl 3 rfl) ?_
  refine g_callVX (As := [.int (nI ch), .int y]) (rest := []) ⟨hx, hb, hml, hown, hw⟩ (mX2_rowOf l hl9 D cT n ad A hD G σ hY hn ch (by omega) y) (cwV 2 hw (gWV wm_X2_42 wi_X2_rowOf wse_X2_rowOf wini_X2 wc_X2_rowOf) rfl rfl rfl (by decide +kernel) ⟨Nat.le_of_ble_eq_true rfl, Nat.le_of_ble_eq_true rfl⟩) hK hE hA hP hS (k := 0) (by omega) hy0 rfl rfl hl.1 (lv_room (Nat.le_of_ble_eq_true rfl)) dX2_open_3 ⟨Nat.le_of_ble_eq_true rfl, Nat.le_of_ble_eq_true rfl⟩ (fun E ce q9 H locs hpx hP hS hce hcv hcl => g_out hX ht hlocks hP hS (hpx.elim (fun h => Or.inl h) (fun h => Or.inr ⟨h.1, h.2.2, Or.inl h.2.1⟩)) hce hcv hcl (Nat.le_of_ble_eq_true rfl) (Nat.le_of_ble_eq_true rfl)) (fun v_2 G_1 H locs hp hP hS => ?_)
  obtain ⟨⟨q, j, hq, hj, hkd, hxj, hv⟩, hg⟩ := hp
  subst hv
  rw [hg] at hP
  subst hxj
  have hrr := hY.2.1 (4 * q + j) (by omega)
  have hrc := hI.1 (4 * q + j) (by omega)
  obtain ⟨hR1a, hR1b⟩ := id hrr
  refine lv_astore (lv' := [(6, .ref (ad (9 + 2 * (4 * q + j)))), (0, .ref (ad 0)), (1, .int x), (2, .int (nI ch)), (3, .int (nI j)), (4, .int u), (5, .int z)]) hx hb dX2_open_6 hl (by decide) rfl (fun ls hl => ?_)
  refine lv_aload_n hx hb dX2_open_8 rfl (lv_at hl 1 rfl) ?_
  refine lv_iload_n hx hb dX2_open_9 rfl (lv_at hl 2 rfl) ?_
  refine g_callVX (As := [.int x]) (rest := []) ⟨hx, hb, hml, hown, hw⟩ (mX2_benchAt l hl9 D cT n ad A hD G σ hY hn x) (cwV 1 hw (gWV wm_X2_76 wi_X2_benchAt wse_X2_benchAt wini_X2 wc_X2_benchAt) rfl rfl rfl (by decide +kernel) ⟨Nat.le_of_ble_eq_true rfl, Nat.le_of_ble_eq_true rfl⟩) hK hE hA hP hS (k := 0) (by omega) hy0 rfl rfl hl.1 (lv_room (Nat.le_of_ble_eq_true rfl)) dX2_open_10 ⟨Nat.le_of_ble_eq_true rfl, Nat.le_of_ble_eq_true rfl⟩ (fun E ce q9 H locs hpx hP hS hce hcv hcl => g_out hX ht hlocks hP hS (Or.inr ⟨by omega, hpx.2, Or.inr (Or.inl hpx.1)⟩) hce hcv hcl (Nat.le_of_ble_eq_true rfl) (Nat.le_of_ble_eq_true rfl)) (fun v_4 G_3 H locs hp hP hS => ?_)
  obtain ⟨⟨b, hb6, hxb, hv⟩, hg⟩ := hp
  subst hv
  rw [hg] at hP
  subst hxb
  have hbt := hY.2.2.1 b (by omega)
  have hit := (hI.2 b (by omega)).1
  have hib := (hI.2 b (by omega)).2
  have hcapb := BI_cap hit
  have hszb := hit.1
  obtain ⟨p0, w, nu, ne, en, ⟨hB, hB1, hB2, hB3, hB4, hB5, hB6, hB7, hB8⟩, hBL⟩ := id hbt
  refine lv_astore (lv' := [(7, .ref (ad (33 + 6 * b))), (6, .ref (ad (9 + 2 * (4 * q + j)))), (0, .ref (ad 0)), (1, .int (nI b)), (2, .int (nI ch)), (3, .int (nI j)), (4, .int u), (5, .int z)]) hx hb dX2_open_13 hl (by decide) rfl (fun ls hl => ?_)
  refine lv_iload hx hb dX2_open_15 (lv_at hl 6 rfl) ?_
  refine lv_if_lt (tgt := 37) hx hb dX2_open_17 (by decide) (fun c_5 => ?_) (fun c_5 => ?_)
  · skip
    refine g_throwS (text := "no such part") hX ht hx hb hl9 hown hlocks hw hE hP hS (hl.1.trans hml.symm) (by decide +kernel) (by decide +kernel) at_IO wcl_X2_67 wini_java_lang_IndexOutOfBoundsException (by decide +kernel) (Or.inr ⟨by omega, rfl, Or.inr (Or.inr ⟨q, j, hq, hj, hkd, rfl, Or.inl c_5⟩)⟩) dX2_open_37 dX2_open_40 dX2_open_41 dX2_open_43 dX2_open_46 (Nat.le_of_ble_eq_true rfl) (Nat.le_of_ble_eq_true rfl) (Nat.le_of_ble_eq_true rfl) (Nat.le_of_ble_eq_true rfl) (Nat.le_of_ble_eq_true rfl) (Nat.le_of_ble_eq_true rfl)
  · skip
    refine lv_iload hx hb dX2_open_20 (lv_at hl 6 rfl) ?_
    refine lv_iload hx hb dX2_open_22 (lv_at hl 7 rfl) ?_
    refine lv_icmp_gt (tgt := 37) hx hb dX2_open_24 (by decide) (fun c_6 => ?_) (fun c_6 => ?_)
    · skip
      refine g_throwS (text := "no such part") hX ht hx hb hl9 hown hlocks hw hE hP hS (hl.1.trans hml.symm) (by decide +kernel) (by decide +kernel) at_IO wcl_X2_67 wini_java_lang_IndexOutOfBoundsException (by decide +kernel) (Or.inr ⟨by omega, rfl, Or.inr (Or.inr ⟨q, j, hq, hj, hkd, rfl, Or.inr (Or.inl c_6)⟩)⟩) dX2_open_37 dX2_open_40 dX2_open_41 dX2_open_43 dX2_open_46 (Nat.le_of_ble_eq_true rfl) (Nat.le_of_ble_eq_true rfl) (Nat.le_of_ble_eq_true rfl) (Nat.le_of_ble_eq_true rfl) (Nat.le_of_ble_eq_true rfl) (Nat.le_of_ble_eq_true rfl)
    · skip
      refine lv_iload hx hb dX2_open_27 (lv_at hl 7 rfl) ?_
      refine lv_aload hx hb dX2_open_29 (lv_at hl 1 rfl) ?_
      refine g_getN (C := RX1) (T := TX1) (N := 2) hx hb hw inX1 hown hK hP (i := (9 + 2 * (4 * q + j))) (by omega) hR1a rfl 1 (by decide) (hE.2.2.1 (55, "Splityard$Row", "count", "I") (by decide +kernel)) rfl dX2_open_31 ?_
      refine lv_icmp_le (tgt := 47) hx hb dX2_open_34 (by decide) (fun c_7 => ?_) (fun c_7 => ?_)
      · skip
        obtain ⟨a, t, hat, htr, rfl, rfl⟩ := part_ix (by omega) c_5 c_6 c_7
        refine lv_aload hx hb dX2_open_47 (lv_at hl 0 rfl) ?_
        refine lv_aload hx hb dX2_open_49 (lv_at hl 1 rfl) ?_
        refine lv_iload hx hb dX2_open_51 (lv_at hl 6 rfl) ?_
        refine lv_iload hx hb dX2_open_53 (lv_at hl 7 rfl) ?_
        refine lv_iload_n hx hb dX2_open_55 rfl (lv_at hl 4 rfl) ?_
        refine lv_bipush (v := nI 111) hx hb dX2_open_56 (by decide) ?_
        refine t_icmp_ne (tgt := 65) hx hb dX2_open_58 (by decide) (by omega) (by omega) (fun c_8 => ?_) (fun c_8 => ?_)
        · skip
          have hzo : isO ch = 0 := if_neg (by omega)
          refine lv_iconst (v := nI 0) hx hb dX2_open_65 (by decide) ?_
          refine g_callV (As := [.ref (ad (9 + 2 * (4 * q + j))), .int (nI a), .int (nI t), .int (nI 0)]) (rest := []) ⟨hx, hb, hml, hown, hw⟩ (mX0_start l D cT n ad A hD G (33 + 6 * b) ((σ.2 b).1) ((σ.2 b).2.1) ((σ.2 b).2.2.1) p0 w nu ne en (by omega) ⟨hB, hB1, hB2, hB3, hB4, hB5, hB6, hB7, hB8⟩ (9 + 2 * (4 * q + j)) ((σ.1 (4 * q + j)).1) ((σ.1 (4 * q + j)).2) (by omega) (by omega) ⟨hR1a, hR1b⟩ a t 0 (by omega) (by omega) (by omega) (by omega)) (cwV 4 hw (gWV wm_X2_82 wi_X0_start wse_X0_start wini_X0 wc_X0_start) rfl rfl rfl (by decide +kernel) ⟨Nat.le_of_ble_eq_true rfl, Nat.le_of_ble_eq_true rfl⟩) hK hE hA hP hS (k := (33 + 6 * b)) (by omega) hB rfl rfl hl.1 (lv_room (Nat.le_of_ble_eq_true rfl)) dX2_open_66 ⟨Nat.le_of_ble_eq_true rfl, Nat.le_of_ble_eq_true rfl⟩ (fun v_10 G_9 H locs hp hP hS => ?_)
          obtain ⟨hv, hf_11, hr_12⟩ := hp
          subst hv
          have hc_13 : G_9 0 = .inr (4, [.ref (ad 1), .ref (ad 2), .ref (ad 3)]) := (hf_11 _ (by omega)).trans hy0
          have hc_14 : G_9 1 = aQ (cT 5) 12 (rQ ad) := (hf_11 _ (by omega)).trans hy1
          have hc_15 : G_9 2 = aQ (cT 6) 6 (bQ ad) := (hf_11 _ (by omega)).trans hy2
          have hc_16 : G_9 (9 + 2 * (4 * q + j)) = .inr (3, [.ref (ad (9 + 2 * (4 * q + j) + 1)), .int (nI ((σ.1 (4 * q + j)).1))]) := (hf_11 _ (by omega)).trans hR1a
          have hc_17 : G_9 (9 + 2 * (4 * q + j) + 1) = aJ cT 48 ((σ.1 (4 * q + j)).2) := (hf_11 _ (by omega)).trans hR1b
          obtain ⟨p9, w9, nu9, ne9, en9, ⟨hC, hC1, hC2, hC3, hC4, hC5, hC6, hC7, hC8⟩, hCL⟩ := id hr_12
          refine lv_aload hx hb dX2_open_69 (lv_at hl 0 rfl) ?_
          refine g_getN (C := RX0) (T := TX0) (N := 8) hx hb hw inX0 hown hK hP (i := (33 + 6 * b)) (by omega) hC rfl 1 (by decide) (hE.2.2.1 (86, "Splityard$Bench", "size", "I") (by decide +kernel)) rfl dX2_open_71 ?_
          refine g_ret hQ hx hb hr hlocks rfl hP hS (⟨⟨b, hb6, rfl, ⟨q, j, hq, hj, hkd, rfl, a, t, hat, htr, rfl, rfl, rfl, by rw [hzo]; exact YW.bench hY hb6 hf_11 hr_12⟩⟩, fun j9 hj => hf_11 j9 (by omega)⟩) (Nat.le_of_ble_eq_true rfl) (Nat.le_of_ble_eq_true rfl) dX2_open_74
        · skip
          have hzo : isO ch = 1 := if_pos (by omega)
          refine lv_iconst (v := nI 1) hx hb dX2_open_61 (by decide) ?_
          refine lv_goto (tgt := 66) hx hb dX2_open_62 (by decide) ?_
          refine g_callV (As := [.ref (ad (9 + 2 * (4 * q + j))), .int (nI a), .int (nI t), .int (nI 1)]) (rest := []) ⟨hx, hb, hml, hown, hw⟩ (mX0_start l D cT n ad A hD G (33 + 6 * b) ((σ.2 b).1) ((σ.2 b).2.1) ((σ.2 b).2.2.1) p0 w nu ne en (by omega) ⟨hB, hB1, hB2, hB3, hB4, hB5, hB6, hB7, hB8⟩ (9 + 2 * (4 * q + j)) ((σ.1 (4 * q + j)).1) ((σ.1 (4 * q + j)).2) (by omega) (by omega) ⟨hR1a, hR1b⟩ a t 1 (by omega) (by omega) (by omega) (by omega)) (cwV 4 hw (gWV wm_X2_82 wi_X0_start wse_X0_start wini_X0 wc_X0_start) rfl rfl rfl (by decide +kernel) ⟨Nat.le_of_ble_eq_true rfl, Nat.le_of_ble_eq_true rfl⟩) hK hE hA hP hS (k := (33 + 6 * b)) (by omega) hB rfl rfl hl.1 (lv_room (Nat.le_of_ble_eq_true rfl)) dX2_open_66 ⟨Nat.le_of_ble_eq_true rfl, Nat.le_of_ble_eq_true rfl⟩ (fun v_19 G_18 H locs hp hP hS => ?_)
          obtain ⟨hv, hf_20, hr_21⟩ := hp
          subst hv
          have hc_22 : G_18 0 = .inr (4, [.ref (ad 1), .ref (ad 2), .ref (ad 3)]) := (hf_20 _ (by omega)).trans hy0
          have hc_23 : G_18 1 = aQ (cT 5) 12 (rQ ad) := (hf_20 _ (by omega)).trans hy1
          have hc_24 : G_18 2 = aQ (cT 6) 6 (bQ ad) := (hf_20 _ (by omega)).trans hy2
          have hc_25 : G_18 (9 + 2 * (4 * q + j)) = .inr (3, [.ref (ad (9 + 2 * (4 * q + j) + 1)), .int (nI ((σ.1 (4 * q + j)).1))]) := (hf_20 _ (by omega)).trans hR1a
          have hc_26 : G_18 (9 + 2 * (4 * q + j) + 1) = aJ cT 48 ((σ.1 (4 * q + j)).2) := (hf_20 _ (by omega)).trans hR1b
          obtain ⟨p9, w9, nu9, ne9, en9, ⟨hC, hC1, hC2, hC3, hC4, hC5, hC6, hC7, hC8⟩, hCL⟩ := id hr_21
          refine lv_aload hx hb dX2_open_69 (lv_at hl 0 rfl) ?_
          refine g_getN (C := RX0) (T := TX0) (N := 8) hx hb hw inX0 hown hK hP (i := (33 + 6 * b)) (by omega) hC rfl 1 (by decide) (hE.2.2.1 (86, "Splityard$Bench", "size", "I") (by decide +kernel)) rfl dX2_open_71 ?_
          refine g_ret hQ hx hb hr hlocks rfl hP hS (⟨⟨b, hb6, rfl, ⟨q, j, hq, hj, hkd, rfl, a, t, hat, htr, rfl, rfl, rfl, by rw [hzo]; exact YW.bench hY hb6 hf_20 hr_21⟩⟩, fun j9 hj => hf_20 j9 (by omega)⟩) (Nat.le_of_ble_eq_true rfl) (Nat.le_of_ble_eq_true rfl) dX2_open_74
      · skip
        refine g_throwS (text := "no such part") hX ht hx hb hl9 hown hlocks hw hE hP hS (hl.1.trans hml.symm) (by decide +kernel) (by decide +kernel) at_IO wcl_X2_67 wini_java_lang_IndexOutOfBoundsException (by decide +kernel) (Or.inr ⟨by omega, rfl, Or.inr (Or.inr ⟨q, j, hq, hj, hkd, rfl, Or.inr (Or.inr (Int32.not_le.mp c_7))⟩)⟩) dX2_open_37 dX2_open_40 dX2_open_41 dX2_open_43 dX2_open_46 (Nat.le_of_ble_eq_true rfl) (Nat.le_of_ble_eq_true rfl) (Nat.le_of_ble_eq_true rfl) (Nat.le_of_ble_eq_true rfl) (Nat.le_of_ble_eq_true rfl) (Nat.le_of_ble_eq_true rfl)

set_option maxHeartbeats 4000000 in
set_option maxRecDepth 100000 in
theorem mX2_openAll (l : Launch) (hl9 : l.stackTraces = false) (D : va_G) (cT : Nat → ClassId) (n : Nat) (ad : Nat → Nat) (A : Nat → Prop) (hD : ∀ G, va_D A (gw n ad G)) (G : Nat → va_E) (σ : TY) (hY : YW cT ad G σ) (hn : 69 ≤ n) (hI : YI σ) (x : Int32) (ch : Nat) (hch : ch < 65536) (y : Int32) : vx_Met l yX2_openAll (wA yX2_openAll cX2_openAll 6 (some .int)) ({ frames := 7, cells := 2, slots := 12, locals := 105 } : Room) (PG D cT n ad A G [.ref (ad 0), .int x, .int (nI ch), .int y]) (QG D n ad A (fun v G1 => onB x (fun b => onR ch y (fun r => v = some (.int (nI ((σ.1 r).1 - 0))) ∧ YW cT ad G1 (setB σ b (openB (σ.1 r).2 0 (σ.1 r).1 (isO ch))))) ∧ ∀ j, 69 ≤ j → G1 j = G j)) (XG D n ad A G (pxOpenA x ch y)) 2 12 A := by
  refine vx_ofG (cc := cX2_openAll) (maxL := 6) (ret := (some .int)) (by decide) (Nat.le_of_ble_eq_true rfl) ?_
  intro p e s m args below meth c Q hQ hX ht hx hb hr hml hlocks hown hw hP hK hE hA hS ls hl
  have hl : lv_has ls 6 [(0, .ref (ad 0)), (1, .int x), (2, .int (nI ch)), (3, .int y)] := hl
  obtain ⟨hy0, hy1, hy2⟩ := hY.1
  refine lv_aload_n hx hb dX2_openAll_0 rfl (lv_at hl 0 rfl) ?_
  refine lv_iload_n hx hb dX2_openAll_1 rfl (lv_at hl 2 rfl) ?_
  refine lv_iload_n hx hb dX2_openAll_2 rfl (lv_at hl 3 rfl) ?_
  refine g_callVX (As := [.int (nI ch), .int y]) (rest := []) ⟨hx, hb, hml, hown, hw⟩ (mX2_rowOf l hl9 D cT n ad A hD G σ hY hn ch (by omega) y) (cwV 2 hw (gWV wm_X2_42 wi_X2_rowOf wse_X2_rowOf wini_X2 wc_X2_rowOf) rfl rfl rfl (by decide +kernel) ⟨Nat.le_of_ble_eq_true rfl, Nat.le_of_ble_eq_true rfl⟩) hK hE hA hP hS (k := 0) (by omega) hy0 rfl rfl hl.1 (lv_room (Nat.le_of_ble_eq_true rfl)) dX2_openAll_3 ⟨Nat.le_of_ble_eq_true rfl, Nat.le_of_ble_eq_true rfl⟩ (fun E ce q9 H locs hpx hP hS hce hcv hcl => g_out hX ht hlocks hP hS (hpx.elim (fun h => Or.inl h) (fun h => Or.inr ⟨h.1, h.2.2, Or.inl h.2.1⟩)) hce hcv hcl (Nat.le_of_ble_eq_true rfl) (Nat.le_of_ble_eq_true rfl)) (fun v_2 G_1 H locs hp hP hS => ?_)
  obtain ⟨⟨q, j, hq, hj, hkd, hxj, hv⟩, hg⟩ := hp
  subst hv
  rw [hg] at hP
  subst hxj
  have hrr := hY.2.1 (4 * q + j) (by omega)
  have hrc := hI.1 (4 * q + j) (by omega)
  obtain ⟨hR1a, hR1b⟩ := id hrr
  refine lv_astore (lv' := [(4, .ref (ad (9 + 2 * (4 * q + j)))), (0, .ref (ad 0)), (1, .int x), (2, .int (nI ch)), (3, .int (nI j))]) hx hb dX2_openAll_6 hl (by decide) rfl (fun ls hl => ?_)
  refine lv_aload_n hx hb dX2_openAll_8 rfl (lv_at hl 1 rfl) ?_
  refine lv_iload_n hx hb dX2_openAll_9 rfl (lv_at hl 2 rfl) ?_
  refine g_callVX (As := [.int x]) (rest := []) ⟨hx, hb, hml, hown, hw⟩ (mX2_benchAt l hl9 D cT n ad A hD G σ hY hn x) (cwV 1 hw (gWV wm_X2_76 wi_X2_benchAt wse_X2_benchAt wini_X2 wc_X2_benchAt) rfl rfl rfl (by decide +kernel) ⟨Nat.le_of_ble_eq_true rfl, Nat.le_of_ble_eq_true rfl⟩) hK hE hA hP hS (k := 0) (by omega) hy0 rfl rfl hl.1 (lv_room (Nat.le_of_ble_eq_true rfl)) dX2_openAll_10 ⟨Nat.le_of_ble_eq_true rfl, Nat.le_of_ble_eq_true rfl⟩ (fun E ce q9 H locs hpx hP hS hce hcv hcl => g_out hX ht hlocks hP hS (Or.inr ⟨by omega, hpx.2, Or.inr hpx.1⟩) hce hcv hcl (Nat.le_of_ble_eq_true rfl) (Nat.le_of_ble_eq_true rfl)) (fun v_4 G_3 H locs hp hP hS => ?_)
  obtain ⟨⟨b, hb6, hxb, hv⟩, hg⟩ := hp
  subst hv
  rw [hg] at hP
  subst hxb
  have hbt := hY.2.2.1 b (by omega)
  have hit := (hI.2 b (by omega)).1
  have hib := (hI.2 b (by omega)).2
  have hcapb := BI_cap hit
  have hszb := hit.1
  obtain ⟨p0, w, nu, ne, en, ⟨hB, hB1, hB2, hB3, hB4, hB5, hB6, hB7, hB8⟩, hBL⟩ := id hbt
  refine lv_astore (lv' := [(5, .ref (ad (33 + 6 * b))), (4, .ref (ad (9 + 2 * (4 * q + j)))), (0, .ref (ad 0)), (1, .int (nI b)), (2, .int (nI ch)), (3, .int (nI j))]) hx hb dX2_openAll_13 hl (by decide) rfl (fun ls hl => ?_)
  refine lv_aload hx hb dX2_openAll_15 (lv_at hl 0 rfl) ?_
  refine lv_aload hx hb dX2_openAll_17 (lv_at hl 1 rfl) ?_
  refine lv_iconst (v := nI 0) hx hb dX2_openAll_19 (by decide) ?_
  refine lv_aload hx hb dX2_openAll_20 (lv_at hl 1 rfl) ?_
  refine g_getN (C := RX1) (T := TX1) (N := 2) hx hb hw inX1 hown hK hP (i := (9 + 2 * (4 * q + j))) (by omega) hR1a rfl 1 (by decide) (hE.2.2.1 (55, "Splityard$Row", "count", "I") (by decide +kernel)) rfl dX2_openAll_22 ?_
  refine lv_iload_n hx hb dX2_openAll_25 rfl (lv_at hl 4 rfl) ?_
  refine lv_bipush (v := nI 111) hx hb dX2_openAll_26 (by decide) ?_
  refine t_icmp_ne (tgt := 35) hx hb dX2_openAll_28 (by decide) (by omega) (by omega) (fun c_5 => ?_) (fun c_5 => ?_)
  · skip
    have hzo : isO ch = 0 := if_neg (by omega)
    refine lv_iconst (v := nI 0) hx hb dX2_openAll_35 (by decide) ?_
    refine g_callV (As := [.ref (ad (9 + 2 * (4 * q + j))), .int (nI 0), .int (nI ((σ.1 (4 * q + j)).1)), .int (nI 0)]) (rest := []) ⟨hx, hb, hml, hown, hw⟩ (mX0_start l D cT n ad A hD G (33 + 6 * b) ((σ.2 b).1) ((σ.2 b).2.1) ((σ.2 b).2.2.1) p0 w nu ne en (by omega) ⟨hB, hB1, hB2, hB3, hB4, hB5, hB6, hB7, hB8⟩ (9 + 2 * (4 * q + j)) ((σ.1 (4 * q + j)).1) ((σ.1 (4 * q + j)).2) (by omega) (by omega) ⟨hR1a, hR1b⟩ 0 ((σ.1 (4 * q + j)).1) 0 (by omega) (by omega) (by omega) (by omega)) (cwV 4 hw (gWV wm_X2_82 wi_X0_start wse_X0_start wini_X0 wc_X0_start) rfl rfl rfl (by decide +kernel) ⟨Nat.le_of_ble_eq_true rfl, Nat.le_of_ble_eq_true rfl⟩) hK hE hA hP hS (k := (33 + 6 * b)) (by omega) hB rfl rfl hl.1 (lv_room (Nat.le_of_ble_eq_true rfl)) dX2_openAll_36 ⟨Nat.le_of_ble_eq_true rfl, Nat.le_of_ble_eq_true rfl⟩ (fun v_7 G_6 H locs hp hP hS => ?_)
    obtain ⟨hv, hf_8, hr_9⟩ := hp
    subst hv
    have hc_10 : G_6 0 = .inr (4, [.ref (ad 1), .ref (ad 2), .ref (ad 3)]) := (hf_8 _ (by omega)).trans hy0
    have hc_11 : G_6 1 = aQ (cT 5) 12 (rQ ad) := (hf_8 _ (by omega)).trans hy1
    have hc_12 : G_6 2 = aQ (cT 6) 6 (bQ ad) := (hf_8 _ (by omega)).trans hy2
    have hc_13 : G_6 (9 + 2 * (4 * q + j)) = .inr (3, [.ref (ad (9 + 2 * (4 * q + j) + 1)), .int (nI ((σ.1 (4 * q + j)).1))]) := (hf_8 _ (by omega)).trans hR1a
    have hc_14 : G_6 (9 + 2 * (4 * q + j) + 1) = aJ cT 48 ((σ.1 (4 * q + j)).2) := (hf_8 _ (by omega)).trans hR1b
    obtain ⟨p9, w9, nu9, ne9, en9, ⟨hC, hC1, hC2, hC3, hC4, hC5, hC6, hC7, hC8⟩, hCL⟩ := id hr_9
    refine lv_aload hx hb dX2_openAll_39 (lv_at hl 0 rfl) ?_
    refine g_getN (C := RX0) (T := TX0) (N := 8) hx hb hw inX0 hown hK hP (i := (33 + 6 * b)) (by omega) hC rfl 1 (by decide) (hE.2.2.1 (86, "Splityard$Bench", "size", "I") (by decide +kernel)) rfl dX2_openAll_41 ?_
    refine g_ret hQ hx hb hr hlocks rfl hP hS (⟨⟨b, hb6, rfl, ⟨q, j, hq, hj, hkd, rfl, rfl, by rw [hzo]; exact YW.bench hY hb6 hf_8 hr_9⟩⟩, fun j9 hj => hf_8 j9 (by omega)⟩) (Nat.le_of_ble_eq_true rfl) (Nat.le_of_ble_eq_true rfl) dX2_openAll_44
  · skip
    have hzo : isO ch = 1 := if_pos (by omega)
    refine lv_iconst (v := nI 1) hx hb dX2_openAll_31 (by decide) ?_
    refine lv_goto (tgt := 36) hx hb dX2_openAll_32 (by decide) ?_
    refine g_callV (As := [.ref (ad (9 + 2 * (4 * q + j))), .int (nI 0), .int (nI ((σ.1 (4 * q + j)).1)), .int (nI 1)]) (rest := []) ⟨hx, hb, hml, hown, hw⟩ (mX0_start l D cT n ad A hD G (33 + 6 * b) ((σ.2 b).1) ((σ.2 b).2.1) ((σ.2 b).2.2.1) p0 w nu ne en (by omega) ⟨hB, hB1, hB2, hB3, hB4, hB5, hB6, hB7, hB8⟩ (9 + 2 * (4 * q + j)) ((σ.1 (4 * q + j)).1) ((σ.1 (4 * q + j)).2) (by omega) (by omega) ⟨hR1a, hR1b⟩ 0 ((σ.1 (4 * q + j)).1) 1 (by omega) (by omega) (by omega) (by omega)) (cwV 4 hw (gWV wm_X2_82 wi_X0_start wse_X0_start wini_X0 wc_X0_start) rfl rfl rfl (by decide +kernel) ⟨Nat.le_of_ble_eq_true rfl, Nat.le_of_ble_eq_true rfl⟩) hK hE hA hP hS (k := (33 + 6 * b)) (by omega) hB rfl rfl hl.1 (lv_room (Nat.le_of_ble_eq_true rfl)) dX2_openAll_36 ⟨Nat.le_of_ble_eq_true rfl, Nat.le_of_ble_eq_true rfl⟩ (fun v_16 G_15 H locs hp hP hS => ?_)
    obtain ⟨hv, hf_17, hr_18⟩ := hp
    subst hv
    have hc_19 : G_15 0 = .inr (4, [.ref (ad 1), .ref (ad 2), .ref (ad 3)]) := (hf_17 _ (by omega)).trans hy0
    have hc_20 : G_15 1 = aQ (cT 5) 12 (rQ ad) := (hf_17 _ (by omega)).trans hy1
    have hc_21 : G_15 2 = aQ (cT 6) 6 (bQ ad) := (hf_17 _ (by omega)).trans hy2
    have hc_22 : G_15 (9 + 2 * (4 * q + j)) = .inr (3, [.ref (ad (9 + 2 * (4 * q + j) + 1)), .int (nI ((σ.1 (4 * q + j)).1))]) := (hf_17 _ (by omega)).trans hR1a
    have hc_23 : G_15 (9 + 2 * (4 * q + j) + 1) = aJ cT 48 ((σ.1 (4 * q + j)).2) := (hf_17 _ (by omega)).trans hR1b
    obtain ⟨p9, w9, nu9, ne9, en9, ⟨hC, hC1, hC2, hC3, hC4, hC5, hC6, hC7, hC8⟩, hCL⟩ := id hr_18
    refine lv_aload hx hb dX2_openAll_39 (lv_at hl 0 rfl) ?_
    refine g_getN (C := RX0) (T := TX0) (N := 8) hx hb hw inX0 hown hK hP (i := (33 + 6 * b)) (by omega) hC rfl 1 (by decide) (hE.2.2.1 (86, "Splityard$Bench", "size", "I") (by decide +kernel)) rfl dX2_openAll_41 ?_
    refine g_ret hQ hx hb hr hlocks rfl hP hS (⟨⟨b, hb6, rfl, ⟨q, j, hq, hj, hkd, rfl, rfl, by rw [hzo]; exact YW.bench hY hb6 hf_17 hr_18⟩⟩, fun j9 hj => hf_17 j9 (by omega)⟩) (Nat.le_of_ble_eq_true rfl) (Nat.le_of_ble_eq_true rfl) dX2_openAll_44

set_option maxHeartbeats 4000000 in
set_option maxRecDepth 100000 in
theorem mX2_has (l : Launch) (hl9 : l.stackTraces = false) (D : va_G) (cT : Nat → ClassId) (n : Nat) (ad : Nat → Nat) (A : Nat → Prop) (hD : ∀ G, va_D A (gw n ad G)) (G : Nat → va_E) (σ : TY) (hY : YW cT ad G σ) (hn : 69 ≤ n) (hI : YI σ) (x y : Int32) (ch : Nat) (hch : ch < 65536) : vx_Met l yX2_has (wA yX2_has cX2_has 6 (some .boolean)) ({ frames := 9, cells := 4, slots := 24, locals := 149 } : Room) (PG D cT n ad A G [.ref (ad 0), .int x, .int y, .int (nI ch)]) (QG D n ad A (fun v G1 => onI σ x y (fun b i => (σ.2 b).2.2.2.2.1 i = 112 ∧ 0 < chx ch ∧ v = some (.int (nI 1))) ∧ G1 = G)) (XG D n ad A G (fun E => pxIs σ x y (fun c => c ≠ 112) E ∨ onI σ x y (fun b i => (σ.2 b).2.2.2.2.1 i = 112 ∧ chx ch = 0 ∧ E = xIA))) 4 24 A := by
  refine vx_ofG (cc := cX2_has) (maxL := 6) (ret := (some .boolean)) (by decide) (Nat.le_of_ble_eq_true rfl) ?_
  intro p e s m args below meth c Q hQ hX ht hx hb hr hml hlocks hown hw hP hK hE hA hS ls hl
  have hl : lv_has ls 6 [(0, .ref (ad 0)), (1, .int x), (2, .int y), (3, .int (nI ch))] := hl
  obtain ⟨hy0, hy1, hy2⟩ := hY.1
  refine lv_aload_n hx hb dX2_has_0 rfl (lv_at hl 0 rfl) ?_
  refine lv_iload_n hx hb dX2_has_1 rfl (lv_at hl 1 rfl) ?_
  refine lv_iload_n hx hb dX2_has_2 rfl (lv_at hl 2 rfl) ?_
  refine g_callVX (As := [.int x, .int y]) (rest := []) ⟨hx, hb, hml, hown, hw⟩ (mX2_benchWithPiece l hl9 D cT n ad A hD G σ hY hn hI x y) (cwV 2 hw (gWV wm_X2_118 wi_X2_benchWithPiece wse_X2_benchWithPiece wini_X2 wc_X2_benchWithPiece) rfl rfl rfl (by decide +kernel) ⟨Nat.le_of_ble_eq_true rfl, Nat.le_of_ble_eq_true rfl⟩) hK hE hA hP hS (k := 0) (by omega) hy0 rfl rfl hl.1 (lv_room (Nat.le_of_ble_eq_true rfl)) dX2_has_3 ⟨Nat.le_of_ble_eq_true rfl, Nat.le_of_ble_eq_true rfl⟩ (fun E ce q9 H locs hpx hP hS hce hcv hcl => g_out hX ht hlocks hP hS (Or.inl hpx) hce hcv hcl (Nat.le_of_ble_eq_true rfl) (Nat.le_of_ble_eq_true rfl)) (fun v_2 G_1 H locs hp hP hS => ?_)
  obtain ⟨⟨b, i, hb6, hxb, hi, hyi, hKp, hv⟩, hg⟩ := hp
  subst hv
  rw [hg] at hP
  subst hxb
  subst hyi
  have hbt := hY.2.2.1 b (by omega)
  have hit := (hI.2 b (by omega)).1
  have hib := (hI.2 b (by omega)).2
  have hcapb := BI_cap hit
  have hszb := hit.1
  obtain ⟨p0, w, nu, ne, en, ⟨hB, hB1, hB2, hB3, hB4, hB5, hB6, hB7, hB8⟩, hBL⟩ := id hbt
  obtain ⟨hb1, hb2, hb3⟩ := hBL.2 i hi
  have hi3 := hit.2.2.1 i hi
  have hq6 := hB6 i
  refine lv_astore (lv' := [(4, .ref (ad (33 + 6 * b))), (0, .ref (ad 0)), (1, .int (nI b)), (2, .int (nI i)), (3, .int (nI ch))]) hx hb dX2_has_6 hl (by decide) rfl (fun ls hl => ?_)
  refine lv_iload_n hx hb dX2_has_8 rfl (lv_at hl 4 rfl) ?_
  refine g_callS (As := [.int (nI ch)]) (rest := []) ⟨hx, hb, hml, hown, hw⟩ (mX2_characteristicsOf l D cT n ad A hD G ch (by omega)) (va_cwS 1 hw (gWS wm_X2_121 wst_X2_characteristicsOf wini_X2 wc_X2_characteristicsOf) rfl rfl rfl (by decide +kernel) ⟨Nat.le_of_ble_eq_true rfl, Nat.le_of_ble_eq_true rfl⟩) hK hE hA hP hS rfl hl.1 (lv_room (Nat.le_of_ble_eq_true rfl)) dX2_has_9 ⟨Nat.le_of_ble_eq_true rfl, Nat.le_of_ble_eq_true rfl⟩ (fun v_4 G_3 H locs hp hP hS => ?_)
  obtain ⟨hv, hg⟩ := hp
  subst hv
  rw [hg] at hP
  have hcx := chx_ok ch
  refine lv_istore (lv' := [(5, .int (nI (chx ch))), (4, .ref (ad (33 + 6 * b))), (0, .ref (ad 0)), (1, .int (nI b)), (2, .int (nI i)), (3, .int (nI ch))]) hx hb dX2_has_12 hl (by decide) rfl (fun ls hl => ?_)
  refine lv_iload hx hb dX2_has_14 (lv_at hl 0 rfl) ?_
  refine t_if_ne (tgt := 29) hx hb dX2_has_16 (by decide) (by omega) (fun c_5 => ?_) (fun c_5 => ?_)
  · skip
    refine lv_aload hx hb dX2_has_29 (lv_at hl 1 rfl) ?_
    refine lv_iload_n hx hb dX2_has_31 rfl (lv_at hl 4 rfl) ?_
    refine lv_iload hx hb dX2_has_32 (lv_at hl 0 rfl) ?_
    refine g_callV (As := [.int (nI i), .int (nI (chx ch))]) (rest := []) ⟨hx, hb, hml, hown, hw⟩ (mX0_hasAll l D cT n ad A hD G (33 + 6 * b) ((σ.2 b).1) ((σ.2 b).2.1) ((σ.2 b).2.2.1) p0 w nu ne en (by omega) ⟨hB, hB1, hB2, hB3, hB4, hB5, hB6, hB7, hB8⟩ i (chx ch) (by omega) (by omega) (by omega) (hcx.2)) (cwV 2 hw (gWV wm_X2_127 wi_X0_hasAll wse_X0_hasAll wini_X0 wc_X0_hasAll) rfl rfl rfl (by decide +kernel) ⟨Nat.le_of_ble_eq_true rfl, Nat.le_of_ble_eq_true rfl⟩) hK hE hA hP hS (k := (33 + 6 * b)) (by omega) hB rfl rfl hl.1 (lv_room (Nat.le_of_ble_eq_true rfl)) dX2_has_34 ⟨Nat.le_of_ble_eq_true rfl, Nat.le_of_ble_eq_true rfl⟩ (fun v_7 G_6 H locs hp hP hS => ?_)
    obtain ⟨hv, hg⟩ := hp
    subst hv
    rw [hg] at hP
    refine g_ret hQ hx hb hr hlocks (by split <;> rfl) hP hS (⟨⟨b, i, hb6, rfl, hi, rfl, hKp, by omega, by rw [if_pos (by omega)]; rfl⟩, rfl⟩) (Nat.le_of_ble_eq_true rfl) (Nat.le_of_ble_eq_true rfl) dX2_has_37
  · skip
    refine g_throwS (text := "no such characteristic") hX ht hx hb hl9 hown hlocks hw hE hP hS (hl.1.trans hml.symm) (by decide +kernel) (by decide +kernel) at_IA wcl_X2_35 wini_java_lang_IllegalArgumentException (by decide +kernel) (Or.inr ⟨b, i, hb6, rfl, hi, rfl, hKp, by omega, rfl⟩) dX2_has_19 dX2_has_22 dX2_has_23 dX2_has_25 dX2_has_28 (Nat.le_of_ble_eq_true rfl) (Nat.le_of_ble_eq_true rfl) (Nat.le_of_ble_eq_true rfl) (Nat.le_of_ble_eq_true rfl) (Nat.le_of_ble_eq_true rfl) (Nat.le_of_ble_eq_true rfl)

set_option maxHeartbeats 4000000 in
set_option maxRecDepth 100000 in
theorem mX2_crumble (l : Launch) (hl9 : l.stackTraces = false) (D : va_G) (cT : Nat → ClassId) (n : Nat) (ad : Nat → Nat) (A : Nat → Prop) (hD : ∀ G, va_D A (gw n ad G)) (G : Nat → va_E) (σ : TY) (hY : YW cT ad G σ) (hn : 69 ≤ n) (hI : YI σ) (x y : Int32) : vx_Met l yX2_crumble (wA yX2_crumble cX2_crumble 4 (some .int)) ({ frames := 7, cells := 2, slots := 12, locals := 111 } : Room) (PG D cT n ad A G [.ref (ad 0), .int x, .int y]) (QG D n ad A (fun v G1 => onB x (fun b => ∃ mo, 1 ≤ mo ∧ mo ≤ 48 ∧ y = nI mo ∧ v = some (.int (nI ((crumB (σ.2 b) mo).2.1 - (σ.2 b).2.1))) ∧ YW cT ad G1 (setB σ b (crumB (σ.2 b) mo))) ∧ ∀ j, 69 ≤ j → G1 j = G j)) (XG D n ad A G (fun E => pxBen x E ∨ onB x (fun _ => mBad y ∧ E = xIA))) 2 12 A := by
  refine vx_ofG (cc := cX2_crumble) (maxL := 4) (ret := (some .int)) (by decide) (Nat.le_of_ble_eq_true rfl) ?_
  intro p e s m args below meth c Q hQ hX ht hx hb hr hml hlocks hown hw hP hK hE hA hS ls hl
  have hl : lv_has ls 4 [(0, .ref (ad 0)), (1, .int x), (2, .int y)] := hl
  obtain ⟨hy0, hy1, hy2⟩ := hY.1
  refine lv_aload_n hx hb dX2_crumble_0 rfl (lv_at hl 0 rfl) ?_
  refine lv_iload_n hx hb dX2_crumble_1 rfl (lv_at hl 1 rfl) ?_
  refine g_callVX (As := [.int x]) (rest := []) ⟨hx, hb, hml, hown, hw⟩ (mX2_benchAt l hl9 D cT n ad A hD G σ hY hn x) (cwV 1 hw (gWV wm_X2_76 wi_X2_benchAt wse_X2_benchAt wini_X2 wc_X2_benchAt) rfl rfl rfl (by decide +kernel) ⟨Nat.le_of_ble_eq_true rfl, Nat.le_of_ble_eq_true rfl⟩) hK hE hA hP hS (k := 0) (by omega) hy0 rfl rfl hl.1 (lv_room (Nat.le_of_ble_eq_true rfl)) dX2_crumble_2 ⟨Nat.le_of_ble_eq_true rfl, Nat.le_of_ble_eq_true rfl⟩ (fun E ce q9 H locs hpx hP hS hce hcv hcl => g_out hX ht hlocks hP hS (Or.inl hpx) hce hcv hcl (Nat.le_of_ble_eq_true rfl) (Nat.le_of_ble_eq_true rfl)) (fun v_2 G_1 H locs hp hP hS => ?_)
  obtain ⟨⟨b, hb6, hxb, hv⟩, hg⟩ := hp
  subst hv
  rw [hg] at hP
  subst hxb
  have hbt := hY.2.2.1 b (by omega)
  have hit := (hI.2 b (by omega)).1
  have hib := (hI.2 b (by omega)).2
  have hcapb := BI_cap hit
  have hszb := hit.1
  obtain ⟨p0, w, nu, ne, en, ⟨hB, hB1, hB2, hB3, hB4, hB5, hB6, hB7, hB8⟩, hBL⟩ := id hbt
  refine lv_astore_n (lv' := [(3, .ref (ad (33 + 6 * b))), (0, .ref (ad 0)), (1, .int (nI b)), (2, .int y)]) hx hb dX2_crumble_5 rfl hl (by decide) rfl (fun ls hl => ?_)
  refine lv_iload_n hx hb dX2_crumble_6 rfl (lv_at hl 3 rfl) ?_
  refine g_callSX (As := [.int y]) (rest := []) ⟨hx, hb, hml, hown, hw⟩ (mX2_requirePieceSize l hl9 D cT n ad A hD G y) (va_cwS 1 hw (gWS wm_X2_149 wst_X2_requirePieceSize wini_X2 wc_X2_requirePieceSize) rfl rfl rfl (by decide +kernel) ⟨Nat.le_of_ble_eq_true rfl, Nat.le_of_ble_eq_true rfl⟩) hK hE hA hP hS rfl hl.1 (lv_room (Nat.le_of_ble_eq_true rfl)) dX2_crumble_7 ⟨Nat.le_of_ble_eq_true rfl, Nat.le_of_ble_eq_true rfl⟩ (fun E ce q9 H locs hpx hP hS hce hcv hcl => g_out hX ht hlocks hP hS (Or.inr ⟨b, hb6, rfl, hpx⟩) hce hcv hcl (Nat.le_of_ble_eq_true rfl) (Nat.le_of_ble_eq_true rfl)) (fun v_4 G_3 H locs hp hP hS => ?_)
  obtain ⟨⟨mo, hm1, hm48, hym⟩, hv, hg⟩ := hp
  subst hv
  rw [hg] at hP
  subst hym
  refine lv_aload_n hx hb dX2_crumble_10 rfl (lv_at hl 0 rfl) ?_
  refine lv_iload_n hx hb dX2_crumble_11 rfl (lv_at hl 3 rfl) ?_
  refine g_callV (As := [.int (nI mo)]) (rest := []) ⟨hx, hb, hml, hown, hw⟩ (mX0_halveAll l D cT n ad A hD G (33 + 6 * b) ((σ.2 b).1) ((σ.2 b).2.1) ((σ.2 b).2.2.1) ((σ.2 b).2.2.2.1) ((σ.2 b).2.2.2.2.1) ((σ.2 b).2.2.2.2.2) (by omega) hbt hit mo (by omega) (by omega)) (cwV 1 hw (gWV wm_X2_153 wi_X0_halveAll wse_X0_halveAll wini_X0 wc_X0_halveAll) rfl rfl rfl (by decide +kernel) ⟨Nat.le_of_ble_eq_true rfl, Nat.le_of_ble_eq_true rfl⟩) hK hE hA hP hS (k := (33 + 6 * b)) (by omega) hB rfl rfl hl.1 (lv_room (Nat.le_of_ble_eq_true rfl)) dX2_crumble_12 ⟨Nat.le_of_ble_eq_true rfl, Nat.le_of_ble_eq_true rfl⟩ (fun v_6 G_5 H locs hp hP hS => ?_)
  obtain ⟨hv, hf_7, hr_8⟩ := hp
  subst hv
  have hc_9 : G_5 0 = .inr (4, [.ref (ad 1), .ref (ad 2), .ref (ad 3)]) := (hf_7 _ (by omega)).trans hy0
  have hc_10 : G_5 1 = aQ (cT 5) 12 (rQ ad) := (hf_7 _ (by omega)).trans hy1
  have hc_11 : G_5 2 = aQ (cT 6) 6 (bQ ad) := (hf_7 _ (by omega)).trans hy2
  refine g_ret hQ hx hb hr hlocks rfl hP hS (⟨⟨b, hb6, rfl, mo, hm1, hm48, rfl, rfl, YW.bench hY hb6 hf_7 hr_8⟩, fun j hj => hf_7 j (by omega)⟩) (Nat.le_of_ble_eq_true rfl) (Nat.le_of_ble_eq_true rfl) dX2_crumble_15
