set_option maxHeartbeats 4000000 in
set_option maxRecDepth 100000 in
theorem mX2_foldsAgree (l : Launch) (D : va_G) (cT : Nat → ClassId) (n : Nat) (ad : Nat → Nat) (A : Nat → Prop) (hD : ∀ G, va_D A (gw n ad G)) (G : Nat → va_E) (r cn : Nat) (f : Nat → Int64) (hrn : r + 2 ≤ n) (hR : RR cT ad G r cn f) (hcn : cn ≤ 48) : Met l yX2_foldsAgree (wA yX2_foldsAgree cX2_foldsAgree 11 (some .boolean)) ({ frames := 19, cells := 0, slots := 0, locals := 551 } : Room) (PG D cT n ad A G [.ref (ad r)]) (QG D n ad A (fun v G1 => v = some (.int (nI 1)) ∧ G1 = G)) 0 0 A := by
  refine Met.ofG (cc := cX2_foldsAgree) (maxL := 11) (ret := (some .boolean)) (by decide) (Nat.le_of_ble_eq_true rfl) ?_
  intro p e s m args below meth c Q hQ hx hb hr hml hlocks hown hw hP hK hE hA hS ls hl
  have hl : lv_has ls 11 [(0, .ref (ad r))] := hl
  obtain ⟨hR1a, hR1b⟩ := hR
  obtain ⟨tHO, hZHO, hTHO⟩ := hE.1.2.2.2.1
  obtain ⟨tSI, hZSI, hTSI⟩ := hE.1.2.2.2.2
  refine va_gets hx hb hZHO hS hown (hw _ wf_X2_164) (fun _ h9 => h9) dX2_foldsAgree_0 ?_
  refine lv_astore_n (lv' := [(1, .ref tHO), (0, .ref (ad r))]) hx hb dX2_foldsAgree_3 rfl hl (by decide) rfl (fun ls hl => ?_)
  refine lv_aload_n hx hb dX2_foldsAgree_4 rfl (lv_at hl 0 rfl) ?_
  refine va_tlen hx hb hTHO hS (v := nI 4) rfl dX2_foldsAgree_5 ?_
  refine lv_istore_n (lv' := [(2, .int (nI 4)), (1, .ref tHO), (0, .ref (ad r))]) hx hb dX2_foldsAgree_6 rfl hl (by decide) rfl (fun ls hl => ?_)
  refine lv_iconst (v := nI 0) hx hb dX2_foldsAgree_7 (by decide) ?_
  refine lv_istore_n (lv' := [(3, .int (nI 0)), (2, .int (nI 4)), (1, .ref tHO), (0, .ref (ad r))]) hx hb dX2_foldsAgree_8 rfl hl (by decide) rfl (fun ls hl => ?_)
  refine lv_iload_n hx hb dX2_foldsAgree_9 rfl (lv_at hl 0 rfl) ?_
  refine lv_iload_n hx hb dX2_foldsAgree_10 rfl (lv_at hl 1 rfl) ?_
  refine t_icmp_ge (tgt := 93) hx hb dX2_foldsAgree_11 (by decide) (by omega) (by omega) (fun c_1 => absurd c_1 (by omega)) (fun c_1 => ?_)
  refine lv_aload_n hx hb dX2_foldsAgree_14 rfl (lv_at hl 2 rfl) ?_
  refine lv_iload_n hx hb dX2_foldsAgree_15 rfl (lv_at hl 0 rfl) ?_
  refine g_tc hx hb hTHO hS (j := 0) (v := 115) (by omega) (by omega) rfl dX2_foldsAgree_16 ?_
  refine lv_istore (lv' := [(4, .int (nI 115)), (3, .int (nI 0)), (2, .int (nI 4)), (1, .ref tHO), (0, .ref (ad r))]) hx hb dX2_foldsAgree_17 hl (by decide) rfl (fun ls hl => ?_)
  refine lv_aload_n hx hb dX2_foldsAgree_19 rfl (lv_at hl 4 rfl) ?_
  refine lv_iconst (v := nI 0) hx hb dX2_foldsAgree_20 (by decide) ?_
  refine lv_aload_n hx hb dX2_foldsAgree_21 rfl (lv_at hl 4 rfl) ?_
  refine g_getN (C := RX1) (T := TX1) (N := 2) hx hb hw inX1 hown hK hP (i := r) (by omega) hR1a rfl 1 (by decide) (hE.2.2.1 (55, "Splityard$Row", "count", "I") (by decide +kernel)) rfl dX2_foldsAgree_22 ?_
  refine lv_iload hx hb dX2_foldsAgree_25 (lv_at hl 0 rfl) ?_
  refine g_callS (As := [.ref (ad r), .int (nI 0), .int (nI cn), .int (nI 115)]) (rest := []) ⟨hx, hb, hml, hown, hw⟩ (mX2_foldByNumber l D cT n ad A hD G r cn f (by omega) ⟨hR1a, hR1b⟩ (by omega) 0 cn 115 (by omega) (by decide) (by omega) (by omega)) (va_cwS 4 hw (gWS wm_X2_225 wst_X2_foldByNumber wini_X2 wc_X2_foldByNumber) rfl rfl rfl (by decide +kernel) ⟨Nat.le_of_ble_eq_true rfl, Nat.le_of_ble_eq_true rfl⟩) hK hE hA hP hS rfl hl.1 (lv_room (Nat.le_of_ble_eq_true rfl)) dX2_foldsAgree_27 ⟨Nat.le_of_ble_eq_true rfl, Nat.le_of_ble_eq_true rfl⟩ (fun v_3 G_2 H locs hp hP hS => ?_)
  obtain ⟨hv, hg⟩ := hp
  subst hv
  rw [hg] at hP
  refine lv_lstore (lv' := [(5, .long (fbn f 115 0 (cn - 0))), (4, .int (nI 115)), (3, .int (nI 0)), (2, .int (nI 4)), (1, .ref tHO), (0, .ref (ad r))]) hx hb dX2_foldsAgree_30 hl (by decide) rfl (fun ls hl => ?_)
  refine va_gets hx hb hZSI hS hown (hw _ wf_X2_258) (fun _ h9 => h9) dX2_foldsAgree_32 ?_
  refine lv_astore (lv' := [(7, .ref tSI), (5, .long (fbn f 115 0 (cn - 0))), (4, .int (nI 115)), (3, .int (nI 0)), (2, .int (nI 4)), (1, .ref tHO), (0, .ref (ad r))]) hx hb dX2_foldsAgree_35 hl (by decide) rfl (fun ls hl => ?_)
  refine lv_aload hx hb dX2_foldsAgree_37 (lv_at hl 0 rfl) ?_
  refine va_tlen hx hb hTSI hS (v := nI 4) rfl dX2_foldsAgree_39 ?_
  refine lv_istore (lv' := [(8, .int (nI 4)), (7, .ref tSI), (5, .long (fbn f 115 0 (cn - 0))), (4, .int (nI 115)), (3, .int (nI 0)), (2, .int (nI 4)), (1, .ref tHO), (0, .ref (ad r))]) hx hb dX2_foldsAgree_40 hl (by decide) rfl (fun ls hl => ?_)
  refine lv_iconst (v := nI 0) hx hb dX2_foldsAgree_42 (by decide) ?_
  refine lv_istore (lv' := [(9, .int (nI 0)), (8, .int (nI 4)), (7, .ref tSI), (5, .long (fbn f 115 0 (cn - 0))), (4, .int (nI 115)), (3, .int (nI 0)), (2, .int (nI 4)), (1, .ref tHO), (0, .ref (ad r))]) hx hb dX2_foldsAgree_43 hl (by decide) rfl (fun ls hl => ?_)
  refine lv_iload hx hb dX2_foldsAgree_45 (lv_at hl 0 rfl) ?_
  refine lv_iload hx hb dX2_foldsAgree_47 (lv_at hl 1 rfl) ?_
  refine t_icmp_ge (tgt := 87) hx hb dX2_foldsAgree_49 (by decide) (by omega) (by omega) (fun c_4 => absurd c_4 (by omega)) (fun c_4 => ?_)
  refine lv_aload hx hb dX2_foldsAgree_52 (lv_at hl 2 rfl) ?_
  refine lv_iload hx hb dX2_foldsAgree_54 (lv_at hl 0 rfl) ?_
  refine g_ti hx hb hTSI hS (j := 0) (v := 1) (by omega) (by omega) rfl dX2_foldsAgree_56 ?_
  refine lv_istore (lv' := [(10, .int (nI 1)), (9, .int (nI 0)), (8, .int (nI 4)), (7, .ref tSI), (5, .long (fbn f 115 0 (cn - 0))), (4, .int (nI 115)), (3, .int (nI 0)), (2, .int (nI 4)), (1, .ref tHO), (0, .ref (ad r))]) hx hb dX2_foldsAgree_57 hl (by decide) rfl (fun ls hl => ?_)
  refine lv_aload_n hx hb dX2_foldsAgree_59 rfl (lv_at hl 9 rfl) ?_
  refine lv_iconst (v := nI 0) hx hb dX2_foldsAgree_60 (by decide) ?_
  refine lv_aload_n hx hb dX2_foldsAgree_61 rfl (lv_at hl 9 rfl) ?_
  refine g_getN (C := RX1) (T := TX1) (N := 2) hx hb hw inX1 hown hK hP (i := r) (by omega) hR1a rfl 1 (by decide) (hE.2.2.1 (55, "Splityard$Row", "count", "I") (by decide +kernel)) rfl dX2_foldsAgree_62 ?_
  refine lv_iload hx hb dX2_foldsAgree_65 (lv_at hl 0 rfl) ?_
  refine lv_iload hx hb dX2_foldsAgree_67 (lv_at hl 5 rfl) ?_
  refine lv_iconst (v := nI 0) hx hb dX2_foldsAgree_69 (by decide) ?_
  refine g_callS (As := [.ref (ad r), .int (nI 0), .int (nI cn), .int (nI 1), .int (nI 115), .int (nI 0)]) (rest := []) ⟨hx, hb, hml, hown, hw⟩ (mX2_foldPart l D cT n ad A hD G r cn f (by omega) ⟨hR1a, hR1b⟩ (by omega) 1 115 (by omega) (by omega) (by decide) 8 0 cn 0 rfl (by omega) (by omega)) (va_cwS 6 hw (gWS wm_X2_173 wst_X2_foldPart wini_X2 wc_X2_foldPart) rfl rfl rfl (by decide +kernel) ⟨Nat.le_of_ble_eq_true rfl, Nat.le_of_ble_eq_true rfl⟩) hK hE hA hP hS rfl hl.1 (lv_room (Nat.le_of_ble_eq_true rfl)) dX2_foldsAgree_70 ⟨Nat.le_of_ble_eq_true rfl, Nat.le_of_ble_eq_true rfl⟩ (fun v_6 G_5 H locs hp hP hS => ?_)
  obtain ⟨hv, hg⟩ := hp
  subst hv
  rw [hg] at hP
  refine lv_lload hx hb dX2_foldsAgree_73 (lv_at hl 4 rfl) ?_
  refine W.lcmp hx hb dX2_foldsAgree_75 ?_
  refine t_eqi (nI 0) (lgc_eq rfl) ?_
  refine t_if_eq (tgt := 81) hx hb dX2_foldsAgree_76 (by decide) (by omega) (fun c_7 => ?_) (fun c_7 => absurd c_7 (by omega))
  refine lv_iinc (v := nI 1) (lv' := [(9, .int (nI 1)), (10, .int (nI 1)), (8, .int (nI 4)), (7, .ref tSI), (5, .long (fbn f 115 0 (cn - 0))), (4, .int (nI 115)), (3, .int (nI 0)), (2, .int (nI 4)), (1, .ref tHO), (0, .ref (ad r))]) hx hb dX2_foldsAgree_81 hl (k := 1) rfl (by exact nI_add 0 1) (by decide) rfl (fun ls hl => ?_)
  refine lv_goto (tgt := 45) hx hb dX2_foldsAgree_84 (by decide) ?_
  refine lv_iload hx hb dX2_foldsAgree_45 (lv_at hl 0 rfl) ?_
  refine lv_iload hx hb dX2_foldsAgree_47 (lv_at hl 2 rfl) ?_
  refine t_icmp_ge (tgt := 87) hx hb dX2_foldsAgree_49 (by decide) (by omega) (by omega) (fun c_8 => absurd c_8 (by omega)) (fun c_8 => ?_)
  refine lv_aload hx hb dX2_foldsAgree_52 (lv_at hl 3 rfl) ?_
  refine lv_iload hx hb dX2_foldsAgree_54 (lv_at hl 0 rfl) ?_
  refine g_ti hx hb hTSI hS (j := 1) (v := 2) (by omega) (by omega) rfl dX2_foldsAgree_56 ?_
  refine lv_istore (lv' := [(10, .int (nI 2)), (9, .int (nI 1)), (8, .int (nI 4)), (7, .ref tSI), (5, .long (fbn f 115 0 (cn - 0))), (4, .int (nI 115)), (3, .int (nI 0)), (2, .int (nI 4)), (1, .ref tHO), (0, .ref (ad r))]) hx hb dX2_foldsAgree_57 hl (by decide) rfl (fun ls hl => ?_)
  refine lv_aload_n hx hb dX2_foldsAgree_59 rfl (lv_at hl 9 rfl) ?_
  refine lv_iconst (v := nI 0) hx hb dX2_foldsAgree_60 (by decide) ?_
  refine lv_aload_n hx hb dX2_foldsAgree_61 rfl (lv_at hl 9 rfl) ?_
  refine g_getN (C := RX1) (T := TX1) (N := 2) hx hb hw inX1 hown hK hP (i := r) (by omega) hR1a rfl 1 (by decide) (hE.2.2.1 (55, "Splityard$Row", "count", "I") (by decide +kernel)) rfl dX2_foldsAgree_62 ?_
  refine lv_iload hx hb dX2_foldsAgree_65 (lv_at hl 0 rfl) ?_
  refine lv_iload hx hb dX2_foldsAgree_67 (lv_at hl 5 rfl) ?_
  refine lv_iconst (v := nI 0) hx hb dX2_foldsAgree_69 (by decide) ?_
  refine g_callS (As := [.ref (ad r), .int (nI 0), .int (nI cn), .int (nI 2), .int (nI 115), .int (nI 0)]) (rest := []) ⟨hx, hb, hml, hown, hw⟩ (mX2_foldPart l D cT n ad A hD G r cn f (by omega) ⟨hR1a, hR1b⟩ (by omega) 2 115 (by omega) (by omega) (by decide) 8 0 cn 0 rfl (by omega) (by omega)) (va_cwS 6 hw (gWS wm_X2_173 wst_X2_foldPart wini_X2 wc_X2_foldPart) rfl rfl rfl (by decide +kernel) ⟨Nat.le_of_ble_eq_true rfl, Nat.le_of_ble_eq_true rfl⟩) hK hE hA hP hS rfl hl.1 (lv_room (Nat.le_of_ble_eq_true rfl)) dX2_foldsAgree_70 ⟨Nat.le_of_ble_eq_true rfl, Nat.le_of_ble_eq_true rfl⟩ (fun v_10 G_9 H locs hp hP hS => ?_)
  obtain ⟨hv, hg⟩ := hp
  subst hv
  rw [hg] at hP
  refine lv_lload hx hb dX2_foldsAgree_73 (lv_at hl 4 rfl) ?_
  refine W.lcmp hx hb dX2_foldsAgree_75 ?_
  refine t_eqi (nI 0) (lgc_eq rfl) ?_
  refine t_if_eq (tgt := 81) hx hb dX2_foldsAgree_76 (by decide) (by omega) (fun c_11 => ?_) (fun c_11 => absurd c_11 (by omega))
  refine lv_iinc (v := nI 2) (lv' := [(9, .int (nI 2)), (10, .int (nI 2)), (8, .int (nI 4)), (7, .ref tSI), (5, .long (fbn f 115 0 (cn - 0))), (4, .int (nI 115)), (3, .int (nI 0)), (2, .int (nI 4)), (1, .ref tHO), (0, .ref (ad r))]) hx hb dX2_foldsAgree_81 hl (k := 1) rfl (by exact nI_add 1 1) (by decide) rfl (fun ls hl => ?_)
  refine lv_goto (tgt := 45) hx hb dX2_foldsAgree_84 (by decide) ?_
  refine lv_iload hx hb dX2_foldsAgree_45 (lv_at hl 0 rfl) ?_
  refine lv_iload hx hb dX2_foldsAgree_47 (lv_at hl 2 rfl) ?_
  refine t_icmp_ge (tgt := 87) hx hb dX2_foldsAgree_49 (by decide) (by omega) (by omega) (fun c_12 => absurd c_12 (by omega)) (fun c_12 => ?_)
  refine lv_aload hx hb dX2_foldsAgree_52 (lv_at hl 3 rfl) ?_
  refine lv_iload hx hb dX2_foldsAgree_54 (lv_at hl 0 rfl) ?_
  refine g_ti hx hb hTSI hS (j := 2) (v := 3) (by omega) (by omega) rfl dX2_foldsAgree_56 ?_
  refine lv_istore (lv' := [(10, .int (nI 3)), (9, .int (nI 2)), (8, .int (nI 4)), (7, .ref tSI), (5, .long (fbn f 115 0 (cn - 0))), (4, .int (nI 115)), (3, .int (nI 0)), (2, .int (nI 4)), (1, .ref tHO), (0, .ref (ad r))]) hx hb dX2_foldsAgree_57 hl (by decide) rfl (fun ls hl => ?_)
  refine lv_aload_n hx hb dX2_foldsAgree_59 rfl (lv_at hl 9 rfl) ?_
  refine lv_iconst (v := nI 0) hx hb dX2_foldsAgree_60 (by decide) ?_
  refine lv_aload_n hx hb dX2_foldsAgree_61 rfl (lv_at hl 9 rfl) ?_
  refine g_getN (C := RX1) (T := TX1) (N := 2) hx hb hw inX1 hown hK hP (i := r) (by omega) hR1a rfl 1 (by decide) (hE.2.2.1 (55, "Splityard$Row", "count", "I") (by decide +kernel)) rfl dX2_foldsAgree_62 ?_
  refine lv_iload hx hb dX2_foldsAgree_65 (lv_at hl 0 rfl) ?_
  refine lv_iload hx hb dX2_foldsAgree_67 (lv_at hl 5 rfl) ?_
  refine lv_iconst (v := nI 0) hx hb dX2_foldsAgree_69 (by decide) ?_
  refine g_callS (As := [.ref (ad r), .int (nI 0), .int (nI cn), .int (nI 3), .int (nI 115), .int (nI 0)]) (rest := []) ⟨hx, hb, hml, hown, hw⟩ (mX2_foldPart l D cT n ad A hD G r cn f (by omega) ⟨hR1a, hR1b⟩ (by omega) 3 115 (by omega) (by omega) (by decide) 8 0 cn 0 rfl (by omega) (by omega)) (va_cwS 6 hw (gWS wm_X2_173 wst_X2_foldPart wini_X2 wc_X2_foldPart) rfl rfl rfl (by decide +kernel) ⟨Nat.le_of_ble_eq_true rfl, Nat.le_of_ble_eq_true rfl⟩) hK hE hA hP hS rfl hl.1 (lv_room (Nat.le_of_ble_eq_true rfl)) dX2_foldsAgree_70 ⟨Nat.le_of_ble_eq_true rfl, Nat.le_of_ble_eq_true rfl⟩ (fun v_14 G_13 H locs hp hP hS => ?_)
  obtain ⟨hv, hg⟩ := hp
  subst hv
  rw [hg] at hP
  refine lv_lload hx hb dX2_foldsAgree_73 (lv_at hl 4 rfl) ?_
  refine W.lcmp hx hb dX2_foldsAgree_75 ?_
  refine t_eqi (nI 0) (lgc_eq rfl) ?_
  refine t_if_eq (tgt := 81) hx hb dX2_foldsAgree_76 (by decide) (by omega) (fun c_15 => ?_) (fun c_15 => absurd c_15 (by omega))
  refine lv_iinc (v := nI 3) (lv' := [(9, .int (nI 3)), (10, .int (nI 3)), (8, .int (nI 4)), (7, .ref tSI), (5, .long (fbn f 115 0 (cn - 0))), (4, .int (nI 115)), (3, .int (nI 0)), (2, .int (nI 4)), (1, .ref tHO), (0, .ref (ad r))]) hx hb dX2_foldsAgree_81 hl (k := 1) rfl (by exact nI_add 2 1) (by decide) rfl (fun ls hl => ?_)
  refine lv_goto (tgt := 45) hx hb dX2_foldsAgree_84 (by decide) ?_
  refine lv_iload hx hb dX2_foldsAgree_45 (lv_at hl 0 rfl) ?_
  refine lv_iload hx hb dX2_foldsAgree_47 (lv_at hl 2 rfl) ?_
  refine t_icmp_ge (tgt := 87) hx hb dX2_foldsAgree_49 (by decide) (by omega) (by omega) (fun c_16 => absurd c_16 (by omega)) (fun c_16 => ?_)
  refine lv_aload hx hb dX2_foldsAgree_52 (lv_at hl 3 rfl) ?_
  refine lv_iload hx hb dX2_foldsAgree_54 (lv_at hl 0 rfl) ?_
  refine g_ti hx hb hTSI hS (j := 3) (v := 7) (by omega) (by omega) rfl dX2_foldsAgree_56 ?_
  refine lv_istore (lv' := [(10, .int (nI 7)), (9, .int (nI 3)), (8, .int (nI 4)), (7, .ref tSI), (5, .long (fbn f 115 0 (cn - 0))), (4, .int (nI 115)), (3, .int (nI 0)), (2, .int (nI 4)), (1, .ref tHO), (0, .ref (ad r))]) hx hb dX2_foldsAgree_57 hl (by decide) rfl (fun ls hl => ?_)
  refine lv_aload_n hx hb dX2_foldsAgree_59 rfl (lv_at hl 9 rfl) ?_
  refine lv_iconst (v := nI 0) hx hb dX2_foldsAgree_60 (by decide) ?_
  refine lv_aload_n hx hb dX2_foldsAgree_61 rfl (lv_at hl 9 rfl) ?_
  refine g_getN (C := RX1) (T := TX1) (N := 2) hx hb hw inX1 hown hK hP (i := r) (by omega) hR1a rfl 1 (by decide) (hE.2.2.1 (55, "Splityard$Row", "count", "I") (by decide +kernel)) rfl dX2_foldsAgree_62 ?_
  refine lv_iload hx hb dX2_foldsAgree_65 (lv_at hl 0 rfl) ?_
  refine lv_iload hx hb dX2_foldsAgree_67 (lv_at hl 5 rfl) ?_
  refine lv_iconst (v := nI 0) hx hb dX2_foldsAgree_69 (by decide) ?_
  refine g_callS (As := [.ref (ad r), .int (nI 0), .int (nI cn), .int (nI 7), .int (nI 115), .int (nI 0)]) (rest := []) ⟨hx, hb, hml, hown, hw⟩ (mX2_foldPart l D cT n ad A hD G r cn f (by omega) ⟨hR1a, hR1b⟩ (by omega) 7 115 (by omega) (by omega) (by decide) 8 0 cn 0 rfl (by omega) (by omega)) (va_cwS 6 hw (gWS wm_X2_173 wst_X2_foldPart wini_X2 wc_X2_foldPart) rfl rfl rfl (by decide +kernel) ⟨Nat.le_of_ble_eq_true rfl, Nat.le_of_ble_eq_true rfl⟩) hK hE hA hP hS rfl hl.1 (lv_room (Nat.le_of_ble_eq_true rfl)) dX2_foldsAgree_70 ⟨Nat.le_of_ble_eq_true rfl, Nat.le_of_ble_eq_true rfl⟩ (fun v_18 G_17 H locs hp hP hS => ?_)
  obtain ⟨hv, hg⟩ := hp
  subst hv
  rw [hg] at hP
  refine lv_lload hx hb dX2_foldsAgree_73 (lv_at hl 4 rfl) ?_
  refine W.lcmp hx hb dX2_foldsAgree_75 ?_
  refine t_eqi (nI 0) (lgc_eq rfl) ?_
  refine t_if_eq (tgt := 81) hx hb dX2_foldsAgree_76 (by decide) (by omega) (fun c_19 => ?_) (fun c_19 => absurd c_19 (by omega))
  refine lv_iinc (v := nI 4) (lv' := [(9, .int (nI 4)), (10, .int (nI 7)), (8, .int (nI 4)), (7, .ref tSI), (5, .long (fbn f 115 0 (cn - 0))), (4, .int (nI 115)), (3, .int (nI 0)), (2, .int (nI 4)), (1, .ref tHO), (0, .ref (ad r))]) hx hb dX2_foldsAgree_81 hl (k := 1) rfl (by exact nI_add 3 1) (by decide) rfl (fun ls hl => ?_)
  refine lv_goto (tgt := 45) hx hb dX2_foldsAgree_84 (by decide) ?_
  refine lv_iload hx hb dX2_foldsAgree_45 (lv_at hl 0 rfl) ?_
  refine lv_iload hx hb dX2_foldsAgree_47 (lv_at hl 2 rfl) ?_
  refine t_icmp_ge (tgt := 87) hx hb dX2_foldsAgree_49 (by decide) (by omega) (by omega) (fun c_20 => ?_) (fun c_20 => absurd c_20 (by omega))
  refine lv_iinc (v := nI 1) (lv' := [(3, .int (nI 1)), (9, .int (nI 4)), (10, .int (nI 7)), (8, .int (nI 4)), (7, .ref tSI), (5, .long (fbn f 115 0 (cn - 0))), (4, .int (nI 115)), (2, .int (nI 4)), (1, .ref tHO), (0, .ref (ad r))]) hx hb dX2_foldsAgree_87 hl (k := 6) rfl (by exact nI_add 0 1) (by decide) rfl (fun ls hl => ?_)
  refine lv_goto (tgt := 9) hx hb dX2_foldsAgree_90 (by decide) ?_
  refine lv_iload_n hx hb dX2_foldsAgree_9 rfl (lv_at hl 0 rfl) ?_
  refine lv_iload_n hx hb dX2_foldsAgree_10 rfl (lv_at hl 7 rfl) ?_
  refine t_icmp_ge (tgt := 93) hx hb dX2_foldsAgree_11 (by decide) (by omega) (by omega) (fun c_21 => absurd c_21 (by omega)) (fun c_21 => ?_)
  refine lv_aload_n hx hb dX2_foldsAgree_14 rfl (lv_at hl 8 rfl) ?_
  refine lv_iload_n hx hb dX2_foldsAgree_15 rfl (lv_at hl 0 rfl) ?_
  refine g_tc hx hb hTHO hS (j := 1) (v := 120) (by omega) (by omega) rfl dX2_foldsAgree_16 ?_
  refine lv_istore (lv' := [(4, .int (nI 120)), (3, .int (nI 1)), (9, .int (nI 4)), (10, .int (nI 7)), (8, .int (nI 4)), (7, .ref tSI), (5, .long (fbn f 115 0 (cn - 0))), (2, .int (nI 4)), (1, .ref tHO), (0, .ref (ad r))]) hx hb dX2_foldsAgree_17 hl (by decide) rfl (fun ls hl => ?_)
  refine lv_aload_n hx hb dX2_foldsAgree_19 rfl (lv_at hl 9 rfl) ?_
  refine lv_iconst (v := nI 0) hx hb dX2_foldsAgree_20 (by decide) ?_
  refine lv_aload_n hx hb dX2_foldsAgree_21 rfl (lv_at hl 9 rfl) ?_
  refine g_getN (C := RX1) (T := TX1) (N := 2) hx hb hw inX1 hown hK hP (i := r) (by omega) hR1a rfl 1 (by decide) (hE.2.2.1 (55, "Splityard$Row", "count", "I") (by decide +kernel)) rfl dX2_foldsAgree_22 ?_
  refine lv_iload hx hb dX2_foldsAgree_25 (lv_at hl 0 rfl) ?_
  refine g_callS (As := [.ref (ad r), .int (nI 0), .int (nI cn), .int (nI 120)]) (rest := []) ⟨hx, hb, hml, hown, hw⟩ (mX2_foldByNumber l D cT n ad A hD G r cn f (by omega) ⟨hR1a, hR1b⟩ (by omega) 0 cn 120 (by omega) (by decide) (by omega) (by omega)) (va_cwS 4 hw (gWS wm_X2_225 wst_X2_foldByNumber wini_X2 wc_X2_foldByNumber) rfl rfl rfl (by decide +kernel) ⟨Nat.le_of_ble_eq_true rfl, Nat.le_of_ble_eq_true rfl⟩) hK hE hA hP hS rfl hl.1 (lv_room (Nat.le_of_ble_eq_true rfl)) dX2_foldsAgree_27 ⟨Nat.le_of_ble_eq_true rfl, Nat.le_of_ble_eq_true rfl⟩ (fun v_23 G_22 H locs hp hP hS => ?_)
  obtain ⟨hv, hg⟩ := hp
  subst hv
  rw [hg] at hP
  refine lv_lstore (lv' := [(5, .long (fbn f 120 0 (cn - 0))), (4, .int (nI 120)), (3, .int (nI 1)), (9, .int (nI 4)), (10, .int (nI 7)), (8, .int (nI 4)), (7, .ref tSI), (2, .int (nI 4)), (1, .ref tHO), (0, .ref (ad r))]) hx hb dX2_foldsAgree_30 hl (by decide) rfl (fun ls hl => ?_)
  refine va_gets hx hb hZSI hS hown (hw _ wf_X2_258) (fun _ h9 => h9) dX2_foldsAgree_32 ?_
  refine lv_astore (lv' := [(7, .ref tSI), (5, .long (fbn f 120 0 (cn - 0))), (4, .int (nI 120)), (3, .int (nI 1)), (9, .int (nI 4)), (10, .int (nI 7)), (8, .int (nI 4)), (2, .int (nI 4)), (1, .ref tHO), (0, .ref (ad r))]) hx hb dX2_foldsAgree_35 hl (by decide) rfl (fun ls hl => ?_)
  refine lv_aload hx hb dX2_foldsAgree_37 (lv_at hl 0 rfl) ?_
  refine va_tlen hx hb hTSI hS (v := nI 4) rfl dX2_foldsAgree_39 ?_
  refine lv_istore (lv' := [(8, .int (nI 4)), (7, .ref tSI), (5, .long (fbn f 120 0 (cn - 0))), (4, .int (nI 120)), (3, .int (nI 1)), (9, .int (nI 4)), (10, .int (nI 7)), (2, .int (nI 4)), (1, .ref tHO), (0, .ref (ad r))]) hx hb dX2_foldsAgree_40 hl (by decide) rfl (fun ls hl => ?_)
  refine lv_iconst (v := nI 0) hx hb dX2_foldsAgree_42 (by decide) ?_
  refine lv_istore (lv' := [(9, .int (nI 0)), (8, .int (nI 4)), (7, .ref tSI), (5, .long (fbn f 120 0 (cn - 0))), (4, .int (nI 120)), (3, .int (nI 1)), (10, .int (nI 7)), (2, .int (nI 4)), (1, .ref tHO), (0, .ref (ad r))]) hx hb dX2_foldsAgree_43 hl (by decide) rfl (fun ls hl => ?_)
  refine lv_iload hx hb dX2_foldsAgree_45 (lv_at hl 0 rfl) ?_
  refine lv_iload hx hb dX2_foldsAgree_47 (lv_at hl 1 rfl) ?_
  refine t_icmp_ge (tgt := 87) hx hb dX2_foldsAgree_49 (by decide) (by omega) (by omega) (fun c_24 => absurd c_24 (by omega)) (fun c_24 => ?_)
  refine lv_aload hx hb dX2_foldsAgree_52 (lv_at hl 2 rfl) ?_
  refine lv_iload hx hb dX2_foldsAgree_54 (lv_at hl 0 rfl) ?_
  refine g_ti hx hb hTSI hS (j := 0) (v := 1) (by omega) (by omega) rfl dX2_foldsAgree_56 ?_
  refine lv_istore (lv' := [(10, .int (nI 1)), (9, .int (nI 0)), (8, .int (nI 4)), (7, .ref tSI), (5, .long (fbn f 120 0 (cn - 0))), (4, .int (nI 120)), (3, .int (nI 1)), (2, .int (nI 4)), (1, .ref tHO), (0, .ref (ad r))]) hx hb dX2_foldsAgree_57 hl (by decide) rfl (fun ls hl => ?_)
  refine lv_aload_n hx hb dX2_foldsAgree_59 rfl (lv_at hl 9 rfl) ?_
  refine lv_iconst (v := nI 0) hx hb dX2_foldsAgree_60 (by decide) ?_
  refine lv_aload_n hx hb dX2_foldsAgree_61 rfl (lv_at hl 9 rfl) ?_
  refine g_getN (C := RX1) (T := TX1) (N := 2) hx hb hw inX1 hown hK hP (i := r) (by omega) hR1a rfl 1 (by decide) (hE.2.2.1 (55, "Splityard$Row", "count", "I") (by decide +kernel)) rfl dX2_foldsAgree_62 ?_
  refine lv_iload hx hb dX2_foldsAgree_65 (lv_at hl 0 rfl) ?_
  refine lv_iload hx hb dX2_foldsAgree_67 (lv_at hl 5 rfl) ?_
  refine lv_iconst (v := nI 0) hx hb dX2_foldsAgree_69 (by decide) ?_
  refine g_callS (As := [.ref (ad r), .int (nI 0), .int (nI cn), .int (nI 1), .int (nI 120), .int (nI 0)]) (rest := []) ⟨hx, hb, hml, hown, hw⟩ (mX2_foldPart l D cT n ad A hD G r cn f (by omega) ⟨hR1a, hR1b⟩ (by omega) 1 120 (by omega) (by omega) (by decide) 8 0 cn 0 rfl (by omega) (by omega)) (va_cwS 6 hw (gWS wm_X2_173 wst_X2_foldPart wini_X2 wc_X2_foldPart) rfl rfl rfl (by decide +kernel) ⟨Nat.le_of_ble_eq_true rfl, Nat.le_of_ble_eq_true rfl⟩) hK hE hA hP hS rfl hl.1 (lv_room (Nat.le_of_ble_eq_true rfl)) dX2_foldsAgree_70 ⟨Nat.le_of_ble_eq_true rfl, Nat.le_of_ble_eq_true rfl⟩ (fun v_26 G_25 H locs hp hP hS => ?_)
  obtain ⟨hv, hg⟩ := hp
  subst hv
  rw [hg] at hP
  refine lv_lload hx hb dX2_foldsAgree_73 (lv_at hl 4 rfl) ?_
  refine W.lcmp hx hb dX2_foldsAgree_75 ?_
  refine t_eqi (nI 0) (lgc_eq rfl) ?_
  refine t_if_eq (tgt := 81) hx hb dX2_foldsAgree_76 (by decide) (by omega) (fun c_27 => ?_) (fun c_27 => absurd c_27 (by omega))
  refine lv_iinc (v := nI 1) (lv' := [(9, .int (nI 1)), (10, .int (nI 1)), (8, .int (nI 4)), (7, .ref tSI), (5, .long (fbn f 120 0 (cn - 0))), (4, .int (nI 120)), (3, .int (nI 1)), (2, .int (nI 4)), (1, .ref tHO), (0, .ref (ad r))]) hx hb dX2_foldsAgree_81 hl (k := 1) rfl (by exact nI_add 0 1) (by decide) rfl (fun ls hl => ?_)
  refine lv_goto (tgt := 45) hx hb dX2_foldsAgree_84 (by decide) ?_
  refine lv_iload hx hb dX2_foldsAgree_45 (lv_at hl 0 rfl) ?_
  refine lv_iload hx hb dX2_foldsAgree_47 (lv_at hl 2 rfl) ?_
  refine t_icmp_ge (tgt := 87) hx hb dX2_foldsAgree_49 (by decide) (by omega) (by omega) (fun c_28 => absurd c_28 (by omega)) (fun c_28 => ?_)
  refine lv_aload hx hb dX2_foldsAgree_52 (lv_at hl 3 rfl) ?_
  refine lv_iload hx hb dX2_foldsAgree_54 (lv_at hl 0 rfl) ?_
  refine g_ti hx hb hTSI hS (j := 1) (v := 2) (by omega) (by omega) rfl dX2_foldsAgree_56 ?_
  refine lv_istore (lv' := [(10, .int (nI 2)), (9, .int (nI 1)), (8, .int (nI 4)), (7, .ref tSI), (5, .long (fbn f 120 0 (cn - 0))), (4, .int (nI 120)), (3, .int (nI 1)), (2, .int (nI 4)), (1, .ref tHO), (0, .ref (ad r))]) hx hb dX2_foldsAgree_57 hl (by decide) rfl (fun ls hl => ?_)
  refine lv_aload_n hx hb dX2_foldsAgree_59 rfl (lv_at hl 9 rfl) ?_
  refine lv_iconst (v := nI 0) hx hb dX2_foldsAgree_60 (by decide) ?_
  refine lv_aload_n hx hb dX2_foldsAgree_61 rfl (lv_at hl 9 rfl) ?_
  refine g_getN (C := RX1) (T := TX1) (N := 2) hx hb hw inX1 hown hK hP (i := r) (by omega) hR1a rfl 1 (by decide) (hE.2.2.1 (55, "Splityard$Row", "count", "I") (by decide +kernel)) rfl dX2_foldsAgree_62 ?_
  refine lv_iload hx hb dX2_foldsAgree_65 (lv_at hl 0 rfl) ?_
  refine lv_iload hx hb dX2_foldsAgree_67 (lv_at hl 5 rfl) ?_
  refine lv_iconst (v := nI 0) hx hb dX2_foldsAgree_69 (by decide) ?_
  refine g_callS (As := [.ref (ad r), .int (nI 0), .int (nI cn), .int (nI 2), .int (nI 120), .int (nI 0)]) (rest := []) ⟨hx, hb, hml, hown, hw⟩ (mX2_foldPart l D cT n ad A hD G r cn f (by omega) ⟨hR1a, hR1b⟩ (by omega) 2 120 (by omega) (by omega) (by decide) 8 0 cn 0 rfl (by omega) (by omega)) (va_cwS 6 hw (gWS wm_X2_173 wst_X2_foldPart wini_X2 wc_X2_foldPart) rfl rfl rfl (by decide +kernel) ⟨Nat.le_of_ble_eq_true rfl, Nat.le_of_ble_eq_true rfl⟩) hK hE hA hP hS rfl hl.1 (lv_room (Nat.le_of_ble_eq_true rfl)) dX2_foldsAgree_70 ⟨Nat.le_of_ble_eq_true rfl, Nat.le_of_ble_eq_true rfl⟩ (fun v_30 G_29 H locs hp hP hS => ?_)
  obtain ⟨hv, hg⟩ := hp
  subst hv
  rw [hg] at hP
  refine lv_lload hx hb dX2_foldsAgree_73 (lv_at hl 4 rfl) ?_
  refine W.lcmp hx hb dX2_foldsAgree_75 ?_
  refine t_eqi (nI 0) (lgc_eq rfl) ?_
  refine t_if_eq (tgt := 81) hx hb dX2_foldsAgree_76 (by decide) (by omega) (fun c_31 => ?_) (fun c_31 => absurd c_31 (by omega))
  refine lv_iinc (v := nI 2) (lv' := [(9, .int (nI 2)), (10, .int (nI 2)), (8, .int (nI 4)), (7, .ref tSI), (5, .long (fbn f 120 0 (cn - 0))), (4, .int (nI 120)), (3, .int (nI 1)), (2, .int (nI 4)), (1, .ref tHO), (0, .ref (ad r))]) hx hb dX2_foldsAgree_81 hl (k := 1) rfl (by exact nI_add 1 1) (by decide) rfl (fun ls hl => ?_)
  refine lv_goto (tgt := 45) hx hb dX2_foldsAgree_84 (by decide) ?_
  refine lv_iload hx hb dX2_foldsAgree_45 (lv_at hl 0 rfl) ?_
  refine lv_iload hx hb dX2_foldsAgree_47 (lv_at hl 2 rfl) ?_
  refine t_icmp_ge (tgt := 87) hx hb dX2_foldsAgree_49 (by decide) (by omega) (by omega) (fun c_32 => absurd c_32 (by omega)) (fun c_32 => ?_)
  refine lv_aload hx hb dX2_foldsAgree_52 (lv_at hl 3 rfl) ?_
  refine lv_iload hx hb dX2_foldsAgree_54 (lv_at hl 0 rfl) ?_
  refine g_ti hx hb hTSI hS (j := 2) (v := 3) (by omega) (by omega) rfl dX2_foldsAgree_56 ?_
  refine lv_istore (lv' := [(10, .int (nI 3)), (9, .int (nI 2)), (8, .int (nI 4)), (7, .ref tSI), (5, .long (fbn f 120 0 (cn - 0))), (4, .int (nI 120)), (3, .int (nI 1)), (2, .int (nI 4)), (1, .ref tHO), (0, .ref (ad r))]) hx hb dX2_foldsAgree_57 hl (by decide) rfl (fun ls hl => ?_)
  refine lv_aload_n hx hb dX2_foldsAgree_59 rfl (lv_at hl 9 rfl) ?_
  refine lv_iconst (v := nI 0) hx hb dX2_foldsAgree_60 (by decide) ?_
  refine lv_aload_n hx hb dX2_foldsAgree_61 rfl (lv_at hl 9 rfl) ?_
  refine g_getN (C := RX1) (T := TX1) (N := 2) hx hb hw inX1 hown hK hP (i := r) (by omega) hR1a rfl 1 (by decide) (hE.2.2.1 (55, "Splityard$Row", "count", "I") (by decide +kernel)) rfl dX2_foldsAgree_62 ?_
  refine lv_iload hx hb dX2_foldsAgree_65 (lv_at hl 0 rfl) ?_
  refine lv_iload hx hb dX2_foldsAgree_67 (lv_at hl 5 rfl) ?_
  refine lv_iconst (v := nI 0) hx hb dX2_foldsAgree_69 (by decide) ?_
  refine g_callS (As := [.ref (ad r), .int (nI 0), .int (nI cn), .int (nI 3), .int (nI 120), .int (nI 0)]) (rest := []) ⟨hx, hb, hml, hown, hw⟩ (mX2_foldPart l D cT n ad A hD G r cn f (by omega) ⟨hR1a, hR1b⟩ (by omega) 3 120 (by omega) (by omega) (by decide) 8 0 cn 0 rfl (by omega) (by omega)) (va_cwS 6 hw (gWS wm_X2_173 wst_X2_foldPart wini_X2 wc_X2_foldPart) rfl rfl rfl (by decide +kernel) ⟨Nat.le_of_ble_eq_true rfl, Nat.le_of_ble_eq_true rfl⟩) hK hE hA hP hS rfl hl.1 (lv_room (Nat.le_of_ble_eq_true rfl)) dX2_foldsAgree_70 ⟨Nat.le_of_ble_eq_true rfl, Nat.le_of_ble_eq_true rfl⟩ (fun v_34 G_33 H locs hp hP hS => ?_)
  obtain ⟨hv, hg⟩ := hp
  subst hv
  rw [hg] at hP
  refine lv_lload hx hb dX2_foldsAgree_73 (lv_at hl 4 rfl) ?_
  refine W.lcmp hx hb dX2_foldsAgree_75 ?_
  refine t_eqi (nI 0) (lgc_eq rfl) ?_
  refine t_if_eq (tgt := 81) hx hb dX2_foldsAgree_76 (by decide) (by omega) (fun c_35 => ?_) (fun c_35 => absurd c_35 (by omega))
  refine lv_iinc (v := nI 3) (lv' := [(9, .int (nI 3)), (10, .int (nI 3)), (8, .int (nI 4)), (7, .ref tSI), (5, .long (fbn f 120 0 (cn - 0))), (4, .int (nI 120)), (3, .int (nI 1)), (2, .int (nI 4)), (1, .ref tHO), (0, .ref (ad r))]) hx hb dX2_foldsAgree_81 hl (k := 1) rfl (by exact nI_add 2 1) (by decide) rfl (fun ls hl => ?_)
  refine lv_goto (tgt := 45) hx hb dX2_foldsAgree_84 (by decide) ?_
  refine lv_iload hx hb dX2_foldsAgree_45 (lv_at hl 0 rfl) ?_
  refine lv_iload hx hb dX2_foldsAgree_47 (lv_at hl 2 rfl) ?_
  refine t_icmp_ge (tgt := 87) hx hb dX2_foldsAgree_49 (by decide) (by omega) (by omega) (fun c_36 => absurd c_36 (by omega)) (fun c_36 => ?_)
  refine lv_aload hx hb dX2_foldsAgree_52 (lv_at hl 3 rfl) ?_
  refine lv_iload hx hb dX2_foldsAgree_54 (lv_at hl 0 rfl) ?_
  refine g_ti hx hb hTSI hS (j := 3) (v := 7) (by omega) (by omega) rfl dX2_foldsAgree_56 ?_
  refine lv_istore (lv' := [(10, .int (nI 7)), (9, .int (nI 3)), (8, .int (nI 4)), (7, .ref tSI), (5, .long (fbn f 120 0 (cn - 0))), (4, .int (nI 120)), (3, .int (nI 1)), (2, .int (nI 4)), (1, .ref tHO), (0, .ref (ad r))]) hx hb dX2_foldsAgree_57 hl (by decide) rfl (fun ls hl => ?_)
  refine lv_aload_n hx hb dX2_foldsAgree_59 rfl (lv_at hl 9 rfl) ?_
  refine lv_iconst (v := nI 0) hx hb dX2_foldsAgree_60 (by decide) ?_
  refine lv_aload_n hx hb dX2_foldsAgree_61 rfl (lv_at hl 9 rfl) ?_
  refine g_getN (C := RX1) (T := TX1) (N := 2) hx hb hw inX1 hown hK hP (i := r) (by omega) hR1a rfl 1 (by decide) (hE.2.2.1 (55, "Splityard$Row", "count", "I") (by decide +kernel)) rfl dX2_foldsAgree_62 ?_
  refine lv_iload hx hb dX2_foldsAgree_65 (lv_at hl 0 rfl) ?_
  refine lv_iload hx hb dX2_foldsAgree_67 (lv_at hl 5 rfl) ?_
  refine lv_iconst (v := nI 0) hx hb dX2_foldsAgree_69 (by decide) ?_
  refine g_callS (As := [.ref (ad r), .int (nI 0), .int (nI cn), .int (nI 7), .int (nI 120), .int (nI 0)]) (rest := []) ⟨hx, hb, hml, hown, hw⟩ (mX2_foldPart l D cT n ad A hD G r cn f (by omega) ⟨hR1a, hR1b⟩ (by omega) 7 120 (by omega) (by omega) (by decide) 8 0 cn 0 rfl (by omega) (by omega)) (va_cwS 6 hw (gWS wm_X2_173 wst_X2_foldPart wini_X2 wc_X2_foldPart) rfl rfl rfl (by decide +kernel) ⟨Nat.le_of_ble_eq_true rfl, Nat.le_of_ble_eq_true rfl⟩) hK hE hA hP hS rfl hl.1 (lv_room (Nat.le_of_ble_eq_true rfl)) dX2_foldsAgree_70 ⟨Nat.le_of_ble_eq_true rfl, Nat.le_of_ble_eq_true rfl⟩ (fun v_38 G_37 H locs hp hP hS => ?_)
  obtain ⟨hv, hg⟩ := hp
  subst hv
  rw [hg] at hP
  refine lv_lload hx hb dX2_foldsAgree_73 (lv_at hl 4 rfl) ?_
  refine W.lcmp hx hb dX2_foldsAgree_75 ?_
  refine t_eqi (nI 0) (lgc_eq rfl) ?_
  refine t_if_eq (tgt := 81) hx hb dX2_foldsAgree_76 (by decide) (by omega) (fun c_39 => ?_) (fun c_39 => absurd c_39 (by omega))
  refine lv_iinc (v := nI 4) (lv' := [(9, .int (nI 4)), (10, .int (nI 7)), (8, .int (nI 4)), (7, .ref tSI), (5, .long (fbn f 120 0 (cn - 0))), (4, .int (nI 120)), (3, .int (nI 1)), (2, .int (nI 4)), (1, .ref tHO), (0, .ref (ad r))]) hx hb dX2_foldsAgree_81 hl (k := 1) rfl (by exact nI_add 3 1) (by decide) rfl (fun ls hl => ?_)
  refine lv_goto (tgt := 45) hx hb dX2_foldsAgree_84 (by decide) ?_
  refine lv_iload hx hb dX2_foldsAgree_45 (lv_at hl 0 rfl) ?_
  refine lv_iload hx hb dX2_foldsAgree_47 (lv_at hl 2 rfl) ?_
  refine t_icmp_ge (tgt := 87) hx hb dX2_foldsAgree_49 (by decide) (by omega) (by omega) (fun c_40 => ?_) (fun c_40 => absurd c_40 (by omega))
  refine lv_iinc (v := nI 2) (lv' := [(3, .int (nI 2)), (9, .int (nI 4)), (10, .int (nI 7)), (8, .int (nI 4)), (7, .ref tSI), (5, .long (fbn f 120 0 (cn - 0))), (4, .int (nI 120)), (2, .int (nI 4)), (1, .ref tHO), (0, .ref (ad r))]) hx hb dX2_foldsAgree_87 hl (k := 6) rfl (by exact nI_add 1 1) (by decide) rfl (fun ls hl => ?_)
  refine lv_goto (tgt := 9) hx hb dX2_foldsAgree_90 (by decide) ?_
  refine lv_iload_n hx hb dX2_foldsAgree_9 rfl (lv_at hl 0 rfl) ?_
  refine lv_iload_n hx hb dX2_foldsAgree_10 rfl (lv_at hl 7 rfl) ?_
  refine t_icmp_ge (tgt := 93) hx hb dX2_foldsAgree_11 (by decide) (by omega) (by omega) (fun c_41 => absurd c_41 (by omega)) (fun c_41 => ?_)
  refine lv_aload_n hx hb dX2_foldsAgree_14 rfl (lv_at hl 8 rfl) ?_
  refine lv_iload_n hx hb dX2_foldsAgree_15 rfl (lv_at hl 0 rfl) ?_
  refine g_tc hx hb hTHO hS (j := 2) (v := 104) (by omega) (by omega) rfl dX2_foldsAgree_16 ?_
  refine lv_istore (lv' := [(4, .int (nI 104)), (3, .int (nI 2)), (9, .int (nI 4)), (10, .int (nI 7)), (8, .int (nI 4)), (7, .ref tSI), (5, .long (fbn f 120 0 (cn - 0))), (2, .int (nI 4)), (1, .ref tHO), (0, .ref (ad r))]) hx hb dX2_foldsAgree_17 hl (by decide) rfl (fun ls hl => ?_)
  refine lv_aload_n hx hb dX2_foldsAgree_19 rfl (lv_at hl 9 rfl) ?_
  refine lv_iconst (v := nI 0) hx hb dX2_foldsAgree_20 (by decide) ?_
  refine lv_aload_n hx hb dX2_foldsAgree_21 rfl (lv_at hl 9 rfl) ?_
  refine g_getN (C := RX1) (T := TX1) (N := 2) hx hb hw inX1 hown hK hP (i := r) (by omega) hR1a rfl 1 (by decide) (hE.2.2.1 (55, "Splityard$Row", "count", "I") (by decide +kernel)) rfl dX2_foldsAgree_22 ?_
  refine lv_iload hx hb dX2_foldsAgree_25 (lv_at hl 0 rfl) ?_
  refine g_callS (As := [.ref (ad r), .int (nI 0), .int (nI cn), .int (nI 104)]) (rest := []) ⟨hx, hb, hml, hown, hw⟩ (mX2_foldByNumber l D cT n ad A hD G r cn f (by omega) ⟨hR1a, hR1b⟩ (by omega) 0 cn 104 (by omega) (by decide) (by omega) (by omega)) (va_cwS 4 hw (gWS wm_X2_225 wst_X2_foldByNumber wini_X2 wc_X2_foldByNumber) rfl rfl rfl (by decide +kernel) ⟨Nat.le_of_ble_eq_true rfl, Nat.le_of_ble_eq_true rfl⟩) hK hE hA hP hS rfl hl.1 (lv_room (Nat.le_of_ble_eq_true rfl)) dX2_foldsAgree_27 ⟨Nat.le_of_ble_eq_true rfl, Nat.le_of_ble_eq_true rfl⟩ (fun v_43 G_42 H locs hp hP hS => ?_)
  obtain ⟨hv, hg⟩ := hp
  subst hv
  rw [hg] at hP
  refine lv_lstore (lv' := [(5, .long (fbn f 104 0 (cn - 0))), (4, .int (nI 104)), (3, .int (nI 2)), (9, .int (nI 4)), (10, .int (nI 7)), (8, .int (nI 4)), (7, .ref tSI), (2, .int (nI 4)), (1, .ref tHO), (0, .ref (ad r))]) hx hb dX2_foldsAgree_30 hl (by decide) rfl (fun ls hl => ?_)
  refine va_gets hx hb hZSI hS hown (hw _ wf_X2_258) (fun _ h9 => h9) dX2_foldsAgree_32 ?_
  refine lv_astore (lv' := [(7, .ref tSI), (5, .long (fbn f 104 0 (cn - 0))), (4, .int (nI 104)), (3, .int (nI 2)), (9, .int (nI 4)), (10, .int (nI 7)), (8, .int (nI 4)), (2, .int (nI 4)), (1, .ref tHO), (0, .ref (ad r))]) hx hb dX2_foldsAgree_35 hl (by decide) rfl (fun ls hl => ?_)
  refine lv_aload hx hb dX2_foldsAgree_37 (lv_at hl 0 rfl) ?_
  refine va_tlen hx hb hTSI hS (v := nI 4) rfl dX2_foldsAgree_39 ?_
  refine lv_istore (lv' := [(8, .int (nI 4)), (7, .ref tSI), (5, .long (fbn f 104 0 (cn - 0))), (4, .int (nI 104)), (3, .int (nI 2)), (9, .int (nI 4)), (10, .int (nI 7)), (2, .int (nI 4)), (1, .ref tHO), (0, .ref (ad r))]) hx hb dX2_foldsAgree_40 hl (by decide) rfl (fun ls hl => ?_)
  refine lv_iconst (v := nI 0) hx hb dX2_foldsAgree_42 (by decide) ?_
  refine lv_istore (lv' := [(9, .int (nI 0)), (8, .int (nI 4)), (7, .ref tSI), (5, .long (fbn f 104 0 (cn - 0))), (4, .int (nI 104)), (3, .int (nI 2)), (10, .int (nI 7)), (2, .int (nI 4)), (1, .ref tHO), (0, .ref (ad r))]) hx hb dX2_foldsAgree_43 hl (by decide) rfl (fun ls hl => ?_)
  refine lv_iload hx hb dX2_foldsAgree_45 (lv_at hl 0 rfl) ?_
  refine lv_iload hx hb dX2_foldsAgree_47 (lv_at hl 1 rfl) ?_
  refine t_icmp_ge (tgt := 87) hx hb dX2_foldsAgree_49 (by decide) (by omega) (by omega) (fun c_44 => absurd c_44 (by omega)) (fun c_44 => ?_)
  refine lv_aload hx hb dX2_foldsAgree_52 (lv_at hl 2 rfl) ?_
  refine lv_iload hx hb dX2_foldsAgree_54 (lv_at hl 0 rfl) ?_
  refine g_ti hx hb hTSI hS (j := 0) (v := 1) (by omega) (by omega) rfl dX2_foldsAgree_56 ?_
  refine lv_istore (lv' := [(10, .int (nI 1)), (9, .int (nI 0)), (8, .int (nI 4)), (7, .ref tSI), (5, .long (fbn f 104 0 (cn - 0))), (4, .int (nI 104)), (3, .int (nI 2)), (2, .int (nI 4)), (1, .ref tHO), (0, .ref (ad r))]) hx hb dX2_foldsAgree_57 hl (by decide) rfl (fun ls hl => ?_)
  refine lv_aload_n hx hb dX2_foldsAgree_59 rfl (lv_at hl 9 rfl) ?_
  refine lv_iconst (v := nI 0) hx hb dX2_foldsAgree_60 (by decide) ?_
  refine lv_aload_n hx hb dX2_foldsAgree_61 rfl (lv_at hl 9 rfl) ?_
  refine g_getN (C := RX1) (T := TX1) (N := 2) hx hb hw inX1 hown hK hP (i := r) (by omega) hR1a rfl 1 (by decide) (hE.2.2.1 (55, "Splityard$Row", "count", "I") (by decide +kernel)) rfl dX2_foldsAgree_62 ?_
  refine lv_iload hx hb dX2_foldsAgree_65 (lv_at hl 0 rfl) ?_
  refine lv_iload hx hb dX2_foldsAgree_67 (lv_at hl 5 rfl) ?_
  refine lv_iconst (v := nI 0) hx hb dX2_foldsAgree_69 (by decide) ?_
  refine g_callS (As := [.ref (ad r), .int (nI 0), .int (nI cn), .int (nI 1), .int (nI 104), .int (nI 0)]) (rest := []) ⟨hx, hb, hml, hown, hw⟩ (mX2_foldPart l D cT n ad A hD G r cn f (by omega) ⟨hR1a, hR1b⟩ (by omega) 1 104 (by omega) (by omega) (by decide) 8 0 cn 0 rfl (by omega) (by omega)) (va_cwS 6 hw (gWS wm_X2_173 wst_X2_foldPart wini_X2 wc_X2_foldPart) rfl rfl rfl (by decide +kernel) ⟨Nat.le_of_ble_eq_true rfl, Nat.le_of_ble_eq_true rfl⟩) hK hE hA hP hS rfl hl.1 (lv_room (Nat.le_of_ble_eq_true rfl)) dX2_foldsAgree_70 ⟨Nat.le_of_ble_eq_true rfl, Nat.le_of_ble_eq_true rfl⟩ (fun v_46 G_45 H locs hp hP hS => ?_)
  obtain ⟨hv, hg⟩ := hp
  subst hv
  rw [hg] at hP
  refine lv_lload hx hb dX2_foldsAgree_73 (lv_at hl 4 rfl) ?_
  refine W.lcmp hx hb dX2_foldsAgree_75 ?_
  refine t_eqi (nI 0) (lgc_eq rfl) ?_
  refine t_if_eq (tgt := 81) hx hb dX2_foldsAgree_76 (by decide) (by omega) (fun c_47 => ?_) (fun c_47 => absurd c_47 (by omega))
  refine lv_iinc (v := nI 1) (lv' := [(9, .int (nI 1)), (10, .int (nI 1)), (8, .int (nI 4)), (7, .ref tSI), (5, .long (fbn f 104 0 (cn - 0))), (4, .int (nI 104)), (3, .int (nI 2)), (2, .int (nI 4)), (1, .ref tHO), (0, .ref (ad r))]) hx hb dX2_foldsAgree_81 hl (k := 1) rfl (by exact nI_add 0 1) (by decide) rfl (fun ls hl => ?_)
  refine lv_goto (tgt := 45) hx hb dX2_foldsAgree_84 (by decide) ?_
  refine lv_iload hx hb dX2_foldsAgree_45 (lv_at hl 0 rfl) ?_
  refine lv_iload hx hb dX2_foldsAgree_47 (lv_at hl 2 rfl) ?_
  refine t_icmp_ge (tgt := 87) hx hb dX2_foldsAgree_49 (by decide) (by omega) (by omega) (fun c_48 => absurd c_48 (by omega)) (fun c_48 => ?_)
  refine lv_aload hx hb dX2_foldsAgree_52 (lv_at hl 3 rfl) ?_
  refine lv_iload hx hb dX2_foldsAgree_54 (lv_at hl 0 rfl) ?_
  refine g_ti hx hb hTSI hS (j := 1) (v := 2) (by omega) (by omega) rfl dX2_foldsAgree_56 ?_
  refine lv_istore (lv' := [(10, .int (nI 2)), (9, .int (nI 1)), (8, .int (nI 4)), (7, .ref tSI), (5, .long (fbn f 104 0 (cn - 0))), (4, .int (nI 104)), (3, .int (nI 2)), (2, .int (nI 4)), (1, .ref tHO), (0, .ref (ad r))]) hx hb dX2_foldsAgree_57 hl (by decide) rfl (fun ls hl => ?_)
  refine lv_aload_n hx hb dX2_foldsAgree_59 rfl (lv_at hl 9 rfl) ?_
  refine lv_iconst (v := nI 0) hx hb dX2_foldsAgree_60 (by decide) ?_
  refine lv_aload_n hx hb dX2_foldsAgree_61 rfl (lv_at hl 9 rfl) ?_
  refine g_getN (C := RX1) (T := TX1) (N := 2) hx hb hw inX1 hown hK hP (i := r) (by omega) hR1a rfl 1 (by decide) (hE.2.2.1 (55, "Splityard$Row", "count", "I") (by decide +kernel)) rfl dX2_foldsAgree_62 ?_
  refine lv_iload hx hb dX2_foldsAgree_65 (lv_at hl 0 rfl) ?_
  refine lv_iload hx hb dX2_foldsAgree_67 (lv_at hl 5 rfl) ?_
  refine lv_iconst (v := nI 0) hx hb dX2_foldsAgree_69 (by decide) ?_
  refine g_callS (As := [.ref (ad r), .int (nI 0), .int (nI cn), .int (nI 2), .int (nI 104), .int (nI 0)]) (rest := []) ⟨hx, hb, hml, hown, hw⟩ (mX2_foldPart l D cT n ad A hD G r cn f (by omega) ⟨hR1a, hR1b⟩ (by omega) 2 104 (by omega) (by omega) (by decide) 8 0 cn 0 rfl (by omega) (by omega)) (va_cwS 6 hw (gWS wm_X2_173 wst_X2_foldPart wini_X2 wc_X2_foldPart) rfl rfl rfl (by decide +kernel) ⟨Nat.le_of_ble_eq_true rfl, Nat.le_of_ble_eq_true rfl⟩) hK hE hA hP hS rfl hl.1 (lv_room (Nat.le_of_ble_eq_true rfl)) dX2_foldsAgree_70 ⟨Nat.le_of_ble_eq_true rfl, Nat.le_of_ble_eq_true rfl⟩ (fun v_50 G_49 H locs hp hP hS => ?_)
  obtain ⟨hv, hg⟩ := hp
  subst hv
  rw [hg] at hP
  refine lv_lload hx hb dX2_foldsAgree_73 (lv_at hl 4 rfl) ?_
  refine W.lcmp hx hb dX2_foldsAgree_75 ?_
  refine t_eqi (nI 0) (lgc_eq rfl) ?_
  refine t_if_eq (tgt := 81) hx hb dX2_foldsAgree_76 (by decide) (by omega) (fun c_51 => ?_) (fun c_51 => absurd c_51 (by omega))
  refine lv_iinc (v := nI 2) (lv' := [(9, .int (nI 2)), (10, .int (nI 2)), (8, .int (nI 4)), (7, .ref tSI), (5, .long (fbn f 104 0 (cn - 0))), (4, .int (nI 104)), (3, .int (nI 2)), (2, .int (nI 4)), (1, .ref tHO), (0, .ref (ad r))]) hx hb dX2_foldsAgree_81 hl (k := 1) rfl (by exact nI_add 1 1) (by decide) rfl (fun ls hl => ?_)
  refine lv_goto (tgt := 45) hx hb dX2_foldsAgree_84 (by decide) ?_
  refine lv_iload hx hb dX2_foldsAgree_45 (lv_at hl 0 rfl) ?_
  refine lv_iload hx hb dX2_foldsAgree_47 (lv_at hl 2 rfl) ?_
  refine t_icmp_ge (tgt := 87) hx hb dX2_foldsAgree_49 (by decide) (by omega) (by omega) (fun c_52 => absurd c_52 (by omega)) (fun c_52 => ?_)
  refine lv_aload hx hb dX2_foldsAgree_52 (lv_at hl 3 rfl) ?_
  refine lv_iload hx hb dX2_foldsAgree_54 (lv_at hl 0 rfl) ?_
  refine g_ti hx hb hTSI hS (j := 2) (v := 3) (by omega) (by omega) rfl dX2_foldsAgree_56 ?_
  refine lv_istore (lv' := [(10, .int (nI 3)), (9, .int (nI 2)), (8, .int (nI 4)), (7, .ref tSI), (5, .long (fbn f 104 0 (cn - 0))), (4, .int (nI 104)), (3, .int (nI 2)), (2, .int (nI 4)), (1, .ref tHO), (0, .ref (ad r))]) hx hb dX2_foldsAgree_57 hl (by decide) rfl (fun ls hl => ?_)
  refine lv_aload_n hx hb dX2_foldsAgree_59 rfl (lv_at hl 9 rfl) ?_
  refine lv_iconst (v := nI 0) hx hb dX2_foldsAgree_60 (by decide) ?_
  refine lv_aload_n hx hb dX2_foldsAgree_61 rfl (lv_at hl 9 rfl) ?_
  refine g_getN (C := RX1) (T := TX1) (N := 2) hx hb hw inX1 hown hK hP (i := r) (by omega) hR1a rfl 1 (by decide) (hE.2.2.1 (55, "Splityard$Row", "count", "I") (by decide +kernel)) rfl dX2_foldsAgree_62 ?_
  refine lv_iload hx hb dX2_foldsAgree_65 (lv_at hl 0 rfl) ?_
  refine lv_iload hx hb dX2_foldsAgree_67 (lv_at hl 5 rfl) ?_
  refine lv_iconst (v := nI 0) hx hb dX2_foldsAgree_69 (by decide) ?_
  refine g_callS (As := [.ref (ad r), .int (nI 0), .int (nI cn), .int (nI 3), .int (nI 104), .int (nI 0)]) (rest := []) ⟨hx, hb, hml, hown, hw⟩ (mX2_foldPart l D cT n ad A hD G r cn f (by omega) ⟨hR1a, hR1b⟩ (by omega) 3 104 (by omega) (by omega) (by decide) 8 0 cn 0 rfl (by omega) (by omega)) (va_cwS 6 hw (gWS wm_X2_173 wst_X2_foldPart wini_X2 wc_X2_foldPart) rfl rfl rfl (by decide +kernel) ⟨Nat.le_of_ble_eq_true rfl, Nat.le_of_ble_eq_true rfl⟩) hK hE hA hP hS rfl hl.1 (lv_room (Nat.le_of_ble_eq_true rfl)) dX2_foldsAgree_70 ⟨Nat.le_of_ble_eq_true rfl, Nat.le_of_ble_eq_true rfl⟩ (fun v_54 G_53 H locs hp hP hS => ?_)
  obtain ⟨hv, hg⟩ := hp
  subst hv
  rw [hg] at hP
  refine lv_lload hx hb dX2_foldsAgree_73 (lv_at hl 4 rfl) ?_
  refine W.lcmp hx hb dX2_foldsAgree_75 ?_
  refine t_eqi (nI 0) (lgc_eq rfl) ?_
  refine t_if_eq (tgt := 81) hx hb dX2_foldsAgree_76 (by decide) (by omega) (fun c_55 => ?_) (fun c_55 => absurd c_55 (by omega))
  refine lv_iinc (v := nI 3) (lv' := [(9, .int (nI 3)), (10, .int (nI 3)), (8, .int (nI 4)), (7, .ref tSI), (5, .long (fbn f 104 0 (cn - 0))), (4, .int (nI 104)), (3, .int (nI 2)), (2, .int (nI 4)), (1, .ref tHO), (0, .ref (ad r))]) hx hb dX2_foldsAgree_81 hl (k := 1) rfl (by exact nI_add 2 1) (by decide) rfl (fun ls hl => ?_)
  refine lv_goto (tgt := 45) hx hb dX2_foldsAgree_84 (by decide) ?_
  refine lv_iload hx hb dX2_foldsAgree_45 (lv_at hl 0 rfl) ?_
  refine lv_iload hx hb dX2_foldsAgree_47 (lv_at hl 2 rfl) ?_
  refine t_icmp_ge (tgt := 87) hx hb dX2_foldsAgree_49 (by decide) (by omega) (by omega) (fun c_56 => absurd c_56 (by omega)) (fun c_56 => ?_)
  refine lv_aload hx hb dX2_foldsAgree_52 (lv_at hl 3 rfl) ?_
  refine lv_iload hx hb dX2_foldsAgree_54 (lv_at hl 0 rfl) ?_
  refine g_ti hx hb hTSI hS (j := 3) (v := 7) (by omega) (by omega) rfl dX2_foldsAgree_56 ?_
  refine lv_istore (lv' := [(10, .int (nI 7)), (9, .int (nI 3)), (8, .int (nI 4)), (7, .ref tSI), (5, .long (fbn f 104 0 (cn - 0))), (4, .int (nI 104)), (3, .int (nI 2)), (2, .int (nI 4)), (1, .ref tHO), (0, .ref (ad r))]) hx hb dX2_foldsAgree_57 hl (by decide) rfl (fun ls hl => ?_)
  refine lv_aload_n hx hb dX2_foldsAgree_59 rfl (lv_at hl 9 rfl) ?_
  refine lv_iconst (v := nI 0) hx hb dX2_foldsAgree_60 (by decide) ?_
  refine lv_aload_n hx hb dX2_foldsAgree_61 rfl (lv_at hl 9 rfl) ?_
  refine g_getN (C := RX1) (T := TX1) (N := 2) hx hb hw inX1 hown hK hP (i := r) (by omega) hR1a rfl 1 (by decide) (hE.2.2.1 (55, "Splityard$Row", "count", "I") (by decide +kernel)) rfl dX2_foldsAgree_62 ?_
  refine lv_iload hx hb dX2_foldsAgree_65 (lv_at hl 0 rfl) ?_
  refine lv_iload hx hb dX2_foldsAgree_67 (lv_at hl 5 rfl) ?_
  refine lv_iconst (v := nI 0) hx hb dX2_foldsAgree_69 (by decide) ?_
  refine g_callS (As := [.ref (ad r), .int (nI 0), .int (nI cn), .int (nI 7), .int (nI 104), .int (nI 0)]) (rest := []) ⟨hx, hb, hml, hown, hw⟩ (mX2_foldPart l D cT n ad A hD G r cn f (by omega) ⟨hR1a, hR1b⟩ (by omega) 7 104 (by omega) (by omega) (by decide) 8 0 cn 0 rfl (by omega) (by omega)) (va_cwS 6 hw (gWS wm_X2_173 wst_X2_foldPart wini_X2 wc_X2_foldPart) rfl rfl rfl (by decide +kernel) ⟨Nat.le_of_ble_eq_true rfl, Nat.le_of_ble_eq_true rfl⟩) hK hE hA hP hS rfl hl.1 (lv_room (Nat.le_of_ble_eq_true rfl)) dX2_foldsAgree_70 ⟨Nat.le_of_ble_eq_true rfl, Nat.le_of_ble_eq_true rfl⟩ (fun v_58 G_57 H locs hp hP hS => ?_)
  obtain ⟨hv, hg⟩ := hp
  subst hv
  rw [hg] at hP
  refine lv_lload hx hb dX2_foldsAgree_73 (lv_at hl 4 rfl) ?_
  refine W.lcmp hx hb dX2_foldsAgree_75 ?_
  refine t_eqi (nI 0) (lgc_eq rfl) ?_
  refine t_if_eq (tgt := 81) hx hb dX2_foldsAgree_76 (by decide) (by omega) (fun c_59 => ?_) (fun c_59 => absurd c_59 (by omega))
  refine lv_iinc (v := nI 4) (lv' := [(9, .int (nI 4)), (10, .int (nI 7)), (8, .int (nI 4)), (7, .ref tSI), (5, .long (fbn f 104 0 (cn - 0))), (4, .int (nI 104)), (3, .int (nI 2)), (2, .int (nI 4)), (1, .ref tHO), (0, .ref (ad r))]) hx hb dX2_foldsAgree_81 hl (k := 1) rfl (by exact nI_add 3 1) (by decide) rfl (fun ls hl => ?_)
  refine lv_goto (tgt := 45) hx hb dX2_foldsAgree_84 (by decide) ?_
  refine lv_iload hx hb dX2_foldsAgree_45 (lv_at hl 0 rfl) ?_
  refine lv_iload hx hb dX2_foldsAgree_47 (lv_at hl 2 rfl) ?_
  refine t_icmp_ge (tgt := 87) hx hb dX2_foldsAgree_49 (by decide) (by omega) (by omega) (fun c_60 => ?_) (fun c_60 => absurd c_60 (by omega))
  refine lv_iinc (v := nI 3) (lv' := [(3, .int (nI 3)), (9, .int (nI 4)), (10, .int (nI 7)), (8, .int (nI 4)), (7, .ref tSI), (5, .long (fbn f 104 0 (cn - 0))), (4, .int (nI 104)), (2, .int (nI 4)), (1, .ref tHO), (0, .ref (ad r))]) hx hb dX2_foldsAgree_87 hl (k := 6) rfl (by exact nI_add 2 1) (by decide) rfl (fun ls hl => ?_)
  refine lv_goto (tgt := 9) hx hb dX2_foldsAgree_90 (by decide) ?_
  refine lv_iload_n hx hb dX2_foldsAgree_9 rfl (lv_at hl 0 rfl) ?_
  refine lv_iload_n hx hb dX2_foldsAgree_10 rfl (lv_at hl 7 rfl) ?_
  refine t_icmp_ge (tgt := 93) hx hb dX2_foldsAgree_11 (by decide) (by omega) (by omega) (fun c_61 => absurd c_61 (by omega)) (fun c_61 => ?_)
  refine lv_aload_n hx hb dX2_foldsAgree_14 rfl (lv_at hl 8 rfl) ?_
  refine lv_iload_n hx hb dX2_foldsAgree_15 rfl (lv_at hl 0 rfl) ?_
  refine g_tc hx hb hTHO hS (j := 3) (v := 102) (by omega) (by omega) rfl dX2_foldsAgree_16 ?_
  refine lv_istore (lv' := [(4, .int (nI 102)), (3, .int (nI 3)), (9, .int (nI 4)), (10, .int (nI 7)), (8, .int (nI 4)), (7, .ref tSI), (5, .long (fbn f 104 0 (cn - 0))), (2, .int (nI 4)), (1, .ref tHO), (0, .ref (ad r))]) hx hb dX2_foldsAgree_17 hl (by decide) rfl (fun ls hl => ?_)
  refine lv_aload_n hx hb dX2_foldsAgree_19 rfl (lv_at hl 9 rfl) ?_
  refine lv_iconst (v := nI 0) hx hb dX2_foldsAgree_20 (by decide) ?_
  refine lv_aload_n hx hb dX2_foldsAgree_21 rfl (lv_at hl 9 rfl) ?_
  refine g_getN (C := RX1) (T := TX1) (N := 2) hx hb hw inX1 hown hK hP (i := r) (by omega) hR1a rfl 1 (by decide) (hE.2.2.1 (55, "Splityard$Row", "count", "I") (by decide +kernel)) rfl dX2_foldsAgree_22 ?_
  refine lv_iload hx hb dX2_foldsAgree_25 (lv_at hl 0 rfl) ?_
  refine g_callS (As := [.ref (ad r), .int (nI 0), .int (nI cn), .int (nI 102)]) (rest := []) ⟨hx, hb, hml, hown, hw⟩ (mX2_foldByNumber l D cT n ad A hD G r cn f (by omega) ⟨hR1a, hR1b⟩ (by omega) 0 cn 102 (by omega) (by decide) (by omega) (by omega)) (va_cwS 4 hw (gWS wm_X2_225 wst_X2_foldByNumber wini_X2 wc_X2_foldByNumber) rfl rfl rfl (by decide +kernel) ⟨Nat.le_of_ble_eq_true rfl, Nat.le_of_ble_eq_true rfl⟩) hK hE hA hP hS rfl hl.1 (lv_room (Nat.le_of_ble_eq_true rfl)) dX2_foldsAgree_27 ⟨Nat.le_of_ble_eq_true rfl, Nat.le_of_ble_eq_true rfl⟩ (fun v_63 G_62 H locs hp hP hS => ?_)
  obtain ⟨hv, hg⟩ := hp
  subst hv
  rw [hg] at hP
  refine lv_lstore (lv' := [(5, .long (fbn f 102 0 (cn - 0))), (4, .int (nI 102)), (3, .int (nI 3)), (9, .int (nI 4)), (10, .int (nI 7)), (8, .int (nI 4)), (7, .ref tSI), (2, .int (nI 4)), (1, .ref tHO), (0, .ref (ad r))]) hx hb dX2_foldsAgree_30 hl (by decide) rfl (fun ls hl => ?_)
  refine va_gets hx hb hZSI hS hown (hw _ wf_X2_258) (fun _ h9 => h9) dX2_foldsAgree_32 ?_
  refine lv_astore (lv' := [(7, .ref tSI), (5, .long (fbn f 102 0 (cn - 0))), (4, .int (nI 102)), (3, .int (nI 3)), (9, .int (nI 4)), (10, .int (nI 7)), (8, .int (nI 4)), (2, .int (nI 4)), (1, .ref tHO), (0, .ref (ad r))]) hx hb dX2_foldsAgree_35 hl (by decide) rfl (fun ls hl => ?_)
  refine lv_aload hx hb dX2_foldsAgree_37 (lv_at hl 0 rfl) ?_
  refine va_tlen hx hb hTSI hS (v := nI 4) rfl dX2_foldsAgree_39 ?_
  refine lv_istore (lv' := [(8, .int (nI 4)), (7, .ref tSI), (5, .long (fbn f 102 0 (cn - 0))), (4, .int (nI 102)), (3, .int (nI 3)), (9, .int (nI 4)), (10, .int (nI 7)), (2, .int (nI 4)), (1, .ref tHO), (0, .ref (ad r))]) hx hb dX2_foldsAgree_40 hl (by decide) rfl (fun ls hl => ?_)
  refine lv_iconst (v := nI 0) hx hb dX2_foldsAgree_42 (by decide) ?_
  refine lv_istore (lv' := [(9, .int (nI 0)), (8, .int (nI 4)), (7, .ref tSI), (5, .long (fbn f 102 0 (cn - 0))), (4, .int (nI 102)), (3, .int (nI 3)), (10, .int (nI 7)), (2, .int (nI 4)), (1, .ref tHO), (0, .ref (ad r))]) hx hb dX2_foldsAgree_43 hl (by decide) rfl (fun ls hl => ?_)
  refine lv_iload hx hb dX2_foldsAgree_45 (lv_at hl 0 rfl) ?_
  refine lv_iload hx hb dX2_foldsAgree_47 (lv_at hl 1 rfl) ?_
  refine t_icmp_ge (tgt := 87) hx hb dX2_foldsAgree_49 (by decide) (by omega) (by omega) (fun c_64 => absurd c_64 (by omega)) (fun c_64 => ?_)
  refine lv_aload hx hb dX2_foldsAgree_52 (lv_at hl 2 rfl) ?_
  refine lv_iload hx hb dX2_foldsAgree_54 (lv_at hl 0 rfl) ?_
  refine g_ti hx hb hTSI hS (j := 0) (v := 1) (by omega) (by omega) rfl dX2_foldsAgree_56 ?_
  refine lv_istore (lv' := [(10, .int (nI 1)), (9, .int (nI 0)), (8, .int (nI 4)), (7, .ref tSI), (5, .long (fbn f 102 0 (cn - 0))), (4, .int (nI 102)), (3, .int (nI 3)), (2, .int (nI 4)), (1, .ref tHO), (0, .ref (ad r))]) hx hb dX2_foldsAgree_57 hl (by decide) rfl (fun ls hl => ?_)
  refine lv_aload_n hx hb dX2_foldsAgree_59 rfl (lv_at hl 9 rfl) ?_
  refine lv_iconst (v := nI 0) hx hb dX2_foldsAgree_60 (by decide) ?_
  refine lv_aload_n hx hb dX2_foldsAgree_61 rfl (lv_at hl 9 rfl) ?_
  refine g_getN (C := RX1) (T := TX1) (N := 2) hx hb hw inX1 hown hK hP (i := r) (by omega) hR1a rfl 1 (by decide) (hE.2.2.1 (55, "Splityard$Row", "count", "I") (by decide +kernel)) rfl dX2_foldsAgree_62 ?_
  refine lv_iload hx hb dX2_foldsAgree_65 (lv_at hl 0 rfl) ?_
  refine lv_iload hx hb dX2_foldsAgree_67 (lv_at hl 5 rfl) ?_
  refine lv_iconst (v := nI 0) hx hb dX2_foldsAgree_69 (by decide) ?_
  refine g_callS (As := [.ref (ad r), .int (nI 0), .int (nI cn), .int (nI 1), .int (nI 102), .int (nI 0)]) (rest := []) ⟨hx, hb, hml, hown, hw⟩ (mX2_foldPart l D cT n ad A hD G r cn f (by omega) ⟨hR1a, hR1b⟩ (by omega) 1 102 (by omega) (by omega) (by decide) 8 0 cn 0 rfl (by omega) (by omega)) (va_cwS 6 hw (gWS wm_X2_173 wst_X2_foldPart wini_X2 wc_X2_foldPart) rfl rfl rfl (by decide +kernel) ⟨Nat.le_of_ble_eq_true rfl, Nat.le_of_ble_eq_true rfl⟩) hK hE hA hP hS rfl hl.1 (lv_room (Nat.le_of_ble_eq_true rfl)) dX2_foldsAgree_70 ⟨Nat.le_of_ble_eq_true rfl, Nat.le_of_ble_eq_true rfl⟩ (fun v_66 G_65 H locs hp hP hS => ?_)
  obtain ⟨hv, hg⟩ := hp
  subst hv
  rw [hg] at hP
  refine lv_lload hx hb dX2_foldsAgree_73 (lv_at hl 4 rfl) ?_
  refine W.lcmp hx hb dX2_foldsAgree_75 ?_
  refine t_eqi (nI 0) (lgc_eq rfl) ?_
  refine t_if_eq (tgt := 81) hx hb dX2_foldsAgree_76 (by decide) (by omega) (fun c_67 => ?_) (fun c_67 => absurd c_67 (by omega))
  refine lv_iinc (v := nI 1) (lv' := [(9, .int (nI 1)), (10, .int (nI 1)), (8, .int (nI 4)), (7, .ref tSI), (5, .long (fbn f 102 0 (cn - 0))), (4, .int (nI 102)), (3, .int (nI 3)), (2, .int (nI 4)), (1, .ref tHO), (0, .ref (ad r))]) hx hb dX2_foldsAgree_81 hl (k := 1) rfl (by exact nI_add 0 1) (by decide) rfl (fun ls hl => ?_)
  refine lv_goto (tgt := 45) hx hb dX2_foldsAgree_84 (by decide) ?_
  refine lv_iload hx hb dX2_foldsAgree_45 (lv_at hl 0 rfl) ?_
  refine lv_iload hx hb dX2_foldsAgree_47 (lv_at hl 2 rfl) ?_
  refine t_icmp_ge (tgt := 87) hx hb dX2_foldsAgree_49 (by decide) (by omega) (by omega) (fun c_68 => absurd c_68 (by omega)) (fun c_68 => ?_)
  refine lv_aload hx hb dX2_foldsAgree_52 (lv_at hl 3 rfl) ?_
  refine lv_iload hx hb dX2_foldsAgree_54 (lv_at hl 0 rfl) ?_
  refine g_ti hx hb hTSI hS (j := 1) (v := 2) (by omega) (by omega) rfl dX2_foldsAgree_56 ?_
  refine lv_istore (lv' := [(10, .int (nI 2)), (9, .int (nI 1)), (8, .int (nI 4)), (7, .ref tSI), (5, .long (fbn f 102 0 (cn - 0))), (4, .int (nI 102)), (3, .int (nI 3)), (2, .int (nI 4)), (1, .ref tHO), (0, .ref (ad r))]) hx hb dX2_foldsAgree_57 hl (by decide) rfl (fun ls hl => ?_)
  refine lv_aload_n hx hb dX2_foldsAgree_59 rfl (lv_at hl 9 rfl) ?_
  refine lv_iconst (v := nI 0) hx hb dX2_foldsAgree_60 (by decide) ?_
  refine lv_aload_n hx hb dX2_foldsAgree_61 rfl (lv_at hl 9 rfl) ?_
  refine g_getN (C := RX1) (T := TX1) (N := 2) hx hb hw inX1 hown hK hP (i := r) (by omega) hR1a rfl 1 (by decide) (hE.2.2.1 (55, "Splityard$Row", "count", "I") (by decide +kernel)) rfl dX2_foldsAgree_62 ?_
  refine lv_iload hx hb dX2_foldsAgree_65 (lv_at hl 0 rfl) ?_
  refine lv_iload hx hb dX2_foldsAgree_67 (lv_at hl 5 rfl) ?_
  refine lv_iconst (v := nI 0) hx hb dX2_foldsAgree_69 (by decide) ?_
  refine g_callS (As := [.ref (ad r), .int (nI 0), .int (nI cn), .int (nI 2), .int (nI 102), .int (nI 0)]) (rest := []) ⟨hx, hb, hml, hown, hw⟩ (mX2_foldPart l D cT n ad A hD G r cn f (by omega) ⟨hR1a, hR1b⟩ (by omega) 2 102 (by omega) (by omega) (by decide) 8 0 cn 0 rfl (by omega) (by omega)) (va_cwS 6 hw (gWS wm_X2_173 wst_X2_foldPart wini_X2 wc_X2_foldPart) rfl rfl rfl (by decide +kernel) ⟨Nat.le_of_ble_eq_true rfl, Nat.le_of_ble_eq_true rfl⟩) hK hE hA hP hS rfl hl.1 (lv_room (Nat.le_of_ble_eq_true rfl)) dX2_foldsAgree_70 ⟨Nat.le_of_ble_eq_true rfl, Nat.le_of_ble_eq_true rfl⟩ (fun v_70 G_69 H locs hp hP hS => ?_)
  obtain ⟨hv, hg⟩ := hp
  subst hv
  rw [hg] at hP
  refine lv_lload hx hb dX2_foldsAgree_73 (lv_at hl 4 rfl) ?_
  refine W.lcmp hx hb dX2_foldsAgree_75 ?_
  refine t_eqi (nI 0) (lgc_eq rfl) ?_
  refine t_if_eq (tgt := 81) hx hb dX2_foldsAgree_76 (by decide) (by omega) (fun c_71 => ?_) (fun c_71 => absurd c_71 (by omega))
  refine lv_iinc (v := nI 2) (lv' := [(9, .int (nI 2)), (10, .int (nI 2)), (8, .int (nI 4)), (7, .ref tSI), (5, .long (fbn f 102 0 (cn - 0))), (4, .int (nI 102)), (3, .int (nI 3)), (2, .int (nI 4)), (1, .ref tHO), (0, .ref (ad r))]) hx hb dX2_foldsAgree_81 hl (k := 1) rfl (by exact nI_add 1 1) (by decide) rfl (fun ls hl => ?_)
  refine lv_goto (tgt := 45) hx hb dX2_foldsAgree_84 (by decide) ?_
  refine lv_iload hx hb dX2_foldsAgree_45 (lv_at hl 0 rfl) ?_
  refine lv_iload hx hb dX2_foldsAgree_47 (lv_at hl 2 rfl) ?_
  refine t_icmp_ge (tgt := 87) hx hb dX2_foldsAgree_49 (by decide) (by omega) (by omega) (fun c_72 => absurd c_72 (by omega)) (fun c_72 => ?_)
  refine lv_aload hx hb dX2_foldsAgree_52 (lv_at hl 3 rfl) ?_
  refine lv_iload hx hb dX2_foldsAgree_54 (lv_at hl 0 rfl) ?_
  refine g_ti hx hb hTSI hS (j := 2) (v := 3) (by omega) (by omega) rfl dX2_foldsAgree_56 ?_
  refine lv_istore (lv' := [(10, .int (nI 3)), (9, .int (nI 2)), (8, .int (nI 4)), (7, .ref tSI), (5, .long (fbn f 102 0 (cn - 0))), (4, .int (nI 102)), (3, .int (nI 3)), (2, .int (nI 4)), (1, .ref tHO), (0, .ref (ad r))]) hx hb dX2_foldsAgree_57 hl (by decide) rfl (fun ls hl => ?_)
  refine lv_aload_n hx hb dX2_foldsAgree_59 rfl (lv_at hl 9 rfl) ?_
  refine lv_iconst (v := nI 0) hx hb dX2_foldsAgree_60 (by decide) ?_
  refine lv_aload_n hx hb dX2_foldsAgree_61 rfl (lv_at hl 9 rfl) ?_
  refine g_getN (C := RX1) (T := TX1) (N := 2) hx hb hw inX1 hown hK hP (i := r) (by omega) hR1a rfl 1 (by decide) (hE.2.2.1 (55, "Splityard$Row", "count", "I") (by decide +kernel)) rfl dX2_foldsAgree_62 ?_
  refine lv_iload hx hb dX2_foldsAgree_65 (lv_at hl 0 rfl) ?_
  refine lv_iload hx hb dX2_foldsAgree_67 (lv_at hl 5 rfl) ?_
  refine lv_iconst (v := nI 0) hx hb dX2_foldsAgree_69 (by decide) ?_
  refine g_callS (As := [.ref (ad r), .int (nI 0), .int (nI cn), .int (nI 3), .int (nI 102), .int (nI 0)]) (rest := []) ⟨hx, hb, hml, hown, hw⟩ (mX2_foldPart l D cT n ad A hD G r cn f (by omega) ⟨hR1a, hR1b⟩ (by omega) 3 102 (by omega) (by omega) (by decide) 8 0 cn 0 rfl (by omega) (by omega)) (va_cwS 6 hw (gWS wm_X2_173 wst_X2_foldPart wini_X2 wc_X2_foldPart) rfl rfl rfl (by decide +kernel) ⟨Nat.le_of_ble_eq_true rfl, Nat.le_of_ble_eq_true rfl⟩) hK hE hA hP hS rfl hl.1 (lv_room (Nat.le_of_ble_eq_true rfl)) dX2_foldsAgree_70 ⟨Nat.le_of_ble_eq_true rfl, Nat.le_of_ble_eq_true rfl⟩ (fun v_74 G_73 H locs hp hP hS => ?_)
  obtain ⟨hv, hg⟩ := hp
  subst hv
  rw [hg] at hP
  refine lv_lload hx hb dX2_foldsAgree_73 (lv_at hl 4 rfl) ?_
  refine W.lcmp hx hb dX2_foldsAgree_75 ?_
  refine t_eqi (nI 0) (lgc_eq rfl) ?_
  refine t_if_eq (tgt := 81) hx hb dX2_foldsAgree_76 (by decide) (by omega) (fun c_75 => ?_) (fun c_75 => absurd c_75 (by omega))
  refine lv_iinc (v := nI 3) (lv' := [(9, .int (nI 3)), (10, .int (nI 3)), (8, .int (nI 4)), (7, .ref tSI), (5, .long (fbn f 102 0 (cn - 0))), (4, .int (nI 102)), (3, .int (nI 3)), (2, .int (nI 4)), (1, .ref tHO), (0, .ref (ad r))]) hx hb dX2_foldsAgree_81 hl (k := 1) rfl (by exact nI_add 2 1) (by decide) rfl (fun ls hl => ?_)
  refine lv_goto (tgt := 45) hx hb dX2_foldsAgree_84 (by decide) ?_
  refine lv_iload hx hb dX2_foldsAgree_45 (lv_at hl 0 rfl) ?_
  refine lv_iload hx hb dX2_foldsAgree_47 (lv_at hl 2 rfl) ?_
  refine t_icmp_ge (tgt := 87) hx hb dX2_foldsAgree_49 (by decide) (by omega) (by omega) (fun c_76 => absurd c_76 (by omega)) (fun c_76 => ?_)
  refine lv_aload hx hb dX2_foldsAgree_52 (lv_at hl 3 rfl) ?_
  refine lv_iload hx hb dX2_foldsAgree_54 (lv_at hl 0 rfl) ?_
  refine g_ti hx hb hTSI hS (j := 3) (v := 7) (by omega) (by omega) rfl dX2_foldsAgree_56 ?_
  refine lv_istore (lv' := [(10, .int (nI 7)), (9, .int (nI 3)), (8, .int (nI 4)), (7, .ref tSI), (5, .long (fbn f 102 0 (cn - 0))), (4, .int (nI 102)), (3, .int (nI 3)), (2, .int (nI 4)), (1, .ref tHO), (0, .ref (ad r))]) hx hb dX2_foldsAgree_57 hl (by decide) rfl (fun ls hl => ?_)
  refine lv_aload_n hx hb dX2_foldsAgree_59 rfl (lv_at hl 9 rfl) ?_
  refine lv_iconst (v := nI 0) hx hb dX2_foldsAgree_60 (by decide) ?_
  refine lv_aload_n hx hb dX2_foldsAgree_61 rfl (lv_at hl 9 rfl) ?_
  refine g_getN (C := RX1) (T := TX1) (N := 2) hx hb hw inX1 hown hK hP (i := r) (by omega) hR1a rfl 1 (by decide) (hE.2.2.1 (55, "Splityard$Row", "count", "I") (by decide +kernel)) rfl dX2_foldsAgree_62 ?_
  refine lv_iload hx hb dX2_foldsAgree_65 (lv_at hl 0 rfl) ?_
  refine lv_iload hx hb dX2_foldsAgree_67 (lv_at hl 5 rfl) ?_
  refine lv_iconst (v := nI 0) hx hb dX2_foldsAgree_69 (by decide) ?_
  refine g_callS (As := [.ref (ad r), .int (nI 0), .int (nI cn), .int (nI 7), .int (nI 102), .int (nI 0)]) (rest := []) ⟨hx, hb, hml, hown, hw⟩ (mX2_foldPart l D cT n ad A hD G r cn f (by omega) ⟨hR1a, hR1b⟩ (by omega) 7 102 (by omega) (by omega) (by decide) 8 0 cn 0 rfl (by omega) (by omega)) (va_cwS 6 hw (gWS wm_X2_173 wst_X2_foldPart wini_X2 wc_X2_foldPart) rfl rfl rfl (by decide +kernel) ⟨Nat.le_of_ble_eq_true rfl, Nat.le_of_ble_eq_true rfl⟩) hK hE hA hP hS rfl hl.1 (lv_room (Nat.le_of_ble_eq_true rfl)) dX2_foldsAgree_70 ⟨Nat.le_of_ble_eq_true rfl, Nat.le_of_ble_eq_true rfl⟩ (fun v_78 G_77 H locs hp hP hS => ?_)
  obtain ⟨hv, hg⟩ := hp
  subst hv
  rw [hg] at hP
  refine lv_lload hx hb dX2_foldsAgree_73 (lv_at hl 4 rfl) ?_
  refine W.lcmp hx hb dX2_foldsAgree_75 ?_
  refine t_eqi (nI 0) (lgc_eq rfl) ?_
  refine t_if_eq (tgt := 81) hx hb dX2_foldsAgree_76 (by decide) (by omega) (fun c_79 => ?_) (fun c_79 => absurd c_79 (by omega))
  refine lv_iinc (v := nI 4) (lv' := [(9, .int (nI 4)), (10, .int (nI 7)), (8, .int (nI 4)), (7, .ref tSI), (5, .long (fbn f 102 0 (cn - 0))), (4, .int (nI 102)), (3, .int (nI 3)), (2, .int (nI 4)), (1, .ref tHO), (0, .ref (ad r))]) hx hb dX2_foldsAgree_81 hl (k := 1) rfl (by exact nI_add 3 1) (by decide) rfl (fun ls hl => ?_)
  refine lv_goto (tgt := 45) hx hb dX2_foldsAgree_84 (by decide) ?_
  refine lv_iload hx hb dX2_foldsAgree_45 (lv_at hl 0 rfl) ?_
  refine lv_iload hx hb dX2_foldsAgree_47 (lv_at hl 2 rfl) ?_
  refine t_icmp_ge (tgt := 87) hx hb dX2_foldsAgree_49 (by decide) (by omega) (by omega) (fun c_80 => ?_) (fun c_80 => absurd c_80 (by omega))
  refine lv_iinc (v := nI 4) (lv' := [(3, .int (nI 4)), (9, .int (nI 4)), (10, .int (nI 7)), (8, .int (nI 4)), (7, .ref tSI), (5, .long (fbn f 102 0 (cn - 0))), (4, .int (nI 102)), (2, .int (nI 4)), (1, .ref tHO), (0, .ref (ad r))]) hx hb dX2_foldsAgree_87 hl (k := 6) rfl (by exact nI_add 3 1) (by decide) rfl (fun ls hl => ?_)
  refine lv_goto (tgt := 9) hx hb dX2_foldsAgree_90 (by decide) ?_
  refine lv_iload_n hx hb dX2_foldsAgree_9 rfl (lv_at hl 0 rfl) ?_
  refine lv_iload_n hx hb dX2_foldsAgree_10 rfl (lv_at hl 7 rfl) ?_
  refine t_icmp_ge (tgt := 93) hx hb dX2_foldsAgree_11 (by decide) (by omega) (by omega) (fun c_81 => ?_) (fun c_81 => absurd c_81 (by omega))
  refine lv_iconst (v := nI 1) hx hb dX2_foldsAgree_93 (by decide) ?_
  refine g_ret hQ hx hb hr hlocks rfl hP hS (⟨rfl, rfl⟩) (Nat.le_of_ble_eq_true rfl) (Nat.le_of_ble_eq_true rfl) dX2_foldsAgree_94

set_option maxHeartbeats 4000000 in
set_option maxRecDepth 100000 in
theorem mX2_piecesAgree (l : Launch) (D : va_G) (cT : Nat → ClassId) (n : Nat) (ad : Nat → Nat) (A : Nat → Prop) (hD : ∀ G, va_D A (gw n ad G)) (G : Nat → va_E) (σ : TY) (hY : YW cT ad G σ) (hn : 69 ≤ n) (hI : YI σ) (j : Nat) (hj : j < 12) : Met l yX2_piecesAgree (wA yX2_piecesAgree cX2_piecesAgree 6 (some .boolean)) ({ frames := 19, cells := 0, slots := 0, locals := 543 } : Room) (PG D cT n ad A G [.ref (ad 0), .ref (ad (9 + 2 * j))]) (QG D n ad A (fun v G1 => v = some (.int (nI 1)) ∧ YW cT ad G1 σ ∧ ∀ j9, (j9 < 3 ∨ 3 + 6 ≤ j9) → G1 j9 = G j9)) 0 0 A := by
  refine Met.ofG (cc := cX2_piecesAgree) (maxL := 6) (ret := (some .boolean)) (by decide) (Nat.le_of_ble_eq_true rfl) ?_
  intro p e s m args below meth c Q hQ hx hb hr hml hlocks hown hw hP hK hE hA hS ls hl
  have hl : lv_has ls 6 [(0, .ref (ad 0)), (1, .ref (ad (9 + 2 * j)))] := hl
  obtain ⟨hy0, hy1, hy2⟩ := hY.1
  obtain ⟨hR1a, hR1b⟩ := hY.2.1 j hj
  have hrc := hI.1 j hj
  obtain ⟨tSI, hZSI, hTSI⟩ := hE.1.2.2.2.2
  refine va_gets hx hb hZSI hS hown (hw _ wf_X2_258) (fun _ h9 => h9) dX2_piecesAgree_0 ?_
  refine lv_astore_n (lv' := [(2, .ref tSI), (0, .ref (ad 0)), (1, .ref (ad (9 + 2 * j)))]) hx hb dX2_piecesAgree_3 rfl hl (by decide) rfl (fun ls hl => ?_)
  refine lv_aload_n hx hb dX2_piecesAgree_4 rfl (lv_at hl 0 rfl) ?_
  refine va_tlen hx hb hTSI hS (v := nI 4) rfl dX2_piecesAgree_5 ?_
  refine lv_istore_n (lv' := [(3, .int (nI 4)), (2, .ref tSI), (0, .ref (ad 0)), (1, .ref (ad (9 + 2 * j)))]) hx hb dX2_piecesAgree_6 rfl hl (by decide) rfl (fun ls hl => ?_)
  refine lv_iconst (v := nI 0) hx hb dX2_piecesAgree_7 (by decide) ?_
  refine lv_istore (lv' := [(4, .int (nI 0)), (3, .int (nI 4)), (2, .ref tSI), (0, .ref (ad 0)), (1, .ref (ad (9 + 2 * j)))]) hx hb dX2_piecesAgree_8 hl (by decide) rfl (fun ls hl => ?_)
  refine lv_iload hx hb dX2_piecesAgree_10 (lv_at hl 0 rfl) ?_
  refine lv_iload_n hx hb dX2_piecesAgree_12 rfl (lv_at hl 1 rfl) ?_
  refine t_icmp_ge (tgt := 50) hx hb dX2_piecesAgree_13 (by decide) (by omega) (by omega) (fun c_1 => absurd c_1 (by omega)) (fun c_1 => ?_)
  refine lv_aload_n hx hb dX2_piecesAgree_16 rfl (lv_at hl 2 rfl) ?_
  refine lv_iload hx hb dX2_piecesAgree_17 (lv_at hl 0 rfl) ?_
  refine g_ti hx hb hTSI hS (j := 0) (v := 1) (by omega) (by omega) rfl dX2_piecesAgree_19 ?_
  refine lv_istore (lv' := [(5, .int (nI 1)), (4, .int (nI 0)), (3, .int (nI 4)), (2, .ref tSI), (0, .ref (ad 0)), (1, .ref (ad (9 + 2 * j)))]) hx hb dX2_piecesAgree_20 hl (by decide) rfl (fun ls hl => ?_)
  refine lv_aload_n hx hb dX2_piecesAgree_22 rfl (lv_at hl 4 rfl) ?_
  refine lv_aload_n hx hb dX2_piecesAgree_23 rfl (lv_at hl 5 rfl) ?_
  refine lv_iload hx hb dX2_piecesAgree_24 (lv_at hl 0 rfl) ?_
  refine g_callV (As := [.ref (ad (9 + 2 * j)), .int (nI 1)]) (rest := []) ⟨hx, hb, hml, hown, hw⟩ (mX2_countBySplitting l D cT n ad A hD G σ hY hn hI j 1 (by omega) (by omega) (by omega)) (cwV 2 hw (gWV wm_X2_177 wi_X2_countBySplitting wse_X2_countBySplitting wini_X2 wc_X2_countBySplitting) rfl rfl rfl (by decide +kernel) ⟨Nat.le_of_ble_eq_true rfl, Nat.le_of_ble_eq_true rfl⟩) hK hE hA hP hS (k := 0) (by omega) hy0 rfl rfl hl.1 (lv_room (Nat.le_of_ble_eq_true rfl)) dX2_piecesAgree_26 ⟨Nat.le_of_ble_eq_true rfl, Nat.le_of_ble_eq_true rfl⟩ (fun v_3 G_2 H locs hp hP hS => ?_)
  obtain ⟨hv, hY_4, hf_5⟩ := hp
  subst hv
  have hc_6 : G_2 0 = .inr (4, [.ref (ad 1), .ref (ad 2), .ref (ad 3)]) := (hf_5 _ (by omega)).trans hy0
  have hc_7 : G_2 (9 + 2 * j) = .inr (3, [.ref (ad (9 + 2 * j + 1)), .int (nI ((σ.1 j).1))]) := (hf_5 _ (by omega)).trans hR1a
  have hc_8 : G_2 (9 + 2 * j + 1) = aJ cT 48 ((σ.1 j).2) := (hf_5 _ (by omega)).trans hR1b
  refine lv_aload_n hx hb dX2_piecesAgree_29 rfl (lv_at hl 5 rfl) ?_
  refine g_getN (C := RX1) (T := TX1) (N := 2) hx hb hw inX1 hown hK hP (i := (9 + 2 * j)) (by omega) hc_7 rfl 1 (by decide) (hE.2.2.1 (55, "Splityard$Row", "count", "I") (by decide +kernel)) rfl dX2_piecesAgree_30 ?_
  refine lv_iload hx hb dX2_piecesAgree_33 (lv_at hl 0 rfl) ?_
  refine lv_iconst (v := nI 0) hx hb dX2_piecesAgree_35 (by decide) ?_
  refine g_callS (As := [.int (nI ((σ.1 j).1)), .int (nI 1), .int (nI 0)]) (rest := [.int (nI (pcs 1 8 (σ.1 j).1))]) ⟨hx, hb, hml, hown, hw⟩ (mX2_countByTheorem l D cT n ad A hD G_2 1 (by omega) (by omega) 8 ((σ.1 j).1) 0 rfl (by omega)) (va_cwS 3 hw (gWS wm_X2_254 wst_X2_countByTheorem wini_X2 wc_X2_countByTheorem) rfl rfl rfl (by decide +kernel) ⟨Nat.le_of_ble_eq_true rfl, Nat.le_of_ble_eq_true rfl⟩) hK hE hA hP hS rfl hl.1 (lv_room (Nat.le_of_ble_eq_true rfl)) dX2_piecesAgree_36 ⟨Nat.le_of_ble_eq_true rfl, Nat.le_of_ble_eq_true rfl⟩ (fun v_10 G_9 H locs hp hP hS => ?_)
  obtain ⟨hv, hg⟩ := hp
  subst hv
  rw [hg] at hP
  have hpl_11 := pcs_le48 1 (by decide) 8 _ hrc
  refine t_icmp_eq (tgt := 44) hx hb dX2_piecesAgree_39 (by decide) (by omega) (by omega) (fun c_12 => ?_) (fun c_12 => ?_)
  · skip
    refine lv_iinc (v := nI 1) (lv' := [(4, .int (nI 1)), (5, .int (nI 1)), (3, .int (nI 4)), (2, .ref tSI), (0, .ref (ad 0)), (1, .ref (ad (9 + 2 * j)))]) hx hb dX2_piecesAgree_44 hl (k := 1) rfl (by exact nI_add 0 1) (by decide) rfl (fun ls hl => ?_)
    refine lv_goto (tgt := 10) hx hb dX2_piecesAgree_47 (by decide) ?_
    refine lv_iload hx hb dX2_piecesAgree_10 (lv_at hl 0 rfl) ?_
    refine lv_iload_n hx hb dX2_piecesAgree_12 rfl (lv_at hl 2 rfl) ?_
    refine t_icmp_ge (tgt := 50) hx hb dX2_piecesAgree_13 (by decide) (by omega) (by omega) (fun c_13 => absurd c_13 (by omega)) (fun c_13 => ?_)
    refine lv_aload_n hx hb dX2_piecesAgree_16 rfl (lv_at hl 3 rfl) ?_
    refine lv_iload hx hb dX2_piecesAgree_17 (lv_at hl 0 rfl) ?_
    refine g_ti hx hb hTSI hS (j := 1) (v := 2) (by omega) (by omega) rfl dX2_piecesAgree_19 ?_
    refine lv_istore (lv' := [(5, .int (nI 2)), (4, .int (nI 1)), (3, .int (nI 4)), (2, .ref tSI), (0, .ref (ad 0)), (1, .ref (ad (9 + 2 * j)))]) hx hb dX2_piecesAgree_20 hl (by decide) rfl (fun ls hl => ?_)
    refine lv_aload_n hx hb dX2_piecesAgree_22 rfl (lv_at hl 4 rfl) ?_
    refine lv_aload_n hx hb dX2_piecesAgree_23 rfl (lv_at hl 5 rfl) ?_
    refine lv_iload hx hb dX2_piecesAgree_24 (lv_at hl 0 rfl) ?_
    refine g_callV (As := [.ref (ad (9 + 2 * j)), .int (nI 2)]) (rest := []) ⟨hx, hb, hml, hown, hw⟩ (mX2_countBySplitting l D cT n ad A hD G_2 σ hY_4 hn hI j 2 (by omega) (by omega) (by omega)) (cwV 2 hw (gWV wm_X2_177 wi_X2_countBySplitting wse_X2_countBySplitting wini_X2 wc_X2_countBySplitting) rfl rfl rfl (by decide +kernel) ⟨Nat.le_of_ble_eq_true rfl, Nat.le_of_ble_eq_true rfl⟩) hK hE hA hP hS (k := 0) (by omega) hc_6 rfl rfl hl.1 (lv_room (Nat.le_of_ble_eq_true rfl)) dX2_piecesAgree_26 ⟨Nat.le_of_ble_eq_true rfl, Nat.le_of_ble_eq_true rfl⟩ (fun v_15 G_14 H locs hp hP hS => ?_)
    obtain ⟨hv, hY_16, hf_17⟩ := hp
    subst hv
    have hc_18 : G_14 0 = .inr (4, [.ref (ad 1), .ref (ad 2), .ref (ad 3)]) := (hf_17 _ (by omega)).trans hc_6
    have hc_19 : G_14 (9 + 2 * j) = .inr (3, [.ref (ad (9 + 2 * j + 1)), .int (nI ((σ.1 j).1))]) := (hf_17 _ (by omega)).trans hc_7
    have hc_20 : G_14 (9 + 2 * j + 1) = aJ cT 48 ((σ.1 j).2) := (hf_17 _ (by omega)).trans hc_8
    refine lv_aload_n hx hb dX2_piecesAgree_29 rfl (lv_at hl 5 rfl) ?_
    refine g_getN (C := RX1) (T := TX1) (N := 2) hx hb hw inX1 hown hK hP (i := (9 + 2 * j)) (by omega) hc_19 rfl 1 (by decide) (hE.2.2.1 (55, "Splityard$Row", "count", "I") (by decide +kernel)) rfl dX2_piecesAgree_30 ?_
    refine lv_iload hx hb dX2_piecesAgree_33 (lv_at hl 0 rfl) ?_
    refine lv_iconst (v := nI 0) hx hb dX2_piecesAgree_35 (by decide) ?_
    refine g_callS (As := [.int (nI ((σ.1 j).1)), .int (nI 2), .int (nI 0)]) (rest := [.int (nI (pcs 2 8 (σ.1 j).1))]) ⟨hx, hb, hml, hown, hw⟩ (mX2_countByTheorem l D cT n ad A hD G_14 2 (by omega) (by omega) 8 ((σ.1 j).1) 0 rfl (by omega)) (va_cwS 3 hw (gWS wm_X2_254 wst_X2_countByTheorem wini_X2 wc_X2_countByTheorem) rfl rfl rfl (by decide +kernel) ⟨Nat.le_of_ble_eq_true rfl, Nat.le_of_ble_eq_true rfl⟩) hK hE hA hP hS rfl hl.1 (lv_room (Nat.le_of_ble_eq_true rfl)) dX2_piecesAgree_36 ⟨Nat.le_of_ble_eq_true rfl, Nat.le_of_ble_eq_true rfl⟩ (fun v_22 G_21 H locs hp hP hS => ?_)
    obtain ⟨hv, hg⟩ := hp
    subst hv
    rw [hg] at hP
    have hpl_23 := pcs_le48 2 (by decide) 8 _ hrc
    refine t_icmp_eq (tgt := 44) hx hb dX2_piecesAgree_39 (by decide) (by omega) (by omega) (fun c_24 => ?_) (fun c_24 => ?_)
    · skip
      refine lv_iinc (v := nI 2) (lv' := [(4, .int (nI 2)), (5, .int (nI 2)), (3, .int (nI 4)), (2, .ref tSI), (0, .ref (ad 0)), (1, .ref (ad (9 + 2 * j)))]) hx hb dX2_piecesAgree_44 hl (k := 1) rfl (by exact nI_add 1 1) (by decide) rfl (fun ls hl => ?_)
      refine lv_goto (tgt := 10) hx hb dX2_piecesAgree_47 (by decide) ?_
      refine lv_iload hx hb dX2_piecesAgree_10 (lv_at hl 0 rfl) ?_
      refine lv_iload_n hx hb dX2_piecesAgree_12 rfl (lv_at hl 2 rfl) ?_
      refine t_icmp_ge (tgt := 50) hx hb dX2_piecesAgree_13 (by decide) (by omega) (by omega) (fun c_25 => absurd c_25 (by omega)) (fun c_25 => ?_)
      refine lv_aload_n hx hb dX2_piecesAgree_16 rfl (lv_at hl 3 rfl) ?_
      refine lv_iload hx hb dX2_piecesAgree_17 (lv_at hl 0 rfl) ?_
      refine g_ti hx hb hTSI hS (j := 2) (v := 3) (by omega) (by omega) rfl dX2_piecesAgree_19 ?_
      refine lv_istore (lv' := [(5, .int (nI 3)), (4, .int (nI 2)), (3, .int (nI 4)), (2, .ref tSI), (0, .ref (ad 0)), (1, .ref (ad (9 + 2 * j)))]) hx hb dX2_piecesAgree_20 hl (by decide) rfl (fun ls hl => ?_)
      refine lv_aload_n hx hb dX2_piecesAgree_22 rfl (lv_at hl 4 rfl) ?_
      refine lv_aload_n hx hb dX2_piecesAgree_23 rfl (lv_at hl 5 rfl) ?_
      refine lv_iload hx hb dX2_piecesAgree_24 (lv_at hl 0 rfl) ?_
      refine g_callV (As := [.ref (ad (9 + 2 * j)), .int (nI 3)]) (rest := []) ⟨hx, hb, hml, hown, hw⟩ (mX2_countBySplitting l D cT n ad A hD G_14 σ hY_16 hn hI j 3 (by omega) (by omega) (by omega)) (cwV 2 hw (gWV wm_X2_177 wi_X2_countBySplitting wse_X2_countBySplitting wini_X2 wc_X2_countBySplitting) rfl rfl rfl (by decide +kernel) ⟨Nat.le_of_ble_eq_true rfl, Nat.le_of_ble_eq_true rfl⟩) hK hE hA hP hS (k := 0) (by omega) hc_18 rfl rfl hl.1 (lv_room (Nat.le_of_ble_eq_true rfl)) dX2_piecesAgree_26 ⟨Nat.le_of_ble_eq_true rfl, Nat.le_of_ble_eq_true rfl⟩ (fun v_27 G_26 H locs hp hP hS => ?_)
      obtain ⟨hv, hY_28, hf_29⟩ := hp
      subst hv
      have hc_30 : G_26 0 = .inr (4, [.ref (ad 1), .ref (ad 2), .ref (ad 3)]) := (hf_29 _ (by omega)).trans hc_18
      have hc_31 : G_26 (9 + 2 * j) = .inr (3, [.ref (ad (9 + 2 * j + 1)), .int (nI ((σ.1 j).1))]) := (hf_29 _ (by omega)).trans hc_19
      have hc_32 : G_26 (9 + 2 * j + 1) = aJ cT 48 ((σ.1 j).2) := (hf_29 _ (by omega)).trans hc_20
      refine lv_aload_n hx hb dX2_piecesAgree_29 rfl (lv_at hl 5 rfl) ?_
      refine g_getN (C := RX1) (T := TX1) (N := 2) hx hb hw inX1 hown hK hP (i := (9 + 2 * j)) (by omega) hc_31 rfl 1 (by decide) (hE.2.2.1 (55, "Splityard$Row", "count", "I") (by decide +kernel)) rfl dX2_piecesAgree_30 ?_
      refine lv_iload hx hb dX2_piecesAgree_33 (lv_at hl 0 rfl) ?_
      refine lv_iconst (v := nI 0) hx hb dX2_piecesAgree_35 (by decide) ?_
      refine g_callS (As := [.int (nI ((σ.1 j).1)), .int (nI 3), .int (nI 0)]) (rest := [.int (nI (pcs 3 8 (σ.1 j).1))]) ⟨hx, hb, hml, hown, hw⟩ (mX2_countByTheorem l D cT n ad A hD G_26 3 (by omega) (by omega) 8 ((σ.1 j).1) 0 rfl (by omega)) (va_cwS 3 hw (gWS wm_X2_254 wst_X2_countByTheorem wini_X2 wc_X2_countByTheorem) rfl rfl rfl (by decide +kernel) ⟨Nat.le_of_ble_eq_true rfl, Nat.le_of_ble_eq_true rfl⟩) hK hE hA hP hS rfl hl.1 (lv_room (Nat.le_of_ble_eq_true rfl)) dX2_piecesAgree_36 ⟨Nat.le_of_ble_eq_true rfl, Nat.le_of_ble_eq_true rfl⟩ (fun v_34 G_33 H locs hp hP hS => ?_)
      obtain ⟨hv, hg⟩ := hp
      subst hv
      rw [hg] at hP
      have hpl_35 := pcs_le48 3 (by decide) 8 _ hrc
      refine t_icmp_eq (tgt := 44) hx hb dX2_piecesAgree_39 (by decide) (by omega) (by omega) (fun c_36 => ?_) (fun c_36 => ?_)
      · skip
        refine lv_iinc (v := nI 3) (lv' := [(4, .int (nI 3)), (5, .int (nI 3)), (3, .int (nI 4)), (2, .ref tSI), (0, .ref (ad 0)), (1, .ref (ad (9 + 2 * j)))]) hx hb dX2_piecesAgree_44 hl (k := 1) rfl (by exact nI_add 2 1) (by decide) rfl (fun ls hl => ?_)
        refine lv_goto (tgt := 10) hx hb dX2_piecesAgree_47 (by decide) ?_
        refine lv_iload hx hb dX2_piecesAgree_10 (lv_at hl 0 rfl) ?_
        refine lv_iload_n hx hb dX2_piecesAgree_12 rfl (lv_at hl 2 rfl) ?_
        refine t_icmp_ge (tgt := 50) hx hb dX2_piecesAgree_13 (by decide) (by omega) (by omega) (fun c_37 => absurd c_37 (by omega)) (fun c_37 => ?_)
        refine lv_aload_n hx hb dX2_piecesAgree_16 rfl (lv_at hl 3 rfl) ?_
        refine lv_iload hx hb dX2_piecesAgree_17 (lv_at hl 0 rfl) ?_
        refine g_ti hx hb hTSI hS (j := 3) (v := 7) (by omega) (by omega) rfl dX2_piecesAgree_19 ?_
        refine lv_istore (lv' := [(5, .int (nI 7)), (4, .int (nI 3)), (3, .int (nI 4)), (2, .ref tSI), (0, .ref (ad 0)), (1, .ref (ad (9 + 2 * j)))]) hx hb dX2_piecesAgree_20 hl (by decide) rfl (fun ls hl => ?_)
        refine lv_aload_n hx hb dX2_piecesAgree_22 rfl (lv_at hl 4 rfl) ?_
        refine lv_aload_n hx hb dX2_piecesAgree_23 rfl (lv_at hl 5 rfl) ?_
        refine lv_iload hx hb dX2_piecesAgree_24 (lv_at hl 0 rfl) ?_
        refine g_callV (As := [.ref (ad (9 + 2 * j)), .int (nI 7)]) (rest := []) ⟨hx, hb, hml, hown, hw⟩ (mX2_countBySplitting l D cT n ad A hD G_26 σ hY_28 hn hI j 7 (by omega) (by omega) (by omega)) (cwV 2 hw (gWV wm_X2_177 wi_X2_countBySplitting wse_X2_countBySplitting wini_X2 wc_X2_countBySplitting) rfl rfl rfl (by decide +kernel) ⟨Nat.le_of_ble_eq_true rfl, Nat.le_of_ble_eq_true rfl⟩) hK hE hA hP hS (k := 0) (by omega) hc_30 rfl rfl hl.1 (lv_room (Nat.le_of_ble_eq_true rfl)) dX2_piecesAgree_26 ⟨Nat.le_of_ble_eq_true rfl, Nat.le_of_ble_eq_true rfl⟩ (fun v_39 G_38 H locs hp hP hS => ?_)
        obtain ⟨hv, hY_40, hf_41⟩ := hp
        subst hv
        have hc_42 : G_38 0 = .inr (4, [.ref (ad 1), .ref (ad 2), .ref (ad 3)]) := (hf_41 _ (by omega)).trans hc_30
        have hc_43 : G_38 (9 + 2 * j) = .inr (3, [.ref (ad (9 + 2 * j + 1)), .int (nI ((σ.1 j).1))]) := (hf_41 _ (by omega)).trans hc_31
        have hc_44 : G_38 (9 + 2 * j + 1) = aJ cT 48 ((σ.1 j).2) := (hf_41 _ (by omega)).trans hc_32
        refine lv_aload_n hx hb dX2_piecesAgree_29 rfl (lv_at hl 5 rfl) ?_
        refine g_getN (C := RX1) (T := TX1) (N := 2) hx hb hw inX1 hown hK hP (i := (9 + 2 * j)) (by omega) hc_43 rfl 1 (by decide) (hE.2.2.1 (55, "Splityard$Row", "count", "I") (by decide +kernel)) rfl dX2_piecesAgree_30 ?_
        refine lv_iload hx hb dX2_piecesAgree_33 (lv_at hl 0 rfl) ?_
        refine lv_iconst (v := nI 0) hx hb dX2_piecesAgree_35 (by decide) ?_
        refine g_callS (As := [.int (nI ((σ.1 j).1)), .int (nI 7), .int (nI 0)]) (rest := [.int (nI (pcs 7 8 (σ.1 j).1))]) ⟨hx, hb, hml, hown, hw⟩ (mX2_countByTheorem l D cT n ad A hD G_38 7 (by omega) (by omega) 8 ((σ.1 j).1) 0 rfl (by omega)) (va_cwS 3 hw (gWS wm_X2_254 wst_X2_countByTheorem wini_X2 wc_X2_countByTheorem) rfl rfl rfl (by decide +kernel) ⟨Nat.le_of_ble_eq_true rfl, Nat.le_of_ble_eq_true rfl⟩) hK hE hA hP hS rfl hl.1 (lv_room (Nat.le_of_ble_eq_true rfl)) dX2_piecesAgree_36 ⟨Nat.le_of_ble_eq_true rfl, Nat.le_of_ble_eq_true rfl⟩ (fun v_46 G_45 H locs hp hP hS => ?_)
        obtain ⟨hv, hg⟩ := hp
        subst hv
        rw [hg] at hP
        have hpl_47 := pcs_le48 7 (by decide) 8 _ hrc
        refine t_icmp_eq (tgt := 44) hx hb dX2_piecesAgree_39 (by decide) (by omega) (by omega) (fun c_48 => ?_) (fun c_48 => ?_)
        · skip
          refine lv_iinc (v := nI 4) (lv' := [(4, .int (nI 4)), (5, .int (nI 7)), (3, .int (nI 4)), (2, .ref tSI), (0, .ref (ad 0)), (1, .ref (ad (9 + 2 * j)))]) hx hb dX2_piecesAgree_44 hl (k := 1) rfl (by exact nI_add 3 1) (by decide) rfl (fun ls hl => ?_)
          refine lv_goto (tgt := 10) hx hb dX2_piecesAgree_47 (by decide) ?_
          refine lv_iload hx hb dX2_piecesAgree_10 (lv_at hl 0 rfl) ?_
          refine lv_iload_n hx hb dX2_piecesAgree_12 rfl (lv_at hl 2 rfl) ?_
          refine t_icmp_ge (tgt := 50) hx hb dX2_piecesAgree_13 (by decide) (by omega) (by omega) (fun c_49 => ?_) (fun c_49 => absurd c_49 (by omega))
          refine lv_iconst (v := nI 1) hx hb dX2_piecesAgree_50 (by decide) ?_
          refine g_ret hQ hx hb hr hlocks rfl hP hS (⟨rfl, hY_40, fun j9 hj9 => (hf_41 j9 hj9).trans ((hf_29 j9 hj9).trans ((hf_17 j9 hj9).trans ((hf_5 j9 hj9).trans (rfl))))⟩) (Nat.le_of_ble_eq_true rfl) (Nat.le_of_ble_eq_true rfl) dX2_piecesAgree_51
        · exfalso; omega
      · exfalso; omega
    · exfalso; omega
  · exfalso; omega

set_option maxHeartbeats 4000000 in
set_option maxRecDepth 100000 in
theorem mX2_isSound (l : Launch) (D : va_G) (cT : Nat → ClassId) (n : Nat) (ad : Nat → Nat) (A : Nat → Prop) (hD : ∀ G, va_D A (gw n ad G)) (G : Nat → va_E) (σ : TY) (hY : YW cT ad G σ) (hn : 69 ≤ n) (hI : YI σ) : Met l yX2_isSound (wA yX2_isSound cX2_isSound 5 (some .boolean)) ({ frames := 20, cells := 0, slots := 0, locals := 581 } : Room) (PG D cT n ad A G [.ref (ad 0)]) (QG D n ad A (fun v G1 => v = some (.int (nI 1)) ∧ YW cT ad G1 σ ∧ ∀ j9, 69 ≤ j9 → G1 j9 = G j9)) 0 0 A := by
  refine Met.ofG (cc := cX2_isSound) (maxL := 5) (ret := (some .boolean)) (by decide) (Nat.le_of_ble_eq_true rfl) ?_
  intro p e s m args below meth c Q hQ hx hb hr hml hlocks hown hw hP hK hE hA hS ls hl
  have hl : lv_has ls 5 [(0, .ref (ad 0))] := hl
  obtain ⟨hy0, hy1, hy2⟩ := hY.1
  refine lv_aload_n hx hb dX2_isSound_0 rfl (lv_at hl 0 rfl) ?_
  refine g_get (C := RX2) (T := TX2) (N := 3) hx hb hw inX2 hown hK hP (i := 0) (by omega) hy0 rfl 1 (by decide) (hw _ wf_X2_21) rfl dX2_isSound_1 ?_
  refine lv_astore_n (lv' := [(1, .ref (ad 2)), (0, .ref (ad 0))]) hx hb dX2_isSound_4 rfl hl (by decide) rfl (fun ls hl => ?_)
  refine lv_aload_n hx hb dX2_isSound_5 rfl (lv_at hl 0 rfl) ?_
  refine va_alen hx hb hK hP 2 6 (gw_get (by omega) hy2) rfl (v := nI 6) rfl dX2_isSound_6 ?_
  refine lv_istore_n (lv' := [(2, .int (nI 6)), (1, .ref (ad 2)), (0, .ref (ad 0))]) hx hb dX2_isSound_7 rfl hl (by decide) rfl (fun ls hl => ?_)
  refine lv_iconst (v := nI 0) hx hb dX2_isSound_8 (by decide) ?_
  refine lv_istore_n (lv' := [(3, .int (nI 0)), (2, .int (nI 6)), (1, .ref (ad 2)), (0, .ref (ad 0))]) hx hb dX2_isSound_9 rfl hl (by decide) rfl (fun ls hl => ?_)
  have key_1 : ∀ (fu : Nat) (b : Nat), (b ≤ 6) → (6 - b) < fu → ∀ (H : Heap) (locs : List Loc), va_P D vwCl (gw n ad G) H → va_S A s.heap H locs → ∀ ls : Array Slot, lv_has ls 5 [(3, .int (nI b)), (2, .int (nI 6)), (1, .ref (ad 2)), (0, .ref (ad 0))] → W p l e ({ frames := 20, cells := 0, slots := 0, locals := 581 } : Room) s m args below meth c H locs 0 0 Q (F0 m 10 ls []) := by
    intro fu_2
    induction fu_2 with
    | zero => intros; exfalso; omega
    | succ fu_2 ih_3 =>
      intro b hbi hfu_4 H locs hP hS ls hl
      refine lv_iload_n hx hb dX2_isSound_10 rfl (lv_at hl 0 rfl) ?_
      refine lv_iload_n hx hb dX2_isSound_11 rfl (lv_at hl 1 rfl) ?_
      refine t_icmp_ge (tgt := 36) hx hb dX2_isSound_12 (by decide) (by omega) (by omega) (fun c_5 => ?_) (fun c_5 => ?_)
      · skip
        refine lv_aload_n hx hb dX2_isSound_36 rfl (lv_at hl 3 rfl) ?_
        refine g_get (C := RX2) (T := TX2) (N := 3) hx hb hw inX2 hown hK hP (i := 0) (by omega) hy0 rfl 0 (by decide) (hw _ wf_X2_15) rfl dX2_isSound_37 ?_
        refine lv_astore_n (lv' := [(1, .ref (ad 1)), (3, .int (nI b)), (2, .int (nI 6)), (0, .ref (ad 0))]) hx hb dX2_isSound_40 rfl hl (by decide) rfl (fun ls hl => ?_)
        refine lv_aload_n hx hb dX2_isSound_41 rfl (lv_at hl 0 rfl) ?_
        refine va_alen hx hb hK hP 1 5 (gw_get (by omega) hy1) rfl (v := nI 12) rfl dX2_isSound_42 ?_
        refine lv_istore_n (lv' := [(2, .int (nI 12)), (1, .ref (ad 1)), (3, .int (nI b)), (0, .ref (ad 0))]) hx hb dX2_isSound_43 rfl hl (by decide) rfl (fun ls hl => ?_)
        refine lv_iconst (v := nI 0) hx hb dX2_isSound_44 (by decide) ?_
        refine lv_istore_n (lv' := [(3, .int (nI 0)), (2, .int (nI 12)), (1, .ref (ad 1)), (0, .ref (ad 0))]) hx hb dX2_isSound_45 rfl hl (by decide) rfl (fun ls hl => ?_)
        have key_6 : ∀ (fu : Nat) (j : Nat), (j ≤ 12) → (12 - j) < fu → ∀ (Gl : Nat → va_E) (H : Heap) (locs : List Loc), (∀ j9, 69 ≤ j9 → Gl j9 = G j9) → (YW cT ad Gl σ) → va_P D vwCl (gw n ad Gl) H → va_S A s.heap H locs → ∀ ls : Array Slot, lv_has ls 5 [(3, .int (nI j)), (2, .int (nI 12)), (1, .ref (ad 1)), (0, .ref (ad 0))] → W p l e ({ frames := 20, cells := 0, slots := 0, locals := 581 } : Room) s m args below meth c H locs 0 0 Q (F0 m 46 ls []) := by
          intro fu_7
          induction fu_7 with
          | zero => intros; exfalso; omega
          | succ fu_7 ih_8 =>
            intro j hj hfu_9 Gl H locs hfL hYL hP hS ls hl
            obtain ⟨hl0, hl1, hl2⟩ := hYL.1
            refine lv_iload_n hx hb dX2_isSound_46 rfl (lv_at hl 0 rfl) ?_
            refine lv_iload_n hx hb dX2_isSound_47 rfl (lv_at hl 1 rfl) ?_
            refine t_icmp_ge (tgt := 81) hx hb dX2_isSound_48 (by decide) (by omega) (by omega) (fun c_10 => ?_) (fun c_10 => ?_)
            · skip
              refine lv_iconst (v := nI 1) hx hb dX2_isSound_81 (by decide) ?_
              refine g_ret hQ hx hb hr hlocks rfl hP hS (⟨rfl, hYL, hfL⟩) (Nat.le_of_ble_eq_true rfl) (Nat.le_of_ble_eq_true rfl) dX2_isSound_82
            · skip
              refine lv_aload_n hx hb dX2_isSound_51 rfl (lv_at hl 2 rfl) ?_
              refine lv_iload_n hx hb dX2_isSound_52 rfl (lv_at hl 0 rfl) ?_
              refine g_aald hx hb hK hP 5 (i := 1) (by omega) hl1 rfl rfl (k := (ad (9 + 2 * j))) (by omega) (by omega) (rQ_at (by omega)) dX2_isSound_53 ?_
              refine lv_astore (lv' := [(4, .ref (ad (9 + 2 * j))), (3, .int (nI j)), (2, .int (nI 12)), (1, .ref (ad 1)), (0, .ref (ad 0))]) hx hb dX2_isSound_54 hl (by decide) rfl (fun ls hl => ?_)
              obtain ⟨hR1a, hR1b⟩ := hYL.2.1 j (by omega)
              have hrc := hI.1 j (by omega)
              refine lv_aload hx hb dX2_isSound_56 (lv_at hl 0 rfl) ?_
              refine g_callS (As := [.ref (ad (9 + 2 * j))]) (rest := []) ⟨hx, hb, hml, hown, hw⟩ (mX2_foldsAgree l D cT n ad A hD Gl (9 + 2 * j) ((σ.1 j).1) ((σ.1 j).2) (by omega) ⟨hR1a, hR1b⟩ (by omega)) (va_cwS 1 hw (gWS wm_X2_204 wst_X2_foldsAgree wini_X2 wc_X2_foldsAgree) rfl rfl rfl (by decide +kernel) ⟨Nat.le_of_ble_eq_true rfl, Nat.le_of_ble_eq_true rfl⟩) hK hE hA hP hS rfl hl.1 (lv_room (Nat.le_of_ble_eq_true rfl)) dX2_isSound_58 ⟨Nat.le_of_ble_eq_true rfl, Nat.le_of_ble_eq_true rfl⟩ (fun v_12 G_11 H locs hp hP hS => ?_)
              obtain ⟨hv, hg⟩ := hp
              subst hv
              rw [hg] at hP
              refine t_if_eq (tgt := 73) hx hb dX2_isSound_61 (by decide) (by omega) (fun c_13 => absurd c_13 (by omega)) (fun c_13 => ?_)
              refine lv_aload_n hx hb dX2_isSound_64 rfl (lv_at hl 4 rfl) ?_
              refine lv_aload hx hb dX2_isSound_65 (lv_at hl 0 rfl) ?_
              refine g_callV (As := [.ref (ad (9 + 2 * j))]) (rest := []) ⟨hx, hb, hml, hown, hw⟩ (mX2_piecesAgree l D cT n ad A hD Gl σ hYL hn hI j (by omega)) (cwV 1 hw (gWV wm_X2_208 wi_X2_piecesAgree wse_X2_piecesAgree wini_X2 wc_X2_piecesAgree) rfl rfl rfl (by decide +kernel) ⟨Nat.le_of_ble_eq_true rfl, Nat.le_of_ble_eq_true rfl⟩) hK hE hA hP hS (k := 0) (by omega) hl0 rfl rfl hl.1 (lv_room (Nat.le_of_ble_eq_true rfl)) dX2_isSound_67 ⟨Nat.le_of_ble_eq_true rfl, Nat.le_of_ble_eq_true rfl⟩ (fun v_15 G_14 H locs hp hP hS => ?_)
              obtain ⟨hv, hY_16, hf_17⟩ := hp
              subst hv
              refine t_if_ne (tgt := 75) hx hb dX2_isSound_70 (by decide) (by omega) (fun c_18 => ?_) (fun c_18 => absurd c_18 (by omega))
              refine lv_iinc (v := nI (j + 1)) (lv' := [(3, .int (nI (j + 1))), (4, .ref (ad (9 + 2 * j))), (2, .int (nI 12)), (1, .ref (ad 1)), (0, .ref (ad 0))]) hx hb dX2_isSound_75 hl (k := 1) rfl (by exact nI_add j 1) (by decide) rfl (fun ls hl => ?_)
              refine lv_goto (tgt := 46) hx hb dX2_isSound_78 (by decide) ?_
              exact ih_8 (j + 1) (by omega) (by omega) _ _ _ (fun j9 hj9 => (hf_17 j9 (by omega)).trans (hfL j9 hj9)) (hY_16) hP hS ls (lv_sub hl [0, 2, 3, 4] rfl)
        exact key_6 _ 0 (by omega) (Nat.lt_succ_self _) _ _ _ (fun _ _ => rfl) (hY) hP hS ls (lv_sub hl [0, 1, 2, 3] rfl)
      · skip
        refine lv_aload_n hx hb dX2_isSound_15 rfl (lv_at hl 2 rfl) ?_
        refine lv_iload_n hx hb dX2_isSound_16 rfl (lv_at hl 0 rfl) ?_
        refine g_aald hx hb hK hP 6 (i := 2) (by omega) hy2 rfl rfl (k := (ad (33 + 6 * b))) (by omega) (by omega) (bQ_at (by omega)) dX2_isSound_17 ?_
        refine lv_astore (lv' := [(4, .ref (ad (33 + 6 * b))), (3, .int (nI b)), (2, .int (nI 6)), (1, .ref (ad 2)), (0, .ref (ad 0))]) hx hb dX2_isSound_18 hl (by decide) rfl (fun ls hl => ?_)
        have hbt := hY.2.2.1 b (by omega)
        have hit := (hI.2 b (by omega)).1
        have hib := (hI.2 b (by omega)).2
        have hcapb := BI_cap hit
        have hszb := hit.1
        obtain ⟨p0, w, nu, ne, en, ⟨hB, hB1, hB2, hB3, hB4, hB5, hB6, hB7, hB8⟩, hBL⟩ := id hbt
        refine lv_aload hx hb dX2_isSound_20 (lv_at hl 0 rfl) ?_
        refine g_callV (As := []) (rest := []) ⟨hx, hb, hml, hown, hw⟩ (mX0_isInOrder l D cT n ad A hD G (33 + 6 * b) ((σ.2 b).1) ((σ.2 b).2.1) ((σ.2 b).2.2.1) ((σ.2 b).2.2.2.1) ((σ.2 b).2.2.2.2.1) ((σ.2 b).2.2.2.2.2) (by omega) hbt hit) (cwV 0 hw (gWV wm_X2_201 wi_X0_isInOrder wse_X0_isInOrder wini_X0 wc_X0_isInOrder) rfl rfl rfl (by decide +kernel) ⟨Nat.le_of_ble_eq_true rfl, Nat.le_of_ble_eq_true rfl⟩) hK hE hA hP hS (k := (33 + 6 * b)) (by omega) hB rfl rfl hl.1 (lv_room (Nat.le_of_ble_eq_true rfl)) dX2_isSound_22 ⟨Nat.le_of_ble_eq_true rfl, Nat.le_of_ble_eq_true rfl⟩ (fun v_20 G_19 H locs hp hP hS => ?_)
        obtain ⟨hv, hg⟩ := hp
        subst hv
        rw [hg] at hP
        refine t_if_ne (tgt := 30) hx hb dX2_isSound_25 (by decide) (by omega) (fun c_21 => ?_) (fun c_21 => absurd c_21 (by omega))
        refine lv_iinc (v := nI (b + 1)) (lv' := [(3, .int (nI (b + 1))), (4, .ref (ad (33 + 6 * b))), (2, .int (nI 6)), (1, .ref (ad 2)), (0, .ref (ad 0))]) hx hb dX2_isSound_30 hl (k := 1) rfl (by exact nI_add b 1) (by decide) rfl (fun ls hl => ?_)
        refine lv_goto (tgt := 10) hx hb dX2_isSound_33 (by decide) ?_
        exact ih_3 (b + 1) (by omega) (by omega) _ _ hP hS ls (lv_sub hl [0, 2, 3, 4] rfl)
  exact key_1 _ 0 (by omega) (Nat.lt_succ_self _) _ _ hP hS ls (lv_sub hl [0, 1, 2, 3] rfl)

set_option maxHeartbeats 4000000 in
set_option maxRecDepth 100000 in
theorem mX2_checksum (l : Launch) (D : va_G) (cT : Nat → ClassId) (n : Nat) (ad : Nat → Nat) (A : Nat → Prop) (hD : ∀ G, va_D A (gw n ad G)) (G : Nat → va_E) (σ : TY) (hY : YW cT ad G σ) (hn : 69 ≤ n) (hI : YI σ) : Met l yX2_checksum (wA yX2_checksum cX2_checksum 7 (some .long)) ({ frames := 3, cells := 0, slots := 0, locals := 67 } : Room) (PG D cT n ad A G [.ref (ad 0)]) (QG D n ad A (fun v G1 => v = some (.long (csB σ 6)) ∧ G1 = G)) 0 0 A := by
  refine Met.ofG (cc := cX2_checksum) (maxL := 7) (ret := (some .long)) (by decide) (Nat.le_of_ble_eq_true rfl) ?_
  intro p e s m args below meth c Q hQ hx hb hr hml hlocks hown hw hP hK hE hA hS ls hl
  have hl : lv_has ls 7 [(0, .ref (ad 0))] := hl
  obtain ⟨hy0, hy1, hy2⟩ := hY.1
  refine lv_ldc2 hx hb hown (hw _ wk_X2_194) dX2_checksum_0 ?_
  refine lv_lstore_n (lv' := [(1, .long 7), (0, .ref (ad 0))]) hx hb dX2_checksum_3 rfl hl (by decide) rfl (fun ls hl => ?_)
  refine lv_aload_n hx hb dX2_checksum_4 rfl (lv_at hl 1 rfl) ?_
  refine g_get (C := RX2) (T := TX2) (N := 3) hx hb hw inX2 hown hK hP (i := 0) (by omega) hy0 rfl 0 (by decide) (hw _ wf_X2_15) rfl dX2_checksum_5 ?_
  refine lv_astore_n (lv' := [(3, .ref (ad 1)), (1, .long 7), (0, .ref (ad 0))]) hx hb dX2_checksum_8 rfl hl (by decide) rfl (fun ls hl => ?_)
  refine lv_aload_n hx hb dX2_checksum_9 rfl (lv_at hl 0 rfl) ?_
  refine va_alen hx hb hK hP 1 5 (gw_get (by omega) hy1) rfl (v := nI 12) rfl dX2_checksum_10 ?_
  refine lv_istore (lv' := [(4, .int (nI 12)), (3, .ref (ad 1)), (1, .long 7), (0, .ref (ad 0))]) hx hb dX2_checksum_11 hl (by decide) rfl (fun ls hl => ?_)
  refine lv_iconst (v := nI 0) hx hb dX2_checksum_13 (by decide) ?_
  refine lv_istore (lv' := [(5, .int (nI 0)), (4, .int (nI 12)), (3, .ref (ad 1)), (1, .long 7), (0, .ref (ad 0))]) hx hb dX2_checksum_14 hl (by decide) rfl (fun ls hl => ?_)
  have key_1 : ∀ (fu : Nat) (j : Nat), (j ≤ 12) → (12 - j) < fu → ∀ (H : Heap) (locs : List Loc), va_P D vwCl (gw n ad G) H → va_S A s.heap H locs → ∀ ls : Array Slot, lv_has ls 7 [(5, .int (nI j)), (4, .int (nI 12)), (3, .ref (ad 1)), (1, .long (csR σ j)), (0, .ref (ad 0))] → W p l e ({ frames := 3, cells := 0, slots := 0, locals := 67 } : Room) s m args below meth c H locs 0 0 Q (F0 m 16 ls []) := by
    intro fu_2
    induction fu_2 with
    | zero => intros; exfalso; omega
    | succ fu_2 ih_3 =>
      intro j hj hfu_4 H locs hP hS ls hl
      refine lv_iload hx hb dX2_checksum_16 (lv_at hl 0 rfl) ?_
      refine lv_iload hx hb dX2_checksum_18 (lv_at hl 1 rfl) ?_
      refine t_icmp_ge (tgt := 42) hx hb dX2_checksum_20 (by decide) (by omega) (by omega) (fun c_5 => ?_) (fun c_5 => ?_)
      · skip
        obtain rfl : j = 12 := by omega
        refine lv_aload_n hx hb dX2_checksum_42 rfl (lv_at hl 4 rfl) ?_
        refine g_get (C := RX2) (T := TX2) (N := 3) hx hb hw inX2 hown hK hP (i := 0) (by omega) hy0 rfl 1 (by decide) (hw _ wf_X2_21) rfl dX2_checksum_43 ?_
        refine lv_astore_n (lv' := [(3, .ref (ad 2)), (5, .int (nI 12)), (4, .int (nI 12)), (1, .long (csR σ 12)), (0, .ref (ad 0))]) hx hb dX2_checksum_46 rfl hl (by decide) rfl (fun ls hl => ?_)
        refine lv_aload_n hx hb dX2_checksum_47 rfl (lv_at hl 0 rfl) ?_
        refine va_alen hx hb hK hP 2 6 (gw_get (by omega) hy2) rfl (v := nI 6) rfl dX2_checksum_48 ?_
        refine lv_istore (lv' := [(4, .int (nI 6)), (3, .ref (ad 2)), (5, .int (nI 12)), (1, .long (csR σ 12)), (0, .ref (ad 0))]) hx hb dX2_checksum_49 hl (by decide) rfl (fun ls hl => ?_)
        refine lv_iconst (v := nI 0) hx hb dX2_checksum_51 (by decide) ?_
        refine lv_istore (lv' := [(5, .int (nI 0)), (4, .int (nI 6)), (3, .ref (ad 2)), (1, .long (csR σ 12)), (0, .ref (ad 0))]) hx hb dX2_checksum_52 hl (by decide) rfl (fun ls hl => ?_)
        have key_6 : ∀ (fu : Nat) (b : Nat), (b ≤ 6) → (6 - b) < fu → ∀ (H : Heap) (locs : List Loc), va_P D vwCl (gw n ad G) H → va_S A s.heap H locs → ∀ ls : Array Slot, lv_has ls 7 [(5, .int (nI b)), (4, .int (nI 6)), (3, .ref (ad 2)), (1, .long (csB σ b)), (0, .ref (ad 0))] → W p l e ({ frames := 3, cells := 0, slots := 0, locals := 67 } : Room) s m args below meth c H locs 0 0 Q (F0 m 54 ls []) := by
          intro fu_7
          induction fu_7 with
          | zero => intros; exfalso; omega
          | succ fu_7 ih_8 =>
            intro b hbi hfu_9 H locs hP hS ls hl
            refine lv_iload hx hb dX2_checksum_54 (lv_at hl 0 rfl) ?_
            refine lv_iload hx hb dX2_checksum_56 (lv_at hl 1 rfl) ?_
            refine t_icmp_ge (tgt := 80) hx hb dX2_checksum_58 (by decide) (by omega) (by omega) (fun c_10 => ?_) (fun c_10 => ?_)
            · skip
              refine lv_lload_n hx hb dX2_checksum_80 rfl (lv_at hl 3 rfl) ?_
              refine g_retl hQ hx hb hr hlocks hP hS (⟨by rw [show b = 6 by omega], rfl⟩) (Nat.le_of_ble_eq_true rfl) (Nat.le_of_ble_eq_true rfl) dX2_checksum_81
            · skip
              refine lv_aload_n hx hb dX2_checksum_61 rfl (lv_at hl 2 rfl) ?_
              refine lv_iload hx hb dX2_checksum_62 (lv_at hl 0 rfl) ?_
              refine g_aald hx hb hK hP 6 (i := 2) (by omega) hy2 rfl rfl (k := (ad (33 + 6 * b))) (by omega) (by omega) (bQ_at (by omega)) dX2_checksum_64 ?_
              refine lv_astore (lv' := [(6, .ref (ad (33 + 6 * b))), (5, .int (nI b)), (4, .int (nI 6)), (3, .ref (ad 2)), (1, .long (csB σ b)), (0, .ref (ad 0))]) hx hb dX2_checksum_65 hl (by decide) rfl (fun ls hl => ?_)
              have hbt := hY.2.2.1 b (by omega)
              have hit := (hI.2 b (by omega)).1
              have hib := (hI.2 b (by omega)).2
              have hcapb := BI_cap hit
              have hszb := hit.1
              obtain ⟨p0, w, nu, ne, en, ⟨hB, hB1, hB2, hB3, hB4, hB5, hB6, hB7, hB8⟩, hBL⟩ := id hbt
              refine lv_aload hx hb dX2_checksum_67 (lv_at hl 0 rfl) ?_
              refine lv_lload_n hx hb dX2_checksum_69 rfl (lv_at hl 4 rfl) ?_
              refine g_callV (As := [.long (csB σ b)]) (rest := []) ⟨hx, hb, hml, hown, hw⟩ (mX0_addTo l D cT n ad A hD G (33 + 6 * b) ((σ.2 b).1) ((σ.2 b).2.1) ((σ.2 b).2.2.1) ((σ.2 b).2.2.2.1) ((σ.2 b).2.2.2.2.1) ((σ.2 b).2.2.2.2.2) (by omega) hbt hit (csB σ b)) (cwV 1 hw (gWV wm_X2_200 wi_X0_addTo wse_X0_addTo wini_X0 wc_X0_addTo) rfl rfl rfl (by decide +kernel) ⟨Nat.le_of_ble_eq_true rfl, Nat.le_of_ble_eq_true rfl⟩) hK hE hA hP hS (k := (33 + 6 * b)) (by omega) hB rfl rfl hl.1 (lv_room (Nat.le_of_ble_eq_true rfl)) dX2_checksum_70 ⟨Nat.le_of_ble_eq_true rfl, Nat.le_of_ble_eq_true rfl⟩ (fun v_12 G_11 H locs hp hP hS => ?_)
              obtain ⟨hv, hg⟩ := hp
              subst hv
              rw [hg] at hP
              refine lv_lstore_n (lv' := [(1, .long (bsum ((σ.2 b).2.2.2.2.1) ((σ.2 b).2.2.2.2.2) ((σ.2 b).2.2.2.1) (31 * (csB σ b) + lN ((σ.2 b).2.1)) ((σ.2 b).2.1))), (6, .ref (ad (33 + 6 * b))), (5, .int (nI b)), (4, .int (nI 6)), (3, .ref (ad 2)), (0, .ref (ad 0))]) hx hb dX2_checksum_73 rfl hl (by decide) rfl (fun ls hl => ?_)
              refine lv_iinc (v := nI (b + 1)) (lv' := [(5, .int (nI (b + 1))), (1, .long (bsum ((σ.2 b).2.2.2.2.1) ((σ.2 b).2.2.2.2.2) ((σ.2 b).2.2.2.1) (31 * (csB σ b) + lN ((σ.2 b).2.1)) ((σ.2 b).2.1))), (6, .ref (ad (33 + 6 * b))), (4, .int (nI 6)), (3, .ref (ad 2)), (0, .ref (ad 0))]) hx hb dX2_checksum_74 hl (k := 2) rfl (by exact nI_add b 1) (by decide) rfl (fun ls hl => ?_)
              refine lv_goto (tgt := 54) hx hb dX2_checksum_77 (by decide) ?_
              exact ih_8 (b + 1) (by omega) (by omega) _ _ hP hS ls (lv_sub hl [0, 3, 4, 1, 5] rfl)
        exact key_6 _ 0 (by omega) (Nat.lt_succ_self _) _ _ hP hS ls (lv_sub hl [0, 1, 2, 3, 4] rfl)
      · skip
        refine lv_aload_n hx hb dX2_checksum_23 rfl (lv_at hl 2 rfl) ?_
        refine lv_iload hx hb dX2_checksum_24 (lv_at hl 0 rfl) ?_
        refine g_aald hx hb hK hP 5 (i := 1) (by omega) hy1 rfl rfl (k := (ad (9 + 2 * j))) (by omega) (by omega) (rQ_at (by omega)) dX2_checksum_26 ?_
        refine lv_astore (lv' := [(6, .ref (ad (9 + 2 * j))), (5, .int (nI j)), (4, .int (nI 12)), (3, .ref (ad 1)), (1, .long (csR σ j)), (0, .ref (ad 0))]) hx hb dX2_checksum_27 hl (by decide) rfl (fun ls hl => ?_)
        obtain ⟨hR1a, hR1b⟩ := hY.2.1 j (by omega)
        have hrc := hI.1 j (by omega)
        refine lv_aload hx hb dX2_checksum_29 (lv_at hl 0 rfl) ?_
        refine lv_lload_n hx hb dX2_checksum_31 rfl (lv_at hl 4 rfl) ?_
        refine g_callV (As := [.long (csR σ j)]) (rest := []) ⟨hx, hb, hml, hown, hw⟩ (mX1_addTo l D cT n ad A hD G (9 + 2 * j) ((σ.1 j).1) ((σ.1 j).2) (by omega) ⟨hR1a, hR1b⟩ (csR σ j) (by omega)) (cwV 1 hw (gWV wm_X2_196 wi_X1_addTo wse_X1_addTo wini_X1 wc_X1_addTo) rfl rfl rfl (by decide +kernel) ⟨Nat.le_of_ble_eq_true rfl, Nat.le_of_ble_eq_true rfl⟩) hK hE hA hP hS (k := (9 + 2 * j)) (by omega) hR1a rfl rfl hl.1 (lv_room (Nat.le_of_ble_eq_true rfl)) dX2_checksum_32 ⟨Nat.le_of_ble_eq_true rfl, Nat.le_of_ble_eq_true rfl⟩ (fun v_14 G_13 H locs hp hP hS => ?_)
        obtain ⟨hv, hg⟩ := hp
        subst hv
        rw [hg] at hP
        refine lv_lstore_n (lv' := [(1, .long (rsum ((σ.1 j).2) (31 * (csR σ j) + lN ((σ.1 j).1)) ((σ.1 j).1))), (6, .ref (ad (9 + 2 * j))), (5, .int (nI j)), (4, .int (nI 12)), (3, .ref (ad 1)), (0, .ref (ad 0))]) hx hb dX2_checksum_35 rfl hl (by decide) rfl (fun ls hl => ?_)
        refine lv_iinc (v := nI (j + 1)) (lv' := [(5, .int (nI (j + 1))), (1, .long (rsum ((σ.1 j).2) (31 * (csR σ j) + lN ((σ.1 j).1)) ((σ.1 j).1))), (6, .ref (ad (9 + 2 * j))), (4, .int (nI 12)), (3, .ref (ad 1)), (0, .ref (ad 0))]) hx hb dX2_checksum_36 hl (k := 2) rfl (by exact nI_add j 1) (by decide) rfl (fun ls hl => ?_)
        refine lv_goto (tgt := 16) hx hb dX2_checksum_39 (by decide) ?_
        exact ih_3 (j + 1) (by omega) (by omega) _ _ hP hS ls (lv_sub hl [0, 3, 4, 1, 5] rfl)
  exact key_1 _ 0 (by omega) (Nat.lt_succ_self _) _ _ hP hS ls (lv_sub hl [0, 1, 2, 3, 4] rfl)

set_option maxHeartbeats 4000000 in
set_option maxRecDepth 100000 in
theorem mX2_share (l : Launch) (hl9 : l.stackTraces = false) (D : va_G) (cT : Nat → ClassId) (n : Nat) (ad : Nat → Nat) (A : Nat → Prop) (hD : ∀ G, va_D A (gw n ad G)) (G : Nat → va_E) (σ : TY) (hY : YW cT ad G σ) (hn : 69 ≤ n) (hI : YI σ) (x : Int32) : vx_Met l yX2_share (wA yX2_share cX2_share 3 (some .float)) ({ frames := 7, cells := 2, slots := 12, locals := 103 } : Room) (PG D cT n ad A G [.ref (ad 0), .int x]) (QG D n ad A (fun v G1 => onB x (fun b => 0 < (σ.2 b).1 ∧ v = some (.float (shF (cnt (σ.2 b).2.2.2.2.1 (σ.2 b).2.1) (σ.2 b).1))) ∧ G1 = G)) (XG D n ad A G (fun E => pxBen x E ∨ onB x (fun b => (σ.2 b).1 = 0 ∧ E = xAR))) 2 12 A := by
  refine vx_ofG (cc := cX2_share) (maxL := 3) (ret := (some .float)) (by decide) (Nat.le_of_ble_eq_true rfl) ?_
  intro p e s m args below meth c Q hQ hX ht hx hb hr hml hlocks hown hw hP hK hE hA hS ls hl
  have hl : lv_has ls 3 [(0, .ref (ad 0)), (1, .int x)] := hl
  obtain ⟨hy0, hy1, hy2⟩ := hY.1
  refine lv_aload_n hx hb dX2_share_0 rfl (lv_at hl 0 rfl) ?_
  refine lv_iload_n hx hb dX2_share_1 rfl (lv_at hl 1 rfl) ?_
  refine g_callVX (As := [.int x]) (rest := []) ⟨hx, hb, hml, hown, hw⟩ (mX2_benchAt l hl9 D cT n ad A hD G σ hY hn x) (cwV 1 hw (gWV wm_X2_76 wi_X2_benchAt wse_X2_benchAt wini_X2 wc_X2_benchAt) rfl rfl rfl (by decide +kernel) ⟨Nat.le_of_ble_eq_true rfl, Nat.le_of_ble_eq_true rfl⟩) hK hE hA hP hS (k := 0) (by omega) hy0 rfl rfl hl.1 (lv_room (Nat.le_of_ble_eq_true rfl)) dX2_share_2 ⟨Nat.le_of_ble_eq_true rfl, Nat.le_of_ble_eq_true rfl⟩ (fun E ce q9 H locs hpx hP hS hce hcv hcl => g_out hX ht hlocks hP hS (Or.inl hpx) hce hcv hcl (Nat.le_of_ble_eq_true rfl) (Nat.le_of_ble_eq_true rfl)) (fun v_2 G_1 H locs hp hP hS => ?_)
  obtain ⟨⟨b, hb6, hxb, hv⟩, hg⟩ := hp
  subst hv
  rw [hg] at hP
  subst hxb
  have hbt := hY.2.2.1 b (by omega)
  have hit := (hI.2 b (by omega)).1
  have hib := (hI.2 b (by omega)).2
  have hcapb := BI_cap hit
  have hszb := hit.1
  obtain ⟨p0, w, nu, ne, en, ⟨hB, hB1, hB2, hB3, hB4, hB5, hB6, hB7, hB8⟩, hBL⟩ := id hbt
  refine lv_astore_n (lv' := [(2, .ref (ad (33 + 6 * b))), (0, .ref (ad 0)), (1, .int (nI b))]) hx hb dX2_share_5 rfl hl (by decide) rfl (fun ls hl => ?_)
  refine lv_aload_n hx hb dX2_share_6 rfl (lv_at hl 0 rfl) ?_
  refine g_getN (C := RX0) (T := TX0) (N := 8) hx hb hw inX0 hown hK hP (i := (33 + 6 * b)) (by omega) hB rfl 1 (by decide) (hE.2.2.1 (86, "Splityard$Bench", "size", "I") (by decide +kernel)) rfl dX2_share_7 ?_
  refine t_if_ne (tgt := 23) hx hb dX2_share_10 (by decide) (by omega) (fun c_3 => ?_) (fun c_3 => ?_)
  · skip
    refine lv_aload_n hx hb dX2_share_23 rfl (lv_at hl 0 rfl) ?_
    refine g_callV (As := []) (rest := []) ⟨hx, hb, hml, hown, hw⟩ (mX0_countNumbers l D cT n ad A hD G (33 + 6 * b) ((σ.2 b).1) ((σ.2 b).2.1) ((σ.2 b).2.2.1) ((σ.2 b).2.2.2.1) ((σ.2 b).2.2.2.2.1) ((σ.2 b).2.2.2.2.2) (by omega) hbt hit) (cwV 0 hw (gWV wm_X2_186 wi_X0_countNumbers wse_X0_countNumbers wini_X0 wc_X0_countNumbers) rfl rfl rfl (by decide +kernel) ⟨Nat.le_of_ble_eq_true rfl, Nat.le_of_ble_eq_true rfl⟩) hK hE hA hP hS (k := (33 + 6 * b)) (by omega) hB rfl rfl hl.1 (lv_room (Nat.le_of_ble_eq_true rfl)) dX2_share_24 ⟨Nat.le_of_ble_eq_true rfl, Nat.le_of_ble_eq_true rfl⟩ (fun v_5 G_4 H locs hp hP hS => ?_)
    obtain ⟨hv, hg⟩ := hp
    subst hv
    rw [hg] at hP
    have hcl := cnt_le (σ.2 b).2.2.2.2.1 (σ.2 b).2.1
    refine lv_i2f hx hb dX2_share_27 ?_
    refine lv_aload_n hx hb dX2_share_28 rfl (lv_at hl 0 rfl) ?_
    refine g_getN (C := RX0) (T := TX0) (N := 8) hx hb hw inX0 hown hK hP (i := (33 + 6 * b)) (by omega) hB rfl 1 (by decide) (hE.2.2.1 (86, "Splityard$Bench", "size", "I") (by decide +kernel)) rfl dX2_share_29 ?_
    refine lv_i2f hx hb dX2_share_32 ?_
    refine lv_fdiv hx hb dX2_share_33 (shF_ok (by omega) (by omega) (by omega)) ?_
    refine g_retf hQ hx hb hr hlocks hP hS (⟨⟨b, hb6, rfl, by omega, rfl⟩, rfl⟩) (Nat.le_of_ble_eq_true rfl) (Nat.le_of_ble_eq_true rfl) dX2_share_34
  · skip
    refine g_throwS (text := "the part is empty") hX ht hx hb hl9 hown hlocks hw hE hP hS (hl.1.trans hml.symm) (by decide +kernel) (by decide +kernel) at_AR wcl_X2_181 wini_java_lang_ArithmeticException (by decide +kernel) (Or.inr ⟨b, hb6, rfl, by omega, rfl⟩) dX2_share_13 dX2_share_16 dX2_share_17 dX2_share_19 dX2_share_22 (Nat.le_of_ble_eq_true rfl) (Nat.le_of_ble_eq_true rfl) (Nat.le_of_ble_eq_true rfl) (Nat.le_of_ble_eq_true rfl) (Nat.le_of_ble_eq_true rfl) (Nat.le_of_ble_eq_true rfl)

set_option maxHeartbeats 4000000 in
set_option maxRecDepth 100000 in
theorem mX2_meanLeft (l : Launch) (hl9 : l.stackTraces = false) (D : va_G) (cT : Nat → ClassId) (n : Nat) (ad : Nat → Nat) (A : Nat → Prop) (hD : ∀ G, va_D A (gw n ad G)) (G : Nat → va_E) (σ : TY) (hY : YW cT ad G σ) (hn : 69 ≤ n) (hI : YI σ) (x : Int32) : vx_Met l yX2_meanLeft (wA yX2_meanLeft cX2_meanLeft 4 (some .double)) ({ frames := 7, cells := 2, slots := 12, locals := 103 } : Room) (PG D cT n ad A G [.ref (ad 0), .int x]) (QG D n ad A (fun v G1 => onB x (fun b => 0 < (σ.2 b).2.1 - cnt (σ.2 b).2.2.2.2.1 (σ.2 b).2.1 ∧ v = some (.double (mnF (lft (σ.2 b).2.2.2.2.1 (σ.2 b).2.2.2.2.2 (σ.2 b).2.1) ((σ.2 b).2.1 - cnt (σ.2 b).2.2.2.2.1 (σ.2 b).2.1)))) ∧ G1 = G)) (XG D n ad A G (fun E => pxBen x E ∨ onB x (fun b => (σ.2 b).2.1 - cnt (σ.2 b).2.2.2.2.1 (σ.2 b).2.1 = 0 ∧ E = xAR))) 2 12 A := by
  refine vx_ofG (cc := cX2_meanLeft) (maxL := 4) (ret := (some .double)) (by decide) (Nat.le_of_ble_eq_true rfl) ?_
  intro p e s m args below meth c Q hQ hX ht hx hb hr hml hlocks hown hw hP hK hE hA hS ls hl
  have hl : lv_has ls 4 [(0, .ref (ad 0)), (1, .int x)] := hl
  obtain ⟨hy0, hy1, hy2⟩ := hY.1
  refine lv_aload_n hx hb dX2_meanLeft_0 rfl (lv_at hl 0 rfl) ?_
  refine lv_iload_n hx hb dX2_meanLeft_1 rfl (lv_at hl 1 rfl) ?_
  refine g_callVX (As := [.int x]) (rest := []) ⟨hx, hb, hml, hown, hw⟩ (mX2_benchAt l hl9 D cT n ad A hD G σ hY hn x) (cwV 1 hw (gWV wm_X2_76 wi_X2_benchAt wse_X2_benchAt wini_X2 wc_X2_benchAt) rfl rfl rfl (by decide +kernel) ⟨Nat.le_of_ble_eq_true rfl, Nat.le_of_ble_eq_true rfl⟩) hK hE hA hP hS (k := 0) (by omega) hy0 rfl rfl hl.1 (lv_room (Nat.le_of_ble_eq_true rfl)) dX2_meanLeft_2 ⟨Nat.le_of_ble_eq_true rfl, Nat.le_of_ble_eq_true rfl⟩ (fun E ce q9 H locs hpx hP hS hce hcv hcl => g_out hX ht hlocks hP hS (Or.inl hpx) hce hcv hcl (Nat.le_of_ble_eq_true rfl) (Nat.le_of_ble_eq_true rfl)) (fun v_2 G_1 H locs hp hP hS => ?_)
  obtain ⟨⟨b, hb6, hxb, hv⟩, hg⟩ := hp
  subst hv
  rw [hg] at hP
  subst hxb
  have hbt := hY.2.2.1 b (by omega)
  have hit := (hI.2 b (by omega)).1
  have hib := (hI.2 b (by omega)).2
  have hcapb := BI_cap hit
  have hszb := hit.1
  obtain ⟨p0, w, nu, ne, en, ⟨hB, hB1, hB2, hB3, hB4, hB5, hB6, hB7, hB8⟩, hBL⟩ := id hbt
  refine lv_astore_n (lv' := [(2, .ref (ad (33 + 6 * b))), (0, .ref (ad 0)), (1, .int (nI b))]) hx hb dX2_meanLeft_5 rfl hl (by decide) rfl (fun ls hl => ?_)
  refine lv_aload_n hx hb dX2_meanLeft_6 rfl (lv_at hl 0 rfl) ?_
  refine g_getN (C := RX0) (T := TX0) (N := 8) hx hb hw inX0 hown hK hP (i := (33 + 6 * b)) (by omega) hB rfl 7 (by decide) (hE.2.2.1 (89, "Splityard$Bench", "count", "I") (by decide +kernel)) rfl dX2_meanLeft_7 ?_
  refine lv_aload_n hx hb dX2_meanLeft_10 rfl (lv_at hl 0 rfl) ?_
  refine g_callV (As := []) (rest := [.int (nI ((σ.2 b).2.1))]) ⟨hx, hb, hml, hown, hw⟩ (mX0_countNumbers l D cT n ad A hD G (33 + 6 * b) ((σ.2 b).1) ((σ.2 b).2.1) ((σ.2 b).2.2.1) ((σ.2 b).2.2.2.1) ((σ.2 b).2.2.2.2.1) ((σ.2 b).2.2.2.2.2) (by omega) hbt hit) (cwV 0 hw (gWV wm_X2_186 wi_X0_countNumbers wse_X0_countNumbers wini_X0 wc_X0_countNumbers) rfl rfl rfl (by decide +kernel) ⟨Nat.le_of_ble_eq_true rfl, Nat.le_of_ble_eq_true rfl⟩) hK hE hA hP hS (k := (33 + 6 * b)) (by omega) hB rfl rfl hl.1 (lv_room (Nat.le_of_ble_eq_true rfl)) dX2_meanLeft_11 ⟨Nat.le_of_ble_eq_true rfl, Nat.le_of_ble_eq_true rfl⟩ (fun v_4 G_3 H locs hp hP hS => ?_)
  obtain ⟨hv, hg⟩ := hp
  subst hv
  rw [hg] at hP
  have hcl := cnt_le (σ.2 b).2.2.2.2.1 (σ.2 b).2.1
  refine lv_isub hx hb dX2_meanLeft_14 ?_
  refine t_eqi (nI (((σ.2 b).2.1) - (cnt ((σ.2 b).2.2.2.2.1) ((σ.2 b).2.1)))) (pk_sub (by omega)) ?_
  refine lv_istore_n (lv' := [(3, .int (nI (((σ.2 b).2.1) - (cnt ((σ.2 b).2.2.2.2.1) ((σ.2 b).2.1))))), (2, .ref (ad (33 + 6 * b))), (0, .ref (ad 0)), (1, .int (nI b))]) hx hb dX2_meanLeft_15 rfl hl (by decide) rfl (fun ls hl => ?_)
  refine lv_iload_n hx hb dX2_meanLeft_16 rfl (lv_at hl 0 rfl) ?_
  refine t_if_ne (tgt := 30) hx hb dX2_meanLeft_17 (by decide) (by omega) (fun c_5 => ?_) (fun c_5 => ?_)
  · skip
    refine lv_aload_n hx hb dX2_meanLeft_30 rfl (lv_at hl 1 rfl) ?_
    refine g_callV (As := []) (rest := []) ⟨hx, hb, hml, hown, hw⟩ (mX0_countLeft l D cT n ad A hD G (33 + 6 * b) ((σ.2 b).1) ((σ.2 b).2.1) ((σ.2 b).2.2.1) ((σ.2 b).2.2.2.1) ((σ.2 b).2.2.2.2.1) ((σ.2 b).2.2.2.2.2) (by omega) hbt hit) (cwV 0 hw (gWV wm_X2_191 wi_X0_countLeft wse_X0_countLeft wini_X0 wc_X0_countLeft) rfl rfl rfl (by decide +kernel) ⟨Nat.le_of_ble_eq_true rfl, Nat.le_of_ble_eq_true rfl⟩) hK hE hA hP hS (k := (33 + 6 * b)) (by omega) hB rfl rfl hl.1 (lv_room (Nat.le_of_ble_eq_true rfl)) dX2_meanLeft_31 ⟨Nat.le_of_ble_eq_true rfl, Nat.le_of_ble_eq_true rfl⟩ (fun v_7 G_6 H locs hp hP hS => ?_)
    obtain ⟨hv, hg⟩ := hp
    subst hv
    rw [hg] at hP
    have hll := lft_le (σ.2 b).2.2.2.2.1 (σ.2 b).2.2.2.2.2 (σ.2 b).2.1
    have hpz := hit.2.1
    refine lv_i2d hx hb dX2_meanLeft_34 ?_
    refine lv_iload_n hx hb dX2_meanLeft_35 rfl (lv_at hl 0 rfl) ?_
    refine lv_i2d hx hb dX2_meanLeft_36 ?_
    refine lv_ddiv hx hb dX2_meanLeft_37 (mnF_ok (by omega) (by omega) (by omega)) ?_
    refine g_retd hQ hx hb hr hlocks hP hS (⟨⟨b, hb6, rfl, by omega, rfl⟩, rfl⟩) (Nat.le_of_ble_eq_true rfl) (Nat.le_of_ble_eq_true rfl) dX2_meanLeft_38
  · skip
    refine g_throwS (text := "the bench has no piece") hX ht hx hb hl9 hown hlocks hw hE hP hS (hl.1.trans hml.symm) (by decide +kernel) (by decide +kernel) at_AR wcl_X2_181 wini_java_lang_ArithmeticException (by decide +kernel) (Or.inr ⟨b, hb6, rfl, by omega, rfl⟩) dX2_meanLeft_20 dX2_meanLeft_23 dX2_meanLeft_24 dX2_meanLeft_26 dX2_meanLeft_29 (Nat.le_of_ble_eq_true rfl) (Nat.le_of_ble_eq_true rfl) (Nat.le_of_ble_eq_true rfl) (Nat.le_of_ble_eq_true rfl) (Nat.le_of_ble_eq_true rfl) (Nat.le_of_ble_eq_true rfl)
