set_option maxHeartbeats 4000000 in
set_option maxRecDepth 100000 in
theorem mX3_turn_ok (l : Launch) (D : va_G) (cT : Nat → ClassId) (n : Nat) (ad : Nat → Nat) (A : Nat → Prop) (hD : ∀ G, va_D A (gw n ad G)) (G : Nat → va_E) (hn : 114 ≤ n) (σ : TY) (hI : YI σ) (th : Nat) (hM : MW cT ad G σ th) (ch : Nat) (hch : ch < 65536)(q ro : Nat) (hq : q < 3) (hro : ro < 4) (hkq : kdx ch = q) : Met l yX3_turn (wA yX3_turn cX3_turn 7 (some .int)) ({ frames := 1, cells := 1, slots := 48, locals := 23 } : Room) (PC D cT n ad A G [.ref (ad 69), .int (nI ch), .int (nI ro)]) (QG D n ad A (fun v G1 => (v = some (.int (nI (σ.1 (4 * q + ro)).1)) ∧ MW cT ad G1 (setR σ (4 * q + ro) ((σ.1 (4 * q + ro)).1, revA (σ.1 (4 * q + ro)).2 (σ.1 (4 * q + ro)).1)) 0) ∧ ∀ j, (j < 69 ∨ 114 ≤ j) → G1 j = G j)) 1 48 A := by
  refine Met.ofC (cc := cX3_turn) (maxL := 7) (ret := (some .int)) (by decide) (Nat.le_of_ble_eq_true rfl) ?_
  intro p e s m args below meth c Q hQ hx hb hr hml hlocks hname hown hw hP hK hE hA hS hN ls hl
  have hl : lv_has ls 7 [(0, .ref (ad 69)), (1, .int (nI ch)), (2, .int (nI ro))] := hl
  obtain ⟨rf, sf, pf, zf, xf, kf, lf, mf, hC, hMA⟩ := hM
  obtain ⟨hsz, hrv⟩ := hMA.1 q (by omega) ro (by omega)
  have hrc := hI.1 (4 * q + ro) (by omega)
  refine lv_iload_n hx hb dX3_turn_0 rfl (lv_at hl 1 rfl) ?_
  refine g_callS (As := [.int (nI ch)]) (rest := []) ⟨hx, hb, hml, hown, hw⟩ (mX3_kind l D cT n ad A hD G ch (by omega)) (va_cwS 1 hw (gWS wm_X3_51 wst_X3_kind wini_X3 wc_X3_kind) rfl rfl rfl (by decide +kernel) ⟨Nat.le_of_ble_eq_true rfl, Nat.le_of_ble_eq_true rfl⟩) hK hE hA hP hS rfl hl.1 (lv_room (Nat.le_of_ble_eq_true rfl)) dX3_turn_1 ⟨Nat.le_of_ble_eq_true rfl, Nat.le_of_ble_eq_true rfl⟩ (fun v_2 G_1 H locs hp hP hS => ?_)
  obtain ⟨hv9, hg9⟩ := hp
  subst hv9
  rw [hg9] at hP
  refine t_eqi (nI q) ((if_neg (by omega)).trans (congrArg nI hkq)) ?_
  refine lv_istore_n (lv' := [(3, .int (nI q)), (0, .ref (ad 69)), (1, .int (nI ch)), (2, .int (nI ro))]) hx hb dX3_turn_4 rfl hl (by decide) rfl (fun ls hl => ?_)
  refine lv_aload_n hx hb dX3_turn_5 rfl (lv_at hl 1 rfl) ?_
  refine lv_iload_n hx hb dX3_turn_6 rfl (lv_at hl 0 rfl) ?_
  refine t_if_lt (tgt := 14) hx hb dX3_turn_7 (by decide) (by omega) ?_
  refine lv_iconst (v := nI 1) hx hb dX3_turn_10 (by decide) ?_
  refine lv_goto (tgt := 15) hx hb dX3_turn_11 (by decide) ?_
  refine lv_iload_n hx hb dX3_turn_15 rfl (lv_at hl 3 rfl) ?_
  refine g_callS (As := [.int (nI ro)]) (rest := [.int (nI 1), .ref (ad 69)]) ⟨hx, hb, hml, hown, hw⟩ (mX3_isRow l D cT n ad A hD G (nI ro)) (va_cwS 1 hw (gWS wm_X3_59 wst_X3_isRow wini_X3 wc_X3_isRow) rfl rfl rfl (by decide +kernel) ⟨Nat.le_of_ble_eq_true rfl, Nat.le_of_ble_eq_true rfl⟩) hK hE hA hP hS rfl hl.1 (lv_room (Nat.le_of_ble_eq_true rfl)) dX3_turn_16 ⟨Nat.le_of_ble_eq_true rfl, Nat.le_of_ble_eq_true rfl⟩ (fun v_5 G_4 H locs hp hP hS => ?_)
  obtain ⟨hv9, hg9⟩ := hp
  subst hv9
  rw [hg9] at hP
  refine t_eqi (nI 1) (congrArg nI (if_neg (ix_ok (by omega) (by decide)))) ?_
  refine lv_iconst (v := nI 1) hx hb dX3_turn_19 (by decide) ?_
  refine g_callV (As := [.int (nI 1), .int (nI 1), .int (nI 1)]) (rest := []) ⟨hx, hb, hml, hown, hw⟩ (mX3_can l D cT n ad A hD G hn th 1 1 1 (by decide) (by decide) (by decide) hC.1) (cwV 3 hw (gWV wm_X3_63 wi_X3_can wse_X3_can wini_X3 wc_X3_can) rfl rfl rfl (by decide +kernel) ⟨Nat.le_of_ble_eq_true rfl, Nat.le_of_ble_eq_true rfl⟩) hK hE hA hP hS (k := 69) (by omega) hC.1 rfl rfl hl.1 (lv_room (Nat.le_of_ble_eq_true rfl)) dX3_turn_20 ⟨Nat.le_of_ble_eq_true rfl, Nat.le_of_ble_eq_true rfl⟩ (fun v_7 G_6 H locs hp hP hS => ?_)
  obtain ⟨rfl, hg_G_6, ho_G_6⟩ := hp
  have hc_8 : G_6 69 = .inr (5, [.ref (ad 70), .ref (ad 86), .ref (ad 90), .ref (ad 97), .ref (ad 98), .ref (ad 99), .ref (ad 106), .ref (ad 113), .int (nI 0)]) := hg_G_6
  have hc_9 : G_6 70 = aQ (cT 10) 3 (q3 ad) := (ho_G_6 _ (by omega)).trans hC.2.1
  have hc_10 : G_6 86 = aQ (cT 8) 3 (qS ad) := (ho_G_6 _ (by omega)).trans hC.2.2.2.2.1
  have hc_11 : G_6 90 = aQ (cT 7) 6 (qP ad) := (ho_G_6 _ (by omega)).trans hC.2.2.2.2.2.2.1
  have hc_12 : G_6 97 = aI cT 6 zf := (ho_G_6 _ (by omega)).trans hC.2.2.2.2.2.2.2.2.1
  have hc_13 : G_6 98 = aZ cT 6 xf := (ho_G_6 _ (by omega)).trans hC.2.2.2.2.2.2.2.2.2.1
  have hc_14 : G_6 99 = aQ (cT 9) 6 (qK ad) := (ho_G_6 _ (by omega)).trans hC.2.2.2.2.2.2.2.2.2.2.1
  have hc_15 : G_6 106 = aQ (cT 8) 6 (qL ad) := (ho_G_6 _ (by omega)).trans hC.2.2.2.2.2.2.2.2.2.2.2.2.1
  have hc_16 : G_6 113 = aI cT 6 mf := (ho_G_6 _ (by omega)).trans hC.2.2.2.2.2.2.2.2.2.2.2.2.2.2.1
  have hc_17 : G_6 (71 + 5 * q) = aQ (cT 7) 4 (q4 ad q) := (ho_G_6 _ (by omega)).trans (hC.2.2.1 q (by omega))
  have hc_18 : G_6 (87 + q) = aI cT 4 (sf q) := (ho_G_6 _ (by omega)).trans (hC.2.2.2.2.2.1 q (by omega))
  have hc_19 : G_6 (72 + 5 * q + ro) = aJ cT 48 (rf q ro) := (ho_G_6 _ (by omega)).trans (hC.2.2.2.1 q (by omega) ro (by omega))
  have hfr_20 : ∀ j, (j ≠ 69) → G_6 j = G j := fun j hj => (ho_G_6 j (by omega)).trans (rfl)
  refine t_eqi (nI 1) rfl ?_
  refine t_if_ne (tgt := 28) hx hb dX3_turn_23 (by decide) (by omega) (fun c_21 => ?_) (fun c_21 => absurd c_21 (by omega))
  refine lv_aload_n hx hb dX3_turn_28 rfl (lv_at hl 1 rfl) ?_
  refine g_get (C := RX3) (T := TX3) (N := 9) hx hb hw inX3 hown hK hP (i := 69) (by omega) hc_8 rfl 1 (by decide) (hw _ wf_X3_16) rfl dX3_turn_29 ?_
  refine lv_iload_n hx hb dX3_turn_32 rfl (lv_at hl 0 rfl) ?_
  refine g_aald hx hb hK hP 8 (i := 86) (by omega) hc_10 rfl rfl (k := (ad (87 + q))) (by omega) (by omega) (qS_at (by omega)) dX3_turn_33 ?_
  refine lv_iload_n hx hb dX3_turn_34 rfl (lv_at hl 3 rfl) ?_
  refine g_iald hx hb hK hP (i := (87 + q)) (by omega) hc_18 (by omega) (by omega) dX3_turn_35 ?_
  refine lv_istore (lv' := [(4, .int (nI ((sf q) ro))), (3, .int (nI q)), (0, .ref (ad 69)), (1, .int (nI ch)), (2, .int (nI ro))]) hx hb dX3_turn_36 hl (by decide) rfl (fun ls hl => ?_)
  refine lv_iload hx hb dX3_turn_38 (lv_at hl 0 rfl) ?_
  refine g_new1 (atype := .long) (ty := .long) (t0 := 0) (N := (sf q) ro) (z := ((sf q) ro, .inr (.inl (fun _ => 0)))) hx hb (hw _ wo_arrayClass_t1_66) rfl (hN.1 _ (List.mem_of_getElem? (i := 0) rfl)) hP hD hS hA (by omega) (fun _ => rfl) (Nat.le_of_ble_eq_true rfl) (by show _ ≤ 48; omega) (by show _ * 8 ≤ _; omega) dX3_turn_40 (fun ad2 G2 H had2 hg2 ho2 hD2 hP hS => ?_)
  refine W.widen (k := 1) (n := 48) (by omega) (by omega) ?_
  have hC1 : MC cT ad G_6 0 rf sf pf zf xf kf lf mf := hC.same hc_8 (fun j9 _ _ hj9 => hfr_20 j9 hj9)
  have hC2 : MC cT ad2 G2 0 rf sf pf zf xf kf lf mf := hC1.ad (fun k hk => had2 k (by omega)) (fun k _ hk => ho2 k (by omega))
  have hof : ∀ j, (j < 69 ∨ (114 ≤ j ∧ j < n)) → G2 j = G j := fun j hj => (ho2 j (by omega)).trans (hfr_20 j (by omega))
  have had69 := had2 69 (by omega)
  rw [← had69] at hl
  obtain ⟨hsz, hrv⟩ := hMA.1 q (by omega) ro (by omega)
  have hrc := hI.1 (4 * q + ro) (by omega)
  refine lv_astore (lv' := [(5, .ref (ad2 n)), (4, .int (nI ((sf q) ro))), (3, .int (nI q)), (0, .ref (ad2 69)), (1, .int (nI ch)), (2, .int (nI ro))]) hx hb dX3_turn_42 hl (by decide) rfl (fun ls hl => ?_)
  refine lv_iconst (v := nI 0) hx hb dX3_turn_44 (by decide) ?_
  refine lv_istore (lv' := [(6, .int (nI 0)), (5, .ref (ad2 n)), (4, .int (nI ((sf q) ro))), (3, .int (nI q)), (0, .ref (ad2 69)), (1, .int (nI ch)), (2, .int (nI ro))]) hx hb dX3_turn_45 hl (by decide) rfl (fun ls hl => ?_)
  have hg0 := gvF_0 (fun _ => 0) 0 (rf q ro)
  have key_22 : ∀ (fu : Nat) (u : Nat), (u ≤ sf q ro) → (sf q ro - u) < fu → ∀ (Gl : Nat → va_E) (H : Heap) (locs : List Loc), (∀ j, j ≠ n → Gl j = G2 j) → (Gl n = aJ cT ((sf q) ro) (gvF (fun _ => 0) 0 u (rf q ro))) → va_P D vwCl (gw (n + 1) ad2 Gl) H → va_S A s.heap H locs → ∀ ls : Array Slot, lv_has ls 7 [(6, .int (nI u)), (4, .int (nI (sf q ro))), (5, .ref (ad2 n)), (3, .int (nI q)), (2, .int (nI ro)), (0, .ref (ad2 69))] → W p l e ({ frames := 1, cells := 1, slots := 48, locals := 23 } : Room) s m args below meth c H locs 1 48 Q (F0 m 47 ls []) := by
    intro fu_23
    induction fu_23 with
    | zero => intros; exfalso; omega
    | succ fu_23 ih_24 =>
      intro u hu hfu_25 Gl H locs hfL hRL hP hS ls hl
      have hc_26 : Gl 69 = .inr (5, [.ref (ad2 70), .ref (ad2 86), .ref (ad2 90), .ref (ad2 97), .ref (ad2 98), .ref (ad2 99), .ref (ad2 106), .ref (ad2 113), .int (nI 0)]) := (hfL _ (by omega)).trans (hC2.1)
      have hc_27 : Gl 70 = aQ (cT 10) 3 (q3 ad2) := (hfL _ (by omega)).trans (hC2.2.1)
      have hc_28 : Gl 86 = aQ (cT 8) 3 (qS ad2) := (hfL _ (by omega)).trans (hC2.2.2.2.2.1)
      have hc_29 : Gl 90 = aQ (cT 7) 6 (qP ad2) := (hfL _ (by omega)).trans (hC2.2.2.2.2.2.2.1)
      have hc_30 : Gl 97 = aI cT 6 zf := (hfL _ (by omega)).trans (hC2.2.2.2.2.2.2.2.2.1)
      have hc_31 : Gl 98 = aZ cT 6 xf := (hfL _ (by omega)).trans (hC2.2.2.2.2.2.2.2.2.2.1)
      have hc_32 : Gl 99 = aQ (cT 9) 6 (qK ad2) := (hfL _ (by omega)).trans (hC2.2.2.2.2.2.2.2.2.2.2.1)
      have hc_33 : Gl 106 = aQ (cT 8) 6 (qL ad2) := (hfL _ (by omega)).trans (hC2.2.2.2.2.2.2.2.2.2.2.2.2.1)
      have hc_34 : Gl 113 = aI cT 6 mf := (hfL _ (by omega)).trans (hC2.2.2.2.2.2.2.2.2.2.2.2.2.2.2.1)
      have hc_35 : Gl (71 + 5 * q) = aQ (cT 7) 4 (q4 ad2 q) := (hfL _ (by omega)).trans ((hC2.2.2.1 q (by omega)))
      have hc_36 : Gl (87 + q) = aI cT 4 (sf q) := (hfL _ (by omega)).trans ((hC2.2.2.2.2.2.1 q (by omega)))
      have hc_37 : Gl (72 + 5 * q + ro) = aJ cT 48 (rf q ro) := (hfL _ (by omega)).trans ((hC2.2.2.2.1 q (by omega) ro (by omega)))
      have hfM_38 : ∀ j, (j ≠ 69 ∧ j ≠ 72 + 5 * q + ro ∧ j ≠ 87 + q ∧ j ≠ n) → Gl j = G2 j := fun j hj => (hfL j (by omega)).trans (rfl)
      refine lv_iload hx hb dX3_turn_47 (lv_at hl 0 rfl) ?_
      refine lv_iload hx hb dX3_turn_49 (lv_at hl 1 rfl) ?_
      refine t_icmp_ge (tgt := 76) hx hb dX3_turn_51 (by decide) (by omega) (by omega) (fun c_39 => ?_) (fun c_39 => ?_)
      · skip
        obtain rfl : u = sf q ro := by omega
        refine lv_iconst (v := nI 0) hx hb dX3_turn_76 (by decide) ?_
        refine lv_istore (lv' := [(6, .int (nI 0)), (4, .int (nI (sf q ro))), (5, .ref (ad2 n)), (3, .int (nI q)), (2, .int (nI ro)), (0, .ref (ad2 69))]) hx hb dX3_turn_77 hl (by decide) rfl (fun ls hl => ?_)
        have hg0 := gvF_0 (rf q ro) 0 (fun j => (gvF (fun _ => 0) 0 (sf q ro) (rf q ro)) (sf q ro - 1 - j))
        have key_40 : ∀ (fu : Nat) (u : Nat), (u ≤ sf q ro) → (sf q ro - u) < fu → ∀ (Gm : Nat → va_E) (H : Heap) (locs : List Loc), (∀ j, j ≠ 72 + 5 * q + ro → Gm j = Gl j) → (Gm (72 + 5 * q + ro) = aJ cT 48 (gvF (rf q ro) 0 u (fun j => (gvF (fun _ => 0) 0 (sf q ro) (rf q ro)) (sf q ro - 1 - j)))) → va_P D vwCl (gw (n + 1) ad2 Gm) H → va_S A s.heap H locs → ∀ ls : Array Slot, lv_has ls 7 [(6, .int (nI u)), (4, .int (nI (sf q ro))), (5, .ref (ad2 n)), (3, .int (nI q)), (2, .int (nI ro)), (0, .ref (ad2 69))] → W p l e ({ frames := 1, cells := 1, slots := 48, locals := 23 } : Room) s m args below meth c H locs 1 48 Q (F0 m 79 ls []) := by
          intro fu_41
          induction fu_41 with
          | zero => intros; exfalso; omega
          | succ fu_41 ih_42 =>
            intro u hu hfu_43 Gm H locs hfN hRN hP hS ls hl
            have hc_44 : Gm 69 = .inr (5, [.ref (ad2 70), .ref (ad2 86), .ref (ad2 90), .ref (ad2 97), .ref (ad2 98), .ref (ad2 99), .ref (ad2 106), .ref (ad2 113), .int (nI 0)]) := (hfN _ (by omega)).trans (hc_26)
            have hc_45 : Gm 70 = aQ (cT 10) 3 (q3 ad2) := (hfN _ (by omega)).trans (hc_27)
            have hc_46 : Gm 86 = aQ (cT 8) 3 (qS ad2) := (hfN _ (by omega)).trans (hc_28)
            have hc_47 : Gm 90 = aQ (cT 7) 6 (qP ad2) := (hfN _ (by omega)).trans (hc_29)
            have hc_48 : Gm 97 = aI cT 6 zf := (hfN _ (by omega)).trans (hc_30)
            have hc_49 : Gm 98 = aZ cT 6 xf := (hfN _ (by omega)).trans (hc_31)
            have hc_50 : Gm 99 = aQ (cT 9) 6 (qK ad2) := (hfN _ (by omega)).trans (hc_32)
            have hc_51 : Gm 106 = aQ (cT 8) 6 (qL ad2) := (hfN _ (by omega)).trans (hc_33)
            have hc_52 : Gm 113 = aI cT 6 mf := (hfN _ (by omega)).trans (hc_34)
            have hc_53 : Gm (71 + 5 * q) = aQ (cT 7) 4 (q4 ad2 q) := (hfN _ (by omega)).trans (hc_35)
            have hc_54 : Gm (87 + q) = aI cT 4 (sf q) := (hfN _ (by omega)).trans (hc_36)
            have hc_55 : Gm n = aJ cT ((sf q) ro) (gvF (fun _ => 0) 0 (sf q ro) (rf q ro)) := (hfN _ (by omega)).trans (hRL)
            have hfM_56 : ∀ j, (j ≠ 69 ∧ j ≠ 72 + 5 * q + ro ∧ j ≠ 87 + q ∧ j ≠ n) → Gm j = G2 j := fun j hj => (hfN j (by omega)).trans (hfM_38 j hj)
            refine lv_iload hx hb dX3_turn_79 (lv_at hl 0 rfl) ?_
            refine lv_iload hx hb dX3_turn_81 (lv_at hl 1 rfl) ?_
            refine t_icmp_ge (tgt := 113) hx hb dX3_turn_83 (by decide) (by omega) (by omega) (fun c_57 => ?_) (fun c_57 => ?_)
            · skip
              obtain rfl : u = sf q ro := by omega
              refine lv_iload hx hb dX3_turn_113 (lv_at hl 1 rfl) ?_
              have hMe : MW cT ad2 Gm (setR σ (4 * q + ro) ((σ.1 (4 * q + ro)).1, revA (σ.1 (4 * q + ro)).2 (σ.1 (4 * q + ro)).1)) 0 := MW.row hC2 hMA hq hro hc_44 hRN hc_54 (fun j9 _ x a b c => hfM_56 j9 ⟨a, b, c, by omega⟩) hsz (fun _ _ => rfl) (fun k hk => by rw [gvF_in (Nat.zero_le _) (by omega)]; show gvF (fun _ => 0) 0 (sf q ro) (rf q ro) (sf q ro - 1 - (k - 0)) = _; rw [gvF_in (Nat.zero_le _) (by omega), hrv _ (by omega)]; show _ = (if k < (σ.1 (4 * q + ro)).1 then (σ.1 (4 * q + ro)).2 ((σ.1 (4 * q + ro)).1 - 1 - k) else (σ.1 (4 * q + ro)).2 k); rw [if_pos hk, hsz]; rfl)
              have hFx : ∀ j, (j < 69 ∨ (114 ≤ j ∧ j < n)) → Gm j = G j := fun j hj => (hfM_56 j (by omega)).trans (hof j hj)
              have hP := gw_back (G := G) (Nat.le_succ n) had2 hP
              refine g_ret hQ hx hb hr hlocks rfl hP hS (⟨⟨by rw [hsz], MW.ad hMe (fun k hk => (had2 k (by omega)).symm) (fun k _ hk => if_pos (by omega))⟩, fun j hj => by show (if j < n then Gm j else G j) = G j; split; exact hFx j (by omega); rfl⟩) (Nat.le_of_ble_eq_true rfl) (Nat.le_of_ble_eq_true rfl) dX3_turn_115
            · skip
              refine lv_aload_n hx hb dX3_turn_86 rfl (lv_at hl 5 rfl) ?_
              refine g_get (C := RX3) (T := TX3) (N := 9) hx hb hw inX3 hown hK hP (i := 69) (by omega) hc_44 rfl 0 (by decide) (hw _ wf_X3_11) rfl dX3_turn_87 ?_
              refine lv_iload_n hx hb dX3_turn_90 rfl (lv_at hl 3 rfl) ?_
              refine g_aald hx hb hK hP 10 (i := 70) (by omega) hc_45 rfl rfl (k := (ad2 (71 + 5 * q))) (by omega) (by omega) (q3_at (by omega)) dX3_turn_91 ?_
              refine lv_iload_n hx hb dX3_turn_92 rfl (lv_at hl 4 rfl) ?_
              refine g_aald hx hb hK hP 7 (i := (71 + 5 * q)) (by omega) hc_53 rfl rfl (k := (ad2 (72 + 5 * q + ro))) (by omega) (by omega) (q4_at (by omega)) dX3_turn_93 ?_
              refine lv_iload hx hb dX3_turn_94 (lv_at hl 0 rfl) ?_
              refine lv_aload hx hb dX3_turn_96 (lv_at hl 2 rfl) ?_
              refine lv_iload hx hb dX3_turn_98 (lv_at hl 1 rfl) ?_
              refine lv_iconst (v := nI 1) hx hb dX3_turn_100 (by decide) ?_
              refine lv_isub hx hb dX3_turn_101 ?_
              refine t_eqi (nI ((sf q ro) - 1)) (pk_sub (by omega)) ?_
              refine lv_iload hx hb dX3_turn_102 (lv_at hl 0 rfl) ?_
              refine lv_isub hx hb dX3_turn_104 ?_
              refine t_eqi (nI (((sf q ro) - 1) - u)) (pk_sub (by omega)) ?_
              refine g_lald hx hb hK hP (i := n) (by omega) hc_55 (by omega) (by omega) dX3_turn_105 ?_
              refine g_last hx hb hK hP hD2 hS (i := (72 + 5 * q + ro)) (by omega) hRN (by omega) (by omega) dX3_turn_106 (fun G_58 H locs hg_G_58 ho_G_58 hP hS => ?_)
              have hc_59 : G_58 69 = .inr (5, [.ref (ad2 70), .ref (ad2 86), .ref (ad2 90), .ref (ad2 97), .ref (ad2 98), .ref (ad2 99), .ref (ad2 106), .ref (ad2 113), .int (nI 0)]) := (ho_G_58 _ (by omega)).trans hc_44
              have hc_60 : G_58 70 = aQ (cT 10) 3 (q3 ad2) := (ho_G_58 _ (by omega)).trans hc_45
              have hc_61 : G_58 86 = aQ (cT 8) 3 (qS ad2) := (ho_G_58 _ (by omega)).trans hc_46
              have hc_62 : G_58 90 = aQ (cT 7) 6 (qP ad2) := (ho_G_58 _ (by omega)).trans hc_47
              have hc_63 : G_58 97 = aI cT 6 zf := (ho_G_58 _ (by omega)).trans hc_48
              have hc_64 : G_58 98 = aZ cT 6 xf := (ho_G_58 _ (by omega)).trans hc_49
              have hc_65 : G_58 99 = aQ (cT 9) 6 (qK ad2) := (ho_G_58 _ (by omega)).trans hc_50
              have hc_66 : G_58 106 = aQ (cT 8) 6 (qL ad2) := (ho_G_58 _ (by omega)).trans hc_51
              have hc_67 : G_58 113 = aI cT 6 mf := (ho_G_58 _ (by omega)).trans hc_52
              have hc_68 : G_58 (71 + 5 * q) = aQ (cT 7) 4 (q4 ad2 q) := (ho_G_58 _ (by omega)).trans hc_53
              have hc_69 : G_58 (87 + q) = aI cT 4 (sf q) := (ho_G_58 _ (by omega)).trans hc_54
              have hc_70 : G_58 (72 + 5 * q + ro) = aJ cT 48 (va_up (gvF (rf q ro) 0 u (fun j => (gvF (fun _ => 0) 0 (sf q ro) (rf q ro)) (sf q ro - 1 - j))) u ((gvF (fun _ => 0) 0 (sf q ro) (rf q ro)) (((sf q ro) - 1) - u))) := hg_G_58
              have hc_71 : G_58 n = aJ cT ((sf q) ro) (gvF (fun _ => 0) 0 (sf q ro) (rf q ro)) := (ho_G_58 _ (by omega)).trans hc_55
              have hfr_72 : ∀ j, (j ≠ 69 ∧ j ≠ 72 + 5 * q + ro ∧ j ≠ 87 + q ∧ j ≠ n) → G_58 j = G2 j := fun j hj => (ho_G_58 j (by omega)).trans (hfM_56 j hj)
              refine lv_iinc (v := nI (u + 1)) (lv' := [(6, .int (nI (u + 1))), (4, .int (nI (sf q ro))), (5, .ref (ad2 n)), (3, .int (nI q)), (2, .int (nI ro)), (0, .ref (ad2 69))]) hx hb dX3_turn_107 hl (k := 0) rfl (by exact nI_add u 1) (by decide) rfl (fun ls hl => ?_)
              refine lv_goto (tgt := 79) hx hb dX3_turn_110 (by decide) ?_
              have hfn_73 : ∀ j, j ≠ 72 + 5 * q + ro → G_58 j = Gl j := fun j hj => (ho_G_58 j hj).trans (hfN j hj)
              exact ih_42 (u + 1) (by omega) (by omega) _ _ _ (hfn_73) (hc_70.trans (congrArg (aJ cT 48) (by have hgs := gvF_step (rf q ro) 0 u (fun j => (gvF (fun _ => 0) 0 (sf q ro) (rf q ro)) (sf q ro - 1 - j)); rw [Nat.zero_add] at hgs; rw [← hgs]))) hP hS ls (lv_sub hl [0, 1, 2, 3, 4, 5] rfl)
        exact key_40 _ 0 (by omega) (Nat.lt_succ_self _) _ _ _ (fun _ _ => rfl) (by rw [hg0]; exact hc_37) hP hS ls (lv_sub hl [0, 1, 2, 3, 4, 5] rfl)
      · skip
        refine lv_aload hx hb dX3_turn_54 (lv_at hl 2 rfl) ?_
        refine lv_iload hx hb dX3_turn_56 (lv_at hl 0 rfl) ?_
        refine lv_aload_n hx hb dX3_turn_58 rfl (lv_at hl 5 rfl) ?_
        refine g_get (C := RX3) (T := TX3) (N := 9) hx hb hw inX3 hown hK hP (i := 69) (by omega) hc_26 rfl 0 (by decide) (hw _ wf_X3_11) rfl dX3_turn_59 ?_
        refine lv_iload_n hx hb dX3_turn_62 rfl (lv_at hl 3 rfl) ?_
        refine g_aald hx hb hK hP 10 (i := 70) (by omega) hc_27 rfl rfl (k := (ad2 (71 + 5 * q))) (by omega) (by omega) (q3_at (by omega)) dX3_turn_63 ?_
        refine lv_iload_n hx hb dX3_turn_64 rfl (lv_at hl 4 rfl) ?_
        refine g_aald hx hb hK hP 7 (i := (71 + 5 * q)) (by omega) hc_35 rfl rfl (k := (ad2 (72 + 5 * q + ro))) (by omega) (by omega) (q4_at (by omega)) dX3_turn_65 ?_
        refine lv_iload hx hb dX3_turn_66 (lv_at hl 0 rfl) ?_
        refine g_lald hx hb hK hP (i := (72 + 5 * q + ro)) (by omega) hc_37 (by omega) (by omega) dX3_turn_68 ?_
        refine g_last hx hb hK hP hD2 hS (i := n) (by omega) hRL (by omega) (by omega) dX3_turn_69 (fun G_74 H locs hg_G_74 ho_G_74 hP hS => ?_)
        have hc_75 : G_74 69 = .inr (5, [.ref (ad2 70), .ref (ad2 86), .ref (ad2 90), .ref (ad2 97), .ref (ad2 98), .ref (ad2 99), .ref (ad2 106), .ref (ad2 113), .int (nI 0)]) := (ho_G_74 _ (by omega)).trans hc_26
        have hc_76 : G_74 70 = aQ (cT 10) 3 (q3 ad2) := (ho_G_74 _ (by omega)).trans hc_27
        have hc_77 : G_74 86 = aQ (cT 8) 3 (qS ad2) := (ho_G_74 _ (by omega)).trans hc_28
        have hc_78 : G_74 90 = aQ (cT 7) 6 (qP ad2) := (ho_G_74 _ (by omega)).trans hc_29
        have hc_79 : G_74 97 = aI cT 6 zf := (ho_G_74 _ (by omega)).trans hc_30
        have hc_80 : G_74 98 = aZ cT 6 xf := (ho_G_74 _ (by omega)).trans hc_31
        have hc_81 : G_74 99 = aQ (cT 9) 6 (qK ad2) := (ho_G_74 _ (by omega)).trans hc_32
        have hc_82 : G_74 106 = aQ (cT 8) 6 (qL ad2) := (ho_G_74 _ (by omega)).trans hc_33
        have hc_83 : G_74 113 = aI cT 6 mf := (ho_G_74 _ (by omega)).trans hc_34
        have hc_84 : G_74 (71 + 5 * q) = aQ (cT 7) 4 (q4 ad2 q) := (ho_G_74 _ (by omega)).trans hc_35
        have hc_85 : G_74 (87 + q) = aI cT 4 (sf q) := (ho_G_74 _ (by omega)).trans hc_36
        have hc_86 : G_74 (72 + 5 * q + ro) = aJ cT 48 (rf q ro) := (ho_G_74 _ (by omega)).trans hc_37
        have hc_87 : G_74 n = aJ cT ((sf q) ro) (va_up (gvF (fun _ => 0) 0 u (rf q ro)) u ((rf q ro) u)) := hg_G_74
        have hfr_88 : ∀ j, (j ≠ 69 ∧ j ≠ 72 + 5 * q + ro ∧ j ≠ 87 + q ∧ j ≠ n) → G_74 j = G2 j := fun j hj => (ho_G_74 j (by omega)).trans (hfM_38 j hj)
        refine lv_iinc (v := nI (u + 1)) (lv' := [(6, .int (nI (u + 1))), (4, .int (nI (sf q ro))), (5, .ref (ad2 n)), (3, .int (nI q)), (2, .int (nI ro)), (0, .ref (ad2 69))]) hx hb dX3_turn_70 hl (k := 0) rfl (by exact nI_add u 1) (by decide) rfl (fun ls hl => ?_)
        refine lv_goto (tgt := 47) hx hb dX3_turn_73 (by decide) ?_
        have hfn_89 : ∀ j, j ≠ n → G_74 j = G2 j := fun j hj => (ho_G_74 j hj).trans (hfL j hj)
        exact ih_24 (u + 1) (by omega) (by omega) _ _ _ (hfn_89) (hc_87.trans (congrArg (aJ cT ((sf q) ro)) (by have hgs := gvF_step (fun _ => 0) 0 u (rf q ro); rw [Nat.zero_add] at hgs; rw [← hgs]))) hP hS ls (lv_sub hl [0, 1, 2, 3, 4, 5] rfl)
  exact key_22 _ 0 (by omega) (Nat.lt_succ_self _) _ _ _ (fun _ _ => rfl) (by rw [hg0]; exact hg2) hP hS ls (lv_sub hl [0, 2, 1, 3, 6, 4] rfl)

set_option maxHeartbeats 4000000 in
set_option maxRecDepth 100000 in
theorem mX3_pieces_ok (l : Launch) (D : va_G) (cT : Nat → ClassId) (n : Nat) (ad : Nat → Nat) (A : Nat → Prop) (hD : ∀ G, va_D A (gw n ad G)) (G : Nat → va_E) (hn : 114 ≤ n) (σ : TY) (hI : YI σ) (th : Nat) (hM : MW cT ad G σ th) (ch : Nat) (hch : ch < 65536)(q ro : Nat) (hq : q < 3) (hro : ro < 4) (hkq : kdx ch = q) (mo : Nat) (hmo1 : 1 ≤ mo) (hmo2 : mo ≤ 48) : Met l yX3_pieces (wA yX3_pieces cX3_pieces 8 (some .int)) ({ frames := 1, cells := 1, slots := 49, locals := 23 } : Room) (PC D cT n ad A G [.ref (ad 69), .int (nI ch), .int (nI ro), .int (nI mo)]) (QG D n ad A (fun v G1 => (v = some (.int (nI (pcs mo 8 (σ.1 (4 * q + ro)).1))) ∧ MW cT ad G1 σ 0) ∧ ∀ j, (j < 69 ∨ 114 ≤ j) → G1 j = G j)) 1 49 A := by
  refine Met.ofC (cc := cX3_pieces) (maxL := 8) (ret := (some .int)) (by decide) (Nat.le_of_ble_eq_true rfl) ?_
  intro p e s m args below meth c Q hQ hx hb hr hml hlocks hname hown hw hP hK hE hA hS hN ls hl
  have hl : lv_has ls 8 [(0, .ref (ad 69)), (1, .int (nI ch)), (2, .int (nI ro)), (3, .int (nI mo))] := hl
  obtain ⟨rf, sf, pf, zf, xf, kf, lf, mf, hC, hMA⟩ := hM
  obtain ⟨hsz, hrv⟩ := hMA.1 q (by omega) ro (by omega)
  have hrc := hI.1 (4 * q + ro) (by omega)
  refine lv_iload_n hx hb dX3_pieces_0 rfl (lv_at hl 1 rfl) ?_
  refine g_callS (As := [.int (nI ch)]) (rest := []) ⟨hx, hb, hml, hown, hw⟩ (mX3_kind l D cT n ad A hD G ch (by omega)) (va_cwS 1 hw (gWS wm_X3_51 wst_X3_kind wini_X3 wc_X3_kind) rfl rfl rfl (by decide +kernel) ⟨Nat.le_of_ble_eq_true rfl, Nat.le_of_ble_eq_true rfl⟩) hK hE hA hP hS rfl hl.1 (lv_room (Nat.le_of_ble_eq_true rfl)) dX3_pieces_1 ⟨Nat.le_of_ble_eq_true rfl, Nat.le_of_ble_eq_true rfl⟩ (fun v_2 G_1 H locs hp hP hS => ?_)
  obtain ⟨hv9, hg9⟩ := hp
  subst hv9
  rw [hg9] at hP
  refine t_eqi (nI q) ((if_neg (by omega)).trans (congrArg nI hkq)) ?_
  refine lv_istore (lv' := [(4, .int (nI q)), (0, .ref (ad 69)), (1, .int (nI ch)), (2, .int (nI ro)), (3, .int (nI mo))]) hx hb dX3_pieces_4 hl (by decide) rfl (fun ls hl => ?_)
  refine lv_aload_n hx hb dX3_pieces_6 rfl (lv_at hl 1 rfl) ?_
  refine lv_iload hx hb dX3_pieces_7 (lv_at hl 0 rfl) ?_
  refine t_if_lt (tgt := 23) hx hb dX3_pieces_9 (by decide) (by omega) ?_
  refine lv_iload_n hx hb dX3_pieces_12 rfl (lv_at hl 4 rfl) ?_
  refine g_callS (As := [.int (nI mo)]) (rest := [.ref (ad 69)]) ⟨hx, hb, hml, hown, hw⟩ (mX3_isMost l D cT n ad A hD G (nI mo)) (va_cwS 1 hw (gWS wm_X3_93 wst_X3_isMost wini_X3 wc_X3_isMost) rfl rfl rfl (by decide +kernel) ⟨Nat.le_of_ble_eq_true rfl, Nat.le_of_ble_eq_true rfl⟩) hK hE hA hP hS rfl hl.1 (lv_room (Nat.le_of_ble_eq_true rfl)) dX3_pieces_13 ⟨Nat.le_of_ble_eq_true rfl, Nat.le_of_ble_eq_true rfl⟩ (fun v_5 G_4 H locs hp hP hS => ?_)
  obtain ⟨hv9, hg9⟩ := hp
  subst hv9
  rw [hg9] at hP
  refine t_eqi (nI 1) (congrArg nI (if_neg (mo_ok (by omega) (by omega)))) ?_
  refine t_if_eq (tgt := 23) hx hb dX3_pieces_16 (by decide) (by omega) (fun c_6 => absurd c_6 (by omega)) (fun c_6 => ?_)
  refine lv_iconst (v := nI 1) hx hb dX3_pieces_19 (by decide) ?_
  refine lv_goto (tgt := 24) hx hb dX3_pieces_20 (by decide) ?_
  refine lv_iload_n hx hb dX3_pieces_24 rfl (lv_at hl 3 rfl) ?_
  refine g_callS (As := [.int (nI ro)]) (rest := [.int (nI 1), .ref (ad 69)]) ⟨hx, hb, hml, hown, hw⟩ (mX3_isRow l D cT n ad A hD G (nI ro)) (va_cwS 1 hw (gWS wm_X3_59 wst_X3_isRow wini_X3 wc_X3_isRow) rfl rfl rfl (by decide +kernel) ⟨Nat.le_of_ble_eq_true rfl, Nat.le_of_ble_eq_true rfl⟩) hK hE hA hP hS rfl hl.1 (lv_room (Nat.le_of_ble_eq_true rfl)) dX3_pieces_25 ⟨Nat.le_of_ble_eq_true rfl, Nat.le_of_ble_eq_true rfl⟩ (fun v_8 G_7 H locs hp hP hS => ?_)
  obtain ⟨hv9, hg9⟩ := hp
  subst hv9
  rw [hg9] at hP
  refine t_eqi (nI 1) (congrArg nI (if_neg (ix_ok (by omega) (by decide)))) ?_
  refine lv_iconst (v := nI 1) hx hb dX3_pieces_28 (by decide) ?_
  refine g_callV (As := [.int (nI 1), .int (nI 1), .int (nI 1)]) (rest := []) ⟨hx, hb, hml, hown, hw⟩ (mX3_can l D cT n ad A hD G hn th 1 1 1 (by decide) (by decide) (by decide) hC.1) (cwV 3 hw (gWV wm_X3_63 wi_X3_can wse_X3_can wini_X3 wc_X3_can) rfl rfl rfl (by decide +kernel) ⟨Nat.le_of_ble_eq_true rfl, Nat.le_of_ble_eq_true rfl⟩) hK hE hA hP hS (k := 69) (by omega) hC.1 rfl rfl hl.1 (lv_room (Nat.le_of_ble_eq_true rfl)) dX3_pieces_29 ⟨Nat.le_of_ble_eq_true rfl, Nat.le_of_ble_eq_true rfl⟩ (fun v_10 G_9 H locs hp hP hS => ?_)
  obtain ⟨rfl, hg_G_9, ho_G_9⟩ := hp
  have hc_11 : G_9 69 = .inr (5, [.ref (ad 70), .ref (ad 86), .ref (ad 90), .ref (ad 97), .ref (ad 98), .ref (ad 99), .ref (ad 106), .ref (ad 113), .int (nI 0)]) := hg_G_9
  have hc_12 : G_9 70 = aQ (cT 10) 3 (q3 ad) := (ho_G_9 _ (by omega)).trans hC.2.1
  have hc_13 : G_9 86 = aQ (cT 8) 3 (qS ad) := (ho_G_9 _ (by omega)).trans hC.2.2.2.2.1
  have hc_14 : G_9 90 = aQ (cT 7) 6 (qP ad) := (ho_G_9 _ (by omega)).trans hC.2.2.2.2.2.2.1
  have hc_15 : G_9 97 = aI cT 6 zf := (ho_G_9 _ (by omega)).trans hC.2.2.2.2.2.2.2.2.1
  have hc_16 : G_9 98 = aZ cT 6 xf := (ho_G_9 _ (by omega)).trans hC.2.2.2.2.2.2.2.2.2.1
  have hc_17 : G_9 99 = aQ (cT 9) 6 (qK ad) := (ho_G_9 _ (by omega)).trans hC.2.2.2.2.2.2.2.2.2.2.1
  have hc_18 : G_9 106 = aQ (cT 8) 6 (qL ad) := (ho_G_9 _ (by omega)).trans hC.2.2.2.2.2.2.2.2.2.2.2.2.1
  have hc_19 : G_9 113 = aI cT 6 mf := (ho_G_9 _ (by omega)).trans hC.2.2.2.2.2.2.2.2.2.2.2.2.2.2.1
  have hc_20 : G_9 (71 + 5 * q) = aQ (cT 7) 4 (q4 ad q) := (ho_G_9 _ (by omega)).trans (hC.2.2.1 q (by omega))
  have hc_21 : G_9 (87 + q) = aI cT 4 (sf q) := (ho_G_9 _ (by omega)).trans (hC.2.2.2.2.2.1 q (by omega))
  have hc_22 : G_9 (72 + 5 * q + ro) = aJ cT 48 (rf q ro) := (ho_G_9 _ (by omega)).trans (hC.2.2.2.1 q (by omega) ro (by omega))
  have hfr_23 : ∀ j, (j ≠ 69) → G_9 j = G j := fun j hj => (ho_G_9 j (by omega)).trans (rfl)
  refine t_eqi (nI 1) rfl ?_
  refine t_if_ne (tgt := 37) hx hb dX3_pieces_32 (by decide) (by omega) (fun c_24 => ?_) (fun c_24 => absurd c_24 (by omega))
  refine lv_bipush (v := nI 49) hx hb dX3_pieces_37 (by decide) ?_
  refine g_new1 (atype := .int) (ty := .int) (t0 := 1) (N := 49) (z := (49, .inl (fun j => nI ((fun _ => 0) j)))) hx hb (hw _ wo_arrayClass_t1_67) rfl (hN.1 _ (List.mem_of_getElem? (i := 1) rfl)) hP hD hS hA (by omega) (fun _ => rfl) (Nat.le_of_ble_eq_true rfl) (by show _ ≤ 49; omega) (by show _ * 4 ≤ _; omega) dX3_pieces_39 (fun ad2 G2 H had2 hg2 ho2 hD2 hP hS => ?_)
  refine W.widen (k := 1) (n := 49) (by omega) (by omega) ?_
  have hC1 : MC cT ad G_9 0 rf sf pf zf xf kf lf mf := hC.same hc_11 (fun j9 _ _ hj9 => hfr_23 j9 hj9)
  have hC2 : MC cT ad2 G2 0 rf sf pf zf xf kf lf mf := hC1.ad (fun k hk => had2 k (by omega)) (fun k _ hk => ho2 k (by omega))
  have hof : ∀ j, (j < 69 ∨ (114 ≤ j ∧ j < n)) → G2 j = G j := fun j hj => (ho2 j (by omega)).trans (hfr_23 j (by omega))
  have had69 := had2 69 (by omega)
  rw [← had69] at hl
  obtain ⟨hsz, hrv⟩ := hMA.1 q (by omega) ro (by omega)
  have hrc := hI.1 (4 * q + ro) (by omega)
  refine lv_astore (lv' := [(5, .ref (ad2 n)), (4, .int (nI q)), (0, .ref (ad2 69)), (1, .int (nI ch)), (2, .int (nI ro)), (3, .int (nI mo))]) hx hb dX3_pieces_41 hl (by decide) rfl (fun ls hl => ?_)
  refine lv_aload hx hb dX3_pieces_43 (lv_at hl 0 rfl) ?_
  refine lv_aload_n hx hb dX3_pieces_45 rfl (lv_at hl 2 rfl) ?_
  refine g_get (C := RX3) (T := TX3) (N := 9) hx hb hw inX3 hown hK hP (i := 69) (by omega) hC2.1 rfl 1 (by decide) (hw _ wf_X3_16) rfl dX3_pieces_46 ?_
  refine lv_iload hx hb dX3_pieces_49 (lv_at hl 1 rfl) ?_
  refine g_aald hx hb hK hP 8 (i := 86) (by omega) hC2.2.2.2.2.1 rfl rfl (k := (ad2 (87 + q))) (by omega) (by omega) (qS_at (by omega)) dX3_pieces_51 ?_
  refine lv_iload_n hx hb dX3_pieces_52 rfl (lv_at hl 4 rfl) ?_
  refine g_iald hx hb hK hP (i := (87 + q)) (by omega) (hC2.2.2.2.2.2.1 q (by omega)) (by omega) (by omega) dX3_pieces_53 ?_
  refine lv_iconst (v := nI 1) hx hb dX3_pieces_54 (by decide) ?_
  refine g_iast hx hb hK hP hD2 hS (i := n) (by omega) hg2 (by omega) (by omega) dX3_pieces_55 (fun G_25 H locs hg_G_25 ho_G_25 hP hS => ?_)
  have hc_26 : G_25 69 = .inr (5, [.ref (ad2 70), .ref (ad2 86), .ref (ad2 90), .ref (ad2 97), .ref (ad2 98), .ref (ad2 99), .ref (ad2 106), .ref (ad2 113), .int (nI 0)]) := (ho_G_25 _ (by omega)).trans hC2.1
  have hc_27 : G_25 70 = aQ (cT 10) 3 (q3 ad2) := (ho_G_25 _ (by omega)).trans hC2.2.1
  have hc_28 : G_25 86 = aQ (cT 8) 3 (qS ad2) := (ho_G_25 _ (by omega)).trans hC2.2.2.2.2.1
  have hc_29 : G_25 90 = aQ (cT 7) 6 (qP ad2) := (ho_G_25 _ (by omega)).trans hC2.2.2.2.2.2.2.1
  have hc_30 : G_25 97 = aI cT 6 zf := (ho_G_25 _ (by omega)).trans hC2.2.2.2.2.2.2.2.2.1
  have hc_31 : G_25 98 = aZ cT 6 xf := (ho_G_25 _ (by omega)).trans hC2.2.2.2.2.2.2.2.2.2.1
  have hc_32 : G_25 99 = aQ (cT 9) 6 (qK ad2) := (ho_G_25 _ (by omega)).trans hC2.2.2.2.2.2.2.2.2.2.2.1
  have hc_33 : G_25 106 = aQ (cT 8) 6 (qL ad2) := (ho_G_25 _ (by omega)).trans hC2.2.2.2.2.2.2.2.2.2.2.2.2.1
  have hc_34 : G_25 113 = aI cT 6 mf := (ho_G_25 _ (by omega)).trans hC2.2.2.2.2.2.2.2.2.2.2.2.2.2.2.1
  have hc_35 : G_25 (71 + 5 * q) = aQ (cT 7) 4 (q4 ad2 q) := (ho_G_25 _ (by omega)).trans (hC2.2.2.1 q (by omega))
  have hc_36 : G_25 (87 + q) = aI cT 4 (sf q) := (ho_G_25 _ (by omega)).trans (hC2.2.2.2.2.2.1 q (by omega))
  have hc_37 : G_25 (72 + 5 * q + ro) = aJ cT 48 (rf q ro) := (ho_G_25 _ (by omega)).trans (hC2.2.2.2.1 q (by omega) ro (by omega))
  have hc_38 : G_25 n = aI cT 49 (va_up (fun _ => 0) ((sf q) ro) 1) := hg_G_25
  have hfr_39 : ∀ j, (j ≠ n) → G_25 j = G2 j := fun j hj => (ho_G_25 j (by omega)).trans (rfl)
  refine lv_iconst (v := nI 0) hx hb dX3_pieces_56 (by decide) ?_
  refine lv_istore (lv' := [(6, .int (nI 0)), (5, .ref (ad2 n)), (4, .int (nI q)), (0, .ref (ad2 69)), (1, .int (nI ch)), (2, .int (nI ro)), (3, .int (nI mo))]) hx hb dX3_pieces_57 hl (by decide) rfl (fun ls hl => ?_)
  refine lv_bipush (v := nI 48) hx hb dX3_pieces_59 (by decide) ?_
  refine lv_istore (lv' := [(7, .int (nI 48)), (6, .int (nI 0)), (5, .ref (ad2 n)), (4, .int (nI q)), (0, .ref (ad2 69)), (1, .int (nI ch)), (2, .int (nI ro)), (3, .int (nI mo))]) hx hb dX3_pieces_61 hl (by decide) rfl (fun ls hl => ?_)
  have hwi : 0 + wsum (va_up (fun _ => 0) ((sf q) ro) 1) (pcs mo 8) 49 = pcs mo 8 (σ.1 (4 * q + ro)).1 := by rw [Nat.zero_add, show (va_up (fun _ => 0) ((sf q) ro) 1) = va_up (fun _ => 0) (σ.1 (4 * q + ro)).1 ((fun _ => 0 : Nat → Nat) (σ.1 (4 * q + ro)).1 + 1) from by rw [hsz], wsum_up 49 (by omega), wsum_0, Nat.zero_add, Nat.one_mul]
  have hl : lv_has ls 8 [(7, .int (dI 49)), (6, .int (nI 0)), (5, .ref (ad2 n)), (4, .int (nI q)), (0, .ref (ad2 69)), (1, .int (nI ch)), (2, .int (nI ro)), (3, .int (nI mo))] := hl
  have key_40 : ∀ (fu : Nat) (w al : Nat) (g : Nat → Nat), (w ≤ 49) → (al + wsum g (pcs mo 8) w = pcs mo 8 (σ.1 (4 * q + ro)).1) → (w) < fu → ∀ (Gl : Nat → va_E) (H : Heap) (locs : List Loc), (∀ j, j ≠ n → Gl j = G_25 j) → (Gl n = aI cT 49 g) → va_P D vwCl (gw (n + 1) ad2 Gl) H → va_S A s.heap H locs → ∀ ls : Array Slot, lv_has ls 8 [(7, .int (dI w)), (6, .int (nI al)), (5, .ref (ad2 n)), (3, .int (nI mo)), (0, .ref (ad2 69))] → W p l e ({ frames := 1, cells := 1, slots := 49, locals := 23 } : Room) s m args below meth c H locs 1 49 Q (F0 m 63 ls []) := by
    intro fu_41
    induction fu_41 with
    | zero => intros; exfalso; omega
    | succ fu_41 ih_42 =>
      intro w al g hw49 hws hfu_43 Gl H locs hfL hRL hP hS ls hl
      have hc_44 : Gl 69 = .inr (5, [.ref (ad2 70), .ref (ad2 86), .ref (ad2 90), .ref (ad2 97), .ref (ad2 98), .ref (ad2 99), .ref (ad2 106), .ref (ad2 113), .int (nI 0)]) := (hfL _ (by omega)).trans (hc_26)
      have hc_45 : Gl 70 = aQ (cT 10) 3 (q3 ad2) := (hfL _ (by omega)).trans (hc_27)
      have hc_46 : Gl 86 = aQ (cT 8) 3 (qS ad2) := (hfL _ (by omega)).trans (hc_28)
      have hc_47 : Gl 90 = aQ (cT 7) 6 (qP ad2) := (hfL _ (by omega)).trans (hc_29)
      have hc_48 : Gl 97 = aI cT 6 zf := (hfL _ (by omega)).trans (hc_30)
      have hc_49 : Gl 98 = aZ cT 6 xf := (hfL _ (by omega)).trans (hc_31)
      have hc_50 : Gl 99 = aQ (cT 9) 6 (qK ad2) := (hfL _ (by omega)).trans (hc_32)
      have hc_51 : Gl 106 = aQ (cT 8) 6 (qL ad2) := (hfL _ (by omega)).trans (hc_33)
      have hc_52 : Gl 113 = aI cT 6 mf := (hfL _ (by omega)).trans (hc_34)
      have hc_53 : Gl (71 + 5 * q) = aQ (cT 7) 4 (q4 ad2 q) := (hfL _ (by omega)).trans (hc_35)
      have hc_54 : Gl (87 + q) = aI cT 4 (sf q) := (hfL _ (by omega)).trans (hc_36)
      have hc_55 : Gl (72 + 5 * q + ro) = aJ cT 48 (rf q ro) := (hfL _ (by omega)).trans (hc_37)
      have hfM_56 : ∀ j, (j ≠ n) → Gl j = G2 j := fun j hj => (hfL j (by omega)).trans (hfr_39 j hj)
      rcases w with _ | k
      · skip
        have hl : lv_has ls 8 [(7, .int (-1)), (6, .int (nI al)), (5, .ref (ad2 n)), (3, .int (nI mo)), (0, .ref (ad2 69))] := hl
        refine lv_iload hx hb dX3_pieces_63 (lv_at hl 0 rfl) ?_
        refine lv_if_lt (tgt := 126) hx hb dX3_pieces_65 (by decide) (fun h9 => ?_) (fun h9 => absurd (by decide) h9)
        refine lv_iload hx hb dX3_pieces_126 (lv_at hl 1 rfl) ?_
        have hMe : MW cT ad2 Gl σ 0 := MW.same hC2 hMA hc_44 (fun j9 _ _ _ => hfM_56 j9 (by omega))
        have hFx : ∀ j, (j < 69 ∨ (114 ≤ j ∧ j < n)) → Gl j = G j := fun j hj => (hfM_56 j (by omega)).trans (hof j hj)
        have hP := gw_back (G := G) (Nat.le_succ n) had2 hP
        refine g_ret hQ hx hb hr hlocks rfl hP hS (⟨⟨by rw [← hws]; rfl, MW.ad hMe (fun k hk => (had2 k (by omega)).symm) (fun k _ hk => if_pos (by omega))⟩, fun j hj => by show (if j < n then Gl j else G j) = G j; split; exact hFx j (by omega); rfl⟩) (Nat.le_of_ble_eq_true rfl) (Nat.le_of_ble_eq_true rfl) dX3_pieces_128
      · skip
        rw [dI_s] at hl
        refine lv_iload hx hb dX3_pieces_63 (lv_at hl 0 rfl) ?_
        refine t_if_lt (tgt := 126) hx hb dX3_pieces_65 (by decide) (by omega) ?_
        refine lv_iload hx hb dX3_pieces_68 (lv_at hl 0 rfl) ?_
        refine lv_iload_n hx hb dX3_pieces_70 rfl (lv_at hl 3 rfl) ?_
        refine t_icmp_le (tgt := 110) hx hb dX3_pieces_71 (by decide) (by omega) (by omega) (fun c_58 => ?_) (fun c_58 => ?_)
        · skip
          refine lv_iload hx hb dX3_pieces_110 (lv_at hl 1 rfl) ?_
          refine lv_aload hx hb dX3_pieces_112 (lv_at hl 2 rfl) ?_
          refine lv_iload hx hb dX3_pieces_114 (lv_at hl 0 rfl) ?_
          refine g_iald hx hb hK hP (i := n) (by omega) hRL (by omega) (by omega) dX3_pieces_116 ?_
          refine lv_iadd hx hb dX3_pieces_117 ?_
          refine t_eqi (nI (al + (g k))) (nI_add al (g k)) ?_
          refine lv_istore (lv' := [(6, .int (nI (al + (g k)))), (7, .int (nI k)), (5, .ref (ad2 n)), (3, .int (nI mo)), (0, .ref (ad2 69))]) hx hb dX3_pieces_118 hl (by decide) rfl (fun ls hl => ?_)
          refine lv_iinc (v := dI k) (lv' := [(7, .int (dI k)), (6, .int (nI (al + (g k)))), (5, .ref (ad2 n)), (3, .int (nI mo)), (0, .ref (ad2 69))]) hx hb dX3_pieces_120 hl (k := 1) rfl (dI_dec _) (by decide) rfl (fun ls hl => ?_)
          refine lv_goto (tgt := 63) hx hb dX3_pieces_123 (by decide) ?_
          exact ih_42 k (al + g k) g (by omega) (by rw [← hws]; show _ = al + (wsum g (pcs mo 8) k + g k * pcs mo 8 k); rw [pcs_one (by omega)]; omega) (by omega) _ _ _ (hfL) (hRL) hP hS ls (lv_sub hl [0, 1, 2, 3, 4] rfl)
        · skip
          refine lv_aload hx hb dX3_pieces_74 (lv_at hl 2 rfl) ?_
          refine lv_iload hx hb dX3_pieces_76 (lv_at hl 0 rfl) ?_
          refine lv_iconst (v := nI 2) hx hb dX3_pieces_78 (by decide) ?_
          refine lv_idiv hx hb dX3_pieces_79 (nI_ne0 (by omega) (by omega)) ?_
          refine t_eqi (nI (k / 2)) (pk_div (by omega) (by omega) (by omega)) ?_
          refine lv_dup2_11 hx hb dX3_pieces_80 rfl rfl ?_
          refine g_iald hx hb hK hP (i := n) (by omega) hRL (by omega) (by omega) dX3_pieces_81 ?_
          refine lv_aload hx hb dX3_pieces_82 (lv_at hl 2 rfl) ?_
          refine lv_iload hx hb dX3_pieces_84 (lv_at hl 0 rfl) ?_
          refine g_iald hx hb hK hP (i := n) (by omega) hRL (by omega) (by omega) dX3_pieces_86 ?_
          refine lv_iadd hx hb dX3_pieces_87 ?_
          refine t_eqi (nI ((g (k / 2)) + (g k))) (nI_add (g (k / 2)) (g k)) ?_
          refine g_iast hx hb hK hP hD2 hS (i := n) (by omega) hRL (by omega) (by omega) dX3_pieces_88 (fun G_60 H locs hg_G_60 ho_G_60 hP hS => ?_)
          have hc_61 : G_60 69 = .inr (5, [.ref (ad2 70), .ref (ad2 86), .ref (ad2 90), .ref (ad2 97), .ref (ad2 98), .ref (ad2 99), .ref (ad2 106), .ref (ad2 113), .int (nI 0)]) := (ho_G_60 _ (by omega)).trans hc_44
          have hc_62 : G_60 70 = aQ (cT 10) 3 (q3 ad2) := (ho_G_60 _ (by omega)).trans hc_45
          have hc_63 : G_60 86 = aQ (cT 8) 3 (qS ad2) := (ho_G_60 _ (by omega)).trans hc_46
          have hc_64 : G_60 90 = aQ (cT 7) 6 (qP ad2) := (ho_G_60 _ (by omega)).trans hc_47
          have hc_65 : G_60 97 = aI cT 6 zf := (ho_G_60 _ (by omega)).trans hc_48
          have hc_66 : G_60 98 = aZ cT 6 xf := (ho_G_60 _ (by omega)).trans hc_49
          have hc_67 : G_60 99 = aQ (cT 9) 6 (qK ad2) := (ho_G_60 _ (by omega)).trans hc_50
          have hc_68 : G_60 106 = aQ (cT 8) 6 (qL ad2) := (ho_G_60 _ (by omega)).trans hc_51
          have hc_69 : G_60 113 = aI cT 6 mf := (ho_G_60 _ (by omega)).trans hc_52
          have hc_70 : G_60 (71 + 5 * q) = aQ (cT 7) 4 (q4 ad2 q) := (ho_G_60 _ (by omega)).trans hc_53
          have hc_71 : G_60 (87 + q) = aI cT 4 (sf q) := (ho_G_60 _ (by omega)).trans hc_54
          have hc_72 : G_60 (72 + 5 * q + ro) = aJ cT 48 (rf q ro) := (ho_G_60 _ (by omega)).trans hc_55
          have hc_73 : G_60 n = aI cT 49 (va_up g (k / 2) ((g (k / 2)) + (g k))) := hg_G_60
          have hfr_74 : ∀ j, (j ≠ n) → G_60 j = G2 j := fun j hj => (ho_G_60 j (by omega)).trans (hfM_56 j hj)
          refine lv_aload hx hb dX3_pieces_89 (lv_at hl 2 rfl) ?_
          refine lv_iload hx hb dX3_pieces_91 (lv_at hl 0 rfl) ?_
          refine lv_iload hx hb dX3_pieces_93 (lv_at hl 0 rfl) ?_
          refine lv_iconst (v := nI 2) hx hb dX3_pieces_95 (by decide) ?_
          refine lv_idiv hx hb dX3_pieces_96 (nI_ne0 (by omega) (by omega)) ?_
          refine t_eqi (nI (k / 2)) (pk_div (by omega) (by omega) (by omega)) ?_
          refine lv_isub hx hb dX3_pieces_97 ?_
          refine t_eqi (nI (k - (k / 2))) (pk_sub (by omega)) ?_
          refine lv_dup2_11 hx hb dX3_pieces_98 rfl rfl ?_
          refine g_iald hx hb hK hP (i := n) (by omega) hc_73 (by omega) (by omega) dX3_pieces_99 ?_
          refine lv_aload hx hb dX3_pieces_100 (lv_at hl 2 rfl) ?_
          refine lv_iload hx hb dX3_pieces_102 (lv_at hl 0 rfl) ?_
          refine g_iald hx hb hK hP (i := n) (by omega) hc_73 (by omega) (by omega) dX3_pieces_104 ?_
          refine lv_iadd hx hb dX3_pieces_105 ?_
          refine t_eqi (nI (((va_up g (k / 2) ((g (k / 2)) + (g k))) (k - (k / 2))) + ((va_up g (k / 2) ((g (k / 2)) + (g k))) k))) (nI_add ((va_up g (k / 2) ((g (k / 2)) + (g k))) (k - (k / 2))) ((va_up g (k / 2) ((g (k / 2)) + (g k))) k)) ?_
          refine g_iast hx hb hK hP hD2 hS (i := n) (by omega) hc_73 (by omega) (by omega) dX3_pieces_106 (fun G_75 H locs hg_G_75 ho_G_75 hP hS => ?_)
          have hc_76 : G_75 69 = .inr (5, [.ref (ad2 70), .ref (ad2 86), .ref (ad2 90), .ref (ad2 97), .ref (ad2 98), .ref (ad2 99), .ref (ad2 106), .ref (ad2 113), .int (nI 0)]) := (ho_G_75 _ (by omega)).trans hc_61
          have hc_77 : G_75 70 = aQ (cT 10) 3 (q3 ad2) := (ho_G_75 _ (by omega)).trans hc_62
          have hc_78 : G_75 86 = aQ (cT 8) 3 (qS ad2) := (ho_G_75 _ (by omega)).trans hc_63
          have hc_79 : G_75 90 = aQ (cT 7) 6 (qP ad2) := (ho_G_75 _ (by omega)).trans hc_64
          have hc_80 : G_75 97 = aI cT 6 zf := (ho_G_75 _ (by omega)).trans hc_65
          have hc_81 : G_75 98 = aZ cT 6 xf := (ho_G_75 _ (by omega)).trans hc_66
          have hc_82 : G_75 99 = aQ (cT 9) 6 (qK ad2) := (ho_G_75 _ (by omega)).trans hc_67
          have hc_83 : G_75 106 = aQ (cT 8) 6 (qL ad2) := (ho_G_75 _ (by omega)).trans hc_68
          have hc_84 : G_75 113 = aI cT 6 mf := (ho_G_75 _ (by omega)).trans hc_69
          have hc_85 : G_75 (71 + 5 * q) = aQ (cT 7) 4 (q4 ad2 q) := (ho_G_75 _ (by omega)).trans hc_70
          have hc_86 : G_75 (87 + q) = aI cT 4 (sf q) := (ho_G_75 _ (by omega)).trans hc_71
          have hc_87 : G_75 (72 + 5 * q + ro) = aJ cT 48 (rf q ro) := (ho_G_75 _ (by omega)).trans hc_72
          have hc_88 : G_75 n = aI cT 49 (va_up (va_up g (k / 2) ((g (k / 2)) + (g k))) (k - (k / 2)) (((va_up g (k / 2) ((g (k / 2)) + (g k))) (k - (k / 2))) + ((va_up g (k / 2) ((g (k / 2)) + (g k))) k))) := hg_G_75
          have hfr_89 : ∀ j, (j ≠ n) → G_75 j = G2 j := fun j hj => (ho_G_75 j (by omega)).trans (hfr_74 j hj)
          refine lv_goto (tgt := 120) hx hb dX3_pieces_107 (by decide) ?_
          refine lv_iinc (v := dI k) (lv' := [(7, .int (dI k)), (6, .int (nI al)), (5, .ref (ad2 n)), (3, .int (nI mo)), (0, .ref (ad2 69))]) hx hb dX3_pieces_120 hl (k := 0) rfl (dI_dec _) (by decide) rfl (fun ls hl => ?_)
          refine lv_goto (tgt := 63) hx hb dX3_pieces_123 (by decide) ?_
          have hfn_90 : ∀ j, j ≠ n → G_75 j = G_25 j := fun j hj => (ho_G_75 j hj).trans ((ho_G_60 j hj).trans (hfL j hj))
          exact ih_42 k al (va_up (va_up g (k / 2) ((g (k / 2)) + (g k))) (k - (k / 2)) (((va_up g (k / 2) ((g (k / 2)) + (g k))) (k - (k / 2))) + ((va_up g (k / 2) ((g (k / 2)) + (g k))) k))) (by omega) (by rw [wsum_split (by omega) (by omega) (by omega)]; exact hws) (by omega) _ _ _ (hfn_90) (hc_88) hP hS ls (lv_sub hl [0, 1, 2, 3, 4] rfl)
  exact key_40 _ 49 0 (va_up (fun _ => 0) ((sf q) ro) 1) (by omega) (hwi) (Nat.lt_succ_self _) _ _ _ (fun _ _ => rfl) (hc_38) hP hS ls (lv_sub hl [0, 1, 2, 7, 4] rfl)
