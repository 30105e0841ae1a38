set_option maxHeartbeats 4000000 in
set_option maxRecDepth 100000 in
theorem mX2_foldPart (l : Launch) (D : va_G) (cT : Nat → ClassId) (n : Nat) (ad : Nat → Nat) (A : Nat → Prop) (hD : ∀ G, va_D A (gw n ad G)) (G : Nat → va_E) (r cn : Nat) (f : Nat → Int64) (hrn : r + 2 ≤ n) (hR : RR cT ad G r cn f) (hcn : cn ≤ 48) (mo hc : Nat) (hmo : mo < 65536) (hhc : hc < 65536) (hh : hc = 115 ∨ hc = 120 ∨ hc = 104 ∨ hc = 102) : ∀ (g a b d : Nat), d + g = 8 → a ≤ b → b ≤ cn → Met l yX2_foldPart (wA yX2_foldPart cX2_foldPart 12 (some .long)) (rmF g) (PG D cT n ad A G [.ref (ad r), .int (nI a), .int (nI b), .int (nI mo), .int (nI hc), .int (nI d)]) (QG D n ad A (fun v G1 => v = some (.long (fbn f hc a (b - a))) ∧ G1 = G)) 0 0 A := by
  intro g
  induction g with
  | zero =>
    intro a b d hd hab hb2
    refine Met.ofG (cc := cX2_foldPart) (maxL := 12) (ret := (some .long)) (by decide) (Nat.le_of_ble_eq_true rfl) ?_
    intro p e s m args below meth c Q hQ hx hb hr hml hlocks hown hw hP hK hE hA hS ls hl
    have hl : lv_has ls 12 [(0, .ref (ad r)), (1, .int (nI a)), (2, .int (nI b)), (3, .int (nI mo)), (4, .int (nI hc)), (5, .int (nI d))] := hl
    obtain ⟨hR1a, hR1b⟩ := id hR
    obtain rfl : d = 8 := by omega
    have hl : lv_has ls 12 [(0, .ref (ad r)), (1, .int (nI a)), (2, .int (nI b)), (3, .int (nI mo)), (4, .int (nI hc)), (5, .int (nI 8))] := hl
    refine lv_iload_n hx hb dX2_foldPart_0 rfl (lv_at hl 2 rfl) ?_
    refine lv_iload_n hx hb dX2_foldPart_1 rfl (lv_at hl 1 rfl) ?_
    refine lv_isub hx hb dX2_foldPart_2 ?_
    refine t_eqi (nI (b - a)) (pk_sub (by omega)) ?_
    refine lv_istore (lv' := [(6, .int (nI (b - a))), (0, .ref (ad r)), (1, .int (nI a)), (2, .int (nI b)), (3, .int (nI mo)), (4, .int (nI hc)), (5, .int (nI 8))]) hx hb dX2_foldPart_3 hl (by decide) rfl (fun ls hl => ?_)
    refine lv_iload hx hb dX2_foldPart_5 (lv_at hl 0 rfl) ?_
    refine lv_iload_n hx hb dX2_foldPart_7 rfl (lv_at hl 4 rfl) ?_
    refine t_icmp_le (tgt := 18) hx hb dX2_foldPart_8 (by decide) (by omega) (by omega) (fun c_1 => ?_) (fun c_1 => ?_)
    · skip
      refine lv_aload_n hx hb dX2_foldPart_18 rfl (lv_at hl 1 rfl) ?_
      refine lv_iload_n hx hb dX2_foldPart_19 rfl (lv_at hl 2 rfl) ?_
      refine lv_iload_n hx hb dX2_foldPart_20 rfl (lv_at hl 3 rfl) ?_
      refine lv_iload hx hb dX2_foldPart_21 (lv_at hl 5 rfl) ?_
      refine g_callS (As := [.ref (ad r), .int (nI a), .int (nI b), .int (nI hc)]) (rest := []) ⟨hx, hb, hml, hown, hw⟩ (mX2_foldByNumber l D cT n ad A hD G r cn f (by omega) ⟨hR1a, hR1b⟩ (by omega) a b hc (by omega) hh (by omega) (by omega)) (va_cwS 4 hw (gWS wm_X2_225 wst_X2_foldByNumber wini_X2 wc_X2_foldByNumber) rfl rfl rfl (by decide +kernel) ⟨by simp only [rmF]; omega, by simp only [rmF]; omega⟩) hK hE hA hP hS rfl hl.1 (lv_room (Nat.le_of_ble_eq_true rfl)) dX2_foldPart_23 ⟨Nat.le_of_ble_eq_true rfl, Nat.le_of_ble_eq_true rfl⟩ (fun v_3 G_2 H locs hp hP hS => ?_)
      obtain ⟨hv, hg⟩ := hp
      subst hv
      rw [hg] at hP
      refine g_retl hQ hx hb hr hlocks hP hS (⟨rfl, rfl⟩) (Nat.le_of_ble_eq_true rfl) (Nat.le_of_ble_eq_true rfl) dX2_foldPart_26
    · skip
      refine lv_iload hx hb dX2_foldPart_11 (lv_at hl 6 rfl) ?_
      refine lv_bipush (v := nI 8) hx hb dX2_foldPart_13 (by decide) ?_
      refine t_icmp_lt (tgt := 27) hx hb dX2_foldPart_15 (by decide) (by omega) (by omega) (fun c_4 => absurd c_4 (by omega)) (fun c_4 => ?_)
      refine lv_aload_n hx hb dX2_foldPart_18 rfl (lv_at hl 1 rfl) ?_
      refine lv_iload_n hx hb dX2_foldPart_19 rfl (lv_at hl 2 rfl) ?_
      refine lv_iload_n hx hb dX2_foldPart_20 rfl (lv_at hl 3 rfl) ?_
      refine lv_iload hx hb dX2_foldPart_21 (lv_at hl 5 rfl) ?_
      refine g_callS (As := [.ref (ad r), .int (nI a), .int (nI b), .int (nI hc)]) (rest := []) ⟨hx, hb, hml, hown, hw⟩ (mX2_foldByNumber l D cT n ad A hD G r cn f (by omega) ⟨hR1a, hR1b⟩ (by omega) a b hc (by omega) hh (by omega) (by omega)) (va_cwS 4 hw (gWS wm_X2_225 wst_X2_foldByNumber wini_X2 wc_X2_foldByNumber) rfl rfl rfl (by decide +kernel) ⟨by simp only [rmF]; omega, by simp only [rmF]; omega⟩) hK hE hA hP hS rfl hl.1 (lv_room (Nat.le_of_ble_eq_true rfl)) dX2_foldPart_23 ⟨Nat.le_of_ble_eq_true rfl, Nat.le_of_ble_eq_true rfl⟩ (fun v_6 G_5 H locs hp hP hS => ?_)
      obtain ⟨hv, hg⟩ := hp
      subst hv
      rw [hg] at hP
      refine g_retl hQ hx hb hr hlocks hP hS (⟨rfl, rfl⟩) (Nat.le_of_ble_eq_true rfl) (Nat.le_of_ble_eq_true rfl) dX2_foldPart_26
  | succ g ih =>
    intro a b d hd hab hb2
    refine Met.ofG (cc := cX2_foldPart) (maxL := 12) (ret := (some .long)) (by decide) (Nat.le_of_ble_eq_true rfl) ?_
    intro p e s m args below meth c Q hQ hx hb hr hml hlocks hown hw hP hK hE hA hS ls hl
    have hl : lv_has ls 12 [(0, .ref (ad r)), (1, .int (nI a)), (2, .int (nI b)), (3, .int (nI mo)), (4, .int (nI hc)), (5, .int (nI d))] := hl
    obtain ⟨hR1a, hR1b⟩ := id hR
    refine lv_iload_n hx hb dX2_foldPart_0 rfl (lv_at hl 2 rfl) ?_
    refine lv_iload_n hx hb dX2_foldPart_1 rfl (lv_at hl 1 rfl) ?_
    refine lv_isub hx hb dX2_foldPart_2 ?_
    refine t_eqi (nI (b - a)) (pk_sub (by omega)) ?_
    refine lv_istore (lv' := [(6, .int (nI (b - a))), (0, .ref (ad r)), (1, .int (nI a)), (2, .int (nI b)), (3, .int (nI mo)), (4, .int (nI hc)), (5, .int (nI d))]) hx hb dX2_foldPart_3 hl (by decide) rfl (fun ls hl => ?_)
    refine lv_iload hx hb dX2_foldPart_5 (lv_at hl 0 rfl) ?_
    refine lv_iload_n hx hb dX2_foldPart_7 rfl (lv_at hl 4 rfl) ?_
    refine t_icmp_le (tgt := 18) hx hb dX2_foldPart_8 (by decide) (by omega) (by omega) (fun c_1 => ?_) (fun c_1 => ?_)
    · skip
      refine lv_aload_n hx hb dX2_foldPart_18 rfl (lv_at hl 1 rfl) ?_
      refine lv_iload_n hx hb dX2_foldPart_19 rfl (lv_at hl 2 rfl) ?_
      refine lv_iload_n hx hb dX2_foldPart_20 rfl (lv_at hl 3 rfl) ?_
      refine lv_iload hx hb dX2_foldPart_21 (lv_at hl 5 rfl) ?_
      refine g_callS (As := [.ref (ad r), .int (nI a), .int (nI b), .int (nI hc)]) (rest := []) ⟨hx, hb, hml, hown, hw⟩ (mX2_foldByNumber l D cT n ad A hD G r cn f (by omega) ⟨hR1a, hR1b⟩ (by omega) a b hc (by omega) hh (by omega) (by omega)) (va_cwS 4 hw (gWS wm_X2_225 wst_X2_foldByNumber wini_X2 wc_X2_foldByNumber) rfl rfl rfl (by decide +kernel) ⟨by simp only [rmF]; omega, by simp only [rmF]; omega⟩) hK hE hA hP hS rfl hl.1 (lv_room (Nat.le_of_ble_eq_true rfl)) dX2_foldPart_23 ⟨Nat.le_of_ble_eq_true rfl, Nat.le_of_ble_eq_true rfl⟩ (fun v_3 G_2 H locs hp hP hS => ?_)
      obtain ⟨hv, hg⟩ := hp
      subst hv
      rw [hg] at hP
      refine g_retl hQ hx hb hr hlocks hP hS (⟨rfl, rfl⟩) (Nat.le_of_ble_eq_true rfl) (Nat.le_of_ble_eq_true rfl) dX2_foldPart_26
    · skip
      refine lv_iload hx hb dX2_foldPart_11 (lv_at hl 6 rfl) ?_
      refine lv_bipush (v := nI 8) hx hb dX2_foldPart_13 (by decide) ?_
      refine t_icmp_lt (tgt := 27) hx hb dX2_foldPart_15 (by decide) (by omega) (by omega) (fun c_4 => ?_) (fun c_4 => ?_)
      · skip
        refine lv_iload_n hx hb dX2_foldPart_27 rfl (lv_at hl 2 rfl) ?_
        refine lv_iload hx hb dX2_foldPart_28 (lv_at hl 0 rfl) ?_
        refine lv_iconst (v := nI 2) hx hb dX2_foldPart_30 (by decide) ?_
        refine lv_idiv hx hb dX2_foldPart_31 (nI_ne0 (by omega) (by omega)) ?_
        refine t_eqi (nI ((b - a) / 2)) (pk_div (by omega) (by omega) (by omega)) ?_
        refine lv_iadd hx hb dX2_foldPart_32 ?_
        refine t_eqi (nI (a + ((b - a) / 2))) (nI_add a ((b - a) / 2)) ?_
        refine lv_istore (lv' := [(7, .int (nI (a + ((b - a) / 2)))), (6, .int (nI (b - a))), (0, .ref (ad r)), (1, .int (nI a)), (2, .int (nI b)), (3, .int (nI mo)), (4, .int (nI hc)), (5, .int (nI d))]) hx hb dX2_foldPart_33 hl (by decide) rfl (fun ls hl => ?_)
        refine lv_aload_n hx hb dX2_foldPart_35 rfl (lv_at hl 2 rfl) ?_
        refine lv_iload_n hx hb dX2_foldPart_36 rfl (lv_at hl 3 rfl) ?_
        refine lv_iload hx hb dX2_foldPart_37 (lv_at hl 0 rfl) ?_
        refine lv_iload_n hx hb dX2_foldPart_39 rfl (lv_at hl 5 rfl) ?_
        refine lv_iload hx hb dX2_foldPart_40 (lv_at hl 6 rfl) ?_
        refine lv_iload hx hb dX2_foldPart_42 (lv_at hl 7 rfl) ?_
        refine lv_iconst (v := nI 1) hx hb dX2_foldPart_44 (by decide) ?_
        refine lv_iadd hx hb dX2_foldPart_45 ?_
        refine t_eqi (nI (d + 1)) (nI_add d 1) ?_
        refine g_callS (As := [.ref (ad r), .int (nI a), .int (nI (a + ((b - a) / 2))), .int (nI mo), .int (nI hc), .int (nI (d + 1))]) (rest := []) ⟨hx, hb, hml, hown, hw⟩ (ih a (a + ((b - a) / 2)) (d + 1) (by omega) (by omega) (by omega)) (va_cwS 6 hw (gWS wm_X2_173 wst_X2_foldPart wini_X2 wc_X2_foldPart) rfl rfl rfl (by decide +kernel) ⟨by simp only [rmF]; omega, by simp only [rmF]; omega⟩) hK hE hA hP hS rfl hl.1 (lv_room (Nat.le_of_ble_eq_true rfl)) dX2_foldPart_46 ⟨Nat.le_of_ble_eq_true rfl, Nat.le_of_ble_eq_true rfl⟩ (fun v_6 G_5 H locs hp hP hS => ?_)
        obtain ⟨hv, hg⟩ := hp
        subst hv
        rw [hg] at hP
        refine lv_lstore (lv' := [(8, .long (fbn f hc a ((a + ((b - a) / 2)) - a))), (7, .int (nI (a + ((b - a) / 2)))), (6, .int (nI (b - a))), (0, .ref (ad r)), (1, .int (nI a)), (2, .int (nI b)), (3, .int (nI mo)), (4, .int (nI hc)), (5, .int (nI d))]) hx hb dX2_foldPart_49 hl (by decide) rfl (fun ls hl => ?_)
        refine lv_aload_n hx hb dX2_foldPart_51 rfl (lv_at hl 3 rfl) ?_
        refine lv_iload hx hb dX2_foldPart_52 (lv_at hl 1 rfl) ?_
        refine lv_iload_n hx hb dX2_foldPart_54 rfl (lv_at hl 5 rfl) ?_
        refine lv_iload_n hx hb dX2_foldPart_55 rfl (lv_at hl 6 rfl) ?_
        refine lv_iload hx hb dX2_foldPart_56 (lv_at hl 7 rfl) ?_
        refine lv_iload hx hb dX2_foldPart_58 (lv_at hl 8 rfl) ?_
        refine lv_iconst (v := nI 1) hx hb dX2_foldPart_60 (by decide) ?_
        refine lv_iadd hx hb dX2_foldPart_61 ?_
        refine t_eqi (nI (d + 1)) (nI_add d 1) ?_
        refine g_callS (As := [.ref (ad r), .int (nI (a + ((b - a) / 2))), .int (nI b), .int (nI mo), .int (nI hc), .int (nI (d + 1))]) (rest := []) ⟨hx, hb, hml, hown, hw⟩ (ih (a + ((b - a) / 2)) b (d + 1) (by omega) (by omega) (by omega)) (va_cwS 6 hw (gWS wm_X2_173 wst_X2_foldPart wini_X2 wc_X2_foldPart) rfl rfl rfl (by decide +kernel) ⟨by simp only [rmF]; omega, by simp only [rmF]; omega⟩) hK hE hA hP hS rfl hl.1 (lv_room (Nat.le_of_ble_eq_true rfl)) dX2_foldPart_62 ⟨Nat.le_of_ble_eq_true rfl, Nat.le_of_ble_eq_true rfl⟩ (fun v_8 G_7 H locs hp hP hS => ?_)
        obtain ⟨hv, hg⟩ := hp
        subst hv
        rw [hg] at hP
        refine lv_lstore (lv' := [(10, .long (fbn f hc (a + ((b - a) / 2)) (b - (a + ((b - a) / 2))))), (8, .long (fbn f hc a ((a + ((b - a) / 2)) - a))), (7, .int (nI (a + ((b - a) / 2)))), (6, .int (nI (b - a))), (0, .ref (ad r)), (1, .int (nI a)), (2, .int (nI b)), (3, .int (nI mo)), (4, .int (nI hc)), (5, .int (nI d))]) hx hb dX2_foldPart_65 hl (by decide) rfl (fun ls hl => ?_)
        refine lv_aload_n hx hb dX2_foldPart_67 rfl (lv_at hl 4 rfl) ?_
        refine lv_iload hx hb dX2_foldPart_68 (lv_at hl 8 rfl) ?_
        refine lv_lload hx hb dX2_foldPart_70 (lv_at hl 1 rfl) ?_
        refine lv_lload hx hb dX2_foldPart_72 (lv_at hl 0 rfl) ?_
        refine lv_iload_n hx hb dX2_foldPart_74 rfl (lv_at hl 6 rfl) ?_
        refine lv_iload hx hb dX2_foldPart_75 (lv_at hl 2 rfl) ?_
        refine lv_isub hx hb dX2_foldPart_77 ?_
        refine t_eqi (nI (b - (a + ((b - a) / 2)))) (pk_sub (by omega)) ?_
        refine g_callS (As := [.ref (ad r), .int (nI hc), .long (fbn f hc a ((a + ((b - a) / 2)) - a)), .long (fbn f hc (a + ((b - a) / 2)) (b - (a + ((b - a) / 2)))), .int (nI (b - (a + ((b - a) / 2))))]) (rest := []) ⟨hx, hb, hml, hown, hw⟩ (mX2_join l D cT n ad A hD G r cn f (by omega) ⟨hR1a, hR1b⟩ (by omega) hc (b - (a + ((b - a) / 2))) (fbn f hc a ((a + ((b - a) / 2)) - a)) (fbn f hc (a + ((b - a) / 2)) (b - (a + ((b - a) / 2)))) (by omega) hh (fun h => by rw [h]; exact fb_plc (by omega) hcn) (fun h => by rw [h]; exact fb_plc (by omega) hcn) (by omega)) (va_cwS 5 hw (gWS wm_X2_229 wst_X2_join wini_X2 wc_X2_join) rfl rfl rfl (by decide +kernel) ⟨by simp only [rmF]; omega, by simp only [rmF]; omega⟩) hK hE hA hP hS rfl hl.1 (lv_room (Nat.le_of_ble_eq_true rfl)) dX2_foldPart_78 ⟨Nat.le_of_ble_eq_true rfl, Nat.le_of_ble_eq_true rfl⟩ (fun v_10 G_9 H locs hp hP hS => ?_)
        obtain ⟨hv, hg⟩ := hp
        subst hv
        rw [hg] at hP
        refine t_eql (fbn f hc a (b - a)) (fbn_join2 hh (by omega) (by omega) (by omega)) ?_
        refine g_retl hQ hx hb hr hlocks hP hS (⟨rfl, rfl⟩) (Nat.le_of_ble_eq_true rfl) (Nat.le_of_ble_eq_true rfl) dX2_foldPart_81
      · exfalso; omega

set_option maxHeartbeats 4000000 in
set_option maxRecDepth 100000 in
theorem mX2_countByTheorem (l : Launch) (D : va_G) (cT : Nat → ClassId) (n : Nat) (ad : Nat → Nat) (A : Nat → Prop) (hD : ∀ G, va_D A (gw n ad G)) (G : Nat → va_E) (mo : Nat) (hmo : 0 < mo) (hmo2 : mo ≤ 48) : ∀ (g k d : Nat), d + g = 8 → k ≤ 48 → Met l yX2_countByTheorem (wA yX2_countByTheorem cX2_countByTheorem 4 (some .int)) (rmF g) (PG D cT n ad A G [.int (nI k), .int (nI mo), .int (nI d)]) (QG D n ad A (fun v G1 => v = some (.int (nI (pcs mo g k))) ∧ G1 = G)) 0 0 A := by
  intro g
  induction g with
  | zero =>
    intro k d hd hk
    refine Met.ofG (cc := cX2_countByTheorem) (maxL := 4) (ret := (some .int)) (by decide) (Nat.le_of_ble_eq_true rfl) ?_
    intro p e s m args below meth c Q hQ hx hb hr hml hlocks hown hw hP hK hE hA hS ls hl
    have hl : lv_has ls 4 [(0, .int (nI k)), (1, .int (nI mo)), (2, .int (nI d))] := hl
    obtain rfl : d = 8 := by omega
    have hl : lv_has ls 4 [(0, .int (nI k)), (1, .int (nI mo)), (2, .int (nI 8))] := hl
    refine lv_iload_n hx hb dX2_countByTheorem_0 rfl (lv_at hl 0 rfl) ?_
    refine lv_iload_n hx hb dX2_countByTheorem_1 rfl (lv_at hl 1 rfl) ?_
    refine t_icmp_le (tgt := 11) hx hb dX2_countByTheorem_2 (by decide) (by omega) (by omega) (fun c_1 => ?_) (fun c_1 => ?_)
    · skip
      refine lv_iconst (v := nI 1) hx hb dX2_countByTheorem_11 (by decide) ?_
      refine g_ret hQ hx hb hr hlocks rfl hP hS (⟨rfl, rfl⟩) (Nat.le_of_ble_eq_true rfl) (Nat.le_of_ble_eq_true rfl) dX2_countByTheorem_12
    · skip
      refine lv_iload_n hx hb dX2_countByTheorem_5 rfl (lv_at hl 2 rfl) ?_
      refine lv_bipush (v := nI 8) hx hb dX2_countByTheorem_6 (by decide) ?_
      refine t_icmp_lt (tgt := 13) hx hb dX2_countByTheorem_8 (by decide) (by omega) (by omega) (fun c_2 => absurd c_2 (by omega)) (fun c_2 => ?_)
      refine lv_iconst (v := nI 1) hx hb dX2_countByTheorem_11 (by decide) ?_
      refine g_ret hQ hx hb hr hlocks rfl hP hS (⟨rfl, rfl⟩) (Nat.le_of_ble_eq_true rfl) (Nat.le_of_ble_eq_true rfl) dX2_countByTheorem_12
  | succ g ih =>
    intro k d hd hk
    refine Met.ofG (cc := cX2_countByTheorem) (maxL := 4) (ret := (some .int)) (by decide) (Nat.le_of_ble_eq_true rfl) ?_
    intro p e s m args below meth c Q hQ hx hb hr hml hlocks hown hw hP hK hE hA hS ls hl
    have hl : lv_has ls 4 [(0, .int (nI k)), (1, .int (nI mo)), (2, .int (nI d))] := hl
    refine lv_iload_n hx hb dX2_countByTheorem_0 rfl (lv_at hl 0 rfl) ?_
    refine lv_iload_n hx hb dX2_countByTheorem_1 rfl (lv_at hl 1 rfl) ?_
    refine t_icmp_le (tgt := 11) hx hb dX2_countByTheorem_2 (by decide) (by omega) (by omega) (fun c_1 => ?_) (fun c_1 => ?_)
    · skip
      refine lv_iconst (v := nI 1) hx hb dX2_countByTheorem_11 (by decide) ?_
      refine g_ret hQ hx hb hr hlocks rfl hP hS (⟨by show _ = some (Value.int (nI (if k ≤ mo then 1 else pcs mo g (k / 2) + pcs mo g (k - k / 2)))); rw [if_pos (by omega)], rfl⟩) (Nat.le_of_ble_eq_true rfl) (Nat.le_of_ble_eq_true rfl) dX2_countByTheorem_12
    · skip
      refine lv_iload_n hx hb dX2_countByTheorem_5 rfl (lv_at hl 2 rfl) ?_
      refine lv_bipush (v := nI 8) hx hb dX2_countByTheorem_6 (by decide) ?_
      refine t_icmp_lt (tgt := 13) hx hb dX2_countByTheorem_8 (by decide) (by omega) (by omega) (fun c_2 => ?_) (fun c_2 => ?_)
      · skip
        refine lv_iload_n hx hb dX2_countByTheorem_13 rfl (lv_at hl 0 rfl) ?_
        refine lv_iconst (v := nI 2) hx hb dX2_countByTheorem_14 (by decide) ?_
        refine lv_idiv hx hb dX2_countByTheorem_15 (nI_ne0 (by omega) (by omega)) ?_
        refine t_eqi (nI (k / 2)) (pk_div (by omega) (by omega) (by omega)) ?_
        refine lv_istore_n (lv' := [(3, .int (nI (k / 2))), (0, .int (nI k)), (1, .int (nI mo)), (2, .int (nI d))]) hx hb dX2_countByTheorem_16 rfl hl (by decide) rfl (fun ls hl => ?_)
        refine lv_iload_n hx hb dX2_countByTheorem_17 rfl (lv_at hl 0 rfl) ?_
        refine lv_iload_n hx hb dX2_countByTheorem_18 rfl (lv_at hl 2 rfl) ?_
        refine lv_iload_n hx hb dX2_countByTheorem_19 rfl (lv_at hl 3 rfl) ?_
        refine lv_iconst (v := nI 1) hx hb dX2_countByTheorem_20 (by decide) ?_
        refine lv_iadd hx hb dX2_countByTheorem_21 ?_
        refine t_eqi (nI (d + 1)) (nI_add d 1) ?_
        have hpl := pcs_le48 mo hmo g (k / 2)
        refine g_callS (As := [.int (nI (k / 2)), .int (nI mo), .int (nI (d + 1))]) (rest := []) ⟨hx, hb, hml, hown, hw⟩ (ih (k / 2) (d + 1) (by omega) (by omega)) (va_cwS 3 hw (gWS wm_X2_254 wst_X2_countByTheorem wini_X2 wc_X2_countByTheorem) rfl rfl rfl (by decide +kernel) ⟨by simp only [rmF]; omega, by simp only [rmF]; omega⟩) hK hE hA hP hS rfl hl.1 (lv_room (Nat.le_of_ble_eq_true rfl)) dX2_countByTheorem_22 ⟨Nat.le_of_ble_eq_true rfl, Nat.le_of_ble_eq_true rfl⟩ (fun v_4 G_3 H locs hp hP hS => ?_)
        obtain ⟨hv, hg⟩ := hp
        subst hv
        rw [hg] at hP
        refine lv_iload_n hx hb dX2_countByTheorem_25 rfl (lv_at hl 1 rfl) ?_
        refine lv_iload_n hx hb dX2_countByTheorem_26 rfl (lv_at hl 0 rfl) ?_
        refine lv_isub hx hb dX2_countByTheorem_27 ?_
        refine t_eqi (nI (k - (k / 2))) (pk_sub (by omega)) ?_
        refine lv_iload_n hx hb dX2_countByTheorem_28 rfl (lv_at hl 2 rfl) ?_
        refine lv_iload_n hx hb dX2_countByTheorem_29 rfl (lv_at hl 3 rfl) ?_
        refine lv_iconst (v := nI 1) hx hb dX2_countByTheorem_30 (by decide) ?_
        refine lv_iadd hx hb dX2_countByTheorem_31 ?_
        refine t_eqi (nI (d + 1)) (nI_add d 1) ?_
        have hpl := pcs_le48 mo hmo g (k - (k / 2))
        refine g_callS (As := [.int (nI (k - (k / 2))), .int (nI mo), .int (nI (d + 1))]) (rest := [.int (nI (pcs mo g (k / 2)))]) ⟨hx, hb, hml, hown, hw⟩ (ih (k - (k / 2)) (d + 1) (by omega) (by omega)) (va_cwS 3 hw (gWS wm_X2_254 wst_X2_countByTheorem wini_X2 wc_X2_countByTheorem) rfl rfl rfl (by decide +kernel) ⟨by simp only [rmF]; omega, by simp only [rmF]; omega⟩) hK hE hA hP hS rfl hl.1 (lv_room (Nat.le_of_ble_eq_true rfl)) dX2_countByTheorem_32 ⟨Nat.le_of_ble_eq_true rfl, Nat.le_of_ble_eq_true rfl⟩ (fun v_6 G_5 H locs hp hP hS => ?_)
        obtain ⟨hv, hg⟩ := hp
        subst hv
        rw [hg] at hP
        refine lv_iadd hx hb dX2_countByTheorem_35 ?_
        refine t_eqi (nI ((pcs mo g (k / 2)) + (pcs mo g (k - (k / 2))))) (nI_add (pcs mo g (k / 2)) (pcs mo g (k - (k / 2)))) ?_
        refine g_ret hQ hx hb hr hlocks rfl hP hS (⟨by show _ = some (Value.int (nI (if k ≤ mo then 1 else pcs mo g (k / 2) + pcs mo g (k - k / 2)))); rw [if_neg (by omega)], rfl⟩) (Nat.le_of_ble_eq_true rfl) (Nat.le_of_ble_eq_true rfl) dX2_countByTheorem_36
      · exfalso; omega

set_option maxHeartbeats 4000000 in
set_option maxRecDepth 100000 in
theorem mX2_countBySplitting (l : Launch) (D : va_G) (cT : Nat → ClassId) (n : Nat) (ad : Nat → Nat) (A : Nat → Prop) (hD : ∀ G, va_D A (gw n ad G)) (G : Nat → va_E) (σ : TY) (hY : YW cT ad G σ) (hn : 69 ≤ n) (hI : YI σ) (j mo : Nat) (hj : j < 12) (hmo : 1 ≤ mo) (hmo2 : mo ≤ 48) : Met l yX2_countBySplitting (wA yX2_countBySplitting cX2_countBySplitting 3 (some .int)) ({ frames := 4, cells := 0, slots := 0, locals := 111 } : Room) (PG D cT n ad A G [.ref (ad 0), .ref (ad (9 + 2 * j)), .int (nI mo)]) (QG D n ad A (fun v G1 => v = some (.int (nI (pcs mo 8 (σ.1 j).1))) ∧ YW cT ad G1 σ ∧ ∀ j9, (j9 < 3 ∨ 3 + 6 ≤ j9) → G1 j9 = G j9)) 0 0 A := by
  refine Met.ofG (cc := cX2_countBySplitting) (maxL := 3) (ret := (some .int)) (by decide) (Nat.le_of_ble_eq_true rfl) ?_
  intro p e s m args below meth c Q hQ hx hb hr hml hlocks hown hw hP hK hE hA hS ls hl
  have hl : lv_has ls 3 [(0, .ref (ad 0)), (1, .ref (ad (9 + 2 * j))), (2, .int (nI mo))] := hl
  obtain ⟨hy0, hy1, hy2⟩ := hY.1
  obtain ⟨szs, cns, bxs, pts, w, nu, ne, en, ⟨hB, hB1, hB2, hB3, hB4, hB5, hB6, hB7, hB8⟩⟩ := hY.2.2.2
  obtain ⟨hR1a, hR1b⟩ := hY.2.1 j hj
  have hrc := hI.1 j hj
  refine lv_aload_n hx hb dX2_countBySplitting_0 rfl (lv_at hl 0 rfl) ?_
  refine g_get (C := RX2) (T := TX2) (N := 3) hx hb hw inX2 hown hK hP (i := 0) (by omega) hy0 rfl 2 (by decide) (hw _ wf_X2_26) rfl dX2_countBySplitting_1 ?_
  refine lv_aload_n hx hb dX2_countBySplitting_4 rfl (lv_at hl 1 rfl) ?_
  refine lv_iconst (v := nI 0) hx hb dX2_countBySplitting_5 (by decide) ?_
  refine lv_aload_n hx hb dX2_countBySplitting_6 rfl (lv_at hl 1 rfl) ?_
  refine g_getN (C := RX1) (T := TX1) (N := 2) hx hb hw inX1 hown hK hP (i := (9 + 2 * j)) (by omega) hR1a rfl 1 (by decide) (hE.2.2.1 (55, "Splityard$Row", "count", "I") (by decide +kernel)) rfl dX2_countBySplitting_7 ?_
  refine lv_iconst (v := nI 0) hx hb dX2_countBySplitting_10 (by decide) ?_
  refine g_callV (As := [.ref (ad (9 + 2 * j)), .int (nI 0), .int (nI ((σ.1 j).1)), .int (nI 0)]) (rest := []) ⟨hx, hb, hml, hown, hw⟩ (mX0_start l D cT n ad A hD G 3 szs cns bxs pts w nu ne en (by omega) ⟨hB, hB1, hB2, hB3, hB4, hB5, hB6, hB7, hB8⟩ (9 + 2 * j) ((σ.1 j).1) ((σ.1 j).2) (by omega) (by omega) ⟨hR1a, hR1b⟩ 0 ((σ.1 j).1) 0 (by omega) (by omega) (by omega) (by omega)) (cwV 4 hw (gWV wm_X2_82 wi_X0_start wse_X0_start wini_X0 wc_X0_start) rfl rfl rfl (by decide +kernel) ⟨Nat.le_of_ble_eq_true rfl, Nat.le_of_ble_eq_true rfl⟩) hK hE hA hP hS (k := 3) (by omega) hB rfl rfl hl.1 (lv_room (Nat.le_of_ble_eq_true rfl)) dX2_countBySplitting_11 ⟨Nat.le_of_ble_eq_true rfl, Nat.le_of_ble_eq_true rfl⟩ (fun v_2 G_1 H locs hp hP hS => ?_)
  obtain ⟨hv, hf_3, hr_4⟩ := hp
  subst hv
  have hc_5 : G_1 0 = .inr (4, [.ref (ad 1), .ref (ad 2), .ref (ad 3)]) := (hf_3 _ (by omega)).trans hy0
  have hc_6 : G_1 1 = aQ (cT 5) 12 (rQ ad) := (hf_3 _ (by omega)).trans hy1
  have hc_7 : G_1 2 = aQ (cT 6) 6 (bQ ad) := (hf_3 _ (by omega)).trans hy2
  have hc_8 : G_1 (9 + 2 * j) = .inr (3, [.ref (ad (9 + 2 * j + 1)), .int (nI ((σ.1 j).1))]) := (hf_3 _ (by omega)).trans hR1a
  have hc_9 : G_1 (9 + 2 * j + 1) = aJ cT 48 ((σ.1 j).2) := (hf_3 _ (by omega)).trans hR1b
  obtain ⟨p9, w9, nu9, ne9, en9, ⟨hC, hC1, hC2, hC3, hC4, hC5, hC6, hC7, hC8⟩, hCL⟩ := id hr_4
  refine lv_aload_n hx hb dX2_countBySplitting_14 rfl (lv_at hl 0 rfl) ?_
  refine g_get (C := RX2) (T := TX2) (N := 3) hx hb hw inX2 hown hK hP (i := 0) (by omega) hc_5 rfl 2 (by decide) (hw _ wf_X2_26) rfl dX2_countBySplitting_15 ?_
  refine lv_iload_n hx hb dX2_countBySplitting_18 rfl (lv_at hl 2 rfl) ?_
  refine g_callV (As := [.int (nI mo)]) (rest := []) ⟨hx, hb, hml, hown, hw⟩ (mX0_halveAll l D cT n ad A hD G_1 3 (((σ.1 j).1) - 0) 1 0 (fun j8 => ((σ.1 j).2) (0 + j8)) (fun _ => 112) (fun _ => ((σ.1 j).1) - 0) (by omega) hr_4 (BI_open (by omega)) mo (by omega) (by omega)) (cwV 1 hw (gWV wm_X2_153 wi_X0_halveAll wse_X0_halveAll wini_X0 wc_X0_halveAll) rfl rfl rfl (by decide +kernel) ⟨Nat.le_of_ble_eq_true rfl, Nat.le_of_ble_eq_true rfl⟩) hK hE hA hP hS (k := 3) (by omega) hC rfl rfl hl.1 (lv_room (Nat.le_of_ble_eq_true rfl)) dX2_countBySplitting_19 ⟨Nat.le_of_ble_eq_true rfl, Nat.le_of_ble_eq_true rfl⟩ (fun v_11 G_10 H locs hp hP hS => ?_)
  obtain ⟨hv, hf_12, hr_13⟩ := hp
  subst hv
  have hc_14 : G_10 0 = .inr (4, [.ref (ad 1), .ref (ad 2), .ref (ad 3)]) := (hf_12 _ (by omega)).trans hc_5
  have hc_15 : G_10 1 = aQ (cT 5) 12 (rQ ad) := (hf_12 _ (by omega)).trans hc_6
  have hc_16 : G_10 2 = aQ (cT 6) 6 (bQ ad) := (hf_12 _ (by omega)).trans hc_7
  have hc_17 : G_10 (9 + 2 * j) = .inr (3, [.ref (ad (9 + 2 * j + 1)), .int (nI ((σ.1 j).1))]) := (hf_12 _ (by omega)).trans hc_8
  have hc_18 : G_10 (9 + 2 * j + 1) = aJ cT 48 ((σ.1 j).2) := (hf_12 _ (by omega)).trans hc_9
  obtain ⟨pu_19, wu_19, nuu_19, neu_19, enu_19, ⟨hz_20, hz_21, hz_22, hz_23, hz_24, hz_25, hz_26, hz_27, hz_28⟩, hz_29⟩ := id hr_13
  refine lv_pop hx hb dX2_countBySplitting_22 rfl ?_
  refine lv_aload_n hx hb dX2_countBySplitting_23 rfl (lv_at hl 0 rfl) ?_
  refine g_get (C := RX2) (T := TX2) (N := 3) hx hb hw inX2 hown hK hP (i := 0) (by omega) hc_14 rfl 2 (by decide) (hw _ wf_X2_26) rfl dX2_countBySplitting_24 ?_
  refine g_getN (C := RX0) (T := TX0) (N := 8) hx hb hw inX0 hown hK hP (i := 3) (by omega) hz_20 rfl 7 (by decide) (hE.2.2.1 (89, "Splityard$Bench", "count", "I") (by decide +kernel)) rfl dX2_countBySplitting_27 ?_
  refine t_eqi (nI (pcs mo 8 (σ.1 j).1)) (congrArg nI (by rw [Nat.sub_zero]; exact crum_one (by omega) hrc)) ?_
  refine g_ret hQ hx hb hr hlocks rfl hP hS (⟨rfl, YW.spare hY (fun j9 hj => (hf_12 j9 (by omega)).trans (hf_3 j9 (by omega))) hr_13, fun j9 hj => (hf_12 j9 (by omega)).trans (hf_3 j9 (by omega))⟩) (Nat.le_of_ble_eq_true rfl) (Nat.le_of_ble_eq_true rfl) dX2_countBySplitting_30

set_option maxHeartbeats 4000000 in
set_option maxRecDepth 100000 in
theorem mX2_pieces (l : Launch) (hl9 : l.stackTraces = false) (D : va_G) (cT : Nat → ClassId) (n : Nat) (ad : Nat → Nat) (A : Nat → Prop) (hD : ∀ G, va_D A (gw n ad G)) (G : Nat → va_E) (σ : TY) (hY : YW cT ad G σ) (hn : 69 ≤ n) (hI : YI σ) (ch : Nat) (hch : ch < 65536) (x y : Int32) : vx_Met l yX2_pieces (wA yX2_pieces cX2_pieces 4 (some .int)) ({ frames := 7, cells := 2, slots := 12, locals := 133 } : Room) (PG D cT n ad A G [.ref (ad 0), .int (nI ch), .int x, .int y]) (QG D n ad A (fun v G1 => (∃ mo, 1 ≤ mo ∧ mo ≤ 48 ∧ y = nI mo ∧ onR ch x (fun r => v = some (.int (nI (pcs mo 8 (σ.1 r).1))) ∧ YW cT ad G1 σ)) ∧ ∀ j, 69 ≤ j → G1 j = G j)) (XG D n ad A G (fun E => (mBad y ∧ E = xIA) ∨ (∃ mo, 1 ≤ mo ∧ mo ≤ 48 ∧ y = nI mo ∧ pxRow ch x E))) 2 12 A := by
  refine vx_ofG (cc := cX2_pieces) (maxL := 4) (ret := (some .int)) (by decide) (Nat.le_of_ble_eq_true rfl) ?_
  intro p e s m args below meth c Q hQ hX ht hx hb hr hml hlocks hown hw hP hK hE hA hS ls hl
  have hl : lv_has ls 4 [(0, .ref (ad 0)), (1, .int (nI ch)), (2, .int x), (3, .int y)] := hl
  obtain ⟨hy0, hy1, hy2⟩ := hY.1
  refine lv_iload_n hx hb dX2_pieces_0 rfl (lv_at hl 3 rfl) ?_
  refine g_callSX (As := [.int y]) (rest := []) ⟨hx, hb, hml, hown, hw⟩ (mX2_requirePieceSize l hl9 D cT n ad A hD G y) (va_cwS 1 hw (gWS wm_X2_149 wst_X2_requirePieceSize wini_X2 wc_X2_requirePieceSize) rfl rfl rfl (by decide +kernel) ⟨Nat.le_of_ble_eq_true rfl, Nat.le_of_ble_eq_true rfl⟩) hK hE hA hP hS rfl hl.1 (lv_room (Nat.le_of_ble_eq_true rfl)) dX2_pieces_1 ⟨Nat.le_of_ble_eq_true rfl, Nat.le_of_ble_eq_true rfl⟩ (fun E ce q9 H locs hpx hP hS hce hcv hcl => g_out hX ht hlocks hP hS (Or.inl hpx) hce hcv hcl (Nat.le_of_ble_eq_true rfl) (Nat.le_of_ble_eq_true rfl)) (fun v_2 G_1 H locs hp hP hS => ?_)
  obtain ⟨⟨mo, hm1, hm48, hym⟩, hv, hg⟩ := hp
  subst hv
  rw [hg] at hP
  subst hym
  refine lv_aload_n hx hb dX2_pieces_4 rfl (lv_at hl 0 rfl) ?_
  refine lv_aload_n hx hb dX2_pieces_5 rfl (lv_at hl 0 rfl) ?_
  refine lv_iload_n hx hb dX2_pieces_6 rfl (lv_at hl 1 rfl) ?_
  refine lv_iload_n hx hb dX2_pieces_7 rfl (lv_at hl 2 rfl) ?_
  refine g_callVX (As := [.int (nI ch), .int x]) (rest := [.ref (ad 0)]) ⟨hx, hb, hml, hown, hw⟩ (mX2_rowOf l hl9 D cT n ad A hD G σ hY hn ch (by omega) x) (cwV 2 hw (gWV wm_X2_42 wi_X2_rowOf wse_X2_rowOf wini_X2 wc_X2_rowOf) rfl rfl rfl (by decide +kernel) ⟨Nat.le_of_ble_eq_true rfl, Nat.le_of_ble_eq_true rfl⟩) hK hE hA hP hS (k := 0) (by omega) hy0 rfl rfl hl.1 (lv_room (Nat.le_of_ble_eq_true rfl)) dX2_pieces_8 ⟨Nat.le_of_ble_eq_true rfl, Nat.le_of_ble_eq_true rfl⟩ (fun E ce q9 H locs hpx hP hS hce hcv hcl => g_out hX ht hlocks hP hS (Or.inr ⟨mo, hm1, hm48, rfl, hpx⟩) hce hcv hcl (Nat.le_of_ble_eq_true rfl) (Nat.le_of_ble_eq_true rfl)) (fun v_4 G_3 H locs hp hP hS => ?_)
  obtain ⟨⟨q, j, hq, hj, hkd, hxj, hv⟩, hg⟩ := hp
  subst hv
  rw [hg] at hP
  subst hxj
  have hrr := hY.2.1 (4 * q + j) (by omega)
  have hrc := hI.1 (4 * q + j) (by omega)
  obtain ⟨hR1a, hR1b⟩ := id hrr
  refine lv_iload_n hx hb dX2_pieces_11 rfl (lv_at hl 3 rfl) ?_
  refine g_callV (As := [.ref (ad (9 + 2 * (4 * q + j))), .int (nI mo)]) (rest := []) ⟨hx, hb, hml, hown, hw⟩ (mX2_countBySplitting l D cT n ad A hD G σ hY hn hI (4 * q + j) mo (by omega) (by omega) (by omega)) (cwV 2 hw (gWV wm_X2_177 wi_X2_countBySplitting wse_X2_countBySplitting wini_X2 wc_X2_countBySplitting) rfl rfl rfl (by decide +kernel) ⟨Nat.le_of_ble_eq_true rfl, Nat.le_of_ble_eq_true rfl⟩) hK hE hA hP hS (k := 0) (by omega) hy0 rfl rfl hl.1 (lv_room (Nat.le_of_ble_eq_true rfl)) dX2_pieces_12 ⟨Nat.le_of_ble_eq_true rfl, Nat.le_of_ble_eq_true rfl⟩ (fun v_6 G_5 H locs hp hP hS => ?_)
  obtain ⟨hv, hY_7, hf_8⟩ := hp
  subst hv
  have hc_9 : G_5 0 = .inr (4, [.ref (ad 1), .ref (ad 2), .ref (ad 3)]) := (hf_8 _ (by omega)).trans hy0
  have hc_10 : G_5 1 = aQ (cT 5) 12 (rQ ad) := (hf_8 _ (by omega)).trans hy1
  have hc_11 : G_5 2 = aQ (cT 6) 6 (bQ ad) := (hf_8 _ (by omega)).trans hy2
  have hc_12 : G_5 (9 + 2 * (4 * q + j)) = .inr (3, [.ref (ad (9 + 2 * (4 * q + j) + 1)), .int (nI ((σ.1 (4 * q + j)).1))]) := (hf_8 _ (by omega)).trans hR1a
  have hc_13 : G_5 (9 + 2 * (4 * q + j) + 1) = aJ cT 48 ((σ.1 (4 * q + j)).2) := (hf_8 _ (by omega)).trans hR1b
  refine g_ret hQ hx hb hr hlocks rfl hP hS (⟨⟨mo, hm1, hm48, rfl, ⟨q, j, hq, hj, hkd, rfl, rfl, hY_7⟩⟩, fun j9 hj => hf_8 j9 (by omega)⟩) (Nat.le_of_ble_eq_true rfl) (Nat.le_of_ble_eq_true rfl) dX2_pieces_15

set_option maxHeartbeats 4000000 in
set_option maxRecDepth 100000 in
theorem mX2_fold (l : Launch) (hl9 : l.stackTraces = false) (D : va_G) (cT : Nat → ClassId) (n : Nat) (ad : Nat → Nat) (A : Nat → Prop) (hD : ∀ G, va_D A (gw n ad G)) (G : Nat → va_E) (σ : TY) (hY : YW cT ad G σ) (hn : 69 ≤ n) (hI : YI σ) (ch hc : Nat) (hch : ch < 65536) (hhc : hc < 65536) (x y : Int32) : vx_Met l yX2_fold (wA yX2_fold cX2_fold 6 (some .long)) ({ frames := 19, cells := 2, slots := 12, locals := 551 } : Room) (PG D cT n ad A G [.ref (ad 0), .int (nI ch), .int x, .int y, .int (nI hc)]) (QG D n ad A (fun v G1 => (∃ mo, 1 ≤ mo ∧ mo ≤ 48 ∧ y = nI mo ∧ hwx hc ≠ 4 ∧ onR ch x (fun r => v = some (.long (fbn (σ.1 r).2 hc 0 ((σ.1 r).1 - 0))))) ∧ G1 = G)) (XG D n ad A G (fun E => (mBad y ∧ E = xIA) ∨ (∃ mo, 1 ≤ mo ∧ mo ≤ 48 ∧ y = nI mo ∧ ((hwx hc = 4 ∧ E = xIA) ∨ (hwx hc ≠ 4 ∧ pxRow ch x E))))) 2 12 A := by
  refine vx_ofG (cc := cX2_fold) (maxL := 6) (ret := (some .long)) (by decide) (Nat.le_of_ble_eq_true rfl) ?_
  intro p e s m args below meth c Q hQ hX ht hx hb hr hml hlocks hown hw hP hK hE hA hS ls hl
  have hl : lv_has ls 6 [(0, .ref (ad 0)), (1, .int (nI ch)), (2, .int x), (3, .int y), (4, .int (nI hc))] := hl
  obtain ⟨hy0, hy1, hy2⟩ := hY.1
  obtain ⟨tHO, hZHO, hTHO⟩ := hE.1.2.2.2.1
  refine lv_iload_n hx hb dX2_fold_0 rfl (lv_at hl 3 rfl) ?_
  refine g_callSX (As := [.int y]) (rest := []) ⟨hx, hb, hml, hown, hw⟩ (mX2_requirePieceSize l hl9 D cT n ad A hD G y) (va_cwS 1 hw (gWS wm_X2_149 wst_X2_requirePieceSize wini_X2 wc_X2_requirePieceSize) rfl rfl rfl (by decide +kernel) ⟨Nat.le_of_ble_eq_true rfl, Nat.le_of_ble_eq_true rfl⟩) hK hE hA hP hS rfl hl.1 (lv_room (Nat.le_of_ble_eq_true rfl)) dX2_fold_1 ⟨Nat.le_of_ble_eq_true rfl, Nat.le_of_ble_eq_true rfl⟩ (fun E ce q9 H locs hpx hP hS hce hcv hcl => g_out hX ht hlocks hP hS (Or.inl hpx) hce hcv hcl (Nat.le_of_ble_eq_true rfl) (Nat.le_of_ble_eq_true rfl)) (fun v_2 G_1 H locs hp hP hS => ?_)
  obtain ⟨⟨mo, hm1, hm48, hym⟩, hv, hg⟩ := hp
  subst hv
  rw [hg] at hP
  subst hym
  refine va_gets hx hb hZHO hS hown (hw _ wf_X2_164) (fun _ h9 => h9) dX2_fold_4 ?_
  refine lv_iload hx hb dX2_fold_7 (lv_at hl 4 rfl) ?_
  refine g_callST (As := [.ref tHO, .int (nI hc)]) (rest := []) ⟨hx, hb, hml, hown, hw⟩ (mX2_indexIn4 l D cT n ad A hD G tHO hc (by omega)) (va_cwS 2 hw (gWS wm_X2_167 wst_X2_indexIn wini_X2 wc_X2_indexIn) rfl rfl rfl (by decide +kernel) ⟨Nat.le_of_ble_eq_true rfl, Nat.le_of_ble_eq_true rfl⟩) hK hE hA hP hS hTHO rfl hl.1 (lv_room (Nat.le_of_ble_eq_true rfl)) dX2_fold_9 ⟨Nat.le_of_ble_eq_true rfl, Nat.le_of_ble_eq_true rfl⟩ (fun v_4 G_3 H locs hp hP hS => ?_)
  obtain ⟨hv, hg⟩ := hp
  subst hv
  rw [hg] at hP
  have hwl := hwx_le hc
  by_cases hk4 : hwx hc = 4
  · skip
    refine t_eqi (-1) (by rw [if_pos hk4]) ?_
    refine lv_if_ge (tgt := 25) hx hb dX2_fold_12 (by decide) (fun h9 => absurd h9 (by decide)) (fun _ => ?_)
    refine g_throwS (text := "nothing such to reckon") hX ht hx hb hl9 hown hlocks hw hE hP hS (hl.1.trans hml.symm) (by decide +kernel) (by decide +kernel) at_IA wcl_X2_35 wini_java_lang_IllegalArgumentException (by decide +kernel) (Or.inr ⟨mo, hm1, hm48, rfl, Or.inl ⟨hk4, rfl⟩⟩) dX2_fold_15 dX2_fold_18 dX2_fold_19 dX2_fold_21 dX2_fold_24 (Nat.le_of_ble_eq_true rfl) (Nat.le_of_ble_eq_true rfl) (Nat.le_of_ble_eq_true rfl) (Nat.le_of_ble_eq_true rfl) (Nat.le_of_ble_eq_true rfl) (Nat.le_of_ble_eq_true rfl)
  · skip
    have hh := hwx_lt hk4
    refine t_eqi (nI (hwx hc)) (by rw [if_neg hk4]) ?_
    refine t_if_ge (tgt := 25) hx hb dX2_fold_12 (by decide) (by omega) ?_
    refine lv_aload_n hx hb dX2_fold_25 rfl (lv_at hl 0 rfl) ?_
    refine lv_iload_n hx hb dX2_fold_26 rfl (lv_at hl 1 rfl) ?_
    refine lv_iload_n hx hb dX2_fold_27 rfl (lv_at hl 2 rfl) ?_
    refine g_callVX (As := [.int (nI ch), .int x]) (rest := []) ⟨hx, hb, hml, hown, hw⟩ (mX2_rowOf l hl9 D cT n ad A hD G σ hY hn ch (by omega) x) (cwV 2 hw (gWV wm_X2_42 wi_X2_rowOf wse_X2_rowOf wini_X2 wc_X2_rowOf) rfl rfl rfl (by decide +kernel) ⟨Nat.le_of_ble_eq_true rfl, Nat.le_of_ble_eq_true rfl⟩) hK hE hA hP hS (k := 0) (by omega) hy0 rfl rfl hl.1 (lv_room (Nat.le_of_ble_eq_true rfl)) dX2_fold_28 ⟨Nat.le_of_ble_eq_true rfl, Nat.le_of_ble_eq_true rfl⟩ (fun E ce q9 H locs hpx hP hS hce hcv hcl => g_out hX ht hlocks hP hS (Or.inr ⟨mo, hm1, hm48, rfl, Or.inr ⟨hk4, hpx⟩⟩) hce hcv hcl (Nat.le_of_ble_eq_true rfl) (Nat.le_of_ble_eq_true rfl)) (fun v_6 G_5 H locs hp hP hS => ?_)
    obtain ⟨⟨q, j, hq, hj, hkd, hxj, hv⟩, hg⟩ := hp
    subst hv
    rw [hg] at hP
    subst hxj
    have hrr := hY.2.1 (4 * q + j) (by omega)
    have hrc := hI.1 (4 * q + j) (by omega)
    obtain ⟨hR1a, hR1b⟩ := id hrr
    refine lv_astore (lv' := [(5, .ref (ad (9 + 2 * (4 * q + j)))), (0, .ref (ad 0)), (1, .int (nI ch)), (2, .int (nI j)), (3, .int (nI mo)), (4, .int (nI hc))]) hx hb dX2_fold_31 hl (by decide) rfl (fun ls hl => ?_)
    refine lv_aload hx hb dX2_fold_33 (lv_at hl 0 rfl) ?_
    refine lv_iconst (v := nI 0) hx hb dX2_fold_35 (by decide) ?_
    refine lv_aload hx hb dX2_fold_36 (lv_at hl 0 rfl) ?_
    refine g_getN (C := RX1) (T := TX1) (N := 2) hx hb hw inX1 hown hK hP (i := (9 + 2 * (4 * q + j))) (by omega) hR1a rfl 1 (by decide) (hE.2.2.1 (55, "Splityard$Row", "count", "I") (by decide +kernel)) rfl dX2_fold_38 ?_
    refine lv_iload_n hx hb dX2_fold_41 rfl (lv_at hl 4 rfl) ?_
    refine lv_iload hx hb dX2_fold_42 (lv_at hl 5 rfl) ?_
    refine lv_iconst (v := nI 0) hx hb dX2_fold_44 (by decide) ?_
    refine g_callS (As := [.ref (ad (9 + 2 * (4 * q + j))), .int (nI 0), .int (nI ((σ.1 (4 * q + j)).1)), .int (nI mo), .int (nI hc), .int (nI 0)]) (rest := []) ⟨hx, hb, hml, hown, hw⟩ (mX2_foldPart l D cT n ad A hD G (9 + 2 * (4 * q + j)) ((σ.1 (4 * q + j)).1) ((σ.1 (4 * q + j)).2) (by omega) ⟨hR1a, hR1b⟩ (by omega) mo hc (by omega) (by omega) hh 8 0 ((σ.1 (4 * q + j)).1) 0 rfl (by omega) (by omega)) (va_cwS 6 hw (gWS wm_X2_173 wst_X2_foldPart wini_X2 wc_X2_foldPart) rfl rfl rfl (by decide +kernel) ⟨Nat.le_of_ble_eq_true rfl, Nat.le_of_ble_eq_true rfl⟩) hK hE hA hP hS rfl hl.1 (lv_room (Nat.le_of_ble_eq_true rfl)) dX2_fold_45 ⟨Nat.le_of_ble_eq_true rfl, Nat.le_of_ble_eq_true rfl⟩ (fun v_8 G_7 H locs hp hP hS => ?_)
    obtain ⟨hv, hg⟩ := hp
    subst hv
    rw [hg] at hP
    refine g_retl hQ hx hb hr hlocks hP hS (⟨⟨mo, hm1, hm48, rfl, hk4, ⟨q, j, hq, hj, hkd, rfl, rfl⟩⟩, rfl⟩) (Nat.le_of_ble_eq_true rfl) (Nat.le_of_ble_eq_true rfl) dX2_fold_48
