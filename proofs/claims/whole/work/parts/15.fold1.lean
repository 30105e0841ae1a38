set_option maxHeartbeats 4000000 in
set_option maxRecDepth 100000 in
theorem mX2_foldNext (l : Launch) (D : va_G) (cT : Nat → ClassId) (n : Nat) (ad : Nat → Nat) (A : Nat → Prop) (hD : ∀ G, va_D A (gw n ad G)) (G : Nat → va_E) (r cn : Nat) (f : Nat → Int64) (hrn : r + 2 ≤ n) (hR : RR cT ad G r cn f) (hcn : cn ≤ 48) (hc k : Nat) (z : Int64) (hhc : hc < 65536) (hh : hc = 115 ∨ hc = 120 ∨ hc = 104 ∨ hc = 102) (hz : hc = 102 → plc cn z) (hk : k < cn) : Met l yX2_foldNext (wA yX2_foldNext cX2_foldNext 7 (some .long)) ({ frames := 1, cells := 0, slots := 0, locals := 21 } : Room) (PG D cT n ad A G [.ref (ad r), .int (nI hc), .long z, .int (nI k)]) (QG D n ad A (fun v G1 => v = some (.long (fnx f hc z k)) ∧ G1 = G)) 0 0 A := by
  refine Met.ofG (cc := cX2_foldNext) (maxL := 7) (ret := (some .long)) (by decide) (Nat.le_of_ble_eq_true rfl) ?_
  intro p e s m args below meth c Q hQ hx hb hr hml hlocks hown hw hP hK hE hA hS ls hl
  have hl : lv_has ls 7 [(0, .ref (ad r)), (1, .int (nI hc)), (2, .long z), (4, .int (nI k))] := hl
  obtain ⟨hR1a, hR1b⟩ := hR
  refine lv_aload_n hx hb dX2_foldNext_0 rfl (lv_at hl 0 rfl) ?_
  refine lv_iload hx hb dX2_foldNext_1 (lv_at hl 3 rfl) ?_
  refine g_callV (As := [.int (nI k)]) (rest := []) ⟨hx, hb, hml, hown, hw⟩ (mX1_at l D cT n ad A hD G r cn f (by omega) ⟨hR1a, hR1b⟩ k (by omega) (by omega)) (cwV 1 hw (gWV wm_X2_72 wi_X1_at wse_X1_at wini_X1 wc_X1_at) rfl rfl rfl (by decide +kernel) ⟨Nat.le_of_ble_eq_true rfl, Nat.le_of_ble_eq_true rfl⟩) hK hE hA hP hS (k := r) (by omega) hR1a rfl rfl hl.1 (lv_room (Nat.le_of_ble_eq_true rfl)) dX2_foldNext_3 ⟨Nat.le_of_ble_eq_true rfl, Nat.le_of_ble_eq_true rfl⟩ (fun v_2 G_1 H locs hp hP hS => ?_)
  obtain ⟨hv, hg⟩ := hp
  subst hv
  rw [hg] at hP
  refine lv_lstore (lv' := [(5, .long (f k)), (0, .ref (ad r)), (1, .int (nI hc)), (2, .long z), (4, .int (nI k))]) hx hb dX2_foldNext_6 hl (by decide) rfl (fun ls hl => ?_)
  refine lv_iload_n hx hb dX2_foldNext_8 rfl (lv_at hl 2 rfl) ?_
  by_cases hc104 : hc = 104
  · subst hc104
    refine lv_lookup (off := 45) (tgt := 54) hx hb dX2_foldNext_9 (by decide) (by decide) (by decide) ?_
    refine lv_ldc2 hx hb hown (hw _ wk_X2_239) dX2_foldNext_54 ?_
    refine lv_lload_n hx hb dX2_foldNext_57 rfl (lv_at hl 3 rfl) ?_
    refine lv_lmul hx hb dX2_foldNext_58 ?_
    refine lv_lload hx hb dX2_foldNext_59 (lv_at hl 0 rfl) ?_
    refine lv_ladd hx hb dX2_foldNext_61 ?_
    refine g_retl hQ hx hb hr hlocks hP hS (⟨by unfold fnx; rw [if_neg (by decide), if_neg (by decide), if_pos rfl], rfl⟩) (Nat.le_of_ble_eq_true rfl) (Nat.le_of_ble_eq_true rfl) dX2_foldNext_62
  by_cases hc115 : hc = 115
  · subst hc115
    refine lv_lookup (off := 35) (tgt := 44) hx hb dX2_foldNext_9 (by decide) (by decide) (by decide) ?_
    refine lv_lload_n hx hb dX2_foldNext_44 rfl (lv_at hl 3 rfl) ?_
    refine lv_lload hx hb dX2_foldNext_45 (lv_at hl 0 rfl) ?_
    refine lv_ladd hx hb dX2_foldNext_47 ?_
    refine g_retl hQ hx hb hr hlocks hP hS (⟨by unfold fnx; rw [if_pos rfl], rfl⟩) (Nat.le_of_ble_eq_true rfl) (Nat.le_of_ble_eq_true rfl) dX2_foldNext_48
  by_cases hc120 : hc = 120
  · subst hc120
    refine lv_lookup (off := 40) (tgt := 49) hx hb dX2_foldNext_9 (by decide) (by decide) (by decide) ?_
    refine lv_lload_n hx hb dX2_foldNext_49 rfl (lv_at hl 3 rfl) ?_
    refine lv_lload hx hb dX2_foldNext_50 (lv_at hl 0 rfl) ?_
    refine lv_lxor hx hb dX2_foldNext_52 ?_
    refine g_retl hQ hx hb hr hlocks hP hS (⟨by unfold fnx; rw [if_neg (by decide), if_pos rfl], rfl⟩) (Nat.le_of_ble_eq_true rfl) (Nat.le_of_ble_eq_true rfl) dX2_foldNext_53
  obtain rfl : hc = 102 := by omega
  refine lv_lookup (off := 54) (tgt := 63) hx hb dX2_foldNext_9 (by decide) (by decide) (by decide) ?_
  rcases hz rfl with hzm | ⟨t, ht, hzt⟩
  · subst hzm
    refine lv_lload_n hx hb dX2_foldNext_63 rfl (lv_at hl 3 rfl) ?_
    refine lv_lconst (v := 0) hx hb dX2_foldNext_64 (by decide) ?_
    refine W.lcmp hx hb dX2_foldNext_65 ?_
    refine lv_if_lt (tgt := 81) hx hb dX2_foldNext_66 (by decide) (fun c_3 => ?_) (fun c_3 => ?_)
    · skip
      refine lv_iload hx hb dX2_foldNext_81 (lv_at hl 4 rfl) ?_
      refine lv_i2l hx hb dX2_foldNext_83 rfl ?_
      refine t_eql (lN k) (nI_l (by omega)) ?_
      refine lv_goto (tgt := 88) hx hb dX2_foldNext_84 (by decide) ?_
      refine g_retl hQ hx hb hr hlocks hP hS (⟨by rw [fnx_f, if_pos (by decide)], rfl⟩) (Nat.le_of_ble_eq_true rfl) (Nat.le_of_ble_eq_true rfl) dX2_foldNext_88
    · skip
      exact absurd ((lg_cmp_lt _ _).mpr (by decide)) c_3
  · subst hzt
    refine lv_lload_n hx hb dX2_foldNext_63 rfl (lv_at hl 3 rfl) ?_
    refine lv_lconst (v := 0) hx hb dX2_foldNext_64 (by decide) ?_
    refine W.lcmp hx hb dX2_foldNext_65 ?_
    refine lv_if_lt (tgt := 81) hx hb dX2_foldNext_66 (by decide) (fun c_4 => ?_) (fun c_4 => ?_)
    · skip
      exact absurd ((lg_cmp_lt _ _).mp c_4) (lN_nneg (by omega))
    · skip
      refine lv_lload hx hb dX2_foldNext_69 (lv_at hl 0 rfl) ?_
      refine lv_aload_n hx hb dX2_foldNext_71 rfl (lv_at hl 1 rfl) ?_
      refine lv_lload_n hx hb dX2_foldNext_72 rfl (lv_at hl 3 rfl) ?_
      refine lv_l2i hx hb dX2_foldNext_73 rfl ?_
      refine t_eqi (nI t) (lN_i t) ?_
      refine g_callV (As := [.int (nI t)]) (rest := [.long (f k)]) ⟨hx, hb, hml, hown, hw⟩ (mX1_at l D cT n ad A hD G r cn f (by omega) ⟨hR1a, hR1b⟩ t (by omega) (by omega)) (cwV 1 hw (gWV wm_X2_72 wi_X1_at wse_X1_at wini_X1 wc_X1_at) rfl rfl rfl (by decide +kernel) ⟨Nat.le_of_ble_eq_true rfl, Nat.le_of_ble_eq_true rfl⟩) hK hE hA hP hS (k := r) (by omega) hR1a rfl rfl hl.1 (lv_room (Nat.le_of_ble_eq_true rfl)) dX2_foldNext_74 ⟨Nat.le_of_ble_eq_true rfl, Nat.le_of_ble_eq_true rfl⟩ (fun v_6 G_5 H locs hp hP hS => ?_)
      obtain ⟨hv, hg⟩ := hp
      subst hv
      rw [hg] at hP
      refine W.lcmp hx hb dX2_foldNext_77 ?_
      refine lv_if_le (tgt := 87) hx hb dX2_foldNext_78 (by decide) (fun c_7 => ?_) (fun c_7 => ?_)
      · skip
        refine lv_lload_n hx hb dX2_foldNext_87 rfl (lv_at hl 3 rfl) ?_
        refine g_retl hQ hx hb hr hlocks hP hS (⟨by rw [fnx_f, if_neg (lN_nneg (by omega)), lN_nat (by omega), if_neg (fun q => absurd ((lg_cmp_le _ _).mp c_7) (Int64.not_le.mpr q))], rfl⟩) (Nat.le_of_ble_eq_true rfl) (Nat.le_of_ble_eq_true rfl) dX2_foldNext_88
      · skip
        refine lv_iload hx hb dX2_foldNext_81 (lv_at hl 4 rfl) ?_
        refine lv_i2l hx hb dX2_foldNext_83 rfl ?_
        refine t_eql (lN k) (nI_l (by omega)) ?_
        refine lv_goto (tgt := 88) hx hb dX2_foldNext_84 (by decide) ?_
        refine g_retl hQ hx hb hr hlocks hP hS (⟨by rw [fnx_f, if_neg (lN_nneg (by omega)), lN_nat (by omega), if_pos (Int64.not_le.mp (fun q => c_7 ((lg_cmp_le _ _).mpr q)))], rfl⟩) (Nat.le_of_ble_eq_true rfl) (Nat.le_of_ble_eq_true rfl) dX2_foldNext_88

set_option maxHeartbeats 4000000 in
set_option maxRecDepth 100000 in
theorem mX2_foldByNumber (l : Launch) (D : va_G) (cT : Nat → ClassId) (n : Nat) (ad : Nat → Nat) (A : Nat → Prop) (hD : ∀ G, va_D A (gw n ad G)) (G : Nat → va_E) (r cn : Nat) (f : Nat → Int64) (hrn : r + 2 ≤ n) (hR : RR cT ad G r cn f) (hcn : cn ≤ 48) (a b hc : Nat) (hhc : hc < 65536) (hh : hc = 115 ∨ hc = 120 ∨ hc = 104 ∨ hc = 102) (hab : a ≤ b) (hb2 : b ≤ cn) : Met l yX2_foldByNumber (wA yX2_foldByNumber cX2_foldByNumber 7 (some .long)) ({ frames := 2, cells := 0, slots := 0, locals := 47 } : Room) (PG D cT n ad A G [.ref (ad r), .int (nI a), .int (nI b), .int (nI hc)]) (QG D n ad A (fun v G1 => v = some (.long (fbn f hc a (b - a))) ∧ G1 = G)) 0 0 A := by
  refine Met.ofG (cc := cX2_foldByNumber) (maxL := 7) (ret := (some .long)) (by decide) (Nat.le_of_ble_eq_true rfl) ?_
  intro p e s m args below meth c Q hQ hx hb hr hml hlocks hown hw hP hK hE hA hS ls hl
  have hl : lv_has ls 7 [(0, .ref (ad r)), (1, .int (nI a)), (2, .int (nI b)), (3, .int (nI hc))] := hl
  obtain ⟨hR1a, hR1b⟩ := hR
  refine lv_iload_n hx hb dX2_foldByNumber_0 rfl (lv_at hl 3 rfl) ?_
  refine lv_bipush (v := nI 102) hx hb dX2_foldByNumber_1 (by decide) ?_
  refine t_icmp_ne (tgt := 12) hx hb dX2_foldByNumber_3 (by decide) (by omega) (by omega) (fun c_1 => ?_) (fun c_1 => ?_)
  · skip
    refine lv_lconst (v := 0) hx hb dX2_foldByNumber_12 (by decide) ?_
    refine t_eql (fbn f hc a 0) (by show _ = (if hc = 102 then (-1 : Int64) else 0); rw [if_neg (by omega)]) ?_
    refine lv_lstore (lv' := [(4, .long (fbn f hc a 0)), (0, .ref (ad r)), (1, .int (nI a)), (2, .int (nI b)), (3, .int (nI hc))]) hx hb dX2_foldByNumber_13 hl (by decide) rfl (fun ls hl => ?_)
    refine lv_iload_n hx hb dX2_foldByNumber_15 rfl (lv_at hl 2 rfl) ?_
    refine lv_istore (lv' := [(6, .int (nI a)), (4, .long (fbn f hc a 0)), (0, .ref (ad r)), (1, .int (nI a)), (2, .int (nI b)), (3, .int (nI hc))]) hx hb dX2_foldByNumber_16 hl (by decide) rfl (fun ls hl => ?_)
    have key_2 : ∀ (fu : Nat) (i : Nat), (i ≤ b - a) → (b - a - i) < fu → ∀ (H : Heap) (locs : List Loc), va_P D vwCl (gw n ad G) H → va_S A s.heap H locs → ∀ ls : Array Slot, lv_has ls 7 [(6, .int (nI (a + i))), (4, .long (fbn f hc a i)), (3, .int (nI hc)), (2, .int (nI b)), (1, .int (nI a)), (0, .ref (ad r))] → W p l e ({ frames := 2, cells := 0, slots := 0, locals := 47 } : Room) s m args below meth c H locs 0 0 Q (F0 m 18 ls []) := by
      intro fu_3
      induction fu_3 with
      | zero => intros; exfalso; omega
      | succ fu_3 ih_4 =>
        intro i hi hfu_5 H locs hP hS ls hl
        refine lv_iload hx hb dX2_foldByNumber_18 (lv_at hl 0 rfl) ?_
        refine lv_iload_n hx hb dX2_foldByNumber_20 rfl (lv_at hl 3 rfl) ?_
        refine t_icmp_ge (tgt := 41) hx hb dX2_foldByNumber_21 (by decide) (by omega) (by omega) (fun c_6 => ?_) (fun c_6 => ?_)
        · skip
          refine lv_lload hx hb dX2_foldByNumber_41 (lv_at hl 1 rfl) ?_
          refine g_retl hQ hx hb hr hlocks hP hS (⟨by rw [show i = b - a by omega], rfl⟩) (Nat.le_of_ble_eq_true rfl) (Nat.le_of_ble_eq_true rfl) dX2_foldByNumber_43
        · skip
          refine lv_aload_n hx hb dX2_foldByNumber_24 rfl (lv_at hl 5 rfl) ?_
          refine lv_iload_n hx hb dX2_foldByNumber_25 rfl (lv_at hl 2 rfl) ?_
          refine lv_lload hx hb dX2_foldByNumber_26 (lv_at hl 1 rfl) ?_
          refine lv_iload hx hb dX2_foldByNumber_28 (lv_at hl 0 rfl) ?_
          refine g_callS (As := [.ref (ad r), .int (nI hc), .long (fbn f hc a i), .int (nI (a + i))]) (rest := []) ⟨hx, hb, hml, hown, hw⟩ (mX2_foldNext l D cT n ad A hD G r cn f (by omega) ⟨hR1a, hR1b⟩ (by omega) hc (a + i) (fbn f hc a i) (by omega) hh (fun h => by rw [h]; exact fb_plc (by omega) hcn) (by omega)) (va_cwS 4 hw (gWS wm_X2_235 wst_X2_foldNext wini_X2 wc_X2_foldNext) rfl rfl rfl (by decide +kernel) ⟨Nat.le_of_ble_eq_true rfl, Nat.le_of_ble_eq_true rfl⟩) hK hE hA hP hS rfl hl.1 (lv_room (Nat.le_of_ble_eq_true rfl)) dX2_foldByNumber_30 ⟨Nat.le_of_ble_eq_true rfl, Nat.le_of_ble_eq_true rfl⟩ (fun v_8 G_7 H locs hp hP hS => ?_)
          obtain ⟨hv, hg⟩ := hp
          subst hv
          rw [hg] at hP
          refine lv_lstore (lv' := [(4, .long (fnx f hc (fbn f hc a i) (a + i))), (6, .int (nI (a + i))), (3, .int (nI hc)), (2, .int (nI b)), (1, .int (nI a)), (0, .ref (ad r))]) hx hb dX2_foldByNumber_33 hl (by decide) rfl (fun ls hl => ?_)
          refine lv_iinc (v := nI (a + i + 1)) (lv' := [(6, .int (nI (a + i + 1))), (4, .long (fnx f hc (fbn f hc a i) (a + i))), (3, .int (nI hc)), (2, .int (nI b)), (1, .int (nI a)), (0, .ref (ad r))]) hx hb dX2_foldByNumber_35 hl (k := 1) rfl (by exact nI_add (a + i) 1) (by decide) rfl (fun ls hl => ?_)
          refine lv_goto (tgt := 18) hx hb dX2_foldByNumber_38 (by decide) ?_
          exact ih_4 (i + 1) (by omega) (by omega) _ _ hP hS ls (lv_sub hl [0, 1, 2, 3, 4, 5] rfl)
    exact key_2 _ 0 (by omega) (Nat.lt_succ_self _) _ _ hP hS ls (lv_sub hl [0, 1, 5, 4, 3, 2] rfl)
  · skip
    refine lv_ldc2 hx hb hown (hw _ wk_X2_233) dX2_foldByNumber_6 ?_
    refine lv_goto (tgt := 13) hx hb dX2_foldByNumber_9 (by decide) ?_
    refine t_eql (fbn f hc a 0) (by show _ = (if hc = 102 then (-1 : Int64) else 0); rw [if_pos (by omega)]) ?_
    refine lv_lstore (lv' := [(4, .long (fbn f hc a 0)), (0, .ref (ad r)), (1, .int (nI a)), (2, .int (nI b)), (3, .int (nI hc))]) hx hb dX2_foldByNumber_13 hl (by decide) rfl (fun ls hl => ?_)
    refine lv_iload_n hx hb dX2_foldByNumber_15 rfl (lv_at hl 2 rfl) ?_
    refine lv_istore (lv' := [(6, .int (nI a)), (4, .long (fbn f hc a 0)), (0, .ref (ad r)), (1, .int (nI a)), (2, .int (nI b)), (3, .int (nI hc))]) hx hb dX2_foldByNumber_16 hl (by decide) rfl (fun ls hl => ?_)
    have key_9 : ∀ (fu : Nat) (i : Nat), (i ≤ b - a) → (b - a - i) < fu → ∀ (H : Heap) (locs : List Loc), va_P D vwCl (gw n ad G) H → va_S A s.heap H locs → ∀ ls : Array Slot, lv_has ls 7 [(6, .int (nI (a + i))), (4, .long (fbn f hc a i)), (3, .int (nI hc)), (2, .int (nI b)), (1, .int (nI a)), (0, .ref (ad r))] → W p l e ({ frames := 2, cells := 0, slots := 0, locals := 47 } : Room) s m args below meth c H locs 0 0 Q (F0 m 18 ls []) := by
      intro fu_10
      induction fu_10 with
      | zero => intros; exfalso; omega
      | succ fu_10 ih_11 =>
        intro i hi hfu_12 H locs hP hS ls hl
        refine lv_iload hx hb dX2_foldByNumber_18 (lv_at hl 0 rfl) ?_
        refine lv_iload_n hx hb dX2_foldByNumber_20 rfl (lv_at hl 3 rfl) ?_
        refine t_icmp_ge (tgt := 41) hx hb dX2_foldByNumber_21 (by decide) (by omega) (by omega) (fun c_13 => ?_) (fun c_13 => ?_)
        · skip
          refine lv_lload hx hb dX2_foldByNumber_41 (lv_at hl 1 rfl) ?_
          refine g_retl hQ hx hb hr hlocks hP hS (⟨by rw [show i = b - a by omega], rfl⟩) (Nat.le_of_ble_eq_true rfl) (Nat.le_of_ble_eq_true rfl) dX2_foldByNumber_43
        · skip
          refine lv_aload_n hx hb dX2_foldByNumber_24 rfl (lv_at hl 5 rfl) ?_
          refine lv_iload_n hx hb dX2_foldByNumber_25 rfl (lv_at hl 2 rfl) ?_
          refine lv_lload hx hb dX2_foldByNumber_26 (lv_at hl 1 rfl) ?_
          refine lv_iload hx hb dX2_foldByNumber_28 (lv_at hl 0 rfl) ?_
          refine g_callS (As := [.ref (ad r), .int (nI hc), .long (fbn f hc a i), .int (nI (a + i))]) (rest := []) ⟨hx, hb, hml, hown, hw⟩ (mX2_foldNext l D cT n ad A hD G r cn f (by omega) ⟨hR1a, hR1b⟩ (by omega) hc (a + i) (fbn f hc a i) (by omega) hh (fun h => by rw [h]; exact fb_plc (by omega) hcn) (by omega)) (va_cwS 4 hw (gWS wm_X2_235 wst_X2_foldNext wini_X2 wc_X2_foldNext) rfl rfl rfl (by decide +kernel) ⟨Nat.le_of_ble_eq_true rfl, Nat.le_of_ble_eq_true rfl⟩) hK hE hA hP hS rfl hl.1 (lv_room (Nat.le_of_ble_eq_true rfl)) dX2_foldByNumber_30 ⟨Nat.le_of_ble_eq_true rfl, Nat.le_of_ble_eq_true rfl⟩ (fun v_15 G_14 H locs hp hP hS => ?_)
          obtain ⟨hv, hg⟩ := hp
          subst hv
          rw [hg] at hP
          refine lv_lstore (lv' := [(4, .long (fnx f hc (fbn f hc a i) (a + i))), (6, .int (nI (a + i))), (3, .int (nI hc)), (2, .int (nI b)), (1, .int (nI a)), (0, .ref (ad r))]) hx hb dX2_foldByNumber_33 hl (by decide) rfl (fun ls hl => ?_)
          refine lv_iinc (v := nI (a + i + 1)) (lv' := [(6, .int (nI (a + i + 1))), (4, .long (fnx f hc (fbn f hc a i) (a + i))), (3, .int (nI hc)), (2, .int (nI b)), (1, .int (nI a)), (0, .ref (ad r))]) hx hb dX2_foldByNumber_35 hl (k := 1) rfl (by exact nI_add (a + i) 1) (by decide) rfl (fun ls hl => ?_)
          refine lv_goto (tgt := 18) hx hb dX2_foldByNumber_38 (by decide) ?_
          exact ih_11 (i + 1) (by omega) (by omega) _ _ hP hS ls (lv_sub hl [0, 1, 2, 3, 4, 5] rfl)
    exact key_9 _ 0 (by omega) (Nat.lt_succ_self _) _ _ hP hS ls (lv_sub hl [0, 1, 5, 4, 3, 2] rfl)

set_option maxHeartbeats 4000000 in
set_option maxRecDepth 100000 in
theorem mX2_powerOf31 (l : Launch) (D : va_G) (cT : Nat → ClassId) (n : Nat) (ad : Nat → Nat) (A : Nat → Prop) (hD : ∀ G, va_D A (gw n ad G)) (G : Nat → va_E) (k : Nat) (hk : k ≤ 48) : Met l yX2_powerOf31 (wA yX2_powerOf31 cX2_powerOf31 4 (some .long)) ({ frames := 0, cells := 0, slots := 0, locals := 0 } : Room) (PG D cT n ad A G [.int (nI k)]) (QG D n ad A (fun v G1 => v = some (.long (p31 k)) ∧ G1 = G)) 0 0 A := by
  refine Met.ofG (cc := cX2_powerOf31) (maxL := 4) (ret := (some .long)) (by decide) (Nat.le_of_ble_eq_true rfl) ?_
  intro p e s m args below meth c Q hQ hx hb hr hml hlocks hown hw hP hK hE hA hS ls hl
  have hl : lv_has ls 4 [(0, .int (nI k))] := hl
  refine lv_lconst (v := 1) hx hb dX2_powerOf31_0 (by decide) ?_
  refine lv_lstore_n (lv' := [(1, .long 1), (0, .int (nI k))]) hx hb dX2_powerOf31_1 rfl hl (by decide) rfl (fun ls hl => ?_)
  refine lv_iconst (v := nI 0) hx hb dX2_powerOf31_2 (by decide) ?_
  refine lv_istore_n (lv' := [(3, .int (nI 0)), (1, .long 1), (0, .int (nI k))]) hx hb dX2_powerOf31_3 rfl hl (by decide) rfl (fun ls hl => ?_)
  have key_1 : ∀ (fu : Nat) (i : Nat), (i ≤ k) → (k - i) < fu → ∀ (H : Heap) (locs : List Loc), va_P D vwCl (gw n ad G) H → va_S A s.heap H locs → ∀ ls : Array Slot, lv_has ls 4 [(3, .int (nI i)), (1, .long (p31 i)), (0, .int (nI k))] → W p l e ({ frames := 0, cells := 0, slots := 0, locals := 0 } : Room) s m args below meth c H locs 0 0 Q (F0 m 4 ls []) := by
    intro fu_2
    induction fu_2 with
    | zero => intros; exfalso; omega
    | succ fu_2 ih_3 =>
      intro i hi hfu_4 H locs hP hS ls hl
      refine lv_iload_n hx hb dX2_powerOf31_4 rfl (lv_at hl 0 rfl) ?_
      refine lv_iload_n hx hb dX2_powerOf31_5 rfl (lv_at hl 2 rfl) ?_
      refine t_icmp_ge (tgt := 21) hx hb dX2_powerOf31_6 (by decide) (by omega) (by omega) (fun c_5 => ?_) (fun c_5 => ?_)
      · skip
        refine lv_lload_n hx hb dX2_powerOf31_21 rfl (lv_at hl 1 rfl) ?_
        refine g_retl hQ hx hb hr hlocks hP hS (⟨by rw [show i = k by omega], rfl⟩) (Nat.le_of_ble_eq_true rfl) (Nat.le_of_ble_eq_true rfl) dX2_powerOf31_22
      · skip
        refine lv_lload_n hx hb dX2_powerOf31_9 rfl (lv_at hl 1 rfl) ?_
        refine lv_ldc2 hx hb hown (hw _ wk_X2_239) dX2_powerOf31_10 ?_
        refine lv_lmul hx hb dX2_powerOf31_13 ?_
        refine lv_lstore_n (lv' := [(1, .long ((p31 i) * 31)), (3, .int (nI i)), (0, .int (nI k))]) hx hb dX2_powerOf31_14 rfl hl (by decide) rfl (fun ls hl => ?_)
        refine lv_iinc (v := nI (i + 1)) (lv' := [(3, .int (nI (i + 1))), (1, .long ((p31 i) * 31)), (0, .int (nI k))]) hx hb dX2_powerOf31_15 hl (k := 1) rfl (by exact nI_add i 1) (by decide) rfl (fun ls hl => ?_)
        refine lv_goto (tgt := 4) hx hb dX2_powerOf31_18 (by decide) ?_
        exact ih_3 (i + 1) (by omega) (by omega) _ _ hP hS ls (lv_sub hl [0, 1, 2] rfl)
  exact key_1 _ 0 (by omega) (Nat.lt_succ_self _) _ _ hP hS ls (lv_sub hl [0, 1, 2] rfl)

set_option maxHeartbeats 4000000 in
set_option maxRecDepth 100000 in
theorem mX2_greaterPlace (l : Launch) (D : va_G) (cT : Nat → ClassId) (n : Nat) (ad : Nat → Nat) (A : Nat → Prop) (hD : ∀ G, va_D A (gw n ad G)) (G : Nat → va_E) (r cn : Nat) (f : Nat → Int64) (hrn : r + 2 ≤ n) (hR : RR cT ad G r cn f) (hcn : cn ≤ 48) (x y : Int64) (hzx : plc cn x) (hzy : plc cn y) : Met l yX2_greaterPlace (wA yX2_greaterPlace cX2_greaterPlace 5 (some .long)) ({ frames := 1, cells := 0, slots := 0, locals := 40 } : Room) (PG D cT n ad A G [.ref (ad r), .long x, .long y]) (QG D n ad A (fun v G1 => v = some (.long (fgp f x y)) ∧ G1 = G)) 0 0 A := by
  refine Met.ofG (cc := cX2_greaterPlace) (maxL := 5) (ret := (some .long)) (by decide) (Nat.le_of_ble_eq_true rfl) ?_
  intro p e s m args below meth c Q hQ hx hb hr hml hlocks hown hw hP hK hE hA hS ls hl
  have hl : lv_has ls 5 [(0, .ref (ad r)), (1, .long x), (3, .long y)] := hl
  obtain ⟨hR1a, hR1b⟩ := hR
  rcases hzx with hzm | ⟨t, ht, hzt⟩
  · subst hzm
    refine lv_lload_n hx hb dX2_greaterPlace_0 rfl (lv_at hl 1 rfl) ?_
    refine lv_lconst (v := 0) hx hb dX2_greaterPlace_1 (by decide) ?_
    refine W.lcmp hx hb dX2_greaterPlace_2 ?_
    refine lv_if_lt (tgt := 12) hx hb dX2_greaterPlace_3 (by decide) (fun c_1 => ?_) (fun c_1 => ?_)
    · skip
      refine lv_lload_n hx hb dX2_greaterPlace_12 rfl (lv_at hl 1 rfl) ?_
      refine lv_lload_n hx hb dX2_greaterPlace_13 rfl (lv_at hl 2 rfl) ?_
      refine va_mmax_long hx hb (hml.trans hl.1.symm) hown (hw _ wm_X2_248) (hw _ wst_J9_max_f86c9) (hw _ wini_J9) (hw _ wc_J9_max_f86c9) (Nat.le_of_ble_eq_true rfl) (Nat.le_of_ble_eq_true rfl) (Nat.zero_le _) (Nat.zero_le _) dX2_greaterPlace_14 ?_
      refine g_retl hQ hx hb hr hlocks hP hS (⟨by unfold fgp; rw [if_pos (Or.inl (by decide))], rfl⟩) (Nat.le_of_ble_eq_true rfl) (Nat.le_of_ble_eq_true rfl) dX2_greaterPlace_17
    · skip
      exact absurd ((lg_cmp_lt _ _).mpr (by decide)) c_1
  · subst hzt
    rcases hzy with hym | ⟨u, hu, hyu⟩
    · subst hym
      refine lv_lload_n hx hb dX2_greaterPlace_0 rfl (lv_at hl 1 rfl) ?_
      refine lv_lconst (v := 0) hx hb dX2_greaterPlace_1 (by decide) ?_
      refine W.lcmp hx hb dX2_greaterPlace_2 ?_
      refine lv_if_lt (tgt := 12) hx hb dX2_greaterPlace_3 (by decide) (fun c_2 => ?_) (fun c_2 => ?_)
      · skip
        exact absurd ((lg_cmp_lt _ _).mp c_2) (lN_nneg (by omega))
      · skip
        refine lv_lload_n hx hb dX2_greaterPlace_6 rfl (lv_at hl 2 rfl) ?_
        refine lv_lconst (v := 0) hx hb dX2_greaterPlace_7 (by decide) ?_
        refine W.lcmp hx hb dX2_greaterPlace_8 ?_
        refine lv_if_ge (tgt := 18) hx hb dX2_greaterPlace_9 (by decide) (fun c_3 => ?_) (fun c_3 => ?_)
        · skip
          exact absurd ((lg_cmp_ge _ _).mp c_3) (by decide)
        · skip
          refine lv_lload_n hx hb dX2_greaterPlace_12 rfl (lv_at hl 1 rfl) ?_
          refine lv_lload_n hx hb dX2_greaterPlace_13 rfl (lv_at hl 2 rfl) ?_
          refine va_mmax_long hx hb (hml.trans hl.1.symm) hown (hw _ wm_X2_248) (hw _ wst_J9_max_f86c9) (hw _ wini_J9) (hw _ wc_J9_max_f86c9) (Nat.le_of_ble_eq_true rfl) (Nat.le_of_ble_eq_true rfl) (Nat.zero_le _) (Nat.zero_le _) dX2_greaterPlace_14 ?_
          refine g_retl hQ hx hb hr hlocks hP hS (⟨by unfold fgp; rw [if_pos (Or.inr (by decide))], rfl⟩) (Nat.le_of_ble_eq_true rfl) (Nat.le_of_ble_eq_true rfl) dX2_greaterPlace_17
    · subst hyu
      refine lv_lload_n hx hb dX2_greaterPlace_0 rfl (lv_at hl 1 rfl) ?_
      refine lv_lconst (v := 0) hx hb dX2_greaterPlace_1 (by decide) ?_
      refine W.lcmp hx hb dX2_greaterPlace_2 ?_
      refine lv_if_lt (tgt := 12) hx hb dX2_greaterPlace_3 (by decide) (fun c_4 => ?_) (fun c_4 => ?_)
      · skip
        exact absurd ((lg_cmp_lt _ _).mp c_4) (lN_nneg (by omega))
      · skip
        refine lv_lload_n hx hb dX2_greaterPlace_6 rfl (lv_at hl 2 rfl) ?_
        refine lv_lconst (v := 0) hx hb dX2_greaterPlace_7 (by decide) ?_
        refine W.lcmp hx hb dX2_greaterPlace_8 ?_
        refine lv_if_ge (tgt := 18) hx hb dX2_greaterPlace_9 (by decide) (fun c_5 => ?_) (fun c_5 => ?_)
        · skip
          refine lv_aload_n hx hb dX2_greaterPlace_18 rfl (lv_at hl 0 rfl) ?_
          refine lv_lload_n hx hb dX2_greaterPlace_19 rfl (lv_at hl 2 rfl) ?_
          refine lv_l2i hx hb dX2_greaterPlace_20 rfl ?_
          refine t_eqi (nI u) (lN_i u) ?_
          refine g_callV (As := [.int (nI u)]) (rest := []) ⟨hx, hb, hml, hown, hw⟩ (mX1_at l D cT n ad A hD G r cn f (by omega) ⟨hR1a, hR1b⟩ u (by omega) (by omega)) (cwV 1 hw (gWV wm_X2_72 wi_X1_at wse_X1_at wini_X1 wc_X1_at) rfl rfl rfl (by decide +kernel) ⟨Nat.le_of_ble_eq_true rfl, Nat.le_of_ble_eq_true rfl⟩) hK hE hA hP hS (k := r) (by omega) hR1a rfl rfl hl.1 (lv_room (Nat.le_of_ble_eq_true rfl)) dX2_greaterPlace_21 ⟨Nat.le_of_ble_eq_true rfl, Nat.le_of_ble_eq_true rfl⟩ (fun v_7 G_6 H locs hp hP hS => ?_)
          obtain ⟨hv, hg⟩ := hp
          subst hv
          rw [hg] at hP
          refine lv_aload_n hx hb dX2_greaterPlace_24 rfl (lv_at hl 0 rfl) ?_
          refine lv_lload_n hx hb dX2_greaterPlace_25 rfl (lv_at hl 1 rfl) ?_
          refine lv_l2i hx hb dX2_greaterPlace_26 rfl ?_
          refine t_eqi (nI t) (lN_i t) ?_
          refine g_callV (As := [.int (nI t)]) (rest := [.long (f u)]) ⟨hx, hb, hml, hown, hw⟩ (mX1_at l D cT n ad A hD G r cn f (by omega) ⟨hR1a, hR1b⟩ t (by omega) (by omega)) (cwV 1 hw (gWV wm_X2_72 wi_X1_at wse_X1_at wini_X1 wc_X1_at) rfl rfl rfl (by decide +kernel) ⟨Nat.le_of_ble_eq_true rfl, Nat.le_of_ble_eq_true rfl⟩) hK hE hA hP hS (k := r) (by omega) hR1a rfl rfl hl.1 (lv_room (Nat.le_of_ble_eq_true rfl)) dX2_greaterPlace_27 ⟨Nat.le_of_ble_eq_true rfl, Nat.le_of_ble_eq_true rfl⟩ (fun v_9 G_8 H locs hp hP hS => ?_)
          obtain ⟨hv, hg⟩ := hp
          subst hv
          rw [hg] at hP
          refine W.lcmp hx hb dX2_greaterPlace_30 ?_
          refine lv_if_le (tgt := 38) hx hb dX2_greaterPlace_31 (by decide) (fun c_10 => ?_) (fun c_10 => ?_)
          · skip
            refine lv_lload_n hx hb dX2_greaterPlace_38 rfl (lv_at hl 1 rfl) ?_
            refine g_retl hQ hx hb hr hlocks hP hS (⟨by rw [fgp_ff (by omega) (by omega), if_neg (fun q => absurd ((lg_cmp_le _ _).mp c_10) (Int64.not_le.mpr q))], rfl⟩) (Nat.le_of_ble_eq_true rfl) (Nat.le_of_ble_eq_true rfl) dX2_greaterPlace_39
          · skip
            refine lv_lload_n hx hb dX2_greaterPlace_34 rfl (lv_at hl 2 rfl) ?_
            refine lv_goto (tgt := 39) hx hb dX2_greaterPlace_35 (by decide) ?_
            refine g_retl hQ hx hb hr hlocks hP hS (⟨by rw [fgp_ff (by omega) (by omega), if_pos (Int64.not_le.mp (fun q => c_10 ((lg_cmp_le _ _).mpr q)))], rfl⟩) (Nat.le_of_ble_eq_true rfl) (Nat.le_of_ble_eq_true rfl) dX2_greaterPlace_39
        · skip
          exact absurd ((lg_cmp_ge _ _).mpr (Int64.not_lt.mp (lN_nneg (by omega)))) c_5

set_option maxHeartbeats 4000000 in
set_option maxRecDepth 100000 in
theorem mX2_join (l : Launch) (D : va_G) (cT : Nat → ClassId) (n : Nat) (ad : Nat → Nat) (A : Nat → Prop) (hD : ∀ G, va_D A (gw n ad G)) (G : Nat → va_E) (r cn : Nat) (f : Nat → Int64) (hrn : r + 2 ≤ n) (hR : RR cT ad G r cn f) (hcn : cn ≤ 48) (hc k : Nat) (x y : Int64) (hhc : hc < 65536) (hh : hc = 115 ∨ hc = 120 ∨ hc = 104 ∨ hc = 102) (hzx : hc = 102 → plc cn x) (hzy : hc = 102 → plc cn y) (hk : k ≤ 48) : Met l yX2_join (wA yX2_join cX2_join 7 (some .long)) ({ frames := 2, cells := 0, slots := 0, locals := 64 } : Room) (PG D cT n ad A G [.ref (ad r), .int (nI hc), .long x, .long y, .int (nI k)]) (QG D n ad A (fun v G1 => v = some (.long (fjo f hc x y k)) ∧ G1 = G)) 0 0 A := by
  refine Met.ofG (cc := cX2_join) (maxL := 7) (ret := (some .long)) (by decide) (Nat.le_of_ble_eq_true rfl) ?_
  intro p e s m args below meth c Q hQ hx hb hr hml hlocks hown hw hP hK hE hA hS ls hl
  have hl : lv_has ls 7 [(0, .ref (ad r)), (1, .int (nI hc)), (2, .long x), (4, .long y), (6, .int (nI k))] := hl
  obtain ⟨hR1a, hR1b⟩ := hR
  refine lv_iload_n hx hb dX2_join_0 rfl (lv_at hl 1 rfl) ?_
  by_cases hc104 : hc = 104
  · subst hc104
    refine lv_lookup (off := 45) (tgt := 46) hx hb dX2_join_1 (by decide) (by decide) (by decide) ?_
    refine lv_lload_n hx hb dX2_join_46 rfl (lv_at hl 2 rfl) ?_
    refine lv_iload hx hb dX2_join_47 (lv_at hl 4 rfl) ?_
    refine g_callS (As := [.int (nI k)]) (rest := [.long x]) ⟨hx, hb, hml, hown, hw⟩ (mX2_powerOf31 l D cT n ad A hD G k (by omega)) (va_cwS 1 hw (gWS wm_X2_241 wst_X2_powerOf31 wini_X2 wc_X2_powerOf31) rfl rfl rfl (by decide +kernel) ⟨Nat.le_of_ble_eq_true rfl, Nat.le_of_ble_eq_true rfl⟩) hK hE hA hP hS rfl hl.1 (lv_room (Nat.le_of_ble_eq_true rfl)) dX2_join_49 ⟨Nat.le_of_ble_eq_true rfl, Nat.le_of_ble_eq_true rfl⟩ (fun v_2 G_1 H locs hp hP hS => ?_)
    obtain ⟨hv, hg⟩ := hp
    subst hv
    rw [hg] at hP
    refine lv_lmul hx hb dX2_join_52 ?_
    refine lv_lload hx hb dX2_join_53 (lv_at hl 3 rfl) ?_
    refine lv_ladd hx hb dX2_join_55 ?_
    refine g_retl hQ hx hb hr hlocks hP hS (⟨by unfold fjo; rw [if_neg (by decide), if_neg (by decide), if_pos rfl], rfl⟩) (Nat.le_of_ble_eq_true rfl) (Nat.le_of_ble_eq_true rfl) dX2_join_56
  by_cases hc115 : hc = 115
  · subst hc115
    refine lv_lookup (off := 35) (tgt := 36) hx hb dX2_join_1 (by decide) (by decide) (by decide) ?_
    refine lv_lload_n hx hb dX2_join_36 rfl (lv_at hl 2 rfl) ?_
    refine lv_lload hx hb dX2_join_37 (lv_at hl 3 rfl) ?_
    refine lv_ladd hx hb dX2_join_39 ?_
    refine g_retl hQ hx hb hr hlocks hP hS (⟨by unfold fjo; rw [if_pos rfl], rfl⟩) (Nat.le_of_ble_eq_true rfl) (Nat.le_of_ble_eq_true rfl) dX2_join_40
  by_cases hc120 : hc = 120
  · subst hc120
    refine lv_lookup (off := 40) (tgt := 41) hx hb dX2_join_1 (by decide) (by decide) (by decide) ?_
    refine lv_lload_n hx hb dX2_join_41 rfl (lv_at hl 2 rfl) ?_
    refine lv_lload hx hb dX2_join_42 (lv_at hl 3 rfl) ?_
    refine lv_lxor hx hb dX2_join_44 ?_
    refine g_retl hQ hx hb hr hlocks hP hS (⟨by unfold fjo; rw [if_neg (by decide), if_pos rfl], rfl⟩) (Nat.le_of_ble_eq_true rfl) (Nat.le_of_ble_eq_true rfl) dX2_join_45
  obtain rfl : hc = 102 := by omega
  refine lv_lookup (off := 56) (tgt := 57) hx hb dX2_join_1 (by decide) (by decide) (by decide) ?_
  refine lv_aload_n hx hb dX2_join_57 rfl (lv_at hl 0 rfl) ?_
  refine lv_lload_n hx hb dX2_join_58 rfl (lv_at hl 2 rfl) ?_
  refine lv_lload hx hb dX2_join_59 (lv_at hl 3 rfl) ?_
  refine g_callS (As := [.ref (ad r), .long x, .long y]) (rest := []) ⟨hx, hb, hml, hown, hw⟩ (mX2_greaterPlace l D cT n ad A hD G r cn f (by omega) ⟨hR1a, hR1b⟩ (by omega) x y (hzx rfl) (hzy rfl)) (va_cwS 3 hw (gWS wm_X2_244 wst_X2_greaterPlace wini_X2 wc_X2_greaterPlace) rfl rfl rfl (by decide +kernel) ⟨Nat.le_of_ble_eq_true rfl, Nat.le_of_ble_eq_true rfl⟩) hK hE hA hP hS rfl hl.1 (lv_room (Nat.le_of_ble_eq_true rfl)) dX2_join_61 ⟨Nat.le_of_ble_eq_true rfl, Nat.le_of_ble_eq_true rfl⟩ (fun v_4 G_3 H locs hp hP hS => ?_)
  obtain ⟨hv, hg⟩ := hp
  subst hv
  rw [hg] at hP
  refine g_retl hQ hx hb hr hlocks hP hS (⟨by unfold fjo; rw [if_neg (by decide), if_neg (by decide), if_neg (by decide)], rfl⟩) (Nat.le_of_ble_eq_true rfl) (Nat.le_of_ble_eq_true rfl) dX2_join_64
