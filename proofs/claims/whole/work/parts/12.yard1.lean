set_option maxHeartbeats 4000000 in
set_option maxRecDepth 100000 in
theorem mX2_indexIn3 (l : Launch) (D : va_G) (cT : Nat → ClassId) (n : Nat) (ad : Nat → Nat) (A : Nat → Prop) (hD : ∀ G, va_D A (gw n ad G)) (G : Nat → va_E) (t ch : Nat) (hch : ch < 65536) : Met l yX2_indexIn (wA yX2_indexIn cX2_indexIn 3 (some .int)) ({ frames := 0, cells := 0, slots := 0, locals := 0 } : Room) (PT D cT n ad A G t 3 fKI [.ref t, .int (nI ch)]) (QG D n ad A (fun v G1 => v = some (.int (if kdx ch = 3 then -1 else nI (kdx ch))) ∧ G1 = G)) 0 0 A := by
  refine Met.ofT (cc := cX2_indexIn) (maxL := 3) (ret := (some .int)) (by decide) (Nat.le_of_ble_eq_true rfl) ?_
  intro p e s m args below meth c Q hQ hx hb hr hml hlocks hown hw hP hK hE hA hS hT ls hl
  have hl : lv_has ls 3 [(0, .ref t), (1, .int (nI ch))] := hl
  refine lv_iconst (v := nI 0) hx hb dX2_indexIn_0 (by decide) ?_
  refine lv_istore_n (lv' := [(2, .int (nI 0)), (0, .ref t), (1, .int (nI ch))]) hx hb dX2_indexIn_1 rfl hl (by decide) rfl (fun ls hl => ?_)
  refine lv_iload_n hx hb dX2_indexIn_2 rfl (lv_at hl 0 rfl) ?_
  refine lv_aload_n hx hb dX2_indexIn_3 rfl (lv_at hl 1 rfl) ?_
  refine va_tlen hx hb hT hS (v := nI 3) rfl dX2_indexIn_4 ?_
  refine t_icmp_ge (tgt := 23) hx hb dX2_indexIn_5 (by decide) (by omega) (by omega) (fun c_1 => absurd c_1 (by omega)) (fun c_1 => ?_)
  refine lv_aload_n hx hb dX2_indexIn_8 rfl (lv_at hl 1 rfl) ?_
  refine lv_iload_n hx hb dX2_indexIn_9 rfl (lv_at hl 0 rfl) ?_
  refine g_tc hx hb hT hS (j := 0) (v := 105) (by omega) (by omega) rfl dX2_indexIn_10 ?_
  refine lv_iload_n hx hb dX2_indexIn_11 rfl (lv_at hl 2 rfl) ?_
  refine t_icmp_ne (tgt := 17) hx hb dX2_indexIn_12 (by decide) (by omega) (by omega) (fun c_2 => ?_) (fun c_2 => ?_)
  · skip
    refine lv_iinc (v := nI 1) (lv' := [(2, .int (nI 1)), (0, .ref t), (1, .int (nI ch))]) hx hb dX2_indexIn_17 hl (k := 0) rfl (by exact nI_add 0 1) (by decide) rfl (fun ls hl => ?_)
    refine lv_goto (tgt := 2) hx hb dX2_indexIn_20 (by decide) ?_
    refine lv_iload_n hx hb dX2_indexIn_2 rfl (lv_at hl 0 rfl) ?_
    refine lv_aload_n hx hb dX2_indexIn_3 rfl (lv_at hl 1 rfl) ?_
    refine va_tlen hx hb hT hS (v := nI 3) rfl dX2_indexIn_4 ?_
    refine t_icmp_ge (tgt := 23) hx hb dX2_indexIn_5 (by decide) (by omega) (by omega) (fun c_3 => absurd c_3 (by omega)) (fun c_3 => ?_)
    refine lv_aload_n hx hb dX2_indexIn_8 rfl (lv_at hl 1 rfl) ?_
    refine lv_iload_n hx hb dX2_indexIn_9 rfl (lv_at hl 0 rfl) ?_
    refine g_tc hx hb hT hS (j := 1) (v := 108) (by omega) (by omega) rfl dX2_indexIn_10 ?_
    refine lv_iload_n hx hb dX2_indexIn_11 rfl (lv_at hl 2 rfl) ?_
    refine t_icmp_ne (tgt := 17) hx hb dX2_indexIn_12 (by decide) (by omega) (by omega) (fun c_4 => ?_) (fun c_4 => ?_)
    · skip
      refine lv_iinc (v := nI 2) (lv' := [(2, .int (nI 2)), (0, .ref t), (1, .int (nI ch))]) hx hb dX2_indexIn_17 hl (k := 0) rfl (by exact nI_add 1 1) (by decide) rfl (fun ls hl => ?_)
      refine lv_goto (tgt := 2) hx hb dX2_indexIn_20 (by decide) ?_
      refine lv_iload_n hx hb dX2_indexIn_2 rfl (lv_at hl 0 rfl) ?_
      refine lv_aload_n hx hb dX2_indexIn_3 rfl (lv_at hl 1 rfl) ?_
      refine va_tlen hx hb hT hS (v := nI 3) rfl dX2_indexIn_4 ?_
      refine t_icmp_ge (tgt := 23) hx hb dX2_indexIn_5 (by decide) (by omega) (by omega) (fun c_5 => absurd c_5 (by omega)) (fun c_5 => ?_)
      refine lv_aload_n hx hb dX2_indexIn_8 rfl (lv_at hl 1 rfl) ?_
      refine lv_iload_n hx hb dX2_indexIn_9 rfl (lv_at hl 0 rfl) ?_
      refine g_tc hx hb hT hS (j := 2) (v := 111) (by omega) (by omega) rfl dX2_indexIn_10 ?_
      refine lv_iload_n hx hb dX2_indexIn_11 rfl (lv_at hl 2 rfl) ?_
      refine t_icmp_ne (tgt := 17) hx hb dX2_indexIn_12 (by decide) (by omega) (by omega) (fun c_6 => ?_) (fun c_6 => ?_)
      · skip
        refine lv_iinc (v := nI 3) (lv' := [(2, .int (nI 3)), (0, .ref t), (1, .int (nI ch))]) hx hb dX2_indexIn_17 hl (k := 0) rfl (by exact nI_add 2 1) (by decide) rfl (fun ls hl => ?_)
        refine lv_goto (tgt := 2) hx hb dX2_indexIn_20 (by decide) ?_
        refine lv_iload_n hx hb dX2_indexIn_2 rfl (lv_at hl 0 rfl) ?_
        refine lv_aload_n hx hb dX2_indexIn_3 rfl (lv_at hl 1 rfl) ?_
        refine va_tlen hx hb hT hS (v := nI 3) rfl dX2_indexIn_4 ?_
        refine t_icmp_ge (tgt := 23) hx hb dX2_indexIn_5 (by decide) (by omega) (by omega) (fun c_7 => ?_) (fun c_7 => absurd c_7 (by omega))
        refine lv_iconst (v := (-1)) hx hb dX2_indexIn_23 (by decide) ?_
        refine g_ret hQ hx hb hr hlocks rfl hP hS (⟨ixm (by unfold kdx; rw [if_neg (by omega), if_neg (by omega), if_neg (by omega)]), rfl⟩) (Nat.le_of_ble_eq_true rfl) (Nat.le_of_ble_eq_true rfl) dX2_indexIn_24
      · skip
        refine lv_iload_n hx hb dX2_indexIn_15 rfl (lv_at hl 0 rfl) ?_
        refine g_ret hQ hx hb hr hlocks rfl hP hS (⟨ixr (by unfold kdx; rw [if_neg (by omega), if_neg (by omega), if_pos (by omega)]) (by omega), rfl⟩) (Nat.le_of_ble_eq_true rfl) (Nat.le_of_ble_eq_true rfl) dX2_indexIn_16
    · skip
      refine lv_iload_n hx hb dX2_indexIn_15 rfl (lv_at hl 0 rfl) ?_
      refine g_ret hQ hx hb hr hlocks rfl hP hS (⟨ixr (by unfold kdx; rw [if_neg (by omega), if_pos (by omega)]) (by omega), rfl⟩) (Nat.le_of_ble_eq_true rfl) (Nat.le_of_ble_eq_true rfl) dX2_indexIn_16
  · skip
    refine lv_iload_n hx hb dX2_indexIn_15 rfl (lv_at hl 0 rfl) ?_
    refine g_ret hQ hx hb hr hlocks rfl hP hS (⟨ixr (by unfold kdx; rw [if_pos (by omega)]) (by omega), rfl⟩) (Nat.le_of_ble_eq_true rfl) (Nat.le_of_ble_eq_true rfl) dX2_indexIn_16

set_option maxHeartbeats 4000000 in
set_option maxRecDepth 100000 in
theorem mX2_indexIn4 (l : Launch) (D : va_G) (cT : Nat → ClassId) (n : Nat) (ad : Nat → Nat) (A : Nat → Prop) (hD : ∀ G, va_D A (gw n ad G)) (G : Nat → va_E) (t ch : Nat) (hch : ch < 65536) : Met l yX2_indexIn (wA yX2_indexIn cX2_indexIn 3 (some .int)) ({ frames := 0, cells := 0, slots := 0, locals := 0 } : Room) (PT D cT n ad A G t 4 fHO [.ref t, .int (nI ch)]) (QG D n ad A (fun v G1 => v = some (.int (if hwx ch = 4 then -1 else nI (hwx ch))) ∧ G1 = G)) 0 0 A := by
  refine Met.ofT (cc := cX2_indexIn) (maxL := 3) (ret := (some .int)) (by decide) (Nat.le_of_ble_eq_true rfl) ?_
  intro p e s m args below meth c Q hQ hx hb hr hml hlocks hown hw hP hK hE hA hS hT ls hl
  have hl : lv_has ls 3 [(0, .ref t), (1, .int (nI ch))] := hl
  refine lv_iconst (v := nI 0) hx hb dX2_indexIn_0 (by decide) ?_
  refine lv_istore_n (lv' := [(2, .int (nI 0)), (0, .ref t), (1, .int (nI ch))]) hx hb dX2_indexIn_1 rfl hl (by decide) rfl (fun ls hl => ?_)
  refine lv_iload_n hx hb dX2_indexIn_2 rfl (lv_at hl 0 rfl) ?_
  refine lv_aload_n hx hb dX2_indexIn_3 rfl (lv_at hl 1 rfl) ?_
  refine va_tlen hx hb hT hS (v := nI 4) rfl dX2_indexIn_4 ?_
  refine t_icmp_ge (tgt := 23) hx hb dX2_indexIn_5 (by decide) (by omega) (by omega) (fun c_1 => absurd c_1 (by omega)) (fun c_1 => ?_)
  refine lv_aload_n hx hb dX2_indexIn_8 rfl (lv_at hl 1 rfl) ?_
  refine lv_iload_n hx hb dX2_indexIn_9 rfl (lv_at hl 0 rfl) ?_
  refine g_tc hx hb hT hS (j := 0) (v := 115) (by omega) (by omega) rfl dX2_indexIn_10 ?_
  refine lv_iload_n hx hb dX2_indexIn_11 rfl (lv_at hl 2 rfl) ?_
  refine t_icmp_ne (tgt := 17) hx hb dX2_indexIn_12 (by decide) (by omega) (by omega) (fun c_2 => ?_) (fun c_2 => ?_)
  · skip
    refine lv_iinc (v := nI 1) (lv' := [(2, .int (nI 1)), (0, .ref t), (1, .int (nI ch))]) hx hb dX2_indexIn_17 hl (k := 0) rfl (by exact nI_add 0 1) (by decide) rfl (fun ls hl => ?_)
    refine lv_goto (tgt := 2) hx hb dX2_indexIn_20 (by decide) ?_
    refine lv_iload_n hx hb dX2_indexIn_2 rfl (lv_at hl 0 rfl) ?_
    refine lv_aload_n hx hb dX2_indexIn_3 rfl (lv_at hl 1 rfl) ?_
    refine va_tlen hx hb hT hS (v := nI 4) rfl dX2_indexIn_4 ?_
    refine t_icmp_ge (tgt := 23) hx hb dX2_indexIn_5 (by decide) (by omega) (by omega) (fun c_3 => absurd c_3 (by omega)) (fun c_3 => ?_)
    refine lv_aload_n hx hb dX2_indexIn_8 rfl (lv_at hl 1 rfl) ?_
    refine lv_iload_n hx hb dX2_indexIn_9 rfl (lv_at hl 0 rfl) ?_
    refine g_tc hx hb hT hS (j := 1) (v := 120) (by omega) (by omega) rfl dX2_indexIn_10 ?_
    refine lv_iload_n hx hb dX2_indexIn_11 rfl (lv_at hl 2 rfl) ?_
    refine t_icmp_ne (tgt := 17) hx hb dX2_indexIn_12 (by decide) (by omega) (by omega) (fun c_4 => ?_) (fun c_4 => ?_)
    · skip
      refine lv_iinc (v := nI 2) (lv' := [(2, .int (nI 2)), (0, .ref t), (1, .int (nI ch))]) hx hb dX2_indexIn_17 hl (k := 0) rfl (by exact nI_add 1 1) (by decide) rfl (fun ls hl => ?_)
      refine lv_goto (tgt := 2) hx hb dX2_indexIn_20 (by decide) ?_
      refine lv_iload_n hx hb dX2_indexIn_2 rfl (lv_at hl 0 rfl) ?_
      refine lv_aload_n hx hb dX2_indexIn_3 rfl (lv_at hl 1 rfl) ?_
      refine va_tlen hx hb hT hS (v := nI 4) rfl dX2_indexIn_4 ?_
      refine t_icmp_ge (tgt := 23) hx hb dX2_indexIn_5 (by decide) (by omega) (by omega) (fun c_5 => absurd c_5 (by omega)) (fun c_5 => ?_)
      refine lv_aload_n hx hb dX2_indexIn_8 rfl (lv_at hl 1 rfl) ?_
      refine lv_iload_n hx hb dX2_indexIn_9 rfl (lv_at hl 0 rfl) ?_
      refine g_tc hx hb hT hS (j := 2) (v := 104) (by omega) (by omega) rfl dX2_indexIn_10 ?_
      refine lv_iload_n hx hb dX2_indexIn_11 rfl (lv_at hl 2 rfl) ?_
      refine t_icmp_ne (tgt := 17) hx hb dX2_indexIn_12 (by decide) (by omega) (by omega) (fun c_6 => ?_) (fun c_6 => ?_)
      · skip
        refine lv_iinc (v := nI 3) (lv' := [(2, .int (nI 3)), (0, .ref t), (1, .int (nI ch))]) hx hb dX2_indexIn_17 hl (k := 0) rfl (by exact nI_add 2 1) (by decide) rfl (fun ls hl => ?_)
        refine lv_goto (tgt := 2) hx hb dX2_indexIn_20 (by decide) ?_
        refine lv_iload_n hx hb dX2_indexIn_2 rfl (lv_at hl 0 rfl) ?_
        refine lv_aload_n hx hb dX2_indexIn_3 rfl (lv_at hl 1 rfl) ?_
        refine va_tlen hx hb hT hS (v := nI 4) rfl dX2_indexIn_4 ?_
        refine t_icmp_ge (tgt := 23) hx hb dX2_indexIn_5 (by decide) (by omega) (by omega) (fun c_7 => absurd c_7 (by omega)) (fun c_7 => ?_)
        refine lv_aload_n hx hb dX2_indexIn_8 rfl (lv_at hl 1 rfl) ?_
        refine lv_iload_n hx hb dX2_indexIn_9 rfl (lv_at hl 0 rfl) ?_
        refine g_tc hx hb hT hS (j := 3) (v := 102) (by omega) (by omega) rfl dX2_indexIn_10 ?_
        refine lv_iload_n hx hb dX2_indexIn_11 rfl (lv_at hl 2 rfl) ?_
        refine t_icmp_ne (tgt := 17) hx hb dX2_indexIn_12 (by decide) (by omega) (by omega) (fun c_8 => ?_) (fun c_8 => ?_)
        · skip
          refine lv_iinc (v := nI 4) (lv' := [(2, .int (nI 4)), (0, .ref t), (1, .int (nI ch))]) hx hb dX2_indexIn_17 hl (k := 0) rfl (by exact nI_add 3 1) (by decide) rfl (fun ls hl => ?_)
          refine lv_goto (tgt := 2) hx hb dX2_indexIn_20 (by decide) ?_
          refine lv_iload_n hx hb dX2_indexIn_2 rfl (lv_at hl 0 rfl) ?_
          refine lv_aload_n hx hb dX2_indexIn_3 rfl (lv_at hl 1 rfl) ?_
          refine va_tlen hx hb hT hS (v := nI 4) rfl dX2_indexIn_4 ?_
          refine t_icmp_ge (tgt := 23) hx hb dX2_indexIn_5 (by decide) (by omega) (by omega) (fun c_9 => ?_) (fun c_9 => absurd c_9 (by omega))
          refine lv_iconst (v := (-1)) hx hb dX2_indexIn_23 (by decide) ?_
          refine g_ret hQ hx hb hr hlocks rfl hP hS (⟨ixm (by unfold hwx; rw [if_neg (by omega), if_neg (by omega), if_neg (by omega), if_neg (by omega)]), rfl⟩) (Nat.le_of_ble_eq_true rfl) (Nat.le_of_ble_eq_true rfl) dX2_indexIn_24
        · skip
          refine lv_iload_n hx hb dX2_indexIn_15 rfl (lv_at hl 0 rfl) ?_
          refine g_ret hQ hx hb hr hlocks rfl hP hS (⟨ixr (by unfold hwx; rw [if_neg (by omega), if_neg (by omega), if_neg (by omega), if_pos (by omega)]) (by omega), rfl⟩) (Nat.le_of_ble_eq_true rfl) (Nat.le_of_ble_eq_true rfl) dX2_indexIn_16
      · skip
        refine lv_iload_n hx hb dX2_indexIn_15 rfl (lv_at hl 0 rfl) ?_
        refine g_ret hQ hx hb hr hlocks rfl hP hS (⟨ixr (by unfold hwx; rw [if_neg (by omega), if_neg (by omega), if_pos (by omega)]) (by omega), rfl⟩) (Nat.le_of_ble_eq_true rfl) (Nat.le_of_ble_eq_true rfl) dX2_indexIn_16
    · skip
      refine lv_iload_n hx hb dX2_indexIn_15 rfl (lv_at hl 0 rfl) ?_
      refine g_ret hQ hx hb hr hlocks rfl hP hS (⟨ixr (by unfold hwx; rw [if_neg (by omega), if_pos (by omega)]) (by omega), rfl⟩) (Nat.le_of_ble_eq_true rfl) (Nat.le_of_ble_eq_true rfl) dX2_indexIn_16
  · skip
    refine lv_iload_n hx hb dX2_indexIn_15 rfl (lv_at hl 0 rfl) ?_
    refine g_ret hQ hx hb hr hlocks rfl hP hS (⟨ixr (by unfold hwx; rw [if_pos (by omega)]) (by omega), rfl⟩) (Nat.le_of_ble_eq_true rfl) (Nat.le_of_ble_eq_true rfl) dX2_indexIn_16

set_option maxHeartbeats 4000000 in
set_option maxRecDepth 100000 in
theorem mX2_rowOf (l : Launch) (hl9 : l.stackTraces = false) (D : va_G) (cT : Nat → ClassId) (n : Nat) (ad : Nat → Nat) (A : Nat → Prop) (hD : ∀ G, va_D A (gw n ad G)) (G : Nat → va_E) (σ : TY) (hY : YW cT ad G σ) (hn : 69 ≤ n) (ch : Nat) (hch : ch < 65536) (x : Int32) : vx_Met l yX2_rowOf (wA yX2_rowOf cX2_rowOf 4 (Option.some (Jvm.ClassFile.FieldType.object "Splityard$Row"))) ({ frames := 6, cells := 1, slots := 6, locals := 82 } : Room) (PG D cT n ad A G [.ref (ad 0), .int (nI ch), .int x]) (QG D n ad A (fun v G1 => (∃ q j, q < 3 ∧ j < 4 ∧ kdx ch = q ∧ x = nI j ∧ v = some (.ref (ad (9 + 2 * (4 * q + j))))) ∧ G1 = G)) (XG D n ad A G (pxRow ch x)) 1 6 A := by
  refine vx_ofG (cc := cX2_rowOf) (maxL := 4) (ret := (Option.some (Jvm.ClassFile.FieldType.object "Splityard$Row"))) (by decide) (Nat.le_of_ble_eq_true rfl) ?_
  intro p e s m args below meth c Q hQ hX ht hx hb hr hml hlocks hown hw hP hK hE hA hS ls hl
  have hl : lv_has ls 4 [(0, .ref (ad 0)), (1, .int (nI ch)), (2, .int x)] := hl
  obtain ⟨hy0, hy1, hy2⟩ := hY.1
  obtain ⟨tKI, hZKI, hTKI⟩ := hE.1.2.2.1
  refine va_gets hx hb hZKI hS hown (hw _ wf_X2_9) (fun _ h9 => h9) dX2_rowOf_0 ?_
  refine lv_iload_n hx hb dX2_rowOf_3 rfl (lv_at hl 1 rfl) ?_
  refine g_callST (As := [.ref tKI, .int (nI ch)]) (rest := []) ⟨hx, hb, hml, hown, hw⟩ (mX2_indexIn3 l D cT n ad A hD G tKI ch (by omega)) (va_cwS 2 hw (gWS wm_X2_167 wst_X2_indexIn wini_X2 wc_X2_indexIn) rfl rfl rfl (by decide +kernel) ⟨Nat.le_of_ble_eq_true rfl, Nat.le_of_ble_eq_true rfl⟩) hK hE hA hP hS hTKI rfl hl.1 (lv_room (Nat.le_of_ble_eq_true rfl)) dX2_rowOf_4 ⟨Nat.le_of_ble_eq_true rfl, Nat.le_of_ble_eq_true rfl⟩ (fun v_2 G_1 H locs hp hP hS => ?_)
  obtain ⟨hv, hg⟩ := hp
  subst hv
  rw [hg] at hP
  have hkl := kdx_le ch
  by_cases hk3 : kdx ch = 3
  · skip
    refine t_eqi (-1) (by rw [if_pos hk3]) ?_
    refine lv_istore_n (lv' := [(3, .int (-1)), (0, .ref (ad 0)), (1, .int (nI ch)), (2, .int x)]) hx hb dX2_rowOf_7 rfl hl (by decide) rfl (fun ls hl => ?_)
    refine lv_iload_n hx hb dX2_rowOf_8 rfl (lv_at hl 0 rfl) ?_
    refine lv_if_ge (tgt := 22) hx hb dX2_rowOf_9 (by decide) (fun h9 => absurd h9 (by decide)) (fun _ => ?_)
    refine g_throwS (text := "no such kind") hX ht hx hb hl9 hown hlocks hw hE hP hS (hl.1.trans hml.symm) (by decide +kernel) (by decide +kernel) at_IA wcl_X2_35 wini_java_lang_IllegalArgumentException (by decide +kernel) (Or.inl ⟨hk3, rfl⟩) dX2_rowOf_12 dX2_rowOf_15 dX2_rowOf_16 dX2_rowOf_18 dX2_rowOf_21 (Nat.le_of_ble_eq_true rfl) (Nat.le_of_ble_eq_true rfl) (Nat.le_of_ble_eq_true rfl) (Nat.le_of_ble_eq_true rfl) (Nat.le_of_ble_eq_true rfl) (Nat.le_of_ble_eq_true rfl)
  · skip
    obtain ⟨q, hq⟩ : ∃ q, kdx ch = q := ⟨_, rfl⟩
    refine t_eqi (nI q) (by rw [if_neg hk3, hq]) ?_
    refine lv_istore_n (lv' := [(3, .int (nI q)), (0, .ref (ad 0)), (1, .int (nI ch)), (2, .int x)]) hx hb dX2_rowOf_7 rfl hl (by decide) rfl (fun ls hl => ?_)
    refine lv_iload_n hx hb dX2_rowOf_8 rfl (lv_at hl 0 rfl) ?_
    refine t_if_ge (tgt := 22) hx hb dX2_rowOf_9 (by decide) (by omega) ?_
    refine lv_iload_n hx hb dX2_rowOf_22 rfl (lv_at hl 3 rfl) ?_
    refine lv_if_lt (tgt := 31) hx hb dX2_rowOf_23 (by decide) (fun c_4 => ?_) (fun c_4 => ?_)
    · skip
      refine g_throwS (text := "no such row") hX ht hx hb hl9 hown hlocks hw hE hP hS (hl.1.trans hml.symm) (by decide +kernel) (by decide +kernel) at_IO wcl_X2_67 wini_java_lang_IndexOutOfBoundsException (by decide +kernel) (Or.inr ⟨by omega, Or.inl c_4, rfl⟩) dX2_rowOf_31 dX2_rowOf_34 dX2_rowOf_35 dX2_rowOf_37 dX2_rowOf_40 (Nat.le_of_ble_eq_true rfl) (Nat.le_of_ble_eq_true rfl) (Nat.le_of_ble_eq_true rfl) (Nat.le_of_ble_eq_true rfl) (Nat.le_of_ble_eq_true rfl) (Nat.le_of_ble_eq_true rfl)
    · skip
      refine lv_iload_n hx hb dX2_rowOf_26 rfl (lv_at hl 3 rfl) ?_
      refine lv_iconst (v := nI 4) hx hb dX2_rowOf_27 (by decide) ?_
      refine lv_icmp_lt (tgt := 41) hx hb dX2_rowOf_28 (by decide) (fun c_5 => ?_) (fun c_5 => ?_)
      · skip
        obtain ⟨j, hj, rfl⟩ := lt_ix (by decide) c_4 c_5
        refine lv_aload_n hx hb dX2_rowOf_41 rfl (lv_at hl 1 rfl) ?_
        refine g_get (C := RX2) (T := TX2) (N := 3) hx hb hw inX2 hown hK hP (i := 0) (by omega) hy0 rfl 0 (by decide) (hw _ wf_X2_15) rfl dX2_rowOf_42 ?_
        refine lv_iload_n hx hb dX2_rowOf_45 rfl (lv_at hl 0 rfl) ?_
        refine lv_iconst (v := nI 4) hx hb dX2_rowOf_46 (by decide) ?_
        refine lv_imul hx hb dX2_rowOf_47 ?_
        refine t_eqi (nI (q * 4)) (pk_mul q 4) ?_
        refine lv_iload_n hx hb dX2_rowOf_48 rfl (lv_at hl 3 rfl) ?_
        refine lv_iadd hx hb dX2_rowOf_49 ?_
        refine t_eqi (nI ((q * 4) + j)) (nI_add (q * 4) j) ?_
        refine g_aald hx hb hK hP 5 (i := 1) (by omega) hy1 rfl rfl (k := (ad (9 + 2 * ((q * 4) + j)))) (by omega) (by omega) (rQ_at (by omega)) dX2_rowOf_50 ?_
        refine g_reta hQ hx hb hr hlocks hP hS (⟨⟨q, j, by omega, hj, hq, rfl, by rw [Nat.mul_comm q 4]⟩, rfl⟩) (Nat.le_of_ble_eq_true rfl) (Nat.le_of_ble_eq_true rfl) dX2_rowOf_51
      · skip
        refine g_throwS (text := "no such row") hX ht hx hb hl9 hown hlocks hw hE hP hS (hl.1.trans hml.symm) (by decide +kernel) (by decide +kernel) at_IO wcl_X2_67 wini_java_lang_IndexOutOfBoundsException (by decide +kernel) (Or.inr ⟨by omega, Or.inr (Int32.not_lt.mp c_5), rfl⟩) dX2_rowOf_31 dX2_rowOf_34 dX2_rowOf_35 dX2_rowOf_37 dX2_rowOf_40 (Nat.le_of_ble_eq_true rfl) (Nat.le_of_ble_eq_true rfl) (Nat.le_of_ble_eq_true rfl) (Nat.le_of_ble_eq_true rfl) (Nat.le_of_ble_eq_true rfl) (Nat.le_of_ble_eq_true rfl)

set_option maxHeartbeats 4000000 in
set_option maxRecDepth 100000 in
theorem mX2_benchAt (l : Launch) (hl9 : l.stackTraces = false) (D : va_G) (cT : Nat → ClassId) (n : Nat) (ad : Nat → Nat) (A : Nat → Prop) (hD : ∀ G, va_D A (gw n ad G)) (G : Nat → va_E) (σ : TY) (hY : YW cT ad G σ) (hn : 69 ≤ n) (x : Int32) : vx_Met l yX2_benchAt (wA yX2_benchAt cX2_benchAt 2 (Option.some (Jvm.ClassFile.FieldType.object "Splityard$Bench"))) ({ frames := 6, cells := 1, slots := 6, locals := 82 } : Room) (PG D cT n ad A G [.ref (ad 0), .int x]) (QG D n ad A (fun v G1 => (∃ b, b < 6 ∧ x = nI b ∧ v = some (.ref (ad (33 + 6 * b)))) ∧ G1 = G)) (XG D n ad A G (pxBen x)) 1 6 A := by
  refine vx_ofG (cc := cX2_benchAt) (maxL := 2) (ret := (Option.some (Jvm.ClassFile.FieldType.object "Splityard$Bench"))) (by decide) (Nat.le_of_ble_eq_true rfl) ?_
  intro p e s m args below meth c Q hQ hX ht hx hb hr hml hlocks hown hw hP hK hE hA hS ls hl
  have hl : lv_has ls 2 [(0, .ref (ad 0)), (1, .int x)] := hl
  obtain ⟨hy0, hy1, hy2⟩ := hY.1
  refine lv_iload_n hx hb dX2_benchAt_0 rfl (lv_at hl 1 rfl) ?_
  refine lv_if_lt (tgt := 13) hx hb dX2_benchAt_1 (by decide) (fun c_1 => ?_) (fun c_1 => ?_)
  · skip
    refine g_throwS (text := "no such bench") hX ht hx hb hl9 hown hlocks hw hE hP hS (hl.1.trans hml.symm) (by decide +kernel) (by decide +kernel) at_IO wcl_X2_67 wini_java_lang_IndexOutOfBoundsException (by decide +kernel) (⟨Or.inl c_1, rfl⟩) dX2_benchAt_13 dX2_benchAt_16 dX2_benchAt_17 dX2_benchAt_19 dX2_benchAt_22 (Nat.le_of_ble_eq_true rfl) (Nat.le_of_ble_eq_true rfl) (Nat.le_of_ble_eq_true rfl) (Nat.le_of_ble_eq_true rfl) (Nat.le_of_ble_eq_true rfl) (Nat.le_of_ble_eq_true rfl)
  · skip
    refine lv_iload_n hx hb dX2_benchAt_4 rfl (lv_at hl 1 rfl) ?_
    refine lv_aload_n hx hb dX2_benchAt_5 rfl (lv_at hl 0 rfl) ?_
    refine g_get (C := RX2) (T := TX2) (N := 3) hx hb hw inX2 hown hK hP (i := 0) (by omega) hy0 rfl 1 (by decide) (hw _ wf_X2_21) rfl dX2_benchAt_6 ?_
    refine va_alen hx hb hK hP 2 6 (gw_get (by omega) hy2) rfl (v := nI 6) rfl dX2_benchAt_9 ?_
    refine lv_icmp_lt (tgt := 23) hx hb dX2_benchAt_10 (by decide) (fun c_2 => ?_) (fun c_2 => ?_)
    · skip
      obtain ⟨b, hb6, rfl⟩ := lt_ix (by decide) c_1 c_2
      refine lv_aload_n hx hb dX2_benchAt_23 rfl (lv_at hl 0 rfl) ?_
      refine g_get (C := RX2) (T := TX2) (N := 3) hx hb hw inX2 hown hK hP (i := 0) (by omega) hy0 rfl 1 (by decide) (hw _ wf_X2_21) rfl dX2_benchAt_24 ?_
      refine lv_iload_n hx hb dX2_benchAt_27 rfl (lv_at hl 1 rfl) ?_
      refine g_aald hx hb hK hP 6 (i := 2) (by omega) hy2 rfl rfl (k := (ad (33 + 6 * b))) (by omega) (by omega) (bQ_at (by omega)) dX2_benchAt_28 ?_
      refine g_reta hQ hx hb hr hlocks hP hS (⟨⟨b, hb6, rfl, rfl⟩, rfl⟩) (Nat.le_of_ble_eq_true rfl) (Nat.le_of_ble_eq_true rfl) dX2_benchAt_29
    · skip
      refine g_throwS (text := "no such bench") hX ht hx hb hl9 hown hlocks hw hE hP hS (hl.1.trans hml.symm) (by decide +kernel) (by decide +kernel) at_IO wcl_X2_67 wini_java_lang_IndexOutOfBoundsException (by decide +kernel) (⟨Or.inr (Int32.not_lt.mp c_2), rfl⟩) dX2_benchAt_13 dX2_benchAt_16 dX2_benchAt_17 dX2_benchAt_19 dX2_benchAt_22 (Nat.le_of_ble_eq_true rfl) (Nat.le_of_ble_eq_true rfl) (Nat.le_of_ble_eq_true rfl) (Nat.le_of_ble_eq_true rfl) (Nat.le_of_ble_eq_true rfl) (Nat.le_of_ble_eq_true rfl)

set_option maxHeartbeats 4000000 in
set_option maxRecDepth 100000 in
theorem mX2_benchWithItem (l : Launch) (hl9 : l.stackTraces = false) (D : va_G) (cT : Nat → ClassId) (n : Nat) (ad : Nat → Nat) (A : Nat → Prop) (hD : ∀ G, va_D A (gw n ad G)) (G : Nat → va_E) (σ : TY) (hY : YW cT ad G σ) (hn : 69 ≤ n) (hI : YI σ) (x y : Int32) : vx_Met l yX2_benchWithItem (wA yX2_benchWithItem cX2_benchWithItem 4 (Option.some (Jvm.ClassFile.FieldType.object "Splityard$Bench"))) ({ frames := 7, cells := 2, slots := 12, locals := 103 } : Room) (PG D cT n ad A G [.ref (ad 0), .int x, .int y]) (QG D n ad A (fun v G1 => (∃ b i, b < 6 ∧ x = nI b ∧ i < (σ.2 b).2.1 ∧ y = nI i ∧ v = some (.ref (ad (33 + 6 * b)))) ∧ G1 = G)) (XG D n ad A G (pxItem σ x y)) 2 12 A := by
  refine vx_ofG (cc := cX2_benchWithItem) (maxL := 4) (ret := (Option.some (Jvm.ClassFile.FieldType.object "Splityard$Bench"))) (by decide) (Nat.le_of_ble_eq_true rfl) ?_
  intro p e s m args below meth c Q hQ hX ht hx hb hr hml hlocks hown hw hP hK hE hA hS ls hl
  have hl : lv_has ls 4 [(0, .ref (ad 0)), (1, .int x), (2, .int y)] := hl
  obtain ⟨hy0, hy1, hy2⟩ := hY.1
  refine lv_aload_n hx hb dX2_benchWithItem_0 rfl (lv_at hl 0 rfl) ?_
  refine lv_iload_n hx hb dX2_benchWithItem_1 rfl (lv_at hl 1 rfl) ?_
  refine g_callVX (As := [.int x]) (rest := []) ⟨hx, hb, hml, hown, hw⟩ (mX2_benchAt l hl9 D cT n ad A hD G σ hY hn x) (cwV 1 hw (gWV wm_X2_76 wi_X2_benchAt wse_X2_benchAt wini_X2 wc_X2_benchAt) rfl rfl rfl (by decide +kernel) ⟨Nat.le_of_ble_eq_true rfl, Nat.le_of_ble_eq_true rfl⟩) hK hE hA hP hS (k := 0) (by omega) hy0 rfl rfl hl.1 (lv_room (Nat.le_of_ble_eq_true rfl)) dX2_benchWithItem_2 ⟨Nat.le_of_ble_eq_true rfl, Nat.le_of_ble_eq_true rfl⟩ (fun E ce q9 H locs hpx hP hS hce hcv hcl => g_out hX ht hlocks hP hS (⟨Or.inl hpx.1, hpx.2⟩) hce hcv hcl (Nat.le_of_ble_eq_true rfl) (Nat.le_of_ble_eq_true rfl)) (fun v_2 G_1 H locs hp hP hS => ?_)
  obtain ⟨⟨b, hb6, hxb, hv⟩, hg⟩ := hp
  subst hv
  rw [hg] at hP
  subst hxb
  have hbt := hY.2.2.1 b (by omega)
  have hit := (hI.2 b (by omega)).1
  have hib := (hI.2 b (by omega)).2
  have hcapb := BI_cap hit
  have hszb := hit.1
  obtain ⟨p0, w, nu, ne, en, ⟨hB, hB1, hB2, hB3, hB4, hB5, hB6, hB7, hB8⟩, hBL⟩ := id hbt
  refine lv_astore_n (lv' := [(3, .ref (ad (33 + 6 * b))), (0, .ref (ad 0)), (1, .int (nI b)), (2, .int y)]) hx hb dX2_benchWithItem_5 rfl hl (by decide) rfl (fun ls hl => ?_)
  refine lv_iload_n hx hb dX2_benchWithItem_6 rfl (lv_at hl 3 rfl) ?_
  refine lv_if_lt (tgt := 18) hx hb dX2_benchWithItem_7 (by decide) (fun c_3 => ?_) (fun c_3 => ?_)
  · skip
    refine g_throwS (text := "no such item") hX ht hx hb hl9 hown hlocks hw hE hP hS (hl.1.trans hml.symm) (by decide +kernel) (by decide +kernel) at_IO wcl_X2_67 wini_java_lang_IndexOutOfBoundsException (by decide +kernel) (⟨Or.inr ⟨b, hb6, rfl, Or.inl c_3⟩, rfl⟩) dX2_benchWithItem_18 dX2_benchWithItem_21 dX2_benchWithItem_22 dX2_benchWithItem_24 dX2_benchWithItem_27 (Nat.le_of_ble_eq_true rfl) (Nat.le_of_ble_eq_true rfl) (Nat.le_of_ble_eq_true rfl) (Nat.le_of_ble_eq_true rfl) (Nat.le_of_ble_eq_true rfl) (Nat.le_of_ble_eq_true rfl)
  · skip
    refine lv_iload_n hx hb dX2_benchWithItem_10 rfl (lv_at hl 3 rfl) ?_
    refine lv_aload_n hx hb dX2_benchWithItem_11 rfl (lv_at hl 0 rfl) ?_
    refine g_getN (C := RX0) (T := TX0) (N := 8) hx hb hw inX0 hown hK hP (i := (33 + 6 * b)) (by omega) hB rfl 7 (by decide) (hE.2.2.1 (89, "Splityard$Bench", "count", "I") (by decide +kernel)) rfl dX2_benchWithItem_12 ?_
    refine lv_icmp_lt (tgt := 28) hx hb dX2_benchWithItem_15 (by decide) (fun c_4 => ?_) (fun c_4 => ?_)
    · skip
      obtain ⟨i, hi, rfl⟩ := lt_ix (by omega) c_3 c_4
      refine lv_aload_n hx hb dX2_benchWithItem_28 rfl (lv_at hl 0 rfl) ?_
      refine g_reta hQ hx hb hr hlocks hP hS (⟨⟨b, i, hb6, rfl, hi, rfl, rfl⟩, rfl⟩) (Nat.le_of_ble_eq_true rfl) (Nat.le_of_ble_eq_true rfl) dX2_benchWithItem_29
    · skip
      refine g_throwS (text := "no such item") hX ht hx hb hl9 hown hlocks hw hE hP hS (hl.1.trans hml.symm) (by decide +kernel) (by decide +kernel) at_IO wcl_X2_67 wini_java_lang_IndexOutOfBoundsException (by decide +kernel) (⟨Or.inr ⟨b, hb6, rfl, Or.inr (Int32.not_lt.mp c_4)⟩, rfl⟩) dX2_benchWithItem_18 dX2_benchWithItem_21 dX2_benchWithItem_22 dX2_benchWithItem_24 dX2_benchWithItem_27 (Nat.le_of_ble_eq_true rfl) (Nat.le_of_ble_eq_true rfl) (Nat.le_of_ble_eq_true rfl) (Nat.le_of_ble_eq_true rfl) (Nat.le_of_ble_eq_true rfl) (Nat.le_of_ble_eq_true rfl)
