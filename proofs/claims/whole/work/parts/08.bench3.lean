set_option maxHeartbeats 4000000 in
set_option maxRecDepth 100000 in
theorem mX0_placeOf (l : Launch) (D : va_G) (cT : Nat → ClassId) (n : Nat) (ad : Nat → Nat) (A : Nat → Prop) (hD : ∀ G, va_D A (gw n ad G)) (G : Nat → va_E) (k sz cn bx : Nat) (pt : Nat → Int64) (K L : Nat → Nat) (hk : k + 6 ≤ n) (hR : BR cT ad G k sz cn bx pt K L) (hI : BI sz cn K L) (q : Nat) (hq : q ≤ cn) : Met l yX0_placeOf (wA yX0_placeOf cX0_placeOf 4 (some .int)) ({ frames := 3, cells := 0, slots := 0, locals := 63 } : Room) (PG D cT n ad A G [.ref (ad k), .int (nI q)]) (QG D n ad A (fun v G1 => v = some (.int (nI (ps L q))) ∧ G1 = G)) 0 0 A := by
  refine Met.ofG (cc := cX0_placeOf) (maxL := 4) (ret := (some .int)) (by decide) (Nat.le_of_ble_eq_true rfl) ?_
  intro p e s m args below meth c Q hQ hx hb hr hml hlocks hown hw hP hK hE hA hS ls hl
  have hl : lv_has ls 4 [(0, .ref (ad k)), (1, .int (nI q))] := hl
  obtain ⟨p0, w, nu, ne, en, ⟨hB, hB1, hB2, hB3, hB4, hB5, hB6, hB7, hB8⟩, hBL⟩ := hR
  have hcap := BI_cap hI
  have hsz := hI.1
  have hpz := hI.2.1
  refine lv_iconst (v := nI 0) hx hb dX0_placeOf_0 (by decide) ?_
  refine lv_istore_n (lv' := [(2, .int (nI 0)), (0, .ref (ad k)), (1, .int (nI q))]) hx hb dX0_placeOf_1 rfl hl (by decide) rfl (fun ls hl => ?_)
  refine lv_iconst (v := nI 0) hx hb dX0_placeOf_2 (by decide) ?_
  refine lv_istore_n (lv' := [(3, .int (nI 0)), (2, .int (nI 0)), (0, .ref (ad k)), (1, .int (nI q))]) hx hb dX0_placeOf_3 rfl hl (by decide) rfl (fun ls hl => ?_)
  have key_1 : ∀ (fu : Nat) (i : Nat), (i ≤ q) → (q - i) < fu → ∀ (H : Heap) (locs : List Loc), va_P D vwCl (gw n ad G) H → va_S A s.heap H locs → ∀ ls : Array Slot, lv_has ls 4 [(3, .int (nI i)), (2, .int (nI (ps L i))), (1, .int (nI q)), (0, .ref (ad k))] → W p l e ({ frames := 3, cells := 0, slots := 0, locals := 63 } : Room) s m args below meth c H locs 0 0 Q (F0 m 4 ls []) := by
    intro fu_2
    induction fu_2 with
    | zero => intros; exfalso; omega
    | succ fu_2 ih_3 =>
      intro i hi hfu_4 H locs hP hS ls hl
      refine lv_iload_n hx hb dX0_placeOf_4 rfl (lv_at hl 0 rfl) ?_
      refine lv_iload_n hx hb dX0_placeOf_5 rfl (lv_at hl 2 rfl) ?_
      refine t_icmp_ge (tgt := 31) hx hb dX0_placeOf_6 (by decide) (by omega) (by omega) (fun c_5 => ?_) (fun c_5 => ?_)
      · skip
        refine lv_iload_n hx hb dX0_placeOf_31 rfl (lv_at hl 1 rfl) ?_
        refine g_ret hQ hx hb hr hlocks rfl hP hS (⟨by rw [show i = q by omega], rfl⟩) (Nat.le_of_ble_eq_true rfl) (Nat.le_of_ble_eq_true rfl) dX0_placeOf_32
      · skip
        refine lv_iload_n hx hb dX0_placeOf_9 rfl (lv_at hl 0 rfl) ?_
        refine lv_aload_n hx hb dX0_placeOf_10 rfl (lv_at hl 3 rfl) ?_
        refine g_get (C := RX0) (T := TX0) (N := 8) hx hb hw inX0 hown hK hP (i := k) (by omega) hB rfl 7 (by decide) (hw _ wf_X0_46) rfl dX0_placeOf_11 ?_
        refine t_icmp_ge (tgt := 31) hx hb dX0_placeOf_14 (by decide) (by omega) (by omega) (fun c_6 => ?_) (fun c_6 => ?_)
        · skip
          refine lv_iload_n hx hb dX0_placeOf_31 rfl (lv_at hl 1 rfl) ?_
          refine g_ret hQ hx hb hr hlocks rfl hP hS (⟨by rw [show i = q by omega], rfl⟩) (Nat.le_of_ble_eq_true rfl) (Nat.le_of_ble_eq_true rfl) dX0_placeOf_32
        · skip
          obtain ⟨hb1, hb2, hb3⟩ := hBL.2 i (by omega)
          have hi3 := hI.2.2.1 i (by omega)
          have hps := ps_step L (show i < cn by omega)
          have hq8 := hB8 i
          have hq7 := hB7 i
          have hq6 := hB6 i
          refine lv_iload_n hx hb dX0_placeOf_17 rfl (lv_at hl 1 rfl) ?_
          refine lv_aload_n hx hb dX0_placeOf_18 rfl (lv_at hl 3 rfl) ?_
          refine lv_iload_n hx hb dX0_placeOf_19 rfl (lv_at hl 0 rfl) ?_
          have hbd_7 := hB8 i
          refine g_callV (As := [.int (nI i)]) (rest := [.int (nI (ps L i))]) ⟨hx, hb, hml, hown, hw⟩ (mX0_width l D cT n ad A hD G k sz cn bx p0 w nu ne en (by omega) ⟨hB, hB1, hB2, hB3, hB4, hB5, hB6, hB7, hB8⟩ i (by omega) (by omega)) (cwV 1 hw (gWV wm_X0_53 wi_X0_width wse_X0_width wini_X0 wc_X0_width) rfl rfl rfl (by decide +kernel) ⟨Nat.le_of_ble_eq_true rfl, Nat.le_of_ble_eq_true rfl⟩) hK hE hA hP hS (k := k) (by omega) hB rfl rfl hl.1 (lv_room (Nat.le_of_ble_eq_true rfl)) dX0_placeOf_20 ⟨Nat.le_of_ble_eq_true rfl, Nat.le_of_ble_eq_true rfl⟩ (fun v_9 G_8 H locs hp hP hS => ?_)
          obtain ⟨hv, hg⟩ := hp
          subst hv
          rw [hg] at hP
          refine t_eqi (nI (L i)) (congrArg nI (by split <;> omega)) ?_
          refine lv_iadd hx hb dX0_placeOf_23 ?_
          refine t_eqi (nI ((ps L i) + (L i))) (nI_add (ps L i) (L i)) ?_
          refine lv_istore_n (lv' := [(2, .int (nI ((ps L i) + (L i)))), (3, .int (nI i)), (1, .int (nI q)), (0, .ref (ad k))]) hx hb dX0_placeOf_24 rfl hl (by decide) rfl (fun ls hl => ?_)
          refine lv_iinc (v := nI (i + 1)) (lv' := [(3, .int (nI (i + 1))), (2, .int (nI ((ps L i) + (L i)))), (1, .int (nI q)), (0, .ref (ad k))]) hx hb dX0_placeOf_25 hl (k := 1) rfl (by exact nI_add i 1) (by decide) rfl (fun ls hl => ?_)
          refine lv_goto (tgt := 4) hx hb dX0_placeOf_28 (by decide) ?_
          exact ih_3 (i + 1) (by omega) (by omega) _ _ hP hS ls (lv_sub hl [0, 1, 2, 3] rfl)
  exact key_1 _ 0 (by omega) (Nat.lt_succ_self _) _ _ hP hS ls (lv_sub hl [0, 1, 3, 2] rfl)

set_option maxHeartbeats 4000000 in
set_option maxRecDepth 100000 in
theorem mX0_countNumbers (l : Launch) (D : va_G) (cT : Nat → ClassId) (n : Nat) (ad : Nat → Nat) (A : Nat → Prop) (hD : ∀ G, va_D A (gw n ad G)) (G : Nat → va_E) (k sz cn bx : Nat) (pt : Nat → Int64) (K L : Nat → Nat) (hk : k + 6 ≤ n) (hR : BR cT ad G k sz cn bx pt K L) (hI : BI sz cn K L) : Met l yX0_countNumbers (wA yX0_countNumbers cX0_countNumbers 3 (some .int)) ({ frames := 1, cells := 0, slots := 0, locals := 21 } : Room) (PG D cT n ad A G [.ref (ad k)]) (QG D n ad A (fun v G1 => v = some (.int (nI (cnt K cn))) ∧ G1 = G)) 0 0 A := by
  refine Met.ofG (cc := cX0_countNumbers) (maxL := 3) (ret := (some .int)) (by decide) (Nat.le_of_ble_eq_true rfl) ?_
  intro p e s m args below meth c Q hQ hx hb hr hml hlocks hown hw hP hK hE hA hS ls hl
  have hl : lv_has ls 3 [(0, .ref (ad k))] := hl
  obtain ⟨p0, w, nu, ne, en, ⟨hB, hB1, hB2, hB3, hB4, hB5, hB6, hB7, hB8⟩, hBL⟩ := hR
  have hcap := BI_cap hI
  have hsz := hI.1
  have hpz := hI.2.1
  refine lv_iconst (v := nI 0) hx hb dX0_countNumbers_0 (by decide) ?_
  refine lv_istore_n (lv' := [(1, .int (nI 0)), (0, .ref (ad k))]) hx hb dX0_countNumbers_1 rfl hl (by decide) rfl (fun ls hl => ?_)
  refine lv_iconst (v := nI 0) hx hb dX0_countNumbers_2 (by decide) ?_
  refine lv_istore_n (lv' := [(2, .int (nI 0)), (1, .int (nI 0)), (0, .ref (ad k))]) hx hb dX0_countNumbers_3 rfl hl (by decide) rfl (fun ls hl => ?_)
  have key_1 : ∀ (fu : Nat) (i : Nat), (i ≤ cn) → (cn - i) < fu → ∀ (H : Heap) (locs : List Loc), va_P D vwCl (gw n ad G) H → va_S A s.heap H locs → ∀ ls : Array Slot, lv_has ls 3 [(2, .int (nI i)), (1, .int (nI (cnt K i))), (0, .ref (ad k))] → W p l e ({ frames := 1, cells := 0, slots := 0, locals := 21 } : Room) s m args below meth c H locs 0 0 Q (F0 m 4 ls []) := by
    intro fu_2
    induction fu_2 with
    | zero => intros; exfalso; omega
    | succ fu_2 ih_3 =>
      intro i hi hfu_4 H locs hP hS ls hl
      refine lv_iload_n hx hb dX0_countNumbers_4 rfl (lv_at hl 0 rfl) ?_
      refine lv_aload_n hx hb dX0_countNumbers_5 rfl (lv_at hl 2 rfl) ?_
      refine g_get (C := RX0) (T := TX0) (N := 8) hx hb hw inX0 hown hK hP (i := k) (by omega) hB rfl 7 (by decide) (hw _ wf_X0_46) rfl dX0_countNumbers_6 ?_
      refine t_icmp_ge (tgt := 34) hx hb dX0_countNumbers_9 (by decide) (by omega) (by omega) (fun c_5 => ?_) (fun c_5 => ?_)
      · skip
        refine lv_iload_n hx hb dX0_countNumbers_34 rfl (lv_at hl 1 rfl) ?_
        refine g_ret hQ hx hb hr hlocks rfl hP hS (⟨by rw [show i = cn by omega], rfl⟩) (Nat.le_of_ble_eq_true rfl) (Nat.le_of_ble_eq_true rfl) dX0_countNumbers_35
      · skip
        obtain ⟨hb1, hb2, hb3⟩ := hBL.2 i (by omega)
        have hi3 := hI.2.2.1 i (by omega)
        have hps := ps_step L (show i < cn by omega)
        have hq8 := hB8 i
        have hq7 := hB7 i
        have hq6 := hB6 i
        refine lv_iload_n hx hb dX0_countNumbers_12 rfl (lv_at hl 1 rfl) ?_
        refine lv_aload_n hx hb dX0_countNumbers_13 rfl (lv_at hl 2 rfl) ?_
        refine lv_iload_n hx hb dX0_countNumbers_14 rfl (lv_at hl 0 rfl) ?_
        refine g_callV (As := [.int (nI i)]) (rest := [.int (nI (cnt K i))]) ⟨hx, hb, hml, hown, hw⟩ (mX0_isNumber l D cT n ad A hD G k sz cn bx p0 w nu ne en (by omega) ⟨hB, hB1, hB2, hB3, hB4, hB5, hB6, hB7, hB8⟩ i (by omega)) (cwV 1 hw (gWV wm_X0_49 wi_X0_isNumber wse_X0_isNumber wini_X0 wc_X0_isNumber) rfl rfl rfl (by decide +kernel) ⟨Nat.le_of_ble_eq_true rfl, Nat.le_of_ble_eq_true rfl⟩) hK hE hA hP hS (k := k) (by omega) hB rfl rfl hl.1 (lv_room (Nat.le_of_ble_eq_true rfl)) dX0_countNumbers_15 ⟨Nat.le_of_ble_eq_true rfl, Nat.le_of_ble_eq_true rfl⟩ (fun v_7 G_6 H locs hp hP hS => ?_)
        obtain ⟨hv, hg⟩ := hp
        subst hv
        rw [hg] at hP
        refine t_bool_eq (tgt := 25) hx hb dX0_countNumbers_18 (by decide) (fun c_8 => ?_) (fun c_8 => ?_)
        · skip
          refine lv_iconst (v := nI 0) hx hb dX0_countNumbers_25 (by decide) ?_
          refine lv_iadd hx hb dX0_countNumbers_26 ?_
          refine t_eqi (nI (cnt K (i + 1))) ((nI_add _ _).trans (congrArg nI (cnt_0 (by omega)).symm)) ?_
          refine lv_istore_n (lv' := [(1, .int (nI (cnt K (i + 1)))), (2, .int (nI i)), (0, .ref (ad k))]) hx hb dX0_countNumbers_27 rfl hl (by decide) rfl (fun ls hl => ?_)
          refine lv_iinc (v := nI (i + 1)) (lv' := [(2, .int (nI (i + 1))), (1, .int (nI (cnt K (i + 1)))), (0, .ref (ad k))]) hx hb dX0_countNumbers_28 hl (k := 1) rfl (by exact nI_add i 1) (by decide) rfl (fun ls hl => ?_)
          refine lv_goto (tgt := 4) hx hb dX0_countNumbers_31 (by decide) ?_
          exact ih_3 (i + 1) (by omega) (by omega) _ _ hP hS ls (lv_sub hl [0, 1, 2] rfl)
        · skip
          refine lv_iconst (v := nI 1) hx hb dX0_countNumbers_21 (by decide) ?_
          refine lv_goto (tgt := 26) hx hb dX0_countNumbers_22 (by decide) ?_
          refine lv_iadd hx hb dX0_countNumbers_26 ?_
          refine t_eqi (nI (cnt K (i + 1))) ((nI_add _ _).trans (congrArg nI (cnt_1 (by omega)).symm)) ?_
          refine lv_istore_n (lv' := [(1, .int (nI (cnt K (i + 1)))), (2, .int (nI i)), (0, .ref (ad k))]) hx hb dX0_countNumbers_27 rfl hl (by decide) rfl (fun ls hl => ?_)
          refine lv_iinc (v := nI (i + 1)) (lv' := [(2, .int (nI (i + 1))), (1, .int (nI (cnt K (i + 1)))), (0, .ref (ad k))]) hx hb dX0_countNumbers_28 hl (k := 1) rfl (by exact nI_add i 1) (by decide) rfl (fun ls hl => ?_)
          refine lv_goto (tgt := 4) hx hb dX0_countNumbers_31 (by decide) ?_
          exact ih_3 (i + 1) (by omega) (by omega) _ _ hP hS ls (lv_sub hl [0, 1, 2] rfl)
  exact key_1 _ 0 (by omega) (Nat.lt_succ_self _) _ _ hP hS ls (lv_sub hl [0, 1, 2] rfl)

set_option maxHeartbeats 4000000 in
set_option maxRecDepth 100000 in
theorem mX0_countLeft (l : Launch) (D : va_G) (cT : Nat → ClassId) (n : Nat) (ad : Nat → Nat) (A : Nat → Prop) (hD : ∀ G, va_D A (gw n ad G)) (G : Nat → va_E) (k sz cn bx : Nat) (pt : Nat → Int64) (K L : Nat → Nat) (hk : k + 6 ≤ n) (hR : BR cT ad G k sz cn bx pt K L) (hI : BI sz cn K L) : Met l yX0_countLeft (wA yX0_countLeft cX0_countLeft 3 (some .int)) ({ frames := 2, cells := 0, slots := 0, locals := 42 } : Room) (PG D cT n ad A G [.ref (ad k)]) (QG D n ad A (fun v G1 => v = some (.int (nI (lft K L cn))) ∧ G1 = G)) 0 0 A := by
  refine Met.ofG (cc := cX0_countLeft) (maxL := 3) (ret := (some .int)) (by decide) (Nat.le_of_ble_eq_true rfl) ?_
  intro p e s m args below meth c Q hQ hx hb hr hml hlocks hown hw hP hK hE hA hS ls hl
  have hl : lv_has ls 3 [(0, .ref (ad k))] := hl
  obtain ⟨p0, w, nu, ne, en, ⟨hB, hB1, hB2, hB3, hB4, hB5, hB6, hB7, hB8⟩, hBL⟩ := hR
  have hcap := BI_cap hI
  have hsz := hI.1
  have hpz := hI.2.1
  refine lv_iconst (v := nI 0) hx hb dX0_countLeft_0 (by decide) ?_
  refine lv_istore_n (lv' := [(1, .int (nI 0)), (0, .ref (ad k))]) hx hb dX0_countLeft_1 rfl hl (by decide) rfl (fun ls hl => ?_)
  refine lv_iconst (v := nI 0) hx hb dX0_countLeft_2 (by decide) ?_
  refine lv_istore_n (lv' := [(2, .int (nI 0)), (1, .int (nI 0)), (0, .ref (ad k))]) hx hb dX0_countLeft_3 rfl hl (by decide) rfl (fun ls hl => ?_)
  have key_1 : ∀ (fu : Nat) (i : Nat), (i ≤ cn) → (cn - i) < fu → ∀ (H : Heap) (locs : List Loc), va_P D vwCl (gw n ad G) H → va_S A s.heap H locs → ∀ ls : Array Slot, lv_has ls 3 [(2, .int (nI i)), (1, .int (nI (lft K L i))), (0, .ref (ad k))] → W p l e ({ frames := 2, cells := 0, slots := 0, locals := 42 } : Room) s m args below meth c H locs 0 0 Q (F0 m 4 ls []) := by
    intro fu_2
    induction fu_2 with
    | zero => intros; exfalso; omega
    | succ fu_2 ih_3 =>
      intro i hi hfu_4 H locs hP hS ls hl
      refine lv_iload_n hx hb dX0_countLeft_4 rfl (lv_at hl 0 rfl) ?_
      refine lv_aload_n hx hb dX0_countLeft_5 rfl (lv_at hl 2 rfl) ?_
      refine g_get (C := RX0) (T := TX0) (N := 8) hx hb hw inX0 hown hK hP (i := k) (by omega) hB rfl 7 (by decide) (hw _ wf_X0_46) rfl dX0_countLeft_6 ?_
      refine t_icmp_ge (tgt := 26) hx hb dX0_countLeft_9 (by decide) (by omega) (by omega) (fun c_5 => ?_) (fun c_5 => ?_)
      · skip
        refine lv_iload_n hx hb dX0_countLeft_26 rfl (lv_at hl 1 rfl) ?_
        refine g_ret hQ hx hb hr hlocks rfl hP hS (⟨by rw [show i = cn by omega], rfl⟩) (Nat.le_of_ble_eq_true rfl) (Nat.le_of_ble_eq_true rfl) dX0_countLeft_27
      · skip
        obtain ⟨hb1, hb2, hb3⟩ := hBL.2 i (by omega)
        have hi3 := hI.2.2.1 i (by omega)
        have hps := ps_step L (show i < cn by omega)
        have hq8 := hB8 i
        have hq7 := hB7 i
        have hq6 := hB6 i
        refine lv_iload_n hx hb dX0_countLeft_12 rfl (lv_at hl 1 rfl) ?_
        refine lv_aload_n hx hb dX0_countLeft_13 rfl (lv_at hl 2 rfl) ?_
        refine lv_iload_n hx hb dX0_countLeft_14 rfl (lv_at hl 0 rfl) ?_
        have hbd_6 := hB8 i
        refine g_callV (As := [.int (nI i)]) (rest := [.int (nI (lft K L i))]) ⟨hx, hb, hml, hown, hw⟩ (mX0_remaining l D cT n ad A hD G k sz cn bx p0 w nu ne en (by omega) ⟨hB, hB1, hB2, hB3, hB4, hB5, hB6, hB7, hB8⟩ i (by omega) (by omega)) (cwV 1 hw (gWV wm_X0_57 wi_X0_remaining wse_X0_remaining wini_X0 wc_X0_remaining) rfl rfl rfl (by decide +kernel) ⟨Nat.le_of_ble_eq_true rfl, Nat.le_of_ble_eq_true rfl⟩) hK hE hA hP hS (k := k) (by omega) hB rfl rfl hl.1 (lv_room (Nat.le_of_ble_eq_true rfl)) dX0_countLeft_15 ⟨Nat.le_of_ble_eq_true rfl, Nat.le_of_ble_eq_true rfl⟩ (fun v_8 G_7 H locs hp hP hS => ?_)
        obtain ⟨hv, hg⟩ := hp
        subst hv
        rw [hg] at hP
        refine t_eqi (nI (if K i = 110 then 0 else L i)) (congrArg nI (by split <;> split <;> omega)) ?_
        refine lv_iadd hx hb dX0_countLeft_18 ?_
        refine t_eqi (nI ((lft K L i) + (if K i = 110 then 0 else L i))) (nI_add (lft K L i) (if K i = 110 then 0 else L i)) ?_
        refine lv_istore_n (lv' := [(1, .int (nI ((lft K L i) + (if K i = 110 then 0 else L i)))), (2, .int (nI i)), (0, .ref (ad k))]) hx hb dX0_countLeft_19 rfl hl (by decide) rfl (fun ls hl => ?_)
        refine lv_iinc (v := nI (i + 1)) (lv' := [(2, .int (nI (i + 1))), (1, .int (nI ((lft K L i) + (if K i = 110 then 0 else L i)))), (0, .ref (ad k))]) hx hb dX0_countLeft_20 hl (k := 1) rfl (by exact nI_add i 1) (by decide) rfl (fun ls hl => ?_)
        refine lv_goto (tgt := 4) hx hb dX0_countLeft_23 (by decide) ?_
        exact ih_3 (i + 1) (by omega) (by omega) _ _ hP hS ls (lv_sub hl [0, 1, 2] rfl)
  exact key_1 _ 0 (by omega) (Nat.lt_succ_self _) _ _ hP hS ls (lv_sub hl [0, 1, 2] rfl)

set_option maxHeartbeats 4000000 in
set_option maxRecDepth 100000 in
theorem mX0_addTo (l : Launch) (D : va_G) (cT : Nat → ClassId) (n : Nat) (ad : Nat → Nat) (A : Nat → Prop) (hD : ∀ G, va_D A (gw n ad G)) (G : Nat → va_E) (k sz cn bx : Nat) (pt : Nat → Int64) (K L : Nat → Nat) (hk : k + 6 ≤ n) (hR : BR cT ad G k sz cn bx pt K L) (hI : BI sz cn K L) (x : Int64) : Met l yX0_addTo (wA yX0_addTo cX0_addTo 6 (some .long)) ({ frames := 2, cells := 0, slots := 0, locals := 42 } : Room) (PG D cT n ad A G [.ref (ad k), .long x]) (QG D n ad A (fun v G1 => v = some (.long (bsum K L pt (31 * x + lN cn) cn)) ∧ G1 = G)) 0 0 A := by
  refine Met.ofG (cc := cX0_addTo) (maxL := 6) (ret := (some .long)) (by decide) (Nat.le_of_ble_eq_true rfl) ?_
  intro p e s m args below meth c Q hQ hx hb hr hml hlocks hown hw hP hK hE hA hS ls hl
  have hl : lv_has ls 6 [(0, .ref (ad k)), (1, .long x)] := hl
  obtain ⟨p0, w, nu, ne, en, ⟨hB, hB1, hB2, hB3, hB4, hB5, hB6, hB7, hB8⟩, hBL⟩ := hR
  have hcap := BI_cap hI
  have hsz := hI.1
  have hpz := hI.2.1
  refine lv_ldc2 hx hb hown (hw _ wk_X0_95) dX0_addTo_0 ?_
  refine lv_lload_n hx hb dX0_addTo_3 rfl (lv_at hl 1 rfl) ?_
  refine lv_lmul hx hb dX0_addTo_4 ?_
  refine lv_aload_n hx hb dX0_addTo_5 rfl (lv_at hl 0 rfl) ?_
  refine g_get (C := RX0) (T := TX0) (N := 8) hx hb hw inX0 hown hK hP (i := k) (by omega) hB rfl 7 (by decide) (hw _ wf_X0_46) rfl dX0_addTo_6 ?_
  refine lv_i2l hx hb dX0_addTo_9 rfl ?_
  refine t_eql (lN cn) (nI_l (by omega)) ?_
  refine lv_ladd hx hb dX0_addTo_10 ?_
  refine lv_lstore_n (lv' := [(3, .long ((31 * x) + (lN cn))), (0, .ref (ad k)), (1, .long x)]) hx hb dX0_addTo_11 rfl hl (by decide) rfl (fun ls hl => ?_)
  refine lv_iconst (v := nI 0) hx hb dX0_addTo_12 (by decide) ?_
  refine lv_istore (lv' := [(5, .int (nI 0)), (3, .long ((31 * x) + (lN cn))), (0, .ref (ad k)), (1, .long x)]) hx hb dX0_addTo_13 hl (by decide) rfl (fun ls hl => ?_)
  have key_1 : ∀ (fu : Nat) (i : Nat), (i ≤ cn) → (cn - i) < fu → ∀ (H : Heap) (locs : List Loc), va_P D vwCl (gw n ad G) H → va_S A s.heap H locs → ∀ ls : Array Slot, lv_has ls 6 [(5, .int (nI i)), (3, .long (bsum K L pt (31 * x + lN cn) i)), (0, .ref (ad k))] → W p l e ({ frames := 2, cells := 0, slots := 0, locals := 42 } : Room) s m args below meth c H locs 0 0 Q (F0 m 15 ls []) := by
    intro fu_2
    induction fu_2 with
    | zero => intros; exfalso; omega
    | succ fu_2 ih_3 =>
      intro i hi hfu_4 H locs hP hS ls hl
      refine lv_iload hx hb dX0_addTo_15 (lv_at hl 0 rfl) ?_
      refine lv_aload_n hx hb dX0_addTo_17 rfl (lv_at hl 2 rfl) ?_
      refine g_get (C := RX0) (T := TX0) (N := 8) hx hb hw inX0 hown hK hP (i := k) (by omega) hB rfl 7 (by decide) (hw _ wf_X0_46) rfl dX0_addTo_18 ?_
      refine t_icmp_ge (tgt := 78) hx hb dX0_addTo_21 (by decide) (by omega) (by omega) (fun c_5 => ?_) (fun c_5 => ?_)
      · skip
        refine lv_lload_n hx hb dX0_addTo_78 rfl (lv_at hl 1 rfl) ?_
        refine g_retl hQ hx hb hr hlocks hP hS (⟨by rw [show i = cn by omega], rfl⟩) (Nat.le_of_ble_eq_true rfl) (Nat.le_of_ble_eq_true rfl) dX0_addTo_79
      · skip
        obtain ⟨hb1, hb2, hb3⟩ := hBL.2 i (by omega)
        have hi3 := hI.2.2.1 i (by omega)
        have hps := ps_step L (show i < cn by omega)
        have hq8 := hB8 i
        have hq7 := hB7 i
        have hq6 := hB6 i
        refine lv_ldc2 hx hb hown (hw _ wk_X0_95) dX0_addTo_24 ?_
        refine lv_lload_n hx hb dX0_addTo_27 rfl (lv_at hl 1 rfl) ?_
        refine lv_lmul hx hb dX0_addTo_28 ?_
        refine lv_aload_n hx hb dX0_addTo_29 rfl (lv_at hl 2 rfl) ?_
        refine g_get (C := RX0) (T := TX0) (N := 8) hx hb hw inX0 hown hK hP (i := k) (by omega) hB rfl 3 (by decide) (hw _ wf_X0_15) rfl dX0_addTo_30 ?_
        refine lv_iload hx hb dX0_addTo_33 (lv_at hl 0 rfl) ?_
        refine g_iald hx hb hK hP (i := (k + 2)) (by omega) hB2 (by omega) (by omega) dX0_addTo_35 ?_
        have hbd_6 := hB6 i
        refine lv_i2l hx hb dX0_addTo_36 rfl ?_
        refine t_eql (lN (w i)) (nI_l (by omega)) ?_
        refine t_eql (lN (K i)) (by rw [hb1]) ?_
        refine lv_ladd hx hb dX0_addTo_37 ?_
        refine lv_lstore_n (lv' := [(3, .long ((31 * (bsum K L pt (31 * x + lN cn) i)) + (lN (K i)))), (5, .int (nI i)), (0, .ref (ad k))]) hx hb dX0_addTo_38 rfl hl (by decide) rfl (fun ls hl => ?_)
        refine lv_ldc2 hx hb hown (hw _ wk_X0_95) dX0_addTo_39 ?_
        refine lv_lload_n hx hb dX0_addTo_42 rfl (lv_at hl 0 rfl) ?_
        refine lv_lmul hx hb dX0_addTo_43 ?_
        refine lv_aload_n hx hb dX0_addTo_44 rfl (lv_at hl 2 rfl) ?_
        refine lv_iload hx hb dX0_addTo_45 (lv_at hl 1 rfl) ?_
        refine g_callV (As := [.int (nI i)]) (rest := [.long (31 * ((31 * (bsum K L pt (31 * x + lN cn) i)) + (lN (K i))))]) ⟨hx, hb, hml, hown, hw⟩ (mX0_isNumber l D cT n ad A hD G k sz cn bx p0 w nu ne en (by omega) ⟨hB, hB1, hB2, hB3, hB4, hB5, hB6, hB7, hB8⟩ i (by omega)) (cwV 1 hw (gWV wm_X0_49 wi_X0_isNumber wse_X0_isNumber wini_X0 wc_X0_isNumber) rfl rfl rfl (by decide +kernel) ⟨Nat.le_of_ble_eq_true rfl, Nat.le_of_ble_eq_true rfl⟩) hK hE hA hP hS (k := k) (by omega) hB rfl rfl hl.1 (lv_room (Nat.le_of_ble_eq_true rfl)) dX0_addTo_47 ⟨Nat.le_of_ble_eq_true rfl, Nat.le_of_ble_eq_true rfl⟩ (fun v_8 G_7 H locs hp hP hS => ?_)
        obtain ⟨hv, hg⟩ := hp
        subst hv
        rw [hg] at hP
        refine t_bool_eq (tgt := 63) hx hb dX0_addTo_50 (by decide) (fun c_9 => ?_) (fun c_9 => ?_)
        · skip
          refine lv_aload_n hx hb dX0_addTo_63 rfl (lv_at hl 2 rfl) ?_
          refine lv_iload hx hb dX0_addTo_64 (lv_at hl 1 rfl) ?_
          have hbd_10 := hB8 i
          refine g_callV (As := [.int (nI i)]) (rest := [.long (31 * ((31 * (bsum K L pt (31 * x + lN cn) i)) + (lN (K i))))]) ⟨hx, hb, hml, hown, hw⟩ (mX0_remaining l D cT n ad A hD G k sz cn bx p0 w nu ne en (by omega) ⟨hB, hB1, hB2, hB3, hB4, hB5, hB6, hB7, hB8⟩ i (by omega) (by omega)) (cwV 1 hw (gWV wm_X0_57 wi_X0_remaining wse_X0_remaining wini_X0 wc_X0_remaining) rfl rfl rfl (by decide +kernel) ⟨Nat.le_of_ble_eq_true rfl, Nat.le_of_ble_eq_true rfl⟩) hK hE hA hP hS (k := k) (by omega) hB rfl rfl hl.1 (lv_room (Nat.le_of_ble_eq_true rfl)) dX0_addTo_66 ⟨Nat.le_of_ble_eq_true rfl, Nat.le_of_ble_eq_true rfl⟩ (fun v_12 G_11 H locs hp hP hS => ?_)
          obtain ⟨hv, hg⟩ := hp
          subst hv
          rw [hg] at hP
          refine t_eqi (nI (L i)) (congrArg nI (by rw [if_neg (by omega)]; omega)) ?_
          refine lv_i2l hx hb dX0_addTo_69 rfl ?_
          refine t_eql (lN (L i)) (nI_l (by omega)) ?_
          refine lv_ladd hx hb dX0_addTo_70 ?_
          refine t_eql (bsum K L pt (31 * x + lN cn) (i + 1)) (by show _ = 31 * (31 * _ + lN (K i)) + _; rw [if_neg (by omega)]) ?_
          refine lv_lstore_n (lv' := [(3, .long (bsum K L pt (31 * x + lN cn) (i + 1))), (5, .int (nI i)), (0, .ref (ad k))]) hx hb dX0_addTo_71 rfl hl (by decide) rfl (fun ls hl => ?_)
          refine lv_iinc (v := nI (i + 1)) (lv' := [(5, .int (nI (i + 1))), (3, .long (bsum K L pt (31 * x + lN cn) (i + 1))), (0, .ref (ad k))]) hx hb dX0_addTo_72 hl (k := 1) rfl (by exact nI_add i 1) (by decide) rfl (fun ls hl => ?_)
          refine lv_goto (tgt := 15) hx hb dX0_addTo_75 (by decide) ?_
          exact ih_3 (i + 1) (by omega) (by omega) _ _ hP hS ls (lv_sub hl [0, 1, 2] rfl)
        · skip
          refine lv_aload_n hx hb dX0_addTo_53 rfl (lv_at hl 2 rfl) ?_
          refine g_get (C := RX0) (T := TX0) (N := 8) hx hb hw inX0 hown hK hP (i := k) (by omega) hB rfl 4 (by decide) (hw _ wf_X0_19) rfl dX0_addTo_54 ?_
          refine lv_iload hx hb dX0_addTo_57 (lv_at hl 1 rfl) ?_
          refine g_lald hx hb hK hP (i := (k + 3)) (by omega) hB3 (by omega) (by omega) dX0_addTo_59 ?_
          refine lv_goto (tgt := 70) hx hb dX0_addTo_60 (by decide) ?_
          refine lv_ladd hx hb dX0_addTo_70 ?_
          refine t_eql (bsum K L pt (31 * x + lN cn) (i + 1)) (by show _ = 31 * (31 * _ + lN (K i)) + _; rw [if_pos (by omega), hb2 (by omega)]) ?_
          refine lv_lstore_n (lv' := [(3, .long (bsum K L pt (31 * x + lN cn) (i + 1))), (5, .int (nI i)), (0, .ref (ad k))]) hx hb dX0_addTo_71 rfl hl (by decide) rfl (fun ls hl => ?_)
          refine lv_iinc (v := nI (i + 1)) (lv' := [(5, .int (nI (i + 1))), (3, .long (bsum K L pt (31 * x + lN cn) (i + 1))), (0, .ref (ad k))]) hx hb dX0_addTo_72 hl (k := 1) rfl (by exact nI_add i 1) (by decide) rfl (fun ls hl => ?_)
          refine lv_goto (tgt := 15) hx hb dX0_addTo_75 (by decide) ?_
          exact ih_3 (i + 1) (by omega) (by omega) _ _ hP hS ls (lv_sub hl [0, 1, 2] rfl)
  exact key_1 _ 0 (by omega) (Nat.lt_succ_self _) _ _ hP hS ls (lv_sub hl [0, 1, 2] rfl)

set_option maxHeartbeats 4000000 in
set_option maxRecDepth 100000 in
theorem mX0_standsAt (l : Launch) (D : va_G) (cT : Nat → ClassId) (n : Nat) (ad : Nat → Nat) (A : Nat → Prop) (hD : ∀ G, va_D A (gw n ad G)) (G : Nat → va_E) (k sz cn bx : Nat) (pt : Nat → Int64) (K L : Nat → Nat) (hk : k + 6 ≤ n) (hR : BR cT ad G k sz cn bx pt K L) (hI : BI sz cn K L) (i : Nat) (hi : i < cn) : Met l yX0_standsAt (wA yX0_standsAt cX0_standsAt 4 (some .boolean)) ({ frames := 1, cells := 0, slots := 0, locals := 23 } : Room) (PG D cT n ad A G [.ref (ad k), .int (nI i), .int (nI (ps L i))]) (QG D n ad A (fun v G1 => v = some (.int (nI 1)) ∧ G1 = G)) 0 0 A := by
  refine Met.ofG (cc := cX0_standsAt) (maxL := 4) (ret := (some .boolean)) (by decide) (Nat.le_of_ble_eq_true rfl) ?_
  intro p e s m args below meth c Q hQ hx hb hr hml hlocks hown hw hP hK hE hA hS ls hl
  have hl : lv_has ls 4 [(0, .ref (ad k)), (1, .int (nI i)), (2, .int (nI (ps L i)))] := hl
  obtain ⟨p0, w, nu, ne, en, ⟨hB, hB1, hB2, hB3, hB4, hB5, hB6, hB7, hB8⟩, hBL⟩ := hR
  have hcap := BI_cap hI
  have hsz := hI.1
  have hpz := hI.2.1
  obtain ⟨hb1, hb2, hb3⟩ := hBL.2 i (hi)
  have hi3 := hI.2.2.1 i (hi)
  have hps := ps_step L (show i < cn by omega)
  have hq8 := hB8 i
  have hq7 := hB7 i
  have hq6 := hB6 i
  refine lv_aload_n hx hb dX0_standsAt_0 rfl (lv_at hl 0 rfl) ?_
  refine lv_iload_n hx hb dX0_standsAt_1 rfl (lv_at hl 1 rfl) ?_
  refine g_callV (As := [.int (nI i)]) (rest := []) ⟨hx, hb, hml, hown, hw⟩ (mX0_isNumber l D cT n ad A hD G k sz cn bx p0 w nu ne en (by omega) ⟨hB, hB1, hB2, hB3, hB4, hB5, hB6, hB7, hB8⟩ i (by omega)) (cwV 1 hw (gWV wm_X0_49 wi_X0_isNumber wse_X0_isNumber wini_X0 wc_X0_isNumber) rfl rfl rfl (by decide +kernel) ⟨Nat.le_of_ble_eq_true rfl, Nat.le_of_ble_eq_true rfl⟩) hK hE hA hP hS (k := k) (by omega) hB rfl rfl hl.1 (lv_room (Nat.le_of_ble_eq_true rfl)) dX0_standsAt_2 ⟨Nat.le_of_ble_eq_true rfl, Nat.le_of_ble_eq_true rfl⟩ (fun v_2 G_1 H locs hp hP hS => ?_)
  obtain ⟨hv, hg⟩ := hp
  subst hv
  rw [hg] at hP
  refine t_bool_eq (tgt := 38) hx hb dX0_standsAt_5 (by decide) (fun c_3 => ?_) (fun c_3 => ?_)
  · skip
    refine lv_aload_n hx hb dX0_standsAt_38 rfl (lv_at hl 0 rfl) ?_
    refine g_get (C := RX0) (T := TX0) (N := 8) hx hb hw inX0 hown hK hP (i := k) (by omega) hB rfl 5 (by decide) (hw _ wf_X0_22) rfl dX0_standsAt_39 ?_
    refine lv_iload_n hx hb dX0_standsAt_42 rfl (lv_at hl 1 rfl) ?_
    refine g_iald hx hb hK hP (i := (k + 4)) (by omega) hB4 (by omega) (by omega) dX0_standsAt_43 ?_
    have hbd_4 := hB7 i
    refine lv_iload_n hx hb dX0_standsAt_44 rfl (lv_at hl 2 rfl) ?_
    refine t_icmp_ne (tgt := 75) hx hb dX0_standsAt_45 (by decide) (by omega) (by omega) (fun c_5 => ?_) (fun c_5 => ?_)
    · exfalso; omega
    · skip
      refine lv_aload_n hx hb dX0_standsAt_48 rfl (lv_at hl 0 rfl) ?_
      refine g_get (C := RX0) (T := TX0) (N := 8) hx hb hw inX0 hown hK hP (i := k) (by omega) hB rfl 6 (by decide) (hw _ wf_X0_25) rfl dX0_standsAt_49 ?_
      refine lv_iload_n hx hb dX0_standsAt_52 rfl (lv_at hl 1 rfl) ?_
      refine g_iald hx hb hK hP (i := (k + 5)) (by omega) hB5 (by omega) (by omega) dX0_standsAt_53 ?_
      have hbd_6 := hB8 i
      refine lv_iload_n hx hb dX0_standsAt_54 rfl (lv_at hl 2 rfl) ?_
      refine t_icmp_lt (tgt := 75) hx hb dX0_standsAt_55 (by decide) (by omega) (by omega) (fun c_7 => ?_) (fun c_7 => ?_)
      · exfalso; omega
      · skip
        refine lv_aload_n hx hb dX0_standsAt_58 rfl (lv_at hl 0 rfl) ?_
        refine g_get (C := RX0) (T := TX0) (N := 8) hx hb hw inX0 hown hK hP (i := k) (by omega) hB rfl 6 (by decide) (hw _ wf_X0_25) rfl dX0_standsAt_59 ?_
        refine lv_iload_n hx hb dX0_standsAt_62 rfl (lv_at hl 1 rfl) ?_
        refine g_iald hx hb hK hP (i := (k + 5)) (by omega) hB5 (by omega) (by omega) dX0_standsAt_63 ?_
        have hbd_8 := hB8 i
        refine lv_aload_n hx hb dX0_standsAt_64 rfl (lv_at hl 0 rfl) ?_
        refine g_get (C := RX0) (T := TX0) (N := 8) hx hb hw inX0 hown hK hP (i := k) (by omega) hB rfl 1 (by decide) (hw _ wf_X0_28) rfl dX0_standsAt_65 ?_
        refine t_icmp_gt (tgt := 75) hx hb dX0_standsAt_68 (by decide) (by omega) (by omega) (fun c_9 => ?_) (fun c_9 => ?_)
        · exfalso; omega
        · skip
          refine lv_iconst (v := nI 1) hx hb dX0_standsAt_71 (by decide) ?_
          refine lv_goto (tgt := 76) hx hb dX0_standsAt_72 (by decide) ?_
          refine lv_istore_n (lv' := [(3, .int (nI 1)), (0, .ref (ad k)), (1, .int (nI i)), (2, .int (nI (ps L i)))]) hx hb dX0_standsAt_76 rfl hl (by decide) rfl (fun ls hl => ?_)
          refine lv_iload_n hx hb dX0_standsAt_77 rfl (lv_at hl 0 rfl) ?_
          refine t_if_eq (tgt := 107) hx hb dX0_standsAt_78 (by decide) (by omega) (fun c_10 => absurd c_10 (by omega)) (fun c_10 => ?_)
          refine lv_aload_n hx hb dX0_standsAt_81 rfl (lv_at hl 1 rfl) ?_
          refine g_get (C := RX0) (T := TX0) (N := 8) hx hb hw inX0 hown hK hP (i := k) (by omega) hB rfl 3 (by decide) (hw _ wf_X0_15) rfl dX0_standsAt_82 ?_
          refine lv_iload_n hx hb dX0_standsAt_85 rfl (lv_at hl 2 rfl) ?_
          refine g_iald hx hb hK hP (i := (k + 2)) (by omega) hB2 (by omega) (by omega) dX0_standsAt_86 ?_
          have hbd_11 := hB6 i
          refine lv_bipush (v := nI 116) hx hb dX0_standsAt_87 (by decide) ?_
          refine t_icmp_eq (tgt := 103) hx hb dX0_standsAt_89 (by decide) (by omega) (by omega) (fun c_12 => ?_) (fun c_12 => ?_)
          · skip
            refine lv_iconst (v := nI 1) hx hb dX0_standsAt_103 (by decide) ?_
            refine lv_goto (tgt := 108) hx hb dX0_standsAt_104 (by decide) ?_
            refine g_ret hQ hx hb hr hlocks rfl hP hS (⟨rfl, rfl⟩) (Nat.le_of_ble_eq_true rfl) (Nat.le_of_ble_eq_true rfl) dX0_standsAt_108
          · skip
            refine lv_aload_n hx hb dX0_standsAt_92 rfl (lv_at hl 1 rfl) ?_
            refine lv_iload_n hx hb dX0_standsAt_93 rfl (lv_at hl 2 rfl) ?_
            refine lv_sipush (v := nI 17488) hx hb dX0_standsAt_94 (by decide) ?_
            refine g_callV (As := [.int (nI i), .int (nI 17488)]) (rest := []) ⟨hx, hb, hml, hown, hw⟩ (mX0_hasAll l D cT n ad A hD G k sz cn bx p0 w nu ne en (by omega) ⟨hB, hB1, hB2, hB3, hB4, hB5, hB6, hB7, hB8⟩ i 17488 (by omega) (by omega) (by omega) (by decide)) (cwV 2 hw (gWV wm_X0_100 wi_X0_hasAll wse_X0_hasAll wini_X0 wc_X0_hasAll) rfl rfl rfl (by decide +kernel) ⟨Nat.le_of_ble_eq_true rfl, Nat.le_of_ble_eq_true rfl⟩) hK hE hA hP hS (k := k) (by omega) hB rfl rfl hl.1 (lv_room (Nat.le_of_ble_eq_true rfl)) dX0_standsAt_97 ⟨Nat.le_of_ble_eq_true rfl, Nat.le_of_ble_eq_true rfl⟩ (fun v_14 G_13 H locs hp hP hS => ?_)
            obtain ⟨hv, hg⟩ := hp
            subst hv
            rw [hg] at hP
            refine t_bool_eq (tgt := 107) hx hb dX0_standsAt_100 (by decide) (fun c_15 => ?_) (fun c_15 => ?_)
            · exfalso; omega
            · skip
              refine lv_iconst (v := nI 1) hx hb dX0_standsAt_103 (by decide) ?_
              refine lv_goto (tgt := 108) hx hb dX0_standsAt_104 (by decide) ?_
              refine g_ret hQ hx hb hr hlocks rfl hP hS (⟨rfl, rfl⟩) (Nat.le_of_ble_eq_true rfl) (Nat.le_of_ble_eq_true rfl) dX0_standsAt_108
  · skip
    refine lv_iload_n hx hb dX0_standsAt_8 rfl (lv_at hl 2 rfl) ?_
    refine lv_aload_n hx hb dX0_standsAt_9 rfl (lv_at hl 0 rfl) ?_
    refine g_get (C := RX0) (T := TX0) (N := 8) hx hb hw inX0 hown hK hP (i := k) (by omega) hB rfl 1 (by decide) (hw _ wf_X0_28) rfl dX0_standsAt_10 ?_
    refine t_icmp_ge (tgt := 36) hx hb dX0_standsAt_13 (by decide) (by omega) (by omega) (fun c_16 => ?_) (fun c_16 => ?_)
    · exfalso; omega
    · skip
      refine lv_aload_n hx hb dX0_standsAt_16 rfl (lv_at hl 0 rfl) ?_
      refine g_get (C := RX0) (T := TX0) (N := 8) hx hb hw inX0 hown hK hP (i := k) (by omega) hB rfl 4 (by decide) (hw _ wf_X0_19) rfl dX0_standsAt_17 ?_
      refine lv_iload_n hx hb dX0_standsAt_20 rfl (lv_at hl 1 rfl) ?_
      refine g_lald hx hb hK hP (i := (k + 3)) (by omega) hB3 (by omega) (by omega) dX0_standsAt_21 ?_
      refine lv_aload_n hx hb dX0_standsAt_22 rfl (lv_at hl 0 rfl) ?_
      refine g_get (C := RX0) (T := TX0) (N := 8) hx hb hw inX0 hown hK hP (i := k) (by omega) hB rfl 0 (by decide) (hw _ wf_X0_9) rfl dX0_standsAt_23 ?_
      refine lv_iload_n hx hb dX0_standsAt_26 rfl (lv_at hl 2 rfl) ?_
      refine g_lald hx hb hK hP (i := (k + 1)) (by omega) hB1 (by omega) (by omega) dX0_standsAt_27 ?_
      refine W.lcmp hx hb dX0_standsAt_28 ?_
      refine t_eqi (nI 0) (lgc_eq ((hb2 (by omega)).trans (hBL.1 _ (by omega)).symm)) ?_
      refine t_if_ne (tgt := 36) hx hb dX0_standsAt_29 (by decide) (by omega) (fun c_17 => absurd c_17 (by omega)) (fun c_17 => ?_)
      refine lv_iconst (v := nI 1) hx hb dX0_standsAt_32 (by decide) ?_
      refine lv_goto (tgt := 37) hx hb dX0_standsAt_33 (by decide) ?_
      refine g_ret hQ hx hb hr hlocks rfl hP hS (⟨rfl, rfl⟩) (Nat.le_of_ble_eq_true rfl) (Nat.le_of_ble_eq_true rfl) dX0_standsAt_37
