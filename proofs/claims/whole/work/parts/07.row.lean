set_option maxHeartbeats 4000000 in
set_option maxRecDepth 100000 in
theorem mX1_add (l : Launch) (D : va_G) (cT : Nat → ClassId) (n : Nat) (ad : Nat → Nat) (A : Nat → Prop) (hD : ∀ G, va_D A (gw n ad G)) (G : Nat → va_E) (k cn : Nat) (f : Nat → Int64) (hk : k + 2 ≤ n) (hR : RR cT ad G k cn f) (x : Int64) (hc : cn < 48) : Met l yX1_add (wA yX1_add cX1_add 3 (some .boolean)) ({ frames := 0, cells := 0, slots := 0, locals := 0 } : Room) (PG D cT n ad A G [.ref (ad k), .long x]) (QG D n ad A (fun v G1 => v = some (.int (nI 1)) ∧ (∀ j, (j < k ∨ k + 2 ≤ j) → G1 j = G j) ∧ RR cT ad G1 k (cn + 1) (va_up f cn x))) 0 0 A := by
  refine Met.ofG (cc := cX1_add) (maxL := 3) (ret := (some .boolean)) (by decide) (Nat.le_of_ble_eq_true rfl) ?_
  intro p e s m args below meth c Q hQ hx hb hr hml hlocks hown hw hP hK hE hA hS ls hl
  have hl : lv_has ls 3 [(0, .ref (ad k)), (1, .long x)] := hl
  obtain ⟨hR1a, hR1b⟩ := hR
  refine lv_aload_n hx hb dX1_add_0 rfl (lv_at hl 0 rfl) ?_
  refine g_get (C := RX1) (T := TX1) (N := 2) hx hb hw inX1 hown hK hP (i := k) (by omega) hR1a rfl 1 (by decide) (hw _ wf_X1_15) rfl dX1_add_1 ?_
  refine lv_aload_n hx hb dX1_add_4 rfl (lv_at hl 0 rfl) ?_
  refine g_get (C := RX1) (T := TX1) (N := 2) hx hb hw inX1 hown hK hP (i := k) (by omega) hR1a rfl 0 (by decide) (hw _ wf_X1_9) rfl dX1_add_5 ?_
  refine va_alen hx hb hK hP (k + 1) 0 (gw_get (by omega) hR1b) rfl (v := nI 48) rfl dX1_add_8 ?_
  refine t_icmp_lt (tgt := 14) hx hb dX1_add_9 (by decide) (by omega) (by omega) (fun c_1 => ?_) (fun c_1 => ?_)
  · skip
    refine lv_aload_n hx hb dX1_add_14 rfl (lv_at hl 0 rfl) ?_
    refine g_get (C := RX1) (T := TX1) (N := 2) hx hb hw inX1 hown hK hP (i := k) (by omega) hR1a rfl 0 (by decide) (hw _ wf_X1_9) rfl dX1_add_15 ?_
    refine lv_aload_n hx hb dX1_add_18 rfl (lv_at hl 0 rfl) ?_
    refine g_get (C := RX1) (T := TX1) (N := 2) hx hb hw inX1 hown hK hP (i := k) (by omega) hR1a rfl 1 (by decide) (hw _ wf_X1_15) rfl dX1_add_19 ?_
    refine lv_lload_n hx hb dX1_add_22 rfl (lv_at hl 1 rfl) ?_
    refine g_last hx hb hK hP hD hS (i := (k + 1)) (by omega) hR1b (by omega) (by omega) dX1_add_23 (fun G_2 H locs hg_G_2 ho_G_2 hP hS => ?_)
    have hc_3 : G_2 k = .inr (3, [.ref (ad (k + 1)), .int (nI cn)]) := (ho_G_2 _ (by omega)).trans hR1a
    have hc_4 : G_2 (k + 1) = aJ cT 48 (va_up f cn x) := hg_G_2
    have hfr_5 : ∀ j, (j < k ∨ k + 2 ≤ j) → G_2 j = G j := fun j hj => (ho_G_2 j (by omega)).trans (rfl)
    refine lv_aload_n hx hb dX1_add_24 rfl (lv_at hl 0 rfl) ?_
    refine lv_dup hx hb dX1_add_25 rfl ?_
    refine g_get (C := RX1) (T := TX1) (N := 2) hx hb hw inX1 hown hK hP (i := k) (by omega) hc_3 rfl 1 (by decide) (hw _ wf_X1_15) rfl dX1_add_26 ?_
    refine lv_iconst (v := nI 1) hx hb dX1_add_29 (by decide) ?_
    refine lv_iadd hx hb dX1_add_30 ?_
    refine t_eqi (nI (cn + 1)) (nI_add cn 1) ?_
    refine g_put (C := RX1) (T := TX1) (N := 2) hx hb hw inX1 tyX1 tyX1_ok nmX1 hown hK hP hD hS (i := k) (by omega) hc_3 rfl 1 (by decide) (hw _ wf_X1_15) rfl (tyX1_ok 1 (by decide)) rfl rfl (Nat.le_of_ble_eq_true rfl) dX1_add_31 (fun G_6 H locs hg_G_6 ho_G_6 hP hS => ?_)
    have hc_7 : G_6 k = .inr (3, [.ref (ad (k + 1)), .int (nI (cn + 1))]) := hg_G_6
    have hc_8 : G_6 (k + 1) = aJ cT 48 (va_up f cn x) := (ho_G_6 _ (by omega)).trans hc_4
    have hfr_9 : ∀ j, (j < k ∨ k + 2 ≤ j) → G_6 j = G j := fun j hj => (ho_G_6 j (by omega)).trans (hfr_5 j hj)
    refine lv_iconst (v := nI 1) hx hb dX1_add_34 (by decide) ?_
    refine g_ret hQ hx hb hr hlocks rfl hP hS (⟨rfl, hfr_9, hc_7, hc_8⟩) (Nat.le_of_ble_eq_true rfl) (Nat.le_of_ble_eq_true rfl) dX1_add_35
  · exfalso; omega

set_option maxHeartbeats 4000000 in
set_option maxRecDepth 100000 in
theorem mX1_addF (l : Launch) (D : va_G) (cT : Nat → ClassId) (n : Nat) (ad : Nat → Nat) (A : Nat → Prop) (hD : ∀ G, va_D A (gw n ad G)) (G : Nat → va_E) (k cn : Nat) (f : Nat → Int64) (hk : k + 2 ≤ n) (hR : RR cT ad G k cn f) (x : Int64) (hc : cn = 48) : Met l yX1_add (wA yX1_add cX1_add 3 (some .boolean)) ({ frames := 0, cells := 0, slots := 0, locals := 0 } : Room) (PG D cT n ad A G [.ref (ad k), .long x]) (QG D n ad A (fun v G1 => v = some (.int (nI 0)) ∧ G1 = G)) 0 0 A := by
  refine Met.ofG (cc := cX1_add) (maxL := 3) (ret := (some .boolean)) (by decide) (Nat.le_of_ble_eq_true rfl) ?_
  intro p e s m args below meth c Q hQ hx hb hr hml hlocks hown hw hP hK hE hA hS ls hl
  have hl : lv_has ls 3 [(0, .ref (ad k)), (1, .long x)] := hl
  obtain ⟨hR1a, hR1b⟩ := hR
  refine lv_aload_n hx hb dX1_add_0 rfl (lv_at hl 0 rfl) ?_
  refine g_get (C := RX1) (T := TX1) (N := 2) hx hb hw inX1 hown hK hP (i := k) (by omega) hR1a rfl 1 (by decide) (hw _ wf_X1_15) rfl dX1_add_1 ?_
  refine lv_aload_n hx hb dX1_add_4 rfl (lv_at hl 0 rfl) ?_
  refine g_get (C := RX1) (T := TX1) (N := 2) hx hb hw inX1 hown hK hP (i := k) (by omega) hR1a rfl 0 (by decide) (hw _ wf_X1_9) rfl dX1_add_5 ?_
  refine va_alen hx hb hK hP (k + 1) 0 (gw_get (by omega) hR1b) rfl (v := nI 48) rfl dX1_add_8 ?_
  refine t_icmp_lt (tgt := 14) hx hb dX1_add_9 (by decide) (by omega) (by omega) (fun c_1 => ?_) (fun c_1 => ?_)
  · exfalso; omega
  · skip
    refine lv_iconst (v := nI 0) hx hb dX1_add_12 (by decide) ?_
    refine g_ret hQ hx hb hr hlocks rfl hP hS (⟨rfl, rfl⟩) (Nat.le_of_ble_eq_true rfl) (Nat.le_of_ble_eq_true rfl) dX1_add_13

set_option maxHeartbeats 4000000 in
set_option maxRecDepth 100000 in
theorem mX1_clear (l : Launch) (D : va_G) (cT : Nat → ClassId) (n : Nat) (ad : Nat → Nat) (A : Nat → Prop) (hD : ∀ G, va_D A (gw n ad G)) (G : Nat → va_E) (k cn : Nat) (f : Nat → Int64) (hk : k + 2 ≤ n) (hR : RR cT ad G k cn f) : Met l yX1_clear (wA yX1_clear cX1_clear 1 none) ({ frames := 0, cells := 0, slots := 0, locals := 0 } : Room) (PG D cT n ad A G [.ref (ad k)]) (QG D n ad A (fun v G1 => v = none ∧ (∀ j, (j < k ∨ k + 2 ≤ j) → G1 j = G j) ∧ RR cT ad G1 k 0 f)) 0 0 A := by
  refine Met.ofG (cc := cX1_clear) (maxL := 1) (ret := none) (by decide) (Nat.le_of_ble_eq_true rfl) ?_
  intro p e s m args below meth c Q hQ hx hb hr hml hlocks hown hw hP hK hE hA hS ls hl
  have hl : lv_has ls 1 [(0, .ref (ad k))] := hl
  obtain ⟨hR1a, hR1b⟩ := hR
  refine lv_aload_n hx hb dX1_clear_0 rfl (lv_at hl 0 rfl) ?_
  refine lv_iconst (v := nI 0) hx hb dX1_clear_1 (by decide) ?_
  refine g_put (C := RX1) (T := TX1) (N := 2) hx hb hw inX1 tyX1 tyX1_ok nmX1 hown hK hP hD hS (i := k) (by omega) hR1a rfl 1 (by decide) (hw _ wf_X1_15) rfl (tyX1_ok 1 (by decide)) rfl rfl (Nat.le_of_ble_eq_true rfl) dX1_clear_2 (fun G_1 H locs hg_G_1 ho_G_1 hP hS => ?_)
  have hc_2 : G_1 k = .inr (3, [.ref (ad (k + 1)), .int (nI 0)]) := hg_G_1
  have hc_3 : G_1 (k + 1) = aJ cT 48 f := (ho_G_1 _ (by omega)).trans hR1b
  have hfr_4 : ∀ j, (j < k ∨ k + 2 ≤ j) → G_1 j = G j := fun j hj => (ho_G_1 j (by omega)).trans (rfl)
  refine g_retv hQ hx hb hr hlocks hP hS (⟨rfl, hfr_4, hc_2, hc_3⟩) (Nat.le_of_ble_eq_true rfl) (Nat.le_of_ble_eq_true rfl) dX1_clear_5

set_option maxHeartbeats 4000000 in
set_option maxRecDepth 100000 in
theorem mX1_at (l : Launch) (D : va_G) (cT : Nat → ClassId) (n : Nat) (ad : Nat → Nat) (A : Nat → Prop) (hD : ∀ G, va_D A (gw n ad G)) (G : Nat → va_E) (k cn : Nat) (f : Nat → Int64) (hk : k + 2 ≤ n) (hR : RR cT ad G k cn f) (i : Nat) (hi : i < cn) (hc : cn ≤ 48) : Met l yX1_at (wA yX1_at cX1_at 2 (some .long)) ({ frames := 0, cells := 0, slots := 0, locals := 0 } : Room) (PG D cT n ad A G [.ref (ad k), .int (nI i)]) (QG D n ad A (fun v G1 => v = some (.long (f i)) ∧ G1 = G)) 0 0 A := by
  refine Met.ofG (cc := cX1_at) (maxL := 2) (ret := (some .long)) (by decide) (Nat.le_of_ble_eq_true rfl) ?_
  intro p e s m args below meth c Q hQ hx hb hr hml hlocks hown hw hP hK hE hA hS ls hl
  have hl : lv_has ls 2 [(0, .ref (ad k)), (1, .int (nI i))] := hl
  obtain ⟨hR1a, hR1b⟩ := hR
  refine lv_iload_n hx hb dX1_at_0 rfl (lv_at hl 1 rfl) ?_
  refine t_if_lt (tgt := 21) hx hb dX1_at_1 (by decide) (by omega) ?_
  refine lv_iload_n hx hb dX1_at_4 rfl (lv_at hl 1 rfl) ?_
  refine lv_aload_n hx hb dX1_at_5 rfl (lv_at hl 0 rfl) ?_
  refine g_get (C := RX1) (T := TX1) (N := 2) hx hb hw inX1 hown hK hP (i := k) (by omega) hR1a rfl 1 (by decide) (hw _ wf_X1_15) rfl dX1_at_6 ?_
  refine t_icmp_ge (tgt := 21) hx hb dX1_at_9 (by decide) (by omega) (by omega) (fun c_2 => ?_) (fun c_2 => ?_)
  · exfalso; omega
  · skip
    refine lv_aload_n hx hb dX1_at_12 rfl (lv_at hl 0 rfl) ?_
    refine g_get (C := RX1) (T := TX1) (N := 2) hx hb hw inX1 hown hK hP (i := k) (by omega) hR1a rfl 0 (by decide) (hw _ wf_X1_9) rfl dX1_at_13 ?_
    refine lv_iload_n hx hb dX1_at_16 rfl (lv_at hl 1 rfl) ?_
    refine g_lald hx hb hK hP (i := (k + 1)) (by omega) hR1b (by omega) (by omega) dX1_at_17 ?_
    refine lv_goto (tgt := 22) hx hb dX1_at_18 (by decide) ?_
    refine g_retl hQ hx hb hr hlocks hP hS (⟨rfl, rfl⟩) (Nat.le_of_ble_eq_true rfl) (Nat.le_of_ble_eq_true rfl) dX1_at_22

set_option maxHeartbeats 4000000 in
set_option maxRecDepth 100000 in
theorem mX1_addTo (l : Launch) (D : va_G) (cT : Nat → ClassId) (n : Nat) (ad : Nat → Nat) (A : Nat → Prop) (hD : ∀ G, va_D A (gw n ad G)) (G : Nat → va_E) (k cn : Nat) (f : Nat → Int64) (hk : k + 2 ≤ n) (hR : RR cT ad G k cn f) (x : Int64) (hc : cn ≤ 48) : Met l yX1_addTo (wA yX1_addTo cX1_addTo 6 (some .long)) ({ frames := 0, cells := 0, slots := 0, locals := 0 } : Room) (PG D cT n ad A G [.ref (ad k), .long x]) (QG D n ad A (fun v G1 => v = some (.long (rsum f (31 * x + lN cn) cn)) ∧ G1 = G)) 0 0 A := by
  refine Met.ofG (cc := cX1_addTo) (maxL := 6) (ret := (some .long)) (by decide) (Nat.le_of_ble_eq_true rfl) ?_
  intro p e s m args below meth c Q hQ hx hb hr hml hlocks hown hw hP hK hE hA hS ls hl
  have hl : lv_has ls 6 [(0, .ref (ad k)), (1, .long x)] := hl
  obtain ⟨hR1a, hR1b⟩ := hR
  refine lv_ldc2 hx hb hown (hw _ wk_X1_19) dX1_addTo_0 ?_
  refine lv_lload_n hx hb dX1_addTo_3 rfl (lv_at hl 1 rfl) ?_
  refine lv_lmul hx hb dX1_addTo_4 ?_
  refine lv_aload_n hx hb dX1_addTo_5 rfl (lv_at hl 0 rfl) ?_
  refine g_get (C := RX1) (T := TX1) (N := 2) hx hb hw inX1 hown hK hP (i := k) (by omega) hR1a rfl 1 (by decide) (hw _ wf_X1_15) rfl dX1_addTo_6 ?_
  refine lv_i2l hx hb dX1_addTo_9 rfl ?_
  refine t_eql (lN cn) (nI_l (by omega)) ?_
  refine lv_ladd hx hb dX1_addTo_10 ?_
  refine lv_lstore_n (lv' := [(3, .long ((31 * x) + (lN cn))), (0, .ref (ad k)), (1, .long x)]) hx hb dX1_addTo_11 rfl hl (by decide) rfl (fun ls hl => ?_)
  refine lv_iconst (v := nI 0) hx hb dX1_addTo_12 (by decide) ?_
  refine lv_istore (lv' := [(5, .int (nI 0)), (3, .long ((31 * x) + (lN cn))), (0, .ref (ad k)), (1, .long x)]) hx hb dX1_addTo_13 hl (by decide) rfl (fun ls hl => ?_)
  have key_1 : ∀ (fu : Nat) (i : Nat), (i ≤ cn) → (cn - i) < fu → ∀ (H : Heap) (locs : List Loc), va_P D vwCl (gw n ad G) H → va_S A s.heap H locs → ∀ ls : Array Slot, lv_has ls 6 [(5, .int (nI i)), (0, .ref (ad k)), (3, .long (rsum f (31 * x + lN cn) i))] → W p l e ({ frames := 0, cells := 0, slots := 0, locals := 0 } : Room) s m args below meth c H locs 0 0 Q (F0 m 15 ls []) := by
    intro fu_2
    induction fu_2 with
    | zero => intros; exfalso; omega
    | succ fu_2 ih_3 =>
      intro i hi hfu_4 H locs hP hS ls hl
      refine lv_iload hx hb dX1_addTo_15 (lv_at hl 0 rfl) ?_
      refine lv_aload_n hx hb dX1_addTo_17 rfl (lv_at hl 1 rfl) ?_
      refine g_get (C := RX1) (T := TX1) (N := 2) hx hb hw inX1 hown hK hP (i := k) (by omega) hR1a rfl 1 (by decide) (hw _ wf_X1_15) rfl dX1_addTo_18 ?_
      refine t_icmp_ge (tgt := 44) hx hb dX1_addTo_21 (by decide) (by omega) (by omega) (fun c_5 => ?_) (fun c_5 => ?_)
      · skip
        refine lv_lload_n hx hb dX1_addTo_44 rfl (lv_at hl 2 rfl) ?_
        refine g_retl hQ hx hb hr hlocks hP hS (⟨by rw [show i = cn by omega], rfl⟩) (Nat.le_of_ble_eq_true rfl) (Nat.le_of_ble_eq_true rfl) dX1_addTo_45
      · skip
        refine lv_ldc2 hx hb hown (hw _ wk_X1_19) dX1_addTo_24 ?_
        refine lv_lload_n hx hb dX1_addTo_27 rfl (lv_at hl 2 rfl) ?_
        refine lv_lmul hx hb dX1_addTo_28 ?_
        refine lv_aload_n hx hb dX1_addTo_29 rfl (lv_at hl 1 rfl) ?_
        refine g_get (C := RX1) (T := TX1) (N := 2) hx hb hw inX1 hown hK hP (i := k) (by omega) hR1a rfl 0 (by decide) (hw _ wf_X1_9) rfl dX1_addTo_30 ?_
        refine lv_iload hx hb dX1_addTo_33 (lv_at hl 0 rfl) ?_
        refine g_lald hx hb hK hP (i := (k + 1)) (by omega) hR1b (by omega) (by omega) dX1_addTo_35 ?_
        refine lv_ladd hx hb dX1_addTo_36 ?_
        refine lv_lstore_n (lv' := [(3, .long ((31 * (rsum f (31 * x + lN cn) i)) + (f i))), (5, .int (nI i)), (0, .ref (ad k))]) hx hb dX1_addTo_37 rfl hl (by decide) rfl (fun ls hl => ?_)
        refine lv_iinc (v := nI (i + 1)) (lv' := [(5, .int (nI (i + 1))), (3, .long ((31 * (rsum f (31 * x + lN cn) i)) + (f i))), (0, .ref (ad k))]) hx hb dX1_addTo_38 hl (k := 1) rfl (by exact nI_add i 1) (by decide) rfl (fun ls hl => ?_)
        refine lv_goto (tgt := 15) hx hb dX1_addTo_41 (by decide) ?_
        exact ih_3 (i + 1) (by omega) (by omega) _ _ hP hS ls (lv_sub hl [0, 2, 1] rfl)
  exact key_1 _ 0 (by omega) (Nat.lt_succ_self _) _ _ hP hS ls (lv_sub hl [0, 2, 1] rfl)

set_option maxHeartbeats 4000000 in
set_option maxRecDepth 100000 in
theorem mX1_reverse (l : Launch) (D : va_G) (cT : Nat → ClassId) (n : Nat) (ad : Nat → Nat) (A : Nat → Prop) (hD : ∀ G, va_D A (gw n ad G)) (G : Nat → va_E) (k cn : Nat) (f : Nat → Int64) (hk : k + 2 ≤ n) (hR : RR cT ad G k cn f) (hc : cn ≤ 48) : Met l yX1_reverse (wA yX1_reverse cX1_reverse 5 none) ({ frames := 0, cells := 0, slots := 0, locals := 0 } : Room) (PG D cT n ad A G [.ref (ad k)]) (QG D n ad A (fun v G1 => v = none ∧ (∀ j, (j < k ∨ k + 2 ≤ j) → G1 j = G j) ∧ RR cT ad G1 k cn (revA f cn))) 0 0 A := by
  refine Met.ofG (cc := cX1_reverse) (maxL := 5) (ret := none) (by decide) (Nat.le_of_ble_eq_true rfl) ?_
  intro p e s m args below meth c Q hQ hx hb hr hml hlocks hown hw hP hK hE hA hS ls hl
  have hl : lv_has ls 5 [(0, .ref (ad k))] := hl
  obtain ⟨hR1a, hR1b⟩ := hR
  refine lv_iconst (v := nI 0) hx hb dX1_reverse_0 (by decide) ?_
  refine lv_istore_n (lv' := [(1, .int (nI 0)), (0, .ref (ad k))]) hx hb dX1_reverse_1 rfl hl (by decide) rfl (fun ls hl => ?_)
  have key_1 : ∀ (fu : Nat) (i : Nat), (i ≤ cn / 2) → (cn / 2 - i) < fu → ∀ (Gl : Nat → va_E) (H : Heap) (locs : List Loc), (∀ j, (j < k ∨ k + 2 ≤ j) → Gl j = G j) → (RR cT ad Gl k cn (revP f cn i)) → va_P D vwCl (gw n ad Gl) H → va_S A s.heap H locs → ∀ ls : Array Slot, lv_has ls 5 [(1, .int (nI i)), (0, .ref (ad k))] → W p l e ({ frames := 0, cells := 0, slots := 0, locals := 0 } : Room) s m args below meth c H locs 0 0 Q (F0 m 2 ls []) := by
    intro fu_2
    induction fu_2 with
    | zero => intros; exfalso; omega
    | succ fu_2 ih_3 =>
      intro i hi hfu_4 Gl H locs hfL hRL hP hS ls hl
      obtain ⟨hL1, hL2⟩ := hRL
      refine lv_iload_n hx hb dX1_reverse_2 rfl (lv_at hl 0 rfl) ?_
      refine lv_aload_n hx hb dX1_reverse_3 rfl (lv_at hl 1 rfl) ?_
      refine g_get (C := RX1) (T := TX1) (N := 2) hx hb hw inX1 hown hK hP (i := k) (by omega) hL1 rfl 1 (by decide) (hw _ wf_X1_15) rfl dX1_reverse_4 ?_
      refine lv_iconst (v := nI 2) hx hb dX1_reverse_7 (by decide) ?_
      refine lv_idiv hx hb dX1_reverse_8 (nI_ne0 (by omega) (by omega)) ?_
      refine t_eqi (nI (cn / 2)) (pk_div (by omega) (by omega) (by omega)) ?_
      refine t_icmp_ge (tgt := 53) hx hb dX1_reverse_9 (by decide) (by omega) (by omega) (fun c_5 => ?_) (fun c_5 => ?_)
      · skip
        refine g_retv hQ hx hb hr hlocks hP hS (⟨rfl, hfL, hL1, hL2.trans (by rw [show i = cn / 2 by omega, revP_end])⟩) (Nat.le_of_ble_eq_true rfl) (Nat.le_of_ble_eq_true rfl) dX1_reverse_53
      · skip
        refine lv_aload_n hx hb dX1_reverse_12 rfl (lv_at hl 1 rfl) ?_
        refine g_get (C := RX1) (T := TX1) (N := 2) hx hb hw inX1 hown hK hP (i := k) (by omega) hL1 rfl 1 (by decide) (hw _ wf_X1_15) rfl dX1_reverse_13 ?_
        refine lv_iconst (v := nI 1) hx hb dX1_reverse_16 (by decide) ?_
        refine lv_isub hx hb dX1_reverse_17 ?_
        refine t_eqi (nI (cn - 1)) (pk_sub (by omega)) ?_
        refine lv_iload_n hx hb dX1_reverse_18 rfl (lv_at hl 0 rfl) ?_
        refine lv_isub hx hb dX1_reverse_19 ?_
        refine t_eqi (nI ((cn - 1) - i)) (pk_sub (by omega)) ?_
        refine lv_istore_n (lv' := [(2, .int (nI ((cn - 1) - i))), (1, .int (nI i)), (0, .ref (ad k))]) hx hb dX1_reverse_20 rfl hl (by decide) rfl (fun ls hl => ?_)
        refine lv_aload_n hx hb dX1_reverse_21 rfl (lv_at hl 2 rfl) ?_
        refine g_get (C := RX1) (T := TX1) (N := 2) hx hb hw inX1 hown hK hP (i := k) (by omega) hL1 rfl 0 (by decide) (hw _ wf_X1_9) rfl dX1_reverse_22 ?_
        refine lv_iload_n hx hb dX1_reverse_25 rfl (lv_at hl 1 rfl) ?_
        refine g_lald hx hb hK hP (i := (k + 1)) (by omega) hL2 (by omega) (by omega) dX1_reverse_26 ?_
        refine lv_lstore_n (lv' := [(3, .long ((revP f cn i) i)), (2, .int (nI ((cn - 1) - i))), (1, .int (nI i)), (0, .ref (ad k))]) hx hb dX1_reverse_27 rfl hl (by decide) rfl (fun ls hl => ?_)
        refine lv_aload_n hx hb dX1_reverse_28 rfl (lv_at hl 3 rfl) ?_
        refine g_get (C := RX1) (T := TX1) (N := 2) hx hb hw inX1 hown hK hP (i := k) (by omega) hL1 rfl 0 (by decide) (hw _ wf_X1_9) rfl dX1_reverse_29 ?_
        refine lv_iload_n hx hb dX1_reverse_32 rfl (lv_at hl 2 rfl) ?_
        refine lv_aload_n hx hb dX1_reverse_33 rfl (lv_at hl 3 rfl) ?_
        refine g_get (C := RX1) (T := TX1) (N := 2) hx hb hw inX1 hown hK hP (i := k) (by omega) hL1 rfl 0 (by decide) (hw _ wf_X1_9) rfl dX1_reverse_34 ?_
        refine lv_iload_n hx hb dX1_reverse_37 rfl (lv_at hl 1 rfl) ?_
        refine g_lald hx hb hK hP (i := (k + 1)) (by omega) hL2 (by omega) (by omega) dX1_reverse_38 ?_
        refine g_last hx hb hK hP hD hS (i := (k + 1)) (by omega) hL2 (by omega) (by omega) dX1_reverse_39 (fun G_6 H locs hg_G_6 ho_G_6 hP hS => ?_)
        have hc_7 : G_6 k = .inr (3, [.ref (ad (k + 1)), .int (nI cn)]) := (ho_G_6 _ (by omega)).trans hL1
        have hc_8 : G_6 (k + 1) = aJ cT 48 (va_up (revP f cn i) i ((revP f cn i) ((cn - 1) - i))) := hg_G_6
        have hfr_9 : ∀ j, (j < k ∨ k + 2 ≤ j) → G_6 j = G j := fun j hj => (ho_G_6 j (by omega)).trans (hfL j hj)
        refine lv_aload_n hx hb dX1_reverse_40 rfl (lv_at hl 3 rfl) ?_
        refine g_get (C := RX1) (T := TX1) (N := 2) hx hb hw inX1 hown hK hP (i := k) (by omega) hc_7 rfl 0 (by decide) (hw _ wf_X1_9) rfl dX1_reverse_41 ?_
        refine lv_iload_n hx hb dX1_reverse_44 rfl (lv_at hl 1 rfl) ?_
        refine lv_lload_n hx hb dX1_reverse_45 rfl (lv_at hl 0 rfl) ?_
        refine g_last hx hb hK hP hD hS (i := (k + 1)) (by omega) hc_8 (by omega) (by omega) dX1_reverse_46 (fun G_10 H locs hg_G_10 ho_G_10 hP hS => ?_)
        have hc_11 : G_10 k = .inr (3, [.ref (ad (k + 1)), .int (nI cn)]) := (ho_G_10 _ (by omega)).trans hc_7
        have hc_12 : G_10 (k + 1) = aJ cT 48 (va_up (va_up (revP f cn i) i ((revP f cn i) ((cn - 1) - i))) ((cn - 1) - i) ((revP f cn i) i)) := hg_G_10
        have hfr_13 : ∀ j, (j < k ∨ k + 2 ≤ j) → G_10 j = G j := fun j hj => (ho_G_10 j (by omega)).trans (hfr_9 j hj)
        refine lv_iinc (v := nI (i + 1)) (lv' := [(1, .int (nI (i + 1))), (3, .long ((revP f cn i) i)), (2, .int (nI ((cn - 1) - i))), (0, .ref (ad k))]) hx hb dX1_reverse_47 hl (k := 2) rfl (by exact nI_add i 1) (by decide) rfl (fun ls hl => ?_)
        refine lv_goto (tgt := 2) hx hb dX1_reverse_50 (by decide) ?_
        exact ih_3 (i + 1) (by omega) (by omega) _ _ _ (hfr_13) (⟨hc_11, hc_12.trans (by rw [revP_step (by omega)])⟩) hP hS ls (lv_sub hl [0, 3] rfl)
  exact key_1 _ 0 (by omega) (Nat.lt_succ_self _) _ _ _ (fun _ _ => rfl) (⟨hR1a, hR1b.trans (by rw [revP_0])⟩) hP hS ls (lv_sub hl [0, 1] rfl)
