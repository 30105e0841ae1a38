set_option maxRecDepth 100000 in
theorem sh2_ok0 : ∀ c, c < 97 → ∀ k, k < 49 → 0 < k → FP.f2d (shF c k) &&& 0x7fffffffffffffff ≤ 0x7ff0000000000000 := by decide +kernel
theorem sh2_ok {c k : Nat} (h1 : c ≤ 96) (h2 : k ≤ 48) (h3 : 0 < k) : vf_n64 (FP.f2d (shF c k)) := sh2_ok0 c (by omega) k (by omega) h3
set_option maxRecDepth 100000 in
theorem sh3_ok0 : ∀ c, c < 97 → ∀ k, k < 49 → 0 < k → Op.cmpValue (FP.dcmp (FP.f2d (shF c k)) (FP.f2d (shF c k))) .l = 0 := by decide +kernel
theorem sh3_ok {c k : Nat} (h1 : c ≤ 96) (h2 : k ≤ 48) (h3 : 0 < k) : Op.cmpValue (FP.dcmp (FP.f2d (shF c k)) (FP.f2d (shF c k))) .l = 0 := sh3_ok0 c (by omega) k (by omega) h3
set_option maxRecDepth 100000 in
theorem mn3_ok0 : ∀ c, c < 49 → ∀ k, k < 97 → 0 < k → Op.cmpValue (FP.dcmp (mnF c k) (mnF c k)) .l = 0 := by decide +kernel
theorem mn3_ok {c k : Nat} (h1 : c ≤ 48) (h2 : k ≤ 96) (h3 : 0 < k) : Op.cmpValue (FP.dcmp (mnF c k) (mnF c k)) .l = 0 := mn3_ok0 c (by omega) k (by omega) h3

set_option maxHeartbeats 4000000 in
set_option maxRecDepth 100000 in
theorem mL_append (l : Launch) (hl9 : l.stackTraces = false) (D : va_G) (cT : Nat → ClassId) (n : Nat) (ad : Nat → Nat) (A : Nat → Prop) (hD : ∀ G, va_D A (gw n ad G)) (G : Nat → va_E) (hn : 116 ≤ n) (σ : TY) (hY : YW cT ad G σ) (hI : YI σ) (f : Nat → Int64) (hO : G 114 = aJ cT 1 f) (ch : Nat) (hch : ch < 65536) (x : Int32) (z : Int64) : Met l yL_append (wB yL_append cL_append 7 (some .int) [(0, 12, 15, 13), (0, 12, 19, 15), (0, 12, 23, 17)]) ({ frames := 8, cells := 2, slots := 12, locals := 130 } : Room) (PG D cT n ad A G [.ref (ad 0), .int (nI ch), .int x, .long z, .ref (ad 114)]) (QG D n ad A (fun v G1 => (∃ (y8 : Int32) (G2 : Nat → va_E), (nmOK ch z ∧ onR ch x (fun r => (σ.1 r).1 < 48 ∧ (some (Value.int y8)) = some (.int (nI ((σ.1 r).1 + 1))) ∧ YW cT ad G2 (setR σ r ((σ.1 r).1 + 1, va_up (σ.1 r).2 (σ.1 r).1 z))) ∧ ∀ j, 69 ≤ j → G2 j = G j) ∧ G1 114 = aJ cT 1 (va_up f 0 (y8.toInt64)) ∧ (∀ j, j ≠ 114 → G1 j = G2 j) ∧ v = some (.int (nI 0))) ∨ (∃ E : String, ((¬ nmOK ch z ∧ E = xIA) ∨ (nmOK ch z ∧ (pxRow ch x E ∨ onR ch x (fun r => (σ.1 r).1 = 48 ∧ E = xIS)))) ∧ v = some (.int (nI (cd [xIA, xIO, xIS] E))) ∧ G1 = G))) 2 12 A := by
  refine Met.ofH (cc := cL_append) (maxL := 7) (ret := (some .int)) (by decide) (Nat.le_of_ble_eq_true rfl) ?_
  intro p e s m args below meth c Q hQ hT hx hb hr hml hlocks hown hw hP hK hE hA hS ls hl
  have hl : lv_has ls 7 [(0, .ref (ad 0)), (1, .int (nI ch)), (2, .int x), (3, .long z), (5, .ref (ad 114))] := hl
  refine lv_aload hx hb dL_append_0 (lv_at hl 4 rfl) ?_
  refine lv_iconst (v := nI 0) hx hb dL_append_2 (by decide) ?_
  refine lv_aload_n hx hb dL_append_3 rfl (lv_at hl 0 rfl) ?_
  refine lv_iload_n hx hb dL_append_4 rfl (lv_at hl 1 rfl) ?_
  refine lv_iload_n hx hb dL_append_5 rfl (lv_at hl 2 rfl) ?_
  refine lv_lload_n hx hb dL_append_6 rfl (lv_at hl 3 rfl) ?_
  refine g_callVX (As := [.int (nI ch), .int x, .long z]) (rest := [.int (nI 0), .ref (ad 114)]) ⟨hx, hb, hml, hown, hw⟩ (mX2_append l hl9 D cT n ad A hD G σ hY (by omega) hI ch (by omega) x z) (cwV 3 hw (gWV wm_L_7 wi_X2_append wse_X2_append wini_X2 wc_X2_append) rfl rfl rfl (by decide +kernel) ⟨Nat.le_of_ble_eq_true rfl, Nat.le_of_ble_eq_true rfl⟩) hK hE hA hP hS (k := 0) (by omega) hY.1.1 rfl rfl hl.1 (lv_room (Nat.le_of_ble_eq_true rfl)) dL_append_7 ⟨Nat.le_of_ble_eq_true rfl, Nat.le_of_ble_eq_true rfl⟩ (fun E ce q9 H locs hpx hP hS hce hcv hcl => ?_) (fun v G1 H locs hp hP hS => ?_)
  · have hpx9 := hpx
    rcases hpx with ⟨_, rfl⟩ | ⟨_, (⟨_, rfl⟩ | ⟨_, _, rfl⟩) | ⟨_, _, _, _, _, _, _, rfl⟩⟩
    · skip
      have hps : ∀ z ∈ ([] : List ExceptionTableEntry), z.catchType ≠ 0 ∧ ∃ y ∈ xcL, xIA ≠ y ∧ (Cond.classLink RL z.catchType y).before args s = true := fun z hz => absurd hz List.not_mem_nil
      refine g_catch (E := xIA) (pre := []) (x := ⟨0, 12, 15, 13⟩) (suf := [⟨0, 12, 19, 15⟩, ⟨0, 12, 23, 17⟩]) hT hown hE (by decide +kernel) hps (by decide) (by decide) (hw _ wcl_L_13) hce hcv hcl ?_
      refine lv_astore (lv' := [(6, .ref q9), (0, .ref (ad 0)), (1, .int (nI ch)), (2, .int x), (3, .long z), (5, .ref (ad 114))]) hx hb dL_append_15 hl (by decide) rfl (fun ls hl => ?_)
      refine lv_iconst (v := nI 1) hx hb dL_append_17 (by decide) ?_
      refine g_ret hQ hx hb hr hlocks rfl hP hS (Or.inr ⟨xIA, hpx9, by rw [show cd [xIA, xIO, xIS] xIA = 1 from by decide +kernel], rfl⟩) (Nat.le_of_ble_eq_true rfl) (Nat.le_of_ble_eq_true rfl) dL_append_18
    · skip
      have hps : ∀ z ∈ ([] : List ExceptionTableEntry), z.catchType ≠ 0 ∧ ∃ y ∈ xcL, xIA ≠ y ∧ (Cond.classLink RL z.catchType y).before args s = true := fun z hz => absurd hz List.not_mem_nil
      refine g_catch (E := xIA) (pre := []) (x := ⟨0, 12, 15, 13⟩) (suf := [⟨0, 12, 19, 15⟩, ⟨0, 12, 23, 17⟩]) hT hown hE (by decide +kernel) hps (by decide) (by decide) (hw _ wcl_L_13) hce hcv hcl ?_
      refine lv_astore (lv' := [(6, .ref q9), (0, .ref (ad 0)), (1, .int (nI ch)), (2, .int x), (3, .long z), (5, .ref (ad 114))]) hx hb dL_append_15 hl (by decide) rfl (fun ls hl => ?_)
      refine lv_iconst (v := nI 1) hx hb dL_append_17 (by decide) ?_
      refine g_ret hQ hx hb hr hlocks rfl hP hS (Or.inr ⟨xIA, hpx9, by rw [show cd [xIA, xIO, xIS] xIA = 1 from by decide +kernel], rfl⟩) (Nat.le_of_ble_eq_true rfl) (Nat.le_of_ble_eq_true rfl) dL_append_18
    · skip
      have hps : ∀ z ∈ ([⟨0, 12, 15, 13⟩] : List ExceptionTableEntry), z.catchType ≠ 0 ∧ ∃ y ∈ xcL, xIO ≠ y ∧ (Cond.classLink RL z.catchType y).before args s = true := fun z hz => by
              rcases List.mem_cons.mp hz with rfl | hz
              · exact ⟨by decide, xIA, by decide +kernel, by decide +kernel, hw _ wcl_L_13⟩
              exact absurd hz List.not_mem_nil
      refine g_catch (E := xIO) (pre := [⟨0, 12, 15, 13⟩]) (x := ⟨0, 12, 19, 15⟩) (suf := [⟨0, 12, 23, 17⟩]) hT hown hE (by decide +kernel) hps (by decide) (by decide) (hw _ wcl_L_15) hce hcv hcl ?_
      refine lv_astore (lv' := [(6, .ref q9), (0, .ref (ad 0)), (1, .int (nI ch)), (2, .int x), (3, .long z), (5, .ref (ad 114))]) hx hb dL_append_19 hl (by decide) rfl (fun ls hl => ?_)
      refine lv_iconst (v := nI 2) hx hb dL_append_21 (by decide) ?_
      refine g_ret hQ hx hb hr hlocks rfl hP hS (Or.inr ⟨xIO, hpx9, by rw [show cd [xIA, xIO, xIS] xIO = 2 from by decide +kernel], rfl⟩) (Nat.le_of_ble_eq_true rfl) (Nat.le_of_ble_eq_true rfl) dL_append_22
    · skip
      have hps : ∀ z ∈ ([⟨0, 12, 15, 13⟩, ⟨0, 12, 19, 15⟩] : List ExceptionTableEntry), z.catchType ≠ 0 ∧ ∃ y ∈ xcL, xIS ≠ y ∧ (Cond.classLink RL z.catchType y).before args s = true := fun z hz => by
              rcases List.mem_cons.mp hz with rfl | hz
              · exact ⟨by decide, xIA, by decide +kernel, by decide +kernel, hw _ wcl_L_13⟩
              rcases List.mem_cons.mp hz with rfl | hz
              · exact ⟨by decide, xIO, by decide +kernel, by decide +kernel, hw _ wcl_L_15⟩
              exact absurd hz List.not_mem_nil
      refine g_catch (E := xIS) (pre := [⟨0, 12, 15, 13⟩, ⟨0, 12, 19, 15⟩]) (x := ⟨0, 12, 23, 17⟩) (suf := []) hT hown hE (by decide +kernel) hps (by decide) (by decide) (hw _ wcl_L_17) hce hcv hcl ?_
      refine lv_astore (lv' := [(6, .ref q9), (0, .ref (ad 0)), (1, .int (nI ch)), (2, .int x), (3, .long z), (5, .ref (ad 114))]) hx hb dL_append_23 hl (by decide) rfl (fun ls hl => ?_)
      refine lv_iconst (v := nI 3) hx hb dL_append_25 (by decide) ?_
      refine g_ret hQ hx hb hr hlocks rfl hP hS (Or.inr ⟨xIS, hpx9, by rw [show cd [xIA, xIO, xIS] xIS = 3 from by decide +kernel], rfl⟩) (Nat.le_of_ble_eq_true rfl) (Nat.le_of_ble_eq_true rfl) dL_append_26
  · skip
    have hv : ∃ y, v = some (.int y) := by
      rcases hp with ⟨_, ⟨_, _, _, _, _, _, _, h, _⟩, _⟩
      all_goals exact ⟨_, h⟩
    obtain ⟨y9, rfl⟩ := hv
    have hO1 : G1 114 = aJ cT 1 f := ((hp.2.2) 114 (by omega)).trans hO
    refine lv_i2l hx hb dL_append_10 rfl ?_
    refine g_last hx hb hK hP hD hS (i := 114) (by omega) hO1 (by omega) (by omega) dL_append_11 (fun G_1 H locs hg_G_1 ho_G_1 hP hS => ?_)
    have hc_2 : G_1 114 = aJ cT 1 (va_up f 0 y9.toInt64) := hg_G_1
    refine lv_goto (tgt := 27) hx hb dL_append_12 (by decide) ?_
    refine lv_iconst (v := nI 0) hx hb dL_append_27 (by decide) ?_
    refine g_ret hQ hx hb hr hlocks rfl hP hS (Or.inl ⟨y9, G1, hp, hc_2, ho_G_1, rfl⟩) (Nat.le_of_ble_eq_true rfl) (Nat.le_of_ble_eq_true rfl) dL_append_28

set_option maxHeartbeats 4000000 in
set_option maxRecDepth 100000 in
theorem mL_lay (l : Launch) (hl9 : l.stackTraces = false) (D : va_G) (cT : Nat → ClassId) (n : Nat) (ad : Nat → Nat) (A : Nat → Prop) (hD : ∀ G, va_D A (gw n ad G)) (G : Nat → va_E) (hn : 116 ≤ n) (σ : TY) (hY : YW cT ad G σ) (hI : YI σ) (f : Nat → Int64) (hO : G 114 = aJ cT 1 f) (ch : Nat) (hch : ch < 65536) (x y : Int32) (a b : Int64) : Met l yL_lay (wB yL_lay cL_lay 10 (some .int) [(0, 16, 19, 13), (0, 16, 23, 15)]) ({ frames := 8, cells := 1, slots := 6, locals := 137 } : Room) (PG D cT n ad A G [.ref (ad 0), .int (nI ch), .int x, .int y, .long a, .long b, .ref (ad 114)]) (QG D n ad A (fun v G1 => (∃ (y8 : Int32) (G2 : Nat → va_E), ((∃ t, t ≤ 48 ∧ y = nI t ∧ onR ch x (fun r => (some (Value.int y8)) = some (.int (nI (σ.1 r).1)) ∧ YW cT ad G2 (setR σ r (t, gvF (σ.1 r).2 0 t (layF ch a b))))) ∧ ∀ j, 69 ≤ j → G2 j = G j) ∧ G1 114 = aJ cT 1 (va_up f 0 (y8.toInt64)) ∧ (∀ j, j ≠ 114 → G1 j = G2 j) ∧ v = some (.int (nI 0))) ∨ (∃ E : String, (((y < 0 ∨ nI 48 < y) ∧ E = xIA) ∨ (∃ t, t ≤ 48 ∧ y = nI t ∧ pxRow ch x E)) ∧ v = some (.int (nI (cd [xIA, xIO] E))) ∧ G1 = G))) 1 6 A := by
  refine Met.ofH (cc := cL_lay) (maxL := 10) (ret := (some .int)) (by decide) (Nat.le_of_ble_eq_true rfl) ?_
  intro p e s m args below meth c Q hQ hT hx hb hr hml hlocks hown hw hP hK hE hA hS ls hl
  have hl : lv_has ls 10 [(0, .ref (ad 0)), (1, .int (nI ch)), (2, .int x), (3, .int y), (4, .long a), (6, .long b), (8, .ref (ad 114))] := hl
  refine lv_aload hx hb dL_lay_0 (lv_at hl 6 rfl) ?_
  refine lv_iconst (v := nI 0) hx hb dL_lay_2 (by decide) ?_
  refine lv_aload_n hx hb dL_lay_3 rfl (lv_at hl 0 rfl) ?_
  refine lv_iload_n hx hb dL_lay_4 rfl (lv_at hl 1 rfl) ?_
  refine lv_iload_n hx hb dL_lay_5 rfl (lv_at hl 2 rfl) ?_
  refine lv_iload_n hx hb dL_lay_6 rfl (lv_at hl 3 rfl) ?_
  refine lv_lload hx hb dL_lay_7 (lv_at hl 4 rfl) ?_
  refine lv_lload hx hb dL_lay_9 (lv_at hl 5 rfl) ?_
  refine g_callVX (As := [.int (nI ch), .int x, .int y, .long a, .long b]) (rest := [.int (nI 0), .ref (ad 114)]) ⟨hx, hb, hml, hown, hw⟩ (mX2_lay l hl9 D cT n ad A hD G σ hY (by omega) hI ch (by omega) x y a b) (cwV 5 hw (gWV wm_L_19 wi_X2_lay wse_X2_lay wini_X2 wc_X2_lay) rfl rfl rfl (by decide +kernel) ⟨Nat.le_of_ble_eq_true rfl, Nat.le_of_ble_eq_true rfl⟩) hK hE hA hP hS (k := 0) (by omega) hY.1.1 rfl rfl hl.1 (lv_room (Nat.le_of_ble_eq_true rfl)) dL_lay_11 ⟨Nat.le_of_ble_eq_true rfl, Nat.le_of_ble_eq_true rfl⟩ (fun E ce q9 H locs hpx hP hS hce hcv hcl => ?_) (fun v G1 H locs hp hP hS => ?_)
  · have hpx9 := hpx
    rcases hpx with ⟨_, rfl⟩ | ⟨_, _, _, (⟨_, rfl⟩ | ⟨_, _, rfl⟩)⟩
    · skip
      have hps : ∀ z ∈ ([] : List ExceptionTableEntry), z.catchType ≠ 0 ∧ ∃ y ∈ xcL, xIA ≠ y ∧ (Cond.classLink RL z.catchType y).before args s = true := fun z hz => absurd hz List.not_mem_nil
      refine g_catch (E := xIA) (pre := []) (x := ⟨0, 16, 19, 13⟩) (suf := [⟨0, 16, 23, 15⟩]) hT hown hE (by decide +kernel) hps (by decide) (by decide) (hw _ wcl_L_13) hce hcv hcl ?_
      refine lv_astore (lv' := [(9, .ref q9), (0, .ref (ad 0)), (1, .int (nI ch)), (2, .int x), (3, .int y), (4, .long a), (6, .long b), (8, .ref (ad 114))]) hx hb dL_lay_19 hl (by decide) rfl (fun ls hl => ?_)
      refine lv_iconst (v := nI 1) hx hb dL_lay_21 (by decide) ?_
      refine g_ret hQ hx hb hr hlocks rfl hP hS (Or.inr ⟨xIA, hpx9, by rw [show cd [xIA, xIO] xIA = 1 from by decide +kernel], rfl⟩) (Nat.le_of_ble_eq_true rfl) (Nat.le_of_ble_eq_true rfl) dL_lay_22
    · skip
      have hps : ∀ z ∈ ([] : List ExceptionTableEntry), z.catchType ≠ 0 ∧ ∃ y ∈ xcL, xIA ≠ y ∧ (Cond.classLink RL z.catchType y).before args s = true := fun z hz => absurd hz List.not_mem_nil
      refine g_catch (E := xIA) (pre := []) (x := ⟨0, 16, 19, 13⟩) (suf := [⟨0, 16, 23, 15⟩]) hT hown hE (by decide +kernel) hps (by decide) (by decide) (hw _ wcl_L_13) hce hcv hcl ?_
      refine lv_astore (lv' := [(9, .ref q9), (0, .ref (ad 0)), (1, .int (nI ch)), (2, .int x), (3, .int y), (4, .long a), (6, .long b), (8, .ref (ad 114))]) hx hb dL_lay_19 hl (by decide) rfl (fun ls hl => ?_)
      refine lv_iconst (v := nI 1) hx hb dL_lay_21 (by decide) ?_
      refine g_ret hQ hx hb hr hlocks rfl hP hS (Or.inr ⟨xIA, hpx9, by rw [show cd [xIA, xIO] xIA = 1 from by decide +kernel], rfl⟩) (Nat.le_of_ble_eq_true rfl) (Nat.le_of_ble_eq_true rfl) dL_lay_22
    · skip
      have hps : ∀ z ∈ ([⟨0, 16, 19, 13⟩] : List ExceptionTableEntry), z.catchType ≠ 0 ∧ ∃ y ∈ xcL, xIO ≠ y ∧ (Cond.classLink RL z.catchType y).before args s = true := fun z hz => by
              rcases List.mem_cons.mp hz with rfl | hz
              · exact ⟨by decide, xIA, by decide +kernel, by decide +kernel, hw _ wcl_L_13⟩
              exact absurd hz List.not_mem_nil
      refine g_catch (E := xIO) (pre := [⟨0, 16, 19, 13⟩]) (x := ⟨0, 16, 23, 15⟩) (suf := []) hT hown hE (by decide +kernel) hps (by decide) (by decide) (hw _ wcl_L_15) hce hcv hcl ?_
      refine lv_astore (lv' := [(9, .ref q9), (0, .ref (ad 0)), (1, .int (nI ch)), (2, .int x), (3, .int y), (4, .long a), (6, .long b), (8, .ref (ad 114))]) hx hb dL_lay_23 hl (by decide) rfl (fun ls hl => ?_)
      refine lv_iconst (v := nI 2) hx hb dL_lay_25 (by decide) ?_
      refine g_ret hQ hx hb hr hlocks rfl hP hS (Or.inr ⟨xIO, hpx9, by rw [show cd [xIA, xIO] xIO = 2 from by decide +kernel], rfl⟩) (Nat.le_of_ble_eq_true rfl) (Nat.le_of_ble_eq_true rfl) dL_lay_26
  · skip
    have hv : ∃ y, v = some (.int y) := by
      rcases hp with ⟨⟨_, _, _, _, _, _, _, _, _, h, _⟩, _⟩
      all_goals exact ⟨_, h⟩
    obtain ⟨y9, rfl⟩ := hv
    have hO1 : G1 114 = aJ cT 1 f := ((hp.2) 114 (by omega)).trans hO
    refine lv_i2l hx hb dL_lay_14 rfl ?_
    refine g_last hx hb hK hP hD hS (i := 114) (by omega) hO1 (by omega) (by omega) dL_lay_15 (fun G_1 H locs hg_G_1 ho_G_1 hP hS => ?_)
    have hc_2 : G_1 114 = aJ cT 1 (va_up f 0 y9.toInt64) := hg_G_1
    refine lv_goto (tgt := 27) hx hb dL_lay_16 (by decide) ?_
    refine lv_iconst (v := nI 0) hx hb dL_lay_27 (by decide) ?_
    refine g_ret hQ hx hb hr hlocks rfl hP hS (Or.inl ⟨y9, G1, hp, hc_2, ho_G_1, rfl⟩) (Nat.le_of_ble_eq_true rfl) (Nat.le_of_ble_eq_true rfl) dL_lay_28

set_option maxHeartbeats 4000000 in
set_option maxRecDepth 100000 in
theorem mL_turn (l : Launch) (hl9 : l.stackTraces = false) (D : va_G) (cT : Nat → ClassId) (n : Nat) (ad : Nat → Nat) (A : Nat → Prop) (hD : ∀ G, va_D A (gw n ad G)) (G : Nat → va_E) (hn : 116 ≤ n) (σ : TY) (hY : YW cT ad G σ) (hI : YI σ) (f : Nat → Int64) (hO : G 114 = aJ cT 1 f) (ch : Nat) (hch : ch < 65536) (x : Int32) : Met l yL_turn (wB yL_turn cL_turn 5 (some .int) [(0, 10, 13, 13), (0, 10, 17, 15)]) ({ frames := 8, cells := 1, slots := 6, locals := 128 } : Room) (PG D cT n ad A G [.ref (ad 0), .int (nI ch), .int x, .ref (ad 114)]) (QG D n ad A (fun v G1 => (∃ (y8 : Int32) (G2 : Nat → va_E), (onR ch x (fun r => (some (Value.int y8)) = some (.int (nI (σ.1 r).1)) ∧ YW cT ad G2 (setR σ r ((σ.1 r).1, revA (σ.1 r).2 (σ.1 r).1))) ∧ ∀ j, 69 ≤ j → G2 j = G j) ∧ G1 114 = aJ cT 1 (va_up f 0 (y8.toInt64)) ∧ (∀ j, j ≠ 114 → G1 j = G2 j) ∧ v = some (.int (nI 0))) ∨ (∃ E : String, (pxRow ch x E) ∧ v = some (.int (nI (cd [xIA, xIO] E))) ∧ G1 = G))) 1 6 A := by
  refine Met.ofH (cc := cL_turn) (maxL := 5) (ret := (some .int)) (by decide) (Nat.le_of_ble_eq_true rfl) ?_
  intro p e s m args below meth c Q hQ hT hx hb hr hml hlocks hown hw hP hK hE hA hS ls hl
  have hl : lv_has ls 5 [(0, .ref (ad 0)), (1, .int (nI ch)), (2, .int x), (3, .ref (ad 114))] := hl
  refine lv_aload_n hx hb dL_turn_0 rfl (lv_at hl 3 rfl) ?_
  refine lv_iconst (v := nI 0) hx hb dL_turn_1 (by decide) ?_
  refine lv_aload_n hx hb dL_turn_2 rfl (lv_at hl 0 rfl) ?_
  refine lv_iload_n hx hb dL_turn_3 rfl (lv_at hl 1 rfl) ?_
  refine lv_iload_n hx hb dL_turn_4 rfl (lv_at hl 2 rfl) ?_
  refine g_callVX (As := [.int (nI ch), .int x]) (rest := [.int (nI 0), .ref (ad 114)]) ⟨hx, hb, hml, hown, hw⟩ (mX2_turn l hl9 D cT n ad A hD G σ hY (by omega) hI ch (by omega) x) (cwV 2 hw (gWV wm_L_23 wi_X2_turn wse_X2_turn wini_X2 wc_X2_turn) rfl rfl rfl (by decide +kernel) ⟨Nat.le_of_ble_eq_true rfl, Nat.le_of_ble_eq_true rfl⟩) hK hE hA hP hS (k := 0) (by omega) hY.1.1 rfl rfl hl.1 (lv_room (Nat.le_of_ble_eq_true rfl)) dL_turn_5 ⟨Nat.le_of_ble_eq_true rfl, Nat.le_of_ble_eq_true rfl⟩ (fun E ce q9 H locs hpx hP hS hce hcv hcl => ?_) (fun v G1 H locs hp hP hS => ?_)
  · have hpx9 := hpx
    rcases hpx with ⟨_, rfl⟩ | ⟨_, _, rfl⟩
    · skip
      have hps : ∀ z ∈ ([] : List ExceptionTableEntry), z.catchType ≠ 0 ∧ ∃ y ∈ xcL, xIA ≠ y ∧ (Cond.classLink RL z.catchType y).before args s = true := fun z hz => absurd hz List.not_mem_nil
      refine g_catch (E := xIA) (pre := []) (x := ⟨0, 10, 13, 13⟩) (suf := [⟨0, 10, 17, 15⟩]) hT hown hE (by decide +kernel) hps (by decide) (by decide) (hw _ wcl_L_13) hce hcv hcl ?_
      refine lv_astore (lv' := [(4, .ref q9), (0, .ref (ad 0)), (1, .int (nI ch)), (2, .int x), (3, .ref (ad 114))]) hx hb dL_turn_13 hl (by decide) rfl (fun ls hl => ?_)
      refine lv_iconst (v := nI 1) hx hb dL_turn_15 (by decide) ?_
      refine g_ret hQ hx hb hr hlocks rfl hP hS (Or.inr ⟨xIA, hpx9, by rw [show cd [xIA, xIO] xIA = 1 from by decide +kernel], rfl⟩) (Nat.le_of_ble_eq_true rfl) (Nat.le_of_ble_eq_true rfl) dL_turn_16
    · skip
      have hps : ∀ z ∈ ([⟨0, 10, 13, 13⟩] : List ExceptionTableEntry), z.catchType ≠ 0 ∧ ∃ y ∈ xcL, xIO ≠ y ∧ (Cond.classLink RL z.catchType y).before args s = true := fun z hz => by
              rcases List.mem_cons.mp hz with rfl | hz
              · exact ⟨by decide, xIA, by decide +kernel, by decide +kernel, hw _ wcl_L_13⟩
              exact absurd hz List.not_mem_nil
      refine g_catch (E := xIO) (pre := [⟨0, 10, 13, 13⟩]) (x := ⟨0, 10, 17, 15⟩) (suf := []) hT hown hE (by decide +kernel) hps (by decide) (by decide) (hw _ wcl_L_15) hce hcv hcl ?_
      refine lv_astore (lv' := [(4, .ref q9), (0, .ref (ad 0)), (1, .int (nI ch)), (2, .int x), (3, .ref (ad 114))]) hx hb dL_turn_17 hl (by decide) rfl (fun ls hl => ?_)
      refine lv_iconst (v := nI 2) hx hb dL_turn_19 (by decide) ?_
      refine g_ret hQ hx hb hr hlocks rfl hP hS (Or.inr ⟨xIO, hpx9, by rw [show cd [xIA, xIO] xIO = 2 from by decide +kernel], rfl⟩) (Nat.le_of_ble_eq_true rfl) (Nat.le_of_ble_eq_true rfl) dL_turn_20
  · skip
    have hv : ∃ y, v = some (.int y) := by
      rcases hp with ⟨⟨_, _, _, _, _, _, h, _⟩, _⟩
      all_goals exact ⟨_, h⟩
    obtain ⟨y9, rfl⟩ := hv
    have hO1 : G1 114 = aJ cT 1 f := ((hp.2) 114 (by omega)).trans hO
    refine lv_i2l hx hb dL_turn_8 rfl ?_
    refine g_last hx hb hK hP hD hS (i := 114) (by omega) hO1 (by omega) (by omega) dL_turn_9 (fun G_1 H locs hg_G_1 ho_G_1 hP hS => ?_)
    have hc_2 : G_1 114 = aJ cT 1 (va_up f 0 y9.toInt64) := hg_G_1
    refine lv_goto (tgt := 21) hx hb dL_turn_10 (by decide) ?_
    refine lv_iconst (v := nI 0) hx hb dL_turn_21 (by decide) ?_
    refine g_ret hQ hx hb hr hlocks rfl hP hS (Or.inl ⟨y9, G1, hp, hc_2, ho_G_1, rfl⟩) (Nat.le_of_ble_eq_true rfl) (Nat.le_of_ble_eq_true rfl) dL_turn_22

set_option maxHeartbeats 4000000 in
set_option maxRecDepth 100000 in
theorem mL_length (l : Launch) (hl9 : l.stackTraces = false) (D : va_G) (cT : Nat → ClassId) (n : Nat) (ad : Nat → Nat) (A : Nat → Prop) (hD : ∀ G, va_D A (gw n ad G)) (G : Nat → va_E) (hn : 116 ≤ n) (σ : TY) (hY : YW cT ad G σ) (hI : YI σ) (f : Nat → Int64) (hO : G 114 = aJ cT 1 f) (ch : Nat) (hch : ch < 65536) (x : Int32) : Met l yL_length (wB yL_length cL_length 5 (some .int) [(0, 10, 13, 13), (0, 10, 17, 15)]) ({ frames := 8, cells := 1, slots := 6, locals := 127 } : Room) (PG D cT n ad A G [.ref (ad 0), .int (nI ch), .int x, .ref (ad 114)]) (QG D n ad A (fun v G1 => (∃ (y8 : Int32) (G2 : Nat → va_E), (onR ch x (fun r => (some (Value.int y8)) = some (.int (nI (σ.1 r).1))) ∧ G2 = G) ∧ G1 114 = aJ cT 1 (va_up f 0 (y8.toInt64)) ∧ (∀ j, j ≠ 114 → G1 j = G2 j) ∧ v = some (.int (nI 0))) ∨ (∃ E : String, (pxRow ch x E) ∧ v = some (.int (nI (cd [xIA, xIO] E))) ∧ G1 = G))) 1 6 A := by
  refine Met.ofH (cc := cL_length) (maxL := 5) (ret := (some .int)) (by decide) (Nat.le_of_ble_eq_true rfl) ?_
  intro p e s m args below meth c Q hQ hT hx hb hr hml hlocks hown hw hP hK hE hA hS ls hl
  have hl : lv_has ls 5 [(0, .ref (ad 0)), (1, .int (nI ch)), (2, .int x), (3, .ref (ad 114))] := hl
  refine lv_aload_n hx hb dL_length_0 rfl (lv_at hl 3 rfl) ?_
  refine lv_iconst (v := nI 0) hx hb dL_length_1 (by decide) ?_
  refine lv_aload_n hx hb dL_length_2 rfl (lv_at hl 0 rfl) ?_
  refine lv_iload_n hx hb dL_length_3 rfl (lv_at hl 1 rfl) ?_
  refine lv_iload_n hx hb dL_length_4 rfl (lv_at hl 2 rfl) ?_
  refine g_callVX (As := [.int (nI ch), .int x]) (rest := [.int (nI 0), .ref (ad 114)]) ⟨hx, hb, hml, hown, hw⟩ (mX2_length l hl9 D cT n ad A hD G σ hY (by omega) hI ch (by omega) x) (cwV 2 hw (gWV wm_L_27 wi_X2_length wse_X2_length wini_X2 wc_X2_length) rfl rfl rfl (by decide +kernel) ⟨Nat.le_of_ble_eq_true rfl, Nat.le_of_ble_eq_true rfl⟩) hK hE hA hP hS (k := 0) (by omega) hY.1.1 rfl rfl hl.1 (lv_room (Nat.le_of_ble_eq_true rfl)) dL_length_5 ⟨Nat.le_of_ble_eq_true rfl, Nat.le_of_ble_eq_true rfl⟩ (fun E ce q9 H locs hpx hP hS hce hcv hcl => ?_) (fun v G1 H locs hp hP hS => ?_)
  · have hpx9 := hpx
    rcases hpx with ⟨_, rfl⟩ | ⟨_, _, rfl⟩
    · skip
      have hps : ∀ z ∈ ([] : List ExceptionTableEntry), z.catchType ≠ 0 ∧ ∃ y ∈ xcL, xIA ≠ y ∧ (Cond.classLink RL z.catchType y).before args s = true := fun z hz => absurd hz List.not_mem_nil
      refine g_catch (E := xIA) (pre := []) (x := ⟨0, 10, 13, 13⟩) (suf := [⟨0, 10, 17, 15⟩]) hT hown hE (by decide +kernel) hps (by decide) (by decide) (hw _ wcl_L_13) hce hcv hcl ?_
      refine lv_astore (lv' := [(4, .ref q9), (0, .ref (ad 0)), (1, .int (nI ch)), (2, .int x), (3, .ref (ad 114))]) hx hb dL_length_13 hl (by decide) rfl (fun ls hl => ?_)
      refine lv_iconst (v := nI 1) hx hb dL_length_15 (by decide) ?_
      refine g_ret hQ hx hb hr hlocks rfl hP hS (Or.inr ⟨xIA, hpx9, by rw [show cd [xIA, xIO] xIA = 1 from by decide +kernel], rfl⟩) (Nat.le_of_ble_eq_true rfl) (Nat.le_of_ble_eq_true rfl) dL_length_16
    · skip
      have hps : ∀ z ∈ ([⟨0, 10, 13, 13⟩] : List ExceptionTableEntry), z.catchType ≠ 0 ∧ ∃ y ∈ xcL, xIO ≠ y ∧ (Cond.classLink RL z.catchType y).before args s = true := fun z hz => by
              rcases List.mem_cons.mp hz with rfl | hz
              · exact ⟨by decide, xIA, by decide +kernel, by decide +kernel, hw _ wcl_L_13⟩
              exact absurd hz List.not_mem_nil
      refine g_catch (E := xIO) (pre := [⟨0, 10, 13, 13⟩]) (x := ⟨0, 10, 17, 15⟩) (suf := []) hT hown hE (by decide +kernel) hps (by decide) (by decide) (hw _ wcl_L_15) hce hcv hcl ?_
      refine lv_astore (lv' := [(4, .ref q9), (0, .ref (ad 0)), (1, .int (nI ch)), (2, .int x), (3, .ref (ad 114))]) hx hb dL_length_17 hl (by decide) rfl (fun ls hl => ?_)
      refine lv_iconst (v := nI 2) hx hb dL_length_19 (by decide) ?_
      refine g_ret hQ hx hb hr hlocks rfl hP hS (Or.inr ⟨xIO, hpx9, by rw [show cd [xIA, xIO] xIO = 2 from by decide +kernel], rfl⟩) (Nat.le_of_ble_eq_true rfl) (Nat.le_of_ble_eq_true rfl) dL_length_20
  · skip
    have hv : ∃ y, v = some (.int y) := by
      rcases hp with ⟨⟨_, _, _, _, _, _, h⟩, _⟩
      all_goals exact ⟨_, h⟩
    obtain ⟨y9, rfl⟩ := hv
    have hO1 : G1 114 = aJ cT 1 f := by
      rw [hp.2]
      exact hO
    refine lv_i2l hx hb dL_length_8 rfl ?_
    refine g_last hx hb hK hP hD hS (i := 114) (by omega) hO1 (by omega) (by omega) dL_length_9 (fun G_1 H locs hg_G_1 ho_G_1 hP hS => ?_)
    have hc_2 : G_1 114 = aJ cT 1 (va_up f 0 y9.toInt64) := hg_G_1
    refine lv_goto (tgt := 21) hx hb dL_length_10 (by decide) ?_
    refine lv_iconst (v := nI 0) hx hb dL_length_21 (by decide) ?_
    refine g_ret hQ hx hb hr hlocks rfl hP hS (Or.inl ⟨y9, G1, hp, hc_2, ho_G_1, rfl⟩) (Nat.le_of_ble_eq_true rfl) (Nat.le_of_ble_eq_true rfl) dL_length_22

set_option maxHeartbeats 4000000 in
set_option maxRecDepth 100000 in
theorem mL_number (l : Launch) (hl9 : l.stackTraces = false) (D : va_G) (cT : Nat → ClassId) (n : Nat) (ad : Nat → Nat) (A : Nat → Prop) (hD : ∀ G, va_D A (gw n ad G)) (G : Nat → va_E) (hn : 116 ≤ n) (σ : TY) (hY : YW cT ad G σ) (hI : YI σ) (f : Nat → Int64) (hO : G 114 = aJ cT 1 f) (ch : Nat) (hch : ch < 65536) (x : Int32) (y : Int32) : Met l yL_number (wB yL_number cL_number 6 (some .int) [(0, 11, 14, 13), (0, 11, 18, 15)]) ({ frames := 8, cells := 2, slots := 12, locals := 129 } : Room) (PG D cT n ad A G [.ref (ad 0), .int (nI ch), .int x, .int y, .ref (ad 114)]) (QG D n ad A (fun v G1 => (∃ (y8 : Int64) (G2 : Nat → va_E), (onR ch x (fun r => ∃ i, i < (σ.1 r).1 ∧ y = nI i ∧ (some (Value.long y8)) = some (.long ((σ.1 r).2 i))) ∧ G2 = G) ∧ G1 114 = aJ cT 1 (va_up f 0 (y8)) ∧ (∀ j, j ≠ 114 → G1 j = G2 j) ∧ v = some (.int (nI 0))) ∨ (∃ E : String, (pxRow ch x E ∨ onR ch x (fun r => (y < 0 ∨ nI (σ.1 r).1 ≤ y) ∧ E = xIO)) ∧ v = some (.int (nI (cd [xIA, xIO] E))) ∧ G1 = G))) 2 12 A := by
  refine Met.ofH (cc := cL_number) (maxL := 6) (ret := (some .int)) (by decide) (Nat.le_of_ble_eq_true rfl) ?_
  intro p e s m args below meth c Q hQ hT hx hb hr hml hlocks hown hw hP hK hE hA hS ls hl
  have hl : lv_has ls 6 [(0, .ref (ad 0)), (1, .int (nI ch)), (2, .int x), (3, .int y), (4, .ref (ad 114))] := hl
  refine lv_aload hx hb dL_number_0 (lv_at hl 4 rfl) ?_
  refine lv_iconst (v := nI 0) hx hb dL_number_2 (by decide) ?_
  refine lv_aload_n hx hb dL_number_3 rfl (lv_at hl 0 rfl) ?_
  refine lv_iload_n hx hb dL_number_4 rfl (lv_at hl 1 rfl) ?_
  refine lv_iload_n hx hb dL_number_5 rfl (lv_at hl 2 rfl) ?_
  refine lv_iload_n hx hb dL_number_6 rfl (lv_at hl 3 rfl) ?_
  refine g_callVX (As := [.int (nI ch), .int x, .int y]) (rest := [.int (nI 0), .ref (ad 114)]) ⟨hx, hb, hml, hown, hw⟩ (mX2_number l hl9 D cT n ad A hD G σ hY (by omega) hI ch (by omega) x y) (cwV 3 hw (gWV wm_L_30 wi_X2_number wse_X2_number wini_X2 wc_X2_number) rfl rfl rfl (by decide +kernel) ⟨Nat.le_of_ble_eq_true rfl, Nat.le_of_ble_eq_true rfl⟩) hK hE hA hP hS (k := 0) (by omega) hY.1.1 rfl rfl hl.1 (lv_room (Nat.le_of_ble_eq_true rfl)) dL_number_7 ⟨Nat.le_of_ble_eq_true rfl, Nat.le_of_ble_eq_true rfl⟩ (fun E ce q9 H locs hpx hP hS hce hcv hcl => ?_) (fun v G1 H locs hp hP hS => ?_)
  · have hpx9 := hpx
    rcases hpx with (⟨_, rfl⟩ | ⟨_, _, rfl⟩) | ⟨_, _, _, _, _, _, _, rfl⟩
    · skip
      have hps : ∀ z ∈ ([] : List ExceptionTableEntry), z.catchType ≠ 0 ∧ ∃ y ∈ xcL, xIA ≠ y ∧ (Cond.classLink RL z.catchType y).before args s = true := fun z hz => absurd hz List.not_mem_nil
      refine g_catch (E := xIA) (pre := []) (x := ⟨0, 11, 14, 13⟩) (suf := [⟨0, 11, 18, 15⟩]) hT hown hE (by decide +kernel) hps (by decide) (by decide) (hw _ wcl_L_13) hce hcv hcl ?_
      refine lv_astore (lv' := [(5, .ref q9), (0, .ref (ad 0)), (1, .int (nI ch)), (2, .int x), (3, .int y), (4, .ref (ad 114))]) hx hb dL_number_14 hl (by decide) rfl (fun ls hl => ?_)
      refine lv_iconst (v := nI 1) hx hb dL_number_16 (by decide) ?_
      refine g_ret hQ hx hb hr hlocks rfl hP hS (Or.inr ⟨xIA, hpx9, by rw [show cd [xIA, xIO] xIA = 1 from by decide +kernel], rfl⟩) (Nat.le_of_ble_eq_true rfl) (Nat.le_of_ble_eq_true rfl) dL_number_17
    · skip
      have hps : ∀ z ∈ ([⟨0, 11, 14, 13⟩] : List ExceptionTableEntry), z.catchType ≠ 0 ∧ ∃ y ∈ xcL, xIO ≠ y ∧ (Cond.classLink RL z.catchType y).before args s = true := fun z hz => by
              rcases List.mem_cons.mp hz with rfl | hz
              · exact ⟨by decide, xIA, by decide +kernel, by decide +kernel, hw _ wcl_L_13⟩
              exact absurd hz List.not_mem_nil
      refine g_catch (E := xIO) (pre := [⟨0, 11, 14, 13⟩]) (x := ⟨0, 11, 18, 15⟩) (suf := []) hT hown hE (by decide +kernel) hps (by decide) (by decide) (hw _ wcl_L_15) hce hcv hcl ?_
      refine lv_astore (lv' := [(5, .ref q9), (0, .ref (ad 0)), (1, .int (nI ch)), (2, .int x), (3, .int y), (4, .ref (ad 114))]) hx hb dL_number_18 hl (by decide) rfl (fun ls hl => ?_)
      refine lv_iconst (v := nI 2) hx hb dL_number_20 (by decide) ?_
      refine g_ret hQ hx hb hr hlocks rfl hP hS (Or.inr ⟨xIO, hpx9, by rw [show cd [xIA, xIO] xIO = 2 from by decide +kernel], rfl⟩) (Nat.le_of_ble_eq_true rfl) (Nat.le_of_ble_eq_true rfl) dL_number_21
    · skip
      have hps : ∀ z ∈ ([⟨0, 11, 14, 13⟩] : List ExceptionTableEntry), z.catchType ≠ 0 ∧ ∃ y ∈ xcL, xIO ≠ y ∧ (Cond.classLink RL z.catchType y).before args s = true := fun z hz => by
              rcases List.mem_cons.mp hz with rfl | hz
              · exact ⟨by decide, xIA, by decide +kernel, by decide +kernel, hw _ wcl_L_13⟩
              exact absurd hz List.not_mem_nil
      refine g_catch (E := xIO) (pre := [⟨0, 11, 14, 13⟩]) (x := ⟨0, 11, 18, 15⟩) (suf := []) hT hown hE (by decide +kernel) hps (by decide) (by decide) (hw _ wcl_L_15) hce hcv hcl ?_
      refine lv_astore (lv' := [(5, .ref q9), (0, .ref (ad 0)), (1, .int (nI ch)), (2, .int x), (3, .int y), (4, .ref (ad 114))]) hx hb dL_number_18 hl (by decide) rfl (fun ls hl => ?_)
      refine lv_iconst (v := nI 2) hx hb dL_number_20 (by decide) ?_
      refine g_ret hQ hx hb hr hlocks rfl hP hS (Or.inr ⟨xIO, hpx9, by rw [show cd [xIA, xIO] xIO = 2 from by decide +kernel], rfl⟩) (Nat.le_of_ble_eq_true rfl) (Nat.le_of_ble_eq_true rfl) dL_number_21
  · skip
    have hv : ∃ y, v = some (.long y) := by
      rcases hp with ⟨⟨_, _, _, _, _, _, _, _, _, h⟩, _⟩
      all_goals exact ⟨_, h⟩
    obtain ⟨y9, rfl⟩ := hv
    have hO1 : G1 114 = aJ cT 1 f := by
      rw [hp.2]
      exact hO
    refine g_last hx hb hK hP hD hS (i := 114) (by omega) hO1 (by omega) (by omega) dL_number_10 (fun G_1 H locs hg_G_1 ho_G_1 hP hS => ?_)
    have hc_2 : G_1 114 = aJ cT 1 (va_up f 0 y9) := hg_G_1
    refine lv_goto (tgt := 22) hx hb dL_number_11 (by decide) ?_
    refine lv_iconst (v := nI 0) hx hb dL_number_22 (by decide) ?_
    refine g_ret hQ hx hb hr hlocks rfl hP hS (Or.inl ⟨y9, G1, hp, hc_2, ho_G_1, rfl⟩) (Nat.le_of_ble_eq_true rfl) (Nat.le_of_ble_eq_true rfl) dL_number_23

set_option maxHeartbeats 4000000 in
set_option maxRecDepth 100000 in
theorem mL_open (l : Launch) (hl9 : l.stackTraces = false) (D : va_G) (cT : Nat → ClassId) (n : Nat) (ad : Nat → Nat) (A : Nat → Prop) (hD : ∀ G, va_D A (gw n ad G)) (G : Nat → va_E) (hn : 116 ≤ n) (σ : TY) (hY : YW cT ad G σ) (hI : YI σ) (f : Nat → Int64) (hO : G 114 = aJ cT 1 f) (x : Int32) (ch : Nat) (hch : ch < 65536) (y u z : Int32) : Met l yL_open (wB yL_open cL_open 8 (some .int) [(0, 16, 19, 13), (0, 16, 23, 15)]) ({ frames := 8, cells := 3, slots := 18, locals := 132 } : Room) (PG D cT n ad A G [.ref (ad 0), .int x, .int (nI ch), .int y, .int u, .int z, .ref (ad 114)]) (QG D n ad A (fun v G1 => (∃ (y8 : Int32) (G2 : Nat → va_E), (onB x (fun b => onR ch y (fun r => ∃ a t, a ≤ t ∧ t ≤ (σ.1 r).1 ∧ u = nI a ∧ z = nI t ∧ (some (Value.int y8)) = some (.int (nI (t - a))) ∧ YW cT ad G2 (setB σ b (openB (σ.1 r).2 a t (isO ch))))) ∧ ∀ j, 69 ≤ j → G2 j = G j) ∧ G1 114 = aJ cT 1 (va_up f 0 (y8.toInt64)) ∧ (∀ j, j ≠ 114 → G1 j = G2 j) ∧ v = some (.int (nI 0))) ∨ (∃ E : String, (pxOpen σ x ch y u z E) ∧ v = some (.int (nI (cd [xIA, xIO] E))) ∧ G1 = G))) 3 18 A := by
  refine Met.ofH (cc := cL_open) (maxL := 8) (ret := (some .int)) (by decide) (Nat.le_of_ble_eq_true rfl) ?_
  intro p e s m args below meth c Q hQ hT hx hb hr hml hlocks hown hw hP hK hE hA hS ls hl
  have hl : lv_has ls 8 [(0, .ref (ad 0)), (1, .int x), (2, .int (nI ch)), (3, .int y), (4, .int u), (5, .int z), (6, .ref (ad 114))] := hl
  refine lv_aload hx hb dL_open_0 (lv_at hl 6 rfl) ?_
  refine lv_iconst (v := nI 0) hx hb dL_open_2 (by decide) ?_
  refine lv_aload_n hx hb dL_open_3 rfl (lv_at hl 0 rfl) ?_
  refine lv_iload_n hx hb dL_open_4 rfl (lv_at hl 1 rfl) ?_
  refine lv_iload_n hx hb dL_open_5 rfl (lv_at hl 2 rfl) ?_
  refine lv_iload_n hx hb dL_open_6 rfl (lv_at hl 3 rfl) ?_
  refine lv_iload hx hb dL_open_7 (lv_at hl 4 rfl) ?_
  refine lv_iload hx hb dL_open_9 (lv_at hl 5 rfl) ?_
  refine g_callVX (As := [.int x, .int (nI ch), .int y, .int u, .int z]) (rest := [.int (nI 0), .ref (ad 114)]) ⟨hx, hb, hml, hown, hw⟩ (mX2_open l hl9 D cT n ad A hD G σ hY (by omega) hI x ch (by omega) y u z) (cwV 5 hw (gWV wm_L_34 wi_X2_open wse_X2_open wini_X2 wc_X2_open) rfl rfl rfl (by decide +kernel) ⟨Nat.le_of_ble_eq_true rfl, Nat.le_of_ble_eq_true rfl⟩) hK hE hA hP hS (k := 0) (by omega) hY.1.1 rfl rfl hl.1 (lv_room (Nat.le_of_ble_eq_true rfl)) dL_open_11 ⟨Nat.le_of_ble_eq_true rfl, Nat.le_of_ble_eq_true rfl⟩ (fun E ce q9 H locs hpx hP hS hce hcv hcl => ?_) (fun v G1 H locs hp hP hS => ?_)
  · have hpx9 := hpx
    rcases hpx with ⟨_, rfl⟩ | ⟨_, rfl, _⟩
    · skip
      have hps : ∀ z ∈ ([] : List ExceptionTableEntry), z.catchType ≠ 0 ∧ ∃ y ∈ xcL, xIA ≠ y ∧ (Cond.classLink RL z.catchType y).before args s = true := fun z hz => absurd hz List.not_mem_nil
      refine g_catch (E := xIA) (pre := []) (x := ⟨0, 16, 19, 13⟩) (suf := [⟨0, 16, 23, 15⟩]) hT hown hE (by decide +kernel) hps (by decide) (by decide) (hw _ wcl_L_13) hce hcv hcl ?_
      refine lv_astore (lv' := [(7, .ref q9), (0, .ref (ad 0)), (1, .int x), (2, .int (nI ch)), (3, .int y), (4, .int u), (5, .int z), (6, .ref (ad 114))]) hx hb dL_open_19 hl (by decide) rfl (fun ls hl => ?_)
      refine lv_iconst (v := nI 1) hx hb dL_open_21 (by decide) ?_
      refine g_ret hQ hx hb hr hlocks rfl hP hS (Or.inr ⟨xIA, hpx9, by rw [show cd [xIA, xIO] xIA = 1 from by decide +kernel], rfl⟩) (Nat.le_of_ble_eq_true rfl) (Nat.le_of_ble_eq_true rfl) dL_open_22
    · skip
      have hps : ∀ z ∈ ([⟨0, 16, 19, 13⟩] : List ExceptionTableEntry), z.catchType ≠ 0 ∧ ∃ y ∈ xcL, xIO ≠ y ∧ (Cond.classLink RL z.catchType y).before args s = true := fun z hz => by
              rcases List.mem_cons.mp hz with rfl | hz
              · exact ⟨by decide, xIA, by decide +kernel, by decide +kernel, hw _ wcl_L_13⟩
              exact absurd hz List.not_mem_nil
      refine g_catch (E := xIO) (pre := [⟨0, 16, 19, 13⟩]) (x := ⟨0, 16, 23, 15⟩) (suf := []) hT hown hE (by decide +kernel) hps (by decide) (by decide) (hw _ wcl_L_15) hce hcv hcl ?_
      refine lv_astore (lv' := [(7, .ref q9), (0, .ref (ad 0)), (1, .int x), (2, .int (nI ch)), (3, .int y), (4, .int u), (5, .int z), (6, .ref (ad 114))]) hx hb dL_open_23 hl (by decide) rfl (fun ls hl => ?_)
      refine lv_iconst (v := nI 2) hx hb dL_open_25 (by decide) ?_
      refine g_ret hQ hx hb hr hlocks rfl hP hS (Or.inr ⟨xIO, hpx9, by rw [show cd [xIA, xIO] xIO = 2 from by decide +kernel], rfl⟩) (Nat.le_of_ble_eq_true rfl) (Nat.le_of_ble_eq_true rfl) dL_open_26
  · skip
    have hv : ∃ y, v = some (.int y) := by
      rcases hp with ⟨⟨_, _, _, _, _, _, _, _, _, _, _, _, _, _, _, h, _⟩, _⟩
      all_goals exact ⟨_, h⟩
    obtain ⟨y9, rfl⟩ := hv
    have hO1 : G1 114 = aJ cT 1 f := ((hp.2) 114 (by omega)).trans hO
    refine lv_i2l hx hb dL_open_14 rfl ?_
    refine g_last hx hb hK hP hD hS (i := 114) (by omega) hO1 (by omega) (by omega) dL_open_15 (fun G_1 H locs hg_G_1 ho_G_1 hP hS => ?_)
    have hc_2 : G_1 114 = aJ cT 1 (va_up f 0 y9.toInt64) := hg_G_1
    refine lv_goto (tgt := 27) hx hb dL_open_16 (by decide) ?_
    refine lv_iconst (v := nI 0) hx hb dL_open_27 (by decide) ?_
    refine g_ret hQ hx hb hr hlocks rfl hP hS (Or.inl ⟨y9, G1, hp, hc_2, ho_G_1, rfl⟩) (Nat.le_of_ble_eq_true rfl) (Nat.le_of_ble_eq_true rfl) dL_open_28

set_option maxHeartbeats 4000000 in
set_option maxRecDepth 100000 in
theorem mL_openAll (l : Launch) (hl9 : l.stackTraces = false) (D : va_G) (cT : Nat → ClassId) (n : Nat) (ad : Nat → Nat) (A : Nat → Prop) (hD : ∀ G, va_D A (gw n ad G)) (G : Nat → va_E) (hn : 116 ≤ n) (σ : TY) (hY : YW cT ad G σ) (hI : YI σ) (f : Nat → Int64) (hO : G 114 = aJ cT 1 f) (x : Int32) (ch : Nat) (hch : ch < 65536) (y : Int32) : Met l yL_openAll (wB yL_openAll cL_openAll 6 (some .int) [(0, 12, 15, 13), (0, 12, 19, 15)]) ({ frames := 8, cells := 2, slots := 12, locals := 130 } : Room) (PG D cT n ad A G [.ref (ad 0), .int x, .int (nI ch), .int y, .ref (ad 114)]) (QG D n ad A (fun v G1 => (∃ (y8 : Int32) (G2 : Nat → va_E), (onB x (fun b => onR ch y (fun r => (some (Value.int y8)) = some (.int (nI ((σ.1 r).1 - 0))) ∧ YW cT ad G2 (setB σ b (openB (σ.1 r).2 0 (σ.1 r).1 (isO ch))))) ∧ ∀ j, 69 ≤ j → G2 j = G j) ∧ G1 114 = aJ cT 1 (va_up f 0 (y8.toInt64)) ∧ (∀ j, j ≠ 114 → G1 j = G2 j) ∧ v = some (.int (nI 0))) ∨ (∃ E : String, (pxOpenA x ch y E) ∧ v = some (.int (nI (cd [xIA, xIO] E))) ∧ G1 = G))) 2 12 A := by
  refine Met.ofH (cc := cL_openAll) (maxL := 6) (ret := (some .int)) (by decide) (Nat.le_of_ble_eq_true rfl) ?_
  intro p e s m args below meth c Q hQ hT hx hb hr hml hlocks hown hw hP hK hE hA hS ls hl
  have hl : lv_has ls 6 [(0, .ref (ad 0)), (1, .int x), (2, .int (nI ch)), (3, .int y), (4, .ref (ad 114))] := hl
  refine lv_aload hx hb dL_openAll_0 (lv_at hl 4 rfl) ?_
  refine lv_iconst (v := nI 0) hx hb dL_openAll_2 (by decide) ?_
  refine lv_aload_n hx hb dL_openAll_3 rfl (lv_at hl 0 rfl) ?_
  refine lv_iload_n hx hb dL_openAll_4 rfl (lv_at hl 1 rfl) ?_
  refine lv_iload_n hx hb dL_openAll_5 rfl (lv_at hl 2 rfl) ?_
  refine lv_iload_n hx hb dL_openAll_6 rfl (lv_at hl 3 rfl) ?_
  refine g_callVX (As := [.int x, .int (nI ch), .int y]) (rest := [.int (nI 0), .ref (ad 114)]) ⟨hx, hb, hml, hown, hw⟩ (mX2_openAll l hl9 D cT n ad A hD G σ hY (by omega) hI x ch (by omega) y) (cwV 3 hw (gWV wm_L_38 wi_X2_openAll wse_X2_openAll wini_X2 wc_X2_openAll) rfl rfl rfl (by decide +kernel) ⟨Nat.le_of_ble_eq_true rfl, Nat.le_of_ble_eq_true rfl⟩) hK hE hA hP hS (k := 0) (by omega) hY.1.1 rfl rfl hl.1 (lv_room (Nat.le_of_ble_eq_true rfl)) dL_openAll_7 ⟨Nat.le_of_ble_eq_true rfl, Nat.le_of_ble_eq_true rfl⟩ (fun E ce q9 H locs hpx hP hS hce hcv hcl => ?_) (fun v G1 H locs hp hP hS => ?_)
  · have hpx9 := hpx
    rcases hpx with ⟨_, rfl⟩ | ⟨_, rfl, _⟩
    · skip
      have hps : ∀ z ∈ ([] : List ExceptionTableEntry), z.catchType ≠ 0 ∧ ∃ y ∈ xcL, xIA ≠ y ∧ (Cond.classLink RL z.catchType y).before args s = true := fun z hz => absurd hz List.not_mem_nil
      refine g_catch (E := xIA) (pre := []) (x := ⟨0, 12, 15, 13⟩) (suf := [⟨0, 12, 19, 15⟩]) hT hown hE (by decide +kernel) hps (by decide) (by decide) (hw _ wcl_L_13) hce hcv hcl ?_
      refine lv_astore (lv' := [(5, .ref q9), (0, .ref (ad 0)), (1, .int x), (2, .int (nI ch)), (3, .int y), (4, .ref (ad 114))]) hx hb dL_openAll_15 hl (by decide) rfl (fun ls hl => ?_)
      refine lv_iconst (v := nI 1) hx hb dL_openAll_17 (by decide) ?_
      refine g_ret hQ hx hb hr hlocks rfl hP hS (Or.inr ⟨xIA, hpx9, by rw [show cd [xIA, xIO] xIA = 1 from by decide +kernel], rfl⟩) (Nat.le_of_ble_eq_true rfl) (Nat.le_of_ble_eq_true rfl) dL_openAll_18
    · skip
      have hps : ∀ z ∈ ([⟨0, 12, 15, 13⟩] : List ExceptionTableEntry), z.catchType ≠ 0 ∧ ∃ y ∈ xcL, xIO ≠ y ∧ (Cond.classLink RL z.catchType y).before args s = true := fun z hz => by
              rcases List.mem_cons.mp hz with rfl | hz
              · exact ⟨by decide, xIA, by decide +kernel, by decide +kernel, hw _ wcl_L_13⟩
              exact absurd hz List.not_mem_nil
      refine g_catch (E := xIO) (pre := [⟨0, 12, 15, 13⟩]) (x := ⟨0, 12, 19, 15⟩) (suf := []) hT hown hE (by decide +kernel) hps (by decide) (by decide) (hw _ wcl_L_15) hce hcv hcl ?_
      refine lv_astore (lv' := [(5, .ref q9), (0, .ref (ad 0)), (1, .int x), (2, .int (nI ch)), (3, .int y), (4, .ref (ad 114))]) hx hb dL_openAll_19 hl (by decide) rfl (fun ls hl => ?_)
      refine lv_iconst (v := nI 2) hx hb dL_openAll_21 (by decide) ?_
      refine g_ret hQ hx hb hr hlocks rfl hP hS (Or.inr ⟨xIO, hpx9, by rw [show cd [xIA, xIO] xIO = 2 from by decide +kernel], rfl⟩) (Nat.le_of_ble_eq_true rfl) (Nat.le_of_ble_eq_true rfl) dL_openAll_22
  · skip
    have hv : ∃ y, v = some (.int y) := by
      rcases hp with ⟨⟨_, _, _, _, _, _, _, _, _, h, _⟩, _⟩
      all_goals exact ⟨_, h⟩
    obtain ⟨y9, rfl⟩ := hv
    have hO1 : G1 114 = aJ cT 1 f := ((hp.2) 114 (by omega)).trans hO
    refine lv_i2l hx hb dL_openAll_10 rfl ?_
    refine g_last hx hb hK hP hD hS (i := 114) (by omega) hO1 (by omega) (by omega) dL_openAll_11 (fun G_1 H locs hg_G_1 ho_G_1 hP hS => ?_)
    have hc_2 : G_1 114 = aJ cT 1 (va_up f 0 y9.toInt64) := hg_G_1
    refine lv_goto (tgt := 23) hx hb dL_openAll_12 (by decide) ?_
    refine lv_iconst (v := nI 0) hx hb dL_openAll_23 (by decide) ?_
    refine g_ret hQ hx hb hr hlocks rfl hP hS (Or.inl ⟨y9, G1, hp, hc_2, ho_G_1, rfl⟩) (Nat.le_of_ble_eq_true rfl) (Nat.le_of_ble_eq_true rfl) dL_openAll_24

set_option maxHeartbeats 4000000 in
set_option maxRecDepth 100000 in
theorem mL_items (l : Launch) (hl9 : l.stackTraces = false) (D : va_G) (cT : Nat → ClassId) (n : Nat) (ad : Nat → Nat) (A : Nat → Prop) (hD : ∀ G, va_D A (gw n ad G)) (G : Nat → va_E) (hn : 116 ≤ n) (σ : TY) (hY : YW cT ad G σ) (hI : YI σ) (f : Nat → Int64) (hO : G 114 = aJ cT 1 f) (x : Int32) : Met l yL_items (wB yL_items cL_items 4 (some .int) [(0, 9, 12, 15)]) ({ frames := 8, cells := 1, slots := 6, locals := 124 } : Room) (PG D cT n ad A G [.ref (ad 0), .int x, .ref (ad 114)]) (QG D n ad A (fun v G1 => (∃ (y8 : Int32) (G2 : Nat → va_E), (onB x (fun b => (some (Value.int y8)) = some (.int (nI (σ.2 b).2.1))) ∧ G2 = G) ∧ G1 114 = aJ cT 1 (va_up f 0 (y8.toInt64)) ∧ (∀ j, j ≠ 114 → G1 j = G2 j) ∧ v = some (.int (nI 0))) ∨ (∃ E : String, (pxBen x E) ∧ v = some (.int (nI (cd [xIO] E))) ∧ G1 = G))) 1 6 A := by
  refine Met.ofH (cc := cL_items) (maxL := 4) (ret := (some .int)) (by decide) (Nat.le_of_ble_eq_true rfl) ?_
  intro p e s m args below meth c Q hQ hT hx hb hr hml hlocks hown hw hP hK hE hA hS ls hl
  have hl : lv_has ls 4 [(0, .ref (ad 0)), (1, .int x), (2, .ref (ad 114))] := hl
  refine lv_aload_n hx hb dL_items_0 rfl (lv_at hl 2 rfl) ?_
  refine lv_iconst (v := nI 0) hx hb dL_items_1 (by decide) ?_
  refine lv_aload_n hx hb dL_items_2 rfl (lv_at hl 0 rfl) ?_
  refine lv_iload_n hx hb dL_items_3 rfl (lv_at hl 1 rfl) ?_
  refine g_callVX (As := [.int x]) (rest := [.int (nI 0), .ref (ad 114)]) ⟨hx, hb, hml, hown, hw⟩ (mX2_items l hl9 D cT n ad A hD G σ hY (by omega) hI x) (cwV 1 hw (gWV wm_L_42 wi_X2_items wse_X2_items wini_X2 wc_X2_items) rfl rfl rfl (by decide +kernel) ⟨Nat.le_of_ble_eq_true rfl, Nat.le_of_ble_eq_true rfl⟩) hK hE hA hP hS (k := 0) (by omega) hY.1.1 rfl rfl hl.1 (lv_room (Nat.le_of_ble_eq_true rfl)) dL_items_4 ⟨Nat.le_of_ble_eq_true rfl, Nat.le_of_ble_eq_true rfl⟩ (fun E ce q9 H locs hpx hP hS hce hcv hcl => ?_) (fun v G1 H locs hp hP hS => ?_)
  · have hpx9 := hpx
    rcases hpx with ⟨_, rfl⟩
    · skip
      have hps : ∀ z ∈ ([] : List ExceptionTableEntry), z.catchType ≠ 0 ∧ ∃ y ∈ xcL, xIO ≠ y ∧ (Cond.classLink RL z.catchType y).before args s = true := fun z hz => absurd hz List.not_mem_nil
      refine g_catch (E := xIO) (pre := []) (x := ⟨0, 9, 12, 15⟩) (suf := []) hT hown hE (by decide +kernel) hps (by decide) (by decide) (hw _ wcl_L_15) hce hcv hcl ?_
      refine lv_astore_n (lv' := [(3, .ref q9), (0, .ref (ad 0)), (1, .int x), (2, .ref (ad 114))]) hx hb dL_items_12 rfl hl (by decide) rfl (fun ls hl => ?_)
      refine lv_iconst (v := nI 1) hx hb dL_items_13 (by decide) ?_
      refine g_ret hQ hx hb hr hlocks rfl hP hS (Or.inr ⟨xIO, hpx9, by rw [show cd [xIO] xIO = 1 from by decide +kernel], rfl⟩) (Nat.le_of_ble_eq_true rfl) (Nat.le_of_ble_eq_true rfl) dL_items_14
  · skip
    have hv : ∃ y, v = some (.int y) := by
      rcases hp with ⟨⟨_, _, _, h⟩, _⟩
      all_goals exact ⟨_, h⟩
    obtain ⟨y9, rfl⟩ := hv
    have hO1 : G1 114 = aJ cT 1 f := by
      rw [hp.2]
      exact hO
    refine lv_i2l hx hb dL_items_7 rfl ?_
    refine g_last hx hb hK hP hD hS (i := 114) (by omega) hO1 (by omega) (by omega) dL_items_8 (fun G_1 H locs hg_G_1 ho_G_1 hP hS => ?_)
    have hc_2 : G_1 114 = aJ cT 1 (va_up f 0 y9.toInt64) := hg_G_1
    refine lv_goto (tgt := 15) hx hb dL_items_9 (by decide) ?_
    refine lv_iconst (v := nI 0) hx hb dL_items_15 (by decide) ?_
    refine g_ret hQ hx hb hr hlocks rfl hP hS (Or.inl ⟨y9, G1, hp, hc_2, ho_G_1, rfl⟩) (Nat.le_of_ble_eq_true rfl) (Nat.le_of_ble_eq_true rfl) dL_items_16

set_option maxHeartbeats 4000000 in
set_option maxRecDepth 100000 in
theorem mL_kindOf (l : Launch) (hl9 : l.stackTraces = false) (D : va_G) (cT : Nat → ClassId) (n : Nat) (ad : Nat → Nat) (A : Nat → Prop) (hD : ∀ G, va_D A (gw n ad G)) (G : Nat → va_E) (hn : 116 ≤ n) (σ : TY) (hY : YW cT ad G σ) (hI : YI σ) (f : Nat → Int64) (hO : G 114 = aJ cT 1 f) (x y : Int32) : Met l yL_kindOf (wB yL_kindOf cL_kindOf 5 (some .int) [(0, 10, 13, 15)]) ({ frames := 9, cells := 2, slots := 12, locals := 148 } : Room) (PG D cT n ad A G [.ref (ad 0), .int x, .int y, .ref (ad 114)]) (QG D n ad A (fun v G1 => (∃ (y8 : Int32) (G2 : Nat → va_E), (onI σ x y (fun b i => (some (Value.int y8)) = some (.int (nI ((σ.2 b).2.2.2.2.1 i)))) ∧ G2 = G) ∧ G1 114 = aJ cT 1 (va_up f 0 (y8.toInt64)) ∧ (∀ j, j ≠ 114 → G1 j = G2 j) ∧ v = some (.int (nI 0))) ∨ (∃ E : String, (pxItem σ x y E) ∧ v = some (.int (nI (cd [xIO] E))) ∧ G1 = G))) 2 12 A := by
  refine Met.ofH (cc := cL_kindOf) (maxL := 5) (ret := (some .int)) (by decide) (Nat.le_of_ble_eq_true rfl) ?_
  intro p e s m args below meth c Q hQ hT hx hb hr hml hlocks hown hw hP hK hE hA hS ls hl
  have hl : lv_has ls 5 [(0, .ref (ad 0)), (1, .int x), (2, .int y), (3, .ref (ad 114))] := hl
  refine lv_aload_n hx hb dL_kindOf_0 rfl (lv_at hl 3 rfl) ?_
  refine lv_iconst (v := nI 0) hx hb dL_kindOf_1 (by decide) ?_
  refine lv_aload_n hx hb dL_kindOf_2 rfl (lv_at hl 0 rfl) ?_
  refine lv_iload_n hx hb dL_kindOf_3 rfl (lv_at hl 1 rfl) ?_
  refine lv_iload_n hx hb dL_kindOf_4 rfl (lv_at hl 2 rfl) ?_
  refine g_callVX (As := [.int x, .int y]) (rest := [.int (nI 0), .ref (ad 114)]) ⟨hx, hb, hml, hown, hw⟩ (mX2_kindOf l hl9 D cT n ad A hD G σ hY (by omega) hI x y) (cwV 2 hw (gWV wm_L_46 wi_X2_kindOf wse_X2_kindOf wini_X2 wc_X2_kindOf) rfl rfl rfl (by decide +kernel) ⟨Nat.le_of_ble_eq_true rfl, Nat.le_of_ble_eq_true rfl⟩) hK hE hA hP hS (k := 0) (by omega) hY.1.1 rfl rfl hl.1 (lv_room (Nat.le_of_ble_eq_true rfl)) dL_kindOf_5 ⟨Nat.le_of_ble_eq_true rfl, Nat.le_of_ble_eq_true rfl⟩ (fun E ce q9 H locs hpx hP hS hce hcv hcl => ?_) (fun v G1 H locs hp hP hS => ?_)
  · have hpx9 := hpx
    rcases hpx with ⟨_, rfl⟩
    · skip
      have hps : ∀ z ∈ ([] : List ExceptionTableEntry), z.catchType ≠ 0 ∧ ∃ y ∈ xcL, xIO ≠ y ∧ (Cond.classLink RL z.catchType y).before args s = true := fun z hz => absurd hz List.not_mem_nil
      refine g_catch (E := xIO) (pre := []) (x := ⟨0, 10, 13, 15⟩) (suf := []) hT hown hE (by decide +kernel) hps (by decide) (by decide) (hw _ wcl_L_15) hce hcv hcl ?_
      refine lv_astore (lv' := [(4, .ref q9), (0, .ref (ad 0)), (1, .int x), (2, .int y), (3, .ref (ad 114))]) hx hb dL_kindOf_13 hl (by decide) rfl (fun ls hl => ?_)
      refine lv_iconst (v := nI 1) hx hb dL_kindOf_15 (by decide) ?_
      refine g_ret hQ hx hb hr hlocks rfl hP hS (Or.inr ⟨xIO, hpx9, by rw [show cd [xIO] xIO = 1 from by decide +kernel], rfl⟩) (Nat.le_of_ble_eq_true rfl) (Nat.le_of_ble_eq_true rfl) dL_kindOf_16
  · skip
    have hv : ∃ y, v = some (.int y) := by
      rcases hp with ⟨⟨_, _, _, _, _, _, h⟩, _⟩
      all_goals exact ⟨_, h⟩
    obtain ⟨y9, rfl⟩ := hv
    have hO1 : G1 114 = aJ cT 1 f := by
      rw [hp.2]
      exact hO
    refine lv_i2l hx hb dL_kindOf_8 rfl ?_
    refine g_last hx hb hK hP hD hS (i := 114) (by omega) hO1 (by omega) (by omega) dL_kindOf_9 (fun G_1 H locs hg_G_1 ho_G_1 hP hS => ?_)
    have hc_2 : G_1 114 = aJ cT 1 (va_up f 0 y9.toInt64) := hg_G_1
    refine lv_goto (tgt := 17) hx hb dL_kindOf_10 (by decide) ?_
    refine lv_iconst (v := nI 0) hx hb dL_kindOf_17 (by decide) ?_
    refine g_ret hQ hx hb hr hlocks rfl hP hS (Or.inl ⟨y9, G1, hp, hc_2, ho_G_1, rfl⟩) (Nat.le_of_ble_eq_true rfl) (Nat.le_of_ble_eq_true rfl) dL_kindOf_18

set_option maxHeartbeats 4000000 in
set_option maxRecDepth 100000 in
theorem mL_given (l : Launch) (hl9 : l.stackTraces = false) (D : va_G) (cT : Nat → ClassId) (n : Nat) (ad : Nat → Nat) (A : Nat → Prop) (hD : ∀ G, va_D A (gw n ad G)) (G : Nat → va_E) (hn : 116 ≤ n) (σ : TY) (hY : YW cT ad G σ) (hI : YI σ) (f : Nat → Int64) (hO : G 114 = aJ cT 1 f) (x y : Int32) : Met l yL_given (wB yL_given cL_given 5 (some .int) [(0, 9, 12, 15), (0, 9, 16, 17)]) ({ frames := 9, cells := 3, slots := 18, locals := 149 } : Room) (PG D cT n ad A G [.ref (ad 0), .int x, .int y, .ref (ad 114)]) (QG D n ad A (fun v G1 => (∃ (y8 : Int64) (G2 : Nat → va_E), (onI σ x y (fun b i => (σ.2 b).2.2.2.2.1 i = 110 ∧ (some (Value.long y8)) = some (.long ((σ.2 b).2.2.2.1 (ps (σ.2 b).2.2.2.2.2 i)))) ∧ G2 = G) ∧ G1 114 = aJ cT 1 (va_up f 0 (y8)) ∧ (∀ j, j ≠ 114 → G1 j = G2 j) ∧ v = some (.int (nI 0))) ∨ (∃ E : String, (pxIs σ x y (fun c => c ≠ 110) E) ∧ v = some (.int (nI (cd [xIO, xIS] E))) ∧ G1 = G))) 3 18 A := by
  refine Met.ofH (cc := cL_given) (maxL := 5) (ret := (some .int)) (by decide) (Nat.le_of_ble_eq_true rfl) ?_
  intro p e s m args below meth c Q hQ hT hx hb hr hml hlocks hown hw hP hK hE hA hS ls hl
  have hl : lv_has ls 5 [(0, .ref (ad 0)), (1, .int x), (2, .int y), (3, .ref (ad 114))] := hl
  refine lv_aload_n hx hb dL_given_0 rfl (lv_at hl 3 rfl) ?_
  refine lv_iconst (v := nI 0) hx hb dL_given_1 (by decide) ?_
  refine lv_aload_n hx hb dL_given_2 rfl (lv_at hl 0 rfl) ?_
  refine lv_iload_n hx hb dL_given_3 rfl (lv_at hl 1 rfl) ?_
  refine lv_iload_n hx hb dL_given_4 rfl (lv_at hl 2 rfl) ?_
  refine g_callVX (As := [.int x, .int y]) (rest := [.int (nI 0), .ref (ad 114)]) ⟨hx, hb, hml, hown, hw⟩ (mX2_given l hl9 D cT n ad A hD G σ hY (by omega) hI x y) (cwV 2 hw (gWV wm_L_50 wi_X2_given wse_X2_given wini_X2 wc_X2_given) rfl rfl rfl (by decide +kernel) ⟨Nat.le_of_ble_eq_true rfl, Nat.le_of_ble_eq_true rfl⟩) hK hE hA hP hS (k := 0) (by omega) hY.1.1 rfl rfl hl.1 (lv_room (Nat.le_of_ble_eq_true rfl)) dL_given_5 ⟨Nat.le_of_ble_eq_true rfl, Nat.le_of_ble_eq_true rfl⟩ (fun E ce q9 H locs hpx hP hS hce hcv hcl => ?_) (fun v G1 H locs hp hP hS => ?_)
  · have hpx9 := hpx
    rcases hpx with ⟨_, rfl⟩ | ⟨_, _, _, _, _, _, _, rfl⟩
    · skip
      have hps : ∀ z ∈ ([] : List ExceptionTableEntry), z.catchType ≠ 0 ∧ ∃ y ∈ xcL, xIO ≠ y ∧ (Cond.classLink RL z.catchType y).before args s = true := fun z hz => absurd hz List.not_mem_nil
      refine g_catch (E := xIO) (pre := []) (x := ⟨0, 9, 12, 15⟩) (suf := [⟨0, 9, 16, 17⟩]) hT hown hE (by decide +kernel) hps (by decide) (by decide) (hw _ wcl_L_15) hce hcv hcl ?_
      refine lv_astore (lv' := [(4, .ref q9), (0, .ref (ad 0)), (1, .int x), (2, .int y), (3, .ref (ad 114))]) hx hb dL_given_12 hl (by decide) rfl (fun ls hl => ?_)
      refine lv_iconst (v := nI 1) hx hb dL_given_14 (by decide) ?_
      refine g_ret hQ hx hb hr hlocks rfl hP hS (Or.inr ⟨xIO, hpx9, by rw [show cd [xIO, xIS] xIO = 1 from by decide +kernel], rfl⟩) (Nat.le_of_ble_eq_true rfl) (Nat.le_of_ble_eq_true rfl) dL_given_15
    · skip
      have hps : ∀ z ∈ ([⟨0, 9, 12, 15⟩] : List ExceptionTableEntry), z.catchType ≠ 0 ∧ ∃ y ∈ xcL, xIS ≠ y ∧ (Cond.classLink RL z.catchType y).before args s = true := fun z hz => by
              rcases List.mem_cons.mp hz with rfl | hz
              · exact ⟨by decide, xIO, by decide +kernel, by decide +kernel, hw _ wcl_L_15⟩
              exact absurd hz List.not_mem_nil
      refine g_catch (E := xIS) (pre := [⟨0, 9, 12, 15⟩]) (x := ⟨0, 9, 16, 17⟩) (suf := []) hT hown hE (by decide +kernel) hps (by decide) (by decide) (hw _ wcl_L_17) hce hcv hcl ?_
      refine lv_astore (lv' := [(4, .ref q9), (0, .ref (ad 0)), (1, .int x), (2, .int y), (3, .ref (ad 114))]) hx hb dL_given_16 hl (by decide) rfl (fun ls hl => ?_)
      refine lv_iconst (v := nI 2) hx hb dL_given_18 (by decide) ?_
      refine g_ret hQ hx hb hr hlocks rfl hP hS (Or.inr ⟨xIS, hpx9, by rw [show cd [xIO, xIS] xIS = 2 from by decide +kernel], rfl⟩) (Nat.le_of_ble_eq_true rfl) (Nat.le_of_ble_eq_true rfl) dL_given_19
  · skip
    have hv : ∃ y, v = some (.long y) := by
      rcases hp with ⟨⟨_, _, _, _, _, _, _, h⟩, _⟩
      all_goals exact ⟨_, h⟩
    obtain ⟨y9, rfl⟩ := hv
    have hO1 : G1 114 = aJ cT 1 f := by
      rw [hp.2]
      exact hO
    refine g_last hx hb hK hP hD hS (i := 114) (by omega) hO1 (by omega) (by omega) dL_given_8 (fun G_1 H locs hg_G_1 ho_G_1 hP hS => ?_)
    have hc_2 : G_1 114 = aJ cT 1 (va_up f 0 y9) := hg_G_1
    refine lv_goto (tgt := 20) hx hb dL_given_9 (by decide) ?_
    refine lv_iconst (v := nI 0) hx hb dL_given_20 (by decide) ?_
    refine g_ret hQ hx hb hr hlocks rfl hP hS (Or.inl ⟨y9, G1, hp, hc_2, ho_G_1, rfl⟩) (Nat.le_of_ble_eq_true rfl) (Nat.le_of_ble_eq_true rfl) dL_given_21

set_option maxHeartbeats 4000000 in
set_option maxRecDepth 100000 in
theorem mL_left (l : Launch) (hl9 : l.stackTraces = false) (D : va_G) (cT : Nat → ClassId) (n : Nat) (ad : Nat → Nat) (A : Nat → Prop) (hD : ∀ G, va_D A (gw n ad G)) (G : Nat → va_E) (hn : 116 ≤ n) (σ : TY) (hY : YW cT ad G σ) (hI : YI σ) (f : Nat → Int64) (hO : G 114 = aJ cT 1 f) (x y : Int32) : Met l yL_left (wB yL_left cL_left 5 (some .int) [(0, 10, 13, 15), (0, 10, 17, 17)]) ({ frames := 10, cells := 3, slots := 18, locals := 171 } : Room) (PG D cT n ad A G [.ref (ad 0), .int x, .int y, .ref (ad 114)]) (QG D n ad A (fun v G1 => (∃ (y8 : Int32) (G2 : Nat → va_E), (onI σ x y (fun b i => (σ.2 b).2.2.2.2.1 i ≠ 110 ∧ (some (Value.int y8)) = some (.int (nI ((σ.2 b).2.2.2.2.2 i)))) ∧ G2 = G) ∧ G1 114 = aJ cT 1 (va_up f 0 (y8.toInt64)) ∧ (∀ j, j ≠ 114 → G1 j = G2 j) ∧ v = some (.int (nI 0))) ∨ (∃ E : String, (pxIs σ x y (fun c => c = 110) E) ∧ v = some (.int (nI (cd [xIO, xIS] E))) ∧ G1 = G))) 3 18 A := by
  refine Met.ofH (cc := cL_left) (maxL := 5) (ret := (some .int)) (by decide) (Nat.le_of_ble_eq_true rfl) ?_
  intro p e s m args below meth c Q hQ hT hx hb hr hml hlocks hown hw hP hK hE hA hS ls hl
  have hl : lv_has ls 5 [(0, .ref (ad 0)), (1, .int x), (2, .int y), (3, .ref (ad 114))] := hl
  refine lv_aload_n hx hb dL_left_0 rfl (lv_at hl 3 rfl) ?_
  refine lv_iconst (v := nI 0) hx hb dL_left_1 (by decide) ?_
  refine lv_aload_n hx hb dL_left_2 rfl (lv_at hl 0 rfl) ?_
  refine lv_iload_n hx hb dL_left_3 rfl (lv_at hl 1 rfl) ?_
  refine lv_iload_n hx hb dL_left_4 rfl (lv_at hl 2 rfl) ?_
  refine g_callVX (As := [.int x, .int y]) (rest := [.int (nI 0), .ref (ad 114)]) ⟨hx, hb, hml, hown, hw⟩ (mX2_left l hl9 D cT n ad A hD G σ hY (by omega) hI x y) (cwV 2 hw (gWV wm_L_54 wi_X2_left wse_X2_left wini_X2 wc_X2_left) rfl rfl rfl (by decide +kernel) ⟨Nat.le_of_ble_eq_true rfl, Nat.le_of_ble_eq_true rfl⟩) hK hE hA hP hS (k := 0) (by omega) hY.1.1 rfl rfl hl.1 (lv_room (Nat.le_of_ble_eq_true rfl)) dL_left_5 ⟨Nat.le_of_ble_eq_true rfl, Nat.le_of_ble_eq_true rfl⟩ (fun E ce q9 H locs hpx hP hS hce hcv hcl => ?_) (fun v G1 H locs hp hP hS => ?_)
  · have hpx9 := hpx
    rcases hpx with ⟨_, rfl⟩ | ⟨_, _, _, _, _, _, _, rfl⟩
    · skip
      have hps : ∀ z ∈ ([] : List ExceptionTableEntry), z.catchType ≠ 0 ∧ ∃ y ∈ xcL, xIO ≠ y ∧ (Cond.classLink RL z.catchType y).before args s = true := fun z hz => absurd hz List.not_mem_nil
      refine g_catch (E := xIO) (pre := []) (x := ⟨0, 10, 13, 15⟩) (suf := [⟨0, 10, 17, 17⟩]) hT hown hE (by decide +kernel) hps (by decide) (by decide) (hw _ wcl_L_15) hce hcv hcl ?_
      refine lv_astore (lv' := [(4, .ref q9), (0, .ref (ad 0)), (1, .int x), (2, .int y), (3, .ref (ad 114))]) hx hb dL_left_13 hl (by decide) rfl (fun ls hl => ?_)
      refine lv_iconst (v := nI 1) hx hb dL_left_15 (by decide) ?_
      refine g_ret hQ hx hb hr hlocks rfl hP hS (Or.inr ⟨xIO, hpx9, by rw [show cd [xIO, xIS] xIO = 1 from by decide +kernel], rfl⟩) (Nat.le_of_ble_eq_true rfl) (Nat.le_of_ble_eq_true rfl) dL_left_16
    · skip
      have hps : ∀ z ∈ ([⟨0, 10, 13, 15⟩] : List ExceptionTableEntry), z.catchType ≠ 0 ∧ ∃ y ∈ xcL, xIS ≠ y ∧ (Cond.classLink RL z.catchType y).before args s = true := fun z hz => by
              rcases List.mem_cons.mp hz with rfl | hz
              · exact ⟨by decide, xIO, by decide +kernel, by decide +kernel, hw _ wcl_L_15⟩
              exact absurd hz List.not_mem_nil
      refine g_catch (E := xIS) (pre := [⟨0, 10, 13, 15⟩]) (x := ⟨0, 10, 17, 17⟩) (suf := []) hT hown hE (by decide +kernel) hps (by decide) (by decide) (hw _ wcl_L_17) hce hcv hcl ?_
      refine lv_astore (lv' := [(4, .ref q9), (0, .ref (ad 0)), (1, .int x), (2, .int y), (3, .ref (ad 114))]) hx hb dL_left_17 hl (by decide) rfl (fun ls hl => ?_)
      refine lv_iconst (v := nI 2) hx hb dL_left_19 (by decide) ?_
      refine g_ret hQ hx hb hr hlocks rfl hP hS (Or.inr ⟨xIS, hpx9, by rw [show cd [xIO, xIS] xIS = 2 from by decide +kernel], rfl⟩) (Nat.le_of_ble_eq_true rfl) (Nat.le_of_ble_eq_true rfl) dL_left_20
  · skip
    have hv : ∃ y, v = some (.int y) := by
      rcases hp with ⟨⟨_, _, _, _, _, _, _, h⟩, _⟩
      all_goals exact ⟨_, h⟩
    obtain ⟨y9, rfl⟩ := hv
    have hO1 : G1 114 = aJ cT 1 f := by
      rw [hp.2]
      exact hO
    refine lv_i2l hx hb dL_left_8 rfl ?_
    refine g_last hx hb hK hP hD hS (i := 114) (by omega) hO1 (by omega) (by omega) dL_left_9 (fun G_1 H locs hg_G_1 ho_G_1 hP hS => ?_)
    have hc_2 : G_1 114 = aJ cT 1 (va_up f 0 y9.toInt64) := hg_G_1
    refine lv_goto (tgt := 21) hx hb dL_left_10 (by decide) ?_
    refine lv_iconst (v := nI 0) hx hb dL_left_21 (by decide) ?_
    refine g_ret hQ hx hb hr hlocks rfl hP hS (Or.inl ⟨y9, G1, hp, hc_2, ho_G_1, rfl⟩) (Nat.le_of_ble_eq_true rfl) (Nat.le_of_ble_eq_true rfl) dL_left_22

set_option maxHeartbeats 4000000 in
set_option maxRecDepth 100000 in
theorem mL_ahead (l : Launch) (hl9 : l.stackTraces = false) (D : va_G) (cT : Nat → ClassId) (n : Nat) (ad : Nat → Nat) (A : Nat → Prop) (hD : ∀ G, va_D A (gw n ad G)) (G : Nat → va_E) (hn : 116 ≤ n) (σ : TY) (hY : YW cT ad G σ) (hI : YI σ) (f : Nat → Int64) (hO : G 114 = aJ cT 1 f) (x y : Int32) : Met l yL_ahead (wB yL_ahead cL_ahead 5 (some .int) [(0, 10, 13, 15)]) ({ frames := 9, cells := 2, slots := 12, locals := 148 } : Room) (PG D cT n ad A G [.ref (ad 0), .int x, .int y, .ref (ad 114)]) (QG D n ad A (fun v G1 => (∃ (y8 : Int32) (G2 : Nat → va_E), (onI σ x y (fun b i => (some (Value.int y8)) = some (.int (nI (ps (σ.2 b).2.2.2.2.2 i)))) ∧ G2 = G) ∧ G1 114 = aJ cT 1 (va_up f 0 (y8.toInt64)) ∧ (∀ j, j ≠ 114 → G1 j = G2 j) ∧ v = some (.int (nI 0))) ∨ (∃ E : String, (pxItem σ x y E) ∧ v = some (.int (nI (cd [xIO] E))) ∧ G1 = G))) 2 12 A := by
  refine Met.ofH (cc := cL_ahead) (maxL := 5) (ret := (some .int)) (by decide) (Nat.le_of_ble_eq_true rfl) ?_
  intro p e s m args below meth c Q hQ hT hx hb hr hml hlocks hown hw hP hK hE hA hS ls hl
  have hl : lv_has ls 5 [(0, .ref (ad 0)), (1, .int x), (2, .int y), (3, .ref (ad 114))] := hl
  refine lv_aload_n hx hb dL_ahead_0 rfl (lv_at hl 3 rfl) ?_
  refine lv_iconst (v := nI 0) hx hb dL_ahead_1 (by decide) ?_
  refine lv_aload_n hx hb dL_ahead_2 rfl (lv_at hl 0 rfl) ?_
  refine lv_iload_n hx hb dL_ahead_3 rfl (lv_at hl 1 rfl) ?_
  refine lv_iload_n hx hb dL_ahead_4 rfl (lv_at hl 2 rfl) ?_
  refine g_callVX (As := [.int x, .int y]) (rest := [.int (nI 0), .ref (ad 114)]) ⟨hx, hb, hml, hown, hw⟩ (mX2_ahead l hl9 D cT n ad A hD G σ hY (by omega) hI x y) (cwV 2 hw (gWV wm_L_58 wi_X2_ahead wse_X2_ahead wini_X2 wc_X2_ahead) rfl rfl rfl (by decide +kernel) ⟨Nat.le_of_ble_eq_true rfl, Nat.le_of_ble_eq_true rfl⟩) hK hE hA hP hS (k := 0) (by omega) hY.1.1 rfl rfl hl.1 (lv_room (Nat.le_of_ble_eq_true rfl)) dL_ahead_5 ⟨Nat.le_of_ble_eq_true rfl, Nat.le_of_ble_eq_true rfl⟩ (fun E ce q9 H locs hpx hP hS hce hcv hcl => ?_) (fun v G1 H locs hp hP hS => ?_)
  · have hpx9 := hpx
    rcases hpx with ⟨_, rfl⟩
    · skip
      have hps : ∀ z ∈ ([] : List ExceptionTableEntry), z.catchType ≠ 0 ∧ ∃ y ∈ xcL, xIO ≠ y ∧ (Cond.classLink RL z.catchType y).before args s = true := fun z hz => absurd hz List.not_mem_nil
      refine g_catch (E := xIO) (pre := []) (x := ⟨0, 10, 13, 15⟩) (suf := []) hT hown hE (by decide +kernel) hps (by decide) (by decide) (hw _ wcl_L_15) hce hcv hcl ?_
      refine lv_astore (lv' := [(4, .ref q9), (0, .ref (ad 0)), (1, .int x), (2, .int y), (3, .ref (ad 114))]) hx hb dL_ahead_13 hl (by decide) rfl (fun ls hl => ?_)
      refine lv_iconst (v := nI 1) hx hb dL_ahead_15 (by decide) ?_
      refine g_ret hQ hx hb hr hlocks rfl hP hS (Or.inr ⟨xIO, hpx9, by rw [show cd [xIO] xIO = 1 from by decide +kernel], rfl⟩) (Nat.le_of_ble_eq_true rfl) (Nat.le_of_ble_eq_true rfl) dL_ahead_16
  · skip
    have hv : ∃ y, v = some (.int y) := by
      rcases hp with ⟨⟨_, _, _, _, _, _, h⟩, _⟩
      all_goals exact ⟨_, h⟩
    obtain ⟨y9, rfl⟩ := hv
    have hO1 : G1 114 = aJ cT 1 f := by
      rw [hp.2]
      exact hO
    refine lv_i2l hx hb dL_ahead_8 rfl ?_
    refine g_last hx hb hK hP hD hS (i := 114) (by omega) hO1 (by omega) (by omega) dL_ahead_9 (fun G_1 H locs hg_G_1 ho_G_1 hP hS => ?_)
    have hc_2 : G_1 114 = aJ cT 1 (va_up f 0 y9.toInt64) := hg_G_1
    refine lv_goto (tgt := 17) hx hb dL_ahead_10 (by decide) ?_
    refine lv_iconst (v := nI 0) hx hb dL_ahead_17 (by decide) ?_
    refine g_ret hQ hx hb hr hlocks rfl hP hS (Or.inl ⟨y9, G1, hp, hc_2, ho_G_1, rfl⟩) (Nat.le_of_ble_eq_true rfl) (Nat.le_of_ble_eq_true rfl) dL_ahead_18

set_option maxHeartbeats 4000000 in
set_option maxRecDepth 100000 in
theorem mL_has (l : Launch) (hl9 : l.stackTraces = false) (D : va_G) (cT : Nat → ClassId) (n : Nat) (ad : Nat → Nat) (A : Nat → Prop) (hD : ∀ G, va_D A (gw n ad G)) (G : Nat → va_E) (hn : 116 ≤ n) (σ : TY) (hY : YW cT ad G σ) (hI : YI σ) (f : Nat → Int64) (hO : G 114 = aJ cT 1 f) (x y : Int32) (ch : Nat) (hch : ch < 65536) : Met l yL_has (wB yL_has cL_has 6 (some .int) [(0, 19, 22, 15), (0, 19, 26, 17), (0, 19, 30, 13)]) ({ frames := 10, cells := 4, slots := 24, locals := 174 } : Room) (PG D cT n ad A G [.ref (ad 0), .int x, .int y, .int (nI ch), .ref (ad 114)]) (QG D n ad A (fun v G1 => (∃ (y8 : Int32) (G2 : Nat → va_E), (onI σ x y (fun b i => (σ.2 b).2.2.2.2.1 i = 112 ∧ 0 < chx ch ∧ (some (Value.int y8)) = some (.int (nI 1))) ∧ G2 = G) ∧ G1 114 = aJ cT 1 (va_up f 0 ((if y8 = 0 then 0 else 1))) ∧ (∀ j, j ≠ 114 → G1 j = G2 j) ∧ v = some (.int (nI 0))) ∨ (∃ E : String, (pxIs σ x y (fun c => c ≠ 112) E ∨ onI σ x y (fun b i => (σ.2 b).2.2.2.2.1 i = 112 ∧ chx ch = 0 ∧ E = xIA)) ∧ v = some (.int (nI (cd [xIO, xIS, xIA] E))) ∧ G1 = G))) 4 24 A := by
  refine Met.ofH (cc := cL_has) (maxL := 6) (ret := (some .int)) (by decide) (Nat.le_of_ble_eq_true rfl) ?_
  intro p e s m args below meth c Q hQ hT hx hb hr hml hlocks hown hw hP hK hE hA hS ls hl
  have hl : lv_has ls 6 [(0, .ref (ad 0)), (1, .int x), (2, .int y), (3, .int (nI ch)), (4, .ref (ad 114))] := hl
  refine lv_aload hx hb dL_has_0 (lv_at hl 4 rfl) ?_
  refine lv_iconst (v := nI 0) hx hb dL_has_2 (by decide) ?_
  refine lv_aload_n hx hb dL_has_3 rfl (lv_at hl 0 rfl) ?_
  refine lv_iload_n hx hb dL_has_4 rfl (lv_at hl 1 rfl) ?_
  refine lv_iload_n hx hb dL_has_5 rfl (lv_at hl 2 rfl) ?_
  refine lv_iload_n hx hb dL_has_6 rfl (lv_at hl 3 rfl) ?_
  refine g_callVX (As := [.int x, .int y, .int (nI ch)]) (rest := [.int (nI 0), .ref (ad 114)]) ⟨hx, hb, hml, hown, hw⟩ (mX2_has l hl9 D cT n ad A hD G σ hY (by omega) hI x y ch (by omega)) (cwV 3 hw (gWV wm_L_61 wi_X2_has wse_X2_has wini_X2 wc_X2_has) rfl rfl rfl (by decide +kernel) ⟨Nat.le_of_ble_eq_true rfl, Nat.le_of_ble_eq_true rfl⟩) hK hE hA hP hS (k := 0) (by omega) hY.1.1 rfl rfl hl.1 (lv_room (Nat.le_of_ble_eq_true rfl)) dL_has_7 ⟨Nat.le_of_ble_eq_true rfl, Nat.le_of_ble_eq_true rfl⟩ (fun E ce q9 H locs hpx hP hS hce hcv hcl => ?_) (fun v G1 H locs hp hP hS => ?_)
  · have hpx9 := hpx
    rcases hpx with (⟨_, rfl⟩ | ⟨_, _, _, _, _, _, _, rfl⟩) | ⟨_, _, _, _, _, _, _, _, rfl⟩
    · skip
      have hps : ∀ z ∈ ([] : List ExceptionTableEntry), z.catchType ≠ 0 ∧ ∃ y ∈ xcL, xIO ≠ y ∧ (Cond.classLink RL z.catchType y).before args s = true := fun z hz => absurd hz List.not_mem_nil
      refine g_catch (E := xIO) (pre := []) (x := ⟨0, 19, 22, 15⟩) (suf := [⟨0, 19, 26, 17⟩, ⟨0, 19, 30, 13⟩]) hT hown hE (by decide +kernel) hps (by decide) (by decide) (hw _ wcl_L_15) hce hcv hcl ?_
      refine lv_astore (lv' := [(5, .ref q9), (0, .ref (ad 0)), (1, .int x), (2, .int y), (3, .int (nI ch)), (4, .ref (ad 114))]) hx hb dL_has_22 hl (by decide) rfl (fun ls hl => ?_)
      refine lv_iconst (v := nI 1) hx hb dL_has_24 (by decide) ?_
      refine g_ret hQ hx hb hr hlocks rfl hP hS (Or.inr ⟨xIO, hpx9, by rw [show cd [xIO, xIS, xIA] xIO = 1 from by decide +kernel], rfl⟩) (Nat.le_of_ble_eq_true rfl) (Nat.le_of_ble_eq_true rfl) dL_has_25
    · skip
      have hps : ∀ z ∈ ([⟨0, 19, 22, 15⟩] : List ExceptionTableEntry), z.catchType ≠ 0 ∧ ∃ y ∈ xcL, xIS ≠ y ∧ (Cond.classLink RL z.catchType y).before args s = true := fun z hz => by
              rcases List.mem_cons.mp hz with rfl | hz
              · exact ⟨by decide, xIO, by decide +kernel, by decide +kernel, hw _ wcl_L_15⟩
              exact absurd hz List.not_mem_nil
      refine g_catch (E := xIS) (pre := [⟨0, 19, 22, 15⟩]) (x := ⟨0, 19, 26, 17⟩) (suf := [⟨0, 19, 30, 13⟩]) hT hown hE (by decide +kernel) hps (by decide) (by decide) (hw _ wcl_L_17) hce hcv hcl ?_
      refine lv_astore (lv' := [(5, .ref q9), (0, .ref (ad 0)), (1, .int x), (2, .int y), (3, .int (nI ch)), (4, .ref (ad 114))]) hx hb dL_has_26 hl (by decide) rfl (fun ls hl => ?_)
      refine lv_iconst (v := nI 2) hx hb dL_has_28 (by decide) ?_
      refine g_ret hQ hx hb hr hlocks rfl hP hS (Or.inr ⟨xIS, hpx9, by rw [show cd [xIO, xIS, xIA] xIS = 2 from by decide +kernel], rfl⟩) (Nat.le_of_ble_eq_true rfl) (Nat.le_of_ble_eq_true rfl) dL_has_29
    · skip
      have hps : ∀ z ∈ ([⟨0, 19, 22, 15⟩, ⟨0, 19, 26, 17⟩] : List ExceptionTableEntry), z.catchType ≠ 0 ∧ ∃ y ∈ xcL, xIA ≠ y ∧ (Cond.classLink RL z.catchType y).before args s = true := fun z hz => by
              rcases List.mem_cons.mp hz with rfl | hz
              · exact ⟨by decide, xIO, by decide +kernel, by decide +kernel, hw _ wcl_L_15⟩
              rcases List.mem_cons.mp hz with rfl | hz
              · exact ⟨by decide, xIS, by decide +kernel, by decide +kernel, hw _ wcl_L_17⟩
              exact absurd hz List.not_mem_nil
      refine g_catch (E := xIA) (pre := [⟨0, 19, 22, 15⟩, ⟨0, 19, 26, 17⟩]) (x := ⟨0, 19, 30, 13⟩) (suf := []) hT hown hE (by decide +kernel) hps (by decide) (by decide) (hw _ wcl_L_13) hce hcv hcl ?_
      refine lv_astore (lv' := [(5, .ref q9), (0, .ref (ad 0)), (1, .int x), (2, .int y), (3, .int (nI ch)), (4, .ref (ad 114))]) hx hb dL_has_30 hl (by decide) rfl (fun ls hl => ?_)
      refine lv_iconst (v := nI 3) hx hb dL_has_32 (by decide) ?_
      refine g_ret hQ hx hb hr hlocks rfl hP hS (Or.inr ⟨xIA, hpx9, by rw [show cd [xIO, xIS, xIA] xIA = 3 from by decide +kernel], rfl⟩) (Nat.le_of_ble_eq_true rfl) (Nat.le_of_ble_eq_true rfl) dL_has_33
  · skip
    have hv : ∃ y, v = some (.int y) := by
      rcases hp with ⟨⟨_, _, _, _, _, _, _, _, h⟩, _⟩
      all_goals exact ⟨_, h⟩
    obtain ⟨y9, rfl⟩ := hv
    have hO1 : G1 114 = aJ cT 1 f := by
      rw [hp.2]
      exact hO
    refine lv_if_eq (tgt := 17) hx hb dL_has_10 (by decide) (fun c_1 => ?_) (fun c_1 => ?_)
    · skip
      refine lv_lconst (v := 0) hx hb dL_has_17 (by decide) ?_
      refine g_last hx hb hK hP hD hS (i := 114) (by omega) hO1 (by omega) (by omega) dL_has_18 (fun G_2 H locs hg_G_2 ho_G_2 hP hS => ?_)
      have hc_3 : G_2 114 = aJ cT 1 (va_up f 0 0) := hg_G_2
      refine lv_goto (tgt := 34) hx hb dL_has_19 (by decide) ?_
      refine lv_iconst (v := nI 0) hx hb dL_has_34 (by decide) ?_
      refine g_ret hQ hx hb hr hlocks rfl hP hS (Or.inl ⟨y9, G1, hp, hc_3.trans (by rw [if_pos c_1]), ho_G_2, rfl⟩) (Nat.le_of_ble_eq_true rfl) (Nat.le_of_ble_eq_true rfl) dL_has_35
    · skip
      refine lv_lconst (v := 1) hx hb dL_has_13 (by decide) ?_
      refine lv_goto (tgt := 18) hx hb dL_has_14 (by decide) ?_
      refine g_last hx hb hK hP hD hS (i := 114) (by omega) hO1 (by omega) (by omega) dL_has_18 (fun G_4 H locs hg_G_4 ho_G_4 hP hS => ?_)
      have hc_5 : G_4 114 = aJ cT 1 (va_up f 0 1) := hg_G_4
      refine lv_goto (tgt := 34) hx hb dL_has_19 (by decide) ?_
      refine lv_iconst (v := nI 0) hx hb dL_has_34 (by decide) ?_
      refine g_ret hQ hx hb hr hlocks rfl hP hS (Or.inl ⟨y9, G1, hp, hc_5.trans (by rw [if_neg c_1]), ho_G_4, rfl⟩) (Nat.le_of_ble_eq_true rfl) (Nat.le_of_ble_eq_true rfl) dL_has_35

set_option maxHeartbeats 4000000 in
set_option maxRecDepth 100000 in
theorem mL_isExact (l : Launch) (hl9 : l.stackTraces = false) (D : va_G) (cT : Nat → ClassId) (n : Nat) (ad : Nat → Nat) (A : Nat → Prop) (hD : ∀ G, va_D A (gw n ad G)) (G : Nat → va_E) (hn : 116 ≤ n) (σ : TY) (hY : YW cT ad G σ) (hI : YI σ) (f : Nat → Int64) (hO : G 114 = aJ cT 1 f) (x y : Int32) : Met l yL_isExact (wB yL_isExact cL_isExact 5 (some .int) [(0, 17, 20, 15), (0, 17, 24, 17)]) ({ frames := 10, cells := 3, slots := 18, locals := 171 } : Room) (PG D cT n ad A G [.ref (ad 0), .int x, .int y, .ref (ad 114)]) (QG D n ad A (fun v G1 => (∃ (y8 : Int32) (G2 : Nat → va_E), (onI σ x y (fun b i => (σ.2 b).2.2.2.2.1 i = 112 ∧ (some (Value.int y8)) = some (.int (nI 1))) ∧ G2 = G) ∧ G1 114 = aJ cT 1 (va_up f 0 ((if y8 = 0 then 0 else 1))) ∧ (∀ j, j ≠ 114 → G1 j = G2 j) ∧ v = some (.int (nI 0))) ∨ (∃ E : String, (pxIs σ x y (fun c => c ≠ 112) E) ∧ v = some (.int (nI (cd [xIO, xIS] E))) ∧ G1 = G))) 3 18 A := by
  refine Met.ofH (cc := cL_isExact) (maxL := 5) (ret := (some .int)) (by decide) (Nat.le_of_ble_eq_true rfl) ?_
  intro p e s m args below meth c Q hQ hT hx hb hr hml hlocks hown hw hP hK hE hA hS ls hl
  have hl : lv_has ls 5 [(0, .ref (ad 0)), (1, .int x), (2, .int y), (3, .ref (ad 114))] := hl
  refine lv_aload_n hx hb dL_isExact_0 rfl (lv_at hl 3 rfl) ?_
  refine lv_iconst (v := nI 0) hx hb dL_isExact_1 (by decide) ?_
  refine lv_aload_n hx hb dL_isExact_2 rfl (lv_at hl 0 rfl) ?_
  refine lv_iload_n hx hb dL_isExact_3 rfl (lv_at hl 1 rfl) ?_
  refine lv_iload_n hx hb dL_isExact_4 rfl (lv_at hl 2 rfl) ?_
  refine g_callVX (As := [.int x, .int y]) (rest := [.int (nI 0), .ref (ad 114)]) ⟨hx, hb, hml, hown, hw⟩ (mX2_isExact l hl9 D cT n ad A hD G σ hY (by omega) hI x y) (cwV 2 hw (gWV wm_L_65 wi_X2_isExact wse_X2_isExact wini_X2 wc_X2_isExact) rfl rfl rfl (by decide +kernel) ⟨Nat.le_of_ble_eq_true rfl, Nat.le_of_ble_eq_true rfl⟩) hK hE hA hP hS (k := 0) (by omega) hY.1.1 rfl rfl hl.1 (lv_room (Nat.le_of_ble_eq_true rfl)) dL_isExact_5 ⟨Nat.le_of_ble_eq_true rfl, Nat.le_of_ble_eq_true rfl⟩ (fun E ce q9 H locs hpx hP hS hce hcv hcl => ?_) (fun v G1 H locs hp hP hS => ?_)
  · have hpx9 := hpx
    rcases hpx with ⟨_, rfl⟩ | ⟨_, _, _, _, _, _, _, rfl⟩
    · skip
      have hps : ∀ z ∈ ([] : List ExceptionTableEntry), z.catchType ≠ 0 ∧ ∃ y ∈ xcL, xIO ≠ y ∧ (Cond.classLink RL z.catchType y).before args s = true := fun z hz => absurd hz List.not_mem_nil
      refine g_catch (E := xIO) (pre := []) (x := ⟨0, 17, 20, 15⟩) (suf := [⟨0, 17, 24, 17⟩]) hT hown hE (by decide +kernel) hps (by decide) (by decide) (hw _ wcl_L_15) hce hcv hcl ?_
      refine lv_astore (lv' := [(4, .ref q9), (0, .ref (ad 0)), (1, .int x), (2, .int y), (3, .ref (ad 114))]) hx hb dL_isExact_20 hl (by decide) rfl (fun ls hl => ?_)
      refine lv_iconst (v := nI 1) hx hb dL_isExact_22 (by decide) ?_
      refine g_ret hQ hx hb hr hlocks rfl hP hS (Or.inr ⟨xIO, hpx9, by rw [show cd [xIO, xIS] xIO = 1 from by decide +kernel], rfl⟩) (Nat.le_of_ble_eq_true rfl) (Nat.le_of_ble_eq_true rfl) dL_isExact_23
    · skip
      have hps : ∀ z ∈ ([⟨0, 17, 20, 15⟩] : List ExceptionTableEntry), z.catchType ≠ 0 ∧ ∃ y ∈ xcL, xIS ≠ y ∧ (Cond.classLink RL z.catchType y).before args s = true := fun z hz => by
              rcases List.mem_cons.mp hz with rfl | hz
              · exact ⟨by decide, xIO, by decide +kernel, by decide +kernel, hw _ wcl_L_15⟩
              exact absurd hz List.not_mem_nil
      refine g_catch (E := xIS) (pre := [⟨0, 17, 20, 15⟩]) (x := ⟨0, 17, 24, 17⟩) (suf := []) hT hown hE (by decide +kernel) hps (by decide) (by decide) (hw _ wcl_L_17) hce hcv hcl ?_
      refine lv_astore (lv' := [(4, .ref q9), (0, .ref (ad 0)), (1, .int x), (2, .int y), (3, .ref (ad 114))]) hx hb dL_isExact_24 hl (by decide) rfl (fun ls hl => ?_)
      refine lv_iconst (v := nI 2) hx hb dL_isExact_26 (by decide) ?_
      refine g_ret hQ hx hb hr hlocks rfl hP hS (Or.inr ⟨xIS, hpx9, by rw [show cd [xIO, xIS] xIS = 2 from by decide +kernel], rfl⟩) (Nat.le_of_ble_eq_true rfl) (Nat.le_of_ble_eq_true rfl) dL_isExact_27
  · skip
    have hv : ∃ y, v = some (.int y) := by
      rcases hp with ⟨⟨_, _, _, _, _, _, _, h⟩, _⟩
      all_goals exact ⟨_, h⟩
    obtain ⟨y9, rfl⟩ := hv
    have hO1 : G1 114 = aJ cT 1 f := by
      rw [hp.2]
      exact hO
    refine lv_if_eq (tgt := 15) hx hb dL_isExact_8 (by decide) (fun c_1 => ?_) (fun c_1 => ?_)
    · skip
      refine lv_lconst (v := 0) hx hb dL_isExact_15 (by decide) ?_
      refine g_last hx hb hK hP hD hS (i := 114) (by omega) hO1 (by omega) (by omega) dL_isExact_16 (fun G_2 H locs hg_G_2 ho_G_2 hP hS => ?_)
      have hc_3 : G_2 114 = aJ cT 1 (va_up f 0 0) := hg_G_2
      refine lv_goto (tgt := 28) hx hb dL_isExact_17 (by decide) ?_
      refine lv_iconst (v := nI 0) hx hb dL_isExact_28 (by decide) ?_
      refine g_ret hQ hx hb hr hlocks rfl hP hS (Or.inl ⟨y9, G1, hp, hc_3.trans (by rw [if_pos c_1]), ho_G_2, rfl⟩) (Nat.le_of_ble_eq_true rfl) (Nat.le_of_ble_eq_true rfl) dL_isExact_29
    · skip
      refine lv_lconst (v := 1) hx hb dL_isExact_11 (by decide) ?_
      refine lv_goto (tgt := 16) hx hb dL_isExact_12 (by decide) ?_
      refine g_last hx hb hK hP hD hS (i := 114) (by omega) hO1 (by omega) (by omega) dL_isExact_16 (fun G_4 H locs hg_G_4 ho_G_4 hP hS => ?_)
      have hc_5 : G_4 114 = aJ cT 1 (va_up f 0 1) := hg_G_4
      refine lv_goto (tgt := 28) hx hb dL_isExact_17 (by decide) ?_
      refine lv_iconst (v := nI 0) hx hb dL_isExact_28 (by decide) ?_
      refine g_ret hQ hx hb hr hlocks rfl hP hS (Or.inl ⟨y9, G1, hp, hc_5.trans (by rw [if_neg c_1]), ho_G_4, rfl⟩) (Nat.le_of_ble_eq_true rfl) (Nat.le_of_ble_eq_true rfl) dL_isExact_29

set_option maxHeartbeats 4000000 in
set_option maxRecDepth 100000 in
theorem mL_split (l : Launch) (hl9 : l.stackTraces = false) (D : va_G) (cT : Nat → ClassId) (n : Nat) (ad : Nat → Nat) (A : Nat → Prop) (hD : ∀ G, va_D A (gw n ad G)) (G : Nat → va_E) (hn : 116 ≤ n) (σ : TY) (hY : YW cT ad G σ) (hI : YI σ) (f : Nat → Int64) (hO : G 114 = aJ cT 1 f) (x y : Int32) : Met l yL_split (wB yL_split cL_split 5 (some .int) [(0, 10, 13, 15), (0, 10, 17, 17)]) ({ frames := 10, cells := 3, slots := 18, locals := 171 } : Room) (PG D cT n ad A G [.ref (ad 0), .int x, .int y, .ref (ad 114)]) (QG D n ad A (fun v G1 => (∃ (y8 : Int32) (G2 : Nat → va_E), (onI σ x y (fun b i => (σ.2 b).2.2.2.2.1 i = 112 ∧ (((σ.2 b).2.2.2.2.2 i < 2 ∧ (some (Value.int y8)) = some (.int (-1)) ∧ YW cT ad G2 σ) ∨ (2 ≤ (σ.2 b).2.2.2.2.2 i ∧ (some (Value.int y8)) = some (.int (nI ((σ.2 b).2.2.2.2.2 i / 2))) ∧ YW cT ad G2 (setB σ b (halfB (σ.2 b) i))))) ∧ ∀ j, 69 ≤ j → G2 j = G j) ∧ G1 114 = aJ cT 1 (va_up f 0 (y8.toInt64)) ∧ (∀ j, j ≠ 114 → G1 j = G2 j) ∧ v = some (.int (nI 0))) ∨ (∃ E : String, (pxIs σ x y (fun c => c ≠ 112) E) ∧ v = some (.int (nI (cd [xIO, xIS] E))) ∧ G1 = G))) 3 18 A := by
  refine Met.ofH (cc := cL_split) (maxL := 5) (ret := (some .int)) (by decide) (Nat.le_of_ble_eq_true rfl) ?_
  intro p e s m args below meth c Q hQ hT hx hb hr hml hlocks hown hw hP hK hE hA hS ls hl
  have hl : lv_has ls 5 [(0, .ref (ad 0)), (1, .int x), (2, .int y), (3, .ref (ad 114))] := hl
  refine lv_aload_n hx hb dL_split_0 rfl (lv_at hl 3 rfl) ?_
  refine lv_iconst (v := nI 0) hx hb dL_split_1 (by decide) ?_
  refine lv_aload_n hx hb dL_split_2 rfl (lv_at hl 0 rfl) ?_
  refine lv_iload_n hx hb dL_split_3 rfl (lv_at hl 1 rfl) ?_
  refine lv_iload_n hx hb dL_split_4 rfl (lv_at hl 2 rfl) ?_
  refine g_callVX (As := [.int x, .int y]) (rest := [.int (nI 0), .ref (ad 114)]) ⟨hx, hb, hml, hown, hw⟩ (mX2_split l hl9 D cT n ad A hD G σ hY (by omega) hI x y) (cwV 2 hw (gWV wm_L_69 wi_X2_split wse_X2_split wini_X2 wc_X2_split) rfl rfl rfl (by decide +kernel) ⟨Nat.le_of_ble_eq_true rfl, Nat.le_of_ble_eq_true rfl⟩) hK hE hA hP hS (k := 0) (by omega) hY.1.1 rfl rfl hl.1 (lv_room (Nat.le_of_ble_eq_true rfl)) dL_split_5 ⟨Nat.le_of_ble_eq_true rfl, Nat.le_of_ble_eq_true rfl⟩ (fun E ce q9 H locs hpx hP hS hce hcv hcl => ?_) (fun v G1 H locs hp hP hS => ?_)
  · have hpx9 := hpx
    rcases hpx with ⟨_, rfl⟩ | ⟨_, _, _, _, _, _, _, rfl⟩
    · skip
      have hps : ∀ z ∈ ([] : List ExceptionTableEntry), z.catchType ≠ 0 ∧ ∃ y ∈ xcL, xIO ≠ y ∧ (Cond.classLink RL z.catchType y).before args s = true := fun z hz => absurd hz List.not_mem_nil
      refine g_catch (E := xIO) (pre := []) (x := ⟨0, 10, 13, 15⟩) (suf := [⟨0, 10, 17, 17⟩]) hT hown hE (by decide +kernel) hps (by decide) (by decide) (hw _ wcl_L_15) hce hcv hcl ?_
      refine lv_astore (lv' := [(4, .ref q9), (0, .ref (ad 0)), (1, .int x), (2, .int y), (3, .ref (ad 114))]) hx hb dL_split_13 hl (by decide) rfl (fun ls hl => ?_)
      refine lv_iconst (v := nI 1) hx hb dL_split_15 (by decide) ?_
      refine g_ret hQ hx hb hr hlocks rfl hP hS (Or.inr ⟨xIO, hpx9, by rw [show cd [xIO, xIS] xIO = 1 from by decide +kernel], rfl⟩) (Nat.le_of_ble_eq_true rfl) (Nat.le_of_ble_eq_true rfl) dL_split_16
    · skip
      have hps : ∀ z ∈ ([⟨0, 10, 13, 15⟩] : List ExceptionTableEntry), z.catchType ≠ 0 ∧ ∃ y ∈ xcL, xIS ≠ y ∧ (Cond.classLink RL z.catchType y).before args s = true := fun z hz => by
              rcases List.mem_cons.mp hz with rfl | hz
              · exact ⟨by decide, xIO, by decide +kernel, by decide +kernel, hw _ wcl_L_15⟩
              exact absurd hz List.not_mem_nil
      refine g_catch (E := xIS) (pre := [⟨0, 10, 13, 15⟩]) (x := ⟨0, 10, 17, 17⟩) (suf := []) hT hown hE (by decide +kernel) hps (by decide) (by decide) (hw _ wcl_L_17) hce hcv hcl ?_
      refine lv_astore (lv' := [(4, .ref q9), (0, .ref (ad 0)), (1, .int x), (2, .int y), (3, .ref (ad 114))]) hx hb dL_split_17 hl (by decide) rfl (fun ls hl => ?_)
      refine lv_iconst (v := nI 2) hx hb dL_split_19 (by decide) ?_
      refine g_ret hQ hx hb hr hlocks rfl hP hS (Or.inr ⟨xIS, hpx9, by rw [show cd [xIO, xIS] xIS = 2 from by decide +kernel], rfl⟩) (Nat.le_of_ble_eq_true rfl) (Nat.le_of_ble_eq_true rfl) dL_split_20
  · skip
    have hv : ∃ y, v = some (.int y) := by
      rcases hp with ⟨⟨_, _, _, _, _, _, _, ⟨_, h, _⟩ | ⟨_, h, _⟩⟩, _⟩
      all_goals exact ⟨_, h⟩
    obtain ⟨y9, rfl⟩ := hv
    have hO1 : G1 114 = aJ cT 1 f := ((hp.2) 114 (by omega)).trans hO
    refine lv_i2l hx hb dL_split_8 rfl ?_
    refine g_last hx hb hK hP hD hS (i := 114) (by omega) hO1 (by omega) (by omega) dL_split_9 (fun G_1 H locs hg_G_1 ho_G_1 hP hS => ?_)
    have hc_2 : G_1 114 = aJ cT 1 (va_up f 0 y9.toInt64) := hg_G_1
    refine lv_goto (tgt := 21) hx hb dL_split_10 (by decide) ?_
    refine lv_iconst (v := nI 0) hx hb dL_split_21 (by decide) ?_
    refine g_ret hQ hx hb hr hlocks rfl hP hS (Or.inl ⟨y9, G1, hp, hc_2, ho_G_1, rfl⟩) (Nat.le_of_ble_eq_true rfl) (Nat.le_of_ble_eq_true rfl) dL_split_22

set_option maxHeartbeats 4000000 in
set_option maxRecDepth 100000 in
theorem mL_step (l : Launch) (hl9 : l.stackTraces = false) (D : va_G) (cT : Nat → ClassId) (n : Nat) (ad : Nat → Nat) (A : Nat → Prop) (hD : ∀ G, va_D A (gw n ad G)) (G : Nat → va_E) (hn : 116 ≤ n) (σ : TY) (hY : YW cT ad G σ) (hI : YI σ) (f : Nat → Int64) (hO : G 114 = aJ cT 1 f) (x y : Int32) : Met l yL_step (wB yL_step cL_step 5 (some .int) [(0, 17, 20, 15), (0, 17, 24, 17)]) ({ frames := 10, cells := 3, slots := 18, locals := 171 } : Room) (PG D cT n ad A G [.ref (ad 0), .int x, .int y, .ref (ad 114)]) (QG D n ad A (fun v G1 => (∃ (y8 : Int32) (G2 : Nat → va_E), (onI σ x y (fun b i => (σ.2 b).2.2.2.2.1 i ≠ 110 ∧ (some (Value.int y8)) = some (.int (nI (min 1 ((σ.2 b).2.2.2.2.2 i)))) ∧ YW cT ad G2 (setB σ b (giveB (σ.2 b) i (min 1 ((σ.2 b).2.2.2.2.2 i))))) ∧ ∀ j, 69 ≤ j → G2 j = G j) ∧ G1 114 = aJ cT 1 (va_up f 0 ((if y8 = 0 then 0 else 1))) ∧ (∀ j, j ≠ 114 → G1 j = G2 j) ∧ v = some (.int (nI 0))) ∨ (∃ E : String, (pxIs σ x y (fun c => c = 110) E) ∧ v = some (.int (nI (cd [xIO, xIS] E))) ∧ G1 = G))) 3 18 A := by
  refine Met.ofH (cc := cL_step) (maxL := 5) (ret := (some .int)) (by decide) (Nat.le_of_ble_eq_true rfl) ?_
  intro p e s m args below meth c Q hQ hT hx hb hr hml hlocks hown hw hP hK hE hA hS ls hl
  have hl : lv_has ls 5 [(0, .ref (ad 0)), (1, .int x), (2, .int y), (3, .ref (ad 114))] := hl
  refine lv_aload_n hx hb dL_step_0 rfl (lv_at hl 3 rfl) ?_
  refine lv_iconst (v := nI 0) hx hb dL_step_1 (by decide) ?_
  refine lv_aload_n hx hb dL_step_2 rfl (lv_at hl 0 rfl) ?_
  refine lv_iload_n hx hb dL_step_3 rfl (lv_at hl 1 rfl) ?_
  refine lv_iload_n hx hb dL_step_4 rfl (lv_at hl 2 rfl) ?_
  refine g_callVX (As := [.int x, .int y]) (rest := [.int (nI 0), .ref (ad 114)]) ⟨hx, hb, hml, hown, hw⟩ (mX2_step l hl9 D cT n ad A hD G σ hY (by omega) hI x y) (cwV 2 hw (gWV wm_L_72 wi_X2_step wse_X2_step wini_X2 wc_X2_step) rfl rfl rfl (by decide +kernel) ⟨Nat.le_of_ble_eq_true rfl, Nat.le_of_ble_eq_true rfl⟩) hK hE hA hP hS (k := 0) (by omega) hY.1.1 rfl rfl hl.1 (lv_room (Nat.le_of_ble_eq_true rfl)) dL_step_5 ⟨Nat.le_of_ble_eq_true rfl, Nat.le_of_ble_eq_true rfl⟩ (fun E ce q9 H locs hpx hP hS hce hcv hcl => ?_) (fun v G1 H locs hp hP hS => ?_)
  · have hpx9 := hpx
    rcases hpx with ⟨_, rfl⟩ | ⟨_, _, _, _, _, _, _, rfl⟩
    · skip
      have hps : ∀ z ∈ ([] : List ExceptionTableEntry), z.catchType ≠ 0 ∧ ∃ y ∈ xcL, xIO ≠ y ∧ (Cond.classLink RL z.catchType y).before args s = true := fun z hz => absurd hz List.not_mem_nil
      refine g_catch (E := xIO) (pre := []) (x := ⟨0, 17, 20, 15⟩) (suf := [⟨0, 17, 24, 17⟩]) hT hown hE (by decide +kernel) hps (by decide) (by decide) (hw _ wcl_L_15) hce hcv hcl ?_
      refine lv_astore (lv' := [(4, .ref q9), (0, .ref (ad 0)), (1, .int x), (2, .int y), (3, .ref (ad 114))]) hx hb dL_step_20 hl (by decide) rfl (fun ls hl => ?_)
      refine lv_iconst (v := nI 1) hx hb dL_step_22 (by decide) ?_
      refine g_ret hQ hx hb hr hlocks rfl hP hS (Or.inr ⟨xIO, hpx9, by rw [show cd [xIO, xIS] xIO = 1 from by decide +kernel], rfl⟩) (Nat.le_of_ble_eq_true rfl) (Nat.le_of_ble_eq_true rfl) dL_step_23
    · skip
      have hps : ∀ z ∈ ([⟨0, 17, 20, 15⟩] : List ExceptionTableEntry), z.catchType ≠ 0 ∧ ∃ y ∈ xcL, xIS ≠ y ∧ (Cond.classLink RL z.catchType y).before args s = true := fun z hz => by
              rcases List.mem_cons.mp hz with rfl | hz
              · exact ⟨by decide, xIO, by decide +kernel, by decide +kernel, hw _ wcl_L_15⟩
              exact absurd hz List.not_mem_nil
      refine g_catch (E := xIS) (pre := [⟨0, 17, 20, 15⟩]) (x := ⟨0, 17, 24, 17⟩) (suf := []) hT hown hE (by decide +kernel) hps (by decide) (by decide) (hw _ wcl_L_17) hce hcv hcl ?_
      refine lv_astore (lv' := [(4, .ref q9), (0, .ref (ad 0)), (1, .int x), (2, .int y), (3, .ref (ad 114))]) hx hb dL_step_24 hl (by decide) rfl (fun ls hl => ?_)
      refine lv_iconst (v := nI 2) hx hb dL_step_26 (by decide) ?_
      refine g_ret hQ hx hb hr hlocks rfl hP hS (Or.inr ⟨xIS, hpx9, by rw [show cd [xIO, xIS] xIS = 2 from by decide +kernel], rfl⟩) (Nat.le_of_ble_eq_true rfl) (Nat.le_of_ble_eq_true rfl) dL_step_27
  · skip
    have hv : ∃ y, v = some (.int y) := by
      rcases hp with ⟨⟨_, _, _, _, _, _, _, h, _⟩, _⟩
      all_goals exact ⟨_, h⟩
    obtain ⟨y9, rfl⟩ := hv
    have hO1 : G1 114 = aJ cT 1 f := ((hp.2) 114 (by omega)).trans hO
    refine lv_if_eq (tgt := 15) hx hb dL_step_8 (by decide) (fun c_1 => ?_) (fun c_1 => ?_)
    · skip
      refine lv_lconst (v := 0) hx hb dL_step_15 (by decide) ?_
      refine g_last hx hb hK hP hD hS (i := 114) (by omega) hO1 (by omega) (by omega) dL_step_16 (fun G_2 H locs hg_G_2 ho_G_2 hP hS => ?_)
      have hc_3 : G_2 114 = aJ cT 1 (va_up f 0 0) := hg_G_2
      refine lv_goto (tgt := 28) hx hb dL_step_17 (by decide) ?_
      refine lv_iconst (v := nI 0) hx hb dL_step_28 (by decide) ?_
      refine g_ret hQ hx hb hr hlocks rfl hP hS (Or.inl ⟨y9, G1, hp, hc_3.trans (by rw [if_pos c_1]), ho_G_2, rfl⟩) (Nat.le_of_ble_eq_true rfl) (Nat.le_of_ble_eq_true rfl) dL_step_29
    · skip
      refine lv_lconst (v := 1) hx hb dL_step_11 (by decide) ?_
      refine lv_goto (tgt := 16) hx hb dL_step_12 (by decide) ?_
      refine g_last hx hb hK hP hD hS (i := 114) (by omega) hO1 (by omega) (by omega) dL_step_16 (fun G_4 H locs hg_G_4 ho_G_4 hP hS => ?_)
      have hc_5 : G_4 114 = aJ cT 1 (va_up f 0 1) := hg_G_4
      refine lv_goto (tgt := 28) hx hb dL_step_17 (by decide) ?_
      refine lv_iconst (v := nI 0) hx hb dL_step_28 (by decide) ?_
      refine g_ret hQ hx hb hr hlocks rfl hP hS (Or.inl ⟨y9, G1, hp, hc_5.trans (by rw [if_neg c_1]), ho_G_4, rfl⟩) (Nat.le_of_ble_eq_true rfl) (Nat.le_of_ble_eq_true rfl) dL_step_29

set_option maxHeartbeats 4000000 in
set_option maxRecDepth 100000 in
theorem mL_drain (l : Launch) (hl9 : l.stackTraces = false) (D : va_G) (cT : Nat → ClassId) (n : Nat) (ad : Nat → Nat) (A : Nat → Prop) (hD : ∀ G, va_D A (gw n ad G)) (G : Nat → va_E) (hn : 116 ≤ n) (σ : TY) (hY : YW cT ad G σ) (hI : YI σ) (f : Nat → Int64) (hO : G 114 = aJ cT 1 f) (x y : Int32) : Met l yL_drain (wB yL_drain cL_drain 5 (some .int) [(0, 10, 13, 15), (0, 10, 17, 17)]) ({ frames := 10, cells := 3, slots := 18, locals := 171 } : Room) (PG D cT n ad A G [.ref (ad 0), .int x, .int y, .ref (ad 114)]) (QG D n ad A (fun v G1 => (∃ (y8 : Int32) (G2 : Nat → va_E), (onI σ x y (fun b i => (σ.2 b).2.2.2.2.1 i ≠ 110 ∧ (some (Value.int y8)) = some (.int (nI (min 48 ((σ.2 b).2.2.2.2.2 i)))) ∧ YW cT ad G2 (setB σ b (giveB (σ.2 b) i (min 48 ((σ.2 b).2.2.2.2.2 i))))) ∧ ∀ j, 69 ≤ j → G2 j = G j) ∧ G1 114 = aJ cT 1 (va_up f 0 (y8.toInt64)) ∧ (∀ j, j ≠ 114 → G1 j = G2 j) ∧ v = some (.int (nI 0))) ∨ (∃ E : String, (pxIs σ x y (fun c => c = 110) E) ∧ v = some (.int (nI (cd [xIO, xIS] E))) ∧ G1 = G))) 3 18 A := by
  refine Met.ofH (cc := cL_drain) (maxL := 5) (ret := (some .int)) (by decide) (Nat.le_of_ble_eq_true rfl) ?_
  intro p e s m args below meth c Q hQ hT hx hb hr hml hlocks hown hw hP hK hE hA hS ls hl
  have hl : lv_has ls 5 [(0, .ref (ad 0)), (1, .int x), (2, .int y), (3, .ref (ad 114))] := hl
  refine lv_aload_n hx hb dL_drain_0 rfl (lv_at hl 3 rfl) ?_
  refine lv_iconst (v := nI 0) hx hb dL_drain_1 (by decide) ?_
  refine lv_aload_n hx hb dL_drain_2 rfl (lv_at hl 0 rfl) ?_
  refine lv_iload_n hx hb dL_drain_3 rfl (lv_at hl 1 rfl) ?_
  refine lv_iload_n hx hb dL_drain_4 rfl (lv_at hl 2 rfl) ?_
  refine g_callVX (As := [.int x, .int y]) (rest := [.int (nI 0), .ref (ad 114)]) ⟨hx, hb, hml, hown, hw⟩ (mX2_drain l hl9 D cT n ad A hD G σ hY (by omega) hI x y) (cwV 2 hw (gWV wm_L_75 wi_X2_drain wse_X2_drain wini_X2 wc_X2_drain) rfl rfl rfl (by decide +kernel) ⟨Nat.le_of_ble_eq_true rfl, Nat.le_of_ble_eq_true rfl⟩) hK hE hA hP hS (k := 0) (by omega) hY.1.1 rfl rfl hl.1 (lv_room (Nat.le_of_ble_eq_true rfl)) dL_drain_5 ⟨Nat.le_of_ble_eq_true rfl, Nat.le_of_ble_eq_true rfl⟩ (fun E ce q9 H locs hpx hP hS hce hcv hcl => ?_) (fun v G1 H locs hp hP hS => ?_)
  · have hpx9 := hpx
    rcases hpx with ⟨_, rfl⟩ | ⟨_, _, _, _, _, _, _, rfl⟩
    · skip
      have hps : ∀ z ∈ ([] : List ExceptionTableEntry), z.catchType ≠ 0 ∧ ∃ y ∈ xcL, xIO ≠ y ∧ (Cond.classLink RL z.catchType y).before args s = true := fun z hz => absurd hz List.not_mem_nil
      refine g_catch (E := xIO) (pre := []) (x := ⟨0, 10, 13, 15⟩) (suf := [⟨0, 10, 17, 17⟩]) hT hown hE (by decide +kernel) hps (by decide) (by decide) (hw _ wcl_L_15) hce hcv hcl ?_
      refine lv_astore (lv' := [(4, .ref q9), (0, .ref (ad 0)), (1, .int x), (2, .int y), (3, .ref (ad 114))]) hx hb dL_drain_13 hl (by decide) rfl (fun ls hl => ?_)
      refine lv_iconst (v := nI 1) hx hb dL_drain_15 (by decide) ?_
      refine g_ret hQ hx hb hr hlocks rfl hP hS (Or.inr ⟨xIO, hpx9, by rw [show cd [xIO, xIS] xIO = 1 from by decide +kernel], rfl⟩) (Nat.le_of_ble_eq_true rfl) (Nat.le_of_ble_eq_true rfl) dL_drain_16
    · skip
      have hps : ∀ z ∈ ([⟨0, 10, 13, 15⟩] : List ExceptionTableEntry), z.catchType ≠ 0 ∧ ∃ y ∈ xcL, xIS ≠ y ∧ (Cond.classLink RL z.catchType y).before args s = true := fun z hz => by
              rcases List.mem_cons.mp hz with rfl | hz
              · exact ⟨by decide, xIO, by decide +kernel, by decide +kernel, hw _ wcl_L_15⟩
              exact absurd hz List.not_mem_nil
      refine g_catch (E := xIS) (pre := [⟨0, 10, 13, 15⟩]) (x := ⟨0, 10, 17, 17⟩) (suf := []) hT hown hE (by decide +kernel) hps (by decide) (by decide) (hw _ wcl_L_17) hce hcv hcl ?_
      refine lv_astore (lv' := [(4, .ref q9), (0, .ref (ad 0)), (1, .int x), (2, .int y), (3, .ref (ad 114))]) hx hb dL_drain_17 hl (by decide) rfl (fun ls hl => ?_)
      refine lv_iconst (v := nI 2) hx hb dL_drain_19 (by decide) ?_
      refine g_ret hQ hx hb hr hlocks rfl hP hS (Or.inr ⟨xIS, hpx9, by rw [show cd [xIO, xIS] xIS = 2 from by decide +kernel], rfl⟩) (Nat.le_of_ble_eq_true rfl) (Nat.le_of_ble_eq_true rfl) dL_drain_20
  · skip
    have hv : ∃ y, v = some (.int y) := by
      rcases hp with ⟨⟨_, _, _, _, _, _, _, h, _⟩, _⟩
      all_goals exact ⟨_, h⟩
    obtain ⟨y9, rfl⟩ := hv
    have hO1 : G1 114 = aJ cT 1 f := ((hp.2) 114 (by omega)).trans hO
    refine lv_i2l hx hb dL_drain_8 rfl ?_
    refine g_last hx hb hK hP hD hS (i := 114) (by omega) hO1 (by omega) (by omega) dL_drain_9 (fun G_1 H locs hg_G_1 ho_G_1 hP hS => ?_)
    have hc_2 : G_1 114 = aJ cT 1 (va_up f 0 y9.toInt64) := hg_G_1
    refine lv_goto (tgt := 21) hx hb dL_drain_10 (by decide) ?_
    refine lv_iconst (v := nI 0) hx hb dL_drain_21 (by decide) ?_
    refine g_ret hQ hx hb hr hlocks rfl hP hS (Or.inl ⟨y9, G1, hp, hc_2, ho_G_1, rfl⟩) (Nat.le_of_ble_eq_true rfl) (Nat.le_of_ble_eq_true rfl) dL_drain_22

set_option maxHeartbeats 4000000 in
set_option maxRecDepth 100000 in
theorem mL_iterate (l : Launch) (hl9 : l.stackTraces = false) (D : va_G) (cT : Nat → ClassId) (n : Nat) (ad : Nat → Nat) (A : Nat → Prop) (hD : ∀ G, va_D A (gw n ad G)) (G : Nat → va_E) (hn : 116 ≤ n) (σ : TY) (hY : YW cT ad G σ) (hI : YI σ) (f : Nat → Int64) (hO : G 114 = aJ cT 1 f) (x y : Int32) : Met l yL_iterate (wB yL_iterate cL_iterate 5 (some .int) [(0, 10, 13, 15), (0, 10, 17, 17), (0, 10, 21, 81)]) ({ frames := 10, cells := 4, slots := 24, locals := 172 } : Room) (PG D cT n ad A G [.ref (ad 0), .int x, .int y, .ref (ad 114)]) (QG D n ad A (fun v G1 => (∃ (y8 : Int32) (G2 : Nat → va_E), (onI σ x y (fun b i => (σ.2 b).2.2.2.2.1 i = 112 ∧ (σ.2 b).2.2.1 = 0 ∧ (some (Value.int y8)) = some (.int (nI ((σ.2 b).2.2.2.2.2 i))) ∧ YW cT ad G2 (setB σ b (iterB (σ.2 b) i))) ∧ ∀ j, 69 ≤ j → G2 j = G j) ∧ G1 114 = aJ cT 1 (va_up f 0 (y8.toInt64)) ∧ (∀ j, j ≠ 114 → G1 j = G2 j) ∧ v = some (.int (nI 0))) ∨ (∃ E : String, (pxIs σ x y (fun c => c ≠ 112) E ∨ onI σ x y (fun b i => (σ.2 b).2.2.2.2.1 i = 112 ∧ 0 < (σ.2 b).2.2.1 ∧ E = xUO)) ∧ v = some (.int (nI (cd [xIO, xIS, xUO] E))) ∧ G1 = G))) 4 24 A := by
  refine Met.ofH (cc := cL_iterate) (maxL := 5) (ret := (some .int)) (by decide) (Nat.le_of_ble_eq_true rfl) ?_
  intro p e s m args below meth c Q hQ hT hx hb hr hml hlocks hown hw hP hK hE hA hS ls hl
  have hl : lv_has ls 5 [(0, .ref (ad 0)), (1, .int x), (2, .int y), (3, .ref (ad 114))] := hl
  refine lv_aload_n hx hb dL_iterate_0 rfl (lv_at hl 3 rfl) ?_
  refine lv_iconst (v := nI 0) hx hb dL_iterate_1 (by decide) ?_
  refine lv_aload_n hx hb dL_iterate_2 rfl (lv_at hl 0 rfl) ?_
  refine lv_iload_n hx hb dL_iterate_3 rfl (lv_at hl 1 rfl) ?_
  refine lv_iload_n hx hb dL_iterate_4 rfl (lv_at hl 2 rfl) ?_
  refine g_callVX (As := [.int x, .int y]) (rest := [.int (nI 0), .ref (ad 114)]) ⟨hx, hb, hml, hown, hw⟩ (mX2_iterate l hl9 D cT n ad A hD G σ hY (by omega) hI x y) (cwV 2 hw (gWV wm_L_78 wi_X2_iterate wse_X2_iterate wini_X2 wc_X2_iterate) rfl rfl rfl (by decide +kernel) ⟨Nat.le_of_ble_eq_true rfl, Nat.le_of_ble_eq_true rfl⟩) hK hE hA hP hS (k := 0) (by omega) hY.1.1 rfl rfl hl.1 (lv_room (Nat.le_of_ble_eq_true rfl)) dL_iterate_5 ⟨Nat.le_of_ble_eq_true rfl, Nat.le_of_ble_eq_true rfl⟩ (fun E ce q9 H locs hpx hP hS hce hcv hcl => ?_) (fun v G1 H locs hp hP hS => ?_)
  · have hpx9 := hpx
    rcases hpx with (⟨_, rfl⟩ | ⟨_, _, _, _, _, _, _, rfl⟩) | ⟨_, _, _, _, _, _, _, _, rfl⟩
    · skip
      have hps : ∀ z ∈ ([] : List ExceptionTableEntry), z.catchType ≠ 0 ∧ ∃ y ∈ xcL, xIO ≠ y ∧ (Cond.classLink RL z.catchType y).before args s = true := fun z hz => absurd hz List.not_mem_nil
      refine g_catch (E := xIO) (pre := []) (x := ⟨0, 10, 13, 15⟩) (suf := [⟨0, 10, 17, 17⟩, ⟨0, 10, 21, 81⟩]) hT hown hE (by decide +kernel) hps (by decide) (by decide) (hw _ wcl_L_15) hce hcv hcl ?_
      refine lv_astore (lv' := [(4, .ref q9), (0, .ref (ad 0)), (1, .int x), (2, .int y), (3, .ref (ad 114))]) hx hb dL_iterate_13 hl (by decide) rfl (fun ls hl => ?_)
      refine lv_iconst (v := nI 1) hx hb dL_iterate_15 (by decide) ?_
      refine g_ret hQ hx hb hr hlocks rfl hP hS (Or.inr ⟨xIO, hpx9, by rw [show cd [xIO, xIS, xUO] xIO = 1 from by decide +kernel], rfl⟩) (Nat.le_of_ble_eq_true rfl) (Nat.le_of_ble_eq_true rfl) dL_iterate_16
    · skip
      have hps : ∀ z ∈ ([⟨0, 10, 13, 15⟩] : List ExceptionTableEntry), z.catchType ≠ 0 ∧ ∃ y ∈ xcL, xIS ≠ y ∧ (Cond.classLink RL z.catchType y).before args s = true := fun z hz => by
              rcases List.mem_cons.mp hz with rfl | hz
              · exact ⟨by decide, xIO, by decide +kernel, by decide +kernel, hw _ wcl_L_15⟩
              exact absurd hz List.not_mem_nil
      refine g_catch (E := xIS) (pre := [⟨0, 10, 13, 15⟩]) (x := ⟨0, 10, 17, 17⟩) (suf := [⟨0, 10, 21, 81⟩]) hT hown hE (by decide +kernel) hps (by decide) (by decide) (hw _ wcl_L_17) hce hcv hcl ?_
      refine lv_astore (lv' := [(4, .ref q9), (0, .ref (ad 0)), (1, .int x), (2, .int y), (3, .ref (ad 114))]) hx hb dL_iterate_17 hl (by decide) rfl (fun ls hl => ?_)
      refine lv_iconst (v := nI 2) hx hb dL_iterate_19 (by decide) ?_
      refine g_ret hQ hx hb hr hlocks rfl hP hS (Or.inr ⟨xIS, hpx9, by rw [show cd [xIO, xIS, xUO] xIS = 2 from by decide +kernel], rfl⟩) (Nat.le_of_ble_eq_true rfl) (Nat.le_of_ble_eq_true rfl) dL_iterate_20
    · skip
      have hps : ∀ z ∈ ([⟨0, 10, 13, 15⟩, ⟨0, 10, 17, 17⟩] : List ExceptionTableEntry), z.catchType ≠ 0 ∧ ∃ y ∈ xcL, xUO ≠ y ∧ (Cond.classLink RL z.catchType y).before args s = true := fun z hz => by
              rcases List.mem_cons.mp hz with rfl | hz
              · exact ⟨by decide, xIO, by decide +kernel, by decide +kernel, hw _ wcl_L_15⟩
              rcases List.mem_cons.mp hz with rfl | hz
              · exact ⟨by decide, xIS, by decide +kernel, by decide +kernel, hw _ wcl_L_17⟩
              exact absurd hz List.not_mem_nil
      refine g_catch (E := xUO) (pre := [⟨0, 10, 13, 15⟩, ⟨0, 10, 17, 17⟩]) (x := ⟨0, 10, 21, 81⟩) (suf := []) hT hown hE (by decide +kernel) hps (by decide) (by decide) (hw _ wcl_L_81) hce hcv hcl ?_
      refine lv_astore (lv' := [(4, .ref q9), (0, .ref (ad 0)), (1, .int x), (2, .int y), (3, .ref (ad 114))]) hx hb dL_iterate_21 hl (by decide) rfl (fun ls hl => ?_)
      refine lv_iconst (v := nI 3) hx hb dL_iterate_23 (by decide) ?_
      refine g_ret hQ hx hb hr hlocks rfl hP hS (Or.inr ⟨xUO, hpx9, by rw [show cd [xIO, xIS, xUO] xUO = 3 from by decide +kernel], rfl⟩) (Nat.le_of_ble_eq_true rfl) (Nat.le_of_ble_eq_true rfl) dL_iterate_24
  · skip
    have hv : ∃ y, v = some (.int y) := by
      rcases hp with ⟨⟨_, _, _, _, _, _, _, _, h, _⟩, _⟩
      all_goals exact ⟨_, h⟩
    obtain ⟨y9, rfl⟩ := hv
    have hO1 : G1 114 = aJ cT 1 f := ((hp.2) 114 (by omega)).trans hO
    refine lv_i2l hx hb dL_iterate_8 rfl ?_
    refine g_last hx hb hK hP hD hS (i := 114) (by omega) hO1 (by omega) (by omega) dL_iterate_9 (fun G_1 H locs hg_G_1 ho_G_1 hP hS => ?_)
    have hc_2 : G_1 114 = aJ cT 1 (va_up f 0 y9.toInt64) := hg_G_1
    refine lv_goto (tgt := 25) hx hb dL_iterate_10 (by decide) ?_
    refine lv_iconst (v := nI 0) hx hb dL_iterate_25 (by decide) ?_
    refine g_ret hQ hx hb hr hlocks rfl hP hS (Or.inl ⟨y9, G1, hp, hc_2, ho_G_1, rfl⟩) (Nat.le_of_ble_eq_true rfl) (Nat.le_of_ble_eq_true rfl) dL_iterate_26

set_option maxHeartbeats 4000000 in
set_option maxRecDepth 100000 in
theorem mL_hasNext (l : Launch) (hl9 : l.stackTraces = false) (D : va_G) (cT : Nat → ClassId) (n : Nat) (ad : Nat → Nat) (A : Nat → Prop) (hD : ∀ G, va_D A (gw n ad G)) (G : Nat → va_E) (hn : 116 ≤ n) (σ : TY) (hY : YW cT ad G σ) (hI : YI σ) (f : Nat → Int64) (hO : G 114 = aJ cT 1 f) (x y : Int32) : Met l yL_hasNext (wB yL_hasNext cL_hasNext 5 (some .int) [(0, 17, 20, 15), (0, 17, 24, 17)]) ({ frames := 9, cells := 3, slots := 18, locals := 149 } : Room) (PG D cT n ad A G [.ref (ad 0), .int x, .int y, .ref (ad 114)]) (QG D n ad A (fun v G1 => (∃ (y8 : Int32) (G2 : Nat → va_E), (onI σ x y (fun b i => (σ.2 b).2.2.2.2.1 i = 116 ∧ (some (Value.int y8)) = some (.int (if 0 < (σ.2 b).2.2.2.2.2 i then 1 else 0))) ∧ G2 = G) ∧ G1 114 = aJ cT 1 (va_up f 0 ((if y8 = 0 then 0 else 1))) ∧ (∀ j, j ≠ 114 → G1 j = G2 j) ∧ v = some (.int (nI 0))) ∨ (∃ E : String, (pxIs σ x y (fun c => c ≠ 116) E) ∧ v = some (.int (nI (cd [xIO, xIS] E))) ∧ G1 = G))) 3 18 A := by
  refine Met.ofH (cc := cL_hasNext) (maxL := 5) (ret := (some .int)) (by decide) (Nat.le_of_ble_eq_true rfl) ?_
  intro p e s m args below meth c Q hQ hT hx hb hr hml hlocks hown hw hP hK hE hA hS ls hl
  have hl : lv_has ls 5 [(0, .ref (ad 0)), (1, .int x), (2, .int y), (3, .ref (ad 114))] := hl
  refine lv_aload_n hx hb dL_hasNext_0 rfl (lv_at hl 3 rfl) ?_
  refine lv_iconst (v := nI 0) hx hb dL_hasNext_1 (by decide) ?_
  refine lv_aload_n hx hb dL_hasNext_2 rfl (lv_at hl 0 rfl) ?_
  refine lv_iload_n hx hb dL_hasNext_3 rfl (lv_at hl 1 rfl) ?_
  refine lv_iload_n hx hb dL_hasNext_4 rfl (lv_at hl 2 rfl) ?_
  refine g_callVX (As := [.int x, .int y]) (rest := [.int (nI 0), .ref (ad 114)]) ⟨hx, hb, hml, hown, hw⟩ (mX2_hasNext l hl9 D cT n ad A hD G σ hY (by omega) hI x y) (cwV 2 hw (gWV wm_L_83 wi_X2_hasNext wse_X2_hasNext wini_X2 wc_X2_hasNext) rfl rfl rfl (by decide +kernel) ⟨Nat.le_of_ble_eq_true rfl, Nat.le_of_ble_eq_true rfl⟩) hK hE hA hP hS (k := 0) (by omega) hY.1.1 rfl rfl hl.1 (lv_room (Nat.le_of_ble_eq_true rfl)) dL_hasNext_5 ⟨Nat.le_of_ble_eq_true rfl, Nat.le_of_ble_eq_true rfl⟩ (fun E ce q9 H locs hpx hP hS hce hcv hcl => ?_) (fun v G1 H locs hp hP hS => ?_)
  · have hpx9 := hpx
    rcases hpx with ⟨_, rfl⟩ | ⟨_, _, _, _, _, _, _, rfl⟩
    · skip
      have hps : ∀ z ∈ ([] : List ExceptionTableEntry), z.catchType ≠ 0 ∧ ∃ y ∈ xcL, xIO ≠ y ∧ (Cond.classLink RL z.catchType y).before args s = true := fun z hz => absurd hz List.not_mem_nil
      refine g_catch (E := xIO) (pre := []) (x := ⟨0, 17, 20, 15⟩) (suf := [⟨0, 17, 24, 17⟩]) hT hown hE (by decide +kernel) hps (by decide) (by decide) (hw _ wcl_L_15) hce hcv hcl ?_
      refine lv_astore (lv' := [(4, .ref q9), (0, .ref (ad 0)), (1, .int x), (2, .int y), (3, .ref (ad 114))]) hx hb dL_hasNext_20 hl (by decide) rfl (fun ls hl => ?_)
      refine lv_iconst (v := nI 1) hx hb dL_hasNext_22 (by decide) ?_
      refine g_ret hQ hx hb hr hlocks rfl hP hS (Or.inr ⟨xIO, hpx9, by rw [show cd [xIO, xIS] xIO = 1 from by decide +kernel], rfl⟩) (Nat.le_of_ble_eq_true rfl) (Nat.le_of_ble_eq_true rfl) dL_hasNext_23
    · skip
      have hps : ∀ z ∈ ([⟨0, 17, 20, 15⟩] : List ExceptionTableEntry), z.catchType ≠ 0 ∧ ∃ y ∈ xcL, xIS ≠ y ∧ (Cond.classLink RL z.catchType y).before args s = true := fun z hz => by
              rcases List.mem_cons.mp hz with rfl | hz
              · exact ⟨by decide, xIO, by decide +kernel, by decide +kernel, hw _ wcl_L_15⟩
              exact absurd hz List.not_mem_nil
      refine g_catch (E := xIS) (pre := [⟨0, 17, 20, 15⟩]) (x := ⟨0, 17, 24, 17⟩) (suf := []) hT hown hE (by decide +kernel) hps (by decide) (by decide) (hw _ wcl_L_17) hce hcv hcl ?_
      refine lv_astore (lv' := [(4, .ref q9), (0, .ref (ad 0)), (1, .int x), (2, .int y), (3, .ref (ad 114))]) hx hb dL_hasNext_24 hl (by decide) rfl (fun ls hl => ?_)
      refine lv_iconst (v := nI 2) hx hb dL_hasNext_26 (by decide) ?_
      refine g_ret hQ hx hb hr hlocks rfl hP hS (Or.inr ⟨xIS, hpx9, by rw [show cd [xIO, xIS] xIS = 2 from by decide +kernel], rfl⟩) (Nat.le_of_ble_eq_true rfl) (Nat.le_of_ble_eq_true rfl) dL_hasNext_27
  · skip
    have hv : ∃ y, v = some (.int y) := by
      rcases hp with ⟨⟨_, _, _, _, _, _, _, h⟩, _⟩
      all_goals exact ⟨_, h⟩
    obtain ⟨y9, rfl⟩ := hv
    have hO1 : G1 114 = aJ cT 1 f := by
      rw [hp.2]
      exact hO
    refine lv_if_eq (tgt := 15) hx hb dL_hasNext_8 (by decide) (fun c_1 => ?_) (fun c_1 => ?_)
    · skip
      refine lv_lconst (v := 0) hx hb dL_hasNext_15 (by decide) ?_
      refine g_last hx hb hK hP hD hS (i := 114) (by omega) hO1 (by omega) (by omega) dL_hasNext_16 (fun G_2 H locs hg_G_2 ho_G_2 hP hS => ?_)
      have hc_3 : G_2 114 = aJ cT 1 (va_up f 0 0) := hg_G_2
      refine lv_goto (tgt := 28) hx hb dL_hasNext_17 (by decide) ?_
      refine lv_iconst (v := nI 0) hx hb dL_hasNext_28 (by decide) ?_
      refine g_ret hQ hx hb hr hlocks rfl hP hS (Or.inl ⟨y9, G1, hp, hc_3.trans (by rw [if_pos c_1]), ho_G_2, rfl⟩) (Nat.le_of_ble_eq_true rfl) (Nat.le_of_ble_eq_true rfl) dL_hasNext_29
    · skip
      refine lv_lconst (v := 1) hx hb dL_hasNext_11 (by decide) ?_
      refine lv_goto (tgt := 16) hx hb dL_hasNext_12 (by decide) ?_
      refine g_last hx hb hK hP hD hS (i := 114) (by omega) hO1 (by omega) (by omega) dL_hasNext_16 (fun G_4 H locs hg_G_4 ho_G_4 hP hS => ?_)
      have hc_5 : G_4 114 = aJ cT 1 (va_up f 0 1) := hg_G_4
      refine lv_goto (tgt := 28) hx hb dL_hasNext_17 (by decide) ?_
      refine lv_iconst (v := nI 0) hx hb dL_hasNext_28 (by decide) ?_
      refine g_ret hQ hx hb hr hlocks rfl hP hS (Or.inl ⟨y9, G1, hp, hc_5.trans (by rw [if_neg c_1]), ho_G_4, rfl⟩) (Nat.le_of_ble_eq_true rfl) (Nat.le_of_ble_eq_true rfl) dL_hasNext_29

set_option maxHeartbeats 4000000 in
set_option maxRecDepth 100000 in
theorem mL_crumble (l : Launch) (hl9 : l.stackTraces = false) (D : va_G) (cT : Nat → ClassId) (n : Nat) (ad : Nat → Nat) (A : Nat → Prop) (hD : ∀ G, va_D A (gw n ad G)) (G : Nat → va_E) (hn : 116 ≤ n) (σ : TY) (hY : YW cT ad G σ) (hI : YI σ) (f : Nat → Int64) (hO : G 114 = aJ cT 1 f) (x y : Int32) : Met l yL_crumble (wB yL_crumble cL_crumble 5 (some .int) [(0, 10, 13, 15), (0, 10, 17, 13)]) ({ frames := 8, cells := 2, slots := 12, locals := 134 } : Room) (PG D cT n ad A G [.ref (ad 0), .int x, .int y, .ref (ad 114)]) (QG D n ad A (fun v G1 => (∃ (y8 : Int32) (G2 : Nat → va_E), (onB x (fun b => ∃ mo, 1 ≤ mo ∧ mo ≤ 48 ∧ y = nI mo ∧ (some (Value.int y8)) = some (.int (nI ((crumB (σ.2 b) mo).2.1 - (σ.2 b).2.1))) ∧ YW cT ad G2 (setB σ b (crumB (σ.2 b) mo))) ∧ ∀ j, 69 ≤ j → G2 j = G j) ∧ G1 114 = aJ cT 1 (va_up f 0 (y8.toInt64)) ∧ (∀ j, j ≠ 114 → G1 j = G2 j) ∧ v = some (.int (nI 0))) ∨ (∃ E : String, (pxBen x E ∨ onB x (fun _ => mBad y ∧ E = xIA)) ∧ v = some (.int (nI (cd [xIO, xIA] E))) ∧ G1 = G))) 2 12 A := by
  refine Met.ofH (cc := cL_crumble) (maxL := 5) (ret := (some .int)) (by decide) (Nat.le_of_ble_eq_true rfl) ?_
  intro p e s m args below meth c Q hQ hT hx hb hr hml hlocks hown hw hP hK hE hA hS ls hl
  have hl : lv_has ls 5 [(0, .ref (ad 0)), (1, .int x), (2, .int y), (3, .ref (ad 114))] := hl
  refine lv_aload_n hx hb dL_crumble_0 rfl (lv_at hl 3 rfl) ?_
  refine lv_iconst (v := nI 0) hx hb dL_crumble_1 (by decide) ?_
  refine lv_aload_n hx hb dL_crumble_2 rfl (lv_at hl 0 rfl) ?_
  refine lv_iload_n hx hb dL_crumble_3 rfl (lv_at hl 1 rfl) ?_
  refine lv_iload_n hx hb dL_crumble_4 rfl (lv_at hl 2 rfl) ?_
  refine g_callVX (As := [.int x, .int y]) (rest := [.int (nI 0), .ref (ad 114)]) ⟨hx, hb, hml, hown, hw⟩ (mX2_crumble l hl9 D cT n ad A hD G σ hY (by omega) hI x y) (cwV 2 hw (gWV wm_L_86 wi_X2_crumble wse_X2_crumble wini_X2 wc_X2_crumble) rfl rfl rfl (by decide +kernel) ⟨Nat.le_of_ble_eq_true rfl, Nat.le_of_ble_eq_true rfl⟩) hK hE hA hP hS (k := 0) (by omega) hY.1.1 rfl rfl hl.1 (lv_room (Nat.le_of_ble_eq_true rfl)) dL_crumble_5 ⟨Nat.le_of_ble_eq_true rfl, Nat.le_of_ble_eq_true rfl⟩ (fun E ce q9 H locs hpx hP hS hce hcv hcl => ?_) (fun v G1 H locs hp hP hS => ?_)
  · have hpx9 := hpx
    rcases hpx with (⟨_, rfl⟩) | ⟨_, _, _, _, rfl⟩
    · skip
      have hps : ∀ z ∈ ([] : List ExceptionTableEntry), z.catchType ≠ 0 ∧ ∃ y ∈ xcL, xIO ≠ y ∧ (Cond.classLink RL z.catchType y).before args s = true := fun z hz => absurd hz List.not_mem_nil
      refine g_catch (E := xIO) (pre := []) (x := ⟨0, 10, 13, 15⟩) (suf := [⟨0, 10, 17, 13⟩]) hT hown hE (by decide +kernel) hps (by decide) (by decide) (hw _ wcl_L_15) hce hcv hcl ?_
      refine lv_astore (lv' := [(4, .ref q9), (0, .ref (ad 0)), (1, .int x), (2, .int y), (3, .ref (ad 114))]) hx hb dL_crumble_13 hl (by decide) rfl (fun ls hl => ?_)
      refine lv_iconst (v := nI 1) hx hb dL_crumble_15 (by decide) ?_
      refine g_ret hQ hx hb hr hlocks rfl hP hS (Or.inr ⟨xIO, hpx9, by rw [show cd [xIO, xIA] xIO = 1 from by decide +kernel], rfl⟩) (Nat.le_of_ble_eq_true rfl) (Nat.le_of_ble_eq_true rfl) dL_crumble_16
    · skip
      have hps : ∀ z ∈ ([⟨0, 10, 13, 15⟩] : List ExceptionTableEntry), z.catchType ≠ 0 ∧ ∃ y ∈ xcL, xIA ≠ y ∧ (Cond.classLink RL z.catchType y).before args s = true := fun z hz => by
              rcases List.mem_cons.mp hz with rfl | hz
              · exact ⟨by decide, xIO, by decide +kernel, by decide +kernel, hw _ wcl_L_15⟩
              exact absurd hz List.not_mem_nil
      refine g_catch (E := xIA) (pre := [⟨0, 10, 13, 15⟩]) (x := ⟨0, 10, 17, 13⟩) (suf := []) hT hown hE (by decide +kernel) hps (by decide) (by decide) (hw _ wcl_L_13) hce hcv hcl ?_
      refine lv_astore (lv' := [(4, .ref q9), (0, .ref (ad 0)), (1, .int x), (2, .int y), (3, .ref (ad 114))]) hx hb dL_crumble_17 hl (by decide) rfl (fun ls hl => ?_)
      refine lv_iconst (v := nI 2) hx hb dL_crumble_19 (by decide) ?_
      refine g_ret hQ hx hb hr hlocks rfl hP hS (Or.inr ⟨xIA, hpx9, by rw [show cd [xIO, xIA] xIA = 2 from by decide +kernel], rfl⟩) (Nat.le_of_ble_eq_true rfl) (Nat.le_of_ble_eq_true rfl) dL_crumble_20
  · skip
    have hv : ∃ y, v = some (.int y) := by
      rcases hp with ⟨⟨_, _, _, _, _, _, _, h, _⟩, _⟩
      all_goals exact ⟨_, h⟩
    obtain ⟨y9, rfl⟩ := hv
    have hO1 : G1 114 = aJ cT 1 f := ((hp.2) 114 (by omega)).trans hO
    refine lv_i2l hx hb dL_crumble_8 rfl ?_
    refine g_last hx hb hK hP hD hS (i := 114) (by omega) hO1 (by omega) (by omega) dL_crumble_9 (fun G_1 H locs hg_G_1 ho_G_1 hP hS => ?_)
    have hc_2 : G_1 114 = aJ cT 1 (va_up f 0 y9.toInt64) := hg_G_1
    refine lv_goto (tgt := 21) hx hb dL_crumble_10 (by decide) ?_
    refine lv_iconst (v := nI 0) hx hb dL_crumble_21 (by decide) ?_
    refine g_ret hQ hx hb hr hlocks rfl hP hS (Or.inl ⟨y9, G1, hp, hc_2, ho_G_1, rfl⟩) (Nat.le_of_ble_eq_true rfl) (Nat.le_of_ble_eq_true rfl) dL_crumble_22

set_option maxHeartbeats 4000000 in
set_option maxRecDepth 100000 in
theorem mL_sweep (l : Launch) (hl9 : l.stackTraces = false) (D : va_G) (cT : Nat → ClassId) (n : Nat) (ad : Nat → Nat) (A : Nat → Prop) (hD : ∀ G, va_D A (gw n ad G)) (G : Nat → va_E) (hn : 116 ≤ n) (σ : TY) (hY : YW cT ad G σ) (hI : YI σ) (f : Nat → Int64) (hO : G 114 = aJ cT 1 f) (x : Int32) : Met l yL_sweep (wB yL_sweep cL_sweep 4 (some .int) [(0, 9, 12, 15)]) ({ frames := 8, cells := 1, slots := 6, locals := 124 } : Room) (PG D cT n ad A G [.ref (ad 0), .int x, .ref (ad 114)]) (QG D n ad A (fun v G1 => (∃ (y8 : Int32) (G2 : Nat → va_E), (onB x (fun b => (some (Value.int y8)) = some (.int (nI ((σ.2 b).2.1 - swk (σ.2 b).2.2.2.2.2 (σ.2 b).2.1))) ∧ YW cT ad G2 (setB σ b (sweepB (σ.2 b)))) ∧ ∀ j, 69 ≤ j → G2 j = G j) ∧ G1 114 = aJ cT 1 (va_up f 0 (y8.toInt64)) ∧ (∀ j, j ≠ 114 → G1 j = G2 j) ∧ v = some (.int (nI 0))) ∨ (∃ E : String, (pxBen x E) ∧ v = some (.int (nI (cd [xIO] E))) ∧ G1 = G))) 1 6 A := by
  refine Met.ofH (cc := cL_sweep) (maxL := 4) (ret := (some .int)) (by decide) (Nat.le_of_ble_eq_true rfl) ?_
  intro p e s m args below meth c Q hQ hT hx hb hr hml hlocks hown hw hP hK hE hA hS ls hl
  have hl : lv_has ls 4 [(0, .ref (ad 0)), (1, .int x), (2, .ref (ad 114))] := hl
  refine lv_aload_n hx hb dL_sweep_0 rfl (lv_at hl 2 rfl) ?_
  refine lv_iconst (v := nI 0) hx hb dL_sweep_1 (by decide) ?_
  refine lv_aload_n hx hb dL_sweep_2 rfl (lv_at hl 0 rfl) ?_
  refine lv_iload_n hx hb dL_sweep_3 rfl (lv_at hl 1 rfl) ?_
  refine g_callVX (As := [.int x]) (rest := [.int (nI 0), .ref (ad 114)]) ⟨hx, hb, hml, hown, hw⟩ (mX2_sweep l hl9 D cT n ad A hD G σ hY (by omega) hI x) (cwV 1 hw (gWV wm_L_89 wi_X2_sweep wse_X2_sweep wini_X2 wc_X2_sweep) rfl rfl rfl (by decide +kernel) ⟨Nat.le_of_ble_eq_true rfl, Nat.le_of_ble_eq_true rfl⟩) hK hE hA hP hS (k := 0) (by omega) hY.1.1 rfl rfl hl.1 (lv_room (Nat.le_of_ble_eq_true rfl)) dL_sweep_4 ⟨Nat.le_of_ble_eq_true rfl, Nat.le_of_ble_eq_true rfl⟩ (fun E ce q9 H locs hpx hP hS hce hcv hcl => ?_) (fun v G1 H locs hp hP hS => ?_)
  · have hpx9 := hpx
    rcases hpx with ⟨_, rfl⟩
    · skip
      have hps : ∀ z ∈ ([] : List ExceptionTableEntry), z.catchType ≠ 0 ∧ ∃ y ∈ xcL, xIO ≠ y ∧ (Cond.classLink RL z.catchType y).before args s = true := fun z hz => absurd hz List.not_mem_nil
      refine g_catch (E := xIO) (pre := []) (x := ⟨0, 9, 12, 15⟩) (suf := []) hT hown hE (by decide +kernel) hps (by decide) (by decide) (hw _ wcl_L_15) hce hcv hcl ?_
      refine lv_astore_n (lv' := [(3, .ref q9), (0, .ref (ad 0)), (1, .int x), (2, .ref (ad 114))]) hx hb dL_sweep_12 rfl hl (by decide) rfl (fun ls hl => ?_)
      refine lv_iconst (v := nI 1) hx hb dL_sweep_13 (by decide) ?_
      refine g_ret hQ hx hb hr hlocks rfl hP hS (Or.inr ⟨xIO, hpx9, by rw [show cd [xIO] xIO = 1 from by decide +kernel], rfl⟩) (Nat.le_of_ble_eq_true rfl) (Nat.le_of_ble_eq_true rfl) dL_sweep_14
  · skip
    have hv : ∃ y, v = some (.int y) := by
      rcases hp with ⟨⟨_, _, _, h, _⟩, _⟩
      all_goals exact ⟨_, h⟩
    obtain ⟨y9, rfl⟩ := hv
    have hO1 : G1 114 = aJ cT 1 f := ((hp.2) 114 (by omega)).trans hO
    refine lv_i2l hx hb dL_sweep_7 rfl ?_
    refine g_last hx hb hK hP hD hS (i := 114) (by omega) hO1 (by omega) (by omega) dL_sweep_8 (fun G_1 H locs hg_G_1 ho_G_1 hP hS => ?_)
    have hc_2 : G_1 114 = aJ cT 1 (va_up f 0 y9.toInt64) := hg_G_1
    refine lv_goto (tgt := 15) hx hb dL_sweep_9 (by decide) ?_
    refine lv_iconst (v := nI 0) hx hb dL_sweep_15 (by decide) ?_
    refine g_ret hQ hx hb hr hlocks rfl hP hS (Or.inl ⟨y9, G1, hp, hc_2, ho_G_1, rfl⟩) (Nat.le_of_ble_eq_true rfl) (Nat.le_of_ble_eq_true rfl) dL_sweep_16

set_option maxHeartbeats 4000000 in
set_option maxRecDepth 100000 in
theorem mL_isRead (l : Launch) (hl9 : l.stackTraces = false) (D : va_G) (cT : Nat → ClassId) (n : Nat) (ad : Nat → Nat) (A : Nat → Prop) (hD : ∀ G, va_D A (gw n ad G)) (G : Nat → va_E) (hn : 116 ≤ n) (σ : TY) (hY : YW cT ad G σ) (hI : YI σ) (f : Nat → Int64) (hO : G 114 = aJ cT 1 f) (x : Int32) : Met l yL_isRead (wB yL_isRead cL_isRead 4 (some .int) [(0, 16, 19, 15)]) ({ frames := 8, cells := 1, slots := 6, locals := 126 } : Room) (PG D cT n ad A G [.ref (ad 0), .int x, .ref (ad 114)]) (QG D n ad A (fun v G1 => (∃ (y8 : Int32) (G2 : Nat → va_E), (onB x (fun b => (some (Value.int y8)) = some (.int (if cnt (σ.2 b).2.2.2.2.1 (σ.2 b).2.1 = (σ.2 b).2.1 then 1 else 0))) ∧ G2 = G) ∧ G1 114 = aJ cT 1 (va_up f 0 ((if y8 = 0 then 0 else 1))) ∧ (∀ j, j ≠ 114 → G1 j = G2 j) ∧ v = some (.int (nI 0))) ∨ (∃ E : String, (pxBen x E) ∧ v = some (.int (nI (cd [xIO] E))) ∧ G1 = G))) 1 6 A := by
  refine Met.ofH (cc := cL_isRead) (maxL := 4) (ret := (some .int)) (by decide) (Nat.le_of_ble_eq_true rfl) ?_
  intro p e s m args below meth c Q hQ hT hx hb hr hml hlocks hown hw hP hK hE hA hS ls hl
  have hl : lv_has ls 4 [(0, .ref (ad 0)), (1, .int x), (2, .ref (ad 114))] := hl
  refine lv_aload_n hx hb dL_isRead_0 rfl (lv_at hl 2 rfl) ?_
  refine lv_iconst (v := nI 0) hx hb dL_isRead_1 (by decide) ?_
  refine lv_aload_n hx hb dL_isRead_2 rfl (lv_at hl 0 rfl) ?_
  refine lv_iload_n hx hb dL_isRead_3 rfl (lv_at hl 1 rfl) ?_
  refine g_callVX (As := [.int x]) (rest := [.int (nI 0), .ref (ad 114)]) ⟨hx, hb, hml, hown, hw⟩ (mX2_isRead l hl9 D cT n ad A hD G σ hY (by omega) hI x) (cwV 1 hw (gWV wm_L_92 wi_X2_isRead wse_X2_isRead wini_X2 wc_X2_isRead) rfl rfl rfl (by decide +kernel) ⟨Nat.le_of_ble_eq_true rfl, Nat.le_of_ble_eq_true rfl⟩) hK hE hA hP hS (k := 0) (by omega) hY.1.1 rfl rfl hl.1 (lv_room (Nat.le_of_ble_eq_true rfl)) dL_isRead_4 ⟨Nat.le_of_ble_eq_true rfl, Nat.le_of_ble_eq_true rfl⟩ (fun E ce q9 H locs hpx hP hS hce hcv hcl => ?_) (fun v G1 H locs hp hP hS => ?_)
  · have hpx9 := hpx
    rcases hpx with ⟨_, rfl⟩
    · skip
      have hps : ∀ z ∈ ([] : List ExceptionTableEntry), z.catchType ≠ 0 ∧ ∃ y ∈ xcL, xIO ≠ y ∧ (Cond.classLink RL z.catchType y).before args s = true := fun z hz => absurd hz List.not_mem_nil
      refine g_catch (E := xIO) (pre := []) (x := ⟨0, 16, 19, 15⟩) (suf := []) hT hown hE (by decide +kernel) hps (by decide) (by decide) (hw _ wcl_L_15) hce hcv hcl ?_
      refine lv_astore_n (lv' := [(3, .ref q9), (0, .ref (ad 0)), (1, .int x), (2, .ref (ad 114))]) hx hb dL_isRead_19 rfl hl (by decide) rfl (fun ls hl => ?_)
      refine lv_iconst (v := nI 1) hx hb dL_isRead_20 (by decide) ?_
      refine g_ret hQ hx hb hr hlocks rfl hP hS (Or.inr ⟨xIO, hpx9, by rw [show cd [xIO] xIO = 1 from by decide +kernel], rfl⟩) (Nat.le_of_ble_eq_true rfl) (Nat.le_of_ble_eq_true rfl) dL_isRead_21
  · skip
    have hv : ∃ y, v = some (.int y) := by
      rcases hp with ⟨⟨_, _, _, h⟩, _⟩
      all_goals exact ⟨_, h⟩
    obtain ⟨y9, rfl⟩ := hv
    have hO1 : G1 114 = aJ cT 1 f := by
      rw [hp.2]
      exact hO
    refine lv_if_eq (tgt := 14) hx hb dL_isRead_7 (by decide) (fun c_1 => ?_) (fun c_1 => ?_)
    · skip
      refine lv_lconst (v := 0) hx hb dL_isRead_14 (by decide) ?_
      refine g_last hx hb hK hP hD hS (i := 114) (by omega) hO1 (by omega) (by omega) dL_isRead_15 (fun G_2 H locs hg_G_2 ho_G_2 hP hS => ?_)
      have hc_3 : G_2 114 = aJ cT 1 (va_up f 0 0) := hg_G_2
      refine lv_goto (tgt := 22) hx hb dL_isRead_16 (by decide) ?_
      refine lv_iconst (v := nI 0) hx hb dL_isRead_22 (by decide) ?_
      refine g_ret hQ hx hb hr hlocks rfl hP hS (Or.inl ⟨y9, G1, hp, hc_3.trans (by rw [if_pos c_1]), ho_G_2, rfl⟩) (Nat.le_of_ble_eq_true rfl) (Nat.le_of_ble_eq_true rfl) dL_isRead_23
    · skip
      refine lv_lconst (v := 1) hx hb dL_isRead_10 (by decide) ?_
      refine lv_goto (tgt := 15) hx hb dL_isRead_11 (by decide) ?_
      refine g_last hx hb hK hP hD hS (i := 114) (by omega) hO1 (by omega) (by omega) dL_isRead_15 (fun G_4 H locs hg_G_4 ho_G_4 hP hS => ?_)
      have hc_5 : G_4 114 = aJ cT 1 (va_up f 0 1) := hg_G_4
      refine lv_goto (tgt := 22) hx hb dL_isRead_16 (by decide) ?_
      refine lv_iconst (v := nI 0) hx hb dL_isRead_22 (by decide) ?_
      refine g_ret hQ hx hb hr hlocks rfl hP hS (Or.inl ⟨y9, G1, hp, hc_5.trans (by rw [if_neg c_1]), ho_G_4, rfl⟩) (Nat.le_of_ble_eq_true rfl) (Nat.le_of_ble_eq_true rfl) dL_isRead_23

set_option maxHeartbeats 4000000 in
set_option maxRecDepth 100000 in
theorem mL_fold (l : Launch) (hl9 : l.stackTraces = false) (D : va_G) (cT : Nat → ClassId) (n : Nat) (ad : Nat → Nat) (A : Nat → Prop) (hD : ∀ G, va_D A (gw n ad G)) (G : Nat → va_E) (hn : 116 ≤ n) (σ : TY) (hY : YW cT ad G σ) (hI : YI σ) (f : Nat → Int64) (hO : G 114 = aJ cT 1 f) (ch hc : Nat) (hch : ch < 65536) (hhc : hc < 65536) (x y : Int32) : Met l yL_fold (wB yL_fold cL_fold 7 (some .int) [(0, 13, 16, 13), (0, 13, 20, 15)]) ({ frames := 20, cells := 2, slots := 12, locals := 576 } : Room) (PG D cT n ad A G [.ref (ad 0), .int (nI ch), .int x, .int y, .int (nI hc), .ref (ad 114)]) (QG D n ad A (fun v G1 => (∃ (y8 : Int64) (G2 : Nat → va_E), ((∃ mo, 1 ≤ mo ∧ mo ≤ 48 ∧ y = nI mo ∧ hwx hc ≠ 4 ∧ onR ch x (fun r => (some (Value.long y8)) = some (.long (fbn (σ.1 r).2 hc 0 ((σ.1 r).1 - 0))))) ∧ G2 = G) ∧ G1 114 = aJ cT 1 (va_up f 0 (y8)) ∧ (∀ j, j ≠ 114 → G1 j = G2 j) ∧ v = some (.int (nI 0))) ∨ (∃ E : String, ((mBad y ∧ E = xIA) ∨ (∃ mo, 1 ≤ mo ∧ mo ≤ 48 ∧ y = nI mo ∧ ((hwx hc = 4 ∧ E = xIA) ∨ (hwx hc ≠ 4 ∧ pxRow ch x E)))) ∧ v = some (.int (nI (cd [xIA, xIO] E))) ∧ G1 = G))) 2 12 A := by
  refine Met.ofH (cc := cL_fold) (maxL := 7) (ret := (some .int)) (by decide) (Nat.le_of_ble_eq_true rfl) ?_
  intro p e s m args below meth c Q hQ hT hx hb hr hml hlocks hown hw hP hK hE hA hS ls hl
  have hl : lv_has ls 7 [(0, .ref (ad 0)), (1, .int (nI ch)), (2, .int x), (3, .int y), (4, .int (nI hc)), (5, .ref (ad 114))] := hl
  refine lv_aload hx hb dL_fold_0 (lv_at hl 5 rfl) ?_
  refine lv_iconst (v := nI 0) hx hb dL_fold_2 (by decide) ?_
  refine lv_aload_n hx hb dL_fold_3 rfl (lv_at hl 0 rfl) ?_
  refine lv_iload_n hx hb dL_fold_4 rfl (lv_at hl 1 rfl) ?_
  refine lv_iload_n hx hb dL_fold_5 rfl (lv_at hl 2 rfl) ?_
  refine lv_iload_n hx hb dL_fold_6 rfl (lv_at hl 3 rfl) ?_
  refine lv_iload hx hb dL_fold_7 (lv_at hl 4 rfl) ?_
  refine g_callVX (As := [.int (nI ch), .int x, .int y, .int (nI hc)]) (rest := [.int (nI 0), .ref (ad 114)]) ⟨hx, hb, hml, hown, hw⟩ (mX2_fold l hl9 D cT n ad A hD G σ hY (by omega) hI ch hc (by omega) (by omega) x y) (cwV 4 hw (gWV wm_L_96 wi_X2_fold wse_X2_fold wini_X2 wc_X2_fold) rfl rfl rfl (by decide +kernel) ⟨Nat.le_of_ble_eq_true rfl, Nat.le_of_ble_eq_true rfl⟩) hK hE hA hP hS (k := 0) (by omega) hY.1.1 rfl rfl hl.1 (lv_room (Nat.le_of_ble_eq_true rfl)) dL_fold_9 ⟨Nat.le_of_ble_eq_true rfl, Nat.le_of_ble_eq_true rfl⟩ (fun E ce q9 H locs hpx hP hS hce hcv hcl => ?_) (fun v G1 H locs hp hP hS => ?_)
  · have hpx9 := hpx
    rcases hpx with ⟨_, rfl⟩ | ⟨_, _, _, _, ⟨_, rfl⟩ | ⟨_, (⟨_, rfl⟩ | ⟨_, _, rfl⟩)⟩⟩
    · skip
      have hps : ∀ z ∈ ([] : List ExceptionTableEntry), z.catchType ≠ 0 ∧ ∃ y ∈ xcL, xIA ≠ y ∧ (Cond.classLink RL z.catchType y).before args s = true := fun z hz => absurd hz List.not_mem_nil
      refine g_catch (E := xIA) (pre := []) (x := ⟨0, 13, 16, 13⟩) (suf := [⟨0, 13, 20, 15⟩]) hT hown hE (by decide +kernel) hps (by decide) (by decide) (hw _ wcl_L_13) hce hcv hcl ?_
      refine lv_astore (lv' := [(6, .ref q9), (0, .ref (ad 0)), (1, .int (nI ch)), (2, .int x), (3, .int y), (4, .int (nI hc)), (5, .ref (ad 114))]) hx hb dL_fold_16 hl (by decide) rfl (fun ls hl => ?_)
      refine lv_iconst (v := nI 1) hx hb dL_fold_18 (by decide) ?_
      refine g_ret hQ hx hb hr hlocks rfl hP hS (Or.inr ⟨xIA, hpx9, by rw [show cd [xIA, xIO] xIA = 1 from by decide +kernel], rfl⟩) (Nat.le_of_ble_eq_true rfl) (Nat.le_of_ble_eq_true rfl) dL_fold_19
    · skip
      have hps : ∀ z ∈ ([] : List ExceptionTableEntry), z.catchType ≠ 0 ∧ ∃ y ∈ xcL, xIA ≠ y ∧ (Cond.classLink RL z.catchType y).before args s = true := fun z hz => absurd hz List.not_mem_nil
      refine g_catch (E := xIA) (pre := []) (x := ⟨0, 13, 16, 13⟩) (suf := [⟨0, 13, 20, 15⟩]) hT hown hE (by decide +kernel) hps (by decide) (by decide) (hw _ wcl_L_13) hce hcv hcl ?_
      refine lv_astore (lv' := [(6, .ref q9), (0, .ref (ad 0)), (1, .int (nI ch)), (2, .int x), (3, .int y), (4, .int (nI hc)), (5, .ref (ad 114))]) hx hb dL_fold_16 hl (by decide) rfl (fun ls hl => ?_)
      refine lv_iconst (v := nI 1) hx hb dL_fold_18 (by decide) ?_
      refine g_ret hQ hx hb hr hlocks rfl hP hS (Or.inr ⟨xIA, hpx9, by rw [show cd [xIA, xIO] xIA = 1 from by decide +kernel], rfl⟩) (Nat.le_of_ble_eq_true rfl) (Nat.le_of_ble_eq_true rfl) dL_fold_19
    · skip
      have hps : ∀ z ∈ ([] : List ExceptionTableEntry), z.catchType ≠ 0 ∧ ∃ y ∈ xcL, xIA ≠ y ∧ (Cond.classLink RL z.catchType y).before args s = true := fun z hz => absurd hz List.not_mem_nil
      refine g_catch (E := xIA) (pre := []) (x := ⟨0, 13, 16, 13⟩) (suf := [⟨0, 13, 20, 15⟩]) hT hown hE (by decide +kernel) hps (by decide) (by decide) (hw _ wcl_L_13) hce hcv hcl ?_
      refine lv_astore (lv' := [(6, .ref q9), (0, .ref (ad 0)), (1, .int (nI ch)), (2, .int x), (3, .int y), (4, .int (nI hc)), (5, .ref (ad 114))]) hx hb dL_fold_16 hl (by decide) rfl (fun ls hl => ?_)
      refine lv_iconst (v := nI 1) hx hb dL_fold_18 (by decide) ?_
      refine g_ret hQ hx hb hr hlocks rfl hP hS (Or.inr ⟨xIA, hpx9, by rw [show cd [xIA, xIO] xIA = 1 from by decide +kernel], rfl⟩) (Nat.le_of_ble_eq_true rfl) (Nat.le_of_ble_eq_true rfl) dL_fold_19
    · skip
      have hps : ∀ z ∈ ([⟨0, 13, 16, 13⟩] : List ExceptionTableEntry), z.catchType ≠ 0 ∧ ∃ y ∈ xcL, xIO ≠ y ∧ (Cond.classLink RL z.catchType y).before args s = true := fun z hz => by
              rcases List.mem_cons.mp hz with rfl | hz
              · exact ⟨by decide, xIA, by decide +kernel, by decide +kernel, hw _ wcl_L_13⟩
              exact absurd hz List.not_mem_nil
      refine g_catch (E := xIO) (pre := [⟨0, 13, 16, 13⟩]) (x := ⟨0, 13, 20, 15⟩) (suf := []) hT hown hE (by decide +kernel) hps (by decide) (by decide) (hw _ wcl_L_15) hce hcv hcl ?_
      refine lv_astore (lv' := [(6, .ref q9), (0, .ref (ad 0)), (1, .int (nI ch)), (2, .int x), (3, .int y), (4, .int (nI hc)), (5, .ref (ad 114))]) hx hb dL_fold_20 hl (by decide) rfl (fun ls hl => ?_)
      refine lv_iconst (v := nI 2) hx hb dL_fold_22 (by decide) ?_
      refine g_ret hQ hx hb hr hlocks rfl hP hS (Or.inr ⟨xIO, hpx9, by rw [show cd [xIA, xIO] xIO = 2 from by decide +kernel], rfl⟩) (Nat.le_of_ble_eq_true rfl) (Nat.le_of_ble_eq_true rfl) dL_fold_23
  · skip
    have hv : ∃ y, v = some (.long y) := by
      rcases hp with ⟨⟨_, _, _, _, _, _, _, _, _, _, _, h⟩, _⟩
      all_goals exact ⟨_, h⟩
    obtain ⟨y9, rfl⟩ := hv
    have hO1 : G1 114 = aJ cT 1 f := by
      rw [hp.2]
      exact hO
    refine g_last hx hb hK hP hD hS (i := 114) (by omega) hO1 (by omega) (by omega) dL_fold_12 (fun G_1 H locs hg_G_1 ho_G_1 hP hS => ?_)
    have hc_2 : G_1 114 = aJ cT 1 (va_up f 0 y9) := hg_G_1
    refine lv_goto (tgt := 24) hx hb dL_fold_13 (by decide) ?_
    refine lv_iconst (v := nI 0) hx hb dL_fold_24 (by decide) ?_
    refine g_ret hQ hx hb hr hlocks rfl hP hS (Or.inl ⟨y9, G1, hp, hc_2, ho_G_1, rfl⟩) (Nat.le_of_ble_eq_true rfl) (Nat.le_of_ble_eq_true rfl) dL_fold_25

set_option maxHeartbeats 4000000 in
set_option maxRecDepth 100000 in
theorem mL_pieces (l : Launch) (hl9 : l.stackTraces = false) (D : va_G) (cT : Nat → ClassId) (n : Nat) (ad : Nat → Nat) (A : Nat → Prop) (hD : ∀ G, va_D A (gw n ad G)) (G : Nat → va_E) (hn : 116 ≤ n) (σ : TY) (hY : YW cT ad G σ) (hI : YI σ) (f : Nat → Int64) (hO : G 114 = aJ cT 1 f) (ch : Nat) (hch : ch < 65536) (x y : Int32) : Met l yL_pieces (wB yL_pieces cL_pieces 6 (some .int) [(0, 12, 15, 13), (0, 12, 19, 15)]) ({ frames := 8, cells := 2, slots := 12, locals := 156 } : Room) (PG D cT n ad A G [.ref (ad 0), .int (nI ch), .int x, .int y, .ref (ad 114)]) (QG D n ad A (fun v G1 => (∃ (y8 : Int32) (G2 : Nat → va_E), ((∃ mo, 1 ≤ mo ∧ mo ≤ 48 ∧ y = nI mo ∧ onR ch x (fun r => (some (Value.int y8)) = some (.int (nI (pcs mo 8 (σ.1 r).1))) ∧ YW cT ad G2 σ)) ∧ ∀ j, 69 ≤ j → G2 j = G j) ∧ G1 114 = aJ cT 1 (va_up f 0 (y8.toInt64)) ∧ (∀ j, j ≠ 114 → G1 j = G2 j) ∧ v = some (.int (nI 0))) ∨ (∃ E : String, ((mBad y ∧ E = xIA) ∨ (∃ mo, 1 ≤ mo ∧ mo ≤ 48 ∧ y = nI mo ∧ pxRow ch x E)) ∧ v = some (.int (nI (cd [xIA, xIO] E))) ∧ G1 = G))) 2 12 A := by
  refine Met.ofH (cc := cL_pieces) (maxL := 6) (ret := (some .int)) (by decide) (Nat.le_of_ble_eq_true rfl) ?_
  intro p e s m args below meth c Q hQ hT hx hb hr hml hlocks hown hw hP hK hE hA hS ls hl
  have hl : lv_has ls 6 [(0, .ref (ad 0)), (1, .int (nI ch)), (2, .int x), (3, .int y), (4, .ref (ad 114))] := hl
  refine lv_aload hx hb dL_pieces_0 (lv_at hl 4 rfl) ?_
  refine lv_iconst (v := nI 0) hx hb dL_pieces_2 (by decide) ?_
  refine lv_aload_n hx hb dL_pieces_3 rfl (lv_at hl 0 rfl) ?_
  refine lv_iload_n hx hb dL_pieces_4 rfl (lv_at hl 1 rfl) ?_
  refine lv_iload_n hx hb dL_pieces_5 rfl (lv_at hl 2 rfl) ?_
  refine lv_iload_n hx hb dL_pieces_6 rfl (lv_at hl 3 rfl) ?_
  refine g_callVX (As := [.int (nI ch), .int x, .int y]) (rest := [.int (nI 0), .ref (ad 114)]) ⟨hx, hb, hml, hown, hw⟩ (mX2_pieces l hl9 D cT n ad A hD G σ hY (by omega) hI ch (by omega) x y) (cwV 3 hw (gWV wm_L_100 wi_X2_pieces wse_X2_pieces wini_X2 wc_X2_pieces) rfl rfl rfl (by decide +kernel) ⟨Nat.le_of_ble_eq_true rfl, Nat.le_of_ble_eq_true rfl⟩) hK hE hA hP hS (k := 0) (by omega) hY.1.1 rfl rfl hl.1 (lv_room (Nat.le_of_ble_eq_true rfl)) dL_pieces_7 ⟨Nat.le_of_ble_eq_true rfl, Nat.le_of_ble_eq_true rfl⟩ (fun E ce q9 H locs hpx hP hS hce hcv hcl => ?_) (fun v G1 H locs hp hP hS => ?_)
  · have hpx9 := hpx
    rcases hpx with ⟨_, rfl⟩ | ⟨_, _, _, _, (⟨_, rfl⟩ | ⟨_, _, rfl⟩)⟩
    · skip
      have hps : ∀ z ∈ ([] : List ExceptionTableEntry), z.catchType ≠ 0 ∧ ∃ y ∈ xcL, xIA ≠ y ∧ (Cond.classLink RL z.catchType y).before args s = true := fun z hz => absurd hz List.not_mem_nil
      refine g_catch (E := xIA) (pre := []) (x := ⟨0, 12, 15, 13⟩) (suf := [⟨0, 12, 19, 15⟩]) hT hown hE (by decide +kernel) hps (by decide) (by decide) (hw _ wcl_L_13) hce hcv hcl ?_
      refine lv_astore (lv' := [(5, .ref q9), (0, .ref (ad 0)), (1, .int (nI ch)), (2, .int x), (3, .int y), (4, .ref (ad 114))]) hx hb dL_pieces_15 hl (by decide) rfl (fun ls hl => ?_)
      refine lv_iconst (v := nI 1) hx hb dL_pieces_17 (by decide) ?_
      refine g_ret hQ hx hb hr hlocks rfl hP hS (Or.inr ⟨xIA, hpx9, by rw [show cd [xIA, xIO] xIA = 1 from by decide +kernel], rfl⟩) (Nat.le_of_ble_eq_true rfl) (Nat.le_of_ble_eq_true rfl) dL_pieces_18
    · skip
      have hps : ∀ z ∈ ([] : List ExceptionTableEntry), z.catchType ≠ 0 ∧ ∃ y ∈ xcL, xIA ≠ y ∧ (Cond.classLink RL z.catchType y).before args s = true := fun z hz => absurd hz List.not_mem_nil
      refine g_catch (E := xIA) (pre := []) (x := ⟨0, 12, 15, 13⟩) (suf := [⟨0, 12, 19, 15⟩]) hT hown hE (by decide +kernel) hps (by decide) (by decide) (hw _ wcl_L_13) hce hcv hcl ?_
      refine lv_astore (lv' := [(5, .ref q9), (0, .ref (ad 0)), (1, .int (nI ch)), (2, .int x), (3, .int y), (4, .ref (ad 114))]) hx hb dL_pieces_15 hl (by decide) rfl (fun ls hl => ?_)
      refine lv_iconst (v := nI 1) hx hb dL_pieces_17 (by decide) ?_
      refine g_ret hQ hx hb hr hlocks rfl hP hS (Or.inr ⟨xIA, hpx9, by rw [show cd [xIA, xIO] xIA = 1 from by decide +kernel], rfl⟩) (Nat.le_of_ble_eq_true rfl) (Nat.le_of_ble_eq_true rfl) dL_pieces_18
    · skip
      have hps : ∀ z ∈ ([⟨0, 12, 15, 13⟩] : List ExceptionTableEntry), z.catchType ≠ 0 ∧ ∃ y ∈ xcL, xIO ≠ y ∧ (Cond.classLink RL z.catchType y).before args s = true := fun z hz => by
              rcases List.mem_cons.mp hz with rfl | hz
              · exact ⟨by decide, xIA, by decide +kernel, by decide +kernel, hw _ wcl_L_13⟩
              exact absurd hz List.not_mem_nil
      refine g_catch (E := xIO) (pre := [⟨0, 12, 15, 13⟩]) (x := ⟨0, 12, 19, 15⟩) (suf := []) hT hown hE (by decide +kernel) hps (by decide) (by decide) (hw _ wcl_L_15) hce hcv hcl ?_
      refine lv_astore (lv' := [(5, .ref q9), (0, .ref (ad 0)), (1, .int (nI ch)), (2, .int x), (3, .int y), (4, .ref (ad 114))]) hx hb dL_pieces_19 hl (by decide) rfl (fun ls hl => ?_)
      refine lv_iconst (v := nI 2) hx hb dL_pieces_21 (by decide) ?_
      refine g_ret hQ hx hb hr hlocks rfl hP hS (Or.inr ⟨xIO, hpx9, by rw [show cd [xIA, xIO] xIO = 2 from by decide +kernel], rfl⟩) (Nat.le_of_ble_eq_true rfl) (Nat.le_of_ble_eq_true rfl) dL_pieces_22
  · skip
    have hv : ∃ y, v = some (.int y) := by
      rcases hp with ⟨⟨_, _, _, _, _, _, _, _, _, _, h, _⟩, _⟩
      all_goals exact ⟨_, h⟩
    obtain ⟨y9, rfl⟩ := hv
    have hO1 : G1 114 = aJ cT 1 f := ((hp.2) 114 (by omega)).trans hO
    refine lv_i2l hx hb dL_pieces_10 rfl ?_
    refine g_last hx hb hK hP hD hS (i := 114) (by omega) hO1 (by omega) (by omega) dL_pieces_11 (fun G_1 H locs hg_G_1 ho_G_1 hP hS => ?_)
    have hc_2 : G_1 114 = aJ cT 1 (va_up f 0 y9.toInt64) := hg_G_1
    refine lv_goto (tgt := 23) hx hb dL_pieces_12 (by decide) ?_
    refine lv_iconst (v := nI 0) hx hb dL_pieces_23 (by decide) ?_
    refine g_ret hQ hx hb hr hlocks rfl hP hS (Or.inl ⟨y9, G1, hp, hc_2, ho_G_1, rfl⟩) (Nat.le_of_ble_eq_true rfl) (Nat.le_of_ble_eq_true rfl) dL_pieces_24

set_option maxHeartbeats 4000000 in
set_option maxRecDepth 100000 in
theorem mL_share (l : Launch) (hl9 : l.stackTraces = false) (D : va_G) (cT : Nat → ClassId) (n : Nat) (ad : Nat → Nat) (A : Nat → Prop) (hD : ∀ G, va_D A (gw n ad G)) (G : Nat → va_E) (hn : 116 ≤ n) (σ : TY) (hY : YW cT ad G σ) (hI : YI σ) (f : Nat → UInt64) (hO : G 115 = aD cT 1 f) (x : Int32) : Met l yL_share (wB yL_share cL_share 4 (some .int) [(0, 9, 12, 15), (0, 9, 15, 108)]) ({ frames := 8, cells := 2, slots := 12, locals := 125 } : Room) (PG D cT n ad A G [.ref (ad 0), .int x, .ref (ad 115)]) (QG D n ad A (fun v G1 => (∃ (y8 : UInt32) (G2 : Nat → va_E), (onB x (fun b => 0 < (σ.2 b).1 ∧ (some (Value.float y8)) = some (.float (shF (cnt (σ.2 b).2.2.2.2.1 (σ.2 b).2.1) (σ.2 b).1))) ∧ G2 = G) ∧ G1 115 = aD cT 1 (va_up f 0 (FP.f2d y8)) ∧ (∀ j, j ≠ 115 → G1 j = G2 j) ∧ v = some (.int (nI 0))) ∨ (∃ E : String, (pxBen x E ∨ onB x (fun b => (σ.2 b).1 = 0 ∧ E = xAR)) ∧ v = some (.int (nI (cd [xIO, xAR] E))) ∧ G1 = G))) 2 12 A := by
  refine Met.ofH (cc := cL_share) (maxL := 4) (ret := (some .int)) (by decide) (Nat.le_of_ble_eq_true rfl) ?_
  intro p e s m args below meth c Q hQ hT hx hb hr hml hlocks hown hw hP hK hE hA hS ls hl
  have hl : lv_has ls 4 [(0, .ref (ad 0)), (1, .int x), (2, .ref (ad 115))] := hl
  refine lv_aload_n hx hb dL_share_0 rfl (lv_at hl 2 rfl) ?_
  refine lv_iconst (v := nI 0) hx hb dL_share_1 (by decide) ?_
  refine lv_aload_n hx hb dL_share_2 rfl (lv_at hl 0 rfl) ?_
  refine lv_iload_n hx hb dL_share_3 rfl (lv_at hl 1 rfl) ?_
  refine g_callVX (As := [.int x]) (rest := [.int (nI 0), .ref (ad 115)]) ⟨hx, hb, hml, hown, hw⟩ (mX2_share l hl9 D cT n ad A hD G σ hY (by omega) hI x) (cwV 1 hw (gWV wm_L_104 wi_X2_share wse_X2_share wini_X2 wc_X2_share) rfl rfl rfl (by decide +kernel) ⟨Nat.le_of_ble_eq_true rfl, Nat.le_of_ble_eq_true rfl⟩) hK hE hA hP hS (k := 0) (by omega) hY.1.1 rfl rfl hl.1 (lv_room (Nat.le_of_ble_eq_true rfl)) dL_share_4 ⟨Nat.le_of_ble_eq_true rfl, Nat.le_of_ble_eq_true rfl⟩ (fun E ce q9 H locs hpx hP hS hce hcv hcl => ?_) (fun v G1 H locs hp hP hS => ?_)
  · have hpx9 := hpx
    rcases hpx with (⟨_, rfl⟩) | ⟨_, _, _, _, rfl⟩
    · skip
      have hps : ∀ z ∈ ([] : List ExceptionTableEntry), z.catchType ≠ 0 ∧ ∃ y ∈ xcL, xIO ≠ y ∧ (Cond.classLink RL z.catchType y).before args s = true := fun z hz => absurd hz List.not_mem_nil
      refine g_catch (E := xIO) (pre := []) (x := ⟨0, 9, 12, 15⟩) (suf := [⟨0, 9, 15, 108⟩]) hT hown hE (by decide +kernel) hps (by decide) (by decide) (hw _ wcl_L_15) hce hcv hcl ?_
      refine lv_astore_n (lv' := [(3, .ref q9), (0, .ref (ad 0)), (1, .int x), (2, .ref (ad 115))]) hx hb dL_share_12 rfl hl (by decide) rfl (fun ls hl => ?_)
      refine lv_iconst (v := nI 1) hx hb dL_share_13 (by decide) ?_
      refine g_ret hQ hx hb hr hlocks rfl hP hS (Or.inr ⟨xIO, hpx9, by rw [show cd [xIO, xAR] xIO = 1 from by decide +kernel], rfl⟩) (Nat.le_of_ble_eq_true rfl) (Nat.le_of_ble_eq_true rfl) dL_share_14
    · skip
      have hps : ∀ z ∈ ([⟨0, 9, 12, 15⟩] : List ExceptionTableEntry), z.catchType ≠ 0 ∧ ∃ y ∈ xcL, xAR ≠ y ∧ (Cond.classLink RL z.catchType y).before args s = true := fun z hz => by
              rcases List.mem_cons.mp hz with rfl | hz
              · exact ⟨by decide, xIO, by decide +kernel, by decide +kernel, hw _ wcl_L_15⟩
              exact absurd hz List.not_mem_nil
      refine g_catch (E := xAR) (pre := [⟨0, 9, 12, 15⟩]) (x := ⟨0, 9, 15, 108⟩) (suf := []) hT hown hE (by decide +kernel) hps (by decide) (by decide) (hw _ wcl_L_108) hce hcv hcl ?_
      refine lv_astore_n (lv' := [(3, .ref q9), (0, .ref (ad 0)), (1, .int x), (2, .ref (ad 115))]) hx hb dL_share_15 rfl hl (by decide) rfl (fun ls hl => ?_)
      refine lv_iconst (v := nI 2) hx hb dL_share_16 (by decide) ?_
      refine g_ret hQ hx hb hr hlocks rfl hP hS (Or.inr ⟨xAR, hpx9, by rw [show cd [xIO, xAR] xAR = 2 from by decide +kernel], rfl⟩) (Nat.le_of_ble_eq_true rfl) (Nat.le_of_ble_eq_true rfl) dL_share_17
  · skip
    have hv : ∃ y, v = some (.float y) := by
      rcases hp with ⟨⟨_, _, _, _, h⟩, _⟩
      all_goals exact ⟨_, h⟩
    obtain ⟨y9, rfl⟩ := hv
    have hO1 : G1 115 = aD cT 1 f := by
      rw [hp.2]
      exact hO
    have hne : vf_n64 (FP.f2d y9) := by
      obtain ⟨⟨b, hb6, _, h0, h⟩, _⟩ := hp
      have e9 : y9 = shF (cnt (σ.2 b).2.2.2.2.1 (σ.2 b).2.1) (σ.2 b).1 := by injection h with h; injection h
      rw [e9]
      exact sh2_ok (Nat.le_trans (cnt_le _ _) (BI_cap (hI.2 b hb6).1)) (hI.2 b hb6).1.1 h0
    refine lv_f2d hx hb dL_share_7 hne ?_
    refine g_dast hx hb hK hP hD hS (i := 115) (by omega) hO1 (by omega) (by omega) dL_share_8 (fun G_1 H locs hg_G_1 ho_G_1 hP hS => ?_)
    have hc_2 : G_1 115 = aD cT 1 (va_up f 0 (FP.f2d y9)) := hg_G_1
    refine lv_goto (tgt := 18) hx hb dL_share_9 (by decide) ?_
    refine lv_iconst (v := nI 0) hx hb dL_share_18 (by decide) ?_
    refine g_ret hQ hx hb hr hlocks rfl hP hS (Or.inl ⟨y9, G1, hp, hc_2, ho_G_1, rfl⟩) (Nat.le_of_ble_eq_true rfl) (Nat.le_of_ble_eq_true rfl) dL_share_19

set_option maxHeartbeats 4000000 in
set_option maxRecDepth 100000 in
theorem mL_meanLeft (l : Launch) (hl9 : l.stackTraces = false) (D : va_G) (cT : Nat → ClassId) (n : Nat) (ad : Nat → Nat) (A : Nat → Prop) (hD : ∀ G, va_D A (gw n ad G)) (G : Nat → va_E) (hn : 116 ≤ n) (σ : TY) (hY : YW cT ad G σ) (hI : YI σ) (f : Nat → UInt64) (hO : G 115 = aD cT 1 f) (x : Int32) : Met l yL_meanLeft (wB yL_meanLeft cL_meanLeft 4 (some .int) [(0, 8, 11, 15), (0, 8, 14, 108)]) ({ frames := 8, cells := 2, slots := 12, locals := 126 } : Room) (PG D cT n ad A G [.ref (ad 0), .int x, .ref (ad 115)]) (QG D n ad A (fun v G1 => (∃ (y8 : UInt64) (G2 : Nat → va_E), (onB x (fun b => 0 < (σ.2 b).2.1 - cnt (σ.2 b).2.2.2.2.1 (σ.2 b).2.1 ∧ (some (Value.double y8)) = some (.double (mnF (lft (σ.2 b).2.2.2.2.1 (σ.2 b).2.2.2.2.2 (σ.2 b).2.1) ((σ.2 b).2.1 - cnt (σ.2 b).2.2.2.2.1 (σ.2 b).2.1)))) ∧ G2 = G) ∧ G1 115 = aD cT 1 (va_up f 0 (y8)) ∧ (∀ j, j ≠ 115 → G1 j = G2 j) ∧ v = some (.int (nI 0))) ∨ (∃ E : String, (pxBen x E ∨ onB x (fun b => (σ.2 b).2.1 - cnt (σ.2 b).2.2.2.2.1 (σ.2 b).2.1 = 0 ∧ E = xAR)) ∧ v = some (.int (nI (cd [xIO, xAR] E))) ∧ G1 = G))) 2 12 A := by
  refine Met.ofH (cc := cL_meanLeft) (maxL := 4) (ret := (some .int)) (by decide) (Nat.le_of_ble_eq_true rfl) ?_
  intro p e s m args below meth c Q hQ hT hx hb hr hml hlocks hown hw hP hK hE hA hS ls hl
  have hl : lv_has ls 4 [(0, .ref (ad 0)), (1, .int x), (2, .ref (ad 115))] := hl
  refine lv_aload_n hx hb dL_meanLeft_0 rfl (lv_at hl 2 rfl) ?_
  refine lv_iconst (v := nI 0) hx hb dL_meanLeft_1 (by decide) ?_
  refine lv_aload_n hx hb dL_meanLeft_2 rfl (lv_at hl 0 rfl) ?_
  refine lv_iload_n hx hb dL_meanLeft_3 rfl (lv_at hl 1 rfl) ?_
  refine g_callVX (As := [.int x]) (rest := [.int (nI 0), .ref (ad 115)]) ⟨hx, hb, hml, hown, hw⟩ (mX2_meanLeft l hl9 D cT n ad A hD G σ hY (by omega) hI x) (cwV 1 hw (gWV wm_L_110 wi_X2_meanLeft wse_X2_meanLeft wini_X2 wc_X2_meanLeft) rfl rfl rfl (by decide +kernel) ⟨Nat.le_of_ble_eq_true rfl, Nat.le_of_ble_eq_true rfl⟩) hK hE hA hP hS (k := 0) (by omega) hY.1.1 rfl rfl hl.1 (lv_room (Nat.le_of_ble_eq_true rfl)) dL_meanLeft_4 ⟨Nat.le_of_ble_eq_true rfl, Nat.le_of_ble_eq_true rfl⟩ (fun E ce q9 H locs hpx hP hS hce hcv hcl => ?_) (fun v G1 H locs hp hP hS => ?_)
  · have hpx9 := hpx
    rcases hpx with (⟨_, rfl⟩) | ⟨_, _, _, _, rfl⟩
    · skip
      have hps : ∀ z ∈ ([] : List ExceptionTableEntry), z.catchType ≠ 0 ∧ ∃ y ∈ xcL, xIO ≠ y ∧ (Cond.classLink RL z.catchType y).before args s = true := fun z hz => absurd hz List.not_mem_nil
      refine g_catch (E := xIO) (pre := []) (x := ⟨0, 8, 11, 15⟩) (suf := [⟨0, 8, 14, 108⟩]) hT hown hE (by decide +kernel) hps (by decide) (by decide) (hw _ wcl_L_15) hce hcv hcl ?_
      refine lv_astore_n (lv' := [(3, .ref q9), (0, .ref (ad 0)), (1, .int x), (2, .ref (ad 115))]) hx hb dL_meanLeft_11 rfl hl (by decide) rfl (fun ls hl => ?_)
      refine lv_iconst (v := nI 1) hx hb dL_meanLeft_12 (by decide) ?_
      refine g_ret hQ hx hb hr hlocks rfl hP hS (Or.inr ⟨xIO, hpx9, by rw [show cd [xIO, xAR] xIO = 1 from by decide +kernel], rfl⟩) (Nat.le_of_ble_eq_true rfl) (Nat.le_of_ble_eq_true rfl) dL_meanLeft_13
    · skip
      have hps : ∀ z ∈ ([⟨0, 8, 11, 15⟩] : List ExceptionTableEntry), z.catchType ≠ 0 ∧ ∃ y ∈ xcL, xAR ≠ y ∧ (Cond.classLink RL z.catchType y).before args s = true := fun z hz => by
              rcases List.mem_cons.mp hz with rfl | hz
              · exact ⟨by decide, xIO, by decide +kernel, by decide +kernel, hw _ wcl_L_15⟩
              exact absurd hz List.not_mem_nil
      refine g_catch (E := xAR) (pre := [⟨0, 8, 11, 15⟩]) (x := ⟨0, 8, 14, 108⟩) (suf := []) hT hown hE (by decide +kernel) hps (by decide) (by decide) (hw _ wcl_L_108) hce hcv hcl ?_
      refine lv_astore_n (lv' := [(3, .ref q9), (0, .ref (ad 0)), (1, .int x), (2, .ref (ad 115))]) hx hb dL_meanLeft_14 rfl hl (by decide) rfl (fun ls hl => ?_)
      refine lv_iconst (v := nI 2) hx hb dL_meanLeft_15 (by decide) ?_
      refine g_ret hQ hx hb hr hlocks rfl hP hS (Or.inr ⟨xAR, hpx9, by rw [show cd [xIO, xAR] xAR = 2 from by decide +kernel], rfl⟩) (Nat.le_of_ble_eq_true rfl) (Nat.le_of_ble_eq_true rfl) dL_meanLeft_16
  · skip
    have hv : ∃ y, v = some (.double y) := by
      rcases hp with ⟨⟨_, _, _, _, h⟩, _⟩
      all_goals exact ⟨_, h⟩
    obtain ⟨y9, rfl⟩ := hv
    have hO1 : G1 115 = aD cT 1 f := by
      rw [hp.2]
      exact hO
    refine g_dast hx hb hK hP hD hS (i := 115) (by omega) hO1 (by omega) (by omega) dL_meanLeft_7 (fun G_1 H locs hg_G_1 ho_G_1 hP hS => ?_)
    have hc_2 : G_1 115 = aD cT 1 (va_up f 0 y9) := hg_G_1
    refine lv_goto (tgt := 17) hx hb dL_meanLeft_8 (by decide) ?_
    refine lv_iconst (v := nI 0) hx hb dL_meanLeft_17 (by decide) ?_
    refine g_ret hQ hx hb hr hlocks rfl hP hS (Or.inl ⟨y9, G1, hp, hc_2, ho_G_1, rfl⟩) (Nat.le_of_ble_eq_true rfl) (Nat.le_of_ble_eq_true rfl) dL_meanLeft_18
