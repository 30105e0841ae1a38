set_option maxHeartbeats 4000000 in
set_option maxRecDepth 100000 in
theorem mX2_benchWithAnyPiece (l : Launch) (hl9 : l.stackTraces = false) (D : va_G) (cT : Nat → ClassId) (n : Nat) (ad : Nat → Nat) (A : Nat → Prop) (hD : ∀ G, va_D A (gw n ad G)) (G : Nat → va_E) (σ : TY) (hY : YW cT ad G σ) (hn : 69 ≤ n) (hI : YI σ) (x y : Int32) : vx_Met l yX2_benchWithAnyPiece (wA yX2_benchWithAnyPiece cX2_benchWithAnyPiece 4 (Option.some (Jvm.ClassFile.FieldType.object "Splityard$Bench"))) ({ frames := 8, cells := 3, slots := 18, locals := 126 } : Room) (PG D cT n ad A G [.ref (ad 0), .int x, .int y]) (QG D n ad A (fun v G1 => onI σ x y (fun b i => (σ.2 b).2.2.2.2.1 i ≠ 110 ∧ v = some (.ref (ad (33 + 6 * b)))) ∧ G1 = G)) (XG D n ad A G (pxIs σ x y (fun c => c = 110))) 3 18 A := by
  refine vx_ofG (cc := cX2_benchWithAnyPiece) (maxL := 4) (ret := (Option.some (Jvm.ClassFile.FieldType.object "Splityard$Bench"))) (by decide) (Nat.le_of_ble_eq_true rfl) ?_
  intro p e s m args below meth c Q hQ hX ht hx hb hr hml hlocks hown hw hP hK hE hA hS ls hl
  have hl : lv_has ls 4 [(0, .ref (ad 0)), (1, .int x), (2, .int y)] := hl
  obtain ⟨hy0, hy1, hy2⟩ := hY.1
  refine lv_aload_n hx hb dX2_benchWithAnyPiece_0 rfl (lv_at hl 0 rfl) ?_
  refine lv_iload_n hx hb dX2_benchWithAnyPiece_1 rfl (lv_at hl 1 rfl) ?_
  refine lv_iload_n hx hb dX2_benchWithAnyPiece_2 rfl (lv_at hl 2 rfl) ?_
  refine g_callVX (As := [.int x, .int y]) (rest := []) ⟨hx, hb, hml, hown, hw⟩ (mX2_benchWithItem l hl9 D cT n ad A hD G σ hY hn hI x y) (cwV 2 hw (gWV wm_X2_90 wi_X2_benchWithItem wse_X2_benchWithItem wini_X2 wc_X2_benchWithItem) rfl rfl rfl (by decide +kernel) ⟨Nat.le_of_ble_eq_true rfl, Nat.le_of_ble_eq_true rfl⟩) hK hE hA hP hS (k := 0) (by omega) hy0 rfl rfl hl.1 (lv_room (Nat.le_of_ble_eq_true rfl)) dX2_benchWithAnyPiece_3 ⟨Nat.le_of_ble_eq_true rfl, Nat.le_of_ble_eq_true rfl⟩ (fun E ce q9 H locs hpx hP hS hce hcv hcl => g_out hX ht hlocks hP hS (Or.inl hpx) hce hcv hcl (Nat.le_of_ble_eq_true rfl) (Nat.le_of_ble_eq_true rfl)) (fun v_2 G_1 H locs hp hP hS => ?_)
  obtain ⟨⟨b, i, hb6, hxb, hi, hyi, hv⟩, hg⟩ := hp
  subst hv
  rw [hg] at hP
  subst hxb
  subst hyi
  have hbt := hY.2.2.1 b (by omega)
  have hit := (hI.2 b (by omega)).1
  have hib := (hI.2 b (by omega)).2
  have hcapb := BI_cap hit
  have hszb := hit.1
  obtain ⟨p0, w, nu, ne, en, ⟨hB, hB1, hB2, hB3, hB4, hB5, hB6, hB7, hB8⟩, hBL⟩ := id hbt
  obtain ⟨hb1, hb2, hb3⟩ := hBL.2 i hi
  have hi3 := hit.2.2.1 i hi
  have hq6 := hB6 i
  refine lv_astore_n (lv' := [(3, .ref (ad (33 + 6 * b))), (0, .ref (ad 0)), (1, .int (nI b)), (2, .int (nI i))]) hx hb dX2_benchWithAnyPiece_6 rfl hl (by decide) rfl (fun ls hl => ?_)
  refine lv_aload_n hx hb dX2_benchWithAnyPiece_7 rfl (lv_at hl 0 rfl) ?_
  refine lv_iload_n hx hb dX2_benchWithAnyPiece_8 rfl (lv_at hl 3 rfl) ?_
  refine g_callV (As := [.int (nI i)]) (rest := []) ⟨hx, hb, hml, hown, hw⟩ (mX0_isNumber l D cT n ad A hD G (33 + 6 * b) ((σ.2 b).1) ((σ.2 b).2.1) ((σ.2 b).2.2.1) p0 w nu ne en (by omega) ⟨hB, hB1, hB2, hB3, hB4, hB5, hB6, hB7, hB8⟩ i (by omega)) (cwV 1 hw (gWV wm_X2_98 wi_X0_isNumber wse_X0_isNumber wini_X0 wc_X0_isNumber) rfl rfl rfl (by decide +kernel) ⟨Nat.le_of_ble_eq_true rfl, Nat.le_of_ble_eq_true rfl⟩) hK hE hA hP hS (k := (33 + 6 * b)) (by omega) hB rfl rfl hl.1 (lv_room (Nat.le_of_ble_eq_true rfl)) dX2_benchWithAnyPiece_9 ⟨Nat.le_of_ble_eq_true rfl, Nat.le_of_ble_eq_true rfl⟩ (fun v_4 G_3 H locs hp hP hS => ?_)
  obtain ⟨hv, hg⟩ := hp
  subst hv
  rw [hg] at hP
  refine t_bool_eq (tgt := 25) hx hb dX2_benchWithAnyPiece_12 (by decide) (fun c_5 => ?_) (fun c_5 => ?_)
  · skip
    refine lv_aload_n hx hb dX2_benchWithAnyPiece_25 rfl (lv_at hl 0 rfl) ?_
    refine g_reta hQ hx hb hr hlocks hP hS (⟨⟨b, i, hb6, rfl, hi, rfl, by omega, rfl⟩, rfl⟩) (Nat.le_of_ble_eq_true rfl) (Nat.le_of_ble_eq_true rfl) dX2_benchWithAnyPiece_26
  · skip
    refine g_throwS (text := "the item is a number") hX ht hx hb hl9 hown hlocks hw hE hP hS (hl.1.trans hml.symm) (by decide +kernel) (by decide +kernel) at_IS wcl_X2_50 wini_java_lang_IllegalStateException (by decide +kernel) (Or.inr ⟨b, i, hb6, rfl, hi, rfl, by omega, rfl⟩) dX2_benchWithAnyPiece_15 dX2_benchWithAnyPiece_18 dX2_benchWithAnyPiece_19 dX2_benchWithAnyPiece_21 dX2_benchWithAnyPiece_24 (Nat.le_of_ble_eq_true rfl) (Nat.le_of_ble_eq_true rfl) (Nat.le_of_ble_eq_true rfl) (Nat.le_of_ble_eq_true rfl) (Nat.le_of_ble_eq_true rfl) (Nat.le_of_ble_eq_true rfl)

set_option maxHeartbeats 4000000 in
set_option maxRecDepth 100000 in
theorem mX2_benchWithPiece (l : Launch) (hl9 : l.stackTraces = false) (D : va_G) (cT : Nat → ClassId) (n : Nat) (ad : Nat → Nat) (A : Nat → Prop) (hD : ∀ G, va_D A (gw n ad G)) (G : Nat → va_E) (σ : TY) (hY : YW cT ad G σ) (hn : 69 ≤ n) (hI : YI σ) (x y : Int32) : vx_Met l yX2_benchWithPiece (wA yX2_benchWithPiece cX2_benchWithPiece 4 (Option.some (Jvm.ClassFile.FieldType.object "Splityard$Bench"))) ({ frames := 8, cells := 3, slots := 18, locals := 126 } : Room) (PG D cT n ad A G [.ref (ad 0), .int x, .int y]) (QG D n ad A (fun v G1 => onI σ x y (fun b i => (σ.2 b).2.2.2.2.1 i = 112 ∧ v = some (.ref (ad (33 + 6 * b)))) ∧ G1 = G)) (XG D n ad A G (pxIs σ x y (fun c => c ≠ 112))) 3 18 A := by
  refine vx_ofG (cc := cX2_benchWithPiece) (maxL := 4) (ret := (Option.some (Jvm.ClassFile.FieldType.object "Splityard$Bench"))) (by decide) (Nat.le_of_ble_eq_true rfl) ?_
  intro p e s m args below meth c Q hQ hX ht hx hb hr hml hlocks hown hw hP hK hE hA hS ls hl
  have hl : lv_has ls 4 [(0, .ref (ad 0)), (1, .int x), (2, .int y)] := hl
  obtain ⟨hy0, hy1, hy2⟩ := hY.1
  refine lv_aload_n hx hb dX2_benchWithPiece_0 rfl (lv_at hl 0 rfl) ?_
  refine lv_iload_n hx hb dX2_benchWithPiece_1 rfl (lv_at hl 1 rfl) ?_
  refine lv_iload_n hx hb dX2_benchWithPiece_2 rfl (lv_at hl 2 rfl) ?_
  refine g_callVX (As := [.int x, .int y]) (rest := []) ⟨hx, hb, hml, hown, hw⟩ (mX2_benchWithItem l hl9 D cT n ad A hD G σ hY hn hI x y) (cwV 2 hw (gWV wm_X2_90 wi_X2_benchWithItem wse_X2_benchWithItem wini_X2 wc_X2_benchWithItem) rfl rfl rfl (by decide +kernel) ⟨Nat.le_of_ble_eq_true rfl, Nat.le_of_ble_eq_true rfl⟩) hK hE hA hP hS (k := 0) (by omega) hy0 rfl rfl hl.1 (lv_room (Nat.le_of_ble_eq_true rfl)) dX2_benchWithPiece_3 ⟨Nat.le_of_ble_eq_true rfl, Nat.le_of_ble_eq_true rfl⟩ (fun E ce q9 H locs hpx hP hS hce hcv hcl => g_out hX ht hlocks hP hS (Or.inl hpx) hce hcv hcl (Nat.le_of_ble_eq_true rfl) (Nat.le_of_ble_eq_true rfl)) (fun v_2 G_1 H locs hp hP hS => ?_)
  obtain ⟨⟨b, i, hb6, hxb, hi, hyi, hv⟩, hg⟩ := hp
  subst hv
  rw [hg] at hP
  subst hxb
  subst hyi
  have hbt := hY.2.2.1 b (by omega)
  have hit := (hI.2 b (by omega)).1
  have hib := (hI.2 b (by omega)).2
  have hcapb := BI_cap hit
  have hszb := hit.1
  obtain ⟨p0, w, nu, ne, en, ⟨hB, hB1, hB2, hB3, hB4, hB5, hB6, hB7, hB8⟩, hBL⟩ := id hbt
  obtain ⟨hb1, hb2, hb3⟩ := hBL.2 i hi
  have hi3 := hit.2.2.1 i hi
  have hq6 := hB6 i
  refine lv_astore_n (lv' := [(3, .ref (ad (33 + 6 * b))), (0, .ref (ad 0)), (1, .int (nI b)), (2, .int (nI i))]) hx hb dX2_benchWithPiece_6 rfl hl (by decide) rfl (fun ls hl => ?_)
  refine lv_aload_n hx hb dX2_benchWithPiece_7 rfl (lv_at hl 0 rfl) ?_
  refine g_getN (C := RX0) (T := TX0) (N := 8) hx hb hw inX0 hown hK hP (i := (33 + 6 * b)) (by omega) hB rfl 3 (by decide) (hE.2.2.1 (94, "Splityard$Bench", "whats", "[I") (by decide +kernel)) rfl dX2_benchWithPiece_8 ?_
  refine lv_iload_n hx hb dX2_benchWithPiece_11 rfl (lv_at hl 3 rfl) ?_
  refine g_iald hx hb hK hP (i := (33 + 6 * b + 2)) (by omega) hB2 (by omega) (by omega) dX2_benchWithPiece_12 ?_
  have hbd_3 := hB6 i
  refine lv_bipush (v := nI 112) hx hb dX2_benchWithPiece_13 (by decide) ?_
  refine t_icmp_eq (tgt := 28) hx hb dX2_benchWithPiece_15 (by decide) (by omega) (by omega) (fun c_4 => ?_) (fun c_4 => ?_)
  · skip
    refine lv_aload_n hx hb dX2_benchWithPiece_28 rfl (lv_at hl 0 rfl) ?_
    refine g_reta hQ hx hb hr hlocks hP hS (⟨⟨b, i, hb6, rfl, hi, rfl, by omega, rfl⟩, rfl⟩) (Nat.le_of_ble_eq_true rfl) (Nat.le_of_ble_eq_true rfl) dX2_benchWithPiece_29
  · skip
    refine g_throwS (text := "the item is a number or an iterator") hX ht hx hb hl9 hown hlocks hw hE hP hS (hl.1.trans hml.symm) (by decide +kernel) (by decide +kernel) at_IS wcl_X2_50 wini_java_lang_IllegalStateException (by decide +kernel) (Or.inr ⟨b, i, hb6, rfl, hi, rfl, by omega, rfl⟩) dX2_benchWithPiece_18 dX2_benchWithPiece_21 dX2_benchWithPiece_22 dX2_benchWithPiece_24 dX2_benchWithPiece_27 (Nat.le_of_ble_eq_true rfl) (Nat.le_of_ble_eq_true rfl) (Nat.le_of_ble_eq_true rfl) (Nat.le_of_ble_eq_true rfl) (Nat.le_of_ble_eq_true rfl) (Nat.le_of_ble_eq_true rfl)

set_option maxHeartbeats 4000000 in
set_option maxRecDepth 100000 in
theorem mX2_length (l : Launch) (hl9 : l.stackTraces = false) (D : va_G) (cT : Nat → ClassId) (n : Nat) (ad : Nat → Nat) (A : Nat → Prop) (hD : ∀ G, va_D A (gw n ad G)) (G : Nat → va_E) (σ : TY) (hY : YW cT ad G σ) (hn : 69 ≤ n) (hI : YI σ) (ch : Nat) (hch : ch < 65536) (x : Int32) : vx_Met l yX2_length (wA yX2_length cX2_length 3 (some .int)) ({ frames := 7, cells := 1, slots := 6, locals := 105 } : Room) (PG D cT n ad A G [.ref (ad 0), .int (nI ch), .int x]) (QG D n ad A (fun v G1 => onR ch x (fun r => v = some (.int (nI (σ.1 r).1))) ∧ G1 = G)) (XG D n ad A G (pxRow ch x)) 1 6 A := by
  refine vx_ofG (cc := cX2_length) (maxL := 3) (ret := (some .int)) (by decide) (Nat.le_of_ble_eq_true rfl) ?_
  intro p e s m args below meth c Q hQ hX ht hx hb hr hml hlocks hown hw hP hK hE hA hS ls hl
  have hl : lv_has ls 3 [(0, .ref (ad 0)), (1, .int (nI ch)), (2, .int x)] := hl
  obtain ⟨hy0, hy1, hy2⟩ := hY.1
  refine lv_aload_n hx hb dX2_length_0 rfl (lv_at hl 0 rfl) ?_
  refine lv_iload_n hx hb dX2_length_1 rfl (lv_at hl 1 rfl) ?_
  refine lv_iload_n hx hb dX2_length_2 rfl (lv_at hl 2 rfl) ?_
  refine g_callVX (As := [.int (nI ch), .int x]) (rest := []) ⟨hx, hb, hml, hown, hw⟩ (mX2_rowOf l hl9 D cT n ad A hD G σ hY hn ch (by omega) x) (cwV 2 hw (gWV wm_X2_42 wi_X2_rowOf wse_X2_rowOf wini_X2 wc_X2_rowOf) rfl rfl rfl (by decide +kernel) ⟨Nat.le_of_ble_eq_true rfl, Nat.le_of_ble_eq_true rfl⟩) hK hE hA hP hS (k := 0) (by omega) hy0 rfl rfl hl.1 (lv_room (Nat.le_of_ble_eq_true rfl)) dX2_length_3 ⟨Nat.le_of_ble_eq_true rfl, Nat.le_of_ble_eq_true rfl⟩ (fun E ce q9 H locs hpx hP hS hce hcv hcl => g_out hX ht hlocks hP hS (hpx) hce hcv hcl (Nat.le_of_ble_eq_true rfl) (Nat.le_of_ble_eq_true rfl)) (fun v_2 G_1 H locs hp hP hS => ?_)
  obtain ⟨⟨q, j, hq, hj, hkd, hxj, hv⟩, hg⟩ := hp
  subst hv
  rw [hg] at hP
  subst hxj
  have hrr := hY.2.1 (4 * q + j) (by omega)
  have hrc := hI.1 (4 * q + j) (by omega)
  obtain ⟨hR1a, hR1b⟩ := id hrr
  refine g_getN (C := RX1) (T := TX1) (N := 2) hx hb hw inX1 hown hK hP (i := (9 + 2 * (4 * q + j))) (by omega) hR1a rfl 1 (by decide) (hE.2.2.1 (55, "Splityard$Row", "count", "I") (by decide +kernel)) rfl dX2_length_6 ?_
  refine g_ret hQ hx hb hr hlocks rfl hP hS (⟨⟨q, j, hq, hj, hkd, rfl, rfl⟩, rfl⟩) (Nat.le_of_ble_eq_true rfl) (Nat.le_of_ble_eq_true rfl) dX2_length_9

set_option maxHeartbeats 4000000 in
set_option maxRecDepth 100000 in
theorem mX2_number (l : Launch) (hl9 : l.stackTraces = false) (D : va_G) (cT : Nat → ClassId) (n : Nat) (ad : Nat → Nat) (A : Nat → Prop) (hD : ∀ G, va_D A (gw n ad G)) (G : Nat → va_E) (σ : TY) (hY : YW cT ad G σ) (hn : 69 ≤ n) (hI : YI σ) (ch : Nat) (hch : ch < 65536) (x : Int32) (y : Int32) : vx_Met l yX2_number (wA yX2_number cX2_number 5 (some .long)) ({ frames := 7, cells := 2, slots := 12, locals := 105 } : Room) (PG D cT n ad A G [.ref (ad 0), .int (nI ch), .int x, .int y]) (QG D n ad A (fun v G1 => onR ch x (fun r => ∃ i, i < (σ.1 r).1 ∧ y = nI i ∧ v = some (.long ((σ.1 r).2 i))) ∧ G1 = G)) (XG D n ad A G (fun E => pxRow ch x E ∨ onR ch x (fun r => (y < 0 ∨ nI (σ.1 r).1 ≤ y) ∧ E = xIO))) 2 12 A := by
  refine vx_ofG (cc := cX2_number) (maxL := 5) (ret := (some .long)) (by decide) (Nat.le_of_ble_eq_true rfl) ?_
  intro p e s m args below meth c Q hQ hX ht hx hb hr hml hlocks hown hw hP hK hE hA hS ls hl
  have hl : lv_has ls 5 [(0, .ref (ad 0)), (1, .int (nI ch)), (2, .int x), (3, .int y)] := hl
  obtain ⟨hy0, hy1, hy2⟩ := hY.1
  refine lv_aload_n hx hb dX2_number_0 rfl (lv_at hl 0 rfl) ?_
  refine lv_iload_n hx hb dX2_number_1 rfl (lv_at hl 1 rfl) ?_
  refine lv_iload_n hx hb dX2_number_2 rfl (lv_at hl 2 rfl) ?_
  refine g_callVX (As := [.int (nI ch), .int x]) (rest := []) ⟨hx, hb, hml, hown, hw⟩ (mX2_rowOf l hl9 D cT n ad A hD G σ hY hn ch (by omega) x) (cwV 2 hw (gWV wm_X2_42 wi_X2_rowOf wse_X2_rowOf wini_X2 wc_X2_rowOf) rfl rfl rfl (by decide +kernel) ⟨Nat.le_of_ble_eq_true rfl, Nat.le_of_ble_eq_true rfl⟩) hK hE hA hP hS (k := 0) (by omega) hy0 rfl rfl hl.1 (lv_room (Nat.le_of_ble_eq_true rfl)) dX2_number_3 ⟨Nat.le_of_ble_eq_true rfl, Nat.le_of_ble_eq_true rfl⟩ (fun E ce q9 H locs hpx hP hS hce hcv hcl => g_out hX ht hlocks hP hS (Or.inl hpx) hce hcv hcl (Nat.le_of_ble_eq_true rfl) (Nat.le_of_ble_eq_true rfl)) (fun v_2 G_1 H locs hp hP hS => ?_)
  obtain ⟨⟨q, j, hq, hj, hkd, hxj, hv⟩, hg⟩ := hp
  subst hv
  rw [hg] at hP
  subst hxj
  have hrr := hY.2.1 (4 * q + j) (by omega)
  have hrc := hI.1 (4 * q + j) (by omega)
  obtain ⟨hR1a, hR1b⟩ := id hrr
  refine lv_astore (lv' := [(4, .ref (ad (9 + 2 * (4 * q + j)))), (0, .ref (ad 0)), (1, .int (nI ch)), (2, .int (nI j)), (3, .int y)]) hx hb dX2_number_6 hl (by decide) rfl (fun ls hl => ?_)
  refine lv_iload_n hx hb dX2_number_8 rfl (lv_at hl 4 rfl) ?_
  refine lv_if_lt (tgt := 21) hx hb dX2_number_9 (by decide) (fun c_3 => ?_) (fun c_3 => ?_)
  · skip
    refine g_throwS (text := "no such place") hX ht hx hb hl9 hown hlocks hw hE hP hS (hl.1.trans hml.symm) (by decide +kernel) (by decide +kernel) at_IO wcl_X2_67 wini_java_lang_IndexOutOfBoundsException (by decide +kernel) (Or.inr ⟨q, j, hq, hj, hkd, rfl, Or.inl c_3, rfl⟩) dX2_number_21 dX2_number_24 dX2_number_25 dX2_number_27 dX2_number_30 (Nat.le_of_ble_eq_true rfl) (Nat.le_of_ble_eq_true rfl) (Nat.le_of_ble_eq_true rfl) (Nat.le_of_ble_eq_true rfl) (Nat.le_of_ble_eq_true rfl) (Nat.le_of_ble_eq_true rfl)
  · skip
    refine lv_iload_n hx hb dX2_number_12 rfl (lv_at hl 4 rfl) ?_
    refine lv_aload hx hb dX2_number_13 (lv_at hl 0 rfl) ?_
    refine g_getN (C := RX1) (T := TX1) (N := 2) hx hb hw inX1 hown hK hP (i := (9 + 2 * (4 * q + j))) (by omega) hR1a rfl 1 (by decide) (hE.2.2.1 (55, "Splityard$Row", "count", "I") (by decide +kernel)) rfl dX2_number_15 ?_
    refine lv_icmp_lt (tgt := 31) hx hb dX2_number_18 (by decide) (fun c_4 => ?_) (fun c_4 => ?_)
    · skip
      obtain ⟨i, hi, rfl⟩ := lt_ix (by omega) c_3 c_4
      refine lv_aload hx hb dX2_number_31 (lv_at hl 0 rfl) ?_
      refine lv_iload_n hx hb dX2_number_33 rfl (lv_at hl 4 rfl) ?_
      refine g_callV (As := [.int (nI i)]) (rest := []) ⟨hx, hb, hml, hown, hw⟩ (mX1_at l D cT n ad A hD G (9 + 2 * (4 * q + j)) ((σ.1 (4 * q + j)).1) ((σ.1 (4 * q + j)).2) (by omega) ⟨hR1a, hR1b⟩ i (by omega) (by omega)) (cwV 1 hw (gWV wm_X2_72 wi_X1_at wse_X1_at wini_X1 wc_X1_at) rfl rfl rfl (by decide +kernel) ⟨Nat.le_of_ble_eq_true rfl, Nat.le_of_ble_eq_true rfl⟩) hK hE hA hP hS (k := (9 + 2 * (4 * q + j))) (by omega) hR1a rfl rfl hl.1 (lv_room (Nat.le_of_ble_eq_true rfl)) dX2_number_34 ⟨Nat.le_of_ble_eq_true rfl, Nat.le_of_ble_eq_true rfl⟩ (fun v_6 G_5 H locs hp hP hS => ?_)
      obtain ⟨hv, hg⟩ := hp
      subst hv
      rw [hg] at hP
      refine g_retl hQ hx hb hr hlocks hP hS (⟨⟨q, j, hq, hj, hkd, rfl, i, hi, rfl, rfl⟩, rfl⟩) (Nat.le_of_ble_eq_true rfl) (Nat.le_of_ble_eq_true rfl) dX2_number_37
    · skip
      refine g_throwS (text := "no such place") hX ht hx hb hl9 hown hlocks hw hE hP hS (hl.1.trans hml.symm) (by decide +kernel) (by decide +kernel) at_IO wcl_X2_67 wini_java_lang_IndexOutOfBoundsException (by decide +kernel) (Or.inr ⟨q, j, hq, hj, hkd, rfl, Or.inr (Int32.not_lt.mp c_4), rfl⟩) dX2_number_21 dX2_number_24 dX2_number_25 dX2_number_27 dX2_number_30 (Nat.le_of_ble_eq_true rfl) (Nat.le_of_ble_eq_true rfl) (Nat.le_of_ble_eq_true rfl) (Nat.le_of_ble_eq_true rfl) (Nat.le_of_ble_eq_true rfl) (Nat.le_of_ble_eq_true rfl)

set_option maxHeartbeats 4000000 in
set_option maxRecDepth 100000 in
theorem mX2_turn (l : Launch) (hl9 : l.stackTraces = false) (D : va_G) (cT : Nat → ClassId) (n : Nat) (ad : Nat → Nat) (A : Nat → Prop) (hD : ∀ G, va_D A (gw n ad G)) (G : Nat → va_E) (σ : TY) (hY : YW cT ad G σ) (hn : 69 ≤ n) (hI : YI σ) (ch : Nat) (hch : ch < 65536) (x : Int32) : vx_Met l yX2_turn (wA yX2_turn cX2_turn 4 (some .int)) ({ frames := 7, cells := 1, slots := 6, locals := 105 } : Room) (PG D cT n ad A G [.ref (ad 0), .int (nI ch), .int x]) (QG D n ad A (fun v G1 => onR ch x (fun r => v = some (.int (nI (σ.1 r).1)) ∧ YW cT ad G1 (setR σ r ((σ.1 r).1, revA (σ.1 r).2 (σ.1 r).1))) ∧ ∀ j, 69 ≤ j → G1 j = G j)) (XG D n ad A G (pxRow ch x)) 1 6 A := by
  refine vx_ofG (cc := cX2_turn) (maxL := 4) (ret := (some .int)) (by decide) (Nat.le_of_ble_eq_true rfl) ?_
  intro p e s m args below meth c Q hQ hX ht hx hb hr hml hlocks hown hw hP hK hE hA hS ls hl
  have hl : lv_has ls 4 [(0, .ref (ad 0)), (1, .int (nI ch)), (2, .int x)] := hl
  obtain ⟨hy0, hy1, hy2⟩ := hY.1
  refine lv_aload_n hx hb dX2_turn_0 rfl (lv_at hl 0 rfl) ?_
  refine lv_iload_n hx hb dX2_turn_1 rfl (lv_at hl 1 rfl) ?_
  refine lv_iload_n hx hb dX2_turn_2 rfl (lv_at hl 2 rfl) ?_
  refine g_callVX (As := [.int (nI ch), .int x]) (rest := []) ⟨hx, hb, hml, hown, hw⟩ (mX2_rowOf l hl9 D cT n ad A hD G σ hY hn ch (by omega) x) (cwV 2 hw (gWV wm_X2_42 wi_X2_rowOf wse_X2_rowOf wini_X2 wc_X2_rowOf) rfl rfl rfl (by decide +kernel) ⟨Nat.le_of_ble_eq_true rfl, Nat.le_of_ble_eq_true rfl⟩) hK hE hA hP hS (k := 0) (by omega) hy0 rfl rfl hl.1 (lv_room (Nat.le_of_ble_eq_true rfl)) dX2_turn_3 ⟨Nat.le_of_ble_eq_true rfl, Nat.le_of_ble_eq_true rfl⟩ (fun E ce q9 H locs hpx hP hS hce hcv hcl => g_out hX ht hlocks hP hS (hpx) hce hcv hcl (Nat.le_of_ble_eq_true rfl) (Nat.le_of_ble_eq_true rfl)) (fun v_2 G_1 H locs hp hP hS => ?_)
  obtain ⟨⟨q, j, hq, hj, hkd, hxj, hv⟩, hg⟩ := hp
  subst hv
  rw [hg] at hP
  subst hxj
  have hrr := hY.2.1 (4 * q + j) (by omega)
  have hrc := hI.1 (4 * q + j) (by omega)
  obtain ⟨hR1a, hR1b⟩ := id hrr
  refine lv_astore_n (lv' := [(3, .ref (ad (9 + 2 * (4 * q + j)))), (0, .ref (ad 0)), (1, .int (nI ch)), (2, .int (nI j))]) hx hb dX2_turn_6 rfl hl (by decide) rfl (fun ls hl => ?_)
  refine lv_aload_n hx hb dX2_turn_7 rfl (lv_at hl 0 rfl) ?_
  refine g_callV (As := []) (rest := []) ⟨hx, hb, hml, hown, hw⟩ (mX1_reverse l D cT n ad A hD G (9 + 2 * (4 * q + j)) ((σ.1 (4 * q + j)).1) ((σ.1 (4 * q + j)).2) (by omega) ⟨hR1a, hR1b⟩ (by omega)) (cwV 0 hw (gWV wm_X2_64 wi_X1_reverse wse_X1_reverse wini_X1 wc_X1_reverse) rfl rfl rfl (by decide +kernel) ⟨Nat.le_of_ble_eq_true rfl, Nat.le_of_ble_eq_true rfl⟩) hK hE hA hP hS (k := (9 + 2 * (4 * q + j))) (by omega) hR1a rfl rfl hl.1 (lv_room (Nat.le_of_ble_eq_true rfl)) dX2_turn_8 ⟨Nat.le_of_ble_eq_true rfl, Nat.le_of_ble_eq_true rfl⟩ (fun v_4 G_3 H locs hp hP hS => ?_)
  obtain ⟨hv, hf_5, hr_6, hr_7⟩ := hp
  subst hv
  have hc_8 : G_3 0 = .inr (4, [.ref (ad 1), .ref (ad 2), .ref (ad 3)]) := (hf_5 _ (by omega)).trans hy0
  have hc_9 : G_3 1 = aQ (cT 5) 12 (rQ ad) := (hf_5 _ (by omega)).trans hy1
  have hc_10 : G_3 2 = aQ (cT 6) 6 (bQ ad) := (hf_5 _ (by omega)).trans hy2
  refine lv_aload_n hx hb dX2_turn_11 rfl (lv_at hl 0 rfl) ?_
  refine g_getN (C := RX1) (T := TX1) (N := 2) hx hb hw inX1 hown hK hP (i := (9 + 2 * (4 * q + j))) (by omega) hr_6 rfl 1 (by decide) (hE.2.2.1 (55, "Splityard$Row", "count", "I") (by decide +kernel)) rfl dX2_turn_12 ?_
  refine g_ret hQ hx hb hr hlocks rfl hP hS (⟨⟨q, j, hq, hj, hkd, rfl, rfl, YW.row hY (by omega) hf_5 ⟨hr_6, hr_7⟩⟩, fun j hj => hf_5 j (by omega)⟩) (Nat.le_of_ble_eq_true rfl) (Nat.le_of_ble_eq_true rfl) dX2_turn_15

set_option maxHeartbeats 4000000 in
set_option maxRecDepth 100000 in
theorem mX2_items (l : Launch) (hl9 : l.stackTraces = false) (D : va_G) (cT : Nat → ClassId) (n : Nat) (ad : Nat → Nat) (A : Nat → Prop) (hD : ∀ G, va_D A (gw n ad G)) (G : Nat → va_E) (σ : TY) (hY : YW cT ad G σ) (hn : 69 ≤ n) (hI : YI σ) (x : Int32) : vx_Met l yX2_items (wA yX2_items cX2_items 2 (some .int)) ({ frames := 7, cells := 1, slots := 6, locals := 103 } : Room) (PG D cT n ad A G [.ref (ad 0), .int x]) (QG D n ad A (fun v G1 => onB x (fun b => v = some (.int (nI (σ.2 b).2.1))) ∧ G1 = G)) (XG D n ad A G (pxBen x)) 1 6 A := by
  refine vx_ofG (cc := cX2_items) (maxL := 2) (ret := (some .int)) (by decide) (Nat.le_of_ble_eq_true rfl) ?_
  intro p e s m args below meth c Q hQ hX ht hx hb hr hml hlocks hown hw hP hK hE hA hS ls hl
  have hl : lv_has ls 2 [(0, .ref (ad 0)), (1, .int x)] := hl
  obtain ⟨hy0, hy1, hy2⟩ := hY.1
  refine lv_aload_n hx hb dX2_items_0 rfl (lv_at hl 0 rfl) ?_
  refine lv_iload_n hx hb dX2_items_1 rfl (lv_at hl 1 rfl) ?_
  refine g_callVX (As := [.int x]) (rest := []) ⟨hx, hb, hml, hown, hw⟩ (mX2_benchAt l hl9 D cT n ad A hD G σ hY hn x) (cwV 1 hw (gWV wm_X2_76 wi_X2_benchAt wse_X2_benchAt wini_X2 wc_X2_benchAt) rfl rfl rfl (by decide +kernel) ⟨Nat.le_of_ble_eq_true rfl, Nat.le_of_ble_eq_true rfl⟩) hK hE hA hP hS (k := 0) (by omega) hy0 rfl rfl hl.1 (lv_room (Nat.le_of_ble_eq_true rfl)) dX2_items_2 ⟨Nat.le_of_ble_eq_true rfl, Nat.le_of_ble_eq_true rfl⟩ (fun E ce q9 H locs hpx hP hS hce hcv hcl => g_out hX ht hlocks hP hS (hpx) hce hcv hcl (Nat.le_of_ble_eq_true rfl) (Nat.le_of_ble_eq_true rfl)) (fun v_2 G_1 H locs hp hP hS => ?_)
  obtain ⟨⟨b, hb6, hxb, hv⟩, hg⟩ := hp
  subst hv
  rw [hg] at hP
  subst hxb
  have hbt := hY.2.2.1 b (by omega)
  have hit := (hI.2 b (by omega)).1
  have hib := (hI.2 b (by omega)).2
  have hcapb := BI_cap hit
  have hszb := hit.1
  obtain ⟨p0, w, nu, ne, en, ⟨hB, hB1, hB2, hB3, hB4, hB5, hB6, hB7, hB8⟩, hBL⟩ := id hbt
  refine g_getN (C := RX0) (T := TX0) (N := 8) hx hb hw inX0 hown hK hP (i := (33 + 6 * b)) (by omega) hB rfl 7 (by decide) (hE.2.2.1 (89, "Splityard$Bench", "count", "I") (by decide +kernel)) rfl dX2_items_5 ?_
  refine g_ret hQ hx hb hr hlocks rfl hP hS (⟨⟨b, hb6, rfl, rfl⟩, rfl⟩) (Nat.le_of_ble_eq_true rfl) (Nat.le_of_ble_eq_true rfl) dX2_items_8

set_option maxHeartbeats 4000000 in
set_option maxRecDepth 100000 in
theorem mX2_kindOf (l : Launch) (hl9 : l.stackTraces = false) (D : va_G) (cT : Nat → ClassId) (n : Nat) (ad : Nat → Nat) (A : Nat → Prop) (hD : ∀ G, va_D A (gw n ad G)) (G : Nat → va_E) (σ : TY) (hY : YW cT ad G σ) (hn : 69 ≤ n) (hI : YI σ) (x y : Int32) : vx_Met l yX2_kindOf (wA yX2_kindOf cX2_kindOf 3 (some .char)) ({ frames := 8, cells := 2, slots := 12, locals := 126 } : Room) (PG D cT n ad A G [.ref (ad 0), .int x, .int y]) (QG D n ad A (fun v G1 => onI σ x y (fun b i => v = some (.int (nI ((σ.2 b).2.2.2.2.1 i)))) ∧ G1 = G)) (XG D n ad A G (pxItem σ x y)) 2 12 A := by
  refine vx_ofG (cc := cX2_kindOf) (maxL := 3) (ret := (some .char)) (by decide) (Nat.le_of_ble_eq_true rfl) ?_
  intro p e s m args below meth c Q hQ hX ht hx hb hr hml hlocks hown hw hP hK hE hA hS ls hl
  have hl : lv_has ls 3 [(0, .ref (ad 0)), (1, .int x), (2, .int y)] := hl
  obtain ⟨hy0, hy1, hy2⟩ := hY.1
  refine lv_aload_n hx hb dX2_kindOf_0 rfl (lv_at hl 0 rfl) ?_
  refine lv_iload_n hx hb dX2_kindOf_1 rfl (lv_at hl 1 rfl) ?_
  refine lv_iload_n hx hb dX2_kindOf_2 rfl (lv_at hl 2 rfl) ?_
  refine g_callVX (As := [.int x, .int y]) (rest := []) ⟨hx, hb, hml, hown, hw⟩ (mX2_benchWithItem l hl9 D cT n ad A hD G σ hY hn hI x y) (cwV 2 hw (gWV wm_X2_90 wi_X2_benchWithItem wse_X2_benchWithItem wini_X2 wc_X2_benchWithItem) rfl rfl rfl (by decide +kernel) ⟨Nat.le_of_ble_eq_true rfl, Nat.le_of_ble_eq_true rfl⟩) hK hE hA hP hS (k := 0) (by omega) hy0 rfl rfl hl.1 (lv_room (Nat.le_of_ble_eq_true rfl)) dX2_kindOf_3 ⟨Nat.le_of_ble_eq_true rfl, Nat.le_of_ble_eq_true rfl⟩ (fun E ce q9 H locs hpx hP hS hce hcv hcl => g_out hX ht hlocks hP hS (hpx) hce hcv hcl (Nat.le_of_ble_eq_true rfl) (Nat.le_of_ble_eq_true rfl)) (fun v_2 G_1 H locs hp hP hS => ?_)
  obtain ⟨⟨b, i, hb6, hxb, hi, hyi, hv⟩, hg⟩ := hp
  subst hv
  rw [hg] at hP
  subst hxb
  subst hyi
  have hbt := hY.2.2.1 b (by omega)
  have hit := (hI.2 b (by omega)).1
  have hib := (hI.2 b (by omega)).2
  have hcapb := BI_cap hit
  have hszb := hit.1
  obtain ⟨p0, w, nu, ne, en, ⟨hB, hB1, hB2, hB3, hB4, hB5, hB6, hB7, hB8⟩, hBL⟩ := id hbt
  obtain ⟨hb1, hb2, hb3⟩ := hBL.2 i hi
  have hi3 := hit.2.2.1 i hi
  have hq6 := hB6 i
  refine g_getN (C := RX0) (T := TX0) (N := 8) hx hb hw inX0 hown hK hP (i := (33 + 6 * b)) (by omega) hB rfl 3 (by decide) (hE.2.2.1 (94, "Splityard$Bench", "whats", "[I") (by decide +kernel)) rfl dX2_kindOf_6 ?_
  refine lv_iload_n hx hb dX2_kindOf_9 rfl (lv_at hl 2 rfl) ?_
  refine g_iald hx hb hK hP (i := (33 + 6 * b + 2)) (by omega) hB2 (by omega) (by omega) dX2_kindOf_10 ?_
  have hbd_3 := hB6 i
  refine t_eqi (nI ((σ.2 b).2.2.2.2.1 i)) (congrArg nI hb1) ?_
  refine lv_i2c (v := nI ((σ.2 b).2.2.2.2.1 i)) hx hb dX2_kindOf_11 (i2c_nI (by omega)) ?_
  refine g_ret hQ hx hb hr hlocks (by exact (pk_charN (by omega)).1) hP hS (⟨⟨b, i, hb6, rfl, hi, rfl, rfl⟩, rfl⟩) (Nat.le_of_ble_eq_true rfl) (Nat.le_of_ble_eq_true rfl) dX2_kindOf_12

set_option maxHeartbeats 4000000 in
set_option maxRecDepth 100000 in
theorem mX2_given (l : Launch) (hl9 : l.stackTraces = false) (D : va_G) (cT : Nat → ClassId) (n : Nat) (ad : Nat → Nat) (A : Nat → Prop) (hD : ∀ G, va_D A (gw n ad G)) (G : Nat → va_E) (σ : TY) (hY : YW cT ad G σ) (hn : 69 ≤ n) (hI : YI σ) (x y : Int32) : vx_Met l yX2_given (wA yX2_given cX2_given 4 (some .long)) ({ frames := 8, cells := 3, slots := 18, locals := 126 } : Room) (PG D cT n ad A G [.ref (ad 0), .int x, .int y]) (QG D n ad A (fun v G1 => onI σ x y (fun b i => (σ.2 b).2.2.2.2.1 i = 110 ∧ v = some (.long ((σ.2 b).2.2.2.1 (ps (σ.2 b).2.2.2.2.2 i)))) ∧ G1 = G)) (XG D n ad A G (pxIs σ x y (fun c => c ≠ 110))) 3 18 A := by
  refine vx_ofG (cc := cX2_given) (maxL := 4) (ret := (some .long)) (by decide) (Nat.le_of_ble_eq_true rfl) ?_
  intro p e s m args below meth c Q hQ hX ht hx hb hr hml hlocks hown hw hP hK hE hA hS ls hl
  have hl : lv_has ls 4 [(0, .ref (ad 0)), (1, .int x), (2, .int y)] := hl
  obtain ⟨hy0, hy1, hy2⟩ := hY.1
  refine lv_aload_n hx hb dX2_given_0 rfl (lv_at hl 0 rfl) ?_
  refine lv_iload_n hx hb dX2_given_1 rfl (lv_at hl 1 rfl) ?_
  refine lv_iload_n hx hb dX2_given_2 rfl (lv_at hl 2 rfl) ?_
  refine g_callVX (As := [.int x, .int y]) (rest := []) ⟨hx, hb, hml, hown, hw⟩ (mX2_benchWithItem l hl9 D cT n ad A hD G σ hY hn hI x y) (cwV 2 hw (gWV wm_X2_90 wi_X2_benchWithItem wse_X2_benchWithItem wini_X2 wc_X2_benchWithItem) rfl rfl rfl (by decide +kernel) ⟨Nat.le_of_ble_eq_true rfl, Nat.le_of_ble_eq_true rfl⟩) hK hE hA hP hS (k := 0) (by omega) hy0 rfl rfl hl.1 (lv_room (Nat.le_of_ble_eq_true rfl)) dX2_given_3 ⟨Nat.le_of_ble_eq_true rfl, Nat.le_of_ble_eq_true rfl⟩ (fun E ce q9 H locs hpx hP hS hce hcv hcl => g_out hX ht hlocks hP hS (Or.inl hpx) hce hcv hcl (Nat.le_of_ble_eq_true rfl) (Nat.le_of_ble_eq_true rfl)) (fun v_2 G_1 H locs hp hP hS => ?_)
  obtain ⟨⟨b, i, hb6, hxb, hi, hyi, hv⟩, hg⟩ := hp
  subst hv
  rw [hg] at hP
  subst hxb
  subst hyi
  have hbt := hY.2.2.1 b (by omega)
  have hit := (hI.2 b (by omega)).1
  have hib := (hI.2 b (by omega)).2
  have hcapb := BI_cap hit
  have hszb := hit.1
  obtain ⟨p0, w, nu, ne, en, ⟨hB, hB1, hB2, hB3, hB4, hB5, hB6, hB7, hB8⟩, hBL⟩ := id hbt
  obtain ⟨hb1, hb2, hb3⟩ := hBL.2 i hi
  have hi3 := hit.2.2.1 i hi
  have hq6 := hB6 i
  refine lv_astore_n (lv' := [(3, .ref (ad (33 + 6 * b))), (0, .ref (ad 0)), (1, .int (nI b)), (2, .int (nI i))]) hx hb dX2_given_6 rfl hl (by decide) rfl (fun ls hl => ?_)
  refine lv_aload_n hx hb dX2_given_7 rfl (lv_at hl 0 rfl) ?_
  refine lv_iload_n hx hb dX2_given_8 rfl (lv_at hl 3 rfl) ?_
  refine g_callV (As := [.int (nI i)]) (rest := []) ⟨hx, hb, hml, hown, hw⟩ (mX0_isNumber l D cT n ad A hD G (33 + 6 * b) ((σ.2 b).1) ((σ.2 b).2.1) ((σ.2 b).2.2.1) p0 w nu ne en (by omega) ⟨hB, hB1, hB2, hB3, hB4, hB5, hB6, hB7, hB8⟩ i (by omega)) (cwV 1 hw (gWV wm_X2_98 wi_X0_isNumber wse_X0_isNumber wini_X0 wc_X0_isNumber) rfl rfl rfl (by decide +kernel) ⟨Nat.le_of_ble_eq_true rfl, Nat.le_of_ble_eq_true rfl⟩) hK hE hA hP hS (k := (33 + 6 * b)) (by omega) hB rfl rfl hl.1 (lv_room (Nat.le_of_ble_eq_true rfl)) dX2_given_9 ⟨Nat.le_of_ble_eq_true rfl, Nat.le_of_ble_eq_true rfl⟩ (fun v_4 G_3 H locs hp hP hS => ?_)
  obtain ⟨hv, hg⟩ := hp
  subst hv
  rw [hg] at hP
  refine t_bool_ne (tgt := 25) hx hb dX2_given_12 (by decide) (fun c_5 => ?_) (fun c_5 => ?_)
  · skip
    refine lv_aload_n hx hb dX2_given_25 rfl (lv_at hl 0 rfl) ?_
    refine g_getN (C := RX0) (T := TX0) (N := 8) hx hb hw inX0 hown hK hP (i := (33 + 6 * b)) (by omega) hB rfl 4 (by decide) (hE.2.2.1 (104, "Splityard$Bench", "numbers", "[J") (by decide +kernel)) rfl dX2_given_26 ?_
    refine lv_iload_n hx hb dX2_given_29 rfl (lv_at hl 3 rfl) ?_
    refine g_lald hx hb hK hP (i := (33 + 6 * b + 3)) (by omega) hB3 (by omega) (by omega) dX2_given_30 ?_
    refine g_retl hQ hx hb hr hlocks hP hS (⟨⟨b, i, hb6, rfl, hi, rfl, by omega, by rw [hb2 (by omega)]⟩, rfl⟩) (Nat.le_of_ble_eq_true rfl) (Nat.le_of_ble_eq_true rfl) dX2_given_31
  · skip
    refine g_throwS (text := "the item is a piece") hX ht hx hb hl9 hown hlocks hw hE hP hS (hl.1.trans hml.symm) (by decide +kernel) (by decide +kernel) at_IS wcl_X2_50 wini_java_lang_IllegalStateException (by decide +kernel) (Or.inr ⟨b, i, hb6, rfl, hi, rfl, by omega, rfl⟩) dX2_given_15 dX2_given_18 dX2_given_19 dX2_given_21 dX2_given_24 (Nat.le_of_ble_eq_true rfl) (Nat.le_of_ble_eq_true rfl) (Nat.le_of_ble_eq_true rfl) (Nat.le_of_ble_eq_true rfl) (Nat.le_of_ble_eq_true rfl) (Nat.le_of_ble_eq_true rfl)

set_option maxHeartbeats 4000000 in
set_option maxRecDepth 100000 in
theorem mX2_left (l : Launch) (hl9 : l.stackTraces = false) (D : va_G) (cT : Nat → ClassId) (n : Nat) (ad : Nat → Nat) (A : Nat → Prop) (hD : ∀ G, va_D A (gw n ad G)) (G : Nat → va_E) (σ : TY) (hY : YW cT ad G σ) (hn : 69 ≤ n) (hI : YI σ) (x y : Int32) : vx_Met l yX2_left (wA yX2_left cX2_left 3 (some .int)) ({ frames := 9, cells := 3, slots := 18, locals := 149 } : Room) (PG D cT n ad A G [.ref (ad 0), .int x, .int y]) (QG D n ad A (fun v G1 => onI σ x y (fun b i => (σ.2 b).2.2.2.2.1 i ≠ 110 ∧ v = some (.int (nI ((σ.2 b).2.2.2.2.2 i)))) ∧ G1 = G)) (XG D n ad A G (pxIs σ x y (fun c => c = 110))) 3 18 A := by
  refine vx_ofG (cc := cX2_left) (maxL := 3) (ret := (some .int)) (by decide) (Nat.le_of_ble_eq_true rfl) ?_
  intro p e s m args below meth c Q hQ hX ht hx hb hr hml hlocks hown hw hP hK hE hA hS ls hl
  have hl : lv_has ls 3 [(0, .ref (ad 0)), (1, .int x), (2, .int y)] := hl
  obtain ⟨hy0, hy1, hy2⟩ := hY.1
  refine lv_aload_n hx hb dX2_left_0 rfl (lv_at hl 0 rfl) ?_
  refine lv_iload_n hx hb dX2_left_1 rfl (lv_at hl 1 rfl) ?_
  refine lv_iload_n hx hb dX2_left_2 rfl (lv_at hl 2 rfl) ?_
  refine g_callVX (As := [.int x, .int y]) (rest := []) ⟨hx, hb, hml, hown, hw⟩ (mX2_benchWithAnyPiece l hl9 D cT n ad A hD G σ hY hn hI x y) (cwV 2 hw (gWV wm_X2_108 wi_X2_benchWithAnyPiece wse_X2_benchWithAnyPiece wini_X2 wc_X2_benchWithAnyPiece) rfl rfl rfl (by decide +kernel) ⟨Nat.le_of_ble_eq_true rfl, Nat.le_of_ble_eq_true rfl⟩) hK hE hA hP hS (k := 0) (by omega) hy0 rfl rfl hl.1 (lv_room (Nat.le_of_ble_eq_true rfl)) dX2_left_3 ⟨Nat.le_of_ble_eq_true rfl, Nat.le_of_ble_eq_true rfl⟩ (fun E ce q9 H locs hpx hP hS hce hcv hcl => g_out hX ht hlocks hP hS (hpx) hce hcv hcl (Nat.le_of_ble_eq_true rfl) (Nat.le_of_ble_eq_true rfl)) (fun v_2 G_1 H locs hp hP hS => ?_)
  obtain ⟨⟨b, i, hb6, hxb, hi, hyi, hKp, hv⟩, hg⟩ := hp
  subst hv
  rw [hg] at hP
  subst hxb
  subst hyi
  have hbt := hY.2.2.1 b (by omega)
  have hit := (hI.2 b (by omega)).1
  have hib := (hI.2 b (by omega)).2
  have hcapb := BI_cap hit
  have hszb := hit.1
  obtain ⟨p0, w, nu, ne, en, ⟨hB, hB1, hB2, hB3, hB4, hB5, hB6, hB7, hB8⟩, hBL⟩ := id hbt
  obtain ⟨hb1, hb2, hb3⟩ := hBL.2 i hi
  have hi3 := hit.2.2.1 i hi
  have hq6 := hB6 i
  refine lv_iload_n hx hb dX2_left_6 rfl (lv_at hl 2 rfl) ?_
  have hbd_3 := hB8 i
  refine g_callV (As := [.int (nI i)]) (rest := []) ⟨hx, hb, hml, hown, hw⟩ (mX0_remaining l D cT n ad A hD G (33 + 6 * b) ((σ.2 b).1) ((σ.2 b).2.1) ((σ.2 b).2.2.1) p0 w nu ne en (by omega) ⟨hB, hB1, hB2, hB3, hB4, hB5, hB6, hB7, hB8⟩ i (by omega) (by omega)) (cwV 1 hw (gWV wm_X2_111 wi_X0_remaining wse_X0_remaining wini_X0 wc_X0_remaining) rfl rfl rfl (by decide +kernel) ⟨Nat.le_of_ble_eq_true rfl, Nat.le_of_ble_eq_true rfl⟩) hK hE hA hP hS (k := (33 + 6 * b)) (by omega) hB rfl rfl hl.1 (lv_room (Nat.le_of_ble_eq_true rfl)) dX2_left_7 ⟨Nat.le_of_ble_eq_true rfl, Nat.le_of_ble_eq_true rfl⟩ (fun v_5 G_4 H locs hp hP hS => ?_)
  obtain ⟨hv, hg⟩ := hp
  subst hv
  rw [hg] at hP
  refine t_eqi (nI ((σ.2 b).2.2.2.2.2 i)) (congrArg nI (by rw [if_neg (by omega)]; omega)) ?_
  refine g_ret hQ hx hb hr hlocks rfl hP hS (⟨⟨b, i, hb6, rfl, hi, rfl, by omega, rfl⟩, rfl⟩) (Nat.le_of_ble_eq_true rfl) (Nat.le_of_ble_eq_true rfl) dX2_left_10

set_option maxHeartbeats 4000000 in
set_option maxRecDepth 100000 in
theorem mX2_ahead (l : Launch) (hl9 : l.stackTraces = false) (D : va_G) (cT : Nat → ClassId) (n : Nat) (ad : Nat → Nat) (A : Nat → Prop) (hD : ∀ G, va_D A (gw n ad G)) (G : Nat → va_E) (σ : TY) (hY : YW cT ad G σ) (hn : 69 ≤ n) (hI : YI σ) (x y : Int32) : vx_Met l yX2_ahead (wA yX2_ahead cX2_ahead 3 (some .int)) ({ frames := 8, cells := 2, slots := 12, locals := 126 } : Room) (PG D cT n ad A G [.ref (ad 0), .int x, .int y]) (QG D n ad A (fun v G1 => onI σ x y (fun b i => v = some (.int (nI (ps (σ.2 b).2.2.2.2.2 i)))) ∧ G1 = G)) (XG D n ad A G (pxItem σ x y)) 2 12 A := by
  refine vx_ofG (cc := cX2_ahead) (maxL := 3) (ret := (some .int)) (by decide) (Nat.le_of_ble_eq_true rfl) ?_
  intro p e s m args below meth c Q hQ hX ht hx hb hr hml hlocks hown hw hP hK hE hA hS ls hl
  have hl : lv_has ls 3 [(0, .ref (ad 0)), (1, .int x), (2, .int y)] := hl
  obtain ⟨hy0, hy1, hy2⟩ := hY.1
  refine lv_aload_n hx hb dX2_ahead_0 rfl (lv_at hl 0 rfl) ?_
  refine lv_iload_n hx hb dX2_ahead_1 rfl (lv_at hl 1 rfl) ?_
  refine lv_iload_n hx hb dX2_ahead_2 rfl (lv_at hl 2 rfl) ?_
  refine g_callVX (As := [.int x, .int y]) (rest := []) ⟨hx, hb, hml, hown, hw⟩ (mX2_benchWithItem l hl9 D cT n ad A hD G σ hY hn hI x y) (cwV 2 hw (gWV wm_X2_90 wi_X2_benchWithItem wse_X2_benchWithItem wini_X2 wc_X2_benchWithItem) rfl rfl rfl (by decide +kernel) ⟨Nat.le_of_ble_eq_true rfl, Nat.le_of_ble_eq_true rfl⟩) hK hE hA hP hS (k := 0) (by omega) hy0 rfl rfl hl.1 (lv_room (Nat.le_of_ble_eq_true rfl)) dX2_ahead_3 ⟨Nat.le_of_ble_eq_true rfl, Nat.le_of_ble_eq_true rfl⟩ (fun E ce q9 H locs hpx hP hS hce hcv hcl => g_out hX ht hlocks hP hS (hpx) hce hcv hcl (Nat.le_of_ble_eq_true rfl) (Nat.le_of_ble_eq_true rfl)) (fun v_2 G_1 H locs hp hP hS => ?_)
  obtain ⟨⟨b, i, hb6, hxb, hi, hyi, hv⟩, hg⟩ := hp
  subst hv
  rw [hg] at hP
  subst hxb
  subst hyi
  have hbt := hY.2.2.1 b (by omega)
  have hit := (hI.2 b (by omega)).1
  have hib := (hI.2 b (by omega)).2
  have hcapb := BI_cap hit
  have hszb := hit.1
  obtain ⟨p0, w, nu, ne, en, ⟨hB, hB1, hB2, hB3, hB4, hB5, hB6, hB7, hB8⟩, hBL⟩ := id hbt
  obtain ⟨hb1, hb2, hb3⟩ := hBL.2 i hi
  have hi3 := hit.2.2.1 i hi
  have hq6 := hB6 i
  refine lv_iload_n hx hb dX2_ahead_6 rfl (lv_at hl 2 rfl) ?_
  refine g_callV (As := [.int (nI i)]) (rest := []) ⟨hx, hb, hml, hown, hw⟩ (mX0_placeOf l D cT n ad A hD G (33 + 6 * b) ((σ.2 b).1) ((σ.2 b).2.1) ((σ.2 b).2.2.1) ((σ.2 b).2.2.2.1) ((σ.2 b).2.2.2.2.1) ((σ.2 b).2.2.2.2.2) (by omega) hbt hit i (by omega)) (cwV 1 hw (gWV wm_X2_115 wi_X0_placeOf wse_X0_placeOf wini_X0 wc_X0_placeOf) rfl rfl rfl (by decide +kernel) ⟨Nat.le_of_ble_eq_true rfl, Nat.le_of_ble_eq_true rfl⟩) hK hE hA hP hS (k := (33 + 6 * b)) (by omega) hB rfl rfl hl.1 (lv_room (Nat.le_of_ble_eq_true rfl)) dX2_ahead_7 ⟨Nat.le_of_ble_eq_true rfl, Nat.le_of_ble_eq_true rfl⟩ (fun v_4 G_3 H locs hp hP hS => ?_)
  obtain ⟨hv, hg⟩ := hp
  subst hv
  rw [hg] at hP
  refine g_ret hQ hx hb hr hlocks rfl hP hS (⟨⟨b, i, hb6, rfl, hi, rfl, rfl⟩, rfl⟩) (Nat.le_of_ble_eq_true rfl) (Nat.le_of_ble_eq_true rfl) dX2_ahead_10

set_option maxHeartbeats 4000000 in
set_option maxRecDepth 100000 in
theorem mX2_isExact (l : Launch) (hl9 : l.stackTraces = false) (D : va_G) (cT : Nat → ClassId) (n : Nat) (ad : Nat → Nat) (A : Nat → Prop) (hD : ∀ G, va_D A (gw n ad G)) (G : Nat → va_E) (σ : TY) (hY : YW cT ad G σ) (hn : 69 ≤ n) (hI : YI σ) (x y : Int32) : vx_Met l yX2_isExact (wA yX2_isExact cX2_isExact 3 (some .boolean)) ({ frames := 9, cells := 3, slots := 18, locals := 149 } : Room) (PG D cT n ad A G [.ref (ad 0), .int x, .int y]) (QG D n ad A (fun v G1 => onI σ x y (fun b i => (σ.2 b).2.2.2.2.1 i = 112 ∧ v = some (.int (nI 1))) ∧ G1 = G)) (XG D n ad A G (pxIs σ x y (fun c => c ≠ 112))) 3 18 A := by
  refine vx_ofG (cc := cX2_isExact) (maxL := 3) (ret := (some .boolean)) (by decide) (Nat.le_of_ble_eq_true rfl) ?_
  intro p e s m args below meth c Q hQ hX ht hx hb hr hml hlocks hown hw hP hK hE hA hS ls hl
  have hl : lv_has ls 3 [(0, .ref (ad 0)), (1, .int x), (2, .int y)] := hl
  obtain ⟨hy0, hy1, hy2⟩ := hY.1
  refine lv_aload_n hx hb dX2_isExact_0 rfl (lv_at hl 0 rfl) ?_
  refine lv_iload_n hx hb dX2_isExact_1 rfl (lv_at hl 1 rfl) ?_
  refine lv_iload_n hx hb dX2_isExact_2 rfl (lv_at hl 2 rfl) ?_
  refine g_callVX (As := [.int x, .int y]) (rest := []) ⟨hx, hb, hml, hown, hw⟩ (mX2_benchWithPiece l hl9 D cT n ad A hD G σ hY hn hI x y) (cwV 2 hw (gWV wm_X2_118 wi_X2_benchWithPiece wse_X2_benchWithPiece wini_X2 wc_X2_benchWithPiece) rfl rfl rfl (by decide +kernel) ⟨Nat.le_of_ble_eq_true rfl, Nat.le_of_ble_eq_true rfl⟩) hK hE hA hP hS (k := 0) (by omega) hy0 rfl rfl hl.1 (lv_room (Nat.le_of_ble_eq_true rfl)) dX2_isExact_3 ⟨Nat.le_of_ble_eq_true rfl, Nat.le_of_ble_eq_true rfl⟩ (fun E ce q9 H locs hpx hP hS hce hcv hcl => g_out hX ht hlocks hP hS (hpx) hce hcv hcl (Nat.le_of_ble_eq_true rfl) (Nat.le_of_ble_eq_true rfl)) (fun v_2 G_1 H locs hp hP hS => ?_)
  obtain ⟨⟨b, i, hb6, hxb, hi, hyi, hKp, hv⟩, hg⟩ := hp
  subst hv
  rw [hg] at hP
  subst hxb
  subst hyi
  have hbt := hY.2.2.1 b (by omega)
  have hit := (hI.2 b (by omega)).1
  have hib := (hI.2 b (by omega)).2
  have hcapb := BI_cap hit
  have hszb := hit.1
  obtain ⟨p0, w, nu, ne, en, ⟨hB, hB1, hB2, hB3, hB4, hB5, hB6, hB7, hB8⟩, hBL⟩ := id hbt
  obtain ⟨hb1, hb2, hb3⟩ := hBL.2 i hi
  have hi3 := hit.2.2.1 i hi
  have hq6 := hB6 i
  refine lv_iload_n hx hb dX2_isExact_6 rfl (lv_at hl 2 rfl) ?_
  refine lv_bipush (v := nI 64) hx hb dX2_isExact_7 (by decide) ?_
  refine g_callV (As := [.int (nI i), .int (nI 64)]) (rest := []) ⟨hx, hb, hml, hown, hw⟩ (mX0_hasAll l D cT n ad A hD G (33 + 6 * b) ((σ.2 b).1) ((σ.2 b).2.1) ((σ.2 b).2.2.1) p0 w nu ne en (by omega) ⟨hB, hB1, hB2, hB3, hB4, hB5, hB6, hB7, hB8⟩ i 64 (by omega) (by omega) (by omega) (by decide)) (cwV 2 hw (gWV wm_X2_127 wi_X0_hasAll wse_X0_hasAll wini_X0 wc_X0_hasAll) rfl rfl rfl (by decide +kernel) ⟨Nat.le_of_ble_eq_true rfl, Nat.le_of_ble_eq_true rfl⟩) hK hE hA hP hS (k := (33 + 6 * b)) (by omega) hB rfl rfl hl.1 (lv_room (Nat.le_of_ble_eq_true rfl)) dX2_isExact_9 ⟨Nat.le_of_ble_eq_true rfl, Nat.le_of_ble_eq_true rfl⟩ (fun v_4 G_3 H locs hp hP hS => ?_)
  obtain ⟨hv, hg⟩ := hp
  subst hv
  rw [hg] at hP
  refine g_ret hQ hx hb hr hlocks (by split <;> rfl) hP hS (⟨⟨b, i, hb6, rfl, hi, rfl, by omega, by rw [if_pos (by omega)]; rfl⟩, rfl⟩) (Nat.le_of_ble_eq_true rfl) (Nat.le_of_ble_eq_true rfl) dX2_isExact_12

set_option maxHeartbeats 4000000 in
set_option maxRecDepth 100000 in
theorem mX2_split (l : Launch) (hl9 : l.stackTraces = false) (D : va_G) (cT : Nat → ClassId) (n : Nat) (ad : Nat → Nat) (A : Nat → Prop) (hD : ∀ G, va_D A (gw n ad G)) (G : Nat → va_E) (σ : TY) (hY : YW cT ad G σ) (hn : 69 ≤ n) (hI : YI σ) (x y : Int32) : vx_Met l yX2_split (wA yX2_split cX2_split 3 (some .int)) ({ frames := 9, cells := 3, slots := 18, locals := 149 } : Room) (PG D cT n ad A G [.ref (ad 0), .int x, .int y]) (QG D n ad A (fun v G1 => onI σ x y (fun b i => (σ.2 b).2.2.2.2.1 i = 112 ∧ (((σ.2 b).2.2.2.2.2 i < 2 ∧ v = some (.int (-1)) ∧ YW cT ad G1 σ) ∨ (2 ≤ (σ.2 b).2.2.2.2.2 i ∧ v = some (.int (nI ((σ.2 b).2.2.2.2.2 i / 2))) ∧ YW cT ad G1 (setB σ b (halfB (σ.2 b) i))))) ∧ ∀ j, 69 ≤ j → G1 j = G j)) (XG D n ad A G (pxIs σ x y (fun c => c ≠ 112))) 3 18 A := by
  refine vx_ofG (cc := cX2_split) (maxL := 3) (ret := (some .int)) (by decide) (Nat.le_of_ble_eq_true rfl) ?_
  intro p e s m args below meth c Q hQ hX ht hx hb hr hml hlocks hown hw hP hK hE hA hS ls hl
  have hl : lv_has ls 3 [(0, .ref (ad 0)), (1, .int x), (2, .int y)] := hl
  obtain ⟨hy0, hy1, hy2⟩ := hY.1
  refine lv_aload_n hx hb dX2_split_0 rfl (lv_at hl 0 rfl) ?_
  refine lv_iload_n hx hb dX2_split_1 rfl (lv_at hl 1 rfl) ?_
  refine lv_iload_n hx hb dX2_split_2 rfl (lv_at hl 2 rfl) ?_
  refine g_callVX (As := [.int x, .int y]) (rest := []) ⟨hx, hb, hml, hown, hw⟩ (mX2_benchWithPiece l hl9 D cT n ad A hD G σ hY hn hI x y) (cwV 2 hw (gWV wm_X2_118 wi_X2_benchWithPiece wse_X2_benchWithPiece wini_X2 wc_X2_benchWithPiece) rfl rfl rfl (by decide +kernel) ⟨Nat.le_of_ble_eq_true rfl, Nat.le_of_ble_eq_true rfl⟩) hK hE hA hP hS (k := 0) (by omega) hy0 rfl rfl hl.1 (lv_room (Nat.le_of_ble_eq_true rfl)) dX2_split_3 ⟨Nat.le_of_ble_eq_true rfl, Nat.le_of_ble_eq_true rfl⟩ (fun E ce q9 H locs hpx hP hS hce hcv hcl => g_out hX ht hlocks hP hS (hpx) hce hcv hcl (Nat.le_of_ble_eq_true rfl) (Nat.le_of_ble_eq_true rfl)) (fun v_2 G_1 H locs hp hP hS => ?_)
  obtain ⟨⟨b, i, hb6, hxb, hi, hyi, hKp, hv⟩, hg⟩ := hp
  subst hv
  rw [hg] at hP
  subst hxb
  subst hyi
  have hbt := hY.2.2.1 b (by omega)
  have hit := (hI.2 b (by omega)).1
  have hib := (hI.2 b (by omega)).2
  have hcapb := BI_cap hit
  have hszb := hit.1
  obtain ⟨p0, w, nu, ne, en, ⟨hB, hB1, hB2, hB3, hB4, hB5, hB6, hB7, hB8⟩, hBL⟩ := id hbt
  obtain ⟨hb1, hb2, hb3⟩ := hBL.2 i hi
  have hi3 := hit.2.2.1 i hi
  have hq6 := hB6 i
  refine lv_iload_n hx hb dX2_split_6 rfl (lv_at hl 2 rfl) ?_
  by_cases hL2 : (σ.2 b).2.2.2.2.2 i < 2
  · skip
    refine g_callV (As := [.int (nI i)]) (rest := []) ⟨hx, hb, hml, hown, hw⟩ (mX0_halveS l D cT n ad A hD G (33 + 6 * b) ((σ.2 b).1) ((σ.2 b).2.1) ((σ.2 b).2.2.1) ((σ.2 b).2.2.2.1) ((σ.2 b).2.2.2.2.1) ((σ.2 b).2.2.2.2.2) (by omega) hbt hit i (by omega) (by omega) (by omega)) (cwV 1 hw (gWV wm_X2_131 wi_X0_halve wse_X0_halve wini_X0 wc_X0_halve) rfl rfl rfl (by decide +kernel) ⟨Nat.le_of_ble_eq_true rfl, Nat.le_of_ble_eq_true rfl⟩) hK hE hA hP hS (k := (33 + 6 * b)) (by omega) hB rfl rfl hl.1 (lv_room (Nat.le_of_ble_eq_true rfl)) dX2_split_7 ⟨Nat.le_of_ble_eq_true rfl, Nat.le_of_ble_eq_true rfl⟩ (fun v_4 G_3 H locs hp hP hS => ?_)
    obtain ⟨hv, hg⟩ := hp
    subst hv
    rw [hg] at hP
    refine g_ret hQ hx hb hr hlocks rfl hP hS (⟨⟨b, i, hb6, rfl, hi, rfl, hKp, Or.inl ⟨hL2, rfl, hY⟩⟩, fun _ _ => rfl⟩) (Nat.le_of_ble_eq_true rfl) (Nat.le_of_ble_eq_true rfl) dX2_split_10
  · skip
    refine g_callV (As := [.int (nI i)]) (rest := []) ⟨hx, hb, hml, hown, hw⟩ (mX0_halve l D cT n ad A hD G (33 + 6 * b) ((σ.2 b).1) ((σ.2 b).2.1) ((σ.2 b).2.2.1) ((σ.2 b).2.2.2.1) ((σ.2 b).2.2.2.2.1) ((σ.2 b).2.2.2.2.2) (by omega) hbt hit i hi hKp (by omega)) (cwV 1 hw (gWV wm_X2_131 wi_X0_halve wse_X0_halve wini_X0 wc_X0_halve) rfl rfl rfl (by decide +kernel) ⟨Nat.le_of_ble_eq_true rfl, Nat.le_of_ble_eq_true rfl⟩) hK hE hA hP hS (k := (33 + 6 * b)) (by omega) hB rfl rfl hl.1 (lv_room (Nat.le_of_ble_eq_true rfl)) dX2_split_7 ⟨Nat.le_of_ble_eq_true rfl, Nat.le_of_ble_eq_true rfl⟩ (fun v_6 G_5 H locs hp hP hS => ?_)
    obtain ⟨hv, hf_7, hr_8⟩ := hp
    subst hv
    have hc_9 : G_5 0 = .inr (4, [.ref (ad 1), .ref (ad 2), .ref (ad 3)]) := (hf_7 _ (by omega)).trans hy0
    have hc_10 : G_5 1 = aQ (cT 5) 12 (rQ ad) := (hf_7 _ (by omega)).trans hy1
    have hc_11 : G_5 2 = aQ (cT 6) 6 (bQ ad) := (hf_7 _ (by omega)).trans hy2
    refine g_ret hQ hx hb hr hlocks rfl hP hS (⟨⟨b, i, hb6, rfl, hi, rfl, hKp, Or.inr ⟨by omega, rfl, YW.bench hY hb6 hf_7 hr_8⟩⟩, fun j hj => hf_7 j (by omega)⟩) (Nat.le_of_ble_eq_true rfl) (Nat.le_of_ble_eq_true rfl) dX2_split_10

set_option maxHeartbeats 4000000 in
set_option maxRecDepth 100000 in
theorem mX2_step (l : Launch) (hl9 : l.stackTraces = false) (D : va_G) (cT : Nat → ClassId) (n : Nat) (ad : Nat → Nat) (A : Nat → Prop) (hD : ∀ G, va_D A (gw n ad G)) (G : Nat → va_E) (σ : TY) (hY : YW cT ad G σ) (hn : 69 ≤ n) (hI : YI σ) (x y : Int32) : vx_Met l yX2_step (wA yX2_step cX2_step 3 (some .boolean)) ({ frames := 9, cells := 3, slots := 18, locals := 149 } : Room) (PG D cT n ad A G [.ref (ad 0), .int x, .int y]) (QG D n ad A (fun v G1 => onI σ x y (fun b i => (σ.2 b).2.2.2.2.1 i ≠ 110 ∧ v = some (.int (nI (min 1 ((σ.2 b).2.2.2.2.2 i)))) ∧ YW cT ad G1 (setB σ b (giveB (σ.2 b) i (min 1 ((σ.2 b).2.2.2.2.2 i))))) ∧ ∀ j, 69 ≤ j → G1 j = G j)) (XG D n ad A G (pxIs σ x y (fun c => c = 110))) 3 18 A := by
  refine vx_ofG (cc := cX2_step) (maxL := 3) (ret := (some .boolean)) (by decide) (Nat.le_of_ble_eq_true rfl) ?_
  intro p e s m args below meth c Q hQ hX ht hx hb hr hml hlocks hown hw hP hK hE hA hS ls hl
  have hl : lv_has ls 3 [(0, .ref (ad 0)), (1, .int x), (2, .int y)] := hl
  obtain ⟨hy0, hy1, hy2⟩ := hY.1
  refine lv_aload_n hx hb dX2_step_0 rfl (lv_at hl 0 rfl) ?_
  refine lv_iload_n hx hb dX2_step_1 rfl (lv_at hl 1 rfl) ?_
  refine lv_iload_n hx hb dX2_step_2 rfl (lv_at hl 2 rfl) ?_
  refine g_callVX (As := [.int x, .int y]) (rest := []) ⟨hx, hb, hml, hown, hw⟩ (mX2_benchWithAnyPiece l hl9 D cT n ad A hD G σ hY hn hI x y) (cwV 2 hw (gWV wm_X2_108 wi_X2_benchWithAnyPiece wse_X2_benchWithAnyPiece wini_X2 wc_X2_benchWithAnyPiece) rfl rfl rfl (by decide +kernel) ⟨Nat.le_of_ble_eq_true rfl, Nat.le_of_ble_eq_true rfl⟩) hK hE hA hP hS (k := 0) (by omega) hy0 rfl rfl hl.1 (lv_room (Nat.le_of_ble_eq_true rfl)) dX2_step_3 ⟨Nat.le_of_ble_eq_true rfl, Nat.le_of_ble_eq_true rfl⟩ (fun E ce q9 H locs hpx hP hS hce hcv hcl => g_out hX ht hlocks hP hS (hpx) hce hcv hcl (Nat.le_of_ble_eq_true rfl) (Nat.le_of_ble_eq_true rfl)) (fun v_2 G_1 H locs hp hP hS => ?_)
  obtain ⟨⟨b, i, hb6, hxb, hi, hyi, hKp, hv⟩, hg⟩ := hp
  subst hv
  rw [hg] at hP
  subst hxb
  subst hyi
  have hbt := hY.2.2.1 b (by omega)
  have hit := (hI.2 b (by omega)).1
  have hib := (hI.2 b (by omega)).2
  have hcapb := BI_cap hit
  have hszb := hit.1
  obtain ⟨p0, w, nu, ne, en, ⟨hB, hB1, hB2, hB3, hB4, hB5, hB6, hB7, hB8⟩, hBL⟩ := id hbt
  obtain ⟨hb1, hb2, hb3⟩ := hBL.2 i hi
  have hi3 := hit.2.2.1 i hi
  have hq6 := hB6 i
  refine lv_iload_n hx hb dX2_step_6 rfl (lv_at hl 2 rfl) ?_
  refine lv_iconst (v := nI 1) hx hb dX2_step_7 (by decide) ?_
  by_cases hL0 : (σ.2 b).2.2.2.2.2 i = 0
  · skip
    refine g_callV (As := [.int (nI i), .int (nI 1)]) (rest := []) ⟨hx, hb, hml, hown, hw⟩ (mX0_giveS l D cT n ad A hD G (33 + 6 * b) ((σ.2 b).1) ((σ.2 b).2.1) ((σ.2 b).2.2.1) ((σ.2 b).2.2.2.1) ((σ.2 b).2.2.2.2.1) ((σ.2 b).2.2.2.2.2) (by omega) hbt hit i 1 (by omega) (by omega) (by omega) (by omega)) (cwV 2 hw (gWV wm_X2_134 wi_X0_give wse_X0_give wini_X0 wc_X0_give) rfl rfl rfl (by decide +kernel) ⟨Nat.le_of_ble_eq_true rfl, Nat.le_of_ble_eq_true rfl⟩) hK hE hA hP hS (k := (33 + 6 * b)) (by omega) hB rfl rfl hl.1 (lv_room (Nat.le_of_ble_eq_true rfl)) dX2_step_8 ⟨Nat.le_of_ble_eq_true rfl, Nat.le_of_ble_eq_true rfl⟩ (fun v_4 G_3 H locs hp hP hS => ?_)
    obtain ⟨hv, hg⟩ := hp
    subst hv
    rw [hg] at hP
    refine lv_iconst (v := nI 1) hx hb dX2_step_11 (by decide) ?_
    refine t_icmp_ne (tgt := 19) hx hb dX2_step_12 (by decide) (by omega) (by omega) (fun c_5 => ?_) (fun c_5 => absurd c_5 (by omega))
    refine lv_iconst (v := nI 0) hx hb dX2_step_19 (by decide) ?_
    refine g_ret hQ hx hb hr hlocks rfl hP hS (⟨⟨b, i, hb6, rfl, hi, rfl, hKp, by rw [hL0]; rfl, by rw [hL0]; rw [show min 1 0 = 0 from rfl, giveB_0, setB_same]; exact hY⟩, fun _ _ => rfl⟩) (Nat.le_of_ble_eq_true rfl) (Nat.le_of_ble_eq_true rfl) dX2_step_20
  · skip
    refine g_callV (As := [.int (nI i), .int (nI 1)]) (rest := []) ⟨hx, hb, hml, hown, hw⟩ (mX0_give l D cT n ad A hD G (33 + 6 * b) ((σ.2 b).1) ((σ.2 b).2.1) ((σ.2 b).2.2.1) ((σ.2 b).2.2.2.1) ((σ.2 b).2.2.2.2.1) ((σ.2 b).2.2.2.2.2) (by omega) hbt hit i 1 1 (by omega) (by omega) (by omega) (by omega) (by omega) (by omega)) (cwV 2 hw (gWV wm_X2_134 wi_X0_give wse_X0_give wini_X0 wc_X0_give) rfl rfl rfl (by decide +kernel) ⟨Nat.le_of_ble_eq_true rfl, Nat.le_of_ble_eq_true rfl⟩) hK hE hA hP hS (k := (33 + 6 * b)) (by omega) hB rfl rfl hl.1 (lv_room (Nat.le_of_ble_eq_true rfl)) dX2_step_8 ⟨Nat.le_of_ble_eq_true rfl, Nat.le_of_ble_eq_true rfl⟩ (fun v_7 G_6 H locs hp hP hS => ?_)
    obtain ⟨hv, hf_8, hr_9⟩ := hp
    subst hv
    have hc_10 : G_6 0 = .inr (4, [.ref (ad 1), .ref (ad 2), .ref (ad 3)]) := (hf_8 _ (by omega)).trans hy0
    have hc_11 : G_6 1 = aQ (cT 5) 12 (rQ ad) := (hf_8 _ (by omega)).trans hy1
    have hc_12 : G_6 2 = aQ (cT 6) 6 (bQ ad) := (hf_8 _ (by omega)).trans hy2
    refine lv_iconst (v := nI 1) hx hb dX2_step_11 (by decide) ?_
    refine t_icmp_ne (tgt := 19) hx hb dX2_step_12 (by decide) (by omega) (by omega) (fun c_13 => absurd c_13 (by omega)) (fun c_13 => ?_)
    refine lv_iconst (v := nI 1) hx hb dX2_step_15 (by decide) ?_
    refine lv_goto (tgt := 20) hx hb dX2_step_16 (by decide) ?_
    refine g_ret hQ hx hb hr hlocks rfl hP hS (⟨⟨b, i, hb6, rfl, hi, rfl, hKp, by rw [show min 1 ((σ.2 b).2.2.2.2.2 i) = 1 by omega], by rw [show min 1 ((σ.2 b).2.2.2.2.2 i) = 1 by omega]; exact YW.bench hY hb6 hf_8 hr_9⟩, fun j hj => hf_8 j (by omega)⟩) (Nat.le_of_ble_eq_true rfl) (Nat.le_of_ble_eq_true rfl) dX2_step_20

set_option maxHeartbeats 4000000 in
set_option maxRecDepth 100000 in
theorem mX2_drain (l : Launch) (hl9 : l.stackTraces = false) (D : va_G) (cT : Nat → ClassId) (n : Nat) (ad : Nat → Nat) (A : Nat → Prop) (hD : ∀ G, va_D A (gw n ad G)) (G : Nat → va_E) (σ : TY) (hY : YW cT ad G σ) (hn : 69 ≤ n) (hI : YI σ) (x y : Int32) : vx_Met l yX2_drain (wA yX2_drain cX2_drain 3 (some .int)) ({ frames := 9, cells := 3, slots := 18, locals := 149 } : Room) (PG D cT n ad A G [.ref (ad 0), .int x, .int y]) (QG D n ad A (fun v G1 => onI σ x y (fun b i => (σ.2 b).2.2.2.2.1 i ≠ 110 ∧ v = some (.int (nI (min 48 ((σ.2 b).2.2.2.2.2 i)))) ∧ YW cT ad G1 (setB σ b (giveB (σ.2 b) i (min 48 ((σ.2 b).2.2.2.2.2 i))))) ∧ ∀ j, 69 ≤ j → G1 j = G j)) (XG D n ad A G (pxIs σ x y (fun c => c = 110))) 3 18 A := by
  refine vx_ofG (cc := cX2_drain) (maxL := 3) (ret := (some .int)) (by decide) (Nat.le_of_ble_eq_true rfl) ?_
  intro p e s m args below meth c Q hQ hX ht hx hb hr hml hlocks hown hw hP hK hE hA hS ls hl
  have hl : lv_has ls 3 [(0, .ref (ad 0)), (1, .int x), (2, .int y)] := hl
  obtain ⟨hy0, hy1, hy2⟩ := hY.1
  refine lv_aload_n hx hb dX2_drain_0 rfl (lv_at hl 0 rfl) ?_
  refine lv_iload_n hx hb dX2_drain_1 rfl (lv_at hl 1 rfl) ?_
  refine lv_iload_n hx hb dX2_drain_2 rfl (lv_at hl 2 rfl) ?_
  refine g_callVX (As := [.int x, .int y]) (rest := []) ⟨hx, hb, hml, hown, hw⟩ (mX2_benchWithAnyPiece l hl9 D cT n ad A hD G σ hY hn hI x y) (cwV 2 hw (gWV wm_X2_108 wi_X2_benchWithAnyPiece wse_X2_benchWithAnyPiece wini_X2 wc_X2_benchWithAnyPiece) rfl rfl rfl (by decide +kernel) ⟨Nat.le_of_ble_eq_true rfl, Nat.le_of_ble_eq_true rfl⟩) hK hE hA hP hS (k := 0) (by omega) hy0 rfl rfl hl.1 (lv_room (Nat.le_of_ble_eq_true rfl)) dX2_drain_3 ⟨Nat.le_of_ble_eq_true rfl, Nat.le_of_ble_eq_true rfl⟩ (fun E ce q9 H locs hpx hP hS hce hcv hcl => g_out hX ht hlocks hP hS (hpx) hce hcv hcl (Nat.le_of_ble_eq_true rfl) (Nat.le_of_ble_eq_true rfl)) (fun v_2 G_1 H locs hp hP hS => ?_)
  obtain ⟨⟨b, i, hb6, hxb, hi, hyi, hKp, hv⟩, hg⟩ := hp
  subst hv
  rw [hg] at hP
  subst hxb
  subst hyi
  have hbt := hY.2.2.1 b (by omega)
  have hit := (hI.2 b (by omega)).1
  have hib := (hI.2 b (by omega)).2
  have hcapb := BI_cap hit
  have hszb := hit.1
  obtain ⟨p0, w, nu, ne, en, ⟨hB, hB1, hB2, hB3, hB4, hB5, hB6, hB7, hB8⟩, hBL⟩ := id hbt
  obtain ⟨hb1, hb2, hb3⟩ := hBL.2 i hi
  have hi3 := hit.2.2.1 i hi
  have hq6 := hB6 i
  refine lv_iload_n hx hb dX2_drain_6 rfl (lv_at hl 2 rfl) ?_
  refine lv_bipush (v := nI 48) hx hb dX2_drain_7 (by decide) ?_
  by_cases hL0 : (σ.2 b).2.2.2.2.2 i = 0
  · skip
    refine g_callV (As := [.int (nI i), .int (nI 48)]) (rest := []) ⟨hx, hb, hml, hown, hw⟩ (mX0_giveS l D cT n ad A hD G (33 + 6 * b) ((σ.2 b).1) ((σ.2 b).2.1) ((σ.2 b).2.2.1) ((σ.2 b).2.2.2.1) ((σ.2 b).2.2.2.2.1) ((σ.2 b).2.2.2.2.2) (by omega) hbt hit i 48 (by omega) (by omega) (by omega) (by omega)) (cwV 2 hw (gWV wm_X2_134 wi_X0_give wse_X0_give wini_X0 wc_X0_give) rfl rfl rfl (by decide +kernel) ⟨Nat.le_of_ble_eq_true rfl, Nat.le_of_ble_eq_true rfl⟩) hK hE hA hP hS (k := (33 + 6 * b)) (by omega) hB rfl rfl hl.1 (lv_room (Nat.le_of_ble_eq_true rfl)) dX2_drain_9 ⟨Nat.le_of_ble_eq_true rfl, Nat.le_of_ble_eq_true rfl⟩ (fun v_4 G_3 H locs hp hP hS => ?_)
    obtain ⟨hv, hg⟩ := hp
    subst hv
    rw [hg] at hP
    refine g_ret hQ hx hb hr hlocks rfl hP hS (⟨⟨b, i, hb6, rfl, hi, rfl, hKp, by rw [hL0]; rfl, by rw [hL0]; rw [show min 48 0 = 0 from rfl, giveB_0, setB_same]; exact hY⟩, fun _ _ => rfl⟩) (Nat.le_of_ble_eq_true rfl) (Nat.le_of_ble_eq_true rfl) dX2_drain_12
  · skip
    have hls := ps_step (σ.2 b).2.2.2.2.2 hi
    have hpz := hit.2.1
    refine g_callV (As := [.int (nI i), .int (nI 48)]) (rest := []) ⟨hx, hb, hml, hown, hw⟩ (mX0_give l D cT n ad A hD G (33 + 6 * b) ((σ.2 b).1) ((σ.2 b).2.1) ((σ.2 b).2.2.1) ((σ.2 b).2.2.2.1) ((σ.2 b).2.2.2.2.1) ((σ.2 b).2.2.2.2.2) (by omega) hbt hit i 48 ((σ.2 b).2.2.2.2.2 i) (by omega) (by omega) (by omega) (by omega) (by omega) (by omega)) (cwV 2 hw (gWV wm_X2_134 wi_X0_give wse_X0_give wini_X0 wc_X0_give) rfl rfl rfl (by decide +kernel) ⟨Nat.le_of_ble_eq_true rfl, Nat.le_of_ble_eq_true rfl⟩) hK hE hA hP hS (k := (33 + 6 * b)) (by omega) hB rfl rfl hl.1 (lv_room (Nat.le_of_ble_eq_true rfl)) dX2_drain_9 ⟨Nat.le_of_ble_eq_true rfl, Nat.le_of_ble_eq_true rfl⟩ (fun v_6 G_5 H locs hp hP hS => ?_)
    obtain ⟨hv, hf_7, hr_8⟩ := hp
    subst hv
    have hc_9 : G_5 0 = .inr (4, [.ref (ad 1), .ref (ad 2), .ref (ad 3)]) := (hf_7 _ (by omega)).trans hy0
    have hc_10 : G_5 1 = aQ (cT 5) 12 (rQ ad) := (hf_7 _ (by omega)).trans hy1
    have hc_11 : G_5 2 = aQ (cT 6) 6 (bQ ad) := (hf_7 _ (by omega)).trans hy2
    refine g_ret hQ hx hb hr hlocks rfl hP hS (⟨⟨b, i, hb6, rfl, hi, rfl, hKp, by rw [show min 48 ((σ.2 b).2.2.2.2.2 i) = (σ.2 b).2.2.2.2.2 i by omega], by rw [show min 48 ((σ.2 b).2.2.2.2.2 i) = (σ.2 b).2.2.2.2.2 i by omega]; exact YW.bench hY hb6 hf_7 hr_8⟩, fun j hj => hf_7 j (by omega)⟩) (Nat.le_of_ble_eq_true rfl) (Nat.le_of_ble_eq_true rfl) dX2_drain_12

set_option maxHeartbeats 4000000 in
set_option maxRecDepth 100000 in
theorem mX2_iterate (l : Launch) (hl9 : l.stackTraces = false) (D : va_G) (cT : Nat → ClassId) (n : Nat) (ad : Nat → Nat) (A : Nat → Prop) (hD : ∀ G, va_D A (gw n ad G)) (G : Nat → va_E) (σ : TY) (hY : YW cT ad G σ) (hn : 69 ≤ n) (hI : YI σ) (x y : Int32) : vx_Met l yX2_iterate (wA yX2_iterate cX2_iterate 4 (some .int)) ({ frames := 9, cells := 4, slots := 24, locals := 149 } : Room) (PG D cT n ad A G [.ref (ad 0), .int x, .int y]) (QG D n ad A (fun v G1 => onI σ x y (fun b i => (σ.2 b).2.2.2.2.1 i = 112 ∧ (σ.2 b).2.2.1 = 0 ∧ v = some (.int (nI ((σ.2 b).2.2.2.2.2 i))) ∧ YW cT ad G1 (setB σ b (iterB (σ.2 b) i))) ∧ ∀ j, 69 ≤ j → G1 j = G j)) (XG D n ad A G (fun E => pxIs σ x y (fun c => c ≠ 112) E ∨ onI σ x y (fun b i => (σ.2 b).2.2.2.2.1 i = 112 ∧ 0 < (σ.2 b).2.2.1 ∧ E = xUO))) 4 24 A := by
  refine vx_ofG (cc := cX2_iterate) (maxL := 4) (ret := (some .int)) (by decide) (Nat.le_of_ble_eq_true rfl) ?_
  intro p e s m args below meth c Q hQ hX ht hx hb hr hml hlocks hown hw hP hK hE hA hS ls hl
  have hl : lv_has ls 4 [(0, .ref (ad 0)), (1, .int x), (2, .int y)] := hl
  obtain ⟨hy0, hy1, hy2⟩ := hY.1
  refine lv_aload_n hx hb dX2_iterate_0 rfl (lv_at hl 0 rfl) ?_
  refine lv_iload_n hx hb dX2_iterate_1 rfl (lv_at hl 1 rfl) ?_
  refine lv_iload_n hx hb dX2_iterate_2 rfl (lv_at hl 2 rfl) ?_
  refine g_callVX (As := [.int x, .int y]) (rest := []) ⟨hx, hb, hml, hown, hw⟩ (mX2_benchWithPiece l hl9 D cT n ad A hD G σ hY hn hI x y) (cwV 2 hw (gWV wm_X2_118 wi_X2_benchWithPiece wse_X2_benchWithPiece wini_X2 wc_X2_benchWithPiece) rfl rfl rfl (by decide +kernel) ⟨Nat.le_of_ble_eq_true rfl, Nat.le_of_ble_eq_true rfl⟩) hK hE hA hP hS (k := 0) (by omega) hy0 rfl rfl hl.1 (lv_room (Nat.le_of_ble_eq_true rfl)) dX2_iterate_3 ⟨Nat.le_of_ble_eq_true rfl, Nat.le_of_ble_eq_true rfl⟩ (fun E ce q9 H locs hpx hP hS hce hcv hcl => g_out hX ht hlocks hP hS (Or.inl hpx) hce hcv hcl (Nat.le_of_ble_eq_true rfl) (Nat.le_of_ble_eq_true rfl)) (fun v_2 G_1 H locs hp hP hS => ?_)
  obtain ⟨⟨b, i, hb6, hxb, hi, hyi, hKp, hv⟩, hg⟩ := hp
  subst hv
  rw [hg] at hP
  subst hxb
  subst hyi
  have hbt := hY.2.2.1 b (by omega)
  have hit := (hI.2 b (by omega)).1
  have hib := (hI.2 b (by omega)).2
  have hcapb := BI_cap hit
  have hszb := hit.1
  obtain ⟨p0, w, nu, ne, en, ⟨hB, hB1, hB2, hB3, hB4, hB5, hB6, hB7, hB8⟩, hBL⟩ := id hbt
  obtain ⟨hb1, hb2, hb3⟩ := hBL.2 i hi
  have hi3 := hit.2.2.1 i hi
  have hq6 := hB6 i
  refine lv_astore_n (lv' := [(3, .ref (ad (33 + 6 * b))), (0, .ref (ad 0)), (1, .int (nI b)), (2, .int (nI i))]) hx hb dX2_iterate_6 rfl hl (by decide) rfl (fun ls hl => ?_)
  refine lv_aload_n hx hb dX2_iterate_7 rfl (lv_at hl 0 rfl) ?_
  refine g_getN (C := RX0) (T := TX0) (N := 8) hx hb hw inX0 hown hK hP (i := (33 + 6 * b)) (by omega) hB rfl 2 (by decide) (hE.2.2.1 (138, "Splityard$Bench", "ofInteger", "Z") (by decide +kernel)) rfl dX2_iterate_8 ?_
  refine t_if_eq (tgt := 24) hx hb dX2_iterate_11 (by decide) (by omega) (fun c_3 => ?_) (fun c_3 => ?_)
  · skip
    refine lv_aload_n hx hb dX2_iterate_24 rfl (lv_at hl 0 rfl) ?_
    refine g_getN (C := RX0) (T := TX0) (N := 8) hx hb hw inX0 hown hK hP (i := (33 + 6 * b)) (by omega) hB rfl 3 (by decide) (hE.2.2.1 (94, "Splityard$Bench", "whats", "[I") (by decide +kernel)) rfl dX2_iterate_25 ?_
    refine lv_iload_n hx hb dX2_iterate_28 rfl (lv_at hl 3 rfl) ?_
    refine lv_bipush (v := nI 116) hx hb dX2_iterate_29 (by decide) ?_
    have hbd_5 := up_lt hB6 (i := i) (v := 116) (by omega)
    refine g_iast hx hb hK hP hD hS (i := (33 + 6 * b + 2)) (by omega) hB2 (by omega) (by omega) dX2_iterate_31 (fun G_4 H locs hg_G_4 ho_G_4 hP hS => ?_)
    have hc_6 : G_4 (33 + 6 * b) = .inr (2, [.ref (ad (33 + 6 * b + 1)), .int (nI ((σ.2 b).1)), .int (nI ((σ.2 b).2.2.1)), .ref (ad (33 + 6 * b + 2)), .ref (ad (33 + 6 * b + 3)), .ref (ad (33 + 6 * b + 4)), .ref (ad (33 + 6 * b + 5)), .int (nI ((σ.2 b).2.1))]) := (ho_G_4 _ (by omega)).trans hB
    have hc_7 : G_4 (33 + 6 * b + 1) = aJ cT 48 p0 := (ho_G_4 _ (by omega)).trans hB1
    have hc_8 : G_4 (33 + 6 * b + 2) = aI cT 96 (va_up w i 116) := hg_G_4
    have hc_9 : G_4 (33 + 6 * b + 3) = aJ cT 96 nu := (ho_G_4 _ (by omega)).trans hB3
    have hc_10 : G_4 (33 + 6 * b + 4) = aI cT 96 ne := (ho_G_4 _ (by omega)).trans hB4
    have hc_11 : G_4 (33 + 6 * b + 5) = aI cT 96 en := (ho_G_4 _ (by omega)).trans hB5
    have hfr_12 : ∀ j, (j < 33 + 6 * b ∨ 33 + 6 * b + 6 ≤ j) → G_4 j = G j := fun j hj => (ho_G_4 j (by omega)).trans (rfl)
    refine lv_aload_n hx hb dX2_iterate_32 rfl (lv_at hl 0 rfl) ?_
    refine lv_iload_n hx hb dX2_iterate_33 rfl (lv_at hl 3 rfl) ?_
    have hbd_13 := hB8 i
    refine g_callV (As := [.int (nI i)]) (rest := []) ⟨hx, hb, hml, hown, hw⟩ (mX0_remaining l D cT n ad A hD G_4 (33 + 6 * b) ((σ.2 b).1) ((σ.2 b).2.1) ((σ.2 b).2.2.1) p0 (va_up w i 116) nu ne en (by omega) ⟨hc_6, hc_7, hc_8, hc_9, hc_10, hc_11, hbd_5, hB7, hB8⟩ i (by omega) (by exact fun _ => by omega)) (cwV 1 hw (gWV wm_X2_111 wi_X0_remaining wse_X0_remaining wini_X0 wc_X0_remaining) rfl rfl rfl (by decide +kernel) ⟨Nat.le_of_ble_eq_true rfl, Nat.le_of_ble_eq_true rfl⟩) hK hE hA hP hS (k := (33 + 6 * b)) (by omega) hc_6 rfl rfl hl.1 (lv_room (Nat.le_of_ble_eq_true rfl)) dX2_iterate_34 ⟨Nat.le_of_ble_eq_true rfl, Nat.le_of_ble_eq_true rfl⟩ (fun v_15 G_14 H locs hp hP hS => ?_)
    obtain ⟨hv, hg⟩ := hp
    subst hv
    rw [hg] at hP
    refine t_eqi (nI ((σ.2 b).2.2.2.2.2 i)) (congrArg nI (by rw [if_neg (by rw [va_up_self]; decide)]; omega)) ?_
    refine g_ret hQ hx hb hr hlocks rfl hP hS (⟨⟨b, i, hb6, rfl, hi, rfl, hKp, by omega, rfl, YW.bench hY hb6 (fun j hj => hfr_12 j (by omega)) ⟨p0, _, nu, ne, en, ⟨hc_6, hc_7, hc_8, hc_9, hc_10, hc_11, hbd_5, hB7, hB8⟩, BL_iter hBL hi hKp⟩⟩, fun j hj => hfr_12 j (by omega)⟩) (Nat.le_of_ble_eq_true rfl) (Nat.le_of_ble_eq_true rfl) dX2_iterate_37
  · skip
    refine g_throwS (text := "no iterator over a piece of a row of Integer") hX ht hx hb hl9 hown hlocks hw hE hP hS (hl.1.trans hml.symm) (by decide +kernel) (by decide +kernel) at_UO wcl_X2_142 wini_java_lang_UnsupportedOperationException (by decide +kernel) (Or.inr ⟨b, i, hb6, rfl, hi, rfl, hKp, by omega, rfl⟩) dX2_iterate_14 dX2_iterate_17 dX2_iterate_18 dX2_iterate_20 dX2_iterate_23 (Nat.le_of_ble_eq_true rfl) (Nat.le_of_ble_eq_true rfl) (Nat.le_of_ble_eq_true rfl) (Nat.le_of_ble_eq_true rfl) (Nat.le_of_ble_eq_true rfl) (Nat.le_of_ble_eq_true rfl)

set_option maxHeartbeats 4000000 in
set_option maxRecDepth 100000 in
theorem mX2_hasNext (l : Launch) (hl9 : l.stackTraces = false) (D : va_G) (cT : Nat → ClassId) (n : Nat) (ad : Nat → Nat) (A : Nat → Prop) (hD : ∀ G, va_D A (gw n ad G)) (G : Nat → va_E) (σ : TY) (hY : YW cT ad G σ) (hn : 69 ≤ n) (hI : YI σ) (x y : Int32) : vx_Met l yX2_hasNext (wA yX2_hasNext cX2_hasNext 4 (some .boolean)) ({ frames := 8, cells := 3, slots := 18, locals := 126 } : Room) (PG D cT n ad A G [.ref (ad 0), .int x, .int y]) (QG D n ad A (fun v G1 => onI σ x y (fun b i => (σ.2 b).2.2.2.2.1 i = 116 ∧ v = some (.int (if 0 < (σ.2 b).2.2.2.2.2 i then 1 else 0))) ∧ G1 = G)) (XG D n ad A G (pxIs σ x y (fun c => c ≠ 116))) 3 18 A := by
  refine vx_ofG (cc := cX2_hasNext) (maxL := 4) (ret := (some .boolean)) (by decide) (Nat.le_of_ble_eq_true rfl) ?_
  intro p e s m args below meth c Q hQ hX ht hx hb hr hml hlocks hown hw hP hK hE hA hS ls hl
  have hl : lv_has ls 4 [(0, .ref (ad 0)), (1, .int x), (2, .int y)] := hl
  obtain ⟨hy0, hy1, hy2⟩ := hY.1
  refine lv_aload_n hx hb dX2_hasNext_0 rfl (lv_at hl 0 rfl) ?_
  refine lv_iload_n hx hb dX2_hasNext_1 rfl (lv_at hl 1 rfl) ?_
  refine lv_iload_n hx hb dX2_hasNext_2 rfl (lv_at hl 2 rfl) ?_
  refine g_callVX (As := [.int x, .int y]) (rest := []) ⟨hx, hb, hml, hown, hw⟩ (mX2_benchWithItem l hl9 D cT n ad A hD G σ hY hn hI x y) (cwV 2 hw (gWV wm_X2_90 wi_X2_benchWithItem wse_X2_benchWithItem wini_X2 wc_X2_benchWithItem) rfl rfl rfl (by decide +kernel) ⟨Nat.le_of_ble_eq_true rfl, Nat.le_of_ble_eq_true rfl⟩) hK hE hA hP hS (k := 0) (by omega) hy0 rfl rfl hl.1 (lv_room (Nat.le_of_ble_eq_true rfl)) dX2_hasNext_3 ⟨Nat.le_of_ble_eq_true rfl, Nat.le_of_ble_eq_true rfl⟩ (fun E ce q9 H locs hpx hP hS hce hcv hcl => g_out hX ht hlocks hP hS (Or.inl hpx) hce hcv hcl (Nat.le_of_ble_eq_true rfl) (Nat.le_of_ble_eq_true rfl)) (fun v_2 G_1 H locs hp hP hS => ?_)
  obtain ⟨⟨b, i, hb6, hxb, hi, hyi, hv⟩, hg⟩ := hp
  subst hv
  rw [hg] at hP
  subst hxb
  subst hyi
  have hbt := hY.2.2.1 b (by omega)
  have hit := (hI.2 b (by omega)).1
  have hib := (hI.2 b (by omega)).2
  have hcapb := BI_cap hit
  have hszb := hit.1
  obtain ⟨p0, w, nu, ne, en, ⟨hB, hB1, hB2, hB3, hB4, hB5, hB6, hB7, hB8⟩, hBL⟩ := id hbt
  obtain ⟨hb1, hb2, hb3⟩ := hBL.2 i hi
  have hi3 := hit.2.2.1 i hi
  have hq6 := hB6 i
  refine lv_astore_n (lv' := [(3, .ref (ad (33 + 6 * b))), (0, .ref (ad 0)), (1, .int (nI b)), (2, .int (nI i))]) hx hb dX2_hasNext_6 rfl hl (by decide) rfl (fun ls hl => ?_)
  refine lv_aload_n hx hb dX2_hasNext_7 rfl (lv_at hl 0 rfl) ?_
  refine g_getN (C := RX0) (T := TX0) (N := 8) hx hb hw inX0 hown hK hP (i := (33 + 6 * b)) (by omega) hB rfl 3 (by decide) (hE.2.2.1 (94, "Splityard$Bench", "whats", "[I") (by decide +kernel)) rfl dX2_hasNext_8 ?_
  refine lv_iload_n hx hb dX2_hasNext_11 rfl (lv_at hl 3 rfl) ?_
  refine g_iald hx hb hK hP (i := (33 + 6 * b + 2)) (by omega) hB2 (by omega) (by omega) dX2_hasNext_12 ?_
  have hbd_3 := hB6 i
  refine lv_bipush (v := nI 116) hx hb dX2_hasNext_13 (by decide) ?_
  refine t_icmp_eq (tgt := 28) hx hb dX2_hasNext_15 (by decide) (by omega) (by omega) (fun c_4 => ?_) (fun c_4 => ?_)
  · skip
    refine lv_aload_n hx hb dX2_hasNext_28 rfl (lv_at hl 0 rfl) ?_
    refine lv_iload_n hx hb dX2_hasNext_29 rfl (lv_at hl 3 rfl) ?_
    have hbd_5 := hB8 i
    refine g_callV (As := [.int (nI i)]) (rest := []) ⟨hx, hb, hml, hown, hw⟩ (mX0_remaining l D cT n ad A hD G (33 + 6 * b) ((σ.2 b).1) ((σ.2 b).2.1) ((σ.2 b).2.2.1) p0 w nu ne en (by omega) ⟨hB, hB1, hB2, hB3, hB4, hB5, hB6, hB7, hB8⟩ i (by omega) (by omega)) (cwV 1 hw (gWV wm_X2_111 wi_X0_remaining wse_X0_remaining wini_X0 wc_X0_remaining) rfl rfl rfl (by decide +kernel) ⟨Nat.le_of_ble_eq_true rfl, Nat.le_of_ble_eq_true rfl⟩) hK hE hA hP hS (k := (33 + 6 * b)) (by omega) hB rfl rfl hl.1 (lv_room (Nat.le_of_ble_eq_true rfl)) dX2_hasNext_30 ⟨Nat.le_of_ble_eq_true rfl, Nat.le_of_ble_eq_true rfl⟩ (fun v_7 G_6 H locs hp hP hS => ?_)
    obtain ⟨hv, hg⟩ := hp
    subst hv
    rw [hg] at hP
    refine t_eqi (nI ((σ.2 b).2.2.2.2.2 i)) (congrArg nI (by rw [if_neg (by omega)]; omega)) ?_
    refine t_if_le (tgt := 40) hx hb dX2_hasNext_33 (by decide) (by omega) (fun c_8 => ?_) (fun c_8 => ?_)
    · skip
      refine lv_iconst (v := nI 0) hx hb dX2_hasNext_40 (by decide) ?_
      refine g_ret hQ hx hb hr hlocks rfl hP hS (⟨⟨b, i, hb6, rfl, hi, rfl, by omega, by rw [if_neg (by omega)]; rfl⟩, rfl⟩) (Nat.le_of_ble_eq_true rfl) (Nat.le_of_ble_eq_true rfl) dX2_hasNext_41
    · skip
      refine lv_iconst (v := nI 1) hx hb dX2_hasNext_36 (by decide) ?_
      refine lv_goto (tgt := 41) hx hb dX2_hasNext_37 (by decide) ?_
      refine g_ret hQ hx hb hr hlocks rfl hP hS (⟨⟨b, i, hb6, rfl, hi, rfl, by omega, by rw [if_pos (by omega)]; rfl⟩, rfl⟩) (Nat.le_of_ble_eq_true rfl) (Nat.le_of_ble_eq_true rfl) dX2_hasNext_41
  · skip
    refine g_throwS (text := "the item is no iterator") hX ht hx hb hl9 hown hlocks hw hE hP hS (hl.1.trans hml.symm) (by decide +kernel) (by decide +kernel) at_IS wcl_X2_50 wini_java_lang_IllegalStateException (by decide +kernel) (Or.inr ⟨b, i, hb6, rfl, hi, rfl, by omega, rfl⟩) dX2_hasNext_18 dX2_hasNext_21 dX2_hasNext_22 dX2_hasNext_24 dX2_hasNext_27 (Nat.le_of_ble_eq_true rfl) (Nat.le_of_ble_eq_true rfl) (Nat.le_of_ble_eq_true rfl) (Nat.le_of_ble_eq_true rfl) (Nat.le_of_ble_eq_true rfl) (Nat.le_of_ble_eq_true rfl)

set_option maxHeartbeats 4000000 in
set_option maxRecDepth 100000 in
theorem mX2_sweep (l : Launch) (hl9 : l.stackTraces = false) (D : va_G) (cT : Nat → ClassId) (n : Nat) (ad : Nat → Nat) (A : Nat → Prop) (hD : ∀ G, va_D A (gw n ad G)) (G : Nat → va_E) (σ : TY) (hY : YW cT ad G σ) (hn : 69 ≤ n) (hI : YI σ) (x : Int32) : vx_Met l yX2_sweep (wA yX2_sweep cX2_sweep 2 (some .int)) ({ frames := 7, cells := 1, slots := 6, locals := 103 } : Room) (PG D cT n ad A G [.ref (ad 0), .int x]) (QG D n ad A (fun v G1 => onB x (fun b => v = some (.int (nI ((σ.2 b).2.1 - swk (σ.2 b).2.2.2.2.2 (σ.2 b).2.1))) ∧ YW cT ad G1 (setB σ b (sweepB (σ.2 b)))) ∧ ∀ j, 69 ≤ j → G1 j = G j)) (XG D n ad A G (pxBen x)) 1 6 A := by
  refine vx_ofG (cc := cX2_sweep) (maxL := 2) (ret := (some .int)) (by decide) (Nat.le_of_ble_eq_true rfl) ?_
  intro p e s m args below meth c Q hQ hX ht hx hb hr hml hlocks hown hw hP hK hE hA hS ls hl
  have hl : lv_has ls 2 [(0, .ref (ad 0)), (1, .int x)] := hl
  obtain ⟨hy0, hy1, hy2⟩ := hY.1
  refine lv_aload_n hx hb dX2_sweep_0 rfl (lv_at hl 0 rfl) ?_
  refine lv_iload_n hx hb dX2_sweep_1 rfl (lv_at hl 1 rfl) ?_
  refine g_callVX (As := [.int x]) (rest := []) ⟨hx, hb, hml, hown, hw⟩ (mX2_benchAt l hl9 D cT n ad A hD G σ hY hn x) (cwV 1 hw (gWV wm_X2_76 wi_X2_benchAt wse_X2_benchAt wini_X2 wc_X2_benchAt) rfl rfl rfl (by decide +kernel) ⟨Nat.le_of_ble_eq_true rfl, Nat.le_of_ble_eq_true rfl⟩) hK hE hA hP hS (k := 0) (by omega) hy0 rfl rfl hl.1 (lv_room (Nat.le_of_ble_eq_true rfl)) dX2_sweep_2 ⟨Nat.le_of_ble_eq_true rfl, Nat.le_of_ble_eq_true rfl⟩ (fun E ce q9 H locs hpx hP hS hce hcv hcl => g_out hX ht hlocks hP hS (hpx) hce hcv hcl (Nat.le_of_ble_eq_true rfl) (Nat.le_of_ble_eq_true rfl)) (fun v_2 G_1 H locs hp hP hS => ?_)
  obtain ⟨⟨b, hb6, hxb, hv⟩, hg⟩ := hp
  subst hv
  rw [hg] at hP
  subst hxb
  have hbt := hY.2.2.1 b (by omega)
  have hit := (hI.2 b (by omega)).1
  have hib := (hI.2 b (by omega)).2
  have hcapb := BI_cap hit
  have hszb := hit.1
  obtain ⟨p0, w, nu, ne, en, ⟨hB, hB1, hB2, hB3, hB4, hB5, hB6, hB7, hB8⟩, hBL⟩ := id hbt
  refine g_callV (As := []) (rest := []) ⟨hx, hb, hml, hown, hw⟩ (mX0_removeEmpty l D cT n ad A hD G (33 + 6 * b) ((σ.2 b).1) ((σ.2 b).2.1) ((σ.2 b).2.2.1) ((σ.2 b).2.2.2.1) ((σ.2 b).2.2.2.2.1) ((σ.2 b).2.2.2.2.2) (by omega) hbt hit) (cwV 0 hw (gWV wm_X2_156 wi_X0_removeEmpty wse_X0_removeEmpty wini_X0 wc_X0_removeEmpty) rfl rfl rfl (by decide +kernel) ⟨Nat.le_of_ble_eq_true rfl, Nat.le_of_ble_eq_true rfl⟩) hK hE hA hP hS (k := (33 + 6 * b)) (by omega) hB rfl rfl hl.1 (lv_room (Nat.le_of_ble_eq_true rfl)) dX2_sweep_5 ⟨Nat.le_of_ble_eq_true rfl, Nat.le_of_ble_eq_true rfl⟩ (fun v_4 G_3 H locs hp hP hS => ?_)
  obtain ⟨hv, hf_5, hr_6⟩ := hp
  subst hv
  have hc_7 : G_3 0 = .inr (4, [.ref (ad 1), .ref (ad 2), .ref (ad 3)]) := (hf_5 _ (by omega)).trans hy0
  have hc_8 : G_3 1 = aQ (cT 5) 12 (rQ ad) := (hf_5 _ (by omega)).trans hy1
  have hc_9 : G_3 2 = aQ (cT 6) 6 (bQ ad) := (hf_5 _ (by omega)).trans hy2
  refine g_ret hQ hx hb hr hlocks rfl hP hS (⟨⟨b, hb6, rfl, rfl, YW.bench hY hb6 hf_5 hr_6⟩, fun j hj => hf_5 j (by omega)⟩) (Nat.le_of_ble_eq_true rfl) (Nat.le_of_ble_eq_true rfl) dX2_sweep_8

set_option maxHeartbeats 4000000 in
set_option maxRecDepth 100000 in
theorem mX2_isRead (l : Launch) (hl9 : l.stackTraces = false) (D : va_G) (cT : Nat → ClassId) (n : Nat) (ad : Nat → Nat) (A : Nat → Prop) (hD : ∀ G, va_D A (gw n ad G)) (G : Nat → va_E) (σ : TY) (hY : YW cT ad G σ) (hn : 69 ≤ n) (hI : YI σ) (x : Int32) : vx_Met l yX2_isRead (wA yX2_isRead cX2_isRead 2 (some .boolean)) ({ frames := 7, cells := 1, slots := 6, locals := 105 } : Room) (PG D cT n ad A G [.ref (ad 0), .int x]) (QG D n ad A (fun v G1 => onB x (fun b => v = some (.int (if cnt (σ.2 b).2.2.2.2.1 (σ.2 b).2.1 = (σ.2 b).2.1 then 1 else 0))) ∧ G1 = G)) (XG D n ad A G (pxBen x)) 1 6 A := by
  refine vx_ofG (cc := cX2_isRead) (maxL := 2) (ret := (some .boolean)) (by decide) (Nat.le_of_ble_eq_true rfl) ?_
  intro p e s m args below meth c Q hQ hX ht hx hb hr hml hlocks hown hw hP hK hE hA hS ls hl
  have hl : lv_has ls 2 [(0, .ref (ad 0)), (1, .int x)] := hl
  obtain ⟨hy0, hy1, hy2⟩ := hY.1
  refine lv_aload_n hx hb dX2_isRead_0 rfl (lv_at hl 0 rfl) ?_
  refine lv_iload_n hx hb dX2_isRead_1 rfl (lv_at hl 1 rfl) ?_
  refine g_callVX (As := [.int x]) (rest := []) ⟨hx, hb, hml, hown, hw⟩ (mX2_benchAt l hl9 D cT n ad A hD G σ hY hn x) (cwV 1 hw (gWV wm_X2_76 wi_X2_benchAt wse_X2_benchAt wini_X2 wc_X2_benchAt) rfl rfl rfl (by decide +kernel) ⟨Nat.le_of_ble_eq_true rfl, Nat.le_of_ble_eq_true rfl⟩) hK hE hA hP hS (k := 0) (by omega) hy0 rfl rfl hl.1 (lv_room (Nat.le_of_ble_eq_true rfl)) dX2_isRead_2 ⟨Nat.le_of_ble_eq_true rfl, Nat.le_of_ble_eq_true rfl⟩ (fun E ce q9 H locs hpx hP hS hce hcv hcl => g_out hX ht hlocks hP hS (hpx) hce hcv hcl (Nat.le_of_ble_eq_true rfl) (Nat.le_of_ble_eq_true rfl)) (fun v_2 G_1 H locs hp hP hS => ?_)
  obtain ⟨⟨b, hb6, hxb, hv⟩, hg⟩ := hp
  subst hv
  rw [hg] at hP
  subst hxb
  have hbt := hY.2.2.1 b (by omega)
  have hit := (hI.2 b (by omega)).1
  have hib := (hI.2 b (by omega)).2
  have hcapb := BI_cap hit
  have hszb := hit.1
  obtain ⟨p0, w, nu, ne, en, ⟨hB, hB1, hB2, hB3, hB4, hB5, hB6, hB7, hB8⟩, hBL⟩ := id hbt
  refine g_callV (As := []) (rest := []) ⟨hx, hb, hml, hown, hw⟩ (mX0_isWholePart l D cT n ad A hD G (33 + 6 * b) ((σ.2 b).1) ((σ.2 b).2.1) ((σ.2 b).2.2.1) ((σ.2 b).2.2.2.1) ((σ.2 b).2.2.2.2.1) ((σ.2 b).2.2.2.2.2) (by omega) hbt hit) (cwV 0 hw (gWV wm_X2_160 wi_X0_isWholePart wse_X0_isWholePart wini_X0 wc_X0_isWholePart) rfl rfl rfl (by decide +kernel) ⟨Nat.le_of_ble_eq_true rfl, Nat.le_of_ble_eq_true rfl⟩) hK hE hA hP hS (k := (33 + 6 * b)) (by omega) hB rfl rfl hl.1 (lv_room (Nat.le_of_ble_eq_true rfl)) dX2_isRead_5 ⟨Nat.le_of_ble_eq_true rfl, Nat.le_of_ble_eq_true rfl⟩ (fun v_4 G_3 H locs hp hP hS => ?_)
  obtain ⟨hv, hg⟩ := hp
  subst hv
  rw [hg] at hP
  refine g_ret hQ hx hb hr hlocks (by split <;> rfl) hP hS (⟨⟨b, hb6, rfl, rfl⟩, rfl⟩) (Nat.le_of_ble_eq_true rfl) (Nat.le_of_ble_eq_true rfl) dX2_isRead_8
