theorem sub_neg8 : ∀ L, L < 8 → nI L - nI 8 < 0 := by decide
theorem and31 (x : Int32) : ∃ k, k < 32 ∧ x &&& nI 31 = nI k := by
  refine ⟨(x &&& nI 31).toBitVec.toNat, ?_, ?_⟩
  · show ((x.toBitVec &&& (nI 31).toBitVec)).toNat < 32
    rw [BitVec.toNat_and]
    have h := Nat.and_le_right (n := x.toBitVec.toNat) (m := (nI 31).toBitVec.toNat)
    have h2 : (nI 31).toBitVec.toNat = 31 := by decide
    omega
  · apply Int32.toBitVec_inj.mp
    apply BitVec.eq_of_toNat_eq
    show _ = (BitVec.ofNat 32 _).toNat
    rw [BitVec.toNat_ofNat, Nat.mod_eq_of_lt (BitVec.isLt _)]
set_option maxHeartbeats 4000000 in
set_option maxRecDepth 100000 in
theorem lc_checksum {p : Program} {l : Launch} {e : Env} {s : State} {m : MethodId} {below : List Frame} {meth : Method} {c : Code} {b L : Nat} {xs : Nat → Int32} {D : va_G} {cT : Nat → ClassId} {ad : Nat → Nat} {A : Nat → Prop} {Q : State → Prop} {i cells slots : Nat} {H : Heap} {locs : List Loc} {ls : Array Slot} {σ : TY} {G : Nat → va_E} {th : Nat} {f : Nat → Int64} {f2 : Nat → UInt64} (hX9 : LX p l s m meth c b L xs D cT ad A) (hc : cells + 10 ≤ 603072) (hs : slots + 100 ≤ 7227498) (hst : LSt cT ad G σ th f f2) (hP : va_P D vwCl (gw 116 ad G) H) (hS : va_S A s.heap H locs) (hl : lv_has ls 9 (LVL b ad i)) (kont : LK p l e s m below meth c b D cT ad A Q i (cells + 10) (slots + 100) 2260) : W p l e room_1 s m #[Value.ref b] below meth c H locs cells slots Q (F0 m 2233 ls []) := by
  obtain ⟨hx, hb, hml, hown, hw, hX, hbl, hbA, hK, hE, hA, hD, hN, hl9, hL⟩ := hX9
  obtain ⟨hI, hY, hM, hO, hO2⟩ := hst
  refine lv_aload_n hx hb dL_law_2233 rfl (lv_at hl 1 rfl) ?_
  refine g_callV (As := []) (rest := []) ⟨hx, hb, hml, hown, hw⟩ (mX2_checksum l D cT 116 ad A hD G σ hY (by omega) hI) (cwV 0 hw (gWV wm_L_215 wi_X2_checksum wse_X2_checksum wini_X2 wc_X2_checksum) rfl rfl rfl (by decide +kernel) ⟨Nat.le_of_ble_eq_true rfl, Nat.le_of_ble_eq_true rfl⟩) hK hE hA hP hS (k := 0) (by omega) hY.1.1 rfl rfl hl.1 (lv_room (Nat.le_of_ble_eq_true rfl)) dL_law_2234 ⟨by show cells + 0 ≤ 603072; omega, by show slots + 0 ≤ 7227498; omega⟩ (fun v G1 H locs hp hP hS => ?_)
  obtain ⟨rfl, hg1⟩ := hp
  have hM1 : MW cT ad G1 σ th := hM.keep (fun j _ _ => by rw [hg1])
  have hY1 : YW cT ad G1 σ := by rw [hg1]; exact hY
  have hfe : ∀ j, 69 ≤ j → G1 j = G j := fun j _ => by rw [hg1]
  refine lv_aload_n hx hb dL_law_2237 rfl (lv_at hl 2 rfl) ?_
  refine g_callV (As := []) (rest := [.long (csB σ 6)]) ⟨hx, hb, hml, hown, hw⟩ (mX3_checksum_ok l D cT 116 ad A hD G1 (by omega) σ hI th hM1) (cwV 0 hw (gWV wm_L_219 wi_X3_checksum wse_X3_checksum wini_X3 wc_X3_checksum) rfl rfl rfl (by decide +kernel) ⟨Nat.le_of_ble_eq_true rfl, Nat.le_of_ble_eq_true rfl⟩) hK hE hA hP hS (k := 69) (by omega) (MW.th hM1) rfl rfl hl.1 (lv_room (Nat.le_of_ble_eq_true rfl)) dL_law_2238 ⟨by show cells + 0 + 0 ≤ 603072; omega, by show slots + 0 + 0 ≤ 7227498; omega⟩ (fun v G3 H locs hp3 hP hS => ?_)
  obtain ⟨⟨rfl, hM3⟩, hf3⟩ := hp3
  refine W.lcmp hx hb dL_law_2241 ?_
  refine t_eqi (nI 0) (lgc_eq rfl) ?_
  refine t_if_eq (tgt := 2260) hx hb dL_law_2242 (by decide) (by omega) (fun _ => ?_) (fun h9 => absurd h9 (by omega))
  refine W.widen (k := cells + 10) (n := slots + 100) (by omega) (by omega) ?_
  exact kont σ G3 0 f f2 H locs ls ⟨hI, hY1.ad (fun _ _ => rfl) (fun k hk => hf3 k (by omega)), hM3, (hf3 114 (by omega)).trans ((hfe 114 (by omega)).trans hO), (hf3 115 (by omega)).trans ((hfe 115 (by omega)).trans hO2)⟩ hP hS hl
set_option maxHeartbeats 4000000 in
set_option maxRecDepth 100000 in
theorem lc_isSound {p : Program} {l : Launch} {e : Env} {s : State} {m : MethodId} {below : List Frame} {meth : Method} {c : Code} {b L : Nat} {xs : Nat → Int32} {D : va_G} {cT : Nat → ClassId} {ad : Nat → Nat} {A : Nat → Prop} {Q : State → Prop} {i cells slots : Nat} {H : Heap} {locs : List Loc} {ls : Array Slot} {σ : TY} {G : Nat → va_E} {th : Nat} {f : Nat → Int64} {f2 : Nat → UInt64} (hX9 : LX p l s m meth c b L xs D cT ad A) (hc : cells + 10 ≤ 603072) (hs : slots + 100 ≤ 7227498) (hst : LSt cT ad G σ th f f2) (hP : va_P D vwCl (gw 116 ad G) H) (hS : va_S A s.heap H locs) (hl : lv_has ls 9 (LVL b ad i)) (kont : LK p l e s m below meth c b D cT ad A Q i (cells + 10) (slots + 100) 2260) : W p l e room_1 s m #[Value.ref b] below meth c H locs cells slots Q (F0 m 2247 ls []) := by
  obtain ⟨hx, hb, hml, hown, hw, hX, hbl, hbA, hK, hE, hA, hD, hN, hl9, hL⟩ := hX9
  obtain ⟨hI, hY, hM, hO, hO2⟩ := hst
  refine lv_aload_n hx hb dL_law_2247 rfl (lv_at hl 1 rfl) ?_
  refine g_callV (As := []) (rest := []) ⟨hx, hb, hml, hown, hw⟩ (mX2_isSound l D cT 116 ad A hD G σ hY (by omega) hI) (cwV 0 hw (gWV wm_L_220 wi_X2_isSound wse_X2_isSound wini_X2 wc_X2_isSound) rfl rfl rfl (by decide +kernel) ⟨Nat.le_of_ble_eq_true rfl, Nat.le_of_ble_eq_true rfl⟩) hK hE hA hP hS (k := 0) (by omega) hY.1.1 rfl rfl hl.1 (lv_room (Nat.le_of_ble_eq_true rfl)) dL_law_2248 ⟨by show cells + 0 ≤ 603072; omega, by show slots + 0 ≤ 7227498; omega⟩ (fun v G1 H locs hp hP hS => ?_)
  obtain ⟨rfl, hY1, hfe⟩ := hp
  have hM1 : MW cT ad G1 σ th := hM.keep (fun j h1 _ => hfe j h1)
  refine lv_aload_n hx hb dL_law_2251 rfl (lv_at hl 2 rfl) ?_
  refine g_callV (As := []) (rest := [.int (nI 1)]) ⟨hx, hb, hml, hown, hw⟩ (mX3_isSound_ok l D cT 116 ad A hD G1 (by omega) σ hI th hM1) (cwV 0 hw (gWV wm_L_224 wi_X3_isSound wse_X3_isSound wini_X3 wc_X3_isSound) rfl rfl rfl (by decide +kernel) ⟨Nat.le_of_ble_eq_true rfl, Nat.le_of_ble_eq_true rfl⟩) hK hE hA hP hS (k := 69) (by omega) (MW.th hM1) rfl rfl hl.1 (lv_room (Nat.le_of_ble_eq_true rfl)) dL_law_2252 ⟨by show cells + 0 + 0 ≤ 603072; omega, by show slots + 0 + 0 ≤ 7227498; omega⟩ (fun v G3 H locs hp3 hP hS => ?_)
  obtain ⟨⟨rfl, hM3⟩, hf3⟩ := hp3
  refine t_icmp_eq (tgt := 2260) hx hb dL_law_2255 (by decide) (by omega) (by omega) (fun _ => ?_) (fun h9 => absurd rfl h9)
  refine W.widen (k := cells + 10) (n := slots + 100) (by omega) (by omega) ?_
  exact kont σ G3 0 f f2 H locs ls ⟨hI, hY1.ad (fun _ _ => rfl) (fun k hk => hf3 k (by omega)), hM3, (hf3 114 (by omega)).trans ((hfe 114 (by omega)).trans hO), (hf3 115 (by omega)).trans ((hfe 115 (by omega)).trans hO2)⟩ hP hS hl
set_option maxHeartbeats 8000000 in
set_option maxRecDepth 100000 in
theorem law_loop {p : Program} {l : Launch} {e : Env} {s : State} {m : MethodId} {below : List Frame} {meth : Method} {c : Code} {b L : Nat} {xs : Nat → Int32} {D : va_G} {cT : Nat → ClassId} {ad : Nat → Nat} {A : Nat → Prop} {Q : State → Prop} (hX9 : LX p l s m meth c b L xs D cT ad A) (kend : ∀ (H : Heap) (locs : List Loc) (cells slots : Nat) (ls : Array Slot), va_S A s.heap H locs → cells ≤ 603072 → slots ≤ 7227498 → W p l e room_1 s m #[Value.ref b] below meth c H locs cells slots Q (F0 m 2266 ls [])) : ∀ (fu k : Nat), 513 - k < fu → k ≤ 512 → LK p l e s m below meth c b D cT ad A Q (8 * k) (116 + 10 * k) (6178 + 100 * k) 28 := by
  obtain ⟨hx, hb, hml, hown, hw, hX, hbl, hbA, hK, hE, hA, hD, hN, hl9, hL⟩ := id hX9
  intro fu
  induction fu with
  | zero => intros; exfalso; omega
  | succ fu ih =>
    intro k hfu hk σ G th f f2 H locs ls hst hP hS hl
    refine lv_iload hx hb dL_law_28 (lv_at hl 5 rfl) ?_
    refine lv_aload_n hx hb dL_law_30 rfl (lv_at hl 0 rfl) ?_
    refine va_slen hx hb hX hbl hbA hS dL_law_31 ?_
    refine t_eqi (nI L) rfl ?_
    refine lv_bipush (v := nI 8) hx hb dL_law_32 (by decide) ?_
    refine lv_isub hx hb dL_law_34 ?_
    rcases Nat.lt_or_ge L 8 with hL8 | hL8
    · refine lv_icmp_gt (tgt := 2266) hx hb dL_law_35 (by decide) (fun _ => ?_) (fun c1 => absurd (Int32.lt_of_lt_of_le (sub_neg8 L hL8) (nI_pos' (by omega))) c1)
      exact kend H locs _ _ ls hS (by omega) (by omega)
    refine t_eqi (nI (L - 8)) (pk_sub (by omega)) ?_
    refine t_icmp_gt (tgt := 2266) hx hb dL_law_35 (by decide) (by omega) (by omega) (fun _ => ?_) (fun c1 => ?_)
    · exact kend H locs _ _ ls hS (by omega) (by omega)
    have kont : LK p l e s m below meth c b D cT ad A Q (8 * k) (116 + 10 * k + 10) (6178 + 100 * k + 100) 2260 := fun σ G th f f2 H locs ls hst hP hS hl => by
      refine lv_iinc (v := nI (8 * k + 8)) (lv' := [(5, .int (nI (8 * k + 8))), (0, .ref b), (1, .ref (ad 0)), (2, .ref (ad 69)), (3, .ref (ad 114)), (4, .ref (ad 115))]) hx hb dL_law_2260 hl (k := 5) rfl (by exact nI_add (8 * k) 8) (by decide) rfl (fun ls hl => ?_)
      refine lv_goto (tgt := 28) hx hb dL_law_2263 (by decide) ?_
      refine W.widen (k := 116 + 10 * (k + 1)) (n := 6178 + 100 * (k + 1)) (by omega) (by omega) ?_
      rw [show 8 * k + 8 = 8 * (k + 1) by omega] at hl
      exact ih (k + 1) (by omega) (by omega) σ G th f f2 H locs ls hst hP hS (lv_sub hl [1, 2, 3, 4, 5, 0] rfl)
    refine lv_aload_n hx hb dL_law_38 rfl (lv_at hl 0 rfl) ?_
    refine lv_iload hx hb dL_law_39 (lv_at hl 5 rfl) ?_
    refine g_sld hx hb hX hbl hbA hS (j := 8 * k) (by omega) (by omega) dL_law_41 ?_
    refine lv_bipush (v := nI 31) hx hb dL_law_42 (by decide) ?_
    refine lv_iand hx hb dL_law_44 ?_
    obtain ⟨t, ht, het⟩ := and31 (xs (8 * k))
    refine t_eqi (nI t) het ?_
    rcases (show t = 0 ∨ t = 1 ∨ t = 2 ∨ t = 3 ∨ t = 4 ∨ t = 5 ∨ t = 6 ∨ t = 7 ∨ t = 8 ∨ t = 9 ∨ t = 10 ∨ t = 11 ∨ t = 12 ∨ t = 13 ∨ t = 14 ∨ t = 15 ∨ t = 16 ∨ t = 17 ∨ t = 18 ∨ t = 19 ∨ t = 20 ∨ t = 21 ∨ t = 22 ∨ t = 23 ∨ t = 24 ∨ t = 25 ∨ t = 26 ∨ t = 27 ∨ t = 28 ∨ t = 29 ∨ t = 30 ∨ t = 31 by omega) with rfl | rfl | rfl | rfl | rfl | rfl | rfl | rfl | rfl | rfl | rfl | rfl | rfl | rfl | rfl | rfl | rfl | rfl | rfl | rfl | rfl | rfl | rfl | rfl | rfl | rfl | rfl | rfl | rfl | rfl | rfl | rfl
    · refine lv_tableIn (off := 127) (tgt := 172) hx hb dL_law_45 (by decide) (by decide) (by decide) (by decide) ?_
      exact lc_append hX9 (by omega) (by omega) (by omega) hst hP hS hl kont
    · refine lv_tableIn (off := 241) (tgt := 286) hx hb dL_law_45 (by decide) (by decide) (by decide) (by decide) ?_
      exact lc_lay hX9 (by omega) (by omega) (by omega) hst hP hS hl kont
    · refine lv_tableIn (off := 415) (tgt := 460) hx hb dL_law_45 (by decide) (by decide) (by decide) (by decide) ?_
      exact lc_turn hX9 (by omega) (by omega) (by omega) hst hP hS hl kont
    · refine lv_tableIn (off := 485) (tgt := 530) hx hb dL_law_45 (by decide) (by decide) (by decide) (by decide) ?_
      exact lc_length hX9 (by omega) (by omega) (by omega) hst hP hS hl kont
    · refine lv_tableIn (off := 555) (tgt := 600) hx hb dL_law_45 (by decide) (by decide) (by decide) (by decide) ?_
      exact lc_number hX9 (by omega) (by omega) (by omega) hst hP hS hl kont
    · refine lv_tableIn (off := 636) (tgt := 681) hx hb dL_law_45 (by decide) (by decide) (by decide) (by decide) ?_
      exact lc_open hX9 (by omega) (by omega) (by omega) hst hP hS hl kont
    · refine lv_tableIn (off := 742) (tgt := 787) hx hb dL_law_45 (by decide) (by decide) (by decide) (by decide) ?_
      exact lc_openAll hX9 (by omega) (by omega) (by omega) hst hP hS hl kont
    · refine lv_tableIn (off := 824) (tgt := 869) hx hb dL_law_45 (by decide) (by decide) (by decide) (by decide) ?_
      exact lc_items hX9 (by omega) (by omega) (by omega) hst hP hS hl kont
    · refine lv_tableIn (off := 880) (tgt := 925) hx hb dL_law_45 (by decide) (by decide) (by decide) (by decide) ?_
      exact lc_kindOf hX9 (by omega) (by omega) (by omega) hst hP hS hl kont
    · refine lv_tableIn (off := 948) (tgt := 993) hx hb dL_law_45 (by decide) (by decide) (by decide) (by decide) ?_
      exact lc_given hX9 (by omega) (by omega) (by omega) hst hP hS hl kont
    · refine lv_tableIn (off := 1015) (tgt := 1060) hx hb dL_law_45 (by decide) (by decide) (by decide) (by decide) ?_
      exact lc_left hX9 (by omega) (by omega) (by omega) hst hP hS hl kont
    · refine lv_tableIn (off := 1083) (tgt := 1128) hx hb dL_law_45 (by decide) (by decide) (by decide) (by decide) ?_
      exact lc_ahead hX9 (by omega) (by omega) (by omega) hst hP hS hl kont
    · refine lv_tableIn (off := 1151) (tgt := 1196) hx hb dL_law_45 (by decide) (by decide) (by decide) (by decide) ?_
      exact lc_has hX9 (by omega) (by omega) (by omega) hst hP hS hl kont
    · refine lv_tableIn (off := 1240) (tgt := 1285) hx hb dL_law_45 (by decide) (by decide) (by decide) (by decide) ?_
      exact lc_isExact hX9 (by omega) (by omega) (by omega) hst hP hS hl kont
    · refine lv_tableIn (off := 1315) (tgt := 1360) hx hb dL_law_45 (by decide) (by decide) (by decide) (by decide) ?_
      exact lc_split hX9 (by omega) (by omega) (by omega) hst hP hS hl kont
    · refine lv_tableIn (off := 1383) (tgt := 1428) hx hb dL_law_45 (by decide) (by decide) (by decide) (by decide) ?_
      exact lc_step hX9 (by omega) (by omega) (by omega) hst hP hS hl kont
    · refine lv_tableIn (off := 1458) (tgt := 1503) hx hb dL_law_45 (by decide) (by decide) (by decide) (by decide) ?_
      exact lc_drain hX9 (by omega) (by omega) (by omega) hst hP hS hl kont
    · refine lv_tableIn (off := 1526) (tgt := 1571) hx hb dL_law_45 (by decide) (by decide) (by decide) (by decide) ?_
      exact lc_iterate hX9 (by omega) (by omega) (by omega) hst hP hS hl kont
    · refine lv_tableIn (off := 1594) (tgt := 1639) hx hb dL_law_45 (by decide) (by decide) (by decide) (by decide) ?_
      exact lc_hasNext hX9 (by omega) (by omega) (by omega) hst hP hS hl kont
    · refine lv_tableIn (off := 1669) (tgt := 1714) hx hb dL_law_45 (by decide) (by decide) (by decide) (by decide) ?_
      exact lc_crumble hX9 (by omega) (by omega) (by omega) hst hP hS hl kont
    · refine lv_tableIn (off := 1737) (tgt := 1782) hx hb dL_law_45 (by decide) (by decide) (by decide) (by decide) ?_
      exact lc_sweep hX9 (by omega) (by omega) (by omega) hst hP hS hl kont
    · refine lv_tableIn (off := 1793) (tgt := 1838) hx hb dL_law_45 (by decide) (by decide) (by decide) (by decide) ?_
      exact lc_isRead hX9 (by omega) (by omega) (by omega) hst hP hS hl kont
    · refine lv_tableIn (off := 1856) (tgt := 1901) hx hb dL_law_45 (by decide) (by decide) (by decide) (by decide) ?_
      exact lc_fold hX9 (by omega) (by omega) (by omega) hst hP hS hl kont
    · refine lv_tableIn (off := 1951) (tgt := 1996) hx hb dL_law_45 (by decide) (by decide) (by decide) (by decide) ?_
      exact lc_pieces hX9 (by omega) (by omega) (by omega) hst hP hS hl kont
    · refine lv_tableIn (off := 2033) (tgt := 2078) hx hb dL_law_45 (by decide) (by decide) (by decide) (by decide) ?_
      exact lc_share hX9 (by omega) (by omega) (by omega) hst hP hS hl kont
    · refine lv_tableIn (off := 2111) (tgt := 2156) hx hb dL_law_45 (by decide) (by decide) (by decide) (by decide) ?_
      exact lc_meanLeft hX9 (by omega) (by omega) (by omega) hst hP hS hl kont
    · refine lv_tableIn (off := 2188) (tgt := 2233) hx hb dL_law_45 (by decide) (by decide) (by decide) (by decide) ?_
      exact lc_checksum hX9 (by omega) (by omega) hst hP hS hl kont
    · refine lv_tableIn (off := 2202) (tgt := 2247) hx hb dL_law_45 (by decide) (by decide) (by decide) (by decide) ?_
      exact lc_isSound hX9 (by omega) (by omega) hst hP hS hl kont
    · refine lv_tableOut (tgt := 2260) hx hb dL_law_45 (by decide) (by decide) ?_
      refine W.widen (k := 116 + 10 * k + 10) (n := 6178 + 100 * k + 100) (by omega) (by omega) ?_
      exact kont σ G th f f2 H locs ls hst hP hS hl
    · refine lv_tableOut (tgt := 2260) hx hb dL_law_45 (by decide) (by decide) ?_
      refine W.widen (k := 116 + 10 * k + 10) (n := 6178 + 100 * k + 100) (by omega) (by omega) ?_
      exact kont σ G th f f2 H locs ls hst hP hS hl
    · refine lv_tableOut (tgt := 2260) hx hb dL_law_45 (by decide) (by decide) ?_
      refine W.widen (k := 116 + 10 * k + 10) (n := 6178 + 100 * k + 100) (by omega) (by omega) ?_
      exact kont σ G th f f2 H locs ls hst hP hS hl
    · refine lv_tableOut (tgt := 2260) hx hb dL_law_45 (by decide) (by decide) ?_
      refine W.widen (k := 116 + 10 * k + 10) (n := 6178 + 100 * k + 100) (by omega) (by omega) ?_
      exact kont σ G th f f2 H locs ls hst hP hS hl
