set_option maxHeartbeats 4000000 in
set_option maxRecDepth 100000 in
theorem lc_append {p : Program} {l : Launch} {e : Env} {s : State} {m : MethodId} {below : List Frame} {meth : Method} {c : Code} {b L : Nat} {xs : Nat → Int32} {D : va_G} {cT : Nat → ClassId} {ad : Nat → Nat} {A : Nat → Prop} {Q : State → Prop} {i cells slots : Nat} {H : Heap} {locs : List Loc} {ls : Array Slot} {σ : TY} {G : Nat → va_E} {th : Nat} {f : Nat → Int64} {f2 : Nat → UInt64} (hX9 : LX p l s m meth c b L xs D cT ad A) (hi : i + 8 ≤ L) (hc : cells + 10 ≤ 603072) (hs : slots + 100 ≤ 7227498) (hst : LSt cT ad G σ th f f2) (hP : va_P D vwCl (gw 116 ad G) H) (hS : va_S A s.heap H locs) (hl : lv_has ls 9 (LVL b ad i)) (kont : LK p l e s m below meth c b D cT ad A Q i (cells + 10) (slots + 100) 2260) : W p l e room_1 s m #[Value.ref b] below meth c H locs cells slots Q (F0 m 172 ls []) := by
  obtain ⟨hx, hb, hml, hown, hw, hX, hbl, hbA, hK, hE, hA, hD, hN, hl9, hL⟩ := hX9
  obtain ⟨hI, hY, hM, hO, hO2⟩ := hst
  refine lv_aload_n hx hb dL_law_172 rfl (lv_at hl 1 rfl) ?_
  refine lv_aload_n hx hb dL_law_173 rfl (lv_at hl 0 rfl) ?_
  refine lv_iload hx hb dL_law_174 (lv_at hl 5 rfl) ?_
  refine lv_iconst (v := nI 1) hx hb dL_law_176 (by decide) ?_
  refine lv_iadd hx hb dL_law_177 ?_
  refine t_eqi (nI (i + 1)) (nI_add i 1) ?_
  refine g_sld hx hb hX hbl hbA hS (j := i + 1) (by omega) (by omega) dL_law_178 ?_
  refine lv_i2c (v := nI (chN (xs (i + 1)))) hx hb dL_law_179 (chN_eq _) ?_
  refine lv_aload_n hx hb dL_law_180 rfl (lv_at hl 0 rfl) ?_
  refine lv_iload hx hb dL_law_181 (lv_at hl 5 rfl) ?_
  refine lv_iconst (v := nI 2) hx hb dL_law_183 (by decide) ?_
  refine lv_iadd hx hb dL_law_184 ?_
  refine t_eqi (nI (i + 2)) (nI_add i 2) ?_
  refine g_sld hx hb hX hbl hbA hS (j := i + 2) (by omega) (by omega) dL_law_185 ?_
  refine lv_aload_n hx hb dL_law_186 rfl (lv_at hl 0 rfl) ?_
  refine lv_iload hx hb dL_law_187 (lv_at hl 5 rfl) ?_
  refine lv_iconst (v := nI 3) hx hb dL_law_189 (by decide) ?_
  refine lv_iadd hx hb dL_law_190 ?_
  refine t_eqi (nI (i + 3)) (nI_add i 3) ?_
  refine g_sld hx hb hX hbl hbA hS (j := i + 3) (by omega) (by omega) dL_law_191 ?_
  refine lv_i2l hx hb dL_law_192 rfl ?_
  refine lv_bipush (v := nI 32) hx hb dL_law_193 (by decide) ?_
  refine lv_lshl (v := ((xs (i + 3)).toInt64) <<< ((nI 32).toInt64 &&& 63)) hx hb dL_law_195 rfl ?_
  refine lv_aload_n hx hb dL_law_196 rfl (lv_at hl 0 rfl) ?_
  refine lv_iload hx hb dL_law_197 (lv_at hl 5 rfl) ?_
  refine lv_iconst (v := nI 4) hx hb dL_law_199 (by decide) ?_
  refine lv_iadd hx hb dL_law_200 ?_
  refine t_eqi (nI (i + 4)) (nI_add i 4) ?_
  refine g_sld hx hb hX hbl hbA hS (j := i + 4) (by omega) (by omega) dL_law_201 ?_
  refine lv_i2l hx hb dL_law_202 rfl ?_
  refine lv_ldc2 hx hb hown (hw _ wk_L_118) dL_law_203 ?_
  refine lv_land hx hb dL_law_206 ?_
  refine lv_lor hx hb dL_law_207 ?_
  refine t_eql (lg2 (xs (i + 3)) (xs (i + 4))) rfl ?_
  refine lv_aload_n hx hb dL_law_208 rfl (lv_at hl 3 rfl) ?_
  refine g_callSH (As := [.ref (ad 0), .int (nI (chN (xs (i + 1)))), .int (xs (i + 2)), .long (lg2 (xs (i + 3)) (xs (i + 4))), .ref (ad 114)]) (rest := []) ⟨hx, hb, hml, hown, hw⟩ (mL_append l hl9 D cT 116 ad A hD G (Nat.le_refl _) σ hY hI f hO (chN (xs (i + 1))) (chN_lt _) (xs (i + 2)) (lg2 (xs (i + 3)) (xs (i + 4)))) (vx_cwSW 5 hw (gWSB wm_L_120 wst_L_append wini_L wcw_L_append) rfl rfl rfl (by decide +kernel) ⟨Nat.le_of_ble_eq_true rfl, Nat.le_of_ble_eq_true rfl⟩) hK hE hA hP hS rfl hl.1 (lv_room (Nat.le_of_ble_eq_true rfl)) dL_law_209 ⟨by show cells + 0 + 2 ≤ 603072; omega, by show slots + 0 + 12 ≤ 7227498; omega⟩ (fun v G1 H locs hp hP hS => ?_)
  rcases hp with ⟨y8, G2, hcl, hO1, hfo, rfl⟩ | ⟨E, hpx, rfl, hg1⟩
  · skip
    rcases hcl with ⟨hnm, ⟨q, ro, hq, hro, hkq, hx1, hlt, hv, hY2⟩, hfr⟩
    have hfe : ∀ j, 69 ≤ j → G2 j = G j := hfr
    have hM1 : MW cT ad G1 σ th := hM.keep (fun j h1 h2 => (hfo j (by omega)).trans (hfe j (by omega)))
    have hY1 := hY2.ad (ad2 := ad) (G2 := G1) (fun _ _ => rfl) (fun k hk => hfo k (by omega))
    obtain rfl := Value.int.inj (Option.some.inj hv)
    refine lv_istore (lv' := [(6, .int (nI 0)), (0, .ref b), (1, .ref (ad 0)), (2, .ref (ad 69)), (3, .ref (ad 114)), (4, .ref (ad 115)), (5, .int (nI i))]) hx hb dL_law_212 hl (by decide) rfl (fun ls hl => ?_)
    refine lv_aload_n hx hb dL_law_214 rfl (lv_at hl 3 rfl) ?_
    refine lv_aload_n hx hb dL_law_215 rfl (lv_at hl 1 rfl) ?_
    refine lv_iload hx hb dL_law_216 (lv_at hl 6 rfl) ?_
    refine lv_iconst (v := nI 1) hx hb dL_law_218 (by decide) ?_
    refine lv_iadd hx hb dL_law_219 ?_
    refine t_eqi (nI (i + 1)) (nI_add i 1) ?_
    refine g_sld hx hb hX hbl hbA hS (j := i + 1) (by omega) (by omega) dL_law_220 ?_
    refine lv_i2c (v := nI (chN (xs (i + 1)))) hx hb dL_law_221 (chN_eq _) ?_
    refine lv_aload_n hx hb dL_law_222 rfl (lv_at hl 1 rfl) ?_
    refine lv_iload hx hb dL_law_223 (lv_at hl 6 rfl) ?_
    refine lv_iconst (v := nI 2) hx hb dL_law_225 (by decide) ?_
    refine lv_iadd hx hb dL_law_226 ?_
    refine t_eqi (nI (i + 2)) (nI_add i 2) ?_
    refine g_sld hx hb hX hbl hbA hS (j := i + 2) (by omega) (by omega) dL_law_227 ?_
    refine t_eqi (nI ro) hx1 ?_
    refine lv_aload_n hx hb dL_law_228 rfl (lv_at hl 1 rfl) ?_
    refine lv_iload hx hb dL_law_229 (lv_at hl 6 rfl) ?_
    refine lv_iconst (v := nI 3) hx hb dL_law_231 (by decide) ?_
    refine lv_iadd hx hb dL_law_232 ?_
    refine t_eqi (nI (i + 3)) (nI_add i 3) ?_
    refine g_sld hx hb hX hbl hbA hS (j := i + 3) (by omega) (by omega) dL_law_233 ?_
    refine lv_i2l hx hb dL_law_234 rfl ?_
    refine lv_bipush (v := nI 32) hx hb dL_law_235 (by decide) ?_
    refine lv_lshl (v := ((xs (i + 3)).toInt64) <<< ((nI 32).toInt64 &&& 63)) hx hb dL_law_237 rfl ?_
    refine lv_aload_n hx hb dL_law_238 rfl (lv_at hl 1 rfl) ?_
    refine lv_iload hx hb dL_law_239 (lv_at hl 6 rfl) ?_
    refine lv_iconst (v := nI 4) hx hb dL_law_241 (by decide) ?_
    refine lv_iadd hx hb dL_law_242 ?_
    refine t_eqi (nI (i + 4)) (nI_add i 4) ?_
    refine g_sld hx hb hX hbl hbA hS (j := i + 4) (by omega) (by omega) dL_law_243 ?_
    refine lv_i2l hx hb dL_law_244 rfl ?_
    refine lv_ldc2 hx hb hown (hw _ wk_L_118) dL_law_245 ?_
    refine lv_land hx hb dL_law_248 ?_
    refine lv_lor hx hb dL_law_249 ?_
    refine t_eql (lg2 (xs (i + 3)) (xs (i + 4))) rfl ?_
    refine g_callV (As := [.int (nI (chN (xs (i + 1)))), .int (nI ro), .long (lg2 (xs (i + 3)) (xs (i + 4)))]) (rest := []) ⟨hx, hb, hml, hown, hw⟩ (mX3_append_ok l D cT 116 ad A hD G1 (by omega) σ hI th hM1 (chN (xs (i + 1))) (chN_lt _) q ro hq hro hkq (lg2 (xs (i + 3)) (xs (i + 4))) hnm hlt) (cwV 3 hw (gWV wm_L_125 wi_X3_append wse_X3_append wini_X3 wc_X3_append) rfl rfl rfl (by decide +kernel) ⟨Nat.le_of_ble_eq_true rfl, Nat.le_of_ble_eq_true rfl⟩) hK hE hA hP hS (k := 69) (by omega) (MW.th hM1) rfl rfl hl.1 (lv_room (Nat.le_of_ble_eq_true rfl)) dL_law_250 ⟨by show cells + 0 + 2 + 0 ≤ 603072; omega, by show slots + 0 + 12 + 0 ≤ 7227498; omega⟩ (fun v G3 H locs hp3 hP hS => ?_)
    obtain ⟨⟨rfl, hM3⟩, hf3⟩ := hp3
    refine lv_istore (lv' := [(7, .int (nI ((σ.1 (4 * q + ro)).1 + 1))), (6, .int (nI 0)), (0, .ref b), (1, .ref (ad 0)), (2, .ref (ad 69)), (3, .ref (ad 114)), (4, .ref (ad 115)), (5, .int (nI i))]) hx hb dL_law_253 hl (by decide) rfl (fun ls hl => ?_)
    refine lv_aload_n hx hb dL_law_255 rfl (lv_at hl 4 rfl) ?_
    refine g_callV (As := []) (rest := []) ⟨hx, hb, hml, hown, hw⟩ (mX3_thrown l D cT 116 ad A hD G3 (by omega) 0 (MW.th hM3)) (cwV 0 hw (gWV wm_L_126 wi_X3_thrown wse_X3_thrown wini_X3 wc_X3_thrown) rfl rfl rfl (by decide +kernel) ⟨Nat.le_of_ble_eq_true rfl, Nat.le_of_ble_eq_true rfl⟩) hK hE hA hP hS (k := 69) (by omega) (MW.th hM3) rfl rfl hl.1 (lv_room (Nat.le_of_ble_eq_true rfl)) dL_law_256 ⟨by show cells + 0 + 2 + 0 + 0 ≤ 603072; omega, by show slots + 0 + 12 + 0 + 0 ≤ 7227498; omega⟩ (fun v G4 H locs hp hP hS => ?_)
    obtain ⟨hv, hg⟩ := hp
    subst hv
    rw [hg] at hP
    refine lv_iload hx hb dL_law_259 (lv_at hl 1 rfl) ?_
    refine t_icmp_eq (tgt := 266) hx hb dL_law_261 (by decide) (by omega) (by omega) (fun c_1 => ?_) (fun c_1 => absurd c_1 (by omega))
    refine lv_iload hx hb dL_law_266 (lv_at hl 1 rfl) ?_
    refine t_if_ne (tgt := 283) hx hb dL_law_268 (by decide) (by omega) (fun c_2 => absurd c_2 (by omega)) (fun c_2 => ?_)
    refine lv_aload_n hx hb dL_law_271 rfl (lv_at hl 5 rfl) ?_
    refine lv_iconst (v := nI 0) hx hb dL_law_272 (by decide) ?_
    refine g_lald hx hb hK hP (i := 114) (by omega) ((hf3 _ (by omega)).trans hO1) (by omega) (by omega) dL_law_273 ?_
    refine t_eql ((nI ((σ.1 (4 * q + ro)).1 + 1)).toInt64) (va_up_self _ _ _) ?_
    refine lv_iload hx hb dL_law_274 (lv_at hl 0 rfl) ?_
    refine lv_i2l hx hb dL_law_276 rfl ?_
    refine W.lcmp hx hb dL_law_277 ?_
    refine t_eqi (nI 0) (lgc_eq rfl) ?_
    refine t_if_eq (tgt := 283) hx hb dL_law_278 (by decide) (by omega) (fun c_3 => ?_) (fun c_3 => absurd c_3 (by omega))
    refine lv_goto (tgt := 2260) hx hb dL_law_283 (by decide) ?_
    refine W.widen (k := cells + 10) (n := slots + 100) (by omega) (by omega) ?_
    exact kont _ G3 0 _ _ H locs ls ⟨hI.row (by omega), hY1.ad (fun _ _ => rfl) (fun k hk => hf3 k (by omega)), hM3, (hf3 114 (by omega)).trans hO1, (hf3 115 (by omega)).trans ((hfo 115 (by omega)).trans ((hfe 115 (by omega)).trans hO2))⟩ hP hS (lv_sub hl [2, 3, 4, 5, 6, 7] rfl)
  · skip
    rw [hg1] at hP
    have hcd1 := cd_pos [xIA, xIO, xIS] E
    have hcd3 := cd_le [xIA, xIO, xIS] E
    have hcd4 : ([xIA, xIO, xIS] : List String).length ≤ 3 := by decide
    have hcd2 : cd [xIA, xIO, xIS] E < 65536 := by omega
    refine lv_istore (lv' := [(6, .int (nI (cd [xIA, xIO, xIS] E))), (0, .ref b), (1, .ref (ad 0)), (2, .ref (ad 69)), (3, .ref (ad 114)), (4, .ref (ad 115)), (5, .int (nI i))]) hx hb dL_law_212 hl (by decide) rfl (fun ls hl => ?_)
    refine lv_aload_n hx hb dL_law_214 rfl (lv_at hl 3 rfl) ?_
    refine lv_aload_n hx hb dL_law_215 rfl (lv_at hl 1 rfl) ?_
    refine lv_iload hx hb dL_law_216 (lv_at hl 6 rfl) ?_
    refine lv_iconst (v := nI 1) hx hb dL_law_218 (by decide) ?_
    refine lv_iadd hx hb dL_law_219 ?_
    refine t_eqi (nI (i + 1)) (nI_add i 1) ?_
    refine g_sld hx hb hX hbl hbA hS (j := i + 1) (by omega) (by omega) dL_law_220 ?_
    refine lv_i2c (v := nI (chN (xs (i + 1)))) hx hb dL_law_221 (chN_eq _) ?_
    refine lv_aload_n hx hb dL_law_222 rfl (lv_at hl 1 rfl) ?_
    refine lv_iload hx hb dL_law_223 (lv_at hl 6 rfl) ?_
    refine lv_iconst (v := nI 2) hx hb dL_law_225 (by decide) ?_
    refine lv_iadd hx hb dL_law_226 ?_
    refine t_eqi (nI (i + 2)) (nI_add i 2) ?_
    refine g_sld hx hb hX hbl hbA hS (j := i + 2) (by omega) (by omega) dL_law_227 ?_
    refine lv_aload_n hx hb dL_law_228 rfl (lv_at hl 1 rfl) ?_
    refine lv_iload hx hb dL_law_229 (lv_at hl 6 rfl) ?_
    refine lv_iconst (v := nI 3) hx hb dL_law_231 (by decide) ?_
    refine lv_iadd hx hb dL_law_232 ?_
    refine t_eqi (nI (i + 3)) (nI_add i 3) ?_
    refine g_sld hx hb hX hbl hbA hS (j := i + 3) (by omega) (by omega) dL_law_233 ?_
    refine lv_i2l hx hb dL_law_234 rfl ?_
    refine lv_bipush (v := nI 32) hx hb dL_law_235 (by decide) ?_
    refine lv_lshl (v := ((xs (i + 3)).toInt64) <<< ((nI 32).toInt64 &&& 63)) hx hb dL_law_237 rfl ?_
    refine lv_aload_n hx hb dL_law_238 rfl (lv_at hl 1 rfl) ?_
    refine lv_iload hx hb dL_law_239 (lv_at hl 6 rfl) ?_
    refine lv_iconst (v := nI 4) hx hb dL_law_241 (by decide) ?_
    refine lv_iadd hx hb dL_law_242 ?_
    refine t_eqi (nI (i + 4)) (nI_add i 4) ?_
    refine g_sld hx hb hX hbl hbA hS (j := i + 4) (by omega) (by omega) dL_law_243 ?_
    refine lv_i2l hx hb dL_law_244 rfl ?_
    refine lv_ldc2 hx hb hown (hw _ wk_L_118) dL_law_245 ?_
    refine lv_land hx hb dL_law_248 ?_
    refine lv_lor hx hb dL_law_249 ?_
    refine t_eql (lg2 (xs (i + 3)) (xs (i + 4))) rfl ?_
    refine g_callV (As := [.int (nI (chN (xs (i + 1)))), .int (xs (i + 2)), .long (lg2 (xs (i + 3)) (xs (i + 4)))]) (rest := []) ⟨hx, hb, hml, hown, hw⟩ (mX3_append_no l D cT 116 ad A hD G (by omega) σ hI th hM (chN (xs (i + 1))) (chN_lt _) (xs (i + 2)) (lg2 (xs (i + 3)) (xs (i + 4))) E hpx) (cwV 3 hw (gWV wm_L_125 wi_X3_append wse_X3_append wini_X3 wc_X3_append) rfl rfl rfl (by decide +kernel) ⟨Nat.le_of_ble_eq_true rfl, Nat.le_of_ble_eq_true rfl⟩) hK hE hA hP hS (k := 69) (by omega) (MW.th hM) rfl rfl hl.1 (lv_room (Nat.le_of_ble_eq_true rfl)) dL_law_250 ⟨by show cells + 0 + 2 + 0 ≤ 603072; omega, by show slots + 0 + 12 + 0 ≤ 7227498; omega⟩ (fun v G3 H locs hp3 hP hS => ?_)
    obtain ⟨⟨⟨z9, rfl⟩, hM3⟩, hf3⟩ := hp3
    refine lv_istore (lv' := [(7, .int z9), (6, .int (nI (cd [xIA, xIO, xIS] E))), (0, .ref b), (1, .ref (ad 0)), (2, .ref (ad 69)), (3, .ref (ad 114)), (4, .ref (ad 115)), (5, .int (nI i))]) hx hb dL_law_253 hl (by decide) rfl (fun ls hl => ?_)
    refine lv_aload_n hx hb dL_law_255 rfl (lv_at hl 4 rfl) ?_
    refine g_callV (As := []) (rest := []) ⟨hx, hb, hml, hown, hw⟩ (mX3_thrown l D cT 116 ad A hD G3 (by omega) (cd [xIA, xIO, xIS] E) (MW.th hM3)) (cwV 0 hw (gWV wm_L_126 wi_X3_thrown wse_X3_thrown wini_X3 wc_X3_thrown) rfl rfl rfl (by decide +kernel) ⟨Nat.le_of_ble_eq_true rfl, Nat.le_of_ble_eq_true rfl⟩) hK hE hA hP hS (k := 69) (by omega) (MW.th hM3) rfl rfl hl.1 (lv_room (Nat.le_of_ble_eq_true rfl)) dL_law_256 ⟨by show cells + 0 + 2 + 0 + 0 ≤ 603072; omega, by show slots + 0 + 12 + 0 + 0 ≤ 7227498; omega⟩ (fun v G4 H locs hp hP hS => ?_)
    obtain ⟨hv, hg⟩ := hp
    subst hv
    rw [hg] at hP
    refine lv_iload hx hb dL_law_259 (lv_at hl 1 rfl) ?_
    refine t_icmp_eq (tgt := 266) hx hb dL_law_261 (by decide) (by omega) (by omega) (fun c_4 => ?_) (fun c_4 => ?_)
    · skip
      refine lv_iload hx hb dL_law_266 (lv_at hl 1 rfl) ?_
      refine t_if_ne (tgt := 283) hx hb dL_law_268 (by decide) (by omega) (fun c_5 => ?_) (fun c_5 => ?_)
      · skip
        refine lv_goto (tgt := 2260) hx hb dL_law_283 (by decide) ?_
        refine W.widen (k := cells + 10) (n := slots + 100) (by omega) (by omega) ?_
        exact kont σ G3 _ f f2 H locs ls ⟨hI, hY.ad (fun _ _ => rfl) (fun k hk => hf3 k (by omega)), hM3, (hf3 114 (by omega)).trans hO, (hf3 115 (by omega)).trans hO2⟩ hP hS (lv_sub hl [2, 3, 4, 5, 6, 7] rfl)
      · exfalso; omega
    · exfalso; omega

set_option maxHeartbeats 4000000 in
set_option maxRecDepth 100000 in
theorem lc_lay {p : Program} {l : Launch} {e : Env} {s : State} {m : MethodId} {below : List Frame} {meth : Method} {c : Code} {b L : Nat} {xs : Nat → Int32} {D : va_G} {cT : Nat → ClassId} {ad : Nat → Nat} {A : Nat → Prop} {Q : State → Prop} {i cells slots : Nat} {H : Heap} {locs : List Loc} {ls : Array Slot} {σ : TY} {G : Nat → va_E} {th : Nat} {f : Nat → Int64} {f2 : Nat → UInt64} (hX9 : LX p l s m meth c b L xs D cT ad A) (hi : i + 8 ≤ L) (hc : cells + 10 ≤ 603072) (hs : slots + 100 ≤ 7227498) (hst : LSt cT ad G σ th f f2) (hP : va_P D vwCl (gw 116 ad G) H) (hS : va_S A s.heap H locs) (hl : lv_has ls 9 (LVL b ad i)) (kont : LK p l e s m below meth c b D cT ad A Q i (cells + 10) (slots + 100) 2260) : W p l e room_1 s m #[Value.ref b] below meth c H locs cells slots Q (F0 m 286 ls []) := by
  obtain ⟨hx, hb, hml, hown, hw, hX, hbl, hbA, hK, hE, hA, hD, hN, hl9, hL⟩ := hX9
  obtain ⟨hI, hY, hM, hO, hO2⟩ := hst
  refine lv_aload_n hx hb dL_law_286 rfl (lv_at hl 1 rfl) ?_
  refine lv_aload_n hx hb dL_law_287 rfl (lv_at hl 0 rfl) ?_
  refine lv_iload hx hb dL_law_288 (lv_at hl 5 rfl) ?_
  refine lv_iconst (v := nI 1) hx hb dL_law_290 (by decide) ?_
  refine lv_iadd hx hb dL_law_291 ?_
  refine t_eqi (nI (i + 1)) (nI_add i 1) ?_
  refine g_sld hx hb hX hbl hbA hS (j := i + 1) (by omega) (by omega) dL_law_292 ?_
  refine lv_i2c (v := nI (chN (xs (i + 1)))) hx hb dL_law_293 (chN_eq _) ?_
  refine lv_aload_n hx hb dL_law_294 rfl (lv_at hl 0 rfl) ?_
  refine lv_iload hx hb dL_law_295 (lv_at hl 5 rfl) ?_
  refine lv_iconst (v := nI 2) hx hb dL_law_297 (by decide) ?_
  refine lv_iadd hx hb dL_law_298 ?_
  refine t_eqi (nI (i + 2)) (nI_add i 2) ?_
  refine g_sld hx hb hX hbl hbA hS (j := i + 2) (by omega) (by omega) dL_law_299 ?_
  refine lv_aload_n hx hb dL_law_300 rfl (lv_at hl 0 rfl) ?_
  refine lv_iload hx hb dL_law_301 (lv_at hl 5 rfl) ?_
  refine lv_iconst (v := nI 3) hx hb dL_law_303 (by decide) ?_
  refine lv_iadd hx hb dL_law_304 ?_
  refine t_eqi (nI (i + 3)) (nI_add i 3) ?_
  refine g_sld hx hb hX hbl hbA hS (j := i + 3) (by omega) (by omega) dL_law_305 ?_
  refine lv_aload_n hx hb dL_law_306 rfl (lv_at hl 0 rfl) ?_
  refine lv_iload hx hb dL_law_307 (lv_at hl 5 rfl) ?_
  refine lv_iconst (v := nI 4) hx hb dL_law_309 (by decide) ?_
  refine lv_iadd hx hb dL_law_310 ?_
  refine t_eqi (nI (i + 4)) (nI_add i 4) ?_
  refine g_sld hx hb hX hbl hbA hS (j := i + 4) (by omega) (by omega) dL_law_311 ?_
  refine lv_i2l hx hb dL_law_312 rfl ?_
  refine lv_bipush (v := nI 32) hx hb dL_law_313 (by decide) ?_
  refine lv_lshl (v := ((xs (i + 4)).toInt64) <<< ((nI 32).toInt64 &&& 63)) hx hb dL_law_315 rfl ?_
  refine lv_aload_n hx hb dL_law_316 rfl (lv_at hl 0 rfl) ?_
  refine lv_iload hx hb dL_law_317 (lv_at hl 5 rfl) ?_
  refine lv_iconst (v := nI 5) hx hb dL_law_319 (by decide) ?_
  refine lv_iadd hx hb dL_law_320 ?_
  refine t_eqi (nI (i + 5)) (nI_add i 5) ?_
  refine g_sld hx hb hX hbl hbA hS (j := i + 5) (by omega) (by omega) dL_law_321 ?_
  refine lv_i2l hx hb dL_law_322 rfl ?_
  refine lv_ldc2 hx hb hown (hw _ wk_L_118) dL_law_323 ?_
  refine lv_land hx hb dL_law_326 ?_
  refine lv_lor hx hb dL_law_327 ?_
  refine t_eql (lg2 (xs (i + 4)) (xs (i + 5))) rfl ?_
  refine lv_aload_n hx hb dL_law_328 rfl (lv_at hl 0 rfl) ?_
  refine lv_iload hx hb dL_law_329 (lv_at hl 5 rfl) ?_
  refine lv_bipush (v := nI 6) hx hb dL_law_331 (by decide) ?_
  refine lv_iadd hx hb dL_law_333 ?_
  refine t_eqi (nI (i + 6)) (nI_add i 6) ?_
  refine g_sld hx hb hX hbl hbA hS (j := i + 6) (by omega) (by omega) dL_law_334 ?_
  refine lv_i2l hx hb dL_law_335 rfl ?_
  refine lv_bipush (v := nI 32) hx hb dL_law_336 (by decide) ?_
  refine lv_lshl (v := ((xs (i + 6)).toInt64) <<< ((nI 32).toInt64 &&& 63)) hx hb dL_law_338 rfl ?_
  refine lv_aload_n hx hb dL_law_339 rfl (lv_at hl 0 rfl) ?_
  refine lv_iload hx hb dL_law_340 (lv_at hl 5 rfl) ?_
  refine lv_bipush (v := nI 7) hx hb dL_law_342 (by decide) ?_
  refine lv_iadd hx hb dL_law_344 ?_
  refine t_eqi (nI (i + 7)) (nI_add i 7) ?_
  refine g_sld hx hb hX hbl hbA hS (j := i + 7) (by omega) (by omega) dL_law_345 ?_
  refine lv_i2l hx hb dL_law_346 rfl ?_
  refine lv_ldc2 hx hb hown (hw _ wk_L_118) dL_law_347 ?_
  refine lv_land hx hb dL_law_350 ?_
  refine lv_lor hx hb dL_law_351 ?_
  refine t_eql (lg2 (xs (i + 6)) (xs (i + 7))) rfl ?_
  refine lv_aload_n hx hb dL_law_352 rfl (lv_at hl 3 rfl) ?_
  refine g_callSH (As := [.ref (ad 0), .int (nI (chN (xs (i + 1)))), .int (xs (i + 2)), .int (xs (i + 3)), .long (lg2 (xs (i + 4)) (xs (i + 5))), .long (lg2 (xs (i + 6)) (xs (i + 7))), .ref (ad 114)]) (rest := []) ⟨hx, hb, hml, hown, hw⟩ (mL_lay l hl9 D cT 116 ad A hD G (Nat.le_refl _) σ hY hI f hO (chN (xs (i + 1))) (chN_lt _) (xs (i + 2)) (xs (i + 3)) (lg2 (xs (i + 4)) (xs (i + 5))) (lg2 (xs (i + 6)) (xs (i + 7)))) (vx_cwSW 7 hw (gWSB wm_L_130 wst_L_lay wini_L wcw_L_lay) rfl rfl rfl (by decide +kernel) ⟨Nat.le_of_ble_eq_true rfl, Nat.le_of_ble_eq_true rfl⟩) hK hE hA hP hS rfl hl.1 (lv_room (Nat.le_of_ble_eq_true rfl)) dL_law_353 ⟨by show cells + 0 + 1 ≤ 603072; omega, by show slots + 0 + 6 ≤ 7227498; omega⟩ (fun v G1 H locs hp hP hS => ?_)
  rcases hp with ⟨y8, G2, hcl, hO1, hfo, rfl⟩ | ⟨E, hpx, rfl, hg1⟩
  · skip
    rcases hcl with ⟨⟨t, ht, hy1, q, ro, hq, hro, hkq, hx1, hv, hY2⟩, hfr⟩
    have hfe : ∀ j, 69 ≤ j → G2 j = G j := hfr
    have hM1 : MW cT ad G1 σ th := hM.keep (fun j h1 h2 => (hfo j (by omega)).trans (hfe j (by omega)))
    have hY1 := hY2.ad (ad2 := ad) (G2 := G1) (fun _ _ => rfl) (fun k hk => hfo k (by omega))
    obtain rfl := Value.int.inj (Option.some.inj hv)
    refine lv_istore (lv' := [(6, .int (nI 0)), (0, .ref b), (1, .ref (ad 0)), (2, .ref (ad 69)), (3, .ref (ad 114)), (4, .ref (ad 115)), (5, .int (nI i))]) hx hb dL_law_356 hl (by decide) rfl (fun ls hl => ?_)
    refine lv_aload_n hx hb dL_law_358 rfl (lv_at hl 3 rfl) ?_
    refine lv_aload_n hx hb dL_law_359 rfl (lv_at hl 1 rfl) ?_
    refine lv_iload hx hb dL_law_360 (lv_at hl 6 rfl) ?_
    refine lv_iconst (v := nI 1) hx hb dL_law_362 (by decide) ?_
    refine lv_iadd hx hb dL_law_363 ?_
    refine t_eqi (nI (i + 1)) (nI_add i 1) ?_
    refine g_sld hx hb hX hbl hbA hS (j := i + 1) (by omega) (by omega) dL_law_364 ?_
    refine lv_i2c (v := nI (chN (xs (i + 1)))) hx hb dL_law_365 (chN_eq _) ?_
    refine lv_aload_n hx hb dL_law_366 rfl (lv_at hl 1 rfl) ?_
    refine lv_iload hx hb dL_law_367 (lv_at hl 6 rfl) ?_
    refine lv_iconst (v := nI 2) hx hb dL_law_369 (by decide) ?_
    refine lv_iadd hx hb dL_law_370 ?_
    refine t_eqi (nI (i + 2)) (nI_add i 2) ?_
    refine g_sld hx hb hX hbl hbA hS (j := i + 2) (by omega) (by omega) dL_law_371 ?_
    refine t_eqi (nI ro) hx1 ?_
    refine lv_aload_n hx hb dL_law_372 rfl (lv_at hl 1 rfl) ?_
    refine lv_iload hx hb dL_law_373 (lv_at hl 6 rfl) ?_
    refine lv_iconst (v := nI 3) hx hb dL_law_375 (by decide) ?_
    refine lv_iadd hx hb dL_law_376 ?_
    refine t_eqi (nI (i + 3)) (nI_add i 3) ?_
    refine g_sld hx hb hX hbl hbA hS (j := i + 3) (by omega) (by omega) dL_law_377 ?_
    refine t_eqi (nI t) hy1 ?_
    refine lv_aload_n hx hb dL_law_378 rfl (lv_at hl 1 rfl) ?_
    refine lv_iload hx hb dL_law_379 (lv_at hl 6 rfl) ?_
    refine lv_iconst (v := nI 4) hx hb dL_law_381 (by decide) ?_
    refine lv_iadd hx hb dL_law_382 ?_
    refine t_eqi (nI (i + 4)) (nI_add i 4) ?_
    refine g_sld hx hb hX hbl hbA hS (j := i + 4) (by omega) (by omega) dL_law_383 ?_
    refine lv_i2l hx hb dL_law_384 rfl ?_
    refine lv_bipush (v := nI 32) hx hb dL_law_385 (by decide) ?_
    refine lv_lshl (v := ((xs (i + 4)).toInt64) <<< ((nI 32).toInt64 &&& 63)) hx hb dL_law_387 rfl ?_
    refine lv_aload_n hx hb dL_law_388 rfl (lv_at hl 1 rfl) ?_
    refine lv_iload hx hb dL_law_389 (lv_at hl 6 rfl) ?_
    refine lv_iconst (v := nI 5) hx hb dL_law_391 (by decide) ?_
    refine lv_iadd hx hb dL_law_392 ?_
    refine t_eqi (nI (i + 5)) (nI_add i 5) ?_
    refine g_sld hx hb hX hbl hbA hS (j := i + 5) (by omega) (by omega) dL_law_393 ?_
    refine lv_i2l hx hb dL_law_394 rfl ?_
    refine lv_ldc2 hx hb hown (hw _ wk_L_118) dL_law_395 ?_
    refine lv_land hx hb dL_law_398 ?_
    refine lv_lor hx hb dL_law_399 ?_
    refine t_eql (lg2 (xs (i + 4)) (xs (i + 5))) rfl ?_
    refine lv_aload_n hx hb dL_law_400 rfl (lv_at hl 1 rfl) ?_
    refine lv_iload hx hb dL_law_401 (lv_at hl 6 rfl) ?_
    refine lv_bipush (v := nI 6) hx hb dL_law_403 (by decide) ?_
    refine lv_iadd hx hb dL_law_405 ?_
    refine t_eqi (nI (i + 6)) (nI_add i 6) ?_
    refine g_sld hx hb hX hbl hbA hS (j := i + 6) (by omega) (by omega) dL_law_406 ?_
    refine lv_i2l hx hb dL_law_407 rfl ?_
    refine lv_bipush (v := nI 32) hx hb dL_law_408 (by decide) ?_
    refine lv_lshl (v := ((xs (i + 6)).toInt64) <<< ((nI 32).toInt64 &&& 63)) hx hb dL_law_410 rfl ?_
    refine lv_aload_n hx hb dL_law_411 rfl (lv_at hl 1 rfl) ?_
    refine lv_iload hx hb dL_law_412 (lv_at hl 6 rfl) ?_
    refine lv_bipush (v := nI 7) hx hb dL_law_414 (by decide) ?_
    refine lv_iadd hx hb dL_law_416 ?_
    refine t_eqi (nI (i + 7)) (nI_add i 7) ?_
    refine g_sld hx hb hX hbl hbA hS (j := i + 7) (by omega) (by omega) dL_law_417 ?_
    refine lv_i2l hx hb dL_law_418 rfl ?_
    refine lv_ldc2 hx hb hown (hw _ wk_L_118) dL_law_419 ?_
    refine lv_land hx hb dL_law_422 ?_
    refine lv_lor hx hb dL_law_423 ?_
    refine t_eql (lg2 (xs (i + 6)) (xs (i + 7))) rfl ?_
    refine g_callV (As := [.int (nI (chN (xs (i + 1)))), .int (nI ro), .int (nI t), .long (lg2 (xs (i + 4)) (xs (i + 5))), .long (lg2 (xs (i + 6)) (xs (i + 7)))]) (rest := []) ⟨hx, hb, hml, hown, hw⟩ (mX3_lay_ok l D cT 116 ad A hD G1 (by omega) σ hI th hM1 (chN (xs (i + 1))) (chN_lt _) q ro hq hro hkq t ht (lg2 (xs (i + 4)) (xs (i + 5))) (lg2 (xs (i + 6)) (xs (i + 7)))) (cwV 5 hw (gWV wm_L_133 wi_X3_lay wse_X3_lay wini_X3 wc_X3_lay) rfl rfl rfl (by decide +kernel) ⟨Nat.le_of_ble_eq_true rfl, Nat.le_of_ble_eq_true rfl⟩) hK hE hA hP hS (k := 69) (by omega) (MW.th hM1) rfl rfl hl.1 (lv_room (Nat.le_of_ble_eq_true rfl)) dL_law_424 ⟨by show cells + 0 + 1 + 0 ≤ 603072; omega, by show slots + 0 + 6 + 0 ≤ 7227498; omega⟩ (fun v G3 H locs hp3 hP hS => ?_)
    obtain ⟨⟨rfl, hM3⟩, hf3⟩ := hp3
    refine lv_istore (lv' := [(7, .int (nI ((σ.1 (4 * q + ro)).1))), (6, .int (nI 0)), (0, .ref b), (1, .ref (ad 0)), (2, .ref (ad 69)), (3, .ref (ad 114)), (4, .ref (ad 115)), (5, .int (nI i))]) hx hb dL_law_427 hl (by decide) rfl (fun ls hl => ?_)
    refine lv_aload_n hx hb dL_law_429 rfl (lv_at hl 4 rfl) ?_
    refine g_callV (As := []) (rest := []) ⟨hx, hb, hml, hown, hw⟩ (mX3_thrown l D cT 116 ad A hD G3 (by omega) 0 (MW.th hM3)) (cwV 0 hw (gWV wm_L_126 wi_X3_thrown wse_X3_thrown wini_X3 wc_X3_thrown) rfl rfl rfl (by decide +kernel) ⟨Nat.le_of_ble_eq_true rfl, Nat.le_of_ble_eq_true rfl⟩) hK hE hA hP hS (k := 69) (by omega) (MW.th hM3) rfl rfl hl.1 (lv_room (Nat.le_of_ble_eq_true rfl)) dL_law_430 ⟨by show cells + 0 + 1 + 0 + 0 ≤ 603072; omega, by show slots + 0 + 6 + 0 + 0 ≤ 7227498; omega⟩ (fun v G4 H locs hp hP hS => ?_)
    obtain ⟨hv, hg⟩ := hp
    subst hv
    rw [hg] at hP
    refine lv_iload hx hb dL_law_433 (lv_at hl 1 rfl) ?_
    refine t_icmp_eq (tgt := 440) hx hb dL_law_435 (by decide) (by omega) (by omega) (fun c_1 => ?_) (fun c_1 => absurd c_1 (by omega))
    refine lv_iload hx hb dL_law_440 (lv_at hl 1 rfl) ?_
    refine t_if_ne (tgt := 457) hx hb dL_law_442 (by decide) (by omega) (fun c_2 => absurd c_2 (by omega)) (fun c_2 => ?_)
    refine lv_aload_n hx hb dL_law_445 rfl (lv_at hl 5 rfl) ?_
    refine lv_iconst (v := nI 0) hx hb dL_law_446 (by decide) ?_
    refine g_lald hx hb hK hP (i := 114) (by omega) ((hf3 _ (by omega)).trans hO1) (by omega) (by omega) dL_law_447 ?_
    refine t_eql ((nI ((σ.1 (4 * q + ro)).1)).toInt64) (va_up_self _ _ _) ?_
    refine lv_iload hx hb dL_law_448 (lv_at hl 0 rfl) ?_
    refine lv_i2l hx hb dL_law_450 rfl ?_
    refine W.lcmp hx hb dL_law_451 ?_
    refine t_eqi (nI 0) (lgc_eq rfl) ?_
    refine t_if_eq (tgt := 457) hx hb dL_law_452 (by decide) (by omega) (fun c_3 => ?_) (fun c_3 => absurd c_3 (by omega))
    refine lv_goto (tgt := 2260) hx hb dL_law_457 (by decide) ?_
    refine W.widen (k := cells + 10) (n := slots + 100) (by omega) (by omega) ?_
    exact kont _ G3 0 _ _ H locs ls ⟨hI.row ht, hY1.ad (fun _ _ => rfl) (fun k hk => hf3 k (by omega)), hM3, (hf3 114 (by omega)).trans hO1, (hf3 115 (by omega)).trans ((hfo 115 (by omega)).trans ((hfe 115 (by omega)).trans hO2))⟩ hP hS (lv_sub hl [2, 3, 4, 5, 6, 7] rfl)
  · skip
    rw [hg1] at hP
    have hcd1 := cd_pos [xIA, xIO] E
    have hcd3 := cd_le [xIA, xIO] E
    have hcd4 : ([xIA, xIO] : List String).length ≤ 3 := by decide
    have hcd2 : cd [xIA, xIO] E < 65536 := by omega
    refine lv_istore (lv' := [(6, .int (nI (cd [xIA, xIO] E))), (0, .ref b), (1, .ref (ad 0)), (2, .ref (ad 69)), (3, .ref (ad 114)), (4, .ref (ad 115)), (5, .int (nI i))]) hx hb dL_law_356 hl (by decide) rfl (fun ls hl => ?_)
    refine lv_aload_n hx hb dL_law_358 rfl (lv_at hl 3 rfl) ?_
    refine lv_aload_n hx hb dL_law_359 rfl (lv_at hl 1 rfl) ?_
    refine lv_iload hx hb dL_law_360 (lv_at hl 6 rfl) ?_
    refine lv_iconst (v := nI 1) hx hb dL_law_362 (by decide) ?_
    refine lv_iadd hx hb dL_law_363 ?_
    refine t_eqi (nI (i + 1)) (nI_add i 1) ?_
    refine g_sld hx hb hX hbl hbA hS (j := i + 1) (by omega) (by omega) dL_law_364 ?_
    refine lv_i2c (v := nI (chN (xs (i + 1)))) hx hb dL_law_365 (chN_eq _) ?_
    refine lv_aload_n hx hb dL_law_366 rfl (lv_at hl 1 rfl) ?_
    refine lv_iload hx hb dL_law_367 (lv_at hl 6 rfl) ?_
    refine lv_iconst (v := nI 2) hx hb dL_law_369 (by decide) ?_
    refine lv_iadd hx hb dL_law_370 ?_
    refine t_eqi (nI (i + 2)) (nI_add i 2) ?_
    refine g_sld hx hb hX hbl hbA hS (j := i + 2) (by omega) (by omega) dL_law_371 ?_
    refine lv_aload_n hx hb dL_law_372 rfl (lv_at hl 1 rfl) ?_
    refine lv_iload hx hb dL_law_373 (lv_at hl 6 rfl) ?_
    refine lv_iconst (v := nI 3) hx hb dL_law_375 (by decide) ?_
    refine lv_iadd hx hb dL_law_376 ?_
    refine t_eqi (nI (i + 3)) (nI_add i 3) ?_
    refine g_sld hx hb hX hbl hbA hS (j := i + 3) (by omega) (by omega) dL_law_377 ?_
    refine lv_aload_n hx hb dL_law_378 rfl (lv_at hl 1 rfl) ?_
    refine lv_iload hx hb dL_law_379 (lv_at hl 6 rfl) ?_
    refine lv_iconst (v := nI 4) hx hb dL_law_381 (by decide) ?_
    refine lv_iadd hx hb dL_law_382 ?_
    refine t_eqi (nI (i + 4)) (nI_add i 4) ?_
    refine g_sld hx hb hX hbl hbA hS (j := i + 4) (by omega) (by omega) dL_law_383 ?_
    refine lv_i2l hx hb dL_law_384 rfl ?_
    refine lv_bipush (v := nI 32) hx hb dL_law_385 (by decide) ?_
    refine lv_lshl (v := ((xs (i + 4)).toInt64) <<< ((nI 32).toInt64 &&& 63)) hx hb dL_law_387 rfl ?_
    refine lv_aload_n hx hb dL_law_388 rfl (lv_at hl 1 rfl) ?_
    refine lv_iload hx hb dL_law_389 (lv_at hl 6 rfl) ?_
    refine lv_iconst (v := nI 5) hx hb dL_law_391 (by decide) ?_
    refine lv_iadd hx hb dL_law_392 ?_
    refine t_eqi (nI (i + 5)) (nI_add i 5) ?_
    refine g_sld hx hb hX hbl hbA hS (j := i + 5) (by omega) (by omega) dL_law_393 ?_
    refine lv_i2l hx hb dL_law_394 rfl ?_
    refine lv_ldc2 hx hb hown (hw _ wk_L_118) dL_law_395 ?_
    refine lv_land hx hb dL_law_398 ?_
    refine lv_lor hx hb dL_law_399 ?_
    refine t_eql (lg2 (xs (i + 4)) (xs (i + 5))) rfl ?_
    refine lv_aload_n hx hb dL_law_400 rfl (lv_at hl 1 rfl) ?_
    refine lv_iload hx hb dL_law_401 (lv_at hl 6 rfl) ?_
    refine lv_bipush (v := nI 6) hx hb dL_law_403 (by decide) ?_
    refine lv_iadd hx hb dL_law_405 ?_
    refine t_eqi (nI (i + 6)) (nI_add i 6) ?_
    refine g_sld hx hb hX hbl hbA hS (j := i + 6) (by omega) (by omega) dL_law_406 ?_
    refine lv_i2l hx hb dL_law_407 rfl ?_
    refine lv_bipush (v := nI 32) hx hb dL_law_408 (by decide) ?_
    refine lv_lshl (v := ((xs (i + 6)).toInt64) <<< ((nI 32).toInt64 &&& 63)) hx hb dL_law_410 rfl ?_
    refine lv_aload_n hx hb dL_law_411 rfl (lv_at hl 1 rfl) ?_
    refine lv_iload hx hb dL_law_412 (lv_at hl 6 rfl) ?_
    refine lv_bipush (v := nI 7) hx hb dL_law_414 (by decide) ?_
    refine lv_iadd hx hb dL_law_416 ?_
    refine t_eqi (nI (i + 7)) (nI_add i 7) ?_
    refine g_sld hx hb hX hbl hbA hS (j := i + 7) (by omega) (by omega) dL_law_417 ?_
    refine lv_i2l hx hb dL_law_418 rfl ?_
    refine lv_ldc2 hx hb hown (hw _ wk_L_118) dL_law_419 ?_
    refine lv_land hx hb dL_law_422 ?_
    refine lv_lor hx hb dL_law_423 ?_
    refine t_eql (lg2 (xs (i + 6)) (xs (i + 7))) rfl ?_
    refine g_callV (As := [.int (nI (chN (xs (i + 1)))), .int (xs (i + 2)), .int (xs (i + 3)), .long (lg2 (xs (i + 4)) (xs (i + 5))), .long (lg2 (xs (i + 6)) (xs (i + 7)))]) (rest := []) ⟨hx, hb, hml, hown, hw⟩ (mX3_lay_no l D cT 116 ad A hD G (by omega) σ hI th hM (chN (xs (i + 1))) (chN_lt _) (xs (i + 2)) (xs (i + 3)) (lg2 (xs (i + 4)) (xs (i + 5))) (lg2 (xs (i + 6)) (xs (i + 7))) E hpx) (cwV 5 hw (gWV wm_L_133 wi_X3_lay wse_X3_lay wini_X3 wc_X3_lay) rfl rfl rfl (by decide +kernel) ⟨Nat.le_of_ble_eq_true rfl, Nat.le_of_ble_eq_true rfl⟩) hK hE hA hP hS (k := 69) (by omega) (MW.th hM) rfl rfl hl.1 (lv_room (Nat.le_of_ble_eq_true rfl)) dL_law_424 ⟨by show cells + 0 + 1 + 0 ≤ 603072; omega, by show slots + 0 + 6 + 0 ≤ 7227498; omega⟩ (fun v G3 H locs hp3 hP hS => ?_)
    obtain ⟨⟨⟨z9, rfl⟩, hM3⟩, hf3⟩ := hp3
    refine lv_istore (lv' := [(7, .int z9), (6, .int (nI (cd [xIA, xIO] E))), (0, .ref b), (1, .ref (ad 0)), (2, .ref (ad 69)), (3, .ref (ad 114)), (4, .ref (ad 115)), (5, .int (nI i))]) hx hb dL_law_427 hl (by decide) rfl (fun ls hl => ?_)
    refine lv_aload_n hx hb dL_law_429 rfl (lv_at hl 4 rfl) ?_
    refine g_callV (As := []) (rest := []) ⟨hx, hb, hml, hown, hw⟩ (mX3_thrown l D cT 116 ad A hD G3 (by omega) (cd [xIA, xIO] E) (MW.th hM3)) (cwV 0 hw (gWV wm_L_126 wi_X3_thrown wse_X3_thrown wini_X3 wc_X3_thrown) rfl rfl rfl (by decide +kernel) ⟨Nat.le_of_ble_eq_true rfl, Nat.le_of_ble_eq_true rfl⟩) hK hE hA hP hS (k := 69) (by omega) (MW.th hM3) rfl rfl hl.1 (lv_room (Nat.le_of_ble_eq_true rfl)) dL_law_430 ⟨by show cells + 0 + 1 + 0 + 0 ≤ 603072; omega, by show slots + 0 + 6 + 0 + 0 ≤ 7227498; omega⟩ (fun v G4 H locs hp hP hS => ?_)
    obtain ⟨hv, hg⟩ := hp
    subst hv
    rw [hg] at hP
    refine lv_iload hx hb dL_law_433 (lv_at hl 1 rfl) ?_
    refine t_icmp_eq (tgt := 440) hx hb dL_law_435 (by decide) (by omega) (by omega) (fun c_4 => ?_) (fun c_4 => ?_)
    · skip
      refine lv_iload hx hb dL_law_440 (lv_at hl 1 rfl) ?_
      refine t_if_ne (tgt := 457) hx hb dL_law_442 (by decide) (by omega) (fun c_5 => ?_) (fun c_5 => ?_)
      · skip
        refine lv_goto (tgt := 2260) hx hb dL_law_457 (by decide) ?_
        refine W.widen (k := cells + 10) (n := slots + 100) (by omega) (by omega) ?_
        exact kont σ G3 _ f f2 H locs ls ⟨hI, hY.ad (fun _ _ => rfl) (fun k hk => hf3 k (by omega)), hM3, (hf3 114 (by omega)).trans hO, (hf3 115 (by omega)).trans hO2⟩ hP hS (lv_sub hl [2, 3, 4, 5, 6, 7] rfl)
      · exfalso; omega
    · exfalso; omega

set_option maxHeartbeats 4000000 in
set_option maxRecDepth 100000 in
theorem lc_turn {p : Program} {l : Launch} {e : Env} {s : State} {m : MethodId} {below : List Frame} {meth : Method} {c : Code} {b L : Nat} {xs : Nat → Int32} {D : va_G} {cT : Nat → ClassId} {ad : Nat → Nat} {A : Nat → Prop} {Q : State → Prop} {i cells slots : Nat} {H : Heap} {locs : List Loc} {ls : Array Slot} {σ : TY} {G : Nat → va_E} {th : Nat} {f : Nat → Int64} {f2 : Nat → UInt64} (hX9 : LX p l s m meth c b L xs D cT ad A) (hi : i + 8 ≤ L) (hc : cells + 10 ≤ 603072) (hs : slots + 100 ≤ 7227498) (hst : LSt cT ad G σ th f f2) (hP : va_P D vwCl (gw 116 ad G) H) (hS : va_S A s.heap H locs) (hl : lv_has ls 9 (LVL b ad i)) (kont : LK p l e s m below meth c b D cT ad A Q i (cells + 10) (slots + 100) 2260) : W p l e room_1 s m #[Value.ref b] below meth c H locs cells slots Q (F0 m 460 ls []) := by
  obtain ⟨hx, hb, hml, hown, hw, hX, hbl, hbA, hK, hE, hA, hD, hN, hl9, hL⟩ := hX9
  obtain ⟨hI, hY, hM, hO, hO2⟩ := hst
  refine lv_aload_n hx hb dL_law_460 rfl (lv_at hl 1 rfl) ?_
  refine lv_aload_n hx hb dL_law_461 rfl (lv_at hl 0 rfl) ?_
  refine lv_iload hx hb dL_law_462 (lv_at hl 5 rfl) ?_
  refine lv_iconst (v := nI 1) hx hb dL_law_464 (by decide) ?_
  refine lv_iadd hx hb dL_law_465 ?_
  refine t_eqi (nI (i + 1)) (nI_add i 1) ?_
  refine g_sld hx hb hX hbl hbA hS (j := i + 1) (by omega) (by omega) dL_law_466 ?_
  refine lv_i2c (v := nI (chN (xs (i + 1)))) hx hb dL_law_467 (chN_eq _) ?_
  refine lv_aload_n hx hb dL_law_468 rfl (lv_at hl 0 rfl) ?_
  refine lv_iload hx hb dL_law_469 (lv_at hl 5 rfl) ?_
  refine lv_iconst (v := nI 2) hx hb dL_law_471 (by decide) ?_
  refine lv_iadd hx hb dL_law_472 ?_
  refine t_eqi (nI (i + 2)) (nI_add i 2) ?_
  refine g_sld hx hb hX hbl hbA hS (j := i + 2) (by omega) (by omega) dL_law_473 ?_
  refine lv_aload_n hx hb dL_law_474 rfl (lv_at hl 3 rfl) ?_
  refine g_callSH (As := [.ref (ad 0), .int (nI (chN (xs (i + 1)))), .int (xs (i + 2)), .ref (ad 114)]) (rest := []) ⟨hx, hb, hml, hown, hw⟩ (mL_turn l hl9 D cT 116 ad A hD G (Nat.le_refl _) σ hY hI f hO (chN (xs (i + 1))) (chN_lt _) (xs (i + 2))) (vx_cwSW 4 hw (gWSB wm_L_134 wst_L_turn wini_L wcw_L_turn) rfl rfl rfl (by decide +kernel) ⟨Nat.le_of_ble_eq_true rfl, Nat.le_of_ble_eq_true rfl⟩) hK hE hA hP hS rfl hl.1 (lv_room (Nat.le_of_ble_eq_true rfl)) dL_law_475 ⟨by show cells + 0 + 1 ≤ 603072; omega, by show slots + 0 + 6 ≤ 7227498; omega⟩ (fun v G1 H locs hp hP hS => ?_)
  rcases hp with ⟨y8, G2, hcl, hO1, hfo, rfl⟩ | ⟨E, hpx, rfl, hg1⟩
  · skip
    rcases hcl with ⟨⟨q, ro, hq, hro, hkq, hx1, hv, hY2⟩, hfr⟩
    have hfe : ∀ j, 69 ≤ j → G2 j = G j := hfr
    have hM1 : MW cT ad G1 σ th := hM.keep (fun j h1 h2 => (hfo j (by omega)).trans (hfe j (by omega)))
    have hY1 := hY2.ad (ad2 := ad) (G2 := G1) (fun _ _ => rfl) (fun k hk => hfo k (by omega))
    obtain rfl := Value.int.inj (Option.some.inj hv)
    refine lv_istore (lv' := [(6, .int (nI 0)), (0, .ref b), (1, .ref (ad 0)), (2, .ref (ad 69)), (3, .ref (ad 114)), (4, .ref (ad 115)), (5, .int (nI i))]) hx hb dL_law_478 hl (by decide) rfl (fun ls hl => ?_)
    refine lv_aload_n hx hb dL_law_480 rfl (lv_at hl 3 rfl) ?_
    refine lv_aload_n hx hb dL_law_481 rfl (lv_at hl 1 rfl) ?_
    refine lv_iload hx hb dL_law_482 (lv_at hl 6 rfl) ?_
    refine lv_iconst (v := nI 1) hx hb dL_law_484 (by decide) ?_
    refine lv_iadd hx hb dL_law_485 ?_
    refine t_eqi (nI (i + 1)) (nI_add i 1) ?_
    refine g_sld hx hb hX hbl hbA hS (j := i + 1) (by omega) (by omega) dL_law_486 ?_
    refine lv_i2c (v := nI (chN (xs (i + 1)))) hx hb dL_law_487 (chN_eq _) ?_
    refine lv_aload_n hx hb dL_law_488 rfl (lv_at hl 1 rfl) ?_
    refine lv_iload hx hb dL_law_489 (lv_at hl 6 rfl) ?_
    refine lv_iconst (v := nI 2) hx hb dL_law_491 (by decide) ?_
    refine lv_iadd hx hb dL_law_492 ?_
    refine t_eqi (nI (i + 2)) (nI_add i 2) ?_
    refine g_sld hx hb hX hbl hbA hS (j := i + 2) (by omega) (by omega) dL_law_493 ?_
    refine t_eqi (nI ro) hx1 ?_
    refine g_callVC (As := [.int (nI (chN (xs (i + 1)))), .int (nI ro)]) (rest := []) ⟨hx, hb, hml, hown, hw⟩ (mX3_turn_ok l D cT 116 ad A hD G1 (by omega) σ hI th hM1 (chN (xs (i + 1))) (chN_lt _) q ro hq hro hkq) (cwV 2 hw (gWV wm_L_137 wi_X3_turn wse_X3_turn wini_X3 wc_X3_turn) rfl rfl rfl (by decide +kernel) ⟨Nat.le_of_ble_eq_true rfl, Nat.le_of_ble_eq_true rfl⟩) hK hE hA hN hP hS (k := 69) (by omega) (MW.th hM1) rfl rfl hl.1 (lv_room (Nat.le_of_ble_eq_true rfl)) dL_law_494 ⟨by show cells + 0 + 1 + 1 ≤ 603072; omega, by show slots + 0 + 6 + 48 ≤ 7227498; omega⟩ (fun v G3 H locs hp3 hP hS => ?_)
    obtain ⟨⟨rfl, hM3⟩, hf3⟩ := hp3
    refine lv_istore (lv' := [(7, .int (nI ((σ.1 (4 * q + ro)).1))), (6, .int (nI 0)), (0, .ref b), (1, .ref (ad 0)), (2, .ref (ad 69)), (3, .ref (ad 114)), (4, .ref (ad 115)), (5, .int (nI i))]) hx hb dL_law_497 hl (by decide) rfl (fun ls hl => ?_)
    refine lv_aload_n hx hb dL_law_499 rfl (lv_at hl 4 rfl) ?_
    refine g_callV (As := []) (rest := []) ⟨hx, hb, hml, hown, hw⟩ (mX3_thrown l D cT 116 ad A hD G3 (by omega) 0 (MW.th hM3)) (cwV 0 hw (gWV wm_L_126 wi_X3_thrown wse_X3_thrown wini_X3 wc_X3_thrown) rfl rfl rfl (by decide +kernel) ⟨Nat.le_of_ble_eq_true rfl, Nat.le_of_ble_eq_true rfl⟩) hK hE hA hP hS (k := 69) (by omega) (MW.th hM3) rfl rfl hl.1 (lv_room (Nat.le_of_ble_eq_true rfl)) dL_law_500 ⟨by show cells + 0 + 1 + 1 + 0 ≤ 603072; omega, by show slots + 0 + 6 + 48 + 0 ≤ 7227498; omega⟩ (fun v G4 H locs hp hP hS => ?_)
    obtain ⟨hv, hg⟩ := hp
    subst hv
    rw [hg] at hP
    refine lv_iload hx hb dL_law_503 (lv_at hl 1 rfl) ?_
    refine t_icmp_eq (tgt := 510) hx hb dL_law_505 (by decide) (by omega) (by omega) (fun c_1 => ?_) (fun c_1 => absurd c_1 (by omega))
    refine lv_iload hx hb dL_law_510 (lv_at hl 1 rfl) ?_
    refine t_if_ne (tgt := 527) hx hb dL_law_512 (by decide) (by omega) (fun c_2 => absurd c_2 (by omega)) (fun c_2 => ?_)
    refine lv_aload_n hx hb dL_law_515 rfl (lv_at hl 5 rfl) ?_
    refine lv_iconst (v := nI 0) hx hb dL_law_516 (by decide) ?_
    refine g_lald hx hb hK hP (i := 114) (by omega) ((hf3 _ (by omega)).trans hO1) (by omega) (by omega) dL_law_517 ?_
    refine t_eql ((nI ((σ.1 (4 * q + ro)).1)).toInt64) (va_up_self _ _ _) ?_
    refine lv_iload hx hb dL_law_518 (lv_at hl 0 rfl) ?_
    refine lv_i2l hx hb dL_law_520 rfl ?_
    refine W.lcmp hx hb dL_law_521 ?_
    refine t_eqi (nI 0) (lgc_eq rfl) ?_
    refine t_if_eq (tgt := 527) hx hb dL_law_522 (by decide) (by omega) (fun c_3 => ?_) (fun c_3 => absurd c_3 (by omega))
    refine lv_goto (tgt := 2260) hx hb dL_law_527 (by decide) ?_
    refine W.widen (k := cells + 10) (n := slots + 100) (by omega) (by omega) ?_
    exact kont _ G3 0 _ _ H locs ls ⟨hI.row (hI.1 _ (by omega)), hY1.ad (fun _ _ => rfl) (fun k hk => hf3 k (by omega)), hM3, (hf3 114 (by omega)).trans hO1, (hf3 115 (by omega)).trans ((hfo 115 (by omega)).trans ((hfe 115 (by omega)).trans hO2))⟩ hP hS (lv_sub hl [2, 3, 4, 5, 6, 7] rfl)
  · skip
    rw [hg1] at hP
    have hcd1 := cd_pos [xIA, xIO] E
    have hcd3 := cd_le [xIA, xIO] E
    have hcd4 : ([xIA, xIO] : List String).length ≤ 3 := by decide
    have hcd2 : cd [xIA, xIO] E < 65536 := by omega
    refine lv_istore (lv' := [(6, .int (nI (cd [xIA, xIO] E))), (0, .ref b), (1, .ref (ad 0)), (2, .ref (ad 69)), (3, .ref (ad 114)), (4, .ref (ad 115)), (5, .int (nI i))]) hx hb dL_law_478 hl (by decide) rfl (fun ls hl => ?_)
    refine lv_aload_n hx hb dL_law_480 rfl (lv_at hl 3 rfl) ?_
    refine lv_aload_n hx hb dL_law_481 rfl (lv_at hl 1 rfl) ?_
    refine lv_iload hx hb dL_law_482 (lv_at hl 6 rfl) ?_
    refine lv_iconst (v := nI 1) hx hb dL_law_484 (by decide) ?_
    refine lv_iadd hx hb dL_law_485 ?_
    refine t_eqi (nI (i + 1)) (nI_add i 1) ?_
    refine g_sld hx hb hX hbl hbA hS (j := i + 1) (by omega) (by omega) dL_law_486 ?_
    refine lv_i2c (v := nI (chN (xs (i + 1)))) hx hb dL_law_487 (chN_eq _) ?_
    refine lv_aload_n hx hb dL_law_488 rfl (lv_at hl 1 rfl) ?_
    refine lv_iload hx hb dL_law_489 (lv_at hl 6 rfl) ?_
    refine lv_iconst (v := nI 2) hx hb dL_law_491 (by decide) ?_
    refine lv_iadd hx hb dL_law_492 ?_
    refine t_eqi (nI (i + 2)) (nI_add i 2) ?_
    refine g_sld hx hb hX hbl hbA hS (j := i + 2) (by omega) (by omega) dL_law_493 ?_
    refine g_callV (As := [.int (nI (chN (xs (i + 1)))), .int (xs (i + 2))]) (rest := []) ⟨hx, hb, hml, hown, hw⟩ (mX3_turn_no l D cT 116 ad A hD G (by omega) σ hI th hM (chN (xs (i + 1))) (chN_lt _) (xs (i + 2)) E hpx) (cwV 2 hw (gWV wm_L_137 wi_X3_turn wse_X3_turn wini_X3 wc_X3_turn) rfl rfl rfl (by decide +kernel) ⟨Nat.le_of_ble_eq_true rfl, Nat.le_of_ble_eq_true rfl⟩) hK hE hA hP hS (k := 69) (by omega) (MW.th hM) rfl rfl hl.1 (lv_room (Nat.le_of_ble_eq_true rfl)) dL_law_494 ⟨by show cells + 0 + 1 + 0 ≤ 603072; omega, by show slots + 0 + 6 + 0 ≤ 7227498; omega⟩ (fun v G3 H locs hp3 hP hS => ?_)
    obtain ⟨⟨⟨z9, rfl⟩, hM3⟩, hf3⟩ := hp3
    refine lv_istore (lv' := [(7, .int z9), (6, .int (nI (cd [xIA, xIO] E))), (0, .ref b), (1, .ref (ad 0)), (2, .ref (ad 69)), (3, .ref (ad 114)), (4, .ref (ad 115)), (5, .int (nI i))]) hx hb dL_law_497 hl (by decide) rfl (fun ls hl => ?_)
    refine lv_aload_n hx hb dL_law_499 rfl (lv_at hl 4 rfl) ?_
    refine g_callV (As := []) (rest := []) ⟨hx, hb, hml, hown, hw⟩ (mX3_thrown l D cT 116 ad A hD G3 (by omega) (cd [xIA, xIO] E) (MW.th hM3)) (cwV 0 hw (gWV wm_L_126 wi_X3_thrown wse_X3_thrown wini_X3 wc_X3_thrown) rfl rfl rfl (by decide +kernel) ⟨Nat.le_of_ble_eq_true rfl, Nat.le_of_ble_eq_true rfl⟩) hK hE hA hP hS (k := 69) (by omega) (MW.th hM3) rfl rfl hl.1 (lv_room (Nat.le_of_ble_eq_true rfl)) dL_law_500 ⟨by show cells + 0 + 1 + 0 + 0 ≤ 603072; omega, by show slots + 0 + 6 + 0 + 0 ≤ 7227498; omega⟩ (fun v G4 H locs hp hP hS => ?_)
    obtain ⟨hv, hg⟩ := hp
    subst hv
    rw [hg] at hP
    refine lv_iload hx hb dL_law_503 (lv_at hl 1 rfl) ?_
    refine t_icmp_eq (tgt := 510) hx hb dL_law_505 (by decide) (by omega) (by omega) (fun c_4 => ?_) (fun c_4 => ?_)
    · skip
      refine lv_iload hx hb dL_law_510 (lv_at hl 1 rfl) ?_
      refine t_if_ne (tgt := 527) hx hb dL_law_512 (by decide) (by omega) (fun c_5 => ?_) (fun c_5 => ?_)
      · skip
        refine lv_goto (tgt := 2260) hx hb dL_law_527 (by decide) ?_
        refine W.widen (k := cells + 10) (n := slots + 100) (by omega) (by omega) ?_
        exact kont σ G3 _ f f2 H locs ls ⟨hI, hY.ad (fun _ _ => rfl) (fun k hk => hf3 k (by omega)), hM3, (hf3 114 (by omega)).trans hO, (hf3 115 (by omega)).trans hO2⟩ hP hS (lv_sub hl [2, 3, 4, 5, 6, 7] rfl)
      · exfalso; omega
    · exfalso; omega

set_option maxHeartbeats 4000000 in
set_option maxRecDepth 100000 in
theorem lc_length {p : Program} {l : Launch} {e : Env} {s : State} {m : MethodId} {below : List Frame} {meth : Method} {c : Code} {b L : Nat} {xs : Nat → Int32} {D : va_G} {cT : Nat → ClassId} {ad : Nat → Nat} {A : Nat → Prop} {Q : State → Prop} {i cells slots : Nat} {H : Heap} {locs : List Loc} {ls : Array Slot} {σ : TY} {G : Nat → va_E} {th : Nat} {f : Nat → Int64} {f2 : Nat → UInt64} (hX9 : LX p l s m meth c b L xs D cT ad A) (hi : i + 8 ≤ L) (hc : cells + 10 ≤ 603072) (hs : slots + 100 ≤ 7227498) (hst : LSt cT ad G σ th f f2) (hP : va_P D vwCl (gw 116 ad G) H) (hS : va_S A s.heap H locs) (hl : lv_has ls 9 (LVL b ad i)) (kont : LK p l e s m below meth c b D cT ad A Q i (cells + 10) (slots + 100) 2260) : W p l e room_1 s m #[Value.ref b] below meth c H locs cells slots Q (F0 m 530 ls []) := by
  obtain ⟨hx, hb, hml, hown, hw, hX, hbl, hbA, hK, hE, hA, hD, hN, hl9, hL⟩ := hX9
  obtain ⟨hI, hY, hM, hO, hO2⟩ := hst
  refine lv_aload_n hx hb dL_law_530 rfl (lv_at hl 1 rfl) ?_
  refine lv_aload_n hx hb dL_law_531 rfl (lv_at hl 0 rfl) ?_
  refine lv_iload hx hb dL_law_532 (lv_at hl 5 rfl) ?_
  refine lv_iconst (v := nI 1) hx hb dL_law_534 (by decide) ?_
  refine lv_iadd hx hb dL_law_535 ?_
  refine t_eqi (nI (i + 1)) (nI_add i 1) ?_
  refine g_sld hx hb hX hbl hbA hS (j := i + 1) (by omega) (by omega) dL_law_536 ?_
  refine lv_i2c (v := nI (chN (xs (i + 1)))) hx hb dL_law_537 (chN_eq _) ?_
  refine lv_aload_n hx hb dL_law_538 rfl (lv_at hl 0 rfl) ?_
  refine lv_iload hx hb dL_law_539 (lv_at hl 5 rfl) ?_
  refine lv_iconst (v := nI 2) hx hb dL_law_541 (by decide) ?_
  refine lv_iadd hx hb dL_law_542 ?_
  refine t_eqi (nI (i + 2)) (nI_add i 2) ?_
  refine g_sld hx hb hX hbl hbA hS (j := i + 2) (by omega) (by omega) dL_law_543 ?_
  refine lv_aload_n hx hb dL_law_544 rfl (lv_at hl 3 rfl) ?_
  refine g_callSH (As := [.ref (ad 0), .int (nI (chN (xs (i + 1)))), .int (xs (i + 2)), .ref (ad 114)]) (rest := []) ⟨hx, hb, hml, hown, hw⟩ (mL_length l hl9 D cT 116 ad A hD G (Nat.le_refl _) σ hY hI f hO (chN (xs (i + 1))) (chN_lt _) (xs (i + 2))) (vx_cwSW 4 hw (gWSB wm_L_138 wst_L_length wini_L wcw_L_length) rfl rfl rfl (by decide +kernel) ⟨Nat.le_of_ble_eq_true rfl, Nat.le_of_ble_eq_true rfl⟩) hK hE hA hP hS rfl hl.1 (lv_room (Nat.le_of_ble_eq_true rfl)) dL_law_545 ⟨by show cells + 0 + 1 ≤ 603072; omega, by show slots + 0 + 6 ≤ 7227498; omega⟩ (fun v G1 H locs hp hP hS => ?_)
  rcases hp with ⟨y8, G2, hcl, hO1, hfo, rfl⟩ | ⟨E, hpx, rfl, hg1⟩
  · skip
    rcases hcl with ⟨⟨q, ro, hq, hro, hkq, hx1, hv⟩, hfr⟩
    have hfe : ∀ j, 69 ≤ j → G2 j = G j := fun j _ => by rw [hfr]
    have hM1 : MW cT ad G1 σ th := hM.keep (fun j h1 h2 => (hfo j (by omega)).trans (hfe j (by omega)))
    have hY1 := hY.ad (ad2 := ad) (G2 := G1) (fun _ _ => rfl) (fun k hk => (hfo k (by omega)).trans (by rw [hfr]))
    obtain rfl := Value.int.inj (Option.some.inj hv)
    refine lv_istore (lv' := [(6, .int (nI 0)), (0, .ref b), (1, .ref (ad 0)), (2, .ref (ad 69)), (3, .ref (ad 114)), (4, .ref (ad 115)), (5, .int (nI i))]) hx hb dL_law_548 hl (by decide) rfl (fun ls hl => ?_)
    refine lv_aload_n hx hb dL_law_550 rfl (lv_at hl 3 rfl) ?_
    refine lv_aload_n hx hb dL_law_551 rfl (lv_at hl 1 rfl) ?_
    refine lv_iload hx hb dL_law_552 (lv_at hl 6 rfl) ?_
    refine lv_iconst (v := nI 1) hx hb dL_law_554 (by decide) ?_
    refine lv_iadd hx hb dL_law_555 ?_
    refine t_eqi (nI (i + 1)) (nI_add i 1) ?_
    refine g_sld hx hb hX hbl hbA hS (j := i + 1) (by omega) (by omega) dL_law_556 ?_
    refine lv_i2c (v := nI (chN (xs (i + 1)))) hx hb dL_law_557 (chN_eq _) ?_
    refine lv_aload_n hx hb dL_law_558 rfl (lv_at hl 1 rfl) ?_
    refine lv_iload hx hb dL_law_559 (lv_at hl 6 rfl) ?_
    refine lv_iconst (v := nI 2) hx hb dL_law_561 (by decide) ?_
    refine lv_iadd hx hb dL_law_562 ?_
    refine t_eqi (nI (i + 2)) (nI_add i 2) ?_
    refine g_sld hx hb hX hbl hbA hS (j := i + 2) (by omega) (by omega) dL_law_563 ?_
    refine t_eqi (nI ro) hx1 ?_
    refine g_callV (As := [.int (nI (chN (xs (i + 1)))), .int (nI ro)]) (rest := []) ⟨hx, hb, hml, hown, hw⟩ (mX3_length_ok l D cT 116 ad A hD G1 (by omega) σ hI th hM1 (chN (xs (i + 1))) (chN_lt _) q ro hq hro hkq) (cwV 2 hw (gWV wm_L_140 wi_X3_length wse_X3_length wini_X3 wc_X3_length) rfl rfl rfl (by decide +kernel) ⟨Nat.le_of_ble_eq_true rfl, Nat.le_of_ble_eq_true rfl⟩) hK hE hA hP hS (k := 69) (by omega) (MW.th hM1) rfl rfl hl.1 (lv_room (Nat.le_of_ble_eq_true rfl)) dL_law_564 ⟨by show cells + 0 + 1 + 0 ≤ 603072; omega, by show slots + 0 + 6 + 0 ≤ 7227498; omega⟩ (fun v G3 H locs hp3 hP hS => ?_)
    obtain ⟨⟨rfl, hM3⟩, hf3⟩ := hp3
    refine lv_istore (lv' := [(7, .int (nI ((σ.1 (4 * q + ro)).1))), (6, .int (nI 0)), (0, .ref b), (1, .ref (ad 0)), (2, .ref (ad 69)), (3, .ref (ad 114)), (4, .ref (ad 115)), (5, .int (nI i))]) hx hb dL_law_567 hl (by decide) rfl (fun ls hl => ?_)
    refine lv_aload_n hx hb dL_law_569 rfl (lv_at hl 4 rfl) ?_
    refine g_callV (As := []) (rest := []) ⟨hx, hb, hml, hown, hw⟩ (mX3_thrown l D cT 116 ad A hD G3 (by omega) 0 (MW.th hM3)) (cwV 0 hw (gWV wm_L_126 wi_X3_thrown wse_X3_thrown wini_X3 wc_X3_thrown) rfl rfl rfl (by decide +kernel) ⟨Nat.le_of_ble_eq_true rfl, Nat.le_of_ble_eq_true rfl⟩) hK hE hA hP hS (k := 69) (by omega) (MW.th hM3) rfl rfl hl.1 (lv_room (Nat.le_of_ble_eq_true rfl)) dL_law_570 ⟨by show cells + 0 + 1 + 0 + 0 ≤ 603072; omega, by show slots + 0 + 6 + 0 + 0 ≤ 7227498; omega⟩ (fun v G4 H locs hp hP hS => ?_)
    obtain ⟨hv, hg⟩ := hp
    subst hv
    rw [hg] at hP
    refine lv_iload hx hb dL_law_573 (lv_at hl 1 rfl) ?_
    refine t_icmp_eq (tgt := 580) hx hb dL_law_575 (by decide) (by omega) (by omega) (fun c_1 => ?_) (fun c_1 => absurd c_1 (by omega))
    refine lv_iload hx hb dL_law_580 (lv_at hl 1 rfl) ?_
    refine t_if_ne (tgt := 597) hx hb dL_law_582 (by decide) (by omega) (fun c_2 => absurd c_2 (by omega)) (fun c_2 => ?_)
    refine lv_aload_n hx hb dL_law_585 rfl (lv_at hl 5 rfl) ?_
    refine lv_iconst (v := nI 0) hx hb dL_law_586 (by decide) ?_
    refine g_lald hx hb hK hP (i := 114) (by omega) ((hf3 _ (by omega)).trans hO1) (by omega) (by omega) dL_law_587 ?_
    refine t_eql ((nI ((σ.1 (4 * q + ro)).1)).toInt64) (va_up_self _ _ _) ?_
    refine lv_iload hx hb dL_law_588 (lv_at hl 0 rfl) ?_
    refine lv_i2l hx hb dL_law_590 rfl ?_
    refine W.lcmp hx hb dL_law_591 ?_
    refine t_eqi (nI 0) (lgc_eq rfl) ?_
    refine t_if_eq (tgt := 597) hx hb dL_law_592 (by decide) (by omega) (fun c_3 => ?_) (fun c_3 => absurd c_3 (by omega))
    refine lv_goto (tgt := 2260) hx hb dL_law_597 (by decide) ?_
    refine W.widen (k := cells + 10) (n := slots + 100) (by omega) (by omega) ?_
    exact kont _ G3 0 _ _ H locs ls ⟨hI, hY1.ad (fun _ _ => rfl) (fun k hk => hf3 k (by omega)), hM3, (hf3 114 (by omega)).trans hO1, (hf3 115 (by omega)).trans ((hfo 115 (by omega)).trans ((hfe 115 (by omega)).trans hO2))⟩ hP hS (lv_sub hl [2, 3, 4, 5, 6, 7] rfl)
  · skip
    rw [hg1] at hP
    have hcd1 := cd_pos [xIA, xIO] E
    have hcd3 := cd_le [xIA, xIO] E
    have hcd4 : ([xIA, xIO] : List String).length ≤ 3 := by decide
    have hcd2 : cd [xIA, xIO] E < 65536 := by omega
    refine lv_istore (lv' := [(6, .int (nI (cd [xIA, xIO] E))), (0, .ref b), (1, .ref (ad 0)), (2, .ref (ad 69)), (3, .ref (ad 114)), (4, .ref (ad 115)), (5, .int (nI i))]) hx hb dL_law_548 hl (by decide) rfl (fun ls hl => ?_)
    refine lv_aload_n hx hb dL_law_550 rfl (lv_at hl 3 rfl) ?_
    refine lv_aload_n hx hb dL_law_551 rfl (lv_at hl 1 rfl) ?_
    refine lv_iload hx hb dL_law_552 (lv_at hl 6 rfl) ?_
    refine lv_iconst (v := nI 1) hx hb dL_law_554 (by decide) ?_
    refine lv_iadd hx hb dL_law_555 ?_
    refine t_eqi (nI (i + 1)) (nI_add i 1) ?_
    refine g_sld hx hb hX hbl hbA hS (j := i + 1) (by omega) (by omega) dL_law_556 ?_
    refine lv_i2c (v := nI (chN (xs (i + 1)))) hx hb dL_law_557 (chN_eq _) ?_
    refine lv_aload_n hx hb dL_law_558 rfl (lv_at hl 1 rfl) ?_
    refine lv_iload hx hb dL_law_559 (lv_at hl 6 rfl) ?_
    refine lv_iconst (v := nI 2) hx hb dL_law_561 (by decide) ?_
    refine lv_iadd hx hb dL_law_562 ?_
    refine t_eqi (nI (i + 2)) (nI_add i 2) ?_
    refine g_sld hx hb hX hbl hbA hS (j := i + 2) (by omega) (by omega) dL_law_563 ?_
    refine g_callV (As := [.int (nI (chN (xs (i + 1)))), .int (xs (i + 2))]) (rest := []) ⟨hx, hb, hml, hown, hw⟩ (mX3_length_no l D cT 116 ad A hD G (by omega) σ hI th hM (chN (xs (i + 1))) (chN_lt _) (xs (i + 2)) E hpx) (cwV 2 hw (gWV wm_L_140 wi_X3_length wse_X3_length wini_X3 wc_X3_length) rfl rfl rfl (by decide +kernel) ⟨Nat.le_of_ble_eq_true rfl, Nat.le_of_ble_eq_true rfl⟩) hK hE hA hP hS (k := 69) (by omega) (MW.th hM) rfl rfl hl.1 (lv_room (Nat.le_of_ble_eq_true rfl)) dL_law_564 ⟨by show cells + 0 + 1 + 0 ≤ 603072; omega, by show slots + 0 + 6 + 0 ≤ 7227498; omega⟩ (fun v G3 H locs hp3 hP hS => ?_)
    obtain ⟨⟨⟨z9, rfl⟩, hM3⟩, hf3⟩ := hp3
    refine lv_istore (lv' := [(7, .int z9), (6, .int (nI (cd [xIA, xIO] E))), (0, .ref b), (1, .ref (ad 0)), (2, .ref (ad 69)), (3, .ref (ad 114)), (4, .ref (ad 115)), (5, .int (nI i))]) hx hb dL_law_567 hl (by decide) rfl (fun ls hl => ?_)
    refine lv_aload_n hx hb dL_law_569 rfl (lv_at hl 4 rfl) ?_
    refine g_callV (As := []) (rest := []) ⟨hx, hb, hml, hown, hw⟩ (mX3_thrown l D cT 116 ad A hD G3 (by omega) (cd [xIA, xIO] E) (MW.th hM3)) (cwV 0 hw (gWV wm_L_126 wi_X3_thrown wse_X3_thrown wini_X3 wc_X3_thrown) rfl rfl rfl (by decide +kernel) ⟨Nat.le_of_ble_eq_true rfl, Nat.le_of_ble_eq_true rfl⟩) hK hE hA hP hS (k := 69) (by omega) (MW.th hM3) rfl rfl hl.1 (lv_room (Nat.le_of_ble_eq_true rfl)) dL_law_570 ⟨by show cells + 0 + 1 + 0 + 0 ≤ 603072; omega, by show slots + 0 + 6 + 0 + 0 ≤ 7227498; omega⟩ (fun v G4 H locs hp hP hS => ?_)
    obtain ⟨hv, hg⟩ := hp
    subst hv
    rw [hg] at hP
    refine lv_iload hx hb dL_law_573 (lv_at hl 1 rfl) ?_
    refine t_icmp_eq (tgt := 580) hx hb dL_law_575 (by decide) (by omega) (by omega) (fun c_4 => ?_) (fun c_4 => ?_)
    · skip
      refine lv_iload hx hb dL_law_580 (lv_at hl 1 rfl) ?_
      refine t_if_ne (tgt := 597) hx hb dL_law_582 (by decide) (by omega) (fun c_5 => ?_) (fun c_5 => ?_)
      · skip
        refine lv_goto (tgt := 2260) hx hb dL_law_597 (by decide) ?_
        refine W.widen (k := cells + 10) (n := slots + 100) (by omega) (by omega) ?_
        exact kont σ G3 _ f f2 H locs ls ⟨hI, hY.ad (fun _ _ => rfl) (fun k hk => hf3 k (by omega)), hM3, (hf3 114 (by omega)).trans hO, (hf3 115 (by omega)).trans hO2⟩ hP hS (lv_sub hl [2, 3, 4, 5, 6, 7] rfl)
      · exfalso; omega
    · exfalso; omega

set_option maxHeartbeats 4000000 in
set_option maxRecDepth 100000 in
theorem lc_number {p : Program} {l : Launch} {e : Env} {s : State} {m : MethodId} {below : List Frame} {meth : Method} {c : Code} {b L : Nat} {xs : Nat → Int32} {D : va_G} {cT : Nat → ClassId} {ad : Nat → Nat} {A : Nat → Prop} {Q : State → Prop} {i cells slots : Nat} {H : Heap} {locs : List Loc} {ls : Array Slot} {σ : TY} {G : Nat → va_E} {th : Nat} {f : Nat → Int64} {f2 : Nat → UInt64} (hX9 : LX p l s m meth c b L xs D cT ad A) (hi : i + 8 ≤ L) (hc : cells + 10 ≤ 603072) (hs : slots + 100 ≤ 7227498) (hst : LSt cT ad G σ th f f2) (hP : va_P D vwCl (gw 116 ad G) H) (hS : va_S A s.heap H locs) (hl : lv_has ls 9 (LVL b ad i)) (kont : LK p l e s m below meth c b D cT ad A Q i (cells + 10) (slots + 100) 2260) : W p l e room_1 s m #[Value.ref b] below meth c H locs cells slots Q (F0 m 600 ls []) := by
  obtain ⟨hx, hb, hml, hown, hw, hX, hbl, hbA, hK, hE, hA, hD, hN, hl9, hL⟩ := hX9
  obtain ⟨hI, hY, hM, hO, hO2⟩ := hst
  refine lv_aload_n hx hb dL_law_600 rfl (lv_at hl 1 rfl) ?_
  refine lv_aload_n hx hb dL_law_601 rfl (lv_at hl 0 rfl) ?_
  refine lv_iload hx hb dL_law_602 (lv_at hl 5 rfl) ?_
  refine lv_iconst (v := nI 1) hx hb dL_law_604 (by decide) ?_
  refine lv_iadd hx hb dL_law_605 ?_
  refine t_eqi (nI (i + 1)) (nI_add i 1) ?_
  refine g_sld hx hb hX hbl hbA hS (j := i + 1) (by omega) (by omega) dL_law_606 ?_
  refine lv_i2c (v := nI (chN (xs (i + 1)))) hx hb dL_law_607 (chN_eq _) ?_
  refine lv_aload_n hx hb dL_law_608 rfl (lv_at hl 0 rfl) ?_
  refine lv_iload hx hb dL_law_609 (lv_at hl 5 rfl) ?_
  refine lv_iconst (v := nI 2) hx hb dL_law_611 (by decide) ?_
  refine lv_iadd hx hb dL_law_612 ?_
  refine t_eqi (nI (i + 2)) (nI_add i 2) ?_
  refine g_sld hx hb hX hbl hbA hS (j := i + 2) (by omega) (by omega) dL_law_613 ?_
  refine lv_aload_n hx hb dL_law_614 rfl (lv_at hl 0 rfl) ?_
  refine lv_iload hx hb dL_law_615 (lv_at hl 5 rfl) ?_
  refine lv_iconst (v := nI 3) hx hb dL_law_617 (by decide) ?_
  refine lv_iadd hx hb dL_law_618 ?_
  refine t_eqi (nI (i + 3)) (nI_add i 3) ?_
  refine g_sld hx hb hX hbl hbA hS (j := i + 3) (by omega) (by omega) dL_law_619 ?_
  refine lv_aload_n hx hb dL_law_620 rfl (lv_at hl 3 rfl) ?_
  refine g_callSH (As := [.ref (ad 0), .int (nI (chN (xs (i + 1)))), .int (xs (i + 2)), .int (xs (i + 3)), .ref (ad 114)]) (rest := []) ⟨hx, hb, hml, hown, hw⟩ (mL_number l hl9 D cT 116 ad A hD G (Nat.le_refl _) σ hY hI f hO (chN (xs (i + 1))) (chN_lt _) (xs (i + 2)) (xs (i + 3))) (vx_cwSW 5 hw (gWSB wm_L_141 wst_L_number wini_L wcw_L_number) rfl rfl rfl (by decide +kernel) ⟨Nat.le_of_ble_eq_true rfl, Nat.le_of_ble_eq_true rfl⟩) hK hE hA hP hS rfl hl.1 (lv_room (Nat.le_of_ble_eq_true rfl)) dL_law_621 ⟨by show cells + 0 + 2 ≤ 603072; omega, by show slots + 0 + 12 ≤ 7227498; omega⟩ (fun v G1 H locs hp hP hS => ?_)
  rcases hp with ⟨y8, G2, hcl, hO1, hfo, rfl⟩ | ⟨E, hpx, rfl, hg1⟩
  · skip
    rcases hcl with ⟨⟨q, ro, hq, hro, hkq, hx1, i9, hi9, hy1, hv⟩, hfr⟩
    have hfe : ∀ j, 69 ≤ j → G2 j = G j := fun j _ => by rw [hfr]
    have hM1 : MW cT ad G1 σ th := hM.keep (fun j h1 h2 => (hfo j (by omega)).trans (hfe j (by omega)))
    have hY1 := hY.ad (ad2 := ad) (G2 := G1) (fun _ _ => rfl) (fun k hk => (hfo k (by omega)).trans (by rw [hfr]))
    obtain rfl := Value.long.inj (Option.some.inj hv)
    refine lv_istore (lv' := [(6, .int (nI 0)), (0, .ref b), (1, .ref (ad 0)), (2, .ref (ad 69)), (3, .ref (ad 114)), (4, .ref (ad 115)), (5, .int (nI i))]) hx hb dL_law_624 hl (by decide) rfl (fun ls hl => ?_)
    refine lv_aload_n hx hb dL_law_626 rfl (lv_at hl 3 rfl) ?_
    refine lv_aload_n hx hb dL_law_627 rfl (lv_at hl 1 rfl) ?_
    refine lv_iload hx hb dL_law_628 (lv_at hl 6 rfl) ?_
    refine lv_iconst (v := nI 1) hx hb dL_law_630 (by decide) ?_
    refine lv_iadd hx hb dL_law_631 ?_
    refine t_eqi (nI (i + 1)) (nI_add i 1) ?_
    refine g_sld hx hb hX hbl hbA hS (j := i + 1) (by omega) (by omega) dL_law_632 ?_
    refine lv_i2c (v := nI (chN (xs (i + 1)))) hx hb dL_law_633 (chN_eq _) ?_
    refine lv_aload_n hx hb dL_law_634 rfl (lv_at hl 1 rfl) ?_
    refine lv_iload hx hb dL_law_635 (lv_at hl 6 rfl) ?_
    refine lv_iconst (v := nI 2) hx hb dL_law_637 (by decide) ?_
    refine lv_iadd hx hb dL_law_638 ?_
    refine t_eqi (nI (i + 2)) (nI_add i 2) ?_
    refine g_sld hx hb hX hbl hbA hS (j := i + 2) (by omega) (by omega) dL_law_639 ?_
    refine t_eqi (nI ro) hx1 ?_
    refine lv_aload_n hx hb dL_law_640 rfl (lv_at hl 1 rfl) ?_
    refine lv_iload hx hb dL_law_641 (lv_at hl 6 rfl) ?_
    refine lv_iconst (v := nI 3) hx hb dL_law_643 (by decide) ?_
    refine lv_iadd hx hb dL_law_644 ?_
    refine t_eqi (nI (i + 3)) (nI_add i 3) ?_
    refine g_sld hx hb hX hbl hbA hS (j := i + 3) (by omega) (by omega) dL_law_645 ?_
    refine t_eqi (nI i9) hy1 ?_
    refine g_callV (As := [.int (nI (chN (xs (i + 1)))), .int (nI ro), .int (nI i9)]) (rest := []) ⟨hx, hb, hml, hown, hw⟩ (mX3_number_ok l D cT 116 ad A hD G1 (by omega) σ hI th hM1 (chN (xs (i + 1))) (chN_lt _) q ro hq hro hkq i9 hi9) (cwV 3 hw (gWV wm_L_144 wi_X3_number wse_X3_number wini_X3 wc_X3_number) rfl rfl rfl (by decide +kernel) ⟨Nat.le_of_ble_eq_true rfl, Nat.le_of_ble_eq_true rfl⟩) hK hE hA hP hS (k := 69) (by omega) (MW.th hM1) rfl rfl hl.1 (lv_room (Nat.le_of_ble_eq_true rfl)) dL_law_646 ⟨by show cells + 0 + 2 + 0 ≤ 603072; omega, by show slots + 0 + 12 + 0 ≤ 7227498; omega⟩ (fun v G3 H locs hp3 hP hS => ?_)
    obtain ⟨⟨rfl, hM3⟩, hf3⟩ := hp3
    refine lv_lstore (lv' := [(7, .long ((σ.1 (4 * q + ro)).2 i9)), (6, .int (nI 0)), (0, .ref b), (1, .ref (ad 0)), (2, .ref (ad 69)), (3, .ref (ad 114)), (4, .ref (ad 115)), (5, .int (nI i))]) hx hb dL_law_649 hl (by decide) rfl (fun ls hl => ?_)
    refine lv_aload_n hx hb dL_law_651 rfl (lv_at hl 4 rfl) ?_
    refine g_callV (As := []) (rest := []) ⟨hx, hb, hml, hown, hw⟩ (mX3_thrown l D cT 116 ad A hD G3 (by omega) 0 (MW.th hM3)) (cwV 0 hw (gWV wm_L_126 wi_X3_thrown wse_X3_thrown wini_X3 wc_X3_thrown) rfl rfl rfl (by decide +kernel) ⟨Nat.le_of_ble_eq_true rfl, Nat.le_of_ble_eq_true rfl⟩) hK hE hA hP hS (k := 69) (by omega) (MW.th hM3) rfl rfl hl.1 (lv_room (Nat.le_of_ble_eq_true rfl)) dL_law_652 ⟨by show cells + 0 + 2 + 0 + 0 ≤ 603072; omega, by show slots + 0 + 12 + 0 + 0 ≤ 7227498; omega⟩ (fun v G4 H locs hp hP hS => ?_)
    obtain ⟨hv, hg⟩ := hp
    subst hv
    rw [hg] at hP
    refine lv_iload hx hb dL_law_655 (lv_at hl 1 rfl) ?_
    refine t_icmp_eq (tgt := 662) hx hb dL_law_657 (by decide) (by omega) (by omega) (fun c_1 => ?_) (fun c_1 => absurd c_1 (by omega))
    refine lv_iload hx hb dL_law_662 (lv_at hl 1 rfl) ?_
    refine t_if_ne (tgt := 678) hx hb dL_law_664 (by decide) (by omega) (fun c_2 => absurd c_2 (by omega)) (fun c_2 => ?_)
    refine lv_aload_n hx hb dL_law_667 rfl (lv_at hl 5 rfl) ?_
    refine lv_iconst (v := nI 0) hx hb dL_law_668 (by decide) ?_
    refine g_lald hx hb hK hP (i := 114) (by omega) ((hf3 _ (by omega)).trans hO1) (by omega) (by omega) dL_law_669 ?_
    refine t_eql ((σ.1 (4 * q + ro)).2 i9) (va_up_self _ _ _) ?_
    refine lv_lload hx hb dL_law_670 (lv_at hl 0 rfl) ?_
    refine W.lcmp hx hb dL_law_672 ?_
    refine t_eqi (nI 0) (lgc_eq rfl) ?_
    refine t_if_eq (tgt := 678) hx hb dL_law_673 (by decide) (by omega) (fun c_3 => ?_) (fun c_3 => absurd c_3 (by omega))
    refine lv_goto (tgt := 2260) hx hb dL_law_678 (by decide) ?_
    refine W.widen (k := cells + 10) (n := slots + 100) (by omega) (by omega) ?_
    exact kont _ G3 0 _ _ H locs ls ⟨hI, hY1.ad (fun _ _ => rfl) (fun k hk => hf3 k (by omega)), hM3, (hf3 114 (by omega)).trans hO1, (hf3 115 (by omega)).trans ((hfo 115 (by omega)).trans ((hfe 115 (by omega)).trans hO2))⟩ hP hS (lv_sub hl [2, 3, 4, 5, 6, 7] rfl)
  · skip
    rw [hg1] at hP
    have hcd1 := cd_pos [xIA, xIO] E
    have hcd3 := cd_le [xIA, xIO] E
    have hcd4 : ([xIA, xIO] : List String).length ≤ 3 := by decide
    have hcd2 : cd [xIA, xIO] E < 65536 := by omega
    refine lv_istore (lv' := [(6, .int (nI (cd [xIA, xIO] E))), (0, .ref b), (1, .ref (ad 0)), (2, .ref (ad 69)), (3, .ref (ad 114)), (4, .ref (ad 115)), (5, .int (nI i))]) hx hb dL_law_624 hl (by decide) rfl (fun ls hl => ?_)
    refine lv_aload_n hx hb dL_law_626 rfl (lv_at hl 3 rfl) ?_
    refine lv_aload_n hx hb dL_law_627 rfl (lv_at hl 1 rfl) ?_
    refine lv_iload hx hb dL_law_628 (lv_at hl 6 rfl) ?_
    refine lv_iconst (v := nI 1) hx hb dL_law_630 (by decide) ?_
    refine lv_iadd hx hb dL_law_631 ?_
    refine t_eqi (nI (i + 1)) (nI_add i 1) ?_
    refine g_sld hx hb hX hbl hbA hS (j := i + 1) (by omega) (by omega) dL_law_632 ?_
    refine lv_i2c (v := nI (chN (xs (i + 1)))) hx hb dL_law_633 (chN_eq _) ?_
    refine lv_aload_n hx hb dL_law_634 rfl (lv_at hl 1 rfl) ?_
    refine lv_iload hx hb dL_law_635 (lv_at hl 6 rfl) ?_
    refine lv_iconst (v := nI 2) hx hb dL_law_637 (by decide) ?_
    refine lv_iadd hx hb dL_law_638 ?_
    refine t_eqi (nI (i + 2)) (nI_add i 2) ?_
    refine g_sld hx hb hX hbl hbA hS (j := i + 2) (by omega) (by omega) dL_law_639 ?_
    refine lv_aload_n hx hb dL_law_640 rfl (lv_at hl 1 rfl) ?_
    refine lv_iload hx hb dL_law_641 (lv_at hl 6 rfl) ?_
    refine lv_iconst (v := nI 3) hx hb dL_law_643 (by decide) ?_
    refine lv_iadd hx hb dL_law_644 ?_
    refine t_eqi (nI (i + 3)) (nI_add i 3) ?_
    refine g_sld hx hb hX hbl hbA hS (j := i + 3) (by omega) (by omega) dL_law_645 ?_
    refine g_callV (As := [.int (nI (chN (xs (i + 1)))), .int (xs (i + 2)), .int (xs (i + 3))]) (rest := []) ⟨hx, hb, hml, hown, hw⟩ (mX3_number_no l D cT 116 ad A hD G (by omega) σ hI th hM (chN (xs (i + 1))) (chN_lt _) (xs (i + 2)) (xs (i + 3)) E hpx) (cwV 3 hw (gWV wm_L_144 wi_X3_number wse_X3_number wini_X3 wc_X3_number) rfl rfl rfl (by decide +kernel) ⟨Nat.le_of_ble_eq_true rfl, Nat.le_of_ble_eq_true rfl⟩) hK hE hA hP hS (k := 69) (by omega) (MW.th hM) rfl rfl hl.1 (lv_room (Nat.le_of_ble_eq_true rfl)) dL_law_646 ⟨by show cells + 0 + 2 + 0 ≤ 603072; omega, by show slots + 0 + 12 + 0 ≤ 7227498; omega⟩ (fun v G3 H locs hp3 hP hS => ?_)
    obtain ⟨⟨⟨z9, rfl⟩, hM3⟩, hf3⟩ := hp3
    refine lv_lstore (lv' := [(7, .long z9), (6, .int (nI (cd [xIA, xIO] E))), (0, .ref b), (1, .ref (ad 0)), (2, .ref (ad 69)), (3, .ref (ad 114)), (4, .ref (ad 115)), (5, .int (nI i))]) hx hb dL_law_649 hl (by decide) rfl (fun ls hl => ?_)
    refine lv_aload_n hx hb dL_law_651 rfl (lv_at hl 4 rfl) ?_
    refine g_callV (As := []) (rest := []) ⟨hx, hb, hml, hown, hw⟩ (mX3_thrown l D cT 116 ad A hD G3 (by omega) (cd [xIA, xIO] E) (MW.th hM3)) (cwV 0 hw (gWV wm_L_126 wi_X3_thrown wse_X3_thrown wini_X3 wc_X3_thrown) rfl rfl rfl (by decide +kernel) ⟨Nat.le_of_ble_eq_true rfl, Nat.le_of_ble_eq_true rfl⟩) hK hE hA hP hS (k := 69) (by omega) (MW.th hM3) rfl rfl hl.1 (lv_room (Nat.le_of_ble_eq_true rfl)) dL_law_652 ⟨by show cells + 0 + 2 + 0 + 0 ≤ 603072; omega, by show slots + 0 + 12 + 0 + 0 ≤ 7227498; omega⟩ (fun v G4 H locs hp hP hS => ?_)
    obtain ⟨hv, hg⟩ := hp
    subst hv
    rw [hg] at hP
    refine lv_iload hx hb dL_law_655 (lv_at hl 1 rfl) ?_
    refine t_icmp_eq (tgt := 662) hx hb dL_law_657 (by decide) (by omega) (by omega) (fun c_4 => ?_) (fun c_4 => ?_)
    · skip
      refine lv_iload hx hb dL_law_662 (lv_at hl 1 rfl) ?_
      refine t_if_ne (tgt := 678) hx hb dL_law_664 (by decide) (by omega) (fun c_5 => ?_) (fun c_5 => ?_)
      · skip
        refine lv_goto (tgt := 2260) hx hb dL_law_678 (by decide) ?_
        refine W.widen (k := cells + 10) (n := slots + 100) (by omega) (by omega) ?_
        exact kont σ G3 _ f f2 H locs ls ⟨hI, hY.ad (fun _ _ => rfl) (fun k hk => hf3 k (by omega)), hM3, (hf3 114 (by omega)).trans hO, (hf3 115 (by omega)).trans hO2⟩ hP hS (lv_sub hl [2, 3, 4, 5, 6, 7] rfl)
      · exfalso; omega
    · exfalso; omega

set_option maxHeartbeats 4000000 in
set_option maxRecDepth 100000 in
theorem lc_open {p : Program} {l : Launch} {e : Env} {s : State} {m : MethodId} {below : List Frame} {meth : Method} {c : Code} {b L : Nat} {xs : Nat → Int32} {D : va_G} {cT : Nat → ClassId} {ad : Nat → Nat} {A : Nat → Prop} {Q : State → Prop} {i cells slots : Nat} {H : Heap} {locs : List Loc} {ls : Array Slot} {σ : TY} {G : Nat → va_E} {th : Nat} {f : Nat → Int64} {f2 : Nat → UInt64} (hX9 : LX p l s m meth c b L xs D cT ad A) (hi : i + 8 ≤ L) (hc : cells + 10 ≤ 603072) (hs : slots + 100 ≤ 7227498) (hst : LSt cT ad G σ th f f2) (hP : va_P D vwCl (gw 116 ad G) H) (hS : va_S A s.heap H locs) (hl : lv_has ls 9 (LVL b ad i)) (kont : LK p l e s m below meth c b D cT ad A Q i (cells + 10) (slots + 100) 2260) : W p l e room_1 s m #[Value.ref b] below meth c H locs cells slots Q (F0 m 681 ls []) := by
  obtain ⟨hx, hb, hml, hown, hw, hX, hbl, hbA, hK, hE, hA, hD, hN, hl9, hL⟩ := hX9
  obtain ⟨hI, hY, hM, hO, hO2⟩ := hst
  refine lv_aload_n hx hb dL_law_681 rfl (lv_at hl 1 rfl) ?_
  refine lv_aload_n hx hb dL_law_682 rfl (lv_at hl 0 rfl) ?_
  refine lv_iload hx hb dL_law_683 (lv_at hl 5 rfl) ?_
  refine lv_iconst (v := nI 1) hx hb dL_law_685 (by decide) ?_
  refine lv_iadd hx hb dL_law_686 ?_
  refine t_eqi (nI (i + 1)) (nI_add i 1) ?_
  refine g_sld hx hb hX hbl hbA hS (j := i + 1) (by omega) (by omega) dL_law_687 ?_
  refine lv_aload_n hx hb dL_law_688 rfl (lv_at hl 0 rfl) ?_
  refine lv_iload hx hb dL_law_689 (lv_at hl 5 rfl) ?_
  refine lv_iconst (v := nI 2) hx hb dL_law_691 (by decide) ?_
  refine lv_iadd hx hb dL_law_692 ?_
  refine t_eqi (nI (i + 2)) (nI_add i 2) ?_
  refine g_sld hx hb hX hbl hbA hS (j := i + 2) (by omega) (by omega) dL_law_693 ?_
  refine lv_i2c (v := nI (chN (xs (i + 2)))) hx hb dL_law_694 (chN_eq _) ?_
  refine lv_aload_n hx hb dL_law_695 rfl (lv_at hl 0 rfl) ?_
  refine lv_iload hx hb dL_law_696 (lv_at hl 5 rfl) ?_
  refine lv_iconst (v := nI 3) hx hb dL_law_698 (by decide) ?_
  refine lv_iadd hx hb dL_law_699 ?_
  refine t_eqi (nI (i + 3)) (nI_add i 3) ?_
  refine g_sld hx hb hX hbl hbA hS (j := i + 3) (by omega) (by omega) dL_law_700 ?_
  refine lv_aload_n hx hb dL_law_701 rfl (lv_at hl 0 rfl) ?_
  refine lv_iload hx hb dL_law_702 (lv_at hl 5 rfl) ?_
  refine lv_iconst (v := nI 4) hx hb dL_law_704 (by decide) ?_
  refine lv_iadd hx hb dL_law_705 ?_
  refine t_eqi (nI (i + 4)) (nI_add i 4) ?_
  refine g_sld hx hb hX hbl hbA hS (j := i + 4) (by omega) (by omega) dL_law_706 ?_
  refine lv_aload_n hx hb dL_law_707 rfl (lv_at hl 0 rfl) ?_
  refine lv_iload hx hb dL_law_708 (lv_at hl 5 rfl) ?_
  refine lv_iconst (v := nI 5) hx hb dL_law_710 (by decide) ?_
  refine lv_iadd hx hb dL_law_711 ?_
  refine t_eqi (nI (i + 5)) (nI_add i 5) ?_
  refine g_sld hx hb hX hbl hbA hS (j := i + 5) (by omega) (by omega) dL_law_712 ?_
  refine lv_aload_n hx hb dL_law_713 rfl (lv_at hl 3 rfl) ?_
  refine g_callSH (As := [.ref (ad 0), .int (xs (i + 1)), .int (nI (chN (xs (i + 2)))), .int (xs (i + 3)), .int (xs (i + 4)), .int (xs (i + 5)), .ref (ad 114)]) (rest := []) ⟨hx, hb, hml, hown, hw⟩ (mL_open l hl9 D cT 116 ad A hD G (Nat.le_refl _) σ hY hI f hO (xs (i + 1)) (chN (xs (i + 2))) (chN_lt _) (xs (i + 3)) (xs (i + 4)) (xs (i + 5))) (vx_cwSW 7 hw (gWSB wm_L_145 wst_L_open wini_L wcw_L_open) rfl rfl rfl (by decide +kernel) ⟨Nat.le_of_ble_eq_true rfl, Nat.le_of_ble_eq_true rfl⟩) hK hE hA hP hS rfl hl.1 (lv_room (Nat.le_of_ble_eq_true rfl)) dL_law_714 ⟨by show cells + 0 + 3 ≤ 603072; omega, by show slots + 0 + 18 ≤ 7227498; omega⟩ (fun v G1 H locs hp hP hS => ?_)
  rcases hp with ⟨y8, G2, hcl, hO1, hfo, rfl⟩ | ⟨E, hpx, rfl, hg1⟩
  · skip
    rcases hcl with ⟨⟨b9, hb9, hx1, q, ro, hq, hro, hkq, hy1, a9, t, hat, htc, hu1, hz1, hv, hY2⟩, hfr⟩
    have hfe : ∀ j, 69 ≤ j → G2 j = G j := hfr
    have hM1 : MW cT ad G1 σ th := hM.keep (fun j h1 h2 => (hfo j (by omega)).trans (hfe j (by omega)))
    have hY1 := hY2.ad (ad2 := ad) (G2 := G1) (fun _ _ => rfl) (fun k hk => hfo k (by omega))
    obtain rfl := Value.int.inj (Option.some.inj hv)
    refine lv_istore (lv' := [(6, .int (nI 0)), (0, .ref b), (1, .ref (ad 0)), (2, .ref (ad 69)), (3, .ref (ad 114)), (4, .ref (ad 115)), (5, .int (nI i))]) hx hb dL_law_717 hl (by decide) rfl (fun ls hl => ?_)
    refine lv_aload_n hx hb dL_law_719 rfl (lv_at hl 3 rfl) ?_
    refine lv_aload_n hx hb dL_law_720 rfl (lv_at hl 1 rfl) ?_
    refine lv_iload hx hb dL_law_721 (lv_at hl 6 rfl) ?_
    refine lv_iconst (v := nI 1) hx hb dL_law_723 (by decide) ?_
    refine lv_iadd hx hb dL_law_724 ?_
    refine t_eqi (nI (i + 1)) (nI_add i 1) ?_
    refine g_sld hx hb hX hbl hbA hS (j := i + 1) (by omega) (by omega) dL_law_725 ?_
    refine t_eqi (nI b9) hx1 ?_
    refine lv_aload_n hx hb dL_law_726 rfl (lv_at hl 1 rfl) ?_
    refine lv_iload hx hb dL_law_727 (lv_at hl 6 rfl) ?_
    refine lv_iconst (v := nI 2) hx hb dL_law_729 (by decide) ?_
    refine lv_iadd hx hb dL_law_730 ?_
    refine t_eqi (nI (i + 2)) (nI_add i 2) ?_
    refine g_sld hx hb hX hbl hbA hS (j := i + 2) (by omega) (by omega) dL_law_731 ?_
    refine lv_i2c (v := nI (chN (xs (i + 2)))) hx hb dL_law_732 (chN_eq _) ?_
    refine lv_aload_n hx hb dL_law_733 rfl (lv_at hl 1 rfl) ?_
    refine lv_iload hx hb dL_law_734 (lv_at hl 6 rfl) ?_
    refine lv_iconst (v := nI 3) hx hb dL_law_736 (by decide) ?_
    refine lv_iadd hx hb dL_law_737 ?_
    refine t_eqi (nI (i + 3)) (nI_add i 3) ?_
    refine g_sld hx hb hX hbl hbA hS (j := i + 3) (by omega) (by omega) dL_law_738 ?_
    refine t_eqi (nI ro) hy1 ?_
    refine lv_aload_n hx hb dL_law_739 rfl (lv_at hl 1 rfl) ?_
    refine lv_iload hx hb dL_law_740 (lv_at hl 6 rfl) ?_
    refine lv_iconst (v := nI 4) hx hb dL_law_742 (by decide) ?_
    refine lv_iadd hx hb dL_law_743 ?_
    refine t_eqi (nI (i + 4)) (nI_add i 4) ?_
    refine g_sld hx hb hX hbl hbA hS (j := i + 4) (by omega) (by omega) dL_law_744 ?_
    refine t_eqi (nI a9) hu1 ?_
    refine lv_aload_n hx hb dL_law_745 rfl (lv_at hl 1 rfl) ?_
    refine lv_iload hx hb dL_law_746 (lv_at hl 6 rfl) ?_
    refine lv_iconst (v := nI 5) hx hb dL_law_748 (by decide) ?_
    refine lv_iadd hx hb dL_law_749 ?_
    refine t_eqi (nI (i + 5)) (nI_add i 5) ?_
    refine g_sld hx hb hX hbl hbA hS (j := i + 5) (by omega) (by omega) dL_law_750 ?_
    refine t_eqi (nI t) hz1 ?_
    refine g_callV (As := [.int (nI b9), .int (nI (chN (xs (i + 2)))), .int (nI ro), .int (nI a9), .int (nI t)]) (rest := []) ⟨hx, hb, hml, hown, hw⟩ (mX3_open_ok l D cT 116 ad A hD G1 (by omega) σ hI th hM1 (chN (xs (i + 2))) (chN_lt _) b9 hb9 q ro hq hro hkq a9 t hat htc) (cwV 5 hw (gWV wm_L_148 wi_X3_open wse_X3_open wini_X3 wc_X3_open) rfl rfl rfl (by decide +kernel) ⟨Nat.le_of_ble_eq_true rfl, Nat.le_of_ble_eq_true rfl⟩) hK hE hA hP hS (k := 69) (by omega) (MW.th hM1) rfl rfl hl.1 (lv_room (Nat.le_of_ble_eq_true rfl)) dL_law_751 ⟨by show cells + 0 + 3 + 0 ≤ 603072; omega, by show slots + 0 + 18 + 0 ≤ 7227498; omega⟩ (fun v G3 H locs hp3 hP hS => ?_)
    obtain ⟨⟨rfl, hM3⟩, hf3⟩ := hp3
    refine lv_istore (lv' := [(7, .int (nI (t - a9))), (6, .int (nI 0)), (0, .ref b), (1, .ref (ad 0)), (2, .ref (ad 69)), (3, .ref (ad 114)), (4, .ref (ad 115)), (5, .int (nI i))]) hx hb dL_law_754 hl (by decide) rfl (fun ls hl => ?_)
    refine lv_aload_n hx hb dL_law_756 rfl (lv_at hl 4 rfl) ?_
    refine g_callV (As := []) (rest := []) ⟨hx, hb, hml, hown, hw⟩ (mX3_thrown l D cT 116 ad A hD G3 (by omega) 0 (MW.th hM3)) (cwV 0 hw (gWV wm_L_126 wi_X3_thrown wse_X3_thrown wini_X3 wc_X3_thrown) rfl rfl rfl (by decide +kernel) ⟨Nat.le_of_ble_eq_true rfl, Nat.le_of_ble_eq_true rfl⟩) hK hE hA hP hS (k := 69) (by omega) (MW.th hM3) rfl rfl hl.1 (lv_room (Nat.le_of_ble_eq_true rfl)) dL_law_757 ⟨by show cells + 0 + 3 + 0 + 0 ≤ 603072; omega, by show slots + 0 + 18 + 0 + 0 ≤ 7227498; omega⟩ (fun v G4 H locs hp hP hS => ?_)
    obtain ⟨hv, hg⟩ := hp
    subst hv
    rw [hg] at hP
    refine lv_iload hx hb dL_law_760 (lv_at hl 1 rfl) ?_
    refine t_icmp_eq (tgt := 767) hx hb dL_law_762 (by decide) (by omega) (by omega) (fun c_1 => ?_) (fun c_1 => absurd c_1 (by omega))
    refine lv_iload hx hb dL_law_767 (lv_at hl 1 rfl) ?_
    refine t_if_ne (tgt := 784) hx hb dL_law_769 (by decide) (by omega) (fun c_2 => absurd c_2 (by omega)) (fun c_2 => ?_)
    refine lv_aload_n hx hb dL_law_772 rfl (lv_at hl 5 rfl) ?_
    refine lv_iconst (v := nI 0) hx hb dL_law_773 (by decide) ?_
    refine g_lald hx hb hK hP (i := 114) (by omega) ((hf3 _ (by omega)).trans hO1) (by omega) (by omega) dL_law_774 ?_
    refine t_eql ((nI (t - a9)).toInt64) (va_up_self _ _ _) ?_
    refine lv_iload hx hb dL_law_775 (lv_at hl 0 rfl) ?_
    refine lv_i2l hx hb dL_law_777 rfl ?_
    refine W.lcmp hx hb dL_law_778 ?_
    refine t_eqi (nI 0) (lgc_eq rfl) ?_
    refine t_if_eq (tgt := 784) hx hb dL_law_779 (by decide) (by omega) (fun c_3 => ?_) (fun c_3 => absurd c_3 (by omega))
    refine lv_goto (tgt := 2260) hx hb dL_law_784 (by decide) ?_
    refine W.widen (k := cells + 10) (n := slots + 100) (by omega) (by omega) ?_
    exact kont _ G3 0 _ _ H locs ls ⟨hI.bench (BIt_open (by unfold isO; split <;> omega) (Nat.le_trans htc (hI.1 _ (by omega)))), hY1.ad (fun _ _ => rfl) (fun k hk => hf3 k (by omega)), hM3, (hf3 114 (by omega)).trans hO1, (hf3 115 (by omega)).trans ((hfo 115 (by omega)).trans ((hfe 115 (by omega)).trans hO2))⟩ hP hS (lv_sub hl [2, 3, 4, 5, 6, 7] rfl)
  · skip
    rw [hg1] at hP
    have hcd1 := cd_pos [xIA, xIO] E
    have hcd3 := cd_le [xIA, xIO] E
    have hcd4 : ([xIA, xIO] : List String).length ≤ 3 := by decide
    have hcd2 : cd [xIA, xIO] E < 65536 := by omega
    refine lv_istore (lv' := [(6, .int (nI (cd [xIA, xIO] E))), (0, .ref b), (1, .ref (ad 0)), (2, .ref (ad 69)), (3, .ref (ad 114)), (4, .ref (ad 115)), (5, .int (nI i))]) hx hb dL_law_717 hl (by decide) rfl (fun ls hl => ?_)
    refine lv_aload_n hx hb dL_law_719 rfl (lv_at hl 3 rfl) ?_
    refine lv_aload_n hx hb dL_law_720 rfl (lv_at hl 1 rfl) ?_
    refine lv_iload hx hb dL_law_721 (lv_at hl 6 rfl) ?_
    refine lv_iconst (v := nI 1) hx hb dL_law_723 (by decide) ?_
    refine lv_iadd hx hb dL_law_724 ?_
    refine t_eqi (nI (i + 1)) (nI_add i 1) ?_
    refine g_sld hx hb hX hbl hbA hS (j := i + 1) (by omega) (by omega) dL_law_725 ?_
    refine lv_aload_n hx hb dL_law_726 rfl (lv_at hl 1 rfl) ?_
    refine lv_iload hx hb dL_law_727 (lv_at hl 6 rfl) ?_
    refine lv_iconst (v := nI 2) hx hb dL_law_729 (by decide) ?_
    refine lv_iadd hx hb dL_law_730 ?_
    refine t_eqi (nI (i + 2)) (nI_add i 2) ?_
    refine g_sld hx hb hX hbl hbA hS (j := i + 2) (by omega) (by omega) dL_law_731 ?_
    refine lv_i2c (v := nI (chN (xs (i + 2)))) hx hb dL_law_732 (chN_eq _) ?_
    refine lv_aload_n hx hb dL_law_733 rfl (lv_at hl 1 rfl) ?_
    refine lv_iload hx hb dL_law_734 (lv_at hl 6 rfl) ?_
    refine lv_iconst (v := nI 3) hx hb dL_law_736 (by decide) ?_
    refine lv_iadd hx hb dL_law_737 ?_
    refine t_eqi (nI (i + 3)) (nI_add i 3) ?_
    refine g_sld hx hb hX hbl hbA hS (j := i + 3) (by omega) (by omega) dL_law_738 ?_
    refine lv_aload_n hx hb dL_law_739 rfl (lv_at hl 1 rfl) ?_
    refine lv_iload hx hb dL_law_740 (lv_at hl 6 rfl) ?_
    refine lv_iconst (v := nI 4) hx hb dL_law_742 (by decide) ?_
    refine lv_iadd hx hb dL_law_743 ?_
    refine t_eqi (nI (i + 4)) (nI_add i 4) ?_
    refine g_sld hx hb hX hbl hbA hS (j := i + 4) (by omega) (by omega) dL_law_744 ?_
    refine lv_aload_n hx hb dL_law_745 rfl (lv_at hl 1 rfl) ?_
    refine lv_iload hx hb dL_law_746 (lv_at hl 6 rfl) ?_
    refine lv_iconst (v := nI 5) hx hb dL_law_748 (by decide) ?_
    refine lv_iadd hx hb dL_law_749 ?_
    refine t_eqi (nI (i + 5)) (nI_add i 5) ?_
    refine g_sld hx hb hX hbl hbA hS (j := i + 5) (by omega) (by omega) dL_law_750 ?_
    refine g_callV (As := [.int (xs (i + 1)), .int (nI (chN (xs (i + 2)))), .int (xs (i + 3)), .int (xs (i + 4)), .int (xs (i + 5))]) (rest := []) ⟨hx, hb, hml, hown, hw⟩ (mX3_open_no l D cT 116 ad A hD G (by omega) σ hI th hM (xs (i + 1)) (chN (xs (i + 2))) (chN_lt _) (xs (i + 3)) (xs (i + 4)) (xs (i + 5)) E hpx) (cwV 5 hw (gWV wm_L_148 wi_X3_open wse_X3_open wini_X3 wc_X3_open) rfl rfl rfl (by decide +kernel) ⟨Nat.le_of_ble_eq_true rfl, Nat.le_of_ble_eq_true rfl⟩) hK hE hA hP hS (k := 69) (by omega) (MW.th hM) rfl rfl hl.1 (lv_room (Nat.le_of_ble_eq_true rfl)) dL_law_751 ⟨by show cells + 0 + 3 + 0 ≤ 603072; omega, by show slots + 0 + 18 + 0 ≤ 7227498; omega⟩ (fun v G3 H locs hp3 hP hS => ?_)
    obtain ⟨⟨⟨z9, rfl⟩, hM3⟩, hf3⟩ := hp3
    refine lv_istore (lv' := [(7, .int z9), (6, .int (nI (cd [xIA, xIO] E))), (0, .ref b), (1, .ref (ad 0)), (2, .ref (ad 69)), (3, .ref (ad 114)), (4, .ref (ad 115)), (5, .int (nI i))]) hx hb dL_law_754 hl (by decide) rfl (fun ls hl => ?_)
    refine lv_aload_n hx hb dL_law_756 rfl (lv_at hl 4 rfl) ?_
    refine g_callV (As := []) (rest := []) ⟨hx, hb, hml, hown, hw⟩ (mX3_thrown l D cT 116 ad A hD G3 (by omega) (cd [xIA, xIO] E) (MW.th hM3)) (cwV 0 hw (gWV wm_L_126 wi_X3_thrown wse_X3_thrown wini_X3 wc_X3_thrown) rfl rfl rfl (by decide +kernel) ⟨Nat.le_of_ble_eq_true rfl, Nat.le_of_ble_eq_true rfl⟩) hK hE hA hP hS (k := 69) (by omega) (MW.th hM3) rfl rfl hl.1 (lv_room (Nat.le_of_ble_eq_true rfl)) dL_law_757 ⟨by show cells + 0 + 3 + 0 + 0 ≤ 603072; omega, by show slots + 0 + 18 + 0 + 0 ≤ 7227498; omega⟩ (fun v G4 H locs hp hP hS => ?_)
    obtain ⟨hv, hg⟩ := hp
    subst hv
    rw [hg] at hP
    refine lv_iload hx hb dL_law_760 (lv_at hl 1 rfl) ?_
    refine t_icmp_eq (tgt := 767) hx hb dL_law_762 (by decide) (by omega) (by omega) (fun c_4 => ?_) (fun c_4 => ?_)
    · skip
      refine lv_iload hx hb dL_law_767 (lv_at hl 1 rfl) ?_
      refine t_if_ne (tgt := 784) hx hb dL_law_769 (by decide) (by omega) (fun c_5 => ?_) (fun c_5 => ?_)
      · skip
        refine lv_goto (tgt := 2260) hx hb dL_law_784 (by decide) ?_
        refine W.widen (k := cells + 10) (n := slots + 100) (by omega) (by omega) ?_
        exact kont σ G3 _ f f2 H locs ls ⟨hI, hY.ad (fun _ _ => rfl) (fun k hk => hf3 k (by omega)), hM3, (hf3 114 (by omega)).trans hO, (hf3 115 (by omega)).trans hO2⟩ hP hS (lv_sub hl [2, 3, 4, 5, 6, 7] rfl)
      · exfalso; omega
    · exfalso; omega

set_option maxHeartbeats 4000000 in
set_option maxRecDepth 100000 in
theorem lc_openAll {p : Program} {l : Launch} {e : Env} {s : State} {m : MethodId} {below : List Frame} {meth : Method} {c : Code} {b L : Nat} {xs : Nat → Int32} {D : va_G} {cT : Nat → ClassId} {ad : Nat → Nat} {A : Nat → Prop} {Q : State → Prop} {i cells slots : Nat} {H : Heap} {locs : List Loc} {ls : Array Slot} {σ : TY} {G : Nat → va_E} {th : Nat} {f : Nat → Int64} {f2 : Nat → UInt64} (hX9 : LX p l s m meth c b L xs D cT ad A) (hi : i + 8 ≤ L) (hc : cells + 10 ≤ 603072) (hs : slots + 100 ≤ 7227498) (hst : LSt cT ad G σ th f f2) (hP : va_P D vwCl (gw 116 ad G) H) (hS : va_S A s.heap H locs) (hl : lv_has ls 9 (LVL b ad i)) (kont : LK p l e s m below meth c b D cT ad A Q i (cells + 10) (slots + 100) 2260) : W p l e room_1 s m #[Value.ref b] below meth c H locs cells slots Q (F0 m 787 ls []) := by
  obtain ⟨hx, hb, hml, hown, hw, hX, hbl, hbA, hK, hE, hA, hD, hN, hl9, hL⟩ := hX9
  obtain ⟨hI, hY, hM, hO, hO2⟩ := hst
  refine lv_aload_n hx hb dL_law_787 rfl (lv_at hl 1 rfl) ?_
  refine lv_aload_n hx hb dL_law_788 rfl (lv_at hl 0 rfl) ?_
  refine lv_iload hx hb dL_law_789 (lv_at hl 5 rfl) ?_
  refine lv_iconst (v := nI 1) hx hb dL_law_791 (by decide) ?_
  refine lv_iadd hx hb dL_law_792 ?_
  refine t_eqi (nI (i + 1)) (nI_add i 1) ?_
  refine g_sld hx hb hX hbl hbA hS (j := i + 1) (by omega) (by omega) dL_law_793 ?_
  refine lv_aload_n hx hb dL_law_794 rfl (lv_at hl 0 rfl) ?_
  refine lv_iload hx hb dL_law_795 (lv_at hl 5 rfl) ?_
  refine lv_iconst (v := nI 2) hx hb dL_law_797 (by decide) ?_
  refine lv_iadd hx hb dL_law_798 ?_
  refine t_eqi (nI (i + 2)) (nI_add i 2) ?_
  refine g_sld hx hb hX hbl hbA hS (j := i + 2) (by omega) (by omega) dL_law_799 ?_
  refine lv_i2c (v := nI (chN (xs (i + 2)))) hx hb dL_law_800 (chN_eq _) ?_
  refine lv_aload_n hx hb dL_law_801 rfl (lv_at hl 0 rfl) ?_
  refine lv_iload hx hb dL_law_802 (lv_at hl 5 rfl) ?_
  refine lv_iconst (v := nI 3) hx hb dL_law_804 (by decide) ?_
  refine lv_iadd hx hb dL_law_805 ?_
  refine t_eqi (nI (i + 3)) (nI_add i 3) ?_
  refine g_sld hx hb hX hbl hbA hS (j := i + 3) (by omega) (by omega) dL_law_806 ?_
  refine lv_aload_n hx hb dL_law_807 rfl (lv_at hl 3 rfl) ?_
  refine g_callSH (As := [.ref (ad 0), .int (xs (i + 1)), .int (nI (chN (xs (i + 2)))), .int (xs (i + 3)), .ref (ad 114)]) (rest := []) ⟨hx, hb, hml, hown, hw⟩ (mL_openAll l hl9 D cT 116 ad A hD G (Nat.le_refl _) σ hY hI f hO (xs (i + 1)) (chN (xs (i + 2))) (chN_lt _) (xs (i + 3))) (vx_cwSW 5 hw (gWSB wm_L_149 wst_L_openAll wini_L wcw_L_openAll) rfl rfl rfl (by decide +kernel) ⟨Nat.le_of_ble_eq_true rfl, Nat.le_of_ble_eq_true rfl⟩) hK hE hA hP hS rfl hl.1 (lv_room (Nat.le_of_ble_eq_true rfl)) dL_law_808 ⟨by show cells + 0 + 2 ≤ 603072; omega, by show slots + 0 + 12 ≤ 7227498; omega⟩ (fun v G1 H locs hp hP hS => ?_)
  rcases hp with ⟨y8, G2, hcl, hO1, hfo, rfl⟩ | ⟨E, hpx, rfl, hg1⟩
  · skip
    rcases hcl with ⟨⟨b9, hb9, hx1, q, ro, hq, hro, hkq, hy1, hv, hY2⟩, hfr⟩
    have hfe : ∀ j, 69 ≤ j → G2 j = G j := hfr
    have hM1 : MW cT ad G1 σ th := hM.keep (fun j h1 h2 => (hfo j (by omega)).trans (hfe j (by omega)))
    have hY1 := hY2.ad (ad2 := ad) (G2 := G1) (fun _ _ => rfl) (fun k hk => hfo k (by omega))
    obtain rfl := Value.int.inj (Option.some.inj hv)
    refine lv_istore (lv' := [(6, .int (nI 0)), (0, .ref b), (1, .ref (ad 0)), (2, .ref (ad 69)), (3, .ref (ad 114)), (4, .ref (ad 115)), (5, .int (nI i))]) hx hb dL_law_811 hl (by decide) rfl (fun ls hl => ?_)
    refine lv_aload_n hx hb dL_law_813 rfl (lv_at hl 3 rfl) ?_
    refine lv_aload_n hx hb dL_law_814 rfl (lv_at hl 1 rfl) ?_
    refine lv_iload hx hb dL_law_815 (lv_at hl 6 rfl) ?_
    refine lv_iconst (v := nI 1) hx hb dL_law_817 (by decide) ?_
    refine lv_iadd hx hb dL_law_818 ?_
    refine t_eqi (nI (i + 1)) (nI_add i 1) ?_
    refine g_sld hx hb hX hbl hbA hS (j := i + 1) (by omega) (by omega) dL_law_819 ?_
    refine t_eqi (nI b9) hx1 ?_
    refine lv_aload_n hx hb dL_law_820 rfl (lv_at hl 1 rfl) ?_
    refine lv_iload hx hb dL_law_821 (lv_at hl 6 rfl) ?_
    refine lv_iconst (v := nI 2) hx hb dL_law_823 (by decide) ?_
    refine lv_iadd hx hb dL_law_824 ?_
    refine t_eqi (nI (i + 2)) (nI_add i 2) ?_
    refine g_sld hx hb hX hbl hbA hS (j := i + 2) (by omega) (by omega) dL_law_825 ?_
    refine lv_i2c (v := nI (chN (xs (i + 2)))) hx hb dL_law_826 (chN_eq _) ?_
    refine lv_aload_n hx hb dL_law_827 rfl (lv_at hl 1 rfl) ?_
    refine lv_iload hx hb dL_law_828 (lv_at hl 6 rfl) ?_
    refine lv_iconst (v := nI 3) hx hb dL_law_830 (by decide) ?_
    refine lv_iadd hx hb dL_law_831 ?_
    refine t_eqi (nI (i + 3)) (nI_add i 3) ?_
    refine g_sld hx hb hX hbl hbA hS (j := i + 3) (by omega) (by omega) dL_law_832 ?_
    refine t_eqi (nI ro) hy1 ?_
    refine g_callV (As := [.int (nI b9), .int (nI (chN (xs (i + 2)))), .int (nI ro)]) (rest := []) ⟨hx, hb, hml, hown, hw⟩ (mX3_openAll_ok l D cT 116 ad A hD G1 (by omega) σ hI th hM1 (chN (xs (i + 2))) (chN_lt _) b9 hb9 q ro hq hro hkq) (cwV 3 hw (gWV wm_L_152 wi_X3_openAll wse_X3_openAll wini_X3 wc_X3_openAll) rfl rfl rfl (by decide +kernel) ⟨Nat.le_of_ble_eq_true rfl, Nat.le_of_ble_eq_true rfl⟩) hK hE hA hP hS (k := 69) (by omega) (MW.th hM1) rfl rfl hl.1 (lv_room (Nat.le_of_ble_eq_true rfl)) dL_law_833 ⟨by show cells + 0 + 2 + 0 ≤ 603072; omega, by show slots + 0 + 12 + 0 ≤ 7227498; omega⟩ (fun v G3 H locs hp3 hP hS => ?_)
    obtain ⟨⟨rfl, hM3⟩, hf3⟩ := hp3
    refine lv_istore (lv' := [(7, .int (nI ((σ.1 (4 * q + ro)).1 - 0))), (6, .int (nI 0)), (0, .ref b), (1, .ref (ad 0)), (2, .ref (ad 69)), (3, .ref (ad 114)), (4, .ref (ad 115)), (5, .int (nI i))]) hx hb dL_law_836 hl (by decide) rfl (fun ls hl => ?_)
    refine lv_aload_n hx hb dL_law_838 rfl (lv_at hl 4 rfl) ?_
    refine g_callV (As := []) (rest := []) ⟨hx, hb, hml, hown, hw⟩ (mX3_thrown l D cT 116 ad A hD G3 (by omega) 0 (MW.th hM3)) (cwV 0 hw (gWV wm_L_126 wi_X3_thrown wse_X3_thrown wini_X3 wc_X3_thrown) rfl rfl rfl (by decide +kernel) ⟨Nat.le_of_ble_eq_true rfl, Nat.le_of_ble_eq_true rfl⟩) hK hE hA hP hS (k := 69) (by omega) (MW.th hM3) rfl rfl hl.1 (lv_room (Nat.le_of_ble_eq_true rfl)) dL_law_839 ⟨by show cells + 0 + 2 + 0 + 0 ≤ 603072; omega, by show slots + 0 + 12 + 0 + 0 ≤ 7227498; omega⟩ (fun v G4 H locs hp hP hS => ?_)
    obtain ⟨hv, hg⟩ := hp
    subst hv
    rw [hg] at hP
    refine lv_iload hx hb dL_law_842 (lv_at hl 1 rfl) ?_
    refine t_icmp_eq (tgt := 849) hx hb dL_law_844 (by decide) (by omega) (by omega) (fun c_1 => ?_) (fun c_1 => absurd c_1 (by omega))
    refine lv_iload hx hb dL_law_849 (lv_at hl 1 rfl) ?_
    refine t_if_ne (tgt := 866) hx hb dL_law_851 (by decide) (by omega) (fun c_2 => absurd c_2 (by omega)) (fun c_2 => ?_)
    refine lv_aload_n hx hb dL_law_854 rfl (lv_at hl 5 rfl) ?_
    refine lv_iconst (v := nI 0) hx hb dL_law_855 (by decide) ?_
    refine g_lald hx hb hK hP (i := 114) (by omega) ((hf3 _ (by omega)).trans hO1) (by omega) (by omega) dL_law_856 ?_
    refine t_eql ((nI ((σ.1 (4 * q + ro)).1 - 0)).toInt64) (va_up_self _ _ _) ?_
    refine lv_iload hx hb dL_law_857 (lv_at hl 0 rfl) ?_
    refine lv_i2l hx hb dL_law_859 rfl ?_
    refine W.lcmp hx hb dL_law_860 ?_
    refine t_eqi (nI 0) (lgc_eq rfl) ?_
    refine t_if_eq (tgt := 866) hx hb dL_law_861 (by decide) (by omega) (fun c_3 => ?_) (fun c_3 => absurd c_3 (by omega))
    refine lv_goto (tgt := 2260) hx hb dL_law_866 (by decide) ?_
    refine W.widen (k := cells + 10) (n := slots + 100) (by omega) (by omega) ?_
    exact kont _ G3 0 _ _ H locs ls ⟨hI.bench (BIt_open (by unfold isO; split <;> omega) (hI.1 _ (by omega))), hY1.ad (fun _ _ => rfl) (fun k hk => hf3 k (by omega)), hM3, (hf3 114 (by omega)).trans hO1, (hf3 115 (by omega)).trans ((hfo 115 (by omega)).trans ((hfe 115 (by omega)).trans hO2))⟩ hP hS (lv_sub hl [2, 3, 4, 5, 6, 7] rfl)
  · skip
    rw [hg1] at hP
    have hcd1 := cd_pos [xIA, xIO] E
    have hcd3 := cd_le [xIA, xIO] E
    have hcd4 : ([xIA, xIO] : List String).length ≤ 3 := by decide
    have hcd2 : cd [xIA, xIO] E < 65536 := by omega
    refine lv_istore (lv' := [(6, .int (nI (cd [xIA, xIO] E))), (0, .ref b), (1, .ref (ad 0)), (2, .ref (ad 69)), (3, .ref (ad 114)), (4, .ref (ad 115)), (5, .int (nI i))]) hx hb dL_law_811 hl (by decide) rfl (fun ls hl => ?_)
    refine lv_aload_n hx hb dL_law_813 rfl (lv_at hl 3 rfl) ?_
    refine lv_aload_n hx hb dL_law_814 rfl (lv_at hl 1 rfl) ?_
    refine lv_iload hx hb dL_law_815 (lv_at hl 6 rfl) ?_
    refine lv_iconst (v := nI 1) hx hb dL_law_817 (by decide) ?_
    refine lv_iadd hx hb dL_law_818 ?_
    refine t_eqi (nI (i + 1)) (nI_add i 1) ?_
    refine g_sld hx hb hX hbl hbA hS (j := i + 1) (by omega) (by omega) dL_law_819 ?_
    refine lv_aload_n hx hb dL_law_820 rfl (lv_at hl 1 rfl) ?_
    refine lv_iload hx hb dL_law_821 (lv_at hl 6 rfl) ?_
    refine lv_iconst (v := nI 2) hx hb dL_law_823 (by decide) ?_
    refine lv_iadd hx hb dL_law_824 ?_
    refine t_eqi (nI (i + 2)) (nI_add i 2) ?_
    refine g_sld hx hb hX hbl hbA hS (j := i + 2) (by omega) (by omega) dL_law_825 ?_
    refine lv_i2c (v := nI (chN (xs (i + 2)))) hx hb dL_law_826 (chN_eq _) ?_
    refine lv_aload_n hx hb dL_law_827 rfl (lv_at hl 1 rfl) ?_
    refine lv_iload hx hb dL_law_828 (lv_at hl 6 rfl) ?_
    refine lv_iconst (v := nI 3) hx hb dL_law_830 (by decide) ?_
    refine lv_iadd hx hb dL_law_831 ?_
    refine t_eqi (nI (i + 3)) (nI_add i 3) ?_
    refine g_sld hx hb hX hbl hbA hS (j := i + 3) (by omega) (by omega) dL_law_832 ?_
    refine g_callV (As := [.int (xs (i + 1)), .int (nI (chN (xs (i + 2)))), .int (xs (i + 3))]) (rest := []) ⟨hx, hb, hml, hown, hw⟩ (mX3_openAll_no l D cT 116 ad A hD G (by omega) σ hI th hM (xs (i + 1)) (chN (xs (i + 2))) (chN_lt _) (xs (i + 3)) E hpx) (cwV 3 hw (gWV wm_L_152 wi_X3_openAll wse_X3_openAll wini_X3 wc_X3_openAll) rfl rfl rfl (by decide +kernel) ⟨Nat.le_of_ble_eq_true rfl, Nat.le_of_ble_eq_true rfl⟩) hK hE hA hP hS (k := 69) (by omega) (MW.th hM) rfl rfl hl.1 (lv_room (Nat.le_of_ble_eq_true rfl)) dL_law_833 ⟨by show cells + 0 + 2 + 0 ≤ 603072; omega, by show slots + 0 + 12 + 0 ≤ 7227498; omega⟩ (fun v G3 H locs hp3 hP hS => ?_)
    obtain ⟨⟨⟨z9, rfl⟩, hM3⟩, hf3⟩ := hp3
    refine lv_istore (lv' := [(7, .int z9), (6, .int (nI (cd [xIA, xIO] E))), (0, .ref b), (1, .ref (ad 0)), (2, .ref (ad 69)), (3, .ref (ad 114)), (4, .ref (ad 115)), (5, .int (nI i))]) hx hb dL_law_836 hl (by decide) rfl (fun ls hl => ?_)
    refine lv_aload_n hx hb dL_law_838 rfl (lv_at hl 4 rfl) ?_
    refine g_callV (As := []) (rest := []) ⟨hx, hb, hml, hown, hw⟩ (mX3_thrown l D cT 116 ad A hD G3 (by omega) (cd [xIA, xIO] E) (MW.th hM3)) (cwV 0 hw (gWV wm_L_126 wi_X3_thrown wse_X3_thrown wini_X3 wc_X3_thrown) rfl rfl rfl (by decide +kernel) ⟨Nat.le_of_ble_eq_true rfl, Nat.le_of_ble_eq_true rfl⟩) hK hE hA hP hS (k := 69) (by omega) (MW.th hM3) rfl rfl hl.1 (lv_room (Nat.le_of_ble_eq_true rfl)) dL_law_839 ⟨by show cells + 0 + 2 + 0 + 0 ≤ 603072; omega, by show slots + 0 + 12 + 0 + 0 ≤ 7227498; omega⟩ (fun v G4 H locs hp hP hS => ?_)
    obtain ⟨hv, hg⟩ := hp
    subst hv
    rw [hg] at hP
    refine lv_iload hx hb dL_law_842 (lv_at hl 1 rfl) ?_
    refine t_icmp_eq (tgt := 849) hx hb dL_law_844 (by decide) (by omega) (by omega) (fun c_4 => ?_) (fun c_4 => ?_)
    · skip
      refine lv_iload hx hb dL_law_849 (lv_at hl 1 rfl) ?_
      refine t_if_ne (tgt := 866) hx hb dL_law_851 (by decide) (by omega) (fun c_5 => ?_) (fun c_5 => ?_)
      · skip
        refine lv_goto (tgt := 2260) hx hb dL_law_866 (by decide) ?_
        refine W.widen (k := cells + 10) (n := slots + 100) (by omega) (by omega) ?_
        exact kont σ G3 _ f f2 H locs ls ⟨hI, hY.ad (fun _ _ => rfl) (fun k hk => hf3 k (by omega)), hM3, (hf3 114 (by omega)).trans hO, (hf3 115 (by omega)).trans hO2⟩ hP hS (lv_sub hl [2, 3, 4, 5, 6, 7] rfl)
      · exfalso; omega
    · exfalso; omega

set_option maxHeartbeats 4000000 in
set_option maxRecDepth 100000 in
theorem lc_items {p : Program} {l : Launch} {e : Env} {s : State} {m : MethodId} {below : List Frame} {meth : Method} {c : Code} {b L : Nat} {xs : Nat → Int32} {D : va_G} {cT : Nat → ClassId} {ad : Nat → Nat} {A : Nat → Prop} {Q : State → Prop} {i cells slots : Nat} {H : Heap} {locs : List Loc} {ls : Array Slot} {σ : TY} {G : Nat → va_E} {th : Nat} {f : Nat → Int64} {f2 : Nat → UInt64} (hX9 : LX p l s m meth c b L xs D cT ad A) (hi : i + 8 ≤ L) (hc : cells + 10 ≤ 603072) (hs : slots + 100 ≤ 7227498) (hst : LSt cT ad G σ th f f2) (hP : va_P D vwCl (gw 116 ad G) H) (hS : va_S A s.heap H locs) (hl : lv_has ls 9 (LVL b ad i)) (kont : LK p l e s m below meth c b D cT ad A Q i (cells + 10) (slots + 100) 2260) : W p l e room_1 s m #[Value.ref b] below meth c H locs cells slots Q (F0 m 869 ls []) := by
  obtain ⟨hx, hb, hml, hown, hw, hX, hbl, hbA, hK, hE, hA, hD, hN, hl9, hL⟩ := hX9
  obtain ⟨hI, hY, hM, hO, hO2⟩ := hst
  refine lv_aload_n hx hb dL_law_869 rfl (lv_at hl 1 rfl) ?_
  refine lv_aload_n hx hb dL_law_870 rfl (lv_at hl 0 rfl) ?_
  refine lv_iload hx hb dL_law_871 (lv_at hl 5 rfl) ?_
  refine lv_iconst (v := nI 1) hx hb dL_law_873 (by decide) ?_
  refine lv_iadd hx hb dL_law_874 ?_
  refine t_eqi (nI (i + 1)) (nI_add i 1) ?_
  refine g_sld hx hb hX hbl hbA hS (j := i + 1) (by omega) (by omega) dL_law_875 ?_
  refine lv_aload_n hx hb dL_law_876 rfl (lv_at hl 3 rfl) ?_
  refine g_callSH (As := [.ref (ad 0), .int (xs (i + 1)), .ref (ad 114)]) (rest := []) ⟨hx, hb, hml, hown, hw⟩ (mL_items l hl9 D cT 116 ad A hD G (Nat.le_refl _) σ hY hI f hO (xs (i + 1))) (vx_cwSW 3 hw (gWSB wm_L_153 wst_L_items wini_L wcw_L_items) rfl rfl rfl (by decide +kernel) ⟨Nat.le_of_ble_eq_true rfl, Nat.le_of_ble_eq_true rfl⟩) hK hE hA hP hS rfl hl.1 (lv_room (Nat.le_of_ble_eq_true rfl)) dL_law_877 ⟨by show cells + 0 + 1 ≤ 603072; omega, by show slots + 0 + 6 ≤ 7227498; omega⟩ (fun v G1 H locs hp hP hS => ?_)
  rcases hp with ⟨y8, G2, hcl, hO1, hfo, rfl⟩ | ⟨E, hpx, rfl, hg1⟩
  · skip
    rcases hcl with ⟨⟨b9, hb9, hx1, hv⟩, hfr⟩
    have hfe : ∀ j, 69 ≤ j → G2 j = G j := fun j _ => by rw [hfr]
    have hM1 : MW cT ad G1 σ th := hM.keep (fun j h1 h2 => (hfo j (by omega)).trans (hfe j (by omega)))
    have hY1 := hY.ad (ad2 := ad) (G2 := G1) (fun _ _ => rfl) (fun k hk => (hfo k (by omega)).trans (by rw [hfr]))
    obtain rfl := Value.int.inj (Option.some.inj hv)
    refine lv_istore (lv' := [(6, .int (nI 0)), (0, .ref b), (1, .ref (ad 0)), (2, .ref (ad 69)), (3, .ref (ad 114)), (4, .ref (ad 115)), (5, .int (nI i))]) hx hb dL_law_880 hl (by decide) rfl (fun ls hl => ?_)
    refine lv_aload_n hx hb dL_law_882 rfl (lv_at hl 3 rfl) ?_
    refine lv_aload_n hx hb dL_law_883 rfl (lv_at hl 1 rfl) ?_
    refine lv_iload hx hb dL_law_884 (lv_at hl 6 rfl) ?_
    refine lv_iconst (v := nI 1) hx hb dL_law_886 (by decide) ?_
    refine lv_iadd hx hb dL_law_887 ?_
    refine t_eqi (nI (i + 1)) (nI_add i 1) ?_
    refine g_sld hx hb hX hbl hbA hS (j := i + 1) (by omega) (by omega) dL_law_888 ?_
    refine t_eqi (nI b9) hx1 ?_
    refine g_callV (As := [.int (nI b9)]) (rest := []) ⟨hx, hb, hml, hown, hw⟩ (mX3_items_ok l D cT 116 ad A hD G1 (by omega) σ hI th hM1 b9 hb9) (cwV 1 hw (gWV wm_L_156 wi_X3_items wse_X3_items wini_X3 wc_X3_items) rfl rfl rfl (by decide +kernel) ⟨Nat.le_of_ble_eq_true rfl, Nat.le_of_ble_eq_true rfl⟩) hK hE hA hP hS (k := 69) (by omega) (MW.th hM1) rfl rfl hl.1 (lv_room (Nat.le_of_ble_eq_true rfl)) dL_law_889 ⟨by show cells + 0 + 1 + 0 ≤ 603072; omega, by show slots + 0 + 6 + 0 ≤ 7227498; omega⟩ (fun v G3 H locs hp3 hP hS => ?_)
    obtain ⟨⟨rfl, hM3⟩, hf3⟩ := hp3
    refine lv_istore (lv' := [(7, .int (nI ((σ.2 b9).2.1))), (6, .int (nI 0)), (0, .ref b), (1, .ref (ad 0)), (2, .ref (ad 69)), (3, .ref (ad 114)), (4, .ref (ad 115)), (5, .int (nI i))]) hx hb dL_law_892 hl (by decide) rfl (fun ls hl => ?_)
    refine lv_aload_n hx hb dL_law_894 rfl (lv_at hl 4 rfl) ?_
    refine g_callV (As := []) (rest := []) ⟨hx, hb, hml, hown, hw⟩ (mX3_thrown l D cT 116 ad A hD G3 (by omega) 0 (MW.th hM3)) (cwV 0 hw (gWV wm_L_126 wi_X3_thrown wse_X3_thrown wini_X3 wc_X3_thrown) rfl rfl rfl (by decide +kernel) ⟨Nat.le_of_ble_eq_true rfl, Nat.le_of_ble_eq_true rfl⟩) hK hE hA hP hS (k := 69) (by omega) (MW.th hM3) rfl rfl hl.1 (lv_room (Nat.le_of_ble_eq_true rfl)) dL_law_895 ⟨by show cells + 0 + 1 + 0 + 0 ≤ 603072; omega, by show slots + 0 + 6 + 0 + 0 ≤ 7227498; omega⟩ (fun v G4 H locs hp hP hS => ?_)
    obtain ⟨hv, hg⟩ := hp
    subst hv
    rw [hg] at hP
    refine lv_iload hx hb dL_law_898 (lv_at hl 1 rfl) ?_
    refine t_icmp_eq (tgt := 905) hx hb dL_law_900 (by decide) (by omega) (by omega) (fun c_1 => ?_) (fun c_1 => absurd c_1 (by omega))
    refine lv_iload hx hb dL_law_905 (lv_at hl 1 rfl) ?_
    refine t_if_ne (tgt := 922) hx hb dL_law_907 (by decide) (by omega) (fun c_2 => absurd c_2 (by omega)) (fun c_2 => ?_)
    refine lv_aload_n hx hb dL_law_910 rfl (lv_at hl 5 rfl) ?_
    refine lv_iconst (v := nI 0) hx hb dL_law_911 (by decide) ?_
    refine g_lald hx hb hK hP (i := 114) (by omega) ((hf3 _ (by omega)).trans hO1) (by omega) (by omega) dL_law_912 ?_
    refine t_eql ((nI ((σ.2 b9).2.1)).toInt64) (va_up_self _ _ _) ?_
    refine lv_iload hx hb dL_law_913 (lv_at hl 0 rfl) ?_
    refine lv_i2l hx hb dL_law_915 rfl ?_
    refine W.lcmp hx hb dL_law_916 ?_
    refine t_eqi (nI 0) (lgc_eq rfl) ?_
    refine t_if_eq (tgt := 922) hx hb dL_law_917 (by decide) (by omega) (fun c_3 => ?_) (fun c_3 => absurd c_3 (by omega))
    refine lv_goto (tgt := 2260) hx hb dL_law_922 (by decide) ?_
    refine W.widen (k := cells + 10) (n := slots + 100) (by omega) (by omega) ?_
    exact kont _ G3 0 _ _ H locs ls ⟨hI, hY1.ad (fun _ _ => rfl) (fun k hk => hf3 k (by omega)), hM3, (hf3 114 (by omega)).trans hO1, (hf3 115 (by omega)).trans ((hfo 115 (by omega)).trans ((hfe 115 (by omega)).trans hO2))⟩ hP hS (lv_sub hl [2, 3, 4, 5, 6, 7] rfl)
  · skip
    rw [hg1] at hP
    have hcd1 := cd_pos [xIO] E
    have hcd3 := cd_le [xIO] E
    have hcd4 : ([xIO] : List String).length ≤ 3 := by decide
    have hcd2 : cd [xIO] E < 65536 := by omega
    refine lv_istore (lv' := [(6, .int (nI (cd [xIO] E))), (0, .ref b), (1, .ref (ad 0)), (2, .ref (ad 69)), (3, .ref (ad 114)), (4, .ref (ad 115)), (5, .int (nI i))]) hx hb dL_law_880 hl (by decide) rfl (fun ls hl => ?_)
    refine lv_aload_n hx hb dL_law_882 rfl (lv_at hl 3 rfl) ?_
    refine lv_aload_n hx hb dL_law_883 rfl (lv_at hl 1 rfl) ?_
    refine lv_iload hx hb dL_law_884 (lv_at hl 6 rfl) ?_
    refine lv_iconst (v := nI 1) hx hb dL_law_886 (by decide) ?_
    refine lv_iadd hx hb dL_law_887 ?_
    refine t_eqi (nI (i + 1)) (nI_add i 1) ?_
    refine g_sld hx hb hX hbl hbA hS (j := i + 1) (by omega) (by omega) dL_law_888 ?_
    refine g_callV (As := [.int (xs (i + 1))]) (rest := []) ⟨hx, hb, hml, hown, hw⟩ (mX3_items_no l D cT 116 ad A hD G (by omega) σ hI th hM (xs (i + 1)) E hpx) (cwV 1 hw (gWV wm_L_156 wi_X3_items wse_X3_items wini_X3 wc_X3_items) rfl rfl rfl (by decide +kernel) ⟨Nat.le_of_ble_eq_true rfl, Nat.le_of_ble_eq_true rfl⟩) hK hE hA hP hS (k := 69) (by omega) (MW.th hM) rfl rfl hl.1 (lv_room (Nat.le_of_ble_eq_true rfl)) dL_law_889 ⟨by show cells + 0 + 1 + 0 ≤ 603072; omega, by show slots + 0 + 6 + 0 ≤ 7227498; omega⟩ (fun v G3 H locs hp3 hP hS => ?_)
    obtain ⟨⟨⟨z9, rfl⟩, hM3⟩, hf3⟩ := hp3
    refine lv_istore (lv' := [(7, .int z9), (6, .int (nI (cd [xIO] E))), (0, .ref b), (1, .ref (ad 0)), (2, .ref (ad 69)), (3, .ref (ad 114)), (4, .ref (ad 115)), (5, .int (nI i))]) hx hb dL_law_892 hl (by decide) rfl (fun ls hl => ?_)
    refine lv_aload_n hx hb dL_law_894 rfl (lv_at hl 4 rfl) ?_
    refine g_callV (As := []) (rest := []) ⟨hx, hb, hml, hown, hw⟩ (mX3_thrown l D cT 116 ad A hD G3 (by omega) (cd [xIO] E) (MW.th hM3)) (cwV 0 hw (gWV wm_L_126 wi_X3_thrown wse_X3_thrown wini_X3 wc_X3_thrown) rfl rfl rfl (by decide +kernel) ⟨Nat.le_of_ble_eq_true rfl, Nat.le_of_ble_eq_true rfl⟩) hK hE hA hP hS (k := 69) (by omega) (MW.th hM3) rfl rfl hl.1 (lv_room (Nat.le_of_ble_eq_true rfl)) dL_law_895 ⟨by show cells + 0 + 1 + 0 + 0 ≤ 603072; omega, by show slots + 0 + 6 + 0 + 0 ≤ 7227498; omega⟩ (fun v G4 H locs hp hP hS => ?_)
    obtain ⟨hv, hg⟩ := hp
    subst hv
    rw [hg] at hP
    refine lv_iload hx hb dL_law_898 (lv_at hl 1 rfl) ?_
    refine t_icmp_eq (tgt := 905) hx hb dL_law_900 (by decide) (by omega) (by omega) (fun c_4 => ?_) (fun c_4 => ?_)
    · skip
      refine lv_iload hx hb dL_law_905 (lv_at hl 1 rfl) ?_
      refine t_if_ne (tgt := 922) hx hb dL_law_907 (by decide) (by omega) (fun c_5 => ?_) (fun c_5 => ?_)
      · skip
        refine lv_goto (tgt := 2260) hx hb dL_law_922 (by decide) ?_
        refine W.widen (k := cells + 10) (n := slots + 100) (by omega) (by omega) ?_
        exact kont σ G3 _ f f2 H locs ls ⟨hI, hY.ad (fun _ _ => rfl) (fun k hk => hf3 k (by omega)), hM3, (hf3 114 (by omega)).trans hO, (hf3 115 (by omega)).trans hO2⟩ hP hS (lv_sub hl [2, 3, 4, 5, 6, 7] rfl)
      · exfalso; omega
    · exfalso; omega

set_option maxHeartbeats 4000000 in
set_option maxRecDepth 100000 in
theorem lc_kindOf {p : Program} {l : Launch} {e : Env} {s : State} {m : MethodId} {below : List Frame} {meth : Method} {c : Code} {b L : Nat} {xs : Nat → Int32} {D : va_G} {cT : Nat → ClassId} {ad : Nat → Nat} {A : Nat → Prop} {Q : State → Prop} {i cells slots : Nat} {H : Heap} {locs : List Loc} {ls : Array Slot} {σ : TY} {G : Nat → va_E} {th : Nat} {f : Nat → Int64} {f2 : Nat → UInt64} (hX9 : LX p l s m meth c b L xs D cT ad A) (hi : i + 8 ≤ L) (hc : cells + 10 ≤ 603072) (hs : slots + 100 ≤ 7227498) (hst : LSt cT ad G σ th f f2) (hP : va_P D vwCl (gw 116 ad G) H) (hS : va_S A s.heap H locs) (hl : lv_has ls 9 (LVL b ad i)) (kont : LK p l e s m below meth c b D cT ad A Q i (cells + 10) (slots + 100) 2260) : W p l e room_1 s m #[Value.ref b] below meth c H locs cells slots Q (F0 m 925 ls []) := by
  obtain ⟨hx, hb, hml, hown, hw, hX, hbl, hbA, hK, hE, hA, hD, hN, hl9, hL⟩ := hX9
  obtain ⟨hI, hY, hM, hO, hO2⟩ := hst
  refine lv_aload_n hx hb dL_law_925 rfl (lv_at hl 1 rfl) ?_
  refine lv_aload_n hx hb dL_law_926 rfl (lv_at hl 0 rfl) ?_
  refine lv_iload hx hb dL_law_927 (lv_at hl 5 rfl) ?_
  refine lv_iconst (v := nI 1) hx hb dL_law_929 (by decide) ?_
  refine lv_iadd hx hb dL_law_930 ?_
  refine t_eqi (nI (i + 1)) (nI_add i 1) ?_
  refine g_sld hx hb hX hbl hbA hS (j := i + 1) (by omega) (by omega) dL_law_931 ?_
  refine lv_aload_n hx hb dL_law_932 rfl (lv_at hl 0 rfl) ?_
  refine lv_iload hx hb dL_law_933 (lv_at hl 5 rfl) ?_
  refine lv_iconst (v := nI 2) hx hb dL_law_935 (by decide) ?_
  refine lv_iadd hx hb dL_law_936 ?_
  refine t_eqi (nI (i + 2)) (nI_add i 2) ?_
  refine g_sld hx hb hX hbl hbA hS (j := i + 2) (by omega) (by omega) dL_law_937 ?_
  refine lv_aload_n hx hb dL_law_938 rfl (lv_at hl 3 rfl) ?_
  refine g_callSH (As := [.ref (ad 0), .int (xs (i + 1)), .int (xs (i + 2)), .ref (ad 114)]) (rest := []) ⟨hx, hb, hml, hown, hw⟩ (mL_kindOf l hl9 D cT 116 ad A hD G (Nat.le_refl _) σ hY hI f hO (xs (i + 1)) (xs (i + 2))) (vx_cwSW 4 hw (gWSB wm_L_157 wst_L_kindOf wini_L wcw_L_kindOf) rfl rfl rfl (by decide +kernel) ⟨Nat.le_of_ble_eq_true rfl, Nat.le_of_ble_eq_true rfl⟩) hK hE hA hP hS rfl hl.1 (lv_room (Nat.le_of_ble_eq_true rfl)) dL_law_939 ⟨by show cells + 0 + 2 ≤ 603072; omega, by show slots + 0 + 12 ≤ 7227498; omega⟩ (fun v G1 H locs hp hP hS => ?_)
  rcases hp with ⟨y8, G2, hcl, hO1, hfo, rfl⟩ | ⟨E, hpx, rfl, hg1⟩
  · skip
    rcases hcl with ⟨⟨b9, i9, hb9, hx1, hi9, hy1, hv⟩, hfr⟩
    have hfe : ∀ j, 69 ≤ j → G2 j = G j := fun j _ => by rw [hfr]
    have hM1 : MW cT ad G1 σ th := hM.keep (fun j h1 h2 => (hfo j (by omega)).trans (hfe j (by omega)))
    have hY1 := hY.ad (ad2 := ad) (G2 := G1) (fun _ _ => rfl) (fun k hk => (hfo k (by omega)).trans (by rw [hfr]))
    obtain rfl := Value.int.inj (Option.some.inj hv)
    refine lv_istore (lv' := [(6, .int (nI 0)), (0, .ref b), (1, .ref (ad 0)), (2, .ref (ad 69)), (3, .ref (ad 114)), (4, .ref (ad 115)), (5, .int (nI i))]) hx hb dL_law_942 hl (by decide) rfl (fun ls hl => ?_)
    refine lv_aload_n hx hb dL_law_944 rfl (lv_at hl 3 rfl) ?_
    refine lv_aload_n hx hb dL_law_945 rfl (lv_at hl 1 rfl) ?_
    refine lv_iload hx hb dL_law_946 (lv_at hl 6 rfl) ?_
    refine lv_iconst (v := nI 1) hx hb dL_law_948 (by decide) ?_
    refine lv_iadd hx hb dL_law_949 ?_
    refine t_eqi (nI (i + 1)) (nI_add i 1) ?_
    refine g_sld hx hb hX hbl hbA hS (j := i + 1) (by omega) (by omega) dL_law_950 ?_
    refine t_eqi (nI b9) hx1 ?_
    refine lv_aload_n hx hb dL_law_951 rfl (lv_at hl 1 rfl) ?_
    refine lv_iload hx hb dL_law_952 (lv_at hl 6 rfl) ?_
    refine lv_iconst (v := nI 2) hx hb dL_law_954 (by decide) ?_
    refine lv_iadd hx hb dL_law_955 ?_
    refine t_eqi (nI (i + 2)) (nI_add i 2) ?_
    refine g_sld hx hb hX hbl hbA hS (j := i + 2) (by omega) (by omega) dL_law_956 ?_
    refine t_eqi (nI i9) hy1 ?_
    refine g_callV (As := [.int (nI b9), .int (nI i9)]) (rest := []) ⟨hx, hb, hml, hown, hw⟩ (mX3_kindOf_ok l D cT 116 ad A hD G1 (by omega) σ hI th hM1 b9 i9 hb9 hi9) (cwV 2 hw (gWV wm_L_160 wi_X3_kindOf wse_X3_kindOf wini_X3 wc_X3_kindOf) rfl rfl rfl (by decide +kernel) ⟨Nat.le_of_ble_eq_true rfl, Nat.le_of_ble_eq_true rfl⟩) hK hE hA hP hS (k := 69) (by omega) (MW.th hM1) rfl rfl hl.1 (lv_room (Nat.le_of_ble_eq_true rfl)) dL_law_957 ⟨by show cells + 0 + 2 + 0 ≤ 603072; omega, by show slots + 0 + 12 + 0 ≤ 7227498; omega⟩ (fun v G3 H locs hp3 hP hS => ?_)
    obtain ⟨⟨rfl, hM3⟩, hf3⟩ := hp3
    refine lv_istore (lv' := [(7, .int (nI ((σ.2 b9).2.2.2.2.1 i9))), (6, .int (nI 0)), (0, .ref b), (1, .ref (ad 0)), (2, .ref (ad 69)), (3, .ref (ad 114)), (4, .ref (ad 115)), (5, .int (nI i))]) hx hb dL_law_960 hl (by decide) rfl (fun ls hl => ?_)
    refine lv_aload_n hx hb dL_law_962 rfl (lv_at hl 4 rfl) ?_
    refine g_callV (As := []) (rest := []) ⟨hx, hb, hml, hown, hw⟩ (mX3_thrown l D cT 116 ad A hD G3 (by omega) 0 (MW.th hM3)) (cwV 0 hw (gWV wm_L_126 wi_X3_thrown wse_X3_thrown wini_X3 wc_X3_thrown) rfl rfl rfl (by decide +kernel) ⟨Nat.le_of_ble_eq_true rfl, Nat.le_of_ble_eq_true rfl⟩) hK hE hA hP hS (k := 69) (by omega) (MW.th hM3) rfl rfl hl.1 (lv_room (Nat.le_of_ble_eq_true rfl)) dL_law_963 ⟨by show cells + 0 + 2 + 0 + 0 ≤ 603072; omega, by show slots + 0 + 12 + 0 + 0 ≤ 7227498; omega⟩ (fun v G4 H locs hp hP hS => ?_)
    obtain ⟨hv, hg⟩ := hp
    subst hv
    rw [hg] at hP
    refine lv_iload hx hb dL_law_966 (lv_at hl 1 rfl) ?_
    refine t_icmp_eq (tgt := 973) hx hb dL_law_968 (by decide) (by omega) (by omega) (fun c_1 => ?_) (fun c_1 => absurd c_1 (by omega))
    refine lv_iload hx hb dL_law_973 (lv_at hl 1 rfl) ?_
    refine t_if_ne (tgt := 990) hx hb dL_law_975 (by decide) (by omega) (fun c_2 => absurd c_2 (by omega)) (fun c_2 => ?_)
    refine lv_aload_n hx hb dL_law_978 rfl (lv_at hl 5 rfl) ?_
    refine lv_iconst (v := nI 0) hx hb dL_law_979 (by decide) ?_
    refine g_lald hx hb hK hP (i := 114) (by omega) ((hf3 _ (by omega)).trans hO1) (by omega) (by omega) dL_law_980 ?_
    refine t_eql ((nI ((σ.2 b9).2.2.2.2.1 i9)).toInt64) (va_up_self _ _ _) ?_
    refine lv_iload hx hb dL_law_981 (lv_at hl 0 rfl) ?_
    refine lv_i2l hx hb dL_law_983 rfl ?_
    refine W.lcmp hx hb dL_law_984 ?_
    refine t_eqi (nI 0) (lgc_eq rfl) ?_
    refine t_if_eq (tgt := 990) hx hb dL_law_985 (by decide) (by omega) (fun c_3 => ?_) (fun c_3 => absurd c_3 (by omega))
    refine lv_goto (tgt := 2260) hx hb dL_law_990 (by decide) ?_
    refine W.widen (k := cells + 10) (n := slots + 100) (by omega) (by omega) ?_
    exact kont _ G3 0 _ _ H locs ls ⟨hI, hY1.ad (fun _ _ => rfl) (fun k hk => hf3 k (by omega)), hM3, (hf3 114 (by omega)).trans hO1, (hf3 115 (by omega)).trans ((hfo 115 (by omega)).trans ((hfe 115 (by omega)).trans hO2))⟩ hP hS (lv_sub hl [2, 3, 4, 5, 6, 7] rfl)
  · skip
    rw [hg1] at hP
    have hcd1 := cd_pos [xIO] E
    have hcd3 := cd_le [xIO] E
    have hcd4 : ([xIO] : List String).length ≤ 3 := by decide
    have hcd2 : cd [xIO] E < 65536 := by omega
    refine lv_istore (lv' := [(6, .int (nI (cd [xIO] E))), (0, .ref b), (1, .ref (ad 0)), (2, .ref (ad 69)), (3, .ref (ad 114)), (4, .ref (ad 115)), (5, .int (nI i))]) hx hb dL_law_942 hl (by decide) rfl (fun ls hl => ?_)
    refine lv_aload_n hx hb dL_law_944 rfl (lv_at hl 3 rfl) ?_
    refine lv_aload_n hx hb dL_law_945 rfl (lv_at hl 1 rfl) ?_
    refine lv_iload hx hb dL_law_946 (lv_at hl 6 rfl) ?_
    refine lv_iconst (v := nI 1) hx hb dL_law_948 (by decide) ?_
    refine lv_iadd hx hb dL_law_949 ?_
    refine t_eqi (nI (i + 1)) (nI_add i 1) ?_
    refine g_sld hx hb hX hbl hbA hS (j := i + 1) (by omega) (by omega) dL_law_950 ?_
    refine lv_aload_n hx hb dL_law_951 rfl (lv_at hl 1 rfl) ?_
    refine lv_iload hx hb dL_law_952 (lv_at hl 6 rfl) ?_
    refine lv_iconst (v := nI 2) hx hb dL_law_954 (by decide) ?_
    refine lv_iadd hx hb dL_law_955 ?_
    refine t_eqi (nI (i + 2)) (nI_add i 2) ?_
    refine g_sld hx hb hX hbl hbA hS (j := i + 2) (by omega) (by omega) dL_law_956 ?_
    refine g_callV (As := [.int (xs (i + 1)), .int (xs (i + 2))]) (rest := []) ⟨hx, hb, hml, hown, hw⟩ (mX3_kindOf_no l D cT 116 ad A hD G (by omega) σ hI th hM (xs (i + 1)) (xs (i + 2)) E hpx) (cwV 2 hw (gWV wm_L_160 wi_X3_kindOf wse_X3_kindOf wini_X3 wc_X3_kindOf) rfl rfl rfl (by decide +kernel) ⟨Nat.le_of_ble_eq_true rfl, Nat.le_of_ble_eq_true rfl⟩) hK hE hA hP hS (k := 69) (by omega) (MW.th hM) rfl rfl hl.1 (lv_room (Nat.le_of_ble_eq_true rfl)) dL_law_957 ⟨by show cells + 0 + 2 + 0 ≤ 603072; omega, by show slots + 0 + 12 + 0 ≤ 7227498; omega⟩ (fun v G3 H locs hp3 hP hS => ?_)
    obtain ⟨⟨⟨z9, rfl⟩, hM3⟩, hf3⟩ := hp3
    refine lv_istore (lv' := [(7, .int z9), (6, .int (nI (cd [xIO] E))), (0, .ref b), (1, .ref (ad 0)), (2, .ref (ad 69)), (3, .ref (ad 114)), (4, .ref (ad 115)), (5, .int (nI i))]) hx hb dL_law_960 hl (by decide) rfl (fun ls hl => ?_)
    refine lv_aload_n hx hb dL_law_962 rfl (lv_at hl 4 rfl) ?_
    refine g_callV (As := []) (rest := []) ⟨hx, hb, hml, hown, hw⟩ (mX3_thrown l D cT 116 ad A hD G3 (by omega) (cd [xIO] E) (MW.th hM3)) (cwV 0 hw (gWV wm_L_126 wi_X3_thrown wse_X3_thrown wini_X3 wc_X3_thrown) rfl rfl rfl (by decide +kernel) ⟨Nat.le_of_ble_eq_true rfl, Nat.le_of_ble_eq_true rfl⟩) hK hE hA hP hS (k := 69) (by omega) (MW.th hM3) rfl rfl hl.1 (lv_room (Nat.le_of_ble_eq_true rfl)) dL_law_963 ⟨by show cells + 0 + 2 + 0 + 0 ≤ 603072; omega, by show slots + 0 + 12 + 0 + 0 ≤ 7227498; omega⟩ (fun v G4 H locs hp hP hS => ?_)
    obtain ⟨hv, hg⟩ := hp
    subst hv
    rw [hg] at hP
    refine lv_iload hx hb dL_law_966 (lv_at hl 1 rfl) ?_
    refine t_icmp_eq (tgt := 973) hx hb dL_law_968 (by decide) (by omega) (by omega) (fun c_4 => ?_) (fun c_4 => ?_)
    · skip
      refine lv_iload hx hb dL_law_973 (lv_at hl 1 rfl) ?_
      refine t_if_ne (tgt := 990) hx hb dL_law_975 (by decide) (by omega) (fun c_5 => ?_) (fun c_5 => ?_)
      · skip
        refine lv_goto (tgt := 2260) hx hb dL_law_990 (by decide) ?_
        refine W.widen (k := cells + 10) (n := slots + 100) (by omega) (by omega) ?_
        exact kont σ G3 _ f f2 H locs ls ⟨hI, hY.ad (fun _ _ => rfl) (fun k hk => hf3 k (by omega)), hM3, (hf3 114 (by omega)).trans hO, (hf3 115 (by omega)).trans hO2⟩ hP hS (lv_sub hl [2, 3, 4, 5, 6, 7] rfl)
      · exfalso; omega
    · exfalso; omega

set_option maxHeartbeats 4000000 in
set_option maxRecDepth 100000 in
theorem lc_given {p : Program} {l : Launch} {e : Env} {s : State} {m : MethodId} {below : List Frame} {meth : Method} {c : Code} {b L : Nat} {xs : Nat → Int32} {D : va_G} {cT : Nat → ClassId} {ad : Nat → Nat} {A : Nat → Prop} {Q : State → Prop} {i cells slots : Nat} {H : Heap} {locs : List Loc} {ls : Array Slot} {σ : TY} {G : Nat → va_E} {th : Nat} {f : Nat → Int64} {f2 : Nat → UInt64} (hX9 : LX p l s m meth c b L xs D cT ad A) (hi : i + 8 ≤ L) (hc : cells + 10 ≤ 603072) (hs : slots + 100 ≤ 7227498) (hst : LSt cT ad G σ th f f2) (hP : va_P D vwCl (gw 116 ad G) H) (hS : va_S A s.heap H locs) (hl : lv_has ls 9 (LVL b ad i)) (kont : LK p l e s m below meth c b D cT ad A Q i (cells + 10) (slots + 100) 2260) : W p l e room_1 s m #[Value.ref b] below meth c H locs cells slots Q (F0 m 993 ls []) := by
  obtain ⟨hx, hb, hml, hown, hw, hX, hbl, hbA, hK, hE, hA, hD, hN, hl9, hL⟩ := hX9
  obtain ⟨hI, hY, hM, hO, hO2⟩ := hst
  refine lv_aload_n hx hb dL_law_993 rfl (lv_at hl 1 rfl) ?_
  refine lv_aload_n hx hb dL_law_994 rfl (lv_at hl 0 rfl) ?_
  refine lv_iload hx hb dL_law_995 (lv_at hl 5 rfl) ?_
  refine lv_iconst (v := nI 1) hx hb dL_law_997 (by decide) ?_
  refine lv_iadd hx hb dL_law_998 ?_
  refine t_eqi (nI (i + 1)) (nI_add i 1) ?_
  refine g_sld hx hb hX hbl hbA hS (j := i + 1) (by omega) (by omega) dL_law_999 ?_
  refine lv_aload_n hx hb dL_law_1000 rfl (lv_at hl 0 rfl) ?_
  refine lv_iload hx hb dL_law_1001 (lv_at hl 5 rfl) ?_
  refine lv_iconst (v := nI 2) hx hb dL_law_1003 (by decide) ?_
  refine lv_iadd hx hb dL_law_1004 ?_
  refine t_eqi (nI (i + 2)) (nI_add i 2) ?_
  refine g_sld hx hb hX hbl hbA hS (j := i + 2) (by omega) (by omega) dL_law_1005 ?_
  refine lv_aload_n hx hb dL_law_1006 rfl (lv_at hl 3 rfl) ?_
  refine g_callSH (As := [.ref (ad 0), .int (xs (i + 1)), .int (xs (i + 2)), .ref (ad 114)]) (rest := []) ⟨hx, hb, hml, hown, hw⟩ (mL_given l hl9 D cT 116 ad A hD G (Nat.le_refl _) σ hY hI f hO (xs (i + 1)) (xs (i + 2))) (vx_cwSW 4 hw (gWSB wm_L_161 wst_L_given wini_L wcw_L_given) rfl rfl rfl (by decide +kernel) ⟨Nat.le_of_ble_eq_true rfl, Nat.le_of_ble_eq_true rfl⟩) hK hE hA hP hS rfl hl.1 (lv_room (Nat.le_of_ble_eq_true rfl)) dL_law_1007 ⟨by show cells + 0 + 3 ≤ 603072; omega, by show slots + 0 + 18 ≤ 7227498; omega⟩ (fun v G1 H locs hp hP hS => ?_)
  rcases hp with ⟨y8, G2, hcl, hO1, hfo, rfl⟩ | ⟨E, hpx, rfl, hg1⟩
  · skip
    rcases hcl with ⟨⟨b9, i9, hb9, hx1, hi9, hy1, hk9, hv⟩, hfr⟩
    have hfe : ∀ j, 69 ≤ j → G2 j = G j := fun j _ => by rw [hfr]
    have hM1 : MW cT ad G1 σ th := hM.keep (fun j h1 h2 => (hfo j (by omega)).trans (hfe j (by omega)))
    have hY1 := hY.ad (ad2 := ad) (G2 := G1) (fun _ _ => rfl) (fun k hk => (hfo k (by omega)).trans (by rw [hfr]))
    obtain rfl := Value.long.inj (Option.some.inj hv)
    refine lv_istore (lv' := [(6, .int (nI 0)), (0, .ref b), (1, .ref (ad 0)), (2, .ref (ad 69)), (3, .ref (ad 114)), (4, .ref (ad 115)), (5, .int (nI i))]) hx hb dL_law_1010 hl (by decide) rfl (fun ls hl => ?_)
    refine lv_aload_n hx hb dL_law_1012 rfl (lv_at hl 3 rfl) ?_
    refine lv_aload_n hx hb dL_law_1013 rfl (lv_at hl 1 rfl) ?_
    refine lv_iload hx hb dL_law_1014 (lv_at hl 6 rfl) ?_
    refine lv_iconst (v := nI 1) hx hb dL_law_1016 (by decide) ?_
    refine lv_iadd hx hb dL_law_1017 ?_
    refine t_eqi (nI (i + 1)) (nI_add i 1) ?_
    refine g_sld hx hb hX hbl hbA hS (j := i + 1) (by omega) (by omega) dL_law_1018 ?_
    refine t_eqi (nI b9) hx1 ?_
    refine lv_aload_n hx hb dL_law_1019 rfl (lv_at hl 1 rfl) ?_
    refine lv_iload hx hb dL_law_1020 (lv_at hl 6 rfl) ?_
    refine lv_iconst (v := nI 2) hx hb dL_law_1022 (by decide) ?_
    refine lv_iadd hx hb dL_law_1023 ?_
    refine t_eqi (nI (i + 2)) (nI_add i 2) ?_
    refine g_sld hx hb hX hbl hbA hS (j := i + 2) (by omega) (by omega) dL_law_1024 ?_
    refine t_eqi (nI i9) hy1 ?_
    refine g_callV (As := [.int (nI b9), .int (nI i9)]) (rest := []) ⟨hx, hb, hml, hown, hw⟩ (mX3_given_ok l D cT 116 ad A hD G1 (by omega) σ hI th hM1 b9 i9 hb9 hi9 hk9) (cwV 2 hw (gWV wm_L_163 wi_X3_given wse_X3_given wini_X3 wc_X3_given) rfl rfl rfl (by decide +kernel) ⟨Nat.le_of_ble_eq_true rfl, Nat.le_of_ble_eq_true rfl⟩) hK hE hA hP hS (k := 69) (by omega) (MW.th hM1) rfl rfl hl.1 (lv_room (Nat.le_of_ble_eq_true rfl)) dL_law_1025 ⟨by show cells + 0 + 3 + 0 ≤ 603072; omega, by show slots + 0 + 18 + 0 ≤ 7227498; omega⟩ (fun v G3 H locs hp3 hP hS => ?_)
    obtain ⟨⟨rfl, hM3⟩, hf3⟩ := hp3
    refine lv_lstore (lv' := [(7, .long ((σ.2 b9).2.2.2.1 (ps (σ.2 b9).2.2.2.2.2 i9))), (6, .int (nI 0)), (0, .ref b), (1, .ref (ad 0)), (2, .ref (ad 69)), (3, .ref (ad 114)), (4, .ref (ad 115)), (5, .int (nI i))]) hx hb dL_law_1028 hl (by decide) rfl (fun ls hl => ?_)
    refine lv_aload_n hx hb dL_law_1030 rfl (lv_at hl 4 rfl) ?_
    refine g_callV (As := []) (rest := []) ⟨hx, hb, hml, hown, hw⟩ (mX3_thrown l D cT 116 ad A hD G3 (by omega) 0 (MW.th hM3)) (cwV 0 hw (gWV wm_L_126 wi_X3_thrown wse_X3_thrown wini_X3 wc_X3_thrown) rfl rfl rfl (by decide +kernel) ⟨Nat.le_of_ble_eq_true rfl, Nat.le_of_ble_eq_true rfl⟩) hK hE hA hP hS (k := 69) (by omega) (MW.th hM3) rfl rfl hl.1 (lv_room (Nat.le_of_ble_eq_true rfl)) dL_law_1031 ⟨by show cells + 0 + 3 + 0 + 0 ≤ 603072; omega, by show slots + 0 + 18 + 0 + 0 ≤ 7227498; omega⟩ (fun v G4 H locs hp hP hS => ?_)
    obtain ⟨hv, hg⟩ := hp
    subst hv
    rw [hg] at hP
    refine lv_iload hx hb dL_law_1034 (lv_at hl 1 rfl) ?_
    refine t_icmp_eq (tgt := 1041) hx hb dL_law_1036 (by decide) (by omega) (by omega) (fun c_1 => ?_) (fun c_1 => absurd c_1 (by omega))
    refine lv_iload hx hb dL_law_1041 (lv_at hl 1 rfl) ?_
    refine t_if_ne (tgt := 1057) hx hb dL_law_1043 (by decide) (by omega) (fun c_2 => absurd c_2 (by omega)) (fun c_2 => ?_)
    refine lv_aload_n hx hb dL_law_1046 rfl (lv_at hl 5 rfl) ?_
    refine lv_iconst (v := nI 0) hx hb dL_law_1047 (by decide) ?_
    refine g_lald hx hb hK hP (i := 114) (by omega) ((hf3 _ (by omega)).trans hO1) (by omega) (by omega) dL_law_1048 ?_
    refine t_eql ((σ.2 b9).2.2.2.1 (ps (σ.2 b9).2.2.2.2.2 i9)) (va_up_self _ _ _) ?_
    refine lv_lload hx hb dL_law_1049 (lv_at hl 0 rfl) ?_
    refine W.lcmp hx hb dL_law_1051 ?_
    refine t_eqi (nI 0) (lgc_eq rfl) ?_
    refine t_if_eq (tgt := 1057) hx hb dL_law_1052 (by decide) (by omega) (fun c_3 => ?_) (fun c_3 => absurd c_3 (by omega))
    refine lv_goto (tgt := 2260) hx hb dL_law_1057 (by decide) ?_
    refine W.widen (k := cells + 10) (n := slots + 100) (by omega) (by omega) ?_
    exact kont _ G3 0 _ _ H locs ls ⟨hI, hY1.ad (fun _ _ => rfl) (fun k hk => hf3 k (by omega)), hM3, (hf3 114 (by omega)).trans hO1, (hf3 115 (by omega)).trans ((hfo 115 (by omega)).trans ((hfe 115 (by omega)).trans hO2))⟩ hP hS (lv_sub hl [2, 3, 4, 5, 6, 7] rfl)
  · skip
    rw [hg1] at hP
    have hcd1 := cd_pos [xIO, xIS] E
    have hcd3 := cd_le [xIO, xIS] E
    have hcd4 : ([xIO, xIS] : List String).length ≤ 3 := by decide
    have hcd2 : cd [xIO, xIS] E < 65536 := by omega
    refine lv_istore (lv' := [(6, .int (nI (cd [xIO, xIS] E))), (0, .ref b), (1, .ref (ad 0)), (2, .ref (ad 69)), (3, .ref (ad 114)), (4, .ref (ad 115)), (5, .int (nI i))]) hx hb dL_law_1010 hl (by decide) rfl (fun ls hl => ?_)
    refine lv_aload_n hx hb dL_law_1012 rfl (lv_at hl 3 rfl) ?_
    refine lv_aload_n hx hb dL_law_1013 rfl (lv_at hl 1 rfl) ?_
    refine lv_iload hx hb dL_law_1014 (lv_at hl 6 rfl) ?_
    refine lv_iconst (v := nI 1) hx hb dL_law_1016 (by decide) ?_
    refine lv_iadd hx hb dL_law_1017 ?_
    refine t_eqi (nI (i + 1)) (nI_add i 1) ?_
    refine g_sld hx hb hX hbl hbA hS (j := i + 1) (by omega) (by omega) dL_law_1018 ?_
    refine lv_aload_n hx hb dL_law_1019 rfl (lv_at hl 1 rfl) ?_
    refine lv_iload hx hb dL_law_1020 (lv_at hl 6 rfl) ?_
    refine lv_iconst (v := nI 2) hx hb dL_law_1022 (by decide) ?_
    refine lv_iadd hx hb dL_law_1023 ?_
    refine t_eqi (nI (i + 2)) (nI_add i 2) ?_
    refine g_sld hx hb hX hbl hbA hS (j := i + 2) (by omega) (by omega) dL_law_1024 ?_
    refine g_callV (As := [.int (xs (i + 1)), .int (xs (i + 2))]) (rest := []) ⟨hx, hb, hml, hown, hw⟩ (mX3_given_no l D cT 116 ad A hD G (by omega) σ hI th hM (xs (i + 1)) (xs (i + 2)) E hpx) (cwV 2 hw (gWV wm_L_163 wi_X3_given wse_X3_given wini_X3 wc_X3_given) rfl rfl rfl (by decide +kernel) ⟨Nat.le_of_ble_eq_true rfl, Nat.le_of_ble_eq_true rfl⟩) hK hE hA hP hS (k := 69) (by omega) (MW.th hM) rfl rfl hl.1 (lv_room (Nat.le_of_ble_eq_true rfl)) dL_law_1025 ⟨by show cells + 0 + 3 + 0 ≤ 603072; omega, by show slots + 0 + 18 + 0 ≤ 7227498; omega⟩ (fun v G3 H locs hp3 hP hS => ?_)
    obtain ⟨⟨⟨z9, rfl⟩, hM3⟩, hf3⟩ := hp3
    refine lv_lstore (lv' := [(7, .long z9), (6, .int (nI (cd [xIO, xIS] E))), (0, .ref b), (1, .ref (ad 0)), (2, .ref (ad 69)), (3, .ref (ad 114)), (4, .ref (ad 115)), (5, .int (nI i))]) hx hb dL_law_1028 hl (by decide) rfl (fun ls hl => ?_)
    refine lv_aload_n hx hb dL_law_1030 rfl (lv_at hl 4 rfl) ?_
    refine g_callV (As := []) (rest := []) ⟨hx, hb, hml, hown, hw⟩ (mX3_thrown l D cT 116 ad A hD G3 (by omega) (cd [xIO, xIS] E) (MW.th hM3)) (cwV 0 hw (gWV wm_L_126 wi_X3_thrown wse_X3_thrown wini_X3 wc_X3_thrown) rfl rfl rfl (by decide +kernel) ⟨Nat.le_of_ble_eq_true rfl, Nat.le_of_ble_eq_true rfl⟩) hK hE hA hP hS (k := 69) (by omega) (MW.th hM3) rfl rfl hl.1 (lv_room (Nat.le_of_ble_eq_true rfl)) dL_law_1031 ⟨by show cells + 0 + 3 + 0 + 0 ≤ 603072; omega, by show slots + 0 + 18 + 0 + 0 ≤ 7227498; omega⟩ (fun v G4 H locs hp hP hS => ?_)
    obtain ⟨hv, hg⟩ := hp
    subst hv
    rw [hg] at hP
    refine lv_iload hx hb dL_law_1034 (lv_at hl 1 rfl) ?_
    refine t_icmp_eq (tgt := 1041) hx hb dL_law_1036 (by decide) (by omega) (by omega) (fun c_4 => ?_) (fun c_4 => ?_)
    · skip
      refine lv_iload hx hb dL_law_1041 (lv_at hl 1 rfl) ?_
      refine t_if_ne (tgt := 1057) hx hb dL_law_1043 (by decide) (by omega) (fun c_5 => ?_) (fun c_5 => ?_)
      · skip
        refine lv_goto (tgt := 2260) hx hb dL_law_1057 (by decide) ?_
        refine W.widen (k := cells + 10) (n := slots + 100) (by omega) (by omega) ?_
        exact kont σ G3 _ f f2 H locs ls ⟨hI, hY.ad (fun _ _ => rfl) (fun k hk => hf3 k (by omega)), hM3, (hf3 114 (by omega)).trans hO, (hf3 115 (by omega)).trans hO2⟩ hP hS (lv_sub hl [2, 3, 4, 5, 6, 7] rfl)
      · exfalso; omega
    · exfalso; omega

set_option maxHeartbeats 4000000 in
set_option maxRecDepth 100000 in
theorem lc_left {p : Program} {l : Launch} {e : Env} {s : State} {m : MethodId} {below : List Frame} {meth : Method} {c : Code} {b L : Nat} {xs : Nat → Int32} {D : va_G} {cT : Nat → ClassId} {ad : Nat → Nat} {A : Nat → Prop} {Q : State → Prop} {i cells slots : Nat} {H : Heap} {locs : List Loc} {ls : Array Slot} {σ : TY} {G : Nat → va_E} {th : Nat} {f : Nat → Int64} {f2 : Nat → UInt64} (hX9 : LX p l s m meth c b L xs D cT ad A) (hi : i + 8 ≤ L) (hc : cells + 10 ≤ 603072) (hs : slots + 100 ≤ 7227498) (hst : LSt cT ad G σ th f f2) (hP : va_P D vwCl (gw 116 ad G) H) (hS : va_S A s.heap H locs) (hl : lv_has ls 9 (LVL b ad i)) (kont : LK p l e s m below meth c b D cT ad A Q i (cells + 10) (slots + 100) 2260) : W p l e room_1 s m #[Value.ref b] below meth c H locs cells slots Q (F0 m 1060 ls []) := by
  obtain ⟨hx, hb, hml, hown, hw, hX, hbl, hbA, hK, hE, hA, hD, hN, hl9, hL⟩ := hX9
  obtain ⟨hI, hY, hM, hO, hO2⟩ := hst
  refine lv_aload_n hx hb dL_law_1060 rfl (lv_at hl 1 rfl) ?_
  refine lv_aload_n hx hb dL_law_1061 rfl (lv_at hl 0 rfl) ?_
  refine lv_iload hx hb dL_law_1062 (lv_at hl 5 rfl) ?_
  refine lv_iconst (v := nI 1) hx hb dL_law_1064 (by decide) ?_
  refine lv_iadd hx hb dL_law_1065 ?_
  refine t_eqi (nI (i + 1)) (nI_add i 1) ?_
  refine g_sld hx hb hX hbl hbA hS (j := i + 1) (by omega) (by omega) dL_law_1066 ?_
  refine lv_aload_n hx hb dL_law_1067 rfl (lv_at hl 0 rfl) ?_
  refine lv_iload hx hb dL_law_1068 (lv_at hl 5 rfl) ?_
  refine lv_iconst (v := nI 2) hx hb dL_law_1070 (by decide) ?_
  refine lv_iadd hx hb dL_law_1071 ?_
  refine t_eqi (nI (i + 2)) (nI_add i 2) ?_
  refine g_sld hx hb hX hbl hbA hS (j := i + 2) (by omega) (by omega) dL_law_1072 ?_
  refine lv_aload_n hx hb dL_law_1073 rfl (lv_at hl 3 rfl) ?_
  refine g_callSH (As := [.ref (ad 0), .int (xs (i + 1)), .int (xs (i + 2)), .ref (ad 114)]) (rest := []) ⟨hx, hb, hml, hown, hw⟩ (mL_left l hl9 D cT 116 ad A hD G (Nat.le_refl _) σ hY hI f hO (xs (i + 1)) (xs (i + 2))) (vx_cwSW 4 hw (gWSB wm_L_164 wst_L_left wini_L wcw_L_left) rfl rfl rfl (by decide +kernel) ⟨Nat.le_of_ble_eq_true rfl, Nat.le_of_ble_eq_true rfl⟩) hK hE hA hP hS rfl hl.1 (lv_room (Nat.le_of_ble_eq_true rfl)) dL_law_1074 ⟨by show cells + 0 + 3 ≤ 603072; omega, by show slots + 0 + 18 ≤ 7227498; omega⟩ (fun v G1 H locs hp hP hS => ?_)
  rcases hp with ⟨y8, G2, hcl, hO1, hfo, rfl⟩ | ⟨E, hpx, rfl, hg1⟩
  · skip
    rcases hcl with ⟨⟨b9, i9, hb9, hx1, hi9, hy1, hk9, hv⟩, hfr⟩
    have hfe : ∀ j, 69 ≤ j → G2 j = G j := fun j _ => by rw [hfr]
    have hM1 : MW cT ad G1 σ th := hM.keep (fun j h1 h2 => (hfo j (by omega)).trans (hfe j (by omega)))
    have hY1 := hY.ad (ad2 := ad) (G2 := G1) (fun _ _ => rfl) (fun k hk => (hfo k (by omega)).trans (by rw [hfr]))
    obtain rfl := Value.int.inj (Option.some.inj hv)
    refine lv_istore (lv' := [(6, .int (nI 0)), (0, .ref b), (1, .ref (ad 0)), (2, .ref (ad 69)), (3, .ref (ad 114)), (4, .ref (ad 115)), (5, .int (nI i))]) hx hb dL_law_1077 hl (by decide) rfl (fun ls hl => ?_)
    refine lv_aload_n hx hb dL_law_1079 rfl (lv_at hl 3 rfl) ?_
    refine lv_aload_n hx hb dL_law_1080 rfl (lv_at hl 1 rfl) ?_
    refine lv_iload hx hb dL_law_1081 (lv_at hl 6 rfl) ?_
    refine lv_iconst (v := nI 1) hx hb dL_law_1083 (by decide) ?_
    refine lv_iadd hx hb dL_law_1084 ?_
    refine t_eqi (nI (i + 1)) (nI_add i 1) ?_
    refine g_sld hx hb hX hbl hbA hS (j := i + 1) (by omega) (by omega) dL_law_1085 ?_
    refine t_eqi (nI b9) hx1 ?_
    refine lv_aload_n hx hb dL_law_1086 rfl (lv_at hl 1 rfl) ?_
    refine lv_iload hx hb dL_law_1087 (lv_at hl 6 rfl) ?_
    refine lv_iconst (v := nI 2) hx hb dL_law_1089 (by decide) ?_
    refine lv_iadd hx hb dL_law_1090 ?_
    refine t_eqi (nI (i + 2)) (nI_add i 2) ?_
    refine g_sld hx hb hX hbl hbA hS (j := i + 2) (by omega) (by omega) dL_law_1091 ?_
    refine t_eqi (nI i9) hy1 ?_
    refine g_callV (As := [.int (nI b9), .int (nI i9)]) (rest := []) ⟨hx, hb, hml, hown, hw⟩ (mX3_left_ok l D cT 116 ad A hD G1 (by omega) σ hI th hM1 b9 i9 hb9 hi9 hk9) (cwV 2 hw (gWV wm_L_166 wi_X3_left wse_X3_left wini_X3 wc_X3_left) rfl rfl rfl (by decide +kernel) ⟨Nat.le_of_ble_eq_true rfl, Nat.le_of_ble_eq_true rfl⟩) hK hE hA hP hS (k := 69) (by omega) (MW.th hM1) rfl rfl hl.1 (lv_room (Nat.le_of_ble_eq_true rfl)) dL_law_1092 ⟨by show cells + 0 + 3 + 0 ≤ 603072; omega, by show slots + 0 + 18 + 0 ≤ 7227498; omega⟩ (fun v G3 H locs hp3 hP hS => ?_)
    obtain ⟨⟨rfl, hM3⟩, hf3⟩ := hp3
    refine lv_istore (lv' := [(7, .int (nI ((σ.2 b9).2.2.2.2.2 i9))), (6, .int (nI 0)), (0, .ref b), (1, .ref (ad 0)), (2, .ref (ad 69)), (3, .ref (ad 114)), (4, .ref (ad 115)), (5, .int (nI i))]) hx hb dL_law_1095 hl (by decide) rfl (fun ls hl => ?_)
    refine lv_aload_n hx hb dL_law_1097 rfl (lv_at hl 4 rfl) ?_
    refine g_callV (As := []) (rest := []) ⟨hx, hb, hml, hown, hw⟩ (mX3_thrown l D cT 116 ad A hD G3 (by omega) 0 (MW.th hM3)) (cwV 0 hw (gWV wm_L_126 wi_X3_thrown wse_X3_thrown wini_X3 wc_X3_thrown) rfl rfl rfl (by decide +kernel) ⟨Nat.le_of_ble_eq_true rfl, Nat.le_of_ble_eq_true rfl⟩) hK hE hA hP hS (k := 69) (by omega) (MW.th hM3) rfl rfl hl.1 (lv_room (Nat.le_of_ble_eq_true rfl)) dL_law_1098 ⟨by show cells + 0 + 3 + 0 + 0 ≤ 603072; omega, by show slots + 0 + 18 + 0 + 0 ≤ 7227498; omega⟩ (fun v G4 H locs hp hP hS => ?_)
    obtain ⟨hv, hg⟩ := hp
    subst hv
    rw [hg] at hP
    refine lv_iload hx hb dL_law_1101 (lv_at hl 1 rfl) ?_
    refine t_icmp_eq (tgt := 1108) hx hb dL_law_1103 (by decide) (by omega) (by omega) (fun c_1 => ?_) (fun c_1 => absurd c_1 (by omega))
    refine lv_iload hx hb dL_law_1108 (lv_at hl 1 rfl) ?_
    refine t_if_ne (tgt := 1125) hx hb dL_law_1110 (by decide) (by omega) (fun c_2 => absurd c_2 (by omega)) (fun c_2 => ?_)
    refine lv_aload_n hx hb dL_law_1113 rfl (lv_at hl 5 rfl) ?_
    refine lv_iconst (v := nI 0) hx hb dL_law_1114 (by decide) ?_
    refine g_lald hx hb hK hP (i := 114) (by omega) ((hf3 _ (by omega)).trans hO1) (by omega) (by omega) dL_law_1115 ?_
    refine t_eql ((nI ((σ.2 b9).2.2.2.2.2 i9)).toInt64) (va_up_self _ _ _) ?_
    refine lv_iload hx hb dL_law_1116 (lv_at hl 0 rfl) ?_
    refine lv_i2l hx hb dL_law_1118 rfl ?_
    refine W.lcmp hx hb dL_law_1119 ?_
    refine t_eqi (nI 0) (lgc_eq rfl) ?_
    refine t_if_eq (tgt := 1125) hx hb dL_law_1120 (by decide) (by omega) (fun c_3 => ?_) (fun c_3 => absurd c_3 (by omega))
    refine lv_goto (tgt := 2260) hx hb dL_law_1125 (by decide) ?_
    refine W.widen (k := cells + 10) (n := slots + 100) (by omega) (by omega) ?_
    exact kont _ G3 0 _ _ H locs ls ⟨hI, hY1.ad (fun _ _ => rfl) (fun k hk => hf3 k (by omega)), hM3, (hf3 114 (by omega)).trans hO1, (hf3 115 (by omega)).trans ((hfo 115 (by omega)).trans ((hfe 115 (by omega)).trans hO2))⟩ hP hS (lv_sub hl [2, 3, 4, 5, 6, 7] rfl)
  · skip
    rw [hg1] at hP
    have hcd1 := cd_pos [xIO, xIS] E
    have hcd3 := cd_le [xIO, xIS] E
    have hcd4 : ([xIO, xIS] : List String).length ≤ 3 := by decide
    have hcd2 : cd [xIO, xIS] E < 65536 := by omega
    refine lv_istore (lv' := [(6, .int (nI (cd [xIO, xIS] E))), (0, .ref b), (1, .ref (ad 0)), (2, .ref (ad 69)), (3, .ref (ad 114)), (4, .ref (ad 115)), (5, .int (nI i))]) hx hb dL_law_1077 hl (by decide) rfl (fun ls hl => ?_)
    refine lv_aload_n hx hb dL_law_1079 rfl (lv_at hl 3 rfl) ?_
    refine lv_aload_n hx hb dL_law_1080 rfl (lv_at hl 1 rfl) ?_
    refine lv_iload hx hb dL_law_1081 (lv_at hl 6 rfl) ?_
    refine lv_iconst (v := nI 1) hx hb dL_law_1083 (by decide) ?_
    refine lv_iadd hx hb dL_law_1084 ?_
    refine t_eqi (nI (i + 1)) (nI_add i 1) ?_
    refine g_sld hx hb hX hbl hbA hS (j := i + 1) (by omega) (by omega) dL_law_1085 ?_
    refine lv_aload_n hx hb dL_law_1086 rfl (lv_at hl 1 rfl) ?_
    refine lv_iload hx hb dL_law_1087 (lv_at hl 6 rfl) ?_
    refine lv_iconst (v := nI 2) hx hb dL_law_1089 (by decide) ?_
    refine lv_iadd hx hb dL_law_1090 ?_
    refine t_eqi (nI (i + 2)) (nI_add i 2) ?_
    refine g_sld hx hb hX hbl hbA hS (j := i + 2) (by omega) (by omega) dL_law_1091 ?_
    refine g_callV (As := [.int (xs (i + 1)), .int (xs (i + 2))]) (rest := []) ⟨hx, hb, hml, hown, hw⟩ (mX3_left_no l D cT 116 ad A hD G (by omega) σ hI th hM (xs (i + 1)) (xs (i + 2)) E hpx) (cwV 2 hw (gWV wm_L_166 wi_X3_left wse_X3_left wini_X3 wc_X3_left) rfl rfl rfl (by decide +kernel) ⟨Nat.le_of_ble_eq_true rfl, Nat.le_of_ble_eq_true rfl⟩) hK hE hA hP hS (k := 69) (by omega) (MW.th hM) rfl rfl hl.1 (lv_room (Nat.le_of_ble_eq_true rfl)) dL_law_1092 ⟨by show cells + 0 + 3 + 0 ≤ 603072; omega, by show slots + 0 + 18 + 0 ≤ 7227498; omega⟩ (fun v G3 H locs hp3 hP hS => ?_)
    obtain ⟨⟨⟨z9, rfl⟩, hM3⟩, hf3⟩ := hp3
    refine lv_istore (lv' := [(7, .int z9), (6, .int (nI (cd [xIO, xIS] E))), (0, .ref b), (1, .ref (ad 0)), (2, .ref (ad 69)), (3, .ref (ad 114)), (4, .ref (ad 115)), (5, .int (nI i))]) hx hb dL_law_1095 hl (by decide) rfl (fun ls hl => ?_)
    refine lv_aload_n hx hb dL_law_1097 rfl (lv_at hl 4 rfl) ?_
    refine g_callV (As := []) (rest := []) ⟨hx, hb, hml, hown, hw⟩ (mX3_thrown l D cT 116 ad A hD G3 (by omega) (cd [xIO, xIS] E) (MW.th hM3)) (cwV 0 hw (gWV wm_L_126 wi_X3_thrown wse_X3_thrown wini_X3 wc_X3_thrown) rfl rfl rfl (by decide +kernel) ⟨Nat.le_of_ble_eq_true rfl, Nat.le_of_ble_eq_true rfl⟩) hK hE hA hP hS (k := 69) (by omega) (MW.th hM3) rfl rfl hl.1 (lv_room (Nat.le_of_ble_eq_true rfl)) dL_law_1098 ⟨by show cells + 0 + 3 + 0 + 0 ≤ 603072; omega, by show slots + 0 + 18 + 0 + 0 ≤ 7227498; omega⟩ (fun v G4 H locs hp hP hS => ?_)
    obtain ⟨hv, hg⟩ := hp
    subst hv
    rw [hg] at hP
    refine lv_iload hx hb dL_law_1101 (lv_at hl 1 rfl) ?_
    refine t_icmp_eq (tgt := 1108) hx hb dL_law_1103 (by decide) (by omega) (by omega) (fun c_4 => ?_) (fun c_4 => ?_)
    · skip
      refine lv_iload hx hb dL_law_1108 (lv_at hl 1 rfl) ?_
      refine t_if_ne (tgt := 1125) hx hb dL_law_1110 (by decide) (by omega) (fun c_5 => ?_) (fun c_5 => ?_)
      · skip
        refine lv_goto (tgt := 2260) hx hb dL_law_1125 (by decide) ?_
        refine W.widen (k := cells + 10) (n := slots + 100) (by omega) (by omega) ?_
        exact kont σ G3 _ f f2 H locs ls ⟨hI, hY.ad (fun _ _ => rfl) (fun k hk => hf3 k (by omega)), hM3, (hf3 114 (by omega)).trans hO, (hf3 115 (by omega)).trans hO2⟩ hP hS (lv_sub hl [2, 3, 4, 5, 6, 7] rfl)
      · exfalso; omega
    · exfalso; omega

set_option maxHeartbeats 4000000 in
set_option maxRecDepth 100000 in
theorem lc_ahead {p : Program} {l : Launch} {e : Env} {s : State} {m : MethodId} {below : List Frame} {meth : Method} {c : Code} {b L : Nat} {xs : Nat → Int32} {D : va_G} {cT : Nat → ClassId} {ad : Nat → Nat} {A : Nat → Prop} {Q : State → Prop} {i cells slots : Nat} {H : Heap} {locs : List Loc} {ls : Array Slot} {σ : TY} {G : Nat → va_E} {th : Nat} {f : Nat → Int64} {f2 : Nat → UInt64} (hX9 : LX p l s m meth c b L xs D cT ad A) (hi : i + 8 ≤ L) (hc : cells + 10 ≤ 603072) (hs : slots + 100 ≤ 7227498) (hst : LSt cT ad G σ th f f2) (hP : va_P D vwCl (gw 116 ad G) H) (hS : va_S A s.heap H locs) (hl : lv_has ls 9 (LVL b ad i)) (kont : LK p l e s m below meth c b D cT ad A Q i (cells + 10) (slots + 100) 2260) : W p l e room_1 s m #[Value.ref b] below meth c H locs cells slots Q (F0 m 1128 ls []) := by
  obtain ⟨hx, hb, hml, hown, hw, hX, hbl, hbA, hK, hE, hA, hD, hN, hl9, hL⟩ := hX9
  obtain ⟨hI, hY, hM, hO, hO2⟩ := hst
  refine lv_aload_n hx hb dL_law_1128 rfl (lv_at hl 1 rfl) ?_
  refine lv_aload_n hx hb dL_law_1129 rfl (lv_at hl 0 rfl) ?_
  refine lv_iload hx hb dL_law_1130 (lv_at hl 5 rfl) ?_
  refine lv_iconst (v := nI 1) hx hb dL_law_1132 (by decide) ?_
  refine lv_iadd hx hb dL_law_1133 ?_
  refine t_eqi (nI (i + 1)) (nI_add i 1) ?_
  refine g_sld hx hb hX hbl hbA hS (j := i + 1) (by omega) (by omega) dL_law_1134 ?_
  refine lv_aload_n hx hb dL_law_1135 rfl (lv_at hl 0 rfl) ?_
  refine lv_iload hx hb dL_law_1136 (lv_at hl 5 rfl) ?_
  refine lv_iconst (v := nI 2) hx hb dL_law_1138 (by decide) ?_
  refine lv_iadd hx hb dL_law_1139 ?_
  refine t_eqi (nI (i + 2)) (nI_add i 2) ?_
  refine g_sld hx hb hX hbl hbA hS (j := i + 2) (by omega) (by omega) dL_law_1140 ?_
  refine lv_aload_n hx hb dL_law_1141 rfl (lv_at hl 3 rfl) ?_
  refine g_callSH (As := [.ref (ad 0), .int (xs (i + 1)), .int (xs (i + 2)), .ref (ad 114)]) (rest := []) ⟨hx, hb, hml, hown, hw⟩ (mL_ahead l hl9 D cT 116 ad A hD G (Nat.le_refl _) σ hY hI f hO (xs (i + 1)) (xs (i + 2))) (vx_cwSW 4 hw (gWSB wm_L_167 wst_L_ahead wini_L wcw_L_ahead) rfl rfl rfl (by decide +kernel) ⟨Nat.le_of_ble_eq_true rfl, Nat.le_of_ble_eq_true rfl⟩) hK hE hA hP hS rfl hl.1 (lv_room (Nat.le_of_ble_eq_true rfl)) dL_law_1142 ⟨by show cells + 0 + 2 ≤ 603072; omega, by show slots + 0 + 12 ≤ 7227498; omega⟩ (fun v G1 H locs hp hP hS => ?_)
  rcases hp with ⟨y8, G2, hcl, hO1, hfo, rfl⟩ | ⟨E, hpx, rfl, hg1⟩
  · skip
    rcases hcl with ⟨⟨b9, i9, hb9, hx1, hi9, hy1, hv⟩, hfr⟩
    have hfe : ∀ j, 69 ≤ j → G2 j = G j := fun j _ => by rw [hfr]
    have hM1 : MW cT ad G1 σ th := hM.keep (fun j h1 h2 => (hfo j (by omega)).trans (hfe j (by omega)))
    have hY1 := hY.ad (ad2 := ad) (G2 := G1) (fun _ _ => rfl) (fun k hk => (hfo k (by omega)).trans (by rw [hfr]))
    obtain rfl := Value.int.inj (Option.some.inj hv)
    refine lv_istore (lv' := [(6, .int (nI 0)), (0, .ref b), (1, .ref (ad 0)), (2, .ref (ad 69)), (3, .ref (ad 114)), (4, .ref (ad 115)), (5, .int (nI i))]) hx hb dL_law_1145 hl (by decide) rfl (fun ls hl => ?_)
    refine lv_aload_n hx hb dL_law_1147 rfl (lv_at hl 3 rfl) ?_
    refine lv_aload_n hx hb dL_law_1148 rfl (lv_at hl 1 rfl) ?_
    refine lv_iload hx hb dL_law_1149 (lv_at hl 6 rfl) ?_
    refine lv_iconst (v := nI 1) hx hb dL_law_1151 (by decide) ?_
    refine lv_iadd hx hb dL_law_1152 ?_
    refine t_eqi (nI (i + 1)) (nI_add i 1) ?_
    refine g_sld hx hb hX hbl hbA hS (j := i + 1) (by omega) (by omega) dL_law_1153 ?_
    refine t_eqi (nI b9) hx1 ?_
    refine lv_aload_n hx hb dL_law_1154 rfl (lv_at hl 1 rfl) ?_
    refine lv_iload hx hb dL_law_1155 (lv_at hl 6 rfl) ?_
    refine lv_iconst (v := nI 2) hx hb dL_law_1157 (by decide) ?_
    refine lv_iadd hx hb dL_law_1158 ?_
    refine t_eqi (nI (i + 2)) (nI_add i 2) ?_
    refine g_sld hx hb hX hbl hbA hS (j := i + 2) (by omega) (by omega) dL_law_1159 ?_
    refine t_eqi (nI i9) hy1 ?_
    refine g_callV (As := [.int (nI b9), .int (nI i9)]) (rest := []) ⟨hx, hb, hml, hown, hw⟩ (mX3_ahead_ok l D cT 116 ad A hD G1 (by omega) σ hI th hM1 b9 i9 hb9 hi9) (cwV 2 hw (gWV wm_L_169 wi_X3_ahead wse_X3_ahead wini_X3 wc_X3_ahead) rfl rfl rfl (by decide +kernel) ⟨Nat.le_of_ble_eq_true rfl, Nat.le_of_ble_eq_true rfl⟩) hK hE hA hP hS (k := 69) (by omega) (MW.th hM1) rfl rfl hl.1 (lv_room (Nat.le_of_ble_eq_true rfl)) dL_law_1160 ⟨by show cells + 0 + 2 + 0 ≤ 603072; omega, by show slots + 0 + 12 + 0 ≤ 7227498; omega⟩ (fun v G3 H locs hp3 hP hS => ?_)
    obtain ⟨⟨rfl, hM3⟩, hf3⟩ := hp3
    refine lv_istore (lv' := [(7, .int (nI (ps (σ.2 b9).2.2.2.2.2 i9))), (6, .int (nI 0)), (0, .ref b), (1, .ref (ad 0)), (2, .ref (ad 69)), (3, .ref (ad 114)), (4, .ref (ad 115)), (5, .int (nI i))]) hx hb dL_law_1163 hl (by decide) rfl (fun ls hl => ?_)
    refine lv_aload_n hx hb dL_law_1165 rfl (lv_at hl 4 rfl) ?_
    refine g_callV (As := []) (rest := []) ⟨hx, hb, hml, hown, hw⟩ (mX3_thrown l D cT 116 ad A hD G3 (by omega) 0 (MW.th hM3)) (cwV 0 hw (gWV wm_L_126 wi_X3_thrown wse_X3_thrown wini_X3 wc_X3_thrown) rfl rfl rfl (by decide +kernel) ⟨Nat.le_of_ble_eq_true rfl, Nat.le_of_ble_eq_true rfl⟩) hK hE hA hP hS (k := 69) (by omega) (MW.th hM3) rfl rfl hl.1 (lv_room (Nat.le_of_ble_eq_true rfl)) dL_law_1166 ⟨by show cells + 0 + 2 + 0 + 0 ≤ 603072; omega, by show slots + 0 + 12 + 0 + 0 ≤ 7227498; omega⟩ (fun v G4 H locs hp hP hS => ?_)
    obtain ⟨hv, hg⟩ := hp
    subst hv
    rw [hg] at hP
    refine lv_iload hx hb dL_law_1169 (lv_at hl 1 rfl) ?_
    refine t_icmp_eq (tgt := 1176) hx hb dL_law_1171 (by decide) (by omega) (by omega) (fun c_1 => ?_) (fun c_1 => absurd c_1 (by omega))
    refine lv_iload hx hb dL_law_1176 (lv_at hl 1 rfl) ?_
    refine t_if_ne (tgt := 1193) hx hb dL_law_1178 (by decide) (by omega) (fun c_2 => absurd c_2 (by omega)) (fun c_2 => ?_)
    refine lv_aload_n hx hb dL_law_1181 rfl (lv_at hl 5 rfl) ?_
    refine lv_iconst (v := nI 0) hx hb dL_law_1182 (by decide) ?_
    refine g_lald hx hb hK hP (i := 114) (by omega) ((hf3 _ (by omega)).trans hO1) (by omega) (by omega) dL_law_1183 ?_
    refine t_eql ((nI (ps (σ.2 b9).2.2.2.2.2 i9)).toInt64) (va_up_self _ _ _) ?_
    refine lv_iload hx hb dL_law_1184 (lv_at hl 0 rfl) ?_
    refine lv_i2l hx hb dL_law_1186 rfl ?_
    refine W.lcmp hx hb dL_law_1187 ?_
    refine t_eqi (nI 0) (lgc_eq rfl) ?_
    refine t_if_eq (tgt := 1193) hx hb dL_law_1188 (by decide) (by omega) (fun c_3 => ?_) (fun c_3 => absurd c_3 (by omega))
    refine lv_goto (tgt := 2260) hx hb dL_law_1193 (by decide) ?_
    refine W.widen (k := cells + 10) (n := slots + 100) (by omega) (by omega) ?_
    exact kont _ G3 0 _ _ H locs ls ⟨hI, hY1.ad (fun _ _ => rfl) (fun k hk => hf3 k (by omega)), hM3, (hf3 114 (by omega)).trans hO1, (hf3 115 (by omega)).trans ((hfo 115 (by omega)).trans ((hfe 115 (by omega)).trans hO2))⟩ hP hS (lv_sub hl [2, 3, 4, 5, 6, 7] rfl)
  · skip
    rw [hg1] at hP
    have hcd1 := cd_pos [xIO] E
    have hcd3 := cd_le [xIO] E
    have hcd4 : ([xIO] : List String).length ≤ 3 := by decide
    have hcd2 : cd [xIO] E < 65536 := by omega
    refine lv_istore (lv' := [(6, .int (nI (cd [xIO] E))), (0, .ref b), (1, .ref (ad 0)), (2, .ref (ad 69)), (3, .ref (ad 114)), (4, .ref (ad 115)), (5, .int (nI i))]) hx hb dL_law_1145 hl (by decide) rfl (fun ls hl => ?_)
    refine lv_aload_n hx hb dL_law_1147 rfl (lv_at hl 3 rfl) ?_
    refine lv_aload_n hx hb dL_law_1148 rfl (lv_at hl 1 rfl) ?_
    refine lv_iload hx hb dL_law_1149 (lv_at hl 6 rfl) ?_
    refine lv_iconst (v := nI 1) hx hb dL_law_1151 (by decide) ?_
    refine lv_iadd hx hb dL_law_1152 ?_
    refine t_eqi (nI (i + 1)) (nI_add i 1) ?_
    refine g_sld hx hb hX hbl hbA hS (j := i + 1) (by omega) (by omega) dL_law_1153 ?_
    refine lv_aload_n hx hb dL_law_1154 rfl (lv_at hl 1 rfl) ?_
    refine lv_iload hx hb dL_law_1155 (lv_at hl 6 rfl) ?_
    refine lv_iconst (v := nI 2) hx hb dL_law_1157 (by decide) ?_
    refine lv_iadd hx hb dL_law_1158 ?_
    refine t_eqi (nI (i + 2)) (nI_add i 2) ?_
    refine g_sld hx hb hX hbl hbA hS (j := i + 2) (by omega) (by omega) dL_law_1159 ?_
    refine g_callV (As := [.int (xs (i + 1)), .int (xs (i + 2))]) (rest := []) ⟨hx, hb, hml, hown, hw⟩ (mX3_ahead_no l D cT 116 ad A hD G (by omega) σ hI th hM (xs (i + 1)) (xs (i + 2)) E hpx) (cwV 2 hw (gWV wm_L_169 wi_X3_ahead wse_X3_ahead wini_X3 wc_X3_ahead) rfl rfl rfl (by decide +kernel) ⟨Nat.le_of_ble_eq_true rfl, Nat.le_of_ble_eq_true rfl⟩) hK hE hA hP hS (k := 69) (by omega) (MW.th hM) rfl rfl hl.1 (lv_room (Nat.le_of_ble_eq_true rfl)) dL_law_1160 ⟨by show cells + 0 + 2 + 0 ≤ 603072; omega, by show slots + 0 + 12 + 0 ≤ 7227498; omega⟩ (fun v G3 H locs hp3 hP hS => ?_)
    obtain ⟨⟨⟨z9, rfl⟩, hM3⟩, hf3⟩ := hp3
    refine lv_istore (lv' := [(7, .int z9), (6, .int (nI (cd [xIO] E))), (0, .ref b), (1, .ref (ad 0)), (2, .ref (ad 69)), (3, .ref (ad 114)), (4, .ref (ad 115)), (5, .int (nI i))]) hx hb dL_law_1163 hl (by decide) rfl (fun ls hl => ?_)
    refine lv_aload_n hx hb dL_law_1165 rfl (lv_at hl 4 rfl) ?_
    refine g_callV (As := []) (rest := []) ⟨hx, hb, hml, hown, hw⟩ (mX3_thrown l D cT 116 ad A hD G3 (by omega) (cd [xIO] E) (MW.th hM3)) (cwV 0 hw (gWV wm_L_126 wi_X3_thrown wse_X3_thrown wini_X3 wc_X3_thrown) rfl rfl rfl (by decide +kernel) ⟨Nat.le_of_ble_eq_true rfl, Nat.le_of_ble_eq_true rfl⟩) hK hE hA hP hS (k := 69) (by omega) (MW.th hM3) rfl rfl hl.1 (lv_room (Nat.le_of_ble_eq_true rfl)) dL_law_1166 ⟨by show cells + 0 + 2 + 0 + 0 ≤ 603072; omega, by show slots + 0 + 12 + 0 + 0 ≤ 7227498; omega⟩ (fun v G4 H locs hp hP hS => ?_)
    obtain ⟨hv, hg⟩ := hp
    subst hv
    rw [hg] at hP
    refine lv_iload hx hb dL_law_1169 (lv_at hl 1 rfl) ?_
    refine t_icmp_eq (tgt := 1176) hx hb dL_law_1171 (by decide) (by omega) (by omega) (fun c_4 => ?_) (fun c_4 => ?_)
    · skip
      refine lv_iload hx hb dL_law_1176 (lv_at hl 1 rfl) ?_
      refine t_if_ne (tgt := 1193) hx hb dL_law_1178 (by decide) (by omega) (fun c_5 => ?_) (fun c_5 => ?_)
      · skip
        refine lv_goto (tgt := 2260) hx hb dL_law_1193 (by decide) ?_
        refine W.widen (k := cells + 10) (n := slots + 100) (by omega) (by omega) ?_
        exact kont σ G3 _ f f2 H locs ls ⟨hI, hY.ad (fun _ _ => rfl) (fun k hk => hf3 k (by omega)), hM3, (hf3 114 (by omega)).trans hO, (hf3 115 (by omega)).trans hO2⟩ hP hS (lv_sub hl [2, 3, 4, 5, 6, 7] rfl)
      · exfalso; omega
    · exfalso; omega

set_option maxHeartbeats 4000000 in
set_option maxRecDepth 100000 in
theorem lc_has {p : Program} {l : Launch} {e : Env} {s : State} {m : MethodId} {below : List Frame} {meth : Method} {c : Code} {b L : Nat} {xs : Nat → Int32} {D : va_G} {cT : Nat → ClassId} {ad : Nat → Nat} {A : Nat → Prop} {Q : State → Prop} {i cells slots : Nat} {H : Heap} {locs : List Loc} {ls : Array Slot} {σ : TY} {G : Nat → va_E} {th : Nat} {f : Nat → Int64} {f2 : Nat → UInt64} (hX9 : LX p l s m meth c b L xs D cT ad A) (hi : i + 8 ≤ L) (hc : cells + 10 ≤ 603072) (hs : slots + 100 ≤ 7227498) (hst : LSt cT ad G σ th f f2) (hP : va_P D vwCl (gw 116 ad G) H) (hS : va_S A s.heap H locs) (hl : lv_has ls 9 (LVL b ad i)) (kont : LK p l e s m below meth c b D cT ad A Q i (cells + 10) (slots + 100) 2260) : W p l e room_1 s m #[Value.ref b] below meth c H locs cells slots Q (F0 m 1196 ls []) := by
  obtain ⟨hx, hb, hml, hown, hw, hX, hbl, hbA, hK, hE, hA, hD, hN, hl9, hL⟩ := hX9
  obtain ⟨hI, hY, hM, hO, hO2⟩ := hst
  refine lv_aload_n hx hb dL_law_1196 rfl (lv_at hl 1 rfl) ?_
  refine lv_aload_n hx hb dL_law_1197 rfl (lv_at hl 0 rfl) ?_
  refine lv_iload hx hb dL_law_1198 (lv_at hl 5 rfl) ?_
  refine lv_iconst (v := nI 1) hx hb dL_law_1200 (by decide) ?_
  refine lv_iadd hx hb dL_law_1201 ?_
  refine t_eqi (nI (i + 1)) (nI_add i 1) ?_
  refine g_sld hx hb hX hbl hbA hS (j := i + 1) (by omega) (by omega) dL_law_1202 ?_
  refine lv_aload_n hx hb dL_law_1203 rfl (lv_at hl 0 rfl) ?_
  refine lv_iload hx hb dL_law_1204 (lv_at hl 5 rfl) ?_
  refine lv_iconst (v := nI 2) hx hb dL_law_1206 (by decide) ?_
  refine lv_iadd hx hb dL_law_1207 ?_
  refine t_eqi (nI (i + 2)) (nI_add i 2) ?_
  refine g_sld hx hb hX hbl hbA hS (j := i + 2) (by omega) (by omega) dL_law_1208 ?_
  refine lv_aload_n hx hb dL_law_1209 rfl (lv_at hl 0 rfl) ?_
  refine lv_iload hx hb dL_law_1210 (lv_at hl 5 rfl) ?_
  refine lv_iconst (v := nI 3) hx hb dL_law_1212 (by decide) ?_
  refine lv_iadd hx hb dL_law_1213 ?_
  refine t_eqi (nI (i + 3)) (nI_add i 3) ?_
  refine g_sld hx hb hX hbl hbA hS (j := i + 3) (by omega) (by omega) dL_law_1214 ?_
  refine lv_i2c (v := nI (chN (xs (i + 3)))) hx hb dL_law_1215 (chN_eq _) ?_
  refine lv_aload_n hx hb dL_law_1216 rfl (lv_at hl 3 rfl) ?_
  refine g_callSH (As := [.ref (ad 0), .int (xs (i + 1)), .int (xs (i + 2)), .int (nI (chN (xs (i + 3)))), .ref (ad 114)]) (rest := []) ⟨hx, hb, hml, hown, hw⟩ (mL_has l hl9 D cT 116 ad A hD G (Nat.le_refl _) σ hY hI f hO (xs (i + 1)) (xs (i + 2)) (chN (xs (i + 3))) (chN_lt _)) (vx_cwSW 5 hw (gWSB wm_L_170 wst_L_has wini_L wcw_L_has) rfl rfl rfl (by decide +kernel) ⟨Nat.le_of_ble_eq_true rfl, Nat.le_of_ble_eq_true rfl⟩) hK hE hA hP hS rfl hl.1 (lv_room (Nat.le_of_ble_eq_true rfl)) dL_law_1217 ⟨by show cells + 0 + 4 ≤ 603072; omega, by show slots + 0 + 24 ≤ 7227498; omega⟩ (fun v G1 H locs hp hP hS => ?_)
  rcases hp with ⟨y8, G2, hcl, hO1, hfo, rfl⟩ | ⟨E, hpx, rfl, hg1⟩
  · skip
    rcases hcl with ⟨⟨b9, i9, hb9, hx1, hi9, hy1, hk9, hcx, hv⟩, hfr⟩
    have hfe : ∀ j, 69 ≤ j → G2 j = G j := fun j _ => by rw [hfr]
    have hM1 : MW cT ad G1 σ th := hM.keep (fun j h1 h2 => (hfo j (by omega)).trans (hfe j (by omega)))
    have hY1 := hY.ad (ad2 := ad) (G2 := G1) (fun _ _ => rfl) (fun k hk => (hfo k (by omega)).trans (by rw [hfr]))
    obtain rfl := Value.int.inj (Option.some.inj hv)
    refine lv_istore (lv' := [(6, .int (nI 0)), (0, .ref b), (1, .ref (ad 0)), (2, .ref (ad 69)), (3, .ref (ad 114)), (4, .ref (ad 115)), (5, .int (nI i))]) hx hb dL_law_1220 hl (by decide) rfl (fun ls hl => ?_)
    refine lv_aload_n hx hb dL_law_1222 rfl (lv_at hl 3 rfl) ?_
    refine lv_aload_n hx hb dL_law_1223 rfl (lv_at hl 1 rfl) ?_
    refine lv_iload hx hb dL_law_1224 (lv_at hl 6 rfl) ?_
    refine lv_iconst (v := nI 1) hx hb dL_law_1226 (by decide) ?_
    refine lv_iadd hx hb dL_law_1227 ?_
    refine t_eqi (nI (i + 1)) (nI_add i 1) ?_
    refine g_sld hx hb hX hbl hbA hS (j := i + 1) (by omega) (by omega) dL_law_1228 ?_
    refine t_eqi (nI b9) hx1 ?_
    refine lv_aload_n hx hb dL_law_1229 rfl (lv_at hl 1 rfl) ?_
    refine lv_iload hx hb dL_law_1230 (lv_at hl 6 rfl) ?_
    refine lv_iconst (v := nI 2) hx hb dL_law_1232 (by decide) ?_
    refine lv_iadd hx hb dL_law_1233 ?_
    refine t_eqi (nI (i + 2)) (nI_add i 2) ?_
    refine g_sld hx hb hX hbl hbA hS (j := i + 2) (by omega) (by omega) dL_law_1234 ?_
    refine t_eqi (nI i9) hy1 ?_
    refine lv_aload_n hx hb dL_law_1235 rfl (lv_at hl 1 rfl) ?_
    refine lv_iload hx hb dL_law_1236 (lv_at hl 6 rfl) ?_
    refine lv_iconst (v := nI 3) hx hb dL_law_1238 (by decide) ?_
    refine lv_iadd hx hb dL_law_1239 ?_
    refine t_eqi (nI (i + 3)) (nI_add i 3) ?_
    refine g_sld hx hb hX hbl hbA hS (j := i + 3) (by omega) (by omega) dL_law_1240 ?_
    refine lv_i2c (v := nI (chN (xs (i + 3)))) hx hb dL_law_1241 (chN_eq _) ?_
    refine g_callV (As := [.int (nI b9), .int (nI i9), .int (nI (chN (xs (i + 3))))]) (rest := []) ⟨hx, hb, hml, hown, hw⟩ (mX3_has_ok l D cT 116 ad A hD G1 (by omega) σ hI th hM1 b9 i9 hb9 hi9 (chN (xs (i + 3))) (chN_lt _) hk9 hcx) (cwV 3 hw (gWV wm_L_173 wi_X3_has wse_X3_has wini_X3 wc_X3_has) rfl rfl rfl (by decide +kernel) ⟨Nat.le_of_ble_eq_true rfl, Nat.le_of_ble_eq_true rfl⟩) hK hE hA hP hS (k := 69) (by omega) (MW.th hM1) rfl rfl hl.1 (lv_room (Nat.le_of_ble_eq_true rfl)) dL_law_1242 ⟨by show cells + 0 + 4 + 0 ≤ 603072; omega, by show slots + 0 + 24 + 0 ≤ 7227498; omega⟩ (fun v G3 H locs hp3 hP hS => ?_)
    obtain ⟨⟨rfl, hM3⟩, hf3⟩ := hp3
    refine t_eqi (nI 1) rfl ?_
    refine lv_istore (lv' := [(7, .int (nI 1)), (6, .int (nI 0)), (0, .ref b), (1, .ref (ad 0)), (2, .ref (ad 69)), (3, .ref (ad 114)), (4, .ref (ad 115)), (5, .int (nI i))]) hx hb dL_law_1245 hl (by decide) rfl (fun ls hl => ?_)
    refine lv_aload_n hx hb dL_law_1247 rfl (lv_at hl 4 rfl) ?_
    refine g_callV (As := []) (rest := []) ⟨hx, hb, hml, hown, hw⟩ (mX3_thrown l D cT 116 ad A hD G3 (by omega) 0 (MW.th hM3)) (cwV 0 hw (gWV wm_L_126 wi_X3_thrown wse_X3_thrown wini_X3 wc_X3_thrown) rfl rfl rfl (by decide +kernel) ⟨Nat.le_of_ble_eq_true rfl, Nat.le_of_ble_eq_true rfl⟩) hK hE hA hP hS (k := 69) (by omega) (MW.th hM3) rfl rfl hl.1 (lv_room (Nat.le_of_ble_eq_true rfl)) dL_law_1248 ⟨by show cells + 0 + 4 + 0 + 0 ≤ 603072; omega, by show slots + 0 + 24 + 0 + 0 ≤ 7227498; omega⟩ (fun v G4 H locs hp hP hS => ?_)
    obtain ⟨hv, hg⟩ := hp
    subst hv
    rw [hg] at hP
    refine lv_iload hx hb dL_law_1251 (lv_at hl 1 rfl) ?_
    refine t_icmp_eq (tgt := 1258) hx hb dL_law_1253 (by decide) (by omega) (by omega) (fun c_1 => ?_) (fun c_1 => absurd c_1 (by omega))
    refine lv_iload hx hb dL_law_1258 (lv_at hl 1 rfl) ?_
    refine t_if_ne (tgt := 1282) hx hb dL_law_1260 (by decide) (by omega) (fun c_2 => absurd c_2 (by omega)) (fun c_2 => ?_)
    refine lv_aload_n hx hb dL_law_1263 rfl (lv_at hl 5 rfl) ?_
    refine lv_iconst (v := nI 0) hx hb dL_law_1264 (by decide) ?_
    refine g_lald hx hb hK hP (i := 114) (by omega) ((hf3 _ (by omega)).trans hO1) (by omega) (by omega) dL_law_1265 ?_
    refine t_eql 1 ((va_up_self _ _ _).trans (by rw [show _ = nI 1 from rfl]; decide)) ?_
    refine lv_iload hx hb dL_law_1266 (lv_at hl 0 rfl) ?_
    refine t_if_eq (tgt := 1275) hx hb dL_law_1268 (by decide) (by omega) (fun c_3 => absurd c_3 (by omega)) (fun c_3 => ?_)
    refine lv_lconst (v := 1) hx hb dL_law_1271 (by decide) ?_
    refine lv_goto (tgt := 1276) hx hb dL_law_1272 (by decide) ?_
    refine W.lcmp hx hb dL_law_1276 ?_
    refine t_eqi (nI 0) (lgc_eq rfl) ?_
    refine t_if_eq (tgt := 1282) hx hb dL_law_1277 (by decide) (by omega) (fun c_4 => ?_) (fun c_4 => absurd c_4 (by omega))
    refine lv_goto (tgt := 2260) hx hb dL_law_1282 (by decide) ?_
    refine W.widen (k := cells + 10) (n := slots + 100) (by omega) (by omega) ?_
    exact kont _ G3 0 _ _ H locs ls ⟨hI, hY1.ad (fun _ _ => rfl) (fun k hk => hf3 k (by omega)), hM3, (hf3 114 (by omega)).trans hO1, (hf3 115 (by omega)).trans ((hfo 115 (by omega)).trans ((hfe 115 (by omega)).trans hO2))⟩ hP hS (lv_sub hl [2, 3, 4, 5, 6, 7] rfl)
  · skip
    rw [hg1] at hP
    have hcd1 := cd_pos [xIO, xIS, xIA] E
    have hcd3 := cd_le [xIO, xIS, xIA] E
    have hcd4 : ([xIO, xIS, xIA] : List String).length ≤ 3 := by decide
    have hcd2 : cd [xIO, xIS, xIA] E < 65536 := by omega
    refine lv_istore (lv' := [(6, .int (nI (cd [xIO, xIS, xIA] E))), (0, .ref b), (1, .ref (ad 0)), (2, .ref (ad 69)), (3, .ref (ad 114)), (4, .ref (ad 115)), (5, .int (nI i))]) hx hb dL_law_1220 hl (by decide) rfl (fun ls hl => ?_)
    refine lv_aload_n hx hb dL_law_1222 rfl (lv_at hl 3 rfl) ?_
    refine lv_aload_n hx hb dL_law_1223 rfl (lv_at hl 1 rfl) ?_
    refine lv_iload hx hb dL_law_1224 (lv_at hl 6 rfl) ?_
    refine lv_iconst (v := nI 1) hx hb dL_law_1226 (by decide) ?_
    refine lv_iadd hx hb dL_law_1227 ?_
    refine t_eqi (nI (i + 1)) (nI_add i 1) ?_
    refine g_sld hx hb hX hbl hbA hS (j := i + 1) (by omega) (by omega) dL_law_1228 ?_
    refine lv_aload_n hx hb dL_law_1229 rfl (lv_at hl 1 rfl) ?_
    refine lv_iload hx hb dL_law_1230 (lv_at hl 6 rfl) ?_
    refine lv_iconst (v := nI 2) hx hb dL_law_1232 (by decide) ?_
    refine lv_iadd hx hb dL_law_1233 ?_
    refine t_eqi (nI (i + 2)) (nI_add i 2) ?_
    refine g_sld hx hb hX hbl hbA hS (j := i + 2) (by omega) (by omega) dL_law_1234 ?_
    refine lv_aload_n hx hb dL_law_1235 rfl (lv_at hl 1 rfl) ?_
    refine lv_iload hx hb dL_law_1236 (lv_at hl 6 rfl) ?_
    refine lv_iconst (v := nI 3) hx hb dL_law_1238 (by decide) ?_
    refine lv_iadd hx hb dL_law_1239 ?_
    refine t_eqi (nI (i + 3)) (nI_add i 3) ?_
    refine g_sld hx hb hX hbl hbA hS (j := i + 3) (by omega) (by omega) dL_law_1240 ?_
    refine lv_i2c (v := nI (chN (xs (i + 3)))) hx hb dL_law_1241 (chN_eq _) ?_
    refine g_callV (As := [.int (xs (i + 1)), .int (xs (i + 2)), .int (nI (chN (xs (i + 3))))]) (rest := []) ⟨hx, hb, hml, hown, hw⟩ (mX3_has_no l D cT 116 ad A hD G (by omega) σ hI th hM (xs (i + 1)) (xs (i + 2)) (chN (xs (i + 3))) (chN_lt _) E hpx) (cwV 3 hw (gWV wm_L_173 wi_X3_has wse_X3_has wini_X3 wc_X3_has) rfl rfl rfl (by decide +kernel) ⟨Nat.le_of_ble_eq_true rfl, Nat.le_of_ble_eq_true rfl⟩) hK hE hA hP hS (k := 69) (by omega) (MW.th hM) rfl rfl hl.1 (lv_room (Nat.le_of_ble_eq_true rfl)) dL_law_1242 ⟨by show cells + 0 + 4 + 0 ≤ 603072; omega, by show slots + 0 + 24 + 0 ≤ 7227498; omega⟩ (fun v G3 H locs hp3 hP hS => ?_)
    obtain ⟨⟨⟨z9, rfl⟩, hM3⟩, hf3⟩ := hp3
    refine lv_istore (lv' := [(7, .int z9), (6, .int (nI (cd [xIO, xIS, xIA] E))), (0, .ref b), (1, .ref (ad 0)), (2, .ref (ad 69)), (3, .ref (ad 114)), (4, .ref (ad 115)), (5, .int (nI i))]) hx hb dL_law_1245 hl (by decide) rfl (fun ls hl => ?_)
    refine lv_aload_n hx hb dL_law_1247 rfl (lv_at hl 4 rfl) ?_
    refine g_callV (As := []) (rest := []) ⟨hx, hb, hml, hown, hw⟩ (mX3_thrown l D cT 116 ad A hD G3 (by omega) (cd [xIO, xIS, xIA] E) (MW.th hM3)) (cwV 0 hw (gWV wm_L_126 wi_X3_thrown wse_X3_thrown wini_X3 wc_X3_thrown) rfl rfl rfl (by decide +kernel) ⟨Nat.le_of_ble_eq_true rfl, Nat.le_of_ble_eq_true rfl⟩) hK hE hA hP hS (k := 69) (by omega) (MW.th hM3) rfl rfl hl.1 (lv_room (Nat.le_of_ble_eq_true rfl)) dL_law_1248 ⟨by show cells + 0 + 4 + 0 + 0 ≤ 603072; omega, by show slots + 0 + 24 + 0 + 0 ≤ 7227498; omega⟩ (fun v G4 H locs hp hP hS => ?_)
    obtain ⟨hv, hg⟩ := hp
    subst hv
    rw [hg] at hP
    refine lv_iload hx hb dL_law_1251 (lv_at hl 1 rfl) ?_
    refine t_icmp_eq (tgt := 1258) hx hb dL_law_1253 (by decide) (by omega) (by omega) (fun c_5 => ?_) (fun c_5 => ?_)
    · skip
      refine lv_iload hx hb dL_law_1258 (lv_at hl 1 rfl) ?_
      refine t_if_ne (tgt := 1282) hx hb dL_law_1260 (by decide) (by omega) (fun c_6 => ?_) (fun c_6 => ?_)
      · skip
        refine lv_goto (tgt := 2260) hx hb dL_law_1282 (by decide) ?_
        refine W.widen (k := cells + 10) (n := slots + 100) (by omega) (by omega) ?_
        exact kont σ G3 _ f f2 H locs ls ⟨hI, hY.ad (fun _ _ => rfl) (fun k hk => hf3 k (by omega)), hM3, (hf3 114 (by omega)).trans hO, (hf3 115 (by omega)).trans hO2⟩ hP hS (lv_sub hl [2, 3, 4, 5, 6, 7] rfl)
      · exfalso; omega
    · exfalso; omega

set_option maxHeartbeats 4000000 in
set_option maxRecDepth 100000 in
theorem lc_isExact {p : Program} {l : Launch} {e : Env} {s : State} {m : MethodId} {below : List Frame} {meth : Method} {c : Code} {b L : Nat} {xs : Nat → Int32} {D : va_G} {cT : Nat → ClassId} {ad : Nat → Nat} {A : Nat → Prop} {Q : State → Prop} {i cells slots : Nat} {H : Heap} {locs : List Loc} {ls : Array Slot} {σ : TY} {G : Nat → va_E} {th : Nat} {f : Nat → Int64} {f2 : Nat → UInt64} (hX9 : LX p l s m meth c b L xs D cT ad A) (hi : i + 8 ≤ L) (hc : cells + 10 ≤ 603072) (hs : slots + 100 ≤ 7227498) (hst : LSt cT ad G σ th f f2) (hP : va_P D vwCl (gw 116 ad G) H) (hS : va_S A s.heap H locs) (hl : lv_has ls 9 (LVL b ad i)) (kont : LK p l e s m below meth c b D cT ad A Q i (cells + 10) (slots + 100) 2260) : W p l e room_1 s m #[Value.ref b] below meth c H locs cells slots Q (F0 m 1285 ls []) := by
  obtain ⟨hx, hb, hml, hown, hw, hX, hbl, hbA, hK, hE, hA, hD, hN, hl9, hL⟩ := hX9
  obtain ⟨hI, hY, hM, hO, hO2⟩ := hst
  refine lv_aload_n hx hb dL_law_1285 rfl (lv_at hl 1 rfl) ?_
  refine lv_aload_n hx hb dL_law_1286 rfl (lv_at hl 0 rfl) ?_
  refine lv_iload hx hb dL_law_1287 (lv_at hl 5 rfl) ?_
  refine lv_iconst (v := nI 1) hx hb dL_law_1289 (by decide) ?_
  refine lv_iadd hx hb dL_law_1290 ?_
  refine t_eqi (nI (i + 1)) (nI_add i 1) ?_
  refine g_sld hx hb hX hbl hbA hS (j := i + 1) (by omega) (by omega) dL_law_1291 ?_
  refine lv_aload_n hx hb dL_law_1292 rfl (lv_at hl 0 rfl) ?_
  refine lv_iload hx hb dL_law_1293 (lv_at hl 5 rfl) ?_
  refine lv_iconst (v := nI 2) hx hb dL_law_1295 (by decide) ?_
  refine lv_iadd hx hb dL_law_1296 ?_
  refine t_eqi (nI (i + 2)) (nI_add i 2) ?_
  refine g_sld hx hb hX hbl hbA hS (j := i + 2) (by omega) (by omega) dL_law_1297 ?_
  refine lv_aload_n hx hb dL_law_1298 rfl (lv_at hl 3 rfl) ?_
  refine g_callSH (As := [.ref (ad 0), .int (xs (i + 1)), .int (xs (i + 2)), .ref (ad 114)]) (rest := []) ⟨hx, hb, hml, hown, hw⟩ (mL_isExact l hl9 D cT 116 ad A hD G (Nat.le_refl _) σ hY hI f hO (xs (i + 1)) (xs (i + 2))) (vx_cwSW 4 hw (gWSB wm_L_174 wst_L_isExact wini_L wcw_L_isExact) rfl rfl rfl (by decide +kernel) ⟨Nat.le_of_ble_eq_true rfl, Nat.le_of_ble_eq_true rfl⟩) hK hE hA hP hS rfl hl.1 (lv_room (Nat.le_of_ble_eq_true rfl)) dL_law_1299 ⟨by show cells + 0 + 3 ≤ 603072; omega, by show slots + 0 + 18 ≤ 7227498; omega⟩ (fun v G1 H locs hp hP hS => ?_)
  rcases hp with ⟨y8, G2, hcl, hO1, hfo, rfl⟩ | ⟨E, hpx, rfl, hg1⟩
  · skip
    rcases hcl with ⟨⟨b9, i9, hb9, hx1, hi9, hy1, hk9, hv⟩, hfr⟩
    have hfe : ∀ j, 69 ≤ j → G2 j = G j := fun j _ => by rw [hfr]
    have hM1 : MW cT ad G1 σ th := hM.keep (fun j h1 h2 => (hfo j (by omega)).trans (hfe j (by omega)))
    have hY1 := hY.ad (ad2 := ad) (G2 := G1) (fun _ _ => rfl) (fun k hk => (hfo k (by omega)).trans (by rw [hfr]))
    obtain rfl := Value.int.inj (Option.some.inj hv)
    refine lv_istore (lv' := [(6, .int (nI 0)), (0, .ref b), (1, .ref (ad 0)), (2, .ref (ad 69)), (3, .ref (ad 114)), (4, .ref (ad 115)), (5, .int (nI i))]) hx hb dL_law_1302 hl (by decide) rfl (fun ls hl => ?_)
    refine lv_aload_n hx hb dL_law_1304 rfl (lv_at hl 3 rfl) ?_
    refine lv_aload_n hx hb dL_law_1305 rfl (lv_at hl 1 rfl) ?_
    refine lv_iload hx hb dL_law_1306 (lv_at hl 6 rfl) ?_
    refine lv_iconst (v := nI 1) hx hb dL_law_1308 (by decide) ?_
    refine lv_iadd hx hb dL_law_1309 ?_
    refine t_eqi (nI (i + 1)) (nI_add i 1) ?_
    refine g_sld hx hb hX hbl hbA hS (j := i + 1) (by omega) (by omega) dL_law_1310 ?_
    refine t_eqi (nI b9) hx1 ?_
    refine lv_aload_n hx hb dL_law_1311 rfl (lv_at hl 1 rfl) ?_
    refine lv_iload hx hb dL_law_1312 (lv_at hl 6 rfl) ?_
    refine lv_iconst (v := nI 2) hx hb dL_law_1314 (by decide) ?_
    refine lv_iadd hx hb dL_law_1315 ?_
    refine t_eqi (nI (i + 2)) (nI_add i 2) ?_
    refine g_sld hx hb hX hbl hbA hS (j := i + 2) (by omega) (by omega) dL_law_1316 ?_
    refine t_eqi (nI i9) hy1 ?_
    refine g_callV (As := [.int (nI b9), .int (nI i9)]) (rest := []) ⟨hx, hb, hml, hown, hw⟩ (mX3_isExact_ok l D cT 116 ad A hD G1 (by omega) σ hI th hM1 b9 i9 hb9 hi9 hk9) (cwV 2 hw (gWV wm_L_176 wi_X3_isExact wse_X3_isExact wini_X3 wc_X3_isExact) rfl rfl rfl (by decide +kernel) ⟨Nat.le_of_ble_eq_true rfl, Nat.le_of_ble_eq_true rfl⟩) hK hE hA hP hS (k := 69) (by omega) (MW.th hM1) rfl rfl hl.1 (lv_room (Nat.le_of_ble_eq_true rfl)) dL_law_1317 ⟨by show cells + 0 + 3 + 0 ≤ 603072; omega, by show slots + 0 + 18 + 0 ≤ 7227498; omega⟩ (fun v G3 H locs hp3 hP hS => ?_)
    obtain ⟨⟨rfl, hM3⟩, hf3⟩ := hp3
    refine t_eqi (nI 1) rfl ?_
    refine lv_istore (lv' := [(7, .int (nI 1)), (6, .int (nI 0)), (0, .ref b), (1, .ref (ad 0)), (2, .ref (ad 69)), (3, .ref (ad 114)), (4, .ref (ad 115)), (5, .int (nI i))]) hx hb dL_law_1320 hl (by decide) rfl (fun ls hl => ?_)
    refine lv_aload_n hx hb dL_law_1322 rfl (lv_at hl 4 rfl) ?_
    refine g_callV (As := []) (rest := []) ⟨hx, hb, hml, hown, hw⟩ (mX3_thrown l D cT 116 ad A hD G3 (by omega) 0 (MW.th hM3)) (cwV 0 hw (gWV wm_L_126 wi_X3_thrown wse_X3_thrown wini_X3 wc_X3_thrown) rfl rfl rfl (by decide +kernel) ⟨Nat.le_of_ble_eq_true rfl, Nat.le_of_ble_eq_true rfl⟩) hK hE hA hP hS (k := 69) (by omega) (MW.th hM3) rfl rfl hl.1 (lv_room (Nat.le_of_ble_eq_true rfl)) dL_law_1323 ⟨by show cells + 0 + 3 + 0 + 0 ≤ 603072; omega, by show slots + 0 + 18 + 0 + 0 ≤ 7227498; omega⟩ (fun v G4 H locs hp hP hS => ?_)
    obtain ⟨hv, hg⟩ := hp
    subst hv
    rw [hg] at hP
    refine lv_iload hx hb dL_law_1326 (lv_at hl 1 rfl) ?_
    refine t_icmp_eq (tgt := 1333) hx hb dL_law_1328 (by decide) (by omega) (by omega) (fun c_1 => ?_) (fun c_1 => absurd c_1 (by omega))
    refine lv_iload hx hb dL_law_1333 (lv_at hl 1 rfl) ?_
    refine t_if_ne (tgt := 1357) hx hb dL_law_1335 (by decide) (by omega) (fun c_2 => absurd c_2 (by omega)) (fun c_2 => ?_)
    refine lv_aload_n hx hb dL_law_1338 rfl (lv_at hl 5 rfl) ?_
    refine lv_iconst (v := nI 0) hx hb dL_law_1339 (by decide) ?_
    refine g_lald hx hb hK hP (i := 114) (by omega) ((hf3 _ (by omega)).trans hO1) (by omega) (by omega) dL_law_1340 ?_
    refine t_eql 1 ((va_up_self _ _ _).trans (by rw [show _ = nI 1 from rfl]; decide)) ?_
    refine lv_iload hx hb dL_law_1341 (lv_at hl 0 rfl) ?_
    refine t_if_eq (tgt := 1350) hx hb dL_law_1343 (by decide) (by omega) (fun c_3 => absurd c_3 (by omega)) (fun c_3 => ?_)
    refine lv_lconst (v := 1) hx hb dL_law_1346 (by decide) ?_
    refine lv_goto (tgt := 1351) hx hb dL_law_1347 (by decide) ?_
    refine W.lcmp hx hb dL_law_1351 ?_
    refine t_eqi (nI 0) (lgc_eq rfl) ?_
    refine t_if_eq (tgt := 1357) hx hb dL_law_1352 (by decide) (by omega) (fun c_4 => ?_) (fun c_4 => absurd c_4 (by omega))
    refine lv_goto (tgt := 2260) hx hb dL_law_1357 (by decide) ?_
    refine W.widen (k := cells + 10) (n := slots + 100) (by omega) (by omega) ?_
    exact kont _ G3 0 _ _ H locs ls ⟨hI, hY1.ad (fun _ _ => rfl) (fun k hk => hf3 k (by omega)), hM3, (hf3 114 (by omega)).trans hO1, (hf3 115 (by omega)).trans ((hfo 115 (by omega)).trans ((hfe 115 (by omega)).trans hO2))⟩ hP hS (lv_sub hl [2, 3, 4, 5, 6, 7] rfl)
  · skip
    rw [hg1] at hP
    have hcd1 := cd_pos [xIO, xIS] E
    have hcd3 := cd_le [xIO, xIS] E
    have hcd4 : ([xIO, xIS] : List String).length ≤ 3 := by decide
    have hcd2 : cd [xIO, xIS] E < 65536 := by omega
    refine lv_istore (lv' := [(6, .int (nI (cd [xIO, xIS] E))), (0, .ref b), (1, .ref (ad 0)), (2, .ref (ad 69)), (3, .ref (ad 114)), (4, .ref (ad 115)), (5, .int (nI i))]) hx hb dL_law_1302 hl (by decide) rfl (fun ls hl => ?_)
    refine lv_aload_n hx hb dL_law_1304 rfl (lv_at hl 3 rfl) ?_
    refine lv_aload_n hx hb dL_law_1305 rfl (lv_at hl 1 rfl) ?_
    refine lv_iload hx hb dL_law_1306 (lv_at hl 6 rfl) ?_
    refine lv_iconst (v := nI 1) hx hb dL_law_1308 (by decide) ?_
    refine lv_iadd hx hb dL_law_1309 ?_
    refine t_eqi (nI (i + 1)) (nI_add i 1) ?_
    refine g_sld hx hb hX hbl hbA hS (j := i + 1) (by omega) (by omega) dL_law_1310 ?_
    refine lv_aload_n hx hb dL_law_1311 rfl (lv_at hl 1 rfl) ?_
    refine lv_iload hx hb dL_law_1312 (lv_at hl 6 rfl) ?_
    refine lv_iconst (v := nI 2) hx hb dL_law_1314 (by decide) ?_
    refine lv_iadd hx hb dL_law_1315 ?_
    refine t_eqi (nI (i + 2)) (nI_add i 2) ?_
    refine g_sld hx hb hX hbl hbA hS (j := i + 2) (by omega) (by omega) dL_law_1316 ?_
    refine g_callV (As := [.int (xs (i + 1)), .int (xs (i + 2))]) (rest := []) ⟨hx, hb, hml, hown, hw⟩ (mX3_isExact_no l D cT 116 ad A hD G (by omega) σ hI th hM (xs (i + 1)) (xs (i + 2)) E hpx) (cwV 2 hw (gWV wm_L_176 wi_X3_isExact wse_X3_isExact wini_X3 wc_X3_isExact) rfl rfl rfl (by decide +kernel) ⟨Nat.le_of_ble_eq_true rfl, Nat.le_of_ble_eq_true rfl⟩) hK hE hA hP hS (k := 69) (by omega) (MW.th hM) rfl rfl hl.1 (lv_room (Nat.le_of_ble_eq_true rfl)) dL_law_1317 ⟨by show cells + 0 + 3 + 0 ≤ 603072; omega, by show slots + 0 + 18 + 0 ≤ 7227498; omega⟩ (fun v G3 H locs hp3 hP hS => ?_)
    obtain ⟨⟨⟨z9, rfl⟩, hM3⟩, hf3⟩ := hp3
    refine lv_istore (lv' := [(7, .int z9), (6, .int (nI (cd [xIO, xIS] E))), (0, .ref b), (1, .ref (ad 0)), (2, .ref (ad 69)), (3, .ref (ad 114)), (4, .ref (ad 115)), (5, .int (nI i))]) hx hb dL_law_1320 hl (by decide) rfl (fun ls hl => ?_)
    refine lv_aload_n hx hb dL_law_1322 rfl (lv_at hl 4 rfl) ?_
    refine g_callV (As := []) (rest := []) ⟨hx, hb, hml, hown, hw⟩ (mX3_thrown l D cT 116 ad A hD G3 (by omega) (cd [xIO, xIS] E) (MW.th hM3)) (cwV 0 hw (gWV wm_L_126 wi_X3_thrown wse_X3_thrown wini_X3 wc_X3_thrown) rfl rfl rfl (by decide +kernel) ⟨Nat.le_of_ble_eq_true rfl, Nat.le_of_ble_eq_true rfl⟩) hK hE hA hP hS (k := 69) (by omega) (MW.th hM3) rfl rfl hl.1 (lv_room (Nat.le_of_ble_eq_true rfl)) dL_law_1323 ⟨by show cells + 0 + 3 + 0 + 0 ≤ 603072; omega, by show slots + 0 + 18 + 0 + 0 ≤ 7227498; omega⟩ (fun v G4 H locs hp hP hS => ?_)
    obtain ⟨hv, hg⟩ := hp
    subst hv
    rw [hg] at hP
    refine lv_iload hx hb dL_law_1326 (lv_at hl 1 rfl) ?_
    refine t_icmp_eq (tgt := 1333) hx hb dL_law_1328 (by decide) (by omega) (by omega) (fun c_5 => ?_) (fun c_5 => ?_)
    · skip
      refine lv_iload hx hb dL_law_1333 (lv_at hl 1 rfl) ?_
      refine t_if_ne (tgt := 1357) hx hb dL_law_1335 (by decide) (by omega) (fun c_6 => ?_) (fun c_6 => ?_)
      · skip
        refine lv_goto (tgt := 2260) hx hb dL_law_1357 (by decide) ?_
        refine W.widen (k := cells + 10) (n := slots + 100) (by omega) (by omega) ?_
        exact kont σ G3 _ f f2 H locs ls ⟨hI, hY.ad (fun _ _ => rfl) (fun k hk => hf3 k (by omega)), hM3, (hf3 114 (by omega)).trans hO, (hf3 115 (by omega)).trans hO2⟩ hP hS (lv_sub hl [2, 3, 4, 5, 6, 7] rfl)
      · exfalso; omega
    · exfalso; omega

set_option maxHeartbeats 4000000 in
set_option maxRecDepth 100000 in
theorem lc_split {p : Program} {l : Launch} {e : Env} {s : State} {m : MethodId} {below : List Frame} {meth : Method} {c : Code} {b L : Nat} {xs : Nat → Int32} {D : va_G} {cT : Nat → ClassId} {ad : Nat → Nat} {A : Nat → Prop} {Q : State → Prop} {i cells slots : Nat} {H : Heap} {locs : List Loc} {ls : Array Slot} {σ : TY} {G : Nat → va_E} {th : Nat} {f : Nat → Int64} {f2 : Nat → UInt64} (hX9 : LX p l s m meth c b L xs D cT ad A) (hi : i + 8 ≤ L) (hc : cells + 10 ≤ 603072) (hs : slots + 100 ≤ 7227498) (hst : LSt cT ad G σ th f f2) (hP : va_P D vwCl (gw 116 ad G) H) (hS : va_S A s.heap H locs) (hl : lv_has ls 9 (LVL b ad i)) (kont : LK p l e s m below meth c b D cT ad A Q i (cells + 10) (slots + 100) 2260) : W p l e room_1 s m #[Value.ref b] below meth c H locs cells slots Q (F0 m 1360 ls []) := by
  obtain ⟨hx, hb, hml, hown, hw, hX, hbl, hbA, hK, hE, hA, hD, hN, hl9, hL⟩ := hX9
  obtain ⟨hI, hY, hM, hO, hO2⟩ := hst
  refine lv_aload_n hx hb dL_law_1360 rfl (lv_at hl 1 rfl) ?_
  refine lv_aload_n hx hb dL_law_1361 rfl (lv_at hl 0 rfl) ?_
  refine lv_iload hx hb dL_law_1362 (lv_at hl 5 rfl) ?_
  refine lv_iconst (v := nI 1) hx hb dL_law_1364 (by decide) ?_
  refine lv_iadd hx hb dL_law_1365 ?_
  refine t_eqi (nI (i + 1)) (nI_add i 1) ?_
  refine g_sld hx hb hX hbl hbA hS (j := i + 1) (by omega) (by omega) dL_law_1366 ?_
  refine lv_aload_n hx hb dL_law_1367 rfl (lv_at hl 0 rfl) ?_
  refine lv_iload hx hb dL_law_1368 (lv_at hl 5 rfl) ?_
  refine lv_iconst (v := nI 2) hx hb dL_law_1370 (by decide) ?_
  refine lv_iadd hx hb dL_law_1371 ?_
  refine t_eqi (nI (i + 2)) (nI_add i 2) ?_
  refine g_sld hx hb hX hbl hbA hS (j := i + 2) (by omega) (by omega) dL_law_1372 ?_
  refine lv_aload_n hx hb dL_law_1373 rfl (lv_at hl 3 rfl) ?_
  refine g_callSH (As := [.ref (ad 0), .int (xs (i + 1)), .int (xs (i + 2)), .ref (ad 114)]) (rest := []) ⟨hx, hb, hml, hown, hw⟩ (mL_split l hl9 D cT 116 ad A hD G (Nat.le_refl _) σ hY hI f hO (xs (i + 1)) (xs (i + 2))) (vx_cwSW 4 hw (gWSB wm_L_177 wst_L_split wini_L wcw_L_split) rfl rfl rfl (by decide +kernel) ⟨Nat.le_of_ble_eq_true rfl, Nat.le_of_ble_eq_true rfl⟩) hK hE hA hP hS rfl hl.1 (lv_room (Nat.le_of_ble_eq_true rfl)) dL_law_1374 ⟨by show cells + 0 + 3 ≤ 603072; omega, by show slots + 0 + 18 ≤ 7227498; omega⟩ (fun v G1 H locs hp hP hS => ?_)
  rcases hp with ⟨y8, G2, hcl, hO1, hfo, rfl⟩ | ⟨E, hpx, rfl, hg1⟩
  · skip
    rcases hcl with ⟨⟨b9, i9, hb9, hx1, hi9, hy1, hk9, ⟨hL2, hv, hY2⟩ | ⟨hL2, hv, hY2⟩⟩, hfr⟩
    · skip
      have hfe : ∀ j, 69 ≤ j → G2 j = G j := hfr
      have hM1 : MW cT ad G1 σ th := hM.keep (fun j h1 h2 => (hfo j (by omega)).trans (hfe j (by omega)))
      have hY1 := hY2.ad (ad2 := ad) (G2 := G1) (fun _ _ => rfl) (fun k hk => hfo k (by omega))
      obtain rfl := Value.int.inj (Option.some.inj hv)
      refine lv_istore (lv' := [(6, .int (nI 0)), (0, .ref b), (1, .ref (ad 0)), (2, .ref (ad 69)), (3, .ref (ad 114)), (4, .ref (ad 115)), (5, .int (nI i))]) hx hb dL_law_1377 hl (by decide) rfl (fun ls hl => ?_)
      refine lv_aload_n hx hb dL_law_1379 rfl (lv_at hl 3 rfl) ?_
      refine lv_aload_n hx hb dL_law_1380 rfl (lv_at hl 1 rfl) ?_
      refine lv_iload hx hb dL_law_1381 (lv_at hl 6 rfl) ?_
      refine lv_iconst (v := nI 1) hx hb dL_law_1383 (by decide) ?_
      refine lv_iadd hx hb dL_law_1384 ?_
      refine t_eqi (nI (i + 1)) (nI_add i 1) ?_
      refine g_sld hx hb hX hbl hbA hS (j := i + 1) (by omega) (by omega) dL_law_1385 ?_
      refine t_eqi (nI b9) hx1 ?_
      refine lv_aload_n hx hb dL_law_1386 rfl (lv_at hl 1 rfl) ?_
      refine lv_iload hx hb dL_law_1387 (lv_at hl 6 rfl) ?_
      refine lv_iconst (v := nI 2) hx hb dL_law_1389 (by decide) ?_
      refine lv_iadd hx hb dL_law_1390 ?_
      refine t_eqi (nI (i + 2)) (nI_add i 2) ?_
      refine g_sld hx hb hX hbl hbA hS (j := i + 2) (by omega) (by omega) dL_law_1391 ?_
      refine t_eqi (nI i9) hy1 ?_
      refine g_callV (As := [.int (nI b9), .int (nI i9)]) (rest := []) ⟨hx, hb, hml, hown, hw⟩ (mX3_split_ok0 l D cT 116 ad A hD G1 (by omega) σ hI th hM1 b9 i9 hb9 hi9 hk9 hL2) (cwV 2 hw (gWV wm_L_179 wi_X3_split wse_X3_split wini_X3 wc_X3_split) rfl rfl rfl (by decide +kernel) ⟨Nat.le_of_ble_eq_true rfl, Nat.le_of_ble_eq_true rfl⟩) hK hE hA hP hS (k := 69) (by omega) (MW.th hM1) rfl rfl hl.1 (lv_room (Nat.le_of_ble_eq_true rfl)) dL_law_1392 ⟨by show cells + 0 + 3 + 0 ≤ 603072; omega, by show slots + 0 + 18 + 0 ≤ 7227498; omega⟩ (fun v G3 H locs hp3 hP hS => ?_)
      obtain ⟨⟨rfl, hM3⟩, hf3⟩ := hp3
      refine lv_istore (lv' := [(7, .int (-1)), (6, .int (nI 0)), (0, .ref b), (1, .ref (ad 0)), (2, .ref (ad 69)), (3, .ref (ad 114)), (4, .ref (ad 115)), (5, .int (nI i))]) hx hb dL_law_1395 hl (by decide) rfl (fun ls hl => ?_)
      refine lv_aload_n hx hb dL_law_1397 rfl (lv_at hl 4 rfl) ?_
      refine g_callV (As := []) (rest := []) ⟨hx, hb, hml, hown, hw⟩ (mX3_thrown l D cT 116 ad A hD G3 (by omega) 0 (MW.th hM3)) (cwV 0 hw (gWV wm_L_126 wi_X3_thrown wse_X3_thrown wini_X3 wc_X3_thrown) rfl rfl rfl (by decide +kernel) ⟨Nat.le_of_ble_eq_true rfl, Nat.le_of_ble_eq_true rfl⟩) hK hE hA hP hS (k := 69) (by omega) (MW.th hM3) rfl rfl hl.1 (lv_room (Nat.le_of_ble_eq_true rfl)) dL_law_1398 ⟨by show cells + 0 + 3 + 0 + 0 ≤ 603072; omega, by show slots + 0 + 18 + 0 + 0 ≤ 7227498; omega⟩ (fun v G4 H locs hp hP hS => ?_)
      obtain ⟨hv, hg⟩ := hp
      subst hv
      rw [hg] at hP
      refine lv_iload hx hb dL_law_1401 (lv_at hl 1 rfl) ?_
      refine t_icmp_eq (tgt := 1408) hx hb dL_law_1403 (by decide) (by omega) (by omega) (fun c_1 => ?_) (fun c_1 => absurd c_1 (by omega))
      refine lv_iload hx hb dL_law_1408 (lv_at hl 1 rfl) ?_
      refine t_if_ne (tgt := 1425) hx hb dL_law_1410 (by decide) (by omega) (fun c_2 => absurd c_2 (by omega)) (fun c_2 => ?_)
      refine lv_aload_n hx hb dL_law_1413 rfl (lv_at hl 5 rfl) ?_
      refine lv_iconst (v := nI 0) hx hb dL_law_1414 (by decide) ?_
      refine g_lald hx hb hK hP (i := 114) (by omega) ((hf3 _ (by omega)).trans hO1) (by omega) (by omega) dL_law_1415 ?_
      refine t_eql ((-1).toInt64) (va_up_self _ _ _) ?_
      refine lv_iload hx hb dL_law_1416 (lv_at hl 0 rfl) ?_
      refine lv_i2l hx hb dL_law_1418 rfl ?_
      refine W.lcmp hx hb dL_law_1419 ?_
      refine t_eqi (nI 0) (lgc_eq rfl) ?_
      refine t_if_eq (tgt := 1425) hx hb dL_law_1420 (by decide) (by omega) (fun c_3 => ?_) (fun c_3 => absurd c_3 (by omega))
      refine lv_goto (tgt := 2260) hx hb dL_law_1425 (by decide) ?_
      refine W.widen (k := cells + 10) (n := slots + 100) (by omega) (by omega) ?_
      exact kont _ G3 0 _ _ H locs ls ⟨hI, hY1.ad (fun _ _ => rfl) (fun k hk => hf3 k (by omega)), hM3, (hf3 114 (by omega)).trans hO1, (hf3 115 (by omega)).trans ((hfo 115 (by omega)).trans ((hfe 115 (by omega)).trans hO2))⟩ hP hS (lv_sub hl [2, 3, 4, 5, 6, 7] rfl)
    · skip
      have hfe : ∀ j, 69 ≤ j → G2 j = G j := hfr
      have hM1 : MW cT ad G1 σ th := hM.keep (fun j h1 h2 => (hfo j (by omega)).trans (hfe j (by omega)))
      have hY1 := hY2.ad (ad2 := ad) (G2 := G1) (fun _ _ => rfl) (fun k hk => hfo k (by omega))
      obtain rfl := Value.int.inj (Option.some.inj hv)
      refine lv_istore (lv' := [(6, .int (nI 0)), (0, .ref b), (1, .ref (ad 0)), (2, .ref (ad 69)), (3, .ref (ad 114)), (4, .ref (ad 115)), (5, .int (nI i))]) hx hb dL_law_1377 hl (by decide) rfl (fun ls hl => ?_)
      refine lv_aload_n hx hb dL_law_1379 rfl (lv_at hl 3 rfl) ?_
      refine lv_aload_n hx hb dL_law_1380 rfl (lv_at hl 1 rfl) ?_
      refine lv_iload hx hb dL_law_1381 (lv_at hl 6 rfl) ?_
      refine lv_iconst (v := nI 1) hx hb dL_law_1383 (by decide) ?_
      refine lv_iadd hx hb dL_law_1384 ?_
      refine t_eqi (nI (i + 1)) (nI_add i 1) ?_
      refine g_sld hx hb hX hbl hbA hS (j := i + 1) (by omega) (by omega) dL_law_1385 ?_
      refine t_eqi (nI b9) hx1 ?_
      refine lv_aload_n hx hb dL_law_1386 rfl (lv_at hl 1 rfl) ?_
      refine lv_iload hx hb dL_law_1387 (lv_at hl 6 rfl) ?_
      refine lv_iconst (v := nI 2) hx hb dL_law_1389 (by decide) ?_
      refine lv_iadd hx hb dL_law_1390 ?_
      refine t_eqi (nI (i + 2)) (nI_add i 2) ?_
      refine g_sld hx hb hX hbl hbA hS (j := i + 2) (by omega) (by omega) dL_law_1391 ?_
      refine t_eqi (nI i9) hy1 ?_
      refine g_callV (As := [.int (nI b9), .int (nI i9)]) (rest := []) ⟨hx, hb, hml, hown, hw⟩ (mX3_split_ok1 l D cT 116 ad A hD G1 (by omega) σ hI th hM1 b9 i9 hb9 hi9 hk9 hL2) (cwV 2 hw (gWV wm_L_179 wi_X3_split wse_X3_split wini_X3 wc_X3_split) rfl rfl rfl (by decide +kernel) ⟨Nat.le_of_ble_eq_true rfl, Nat.le_of_ble_eq_true rfl⟩) hK hE hA hP hS (k := 69) (by omega) (MW.th hM1) rfl rfl hl.1 (lv_room (Nat.le_of_ble_eq_true rfl)) dL_law_1392 ⟨by show cells + 0 + 3 + 0 ≤ 603072; omega, by show slots + 0 + 18 + 0 ≤ 7227498; omega⟩ (fun v G3 H locs hp3 hP hS => ?_)
      obtain ⟨⟨rfl, hM3⟩, hf3⟩ := hp3
      refine lv_istore (lv' := [(7, .int (nI ((σ.2 b9).2.2.2.2.2 i9 / 2))), (6, .int (nI 0)), (0, .ref b), (1, .ref (ad 0)), (2, .ref (ad 69)), (3, .ref (ad 114)), (4, .ref (ad 115)), (5, .int (nI i))]) hx hb dL_law_1395 hl (by decide) rfl (fun ls hl => ?_)
      refine lv_aload_n hx hb dL_law_1397 rfl (lv_at hl 4 rfl) ?_
      refine g_callV (As := []) (rest := []) ⟨hx, hb, hml, hown, hw⟩ (mX3_thrown l D cT 116 ad A hD G3 (by omega) 0 (MW.th hM3)) (cwV 0 hw (gWV wm_L_126 wi_X3_thrown wse_X3_thrown wini_X3 wc_X3_thrown) rfl rfl rfl (by decide +kernel) ⟨Nat.le_of_ble_eq_true rfl, Nat.le_of_ble_eq_true rfl⟩) hK hE hA hP hS (k := 69) (by omega) (MW.th hM3) rfl rfl hl.1 (lv_room (Nat.le_of_ble_eq_true rfl)) dL_law_1398 ⟨by show cells + 0 + 3 + 0 + 0 ≤ 603072; omega, by show slots + 0 + 18 + 0 + 0 ≤ 7227498; omega⟩ (fun v G4 H locs hp hP hS => ?_)
      obtain ⟨hv, hg⟩ := hp
      subst hv
      rw [hg] at hP
      refine lv_iload hx hb dL_law_1401 (lv_at hl 1 rfl) ?_
      refine t_icmp_eq (tgt := 1408) hx hb dL_law_1403 (by decide) (by omega) (by omega) (fun c_4 => ?_) (fun c_4 => absurd c_4 (by omega))
      refine lv_iload hx hb dL_law_1408 (lv_at hl 1 rfl) ?_
      refine t_if_ne (tgt := 1425) hx hb dL_law_1410 (by decide) (by omega) (fun c_5 => absurd c_5 (by omega)) (fun c_5 => ?_)
      refine lv_aload_n hx hb dL_law_1413 rfl (lv_at hl 5 rfl) ?_
      refine lv_iconst (v := nI 0) hx hb dL_law_1414 (by decide) ?_
      refine g_lald hx hb hK hP (i := 114) (by omega) ((hf3 _ (by omega)).trans hO1) (by omega) (by omega) dL_law_1415 ?_
      refine t_eql ((nI ((σ.2 b9).2.2.2.2.2 i9 / 2)).toInt64) (va_up_self _ _ _) ?_
      refine lv_iload hx hb dL_law_1416 (lv_at hl 0 rfl) ?_
      refine lv_i2l hx hb dL_law_1418 rfl ?_
      refine W.lcmp hx hb dL_law_1419 ?_
      refine t_eqi (nI 0) (lgc_eq rfl) ?_
      refine t_if_eq (tgt := 1425) hx hb dL_law_1420 (by decide) (by omega) (fun c_6 => ?_) (fun c_6 => absurd c_6 (by omega))
      refine lv_goto (tgt := 2260) hx hb dL_law_1425 (by decide) ?_
      refine W.widen (k := cells + 10) (n := slots + 100) (by omega) (by omega) ?_
      exact kont _ G3 0 _ _ H locs ls ⟨hI.bench (BIt_half (hI.2 b9 hb9) hi9 hk9 hL2), hY1.ad (fun _ _ => rfl) (fun k hk => hf3 k (by omega)), hM3, (hf3 114 (by omega)).trans hO1, (hf3 115 (by omega)).trans ((hfo 115 (by omega)).trans ((hfe 115 (by omega)).trans hO2))⟩ hP hS (lv_sub hl [2, 3, 4, 5, 6, 7] rfl)
  · skip
    rw [hg1] at hP
    have hcd1 := cd_pos [xIO, xIS] E
    have hcd3 := cd_le [xIO, xIS] E
    have hcd4 : ([xIO, xIS] : List String).length ≤ 3 := by decide
    have hcd2 : cd [xIO, xIS] E < 65536 := by omega
    refine lv_istore (lv' := [(6, .int (nI (cd [xIO, xIS] E))), (0, .ref b), (1, .ref (ad 0)), (2, .ref (ad 69)), (3, .ref (ad 114)), (4, .ref (ad 115)), (5, .int (nI i))]) hx hb dL_law_1377 hl (by decide) rfl (fun ls hl => ?_)
    refine lv_aload_n hx hb dL_law_1379 rfl (lv_at hl 3 rfl) ?_
    refine lv_aload_n hx hb dL_law_1380 rfl (lv_at hl 1 rfl) ?_
    refine lv_iload hx hb dL_law_1381 (lv_at hl 6 rfl) ?_
    refine lv_iconst (v := nI 1) hx hb dL_law_1383 (by decide) ?_
    refine lv_iadd hx hb dL_law_1384 ?_
    refine t_eqi (nI (i + 1)) (nI_add i 1) ?_
    refine g_sld hx hb hX hbl hbA hS (j := i + 1) (by omega) (by omega) dL_law_1385 ?_
    refine lv_aload_n hx hb dL_law_1386 rfl (lv_at hl 1 rfl) ?_
    refine lv_iload hx hb dL_law_1387 (lv_at hl 6 rfl) ?_
    refine lv_iconst (v := nI 2) hx hb dL_law_1389 (by decide) ?_
    refine lv_iadd hx hb dL_law_1390 ?_
    refine t_eqi (nI (i + 2)) (nI_add i 2) ?_
    refine g_sld hx hb hX hbl hbA hS (j := i + 2) (by omega) (by omega) dL_law_1391 ?_
    refine g_callV (As := [.int (xs (i + 1)), .int (xs (i + 2))]) (rest := []) ⟨hx, hb, hml, hown, hw⟩ (mX3_split_no l D cT 116 ad A hD G (by omega) σ hI th hM (xs (i + 1)) (xs (i + 2)) E hpx) (cwV 2 hw (gWV wm_L_179 wi_X3_split wse_X3_split wini_X3 wc_X3_split) rfl rfl rfl (by decide +kernel) ⟨Nat.le_of_ble_eq_true rfl, Nat.le_of_ble_eq_true rfl⟩) hK hE hA hP hS (k := 69) (by omega) (MW.th hM) rfl rfl hl.1 (lv_room (Nat.le_of_ble_eq_true rfl)) dL_law_1392 ⟨by show cells + 0 + 3 + 0 ≤ 603072; omega, by show slots + 0 + 18 + 0 ≤ 7227498; omega⟩ (fun v G3 H locs hp3 hP hS => ?_)
    obtain ⟨⟨⟨z9, rfl⟩, hM3⟩, hf3⟩ := hp3
    refine lv_istore (lv' := [(7, .int z9), (6, .int (nI (cd [xIO, xIS] E))), (0, .ref b), (1, .ref (ad 0)), (2, .ref (ad 69)), (3, .ref (ad 114)), (4, .ref (ad 115)), (5, .int (nI i))]) hx hb dL_law_1395 hl (by decide) rfl (fun ls hl => ?_)
    refine lv_aload_n hx hb dL_law_1397 rfl (lv_at hl 4 rfl) ?_
    refine g_callV (As := []) (rest := []) ⟨hx, hb, hml, hown, hw⟩ (mX3_thrown l D cT 116 ad A hD G3 (by omega) (cd [xIO, xIS] E) (MW.th hM3)) (cwV 0 hw (gWV wm_L_126 wi_X3_thrown wse_X3_thrown wini_X3 wc_X3_thrown) rfl rfl rfl (by decide +kernel) ⟨Nat.le_of_ble_eq_true rfl, Nat.le_of_ble_eq_true rfl⟩) hK hE hA hP hS (k := 69) (by omega) (MW.th hM3) rfl rfl hl.1 (lv_room (Nat.le_of_ble_eq_true rfl)) dL_law_1398 ⟨by show cells + 0 + 3 + 0 + 0 ≤ 603072; omega, by show slots + 0 + 18 + 0 + 0 ≤ 7227498; omega⟩ (fun v G4 H locs hp hP hS => ?_)
    obtain ⟨hv, hg⟩ := hp
    subst hv
    rw [hg] at hP
    refine lv_iload hx hb dL_law_1401 (lv_at hl 1 rfl) ?_
    refine t_icmp_eq (tgt := 1408) hx hb dL_law_1403 (by decide) (by omega) (by omega) (fun c_7 => ?_) (fun c_7 => ?_)
    · skip
      refine lv_iload hx hb dL_law_1408 (lv_at hl 1 rfl) ?_
      refine t_if_ne (tgt := 1425) hx hb dL_law_1410 (by decide) (by omega) (fun c_8 => ?_) (fun c_8 => ?_)
      · skip
        refine lv_goto (tgt := 2260) hx hb dL_law_1425 (by decide) ?_
        refine W.widen (k := cells + 10) (n := slots + 100) (by omega) (by omega) ?_
        exact kont σ G3 _ f f2 H locs ls ⟨hI, hY.ad (fun _ _ => rfl) (fun k hk => hf3 k (by omega)), hM3, (hf3 114 (by omega)).trans hO, (hf3 115 (by omega)).trans hO2⟩ hP hS (lv_sub hl [2, 3, 4, 5, 6, 7] rfl)
      · exfalso; omega
    · exfalso; omega

set_option maxHeartbeats 4000000 in
set_option maxRecDepth 100000 in
theorem lc_step {p : Program} {l : Launch} {e : Env} {s : State} {m : MethodId} {below : List Frame} {meth : Method} {c : Code} {b L : Nat} {xs : Nat → Int32} {D : va_G} {cT : Nat → ClassId} {ad : Nat → Nat} {A : Nat → Prop} {Q : State → Prop} {i cells slots : Nat} {H : Heap} {locs : List Loc} {ls : Array Slot} {σ : TY} {G : Nat → va_E} {th : Nat} {f : Nat → Int64} {f2 : Nat → UInt64} (hX9 : LX p l s m meth c b L xs D cT ad A) (hi : i + 8 ≤ L) (hc : cells + 10 ≤ 603072) (hs : slots + 100 ≤ 7227498) (hst : LSt cT ad G σ th f f2) (hP : va_P D vwCl (gw 116 ad G) H) (hS : va_S A s.heap H locs) (hl : lv_has ls 9 (LVL b ad i)) (kont : LK p l e s m below meth c b D cT ad A Q i (cells + 10) (slots + 100) 2260) : W p l e room_1 s m #[Value.ref b] below meth c H locs cells slots Q (F0 m 1428 ls []) := by
  obtain ⟨hx, hb, hml, hown, hw, hX, hbl, hbA, hK, hE, hA, hD, hN, hl9, hL⟩ := hX9
  obtain ⟨hI, hY, hM, hO, hO2⟩ := hst
  refine lv_aload_n hx hb dL_law_1428 rfl (lv_at hl 1 rfl) ?_
  refine lv_aload_n hx hb dL_law_1429 rfl (lv_at hl 0 rfl) ?_
  refine lv_iload hx hb dL_law_1430 (lv_at hl 5 rfl) ?_
  refine lv_iconst (v := nI 1) hx hb dL_law_1432 (by decide) ?_
  refine lv_iadd hx hb dL_law_1433 ?_
  refine t_eqi (nI (i + 1)) (nI_add i 1) ?_
  refine g_sld hx hb hX hbl hbA hS (j := i + 1) (by omega) (by omega) dL_law_1434 ?_
  refine lv_aload_n hx hb dL_law_1435 rfl (lv_at hl 0 rfl) ?_
  refine lv_iload hx hb dL_law_1436 (lv_at hl 5 rfl) ?_
  refine lv_iconst (v := nI 2) hx hb dL_law_1438 (by decide) ?_
  refine lv_iadd hx hb dL_law_1439 ?_
  refine t_eqi (nI (i + 2)) (nI_add i 2) ?_
  refine g_sld hx hb hX hbl hbA hS (j := i + 2) (by omega) (by omega) dL_law_1440 ?_
  refine lv_aload_n hx hb dL_law_1441 rfl (lv_at hl 3 rfl) ?_
  refine g_callSH (As := [.ref (ad 0), .int (xs (i + 1)), .int (xs (i + 2)), .ref (ad 114)]) (rest := []) ⟨hx, hb, hml, hown, hw⟩ (mL_step l hl9 D cT 116 ad A hD G (Nat.le_refl _) σ hY hI f hO (xs (i + 1)) (xs (i + 2))) (vx_cwSW 4 hw (gWSB wm_L_180 wst_L_step wini_L wcw_L_step) rfl rfl rfl (by decide +kernel) ⟨Nat.le_of_ble_eq_true rfl, Nat.le_of_ble_eq_true rfl⟩) hK hE hA hP hS rfl hl.1 (lv_room (Nat.le_of_ble_eq_true rfl)) dL_law_1442 ⟨by show cells + 0 + 3 ≤ 603072; omega, by show slots + 0 + 18 ≤ 7227498; omega⟩ (fun v G1 H locs hp hP hS => ?_)
  rcases hp with ⟨y8, G2, hcl, hO1, hfo, rfl⟩ | ⟨E, hpx, rfl, hg1⟩
  · skip
    rcases hcl with ⟨⟨b9, i9, hb9, hx1, hi9, hy1, hk9, hv, hY2⟩, hfr⟩
    have hfe : ∀ j, 69 ≤ j → G2 j = G j := hfr
    have hM1 : MW cT ad G1 σ th := hM.keep (fun j h1 h2 => (hfo j (by omega)).trans (hfe j (by omega)))
    have hY1 := hY2.ad (ad2 := ad) (G2 := G1) (fun _ _ => rfl) (fun k hk => hfo k (by omega))
    obtain rfl := Value.int.inj (Option.some.inj hv)
    rcases Decidable.em ((σ.2 b9).2.2.2.2.2 i9 = 0) with hp9 | hp9
    · skip
      refine lv_istore (lv' := [(6, .int (nI 0)), (0, .ref b), (1, .ref (ad 0)), (2, .ref (ad 69)), (3, .ref (ad 114)), (4, .ref (ad 115)), (5, .int (nI i))]) hx hb dL_law_1445 hl (by decide) rfl (fun ls hl => ?_)
      refine lv_aload_n hx hb dL_law_1447 rfl (lv_at hl 3 rfl) ?_
      refine lv_aload_n hx hb dL_law_1448 rfl (lv_at hl 1 rfl) ?_
      refine lv_iload hx hb dL_law_1449 (lv_at hl 6 rfl) ?_
      refine lv_iconst (v := nI 1) hx hb dL_law_1451 (by decide) ?_
      refine lv_iadd hx hb dL_law_1452 ?_
      refine t_eqi (nI (i + 1)) (nI_add i 1) ?_
      refine g_sld hx hb hX hbl hbA hS (j := i + 1) (by omega) (by omega) dL_law_1453 ?_
      refine t_eqi (nI b9) hx1 ?_
      refine lv_aload_n hx hb dL_law_1454 rfl (lv_at hl 1 rfl) ?_
      refine lv_iload hx hb dL_law_1455 (lv_at hl 6 rfl) ?_
      refine lv_iconst (v := nI 2) hx hb dL_law_1457 (by decide) ?_
      refine lv_iadd hx hb dL_law_1458 ?_
      refine t_eqi (nI (i + 2)) (nI_add i 2) ?_
      refine g_sld hx hb hX hbl hbA hS (j := i + 2) (by omega) (by omega) dL_law_1459 ?_
      refine t_eqi (nI i9) hy1 ?_
      refine g_callV (As := [.int (nI b9), .int (nI i9)]) (rest := []) ⟨hx, hb, hml, hown, hw⟩ (mX3_step_ok l D cT 116 ad A hD G1 (by omega) σ hI th hM1 b9 i9 hb9 hi9 hk9) (cwV 2 hw (gWV wm_L_182 wi_X3_step wse_X3_step wini_X3 wc_X3_step) rfl rfl rfl (by decide +kernel) ⟨Nat.le_of_ble_eq_true rfl, Nat.le_of_ble_eq_true rfl⟩) hK hE hA hP hS (k := 69) (by omega) (MW.th hM1) rfl rfl hl.1 (lv_room (Nat.le_of_ble_eq_true rfl)) dL_law_1460 ⟨by show cells + 0 + 3 + 0 ≤ 603072; omega, by show slots + 0 + 18 + 0 ≤ 7227498; omega⟩ (fun v G3 H locs hp3 hP hS => ?_)
      obtain ⟨⟨rfl, hM3⟩, hf3⟩ := hp3
      refine t_eqi (nI 0) (congrArg nI (show _ = 0 by omega)) ?_
      refine lv_istore (lv' := [(7, .int (nI 0)), (6, .int (nI 0)), (0, .ref b), (1, .ref (ad 0)), (2, .ref (ad 69)), (3, .ref (ad 114)), (4, .ref (ad 115)), (5, .int (nI i))]) hx hb dL_law_1463 hl (by decide) rfl (fun ls hl => ?_)
      refine lv_aload_n hx hb dL_law_1465 rfl (lv_at hl 4 rfl) ?_
      refine g_callV (As := []) (rest := []) ⟨hx, hb, hml, hown, hw⟩ (mX3_thrown l D cT 116 ad A hD G3 (by omega) 0 (MW.th hM3)) (cwV 0 hw (gWV wm_L_126 wi_X3_thrown wse_X3_thrown wini_X3 wc_X3_thrown) rfl rfl rfl (by decide +kernel) ⟨Nat.le_of_ble_eq_true rfl, Nat.le_of_ble_eq_true rfl⟩) hK hE hA hP hS (k := 69) (by omega) (MW.th hM3) rfl rfl hl.1 (lv_room (Nat.le_of_ble_eq_true rfl)) dL_law_1466 ⟨by show cells + 0 + 3 + 0 + 0 ≤ 603072; omega, by show slots + 0 + 18 + 0 + 0 ≤ 7227498; omega⟩ (fun v G4 H locs hp hP hS => ?_)
      obtain ⟨hv, hg⟩ := hp
      subst hv
      rw [hg] at hP
      refine lv_iload hx hb dL_law_1469 (lv_at hl 1 rfl) ?_
      refine t_icmp_eq (tgt := 1476) hx hb dL_law_1471 (by decide) (by omega) (by omega) (fun c_1 => ?_) (fun c_1 => absurd c_1 (by omega))
      refine lv_iload hx hb dL_law_1476 (lv_at hl 1 rfl) ?_
      refine t_if_ne (tgt := 1500) hx hb dL_law_1478 (by decide) (by omega) (fun c_2 => absurd c_2 (by omega)) (fun c_2 => ?_)
      refine lv_aload_n hx hb dL_law_1481 rfl (lv_at hl 5 rfl) ?_
      refine lv_iconst (v := nI 0) hx hb dL_law_1482 (by decide) ?_
      refine g_lald hx hb hK hP (i := 114) (by omega) ((hf3 _ (by omega)).trans hO1) (by omega) (by omega) dL_law_1483 ?_
      refine t_eql 0 ((va_up_self _ _ _).trans (by rw [show _ = nI 0 from (congrArg nI (show _ = 0 by omega))]; decide)) ?_
      refine lv_iload hx hb dL_law_1484 (lv_at hl 0 rfl) ?_
      refine t_if_eq (tgt := 1493) hx hb dL_law_1486 (by decide) (by omega) (fun c_3 => ?_) (fun c_3 => absurd c_3 (by omega))
      refine lv_lconst (v := 0) hx hb dL_law_1493 (by decide) ?_
      refine W.lcmp hx hb dL_law_1494 ?_
      refine t_eqi (nI 0) (lgc_eq rfl) ?_
      refine t_if_eq (tgt := 1500) hx hb dL_law_1495 (by decide) (by omega) (fun c_4 => ?_) (fun c_4 => absurd c_4 (by omega))
      refine lv_goto (tgt := 2260) hx hb dL_law_1500 (by decide) ?_
      refine W.widen (k := cells + 10) (n := slots + 100) (by omega) (by omega) ?_
      exact kont _ G3 0 _ _ H locs ls ⟨hI.bench (BIt_give (hI.2 b9 hb9) hi9 hk9 (Nat.min_le_right _ _)), hY1.ad (fun _ _ => rfl) (fun k hk => hf3 k (by omega)), hM3, (hf3 114 (by omega)).trans hO1, (hf3 115 (by omega)).trans ((hfo 115 (by omega)).trans ((hfe 115 (by omega)).trans hO2))⟩ hP hS (lv_sub hl [2, 3, 4, 5, 6, 7] rfl)
    · skip
      refine lv_istore (lv' := [(6, .int (nI 0)), (0, .ref b), (1, .ref (ad 0)), (2, .ref (ad 69)), (3, .ref (ad 114)), (4, .ref (ad 115)), (5, .int (nI i))]) hx hb dL_law_1445 hl (by decide) rfl (fun ls hl => ?_)
      refine lv_aload_n hx hb dL_law_1447 rfl (lv_at hl 3 rfl) ?_
      refine lv_aload_n hx hb dL_law_1448 rfl (lv_at hl 1 rfl) ?_
      refine lv_iload hx hb dL_law_1449 (lv_at hl 6 rfl) ?_
      refine lv_iconst (v := nI 1) hx hb dL_law_1451 (by decide) ?_
      refine lv_iadd hx hb dL_law_1452 ?_
      refine t_eqi (nI (i + 1)) (nI_add i 1) ?_
      refine g_sld hx hb hX hbl hbA hS (j := i + 1) (by omega) (by omega) dL_law_1453 ?_
      refine t_eqi (nI b9) hx1 ?_
      refine lv_aload_n hx hb dL_law_1454 rfl (lv_at hl 1 rfl) ?_
      refine lv_iload hx hb dL_law_1455 (lv_at hl 6 rfl) ?_
      refine lv_iconst (v := nI 2) hx hb dL_law_1457 (by decide) ?_
      refine lv_iadd hx hb dL_law_1458 ?_
      refine t_eqi (nI (i + 2)) (nI_add i 2) ?_
      refine g_sld hx hb hX hbl hbA hS (j := i + 2) (by omega) (by omega) dL_law_1459 ?_
      refine t_eqi (nI i9) hy1 ?_
      refine g_callV (As := [.int (nI b9), .int (nI i9)]) (rest := []) ⟨hx, hb, hml, hown, hw⟩ (mX3_step_ok l D cT 116 ad A hD G1 (by omega) σ hI th hM1 b9 i9 hb9 hi9 hk9) (cwV 2 hw (gWV wm_L_182 wi_X3_step wse_X3_step wini_X3 wc_X3_step) rfl rfl rfl (by decide +kernel) ⟨Nat.le_of_ble_eq_true rfl, Nat.le_of_ble_eq_true rfl⟩) hK hE hA hP hS (k := 69) (by omega) (MW.th hM1) rfl rfl hl.1 (lv_room (Nat.le_of_ble_eq_true rfl)) dL_law_1460 ⟨by show cells + 0 + 3 + 0 ≤ 603072; omega, by show slots + 0 + 18 + 0 ≤ 7227498; omega⟩ (fun v G3 H locs hp3 hP hS => ?_)
      obtain ⟨⟨rfl, hM3⟩, hf3⟩ := hp3
      refine t_eqi (nI 1) (congrArg nI (show _ = 1 by omega)) ?_
      refine lv_istore (lv' := [(7, .int (nI 1)), (6, .int (nI 0)), (0, .ref b), (1, .ref (ad 0)), (2, .ref (ad 69)), (3, .ref (ad 114)), (4, .ref (ad 115)), (5, .int (nI i))]) hx hb dL_law_1463 hl (by decide) rfl (fun ls hl => ?_)
      refine lv_aload_n hx hb dL_law_1465 rfl (lv_at hl 4 rfl) ?_
      refine g_callV (As := []) (rest := []) ⟨hx, hb, hml, hown, hw⟩ (mX3_thrown l D cT 116 ad A hD G3 (by omega) 0 (MW.th hM3)) (cwV 0 hw (gWV wm_L_126 wi_X3_thrown wse_X3_thrown wini_X3 wc_X3_thrown) rfl rfl rfl (by decide +kernel) ⟨Nat.le_of_ble_eq_true rfl, Nat.le_of_ble_eq_true rfl⟩) hK hE hA hP hS (k := 69) (by omega) (MW.th hM3) rfl rfl hl.1 (lv_room (Nat.le_of_ble_eq_true rfl)) dL_law_1466 ⟨by show cells + 0 + 3 + 0 + 0 ≤ 603072; omega, by show slots + 0 + 18 + 0 + 0 ≤ 7227498; omega⟩ (fun v G4 H locs hp hP hS => ?_)
      obtain ⟨hv, hg⟩ := hp
      subst hv
      rw [hg] at hP
      refine lv_iload hx hb dL_law_1469 (lv_at hl 1 rfl) ?_
      refine t_icmp_eq (tgt := 1476) hx hb dL_law_1471 (by decide) (by omega) (by omega) (fun c_5 => ?_) (fun c_5 => absurd c_5 (by omega))
      refine lv_iload hx hb dL_law_1476 (lv_at hl 1 rfl) ?_
      refine t_if_ne (tgt := 1500) hx hb dL_law_1478 (by decide) (by omega) (fun c_6 => absurd c_6 (by omega)) (fun c_6 => ?_)
      refine lv_aload_n hx hb dL_law_1481 rfl (lv_at hl 5 rfl) ?_
      refine lv_iconst (v := nI 0) hx hb dL_law_1482 (by decide) ?_
      refine g_lald hx hb hK hP (i := 114) (by omega) ((hf3 _ (by omega)).trans hO1) (by omega) (by omega) dL_law_1483 ?_
      refine t_eql 1 ((va_up_self _ _ _).trans (by rw [show _ = nI 1 from (congrArg nI (show _ = 1 by omega))]; decide)) ?_
      refine lv_iload hx hb dL_law_1484 (lv_at hl 0 rfl) ?_
      refine t_if_eq (tgt := 1493) hx hb dL_law_1486 (by decide) (by omega) (fun c_7 => absurd c_7 (by omega)) (fun c_7 => ?_)
      refine lv_lconst (v := 1) hx hb dL_law_1489 (by decide) ?_
      refine lv_goto (tgt := 1494) hx hb dL_law_1490 (by decide) ?_
      refine W.lcmp hx hb dL_law_1494 ?_
      refine t_eqi (nI 0) (lgc_eq rfl) ?_
      refine t_if_eq (tgt := 1500) hx hb dL_law_1495 (by decide) (by omega) (fun c_8 => ?_) (fun c_8 => absurd c_8 (by omega))
      refine lv_goto (tgt := 2260) hx hb dL_law_1500 (by decide) ?_
      refine W.widen (k := cells + 10) (n := slots + 100) (by omega) (by omega) ?_
      exact kont _ G3 0 _ _ H locs ls ⟨hI.bench (BIt_give (hI.2 b9 hb9) hi9 hk9 (Nat.min_le_right _ _)), hY1.ad (fun _ _ => rfl) (fun k hk => hf3 k (by omega)), hM3, (hf3 114 (by omega)).trans hO1, (hf3 115 (by omega)).trans ((hfo 115 (by omega)).trans ((hfe 115 (by omega)).trans hO2))⟩ hP hS (lv_sub hl [2, 3, 4, 5, 6, 7] rfl)
  · skip
    rw [hg1] at hP
    have hcd1 := cd_pos [xIO, xIS] E
    have hcd3 := cd_le [xIO, xIS] E
    have hcd4 : ([xIO, xIS] : List String).length ≤ 3 := by decide
    have hcd2 : cd [xIO, xIS] E < 65536 := by omega
    refine lv_istore (lv' := [(6, .int (nI (cd [xIO, xIS] E))), (0, .ref b), (1, .ref (ad 0)), (2, .ref (ad 69)), (3, .ref (ad 114)), (4, .ref (ad 115)), (5, .int (nI i))]) hx hb dL_law_1445 hl (by decide) rfl (fun ls hl => ?_)
    refine lv_aload_n hx hb dL_law_1447 rfl (lv_at hl 3 rfl) ?_
    refine lv_aload_n hx hb dL_law_1448 rfl (lv_at hl 1 rfl) ?_
    refine lv_iload hx hb dL_law_1449 (lv_at hl 6 rfl) ?_
    refine lv_iconst (v := nI 1) hx hb dL_law_1451 (by decide) ?_
    refine lv_iadd hx hb dL_law_1452 ?_
    refine t_eqi (nI (i + 1)) (nI_add i 1) ?_
    refine g_sld hx hb hX hbl hbA hS (j := i + 1) (by omega) (by omega) dL_law_1453 ?_
    refine lv_aload_n hx hb dL_law_1454 rfl (lv_at hl 1 rfl) ?_
    refine lv_iload hx hb dL_law_1455 (lv_at hl 6 rfl) ?_
    refine lv_iconst (v := nI 2) hx hb dL_law_1457 (by decide) ?_
    refine lv_iadd hx hb dL_law_1458 ?_
    refine t_eqi (nI (i + 2)) (nI_add i 2) ?_
    refine g_sld hx hb hX hbl hbA hS (j := i + 2) (by omega) (by omega) dL_law_1459 ?_
    refine g_callV (As := [.int (xs (i + 1)), .int (xs (i + 2))]) (rest := []) ⟨hx, hb, hml, hown, hw⟩ (mX3_step_no l D cT 116 ad A hD G (by omega) σ hI th hM (xs (i + 1)) (xs (i + 2)) E hpx) (cwV 2 hw (gWV wm_L_182 wi_X3_step wse_X3_step wini_X3 wc_X3_step) rfl rfl rfl (by decide +kernel) ⟨Nat.le_of_ble_eq_true rfl, Nat.le_of_ble_eq_true rfl⟩) hK hE hA hP hS (k := 69) (by omega) (MW.th hM) rfl rfl hl.1 (lv_room (Nat.le_of_ble_eq_true rfl)) dL_law_1460 ⟨by show cells + 0 + 3 + 0 ≤ 603072; omega, by show slots + 0 + 18 + 0 ≤ 7227498; omega⟩ (fun v G3 H locs hp3 hP hS => ?_)
    obtain ⟨⟨⟨z9, rfl⟩, hM3⟩, hf3⟩ := hp3
    refine lv_istore (lv' := [(7, .int z9), (6, .int (nI (cd [xIO, xIS] E))), (0, .ref b), (1, .ref (ad 0)), (2, .ref (ad 69)), (3, .ref (ad 114)), (4, .ref (ad 115)), (5, .int (nI i))]) hx hb dL_law_1463 hl (by decide) rfl (fun ls hl => ?_)
    refine lv_aload_n hx hb dL_law_1465 rfl (lv_at hl 4 rfl) ?_
    refine g_callV (As := []) (rest := []) ⟨hx, hb, hml, hown, hw⟩ (mX3_thrown l D cT 116 ad A hD G3 (by omega) (cd [xIO, xIS] E) (MW.th hM3)) (cwV 0 hw (gWV wm_L_126 wi_X3_thrown wse_X3_thrown wini_X3 wc_X3_thrown) rfl rfl rfl (by decide +kernel) ⟨Nat.le_of_ble_eq_true rfl, Nat.le_of_ble_eq_true rfl⟩) hK hE hA hP hS (k := 69) (by omega) (MW.th hM3) rfl rfl hl.1 (lv_room (Nat.le_of_ble_eq_true rfl)) dL_law_1466 ⟨by show cells + 0 + 3 + 0 + 0 ≤ 603072; omega, by show slots + 0 + 18 + 0 + 0 ≤ 7227498; omega⟩ (fun v G4 H locs hp hP hS => ?_)
    obtain ⟨hv, hg⟩ := hp
    subst hv
    rw [hg] at hP
    refine lv_iload hx hb dL_law_1469 (lv_at hl 1 rfl) ?_
    refine t_icmp_eq (tgt := 1476) hx hb dL_law_1471 (by decide) (by omega) (by omega) (fun c_9 => ?_) (fun c_9 => ?_)
    · skip
      refine lv_iload hx hb dL_law_1476 (lv_at hl 1 rfl) ?_
      refine t_if_ne (tgt := 1500) hx hb dL_law_1478 (by decide) (by omega) (fun c_10 => ?_) (fun c_10 => ?_)
      · skip
        refine lv_goto (tgt := 2260) hx hb dL_law_1500 (by decide) ?_
        refine W.widen (k := cells + 10) (n := slots + 100) (by omega) (by omega) ?_
        exact kont σ G3 _ f f2 H locs ls ⟨hI, hY.ad (fun _ _ => rfl) (fun k hk => hf3 k (by omega)), hM3, (hf3 114 (by omega)).trans hO, (hf3 115 (by omega)).trans hO2⟩ hP hS (lv_sub hl [2, 3, 4, 5, 6, 7] rfl)
      · exfalso; omega
    · exfalso; omega

set_option maxHeartbeats 4000000 in
set_option maxRecDepth 100000 in
theorem lc_drain {p : Program} {l : Launch} {e : Env} {s : State} {m : MethodId} {below : List Frame} {meth : Method} {c : Code} {b L : Nat} {xs : Nat → Int32} {D : va_G} {cT : Nat → ClassId} {ad : Nat → Nat} {A : Nat → Prop} {Q : State → Prop} {i cells slots : Nat} {H : Heap} {locs : List Loc} {ls : Array Slot} {σ : TY} {G : Nat → va_E} {th : Nat} {f : Nat → Int64} {f2 : Nat → UInt64} (hX9 : LX p l s m meth c b L xs D cT ad A) (hi : i + 8 ≤ L) (hc : cells + 10 ≤ 603072) (hs : slots + 100 ≤ 7227498) (hst : LSt cT ad G σ th f f2) (hP : va_P D vwCl (gw 116 ad G) H) (hS : va_S A s.heap H locs) (hl : lv_has ls 9 (LVL b ad i)) (kont : LK p l e s m below meth c b D cT ad A Q i (cells + 10) (slots + 100) 2260) : W p l e room_1 s m #[Value.ref b] below meth c H locs cells slots Q (F0 m 1503 ls []) := by
  obtain ⟨hx, hb, hml, hown, hw, hX, hbl, hbA, hK, hE, hA, hD, hN, hl9, hL⟩ := hX9
  obtain ⟨hI, hY, hM, hO, hO2⟩ := hst
  refine lv_aload_n hx hb dL_law_1503 rfl (lv_at hl 1 rfl) ?_
  refine lv_aload_n hx hb dL_law_1504 rfl (lv_at hl 0 rfl) ?_
  refine lv_iload hx hb dL_law_1505 (lv_at hl 5 rfl) ?_
  refine lv_iconst (v := nI 1) hx hb dL_law_1507 (by decide) ?_
  refine lv_iadd hx hb dL_law_1508 ?_
  refine t_eqi (nI (i + 1)) (nI_add i 1) ?_
  refine g_sld hx hb hX hbl hbA hS (j := i + 1) (by omega) (by omega) dL_law_1509 ?_
  refine lv_aload_n hx hb dL_law_1510 rfl (lv_at hl 0 rfl) ?_
  refine lv_iload hx hb dL_law_1511 (lv_at hl 5 rfl) ?_
  refine lv_iconst (v := nI 2) hx hb dL_law_1513 (by decide) ?_
  refine lv_iadd hx hb dL_law_1514 ?_
  refine t_eqi (nI (i + 2)) (nI_add i 2) ?_
  refine g_sld hx hb hX hbl hbA hS (j := i + 2) (by omega) (by omega) dL_law_1515 ?_
  refine lv_aload_n hx hb dL_law_1516 rfl (lv_at hl 3 rfl) ?_
  refine g_callSH (As := [.ref (ad 0), .int (xs (i + 1)), .int (xs (i + 2)), .ref (ad 114)]) (rest := []) ⟨hx, hb, hml, hown, hw⟩ (mL_drain l hl9 D cT 116 ad A hD G (Nat.le_refl _) σ hY hI f hO (xs (i + 1)) (xs (i + 2))) (vx_cwSW 4 hw (gWSB wm_L_183 wst_L_drain wini_L wcw_L_drain) rfl rfl rfl (by decide +kernel) ⟨Nat.le_of_ble_eq_true rfl, Nat.le_of_ble_eq_true rfl⟩) hK hE hA hP hS rfl hl.1 (lv_room (Nat.le_of_ble_eq_true rfl)) dL_law_1517 ⟨by show cells + 0 + 3 ≤ 603072; omega, by show slots + 0 + 18 ≤ 7227498; omega⟩ (fun v G1 H locs hp hP hS => ?_)
  rcases hp with ⟨y8, G2, hcl, hO1, hfo, rfl⟩ | ⟨E, hpx, rfl, hg1⟩
  · skip
    rcases hcl with ⟨⟨b9, i9, hb9, hx1, hi9, hy1, hk9, hv, hY2⟩, hfr⟩
    have hfe : ∀ j, 69 ≤ j → G2 j = G j := hfr
    have hM1 : MW cT ad G1 σ th := hM.keep (fun j h1 h2 => (hfo j (by omega)).trans (hfe j (by omega)))
    have hY1 := hY2.ad (ad2 := ad) (G2 := G1) (fun _ _ => rfl) (fun k hk => hfo k (by omega))
    obtain rfl := Value.int.inj (Option.some.inj hv)
    refine lv_istore (lv' := [(6, .int (nI 0)), (0, .ref b), (1, .ref (ad 0)), (2, .ref (ad 69)), (3, .ref (ad 114)), (4, .ref (ad 115)), (5, .int (nI i))]) hx hb dL_law_1520 hl (by decide) rfl (fun ls hl => ?_)
    refine lv_aload_n hx hb dL_law_1522 rfl (lv_at hl 3 rfl) ?_
    refine lv_aload_n hx hb dL_law_1523 rfl (lv_at hl 1 rfl) ?_
    refine lv_iload hx hb dL_law_1524 (lv_at hl 6 rfl) ?_
    refine lv_iconst (v := nI 1) hx hb dL_law_1526 (by decide) ?_
    refine lv_iadd hx hb dL_law_1527 ?_
    refine t_eqi (nI (i + 1)) (nI_add i 1) ?_
    refine g_sld hx hb hX hbl hbA hS (j := i + 1) (by omega) (by omega) dL_law_1528 ?_
    refine t_eqi (nI b9) hx1 ?_
    refine lv_aload_n hx hb dL_law_1529 rfl (lv_at hl 1 rfl) ?_
    refine lv_iload hx hb dL_law_1530 (lv_at hl 6 rfl) ?_
    refine lv_iconst (v := nI 2) hx hb dL_law_1532 (by decide) ?_
    refine lv_iadd hx hb dL_law_1533 ?_
    refine t_eqi (nI (i + 2)) (nI_add i 2) ?_
    refine g_sld hx hb hX hbl hbA hS (j := i + 2) (by omega) (by omega) dL_law_1534 ?_
    refine t_eqi (nI i9) hy1 ?_
    refine g_callV (As := [.int (nI b9), .int (nI i9)]) (rest := []) ⟨hx, hb, hml, hown, hw⟩ (mX3_drain_ok l D cT 116 ad A hD G1 (by omega) σ hI th hM1 b9 i9 hb9 hi9 hk9) (cwV 2 hw (gWV wm_L_185 wi_X3_drain wse_X3_drain wini_X3 wc_X3_drain) rfl rfl rfl (by decide +kernel) ⟨Nat.le_of_ble_eq_true rfl, Nat.le_of_ble_eq_true rfl⟩) hK hE hA hP hS (k := 69) (by omega) (MW.th hM1) rfl rfl hl.1 (lv_room (Nat.le_of_ble_eq_true rfl)) dL_law_1535 ⟨by show cells + 0 + 3 + 0 ≤ 603072; omega, by show slots + 0 + 18 + 0 ≤ 7227498; omega⟩ (fun v G3 H locs hp3 hP hS => ?_)
    obtain ⟨⟨rfl, hM3⟩, hf3⟩ := hp3
    refine lv_istore (lv' := [(7, .int (nI (min 48 ((σ.2 b9).2.2.2.2.2 i9)))), (6, .int (nI 0)), (0, .ref b), (1, .ref (ad 0)), (2, .ref (ad 69)), (3, .ref (ad 114)), (4, .ref (ad 115)), (5, .int (nI i))]) hx hb dL_law_1538 hl (by decide) rfl (fun ls hl => ?_)
    refine lv_aload_n hx hb dL_law_1540 rfl (lv_at hl 4 rfl) ?_
    refine g_callV (As := []) (rest := []) ⟨hx, hb, hml, hown, hw⟩ (mX3_thrown l D cT 116 ad A hD G3 (by omega) 0 (MW.th hM3)) (cwV 0 hw (gWV wm_L_126 wi_X3_thrown wse_X3_thrown wini_X3 wc_X3_thrown) rfl rfl rfl (by decide +kernel) ⟨Nat.le_of_ble_eq_true rfl, Nat.le_of_ble_eq_true rfl⟩) hK hE hA hP hS (k := 69) (by omega) (MW.th hM3) rfl rfl hl.1 (lv_room (Nat.le_of_ble_eq_true rfl)) dL_law_1541 ⟨by show cells + 0 + 3 + 0 + 0 ≤ 603072; omega, by show slots + 0 + 18 + 0 + 0 ≤ 7227498; omega⟩ (fun v G4 H locs hp hP hS => ?_)
    obtain ⟨hv, hg⟩ := hp
    subst hv
    rw [hg] at hP
    refine lv_iload hx hb dL_law_1544 (lv_at hl 1 rfl) ?_
    refine t_icmp_eq (tgt := 1551) hx hb dL_law_1546 (by decide) (by omega) (by omega) (fun c_1 => ?_) (fun c_1 => absurd c_1 (by omega))
    refine lv_iload hx hb dL_law_1551 (lv_at hl 1 rfl) ?_
    refine t_if_ne (tgt := 1568) hx hb dL_law_1553 (by decide) (by omega) (fun c_2 => absurd c_2 (by omega)) (fun c_2 => ?_)
    refine lv_aload_n hx hb dL_law_1556 rfl (lv_at hl 5 rfl) ?_
    refine lv_iconst (v := nI 0) hx hb dL_law_1557 (by decide) ?_
    refine g_lald hx hb hK hP (i := 114) (by omega) ((hf3 _ (by omega)).trans hO1) (by omega) (by omega) dL_law_1558 ?_
    refine t_eql ((nI (min 48 ((σ.2 b9).2.2.2.2.2 i9))).toInt64) (va_up_self _ _ _) ?_
    refine lv_iload hx hb dL_law_1559 (lv_at hl 0 rfl) ?_
    refine lv_i2l hx hb dL_law_1561 rfl ?_
    refine W.lcmp hx hb dL_law_1562 ?_
    refine t_eqi (nI 0) (lgc_eq rfl) ?_
    refine t_if_eq (tgt := 1568) hx hb dL_law_1563 (by decide) (by omega) (fun c_3 => ?_) (fun c_3 => absurd c_3 (by omega))
    refine lv_goto (tgt := 2260) hx hb dL_law_1568 (by decide) ?_
    refine W.widen (k := cells + 10) (n := slots + 100) (by omega) (by omega) ?_
    exact kont _ G3 0 _ _ H locs ls ⟨hI.bench (BIt_give (hI.2 b9 hb9) hi9 hk9 (Nat.min_le_right _ _)), hY1.ad (fun _ _ => rfl) (fun k hk => hf3 k (by omega)), hM3, (hf3 114 (by omega)).trans hO1, (hf3 115 (by omega)).trans ((hfo 115 (by omega)).trans ((hfe 115 (by omega)).trans hO2))⟩ hP hS (lv_sub hl [2, 3, 4, 5, 6, 7] rfl)
  · skip
    rw [hg1] at hP
    have hcd1 := cd_pos [xIO, xIS] E
    have hcd3 := cd_le [xIO, xIS] E
    have hcd4 : ([xIO, xIS] : List String).length ≤ 3 := by decide
    have hcd2 : cd [xIO, xIS] E < 65536 := by omega
    refine lv_istore (lv' := [(6, .int (nI (cd [xIO, xIS] E))), (0, .ref b), (1, .ref (ad 0)), (2, .ref (ad 69)), (3, .ref (ad 114)), (4, .ref (ad 115)), (5, .int (nI i))]) hx hb dL_law_1520 hl (by decide) rfl (fun ls hl => ?_)
    refine lv_aload_n hx hb dL_law_1522 rfl (lv_at hl 3 rfl) ?_
    refine lv_aload_n hx hb dL_law_1523 rfl (lv_at hl 1 rfl) ?_
    refine lv_iload hx hb dL_law_1524 (lv_at hl 6 rfl) ?_
    refine lv_iconst (v := nI 1) hx hb dL_law_1526 (by decide) ?_
    refine lv_iadd hx hb dL_law_1527 ?_
    refine t_eqi (nI (i + 1)) (nI_add i 1) ?_
    refine g_sld hx hb hX hbl hbA hS (j := i + 1) (by omega) (by omega) dL_law_1528 ?_
    refine lv_aload_n hx hb dL_law_1529 rfl (lv_at hl 1 rfl) ?_
    refine lv_iload hx hb dL_law_1530 (lv_at hl 6 rfl) ?_
    refine lv_iconst (v := nI 2) hx hb dL_law_1532 (by decide) ?_
    refine lv_iadd hx hb dL_law_1533 ?_
    refine t_eqi (nI (i + 2)) (nI_add i 2) ?_
    refine g_sld hx hb hX hbl hbA hS (j := i + 2) (by omega) (by omega) dL_law_1534 ?_
    refine g_callV (As := [.int (xs (i + 1)), .int (xs (i + 2))]) (rest := []) ⟨hx, hb, hml, hown, hw⟩ (mX3_drain_no l D cT 116 ad A hD G (by omega) σ hI th hM (xs (i + 1)) (xs (i + 2)) E hpx) (cwV 2 hw (gWV wm_L_185 wi_X3_drain wse_X3_drain wini_X3 wc_X3_drain) rfl rfl rfl (by decide +kernel) ⟨Nat.le_of_ble_eq_true rfl, Nat.le_of_ble_eq_true rfl⟩) hK hE hA hP hS (k := 69) (by omega) (MW.th hM) rfl rfl hl.1 (lv_room (Nat.le_of_ble_eq_true rfl)) dL_law_1535 ⟨by show cells + 0 + 3 + 0 ≤ 603072; omega, by show slots + 0 + 18 + 0 ≤ 7227498; omega⟩ (fun v G3 H locs hp3 hP hS => ?_)
    obtain ⟨⟨⟨z9, rfl⟩, hM3⟩, hf3⟩ := hp3
    refine lv_istore (lv' := [(7, .int z9), (6, .int (nI (cd [xIO, xIS] E))), (0, .ref b), (1, .ref (ad 0)), (2, .ref (ad 69)), (3, .ref (ad 114)), (4, .ref (ad 115)), (5, .int (nI i))]) hx hb dL_law_1538 hl (by decide) rfl (fun ls hl => ?_)
    refine lv_aload_n hx hb dL_law_1540 rfl (lv_at hl 4 rfl) ?_
    refine g_callV (As := []) (rest := []) ⟨hx, hb, hml, hown, hw⟩ (mX3_thrown l D cT 116 ad A hD G3 (by omega) (cd [xIO, xIS] E) (MW.th hM3)) (cwV 0 hw (gWV wm_L_126 wi_X3_thrown wse_X3_thrown wini_X3 wc_X3_thrown) rfl rfl rfl (by decide +kernel) ⟨Nat.le_of_ble_eq_true rfl, Nat.le_of_ble_eq_true rfl⟩) hK hE hA hP hS (k := 69) (by omega) (MW.th hM3) rfl rfl hl.1 (lv_room (Nat.le_of_ble_eq_true rfl)) dL_law_1541 ⟨by show cells + 0 + 3 + 0 + 0 ≤ 603072; omega, by show slots + 0 + 18 + 0 + 0 ≤ 7227498; omega⟩ (fun v G4 H locs hp hP hS => ?_)
    obtain ⟨hv, hg⟩ := hp
    subst hv
    rw [hg] at hP
    refine lv_iload hx hb dL_law_1544 (lv_at hl 1 rfl) ?_
    refine t_icmp_eq (tgt := 1551) hx hb dL_law_1546 (by decide) (by omega) (by omega) (fun c_4 => ?_) (fun c_4 => ?_)
    · skip
      refine lv_iload hx hb dL_law_1551 (lv_at hl 1 rfl) ?_
      refine t_if_ne (tgt := 1568) hx hb dL_law_1553 (by decide) (by omega) (fun c_5 => ?_) (fun c_5 => ?_)
      · skip
        refine lv_goto (tgt := 2260) hx hb dL_law_1568 (by decide) ?_
        refine W.widen (k := cells + 10) (n := slots + 100) (by omega) (by omega) ?_
        exact kont σ G3 _ f f2 H locs ls ⟨hI, hY.ad (fun _ _ => rfl) (fun k hk => hf3 k (by omega)), hM3, (hf3 114 (by omega)).trans hO, (hf3 115 (by omega)).trans hO2⟩ hP hS (lv_sub hl [2, 3, 4, 5, 6, 7] rfl)
      · exfalso; omega
    · exfalso; omega

set_option maxHeartbeats 4000000 in
set_option maxRecDepth 100000 in
theorem lc_iterate {p : Program} {l : Launch} {e : Env} {s : State} {m : MethodId} {below : List Frame} {meth : Method} {c : Code} {b L : Nat} {xs : Nat → Int32} {D : va_G} {cT : Nat → ClassId} {ad : Nat → Nat} {A : Nat → Prop} {Q : State → Prop} {i cells slots : Nat} {H : Heap} {locs : List Loc} {ls : Array Slot} {σ : TY} {G : Nat → va_E} {th : Nat} {f : Nat → Int64} {f2 : Nat → UInt64} (hX9 : LX p l s m meth c b L xs D cT ad A) (hi : i + 8 ≤ L) (hc : cells + 10 ≤ 603072) (hs : slots + 100 ≤ 7227498) (hst : LSt cT ad G σ th f f2) (hP : va_P D vwCl (gw 116 ad G) H) (hS : va_S A s.heap H locs) (hl : lv_has ls 9 (LVL b ad i)) (kont : LK p l e s m below meth c b D cT ad A Q i (cells + 10) (slots + 100) 2260) : W p l e room_1 s m #[Value.ref b] below meth c H locs cells slots Q (F0 m 1571 ls []) := by
  obtain ⟨hx, hb, hml, hown, hw, hX, hbl, hbA, hK, hE, hA, hD, hN, hl9, hL⟩ := hX9
  obtain ⟨hI, hY, hM, hO, hO2⟩ := hst
  refine lv_aload_n hx hb dL_law_1571 rfl (lv_at hl 1 rfl) ?_
  refine lv_aload_n hx hb dL_law_1572 rfl (lv_at hl 0 rfl) ?_
  refine lv_iload hx hb dL_law_1573 (lv_at hl 5 rfl) ?_
  refine lv_iconst (v := nI 1) hx hb dL_law_1575 (by decide) ?_
  refine lv_iadd hx hb dL_law_1576 ?_
  refine t_eqi (nI (i + 1)) (nI_add i 1) ?_
  refine g_sld hx hb hX hbl hbA hS (j := i + 1) (by omega) (by omega) dL_law_1577 ?_
  refine lv_aload_n hx hb dL_law_1578 rfl (lv_at hl 0 rfl) ?_
  refine lv_iload hx hb dL_law_1579 (lv_at hl 5 rfl) ?_
  refine lv_iconst (v := nI 2) hx hb dL_law_1581 (by decide) ?_
  refine lv_iadd hx hb dL_law_1582 ?_
  refine t_eqi (nI (i + 2)) (nI_add i 2) ?_
  refine g_sld hx hb hX hbl hbA hS (j := i + 2) (by omega) (by omega) dL_law_1583 ?_
  refine lv_aload_n hx hb dL_law_1584 rfl (lv_at hl 3 rfl) ?_
  refine g_callSH (As := [.ref (ad 0), .int (xs (i + 1)), .int (xs (i + 2)), .ref (ad 114)]) (rest := []) ⟨hx, hb, hml, hown, hw⟩ (mL_iterate l hl9 D cT 116 ad A hD G (Nat.le_refl _) σ hY hI f hO (xs (i + 1)) (xs (i + 2))) (vx_cwSW 4 hw (gWSB wm_L_186 wst_L_iterate wini_L wcw_L_iterate) rfl rfl rfl (by decide +kernel) ⟨Nat.le_of_ble_eq_true rfl, Nat.le_of_ble_eq_true rfl⟩) hK hE hA hP hS rfl hl.1 (lv_room (Nat.le_of_ble_eq_true rfl)) dL_law_1585 ⟨by show cells + 0 + 4 ≤ 603072; omega, by show slots + 0 + 24 ≤ 7227498; omega⟩ (fun v G1 H locs hp hP hS => ?_)
  rcases hp with ⟨y8, G2, hcl, hO1, hfo, rfl⟩ | ⟨E, hpx, rfl, hg1⟩
  · skip
    rcases hcl with ⟨⟨b9, i9, hb9, hx1, hi9, hy1, hk9, hbz, hv, hY2⟩, hfr⟩
    have hfe : ∀ j, 69 ≤ j → G2 j = G j := hfr
    have hM1 : MW cT ad G1 σ th := hM.keep (fun j h1 h2 => (hfo j (by omega)).trans (hfe j (by omega)))
    have hY1 := hY2.ad (ad2 := ad) (G2 := G1) (fun _ _ => rfl) (fun k hk => hfo k (by omega))
    obtain rfl := Value.int.inj (Option.some.inj hv)
    refine lv_istore (lv' := [(6, .int (nI 0)), (0, .ref b), (1, .ref (ad 0)), (2, .ref (ad 69)), (3, .ref (ad 114)), (4, .ref (ad 115)), (5, .int (nI i))]) hx hb dL_law_1588 hl (by decide) rfl (fun ls hl => ?_)
    refine lv_aload_n hx hb dL_law_1590 rfl (lv_at hl 3 rfl) ?_
    refine lv_aload_n hx hb dL_law_1591 rfl (lv_at hl 1 rfl) ?_
    refine lv_iload hx hb dL_law_1592 (lv_at hl 6 rfl) ?_
    refine lv_iconst (v := nI 1) hx hb dL_law_1594 (by decide) ?_
    refine lv_iadd hx hb dL_law_1595 ?_
    refine t_eqi (nI (i + 1)) (nI_add i 1) ?_
    refine g_sld hx hb hX hbl hbA hS (j := i + 1) (by omega) (by omega) dL_law_1596 ?_
    refine t_eqi (nI b9) hx1 ?_
    refine lv_aload_n hx hb dL_law_1597 rfl (lv_at hl 1 rfl) ?_
    refine lv_iload hx hb dL_law_1598 (lv_at hl 6 rfl) ?_
    refine lv_iconst (v := nI 2) hx hb dL_law_1600 (by decide) ?_
    refine lv_iadd hx hb dL_law_1601 ?_
    refine t_eqi (nI (i + 2)) (nI_add i 2) ?_
    refine g_sld hx hb hX hbl hbA hS (j := i + 2) (by omega) (by omega) dL_law_1602 ?_
    refine t_eqi (nI i9) hy1 ?_
    refine g_callV (As := [.int (nI b9), .int (nI i9)]) (rest := []) ⟨hx, hb, hml, hown, hw⟩ (mX3_iterate_ok l D cT 116 ad A hD G1 (by omega) σ hI th hM1 b9 i9 hb9 hi9 hk9 hbz) (cwV 2 hw (gWV wm_L_188 wi_X3_iterate wse_X3_iterate wini_X3 wc_X3_iterate) rfl rfl rfl (by decide +kernel) ⟨Nat.le_of_ble_eq_true rfl, Nat.le_of_ble_eq_true rfl⟩) hK hE hA hP hS (k := 69) (by omega) (MW.th hM1) rfl rfl hl.1 (lv_room (Nat.le_of_ble_eq_true rfl)) dL_law_1603 ⟨by show cells + 0 + 4 + 0 ≤ 603072; omega, by show slots + 0 + 24 + 0 ≤ 7227498; omega⟩ (fun v G3 H locs hp3 hP hS => ?_)
    obtain ⟨⟨rfl, hM3⟩, hf3⟩ := hp3
    refine lv_istore (lv' := [(7, .int (nI ((σ.2 b9).2.2.2.2.2 i9))), (6, .int (nI 0)), (0, .ref b), (1, .ref (ad 0)), (2, .ref (ad 69)), (3, .ref (ad 114)), (4, .ref (ad 115)), (5, .int (nI i))]) hx hb dL_law_1606 hl (by decide) rfl (fun ls hl => ?_)
    refine lv_aload_n hx hb dL_law_1608 rfl (lv_at hl 4 rfl) ?_
    refine g_callV (As := []) (rest := []) ⟨hx, hb, hml, hown, hw⟩ (mX3_thrown l D cT 116 ad A hD G3 (by omega) 0 (MW.th hM3)) (cwV 0 hw (gWV wm_L_126 wi_X3_thrown wse_X3_thrown wini_X3 wc_X3_thrown) rfl rfl rfl (by decide +kernel) ⟨Nat.le_of_ble_eq_true rfl, Nat.le_of_ble_eq_true rfl⟩) hK hE hA hP hS (k := 69) (by omega) (MW.th hM3) rfl rfl hl.1 (lv_room (Nat.le_of_ble_eq_true rfl)) dL_law_1609 ⟨by show cells + 0 + 4 + 0 + 0 ≤ 603072; omega, by show slots + 0 + 24 + 0 + 0 ≤ 7227498; omega⟩ (fun v G4 H locs hp hP hS => ?_)
    obtain ⟨hv, hg⟩ := hp
    subst hv
    rw [hg] at hP
    refine lv_iload hx hb dL_law_1612 (lv_at hl 1 rfl) ?_
    refine t_icmp_eq (tgt := 1619) hx hb dL_law_1614 (by decide) (by omega) (by omega) (fun c_1 => ?_) (fun c_1 => absurd c_1 (by omega))
    refine lv_iload hx hb dL_law_1619 (lv_at hl 1 rfl) ?_
    refine t_if_ne (tgt := 1636) hx hb dL_law_1621 (by decide) (by omega) (fun c_2 => absurd c_2 (by omega)) (fun c_2 => ?_)
    refine lv_aload_n hx hb dL_law_1624 rfl (lv_at hl 5 rfl) ?_
    refine lv_iconst (v := nI 0) hx hb dL_law_1625 (by decide) ?_
    refine g_lald hx hb hK hP (i := 114) (by omega) ((hf3 _ (by omega)).trans hO1) (by omega) (by omega) dL_law_1626 ?_
    refine t_eql ((nI ((σ.2 b9).2.2.2.2.2 i9)).toInt64) (va_up_self _ _ _) ?_
    refine lv_iload hx hb dL_law_1627 (lv_at hl 0 rfl) ?_
    refine lv_i2l hx hb dL_law_1629 rfl ?_
    refine W.lcmp hx hb dL_law_1630 ?_
    refine t_eqi (nI 0) (lgc_eq rfl) ?_
    refine t_if_eq (tgt := 1636) hx hb dL_law_1631 (by decide) (by omega) (fun c_3 => ?_) (fun c_3 => absurd c_3 (by omega))
    refine lv_goto (tgt := 2260) hx hb dL_law_1636 (by decide) ?_
    refine W.widen (k := cells + 10) (n := slots + 100) (by omega) (by omega) ?_
    exact kont _ G3 0 _ _ H locs ls ⟨hI.bench (BIt_iter (hI.2 b9 hb9) hk9), hY1.ad (fun _ _ => rfl) (fun k hk => hf3 k (by omega)), hM3, (hf3 114 (by omega)).trans hO1, (hf3 115 (by omega)).trans ((hfo 115 (by omega)).trans ((hfe 115 (by omega)).trans hO2))⟩ hP hS (lv_sub hl [2, 3, 4, 5, 6, 7] rfl)
  · skip
    rw [hg1] at hP
    have hcd1 := cd_pos [xIO, xIS, xUO] E
    have hcd3 := cd_le [xIO, xIS, xUO] E
    have hcd4 : ([xIO, xIS, xUO] : List String).length ≤ 3 := by decide
    have hcd2 : cd [xIO, xIS, xUO] E < 65536 := by omega
    refine lv_istore (lv' := [(6, .int (nI (cd [xIO, xIS, xUO] E))), (0, .ref b), (1, .ref (ad 0)), (2, .ref (ad 69)), (3, .ref (ad 114)), (4, .ref (ad 115)), (5, .int (nI i))]) hx hb dL_law_1588 hl (by decide) rfl (fun ls hl => ?_)
    refine lv_aload_n hx hb dL_law_1590 rfl (lv_at hl 3 rfl) ?_
    refine lv_aload_n hx hb dL_law_1591 rfl (lv_at hl 1 rfl) ?_
    refine lv_iload hx hb dL_law_1592 (lv_at hl 6 rfl) ?_
    refine lv_iconst (v := nI 1) hx hb dL_law_1594 (by decide) ?_
    refine lv_iadd hx hb dL_law_1595 ?_
    refine t_eqi (nI (i + 1)) (nI_add i 1) ?_
    refine g_sld hx hb hX hbl hbA hS (j := i + 1) (by omega) (by omega) dL_law_1596 ?_
    refine lv_aload_n hx hb dL_law_1597 rfl (lv_at hl 1 rfl) ?_
    refine lv_iload hx hb dL_law_1598 (lv_at hl 6 rfl) ?_
    refine lv_iconst (v := nI 2) hx hb dL_law_1600 (by decide) ?_
    refine lv_iadd hx hb dL_law_1601 ?_
    refine t_eqi (nI (i + 2)) (nI_add i 2) ?_
    refine g_sld hx hb hX hbl hbA hS (j := i + 2) (by omega) (by omega) dL_law_1602 ?_
    refine g_callV (As := [.int (xs (i + 1)), .int (xs (i + 2))]) (rest := []) ⟨hx, hb, hml, hown, hw⟩ (mX3_iterate_no l D cT 116 ad A hD G (by omega) σ hI th hM (xs (i + 1)) (xs (i + 2)) E hpx) (cwV 2 hw (gWV wm_L_188 wi_X3_iterate wse_X3_iterate wini_X3 wc_X3_iterate) rfl rfl rfl (by decide +kernel) ⟨Nat.le_of_ble_eq_true rfl, Nat.le_of_ble_eq_true rfl⟩) hK hE hA hP hS (k := 69) (by omega) (MW.th hM) rfl rfl hl.1 (lv_room (Nat.le_of_ble_eq_true rfl)) dL_law_1603 ⟨by show cells + 0 + 4 + 0 ≤ 603072; omega, by show slots + 0 + 24 + 0 ≤ 7227498; omega⟩ (fun v G3 H locs hp3 hP hS => ?_)
    obtain ⟨⟨⟨z9, rfl⟩, hM3⟩, hf3⟩ := hp3
    refine lv_istore (lv' := [(7, .int z9), (6, .int (nI (cd [xIO, xIS, xUO] E))), (0, .ref b), (1, .ref (ad 0)), (2, .ref (ad 69)), (3, .ref (ad 114)), (4, .ref (ad 115)), (5, .int (nI i))]) hx hb dL_law_1606 hl (by decide) rfl (fun ls hl => ?_)
    refine lv_aload_n hx hb dL_law_1608 rfl (lv_at hl 4 rfl) ?_
    refine g_callV (As := []) (rest := []) ⟨hx, hb, hml, hown, hw⟩ (mX3_thrown l D cT 116 ad A hD G3 (by omega) (cd [xIO, xIS, xUO] E) (MW.th hM3)) (cwV 0 hw (gWV wm_L_126 wi_X3_thrown wse_X3_thrown wini_X3 wc_X3_thrown) rfl rfl rfl (by decide +kernel) ⟨Nat.le_of_ble_eq_true rfl, Nat.le_of_ble_eq_true rfl⟩) hK hE hA hP hS (k := 69) (by omega) (MW.th hM3) rfl rfl hl.1 (lv_room (Nat.le_of_ble_eq_true rfl)) dL_law_1609 ⟨by show cells + 0 + 4 + 0 + 0 ≤ 603072; omega, by show slots + 0 + 24 + 0 + 0 ≤ 7227498; omega⟩ (fun v G4 H locs hp hP hS => ?_)
    obtain ⟨hv, hg⟩ := hp
    subst hv
    rw [hg] at hP
    refine lv_iload hx hb dL_law_1612 (lv_at hl 1 rfl) ?_
    refine t_icmp_eq (tgt := 1619) hx hb dL_law_1614 (by decide) (by omega) (by omega) (fun c_4 => ?_) (fun c_4 => ?_)
    · skip
      refine lv_iload hx hb dL_law_1619 (lv_at hl 1 rfl) ?_
      refine t_if_ne (tgt := 1636) hx hb dL_law_1621 (by decide) (by omega) (fun c_5 => ?_) (fun c_5 => ?_)
      · skip
        refine lv_goto (tgt := 2260) hx hb dL_law_1636 (by decide) ?_
        refine W.widen (k := cells + 10) (n := slots + 100) (by omega) (by omega) ?_
        exact kont σ G3 _ f f2 H locs ls ⟨hI, hY.ad (fun _ _ => rfl) (fun k hk => hf3 k (by omega)), hM3, (hf3 114 (by omega)).trans hO, (hf3 115 (by omega)).trans hO2⟩ hP hS (lv_sub hl [2, 3, 4, 5, 6, 7] rfl)
      · exfalso; omega
    · exfalso; omega

set_option maxHeartbeats 4000000 in
set_option maxRecDepth 100000 in
theorem lc_hasNext {p : Program} {l : Launch} {e : Env} {s : State} {m : MethodId} {below : List Frame} {meth : Method} {c : Code} {b L : Nat} {xs : Nat → Int32} {D : va_G} {cT : Nat → ClassId} {ad : Nat → Nat} {A : Nat → Prop} {Q : State → Prop} {i cells slots : Nat} {H : Heap} {locs : List Loc} {ls : Array Slot} {σ : TY} {G : Nat → va_E} {th : Nat} {f : Nat → Int64} {f2 : Nat → UInt64} (hX9 : LX p l s m meth c b L xs D cT ad A) (hi : i + 8 ≤ L) (hc : cells + 10 ≤ 603072) (hs : slots + 100 ≤ 7227498) (hst : LSt cT ad G σ th f f2) (hP : va_P D vwCl (gw 116 ad G) H) (hS : va_S A s.heap H locs) (hl : lv_has ls 9 (LVL b ad i)) (kont : LK p l e s m below meth c b D cT ad A Q i (cells + 10) (slots + 100) 2260) : W p l e room_1 s m #[Value.ref b] below meth c H locs cells slots Q (F0 m 1639 ls []) := by
  obtain ⟨hx, hb, hml, hown, hw, hX, hbl, hbA, hK, hE, hA, hD, hN, hl9, hL⟩ := hX9
  obtain ⟨hI, hY, hM, hO, hO2⟩ := hst
  refine lv_aload_n hx hb dL_law_1639 rfl (lv_at hl 1 rfl) ?_
  refine lv_aload_n hx hb dL_law_1640 rfl (lv_at hl 0 rfl) ?_
  refine lv_iload hx hb dL_law_1641 (lv_at hl 5 rfl) ?_
  refine lv_iconst (v := nI 1) hx hb dL_law_1643 (by decide) ?_
  refine lv_iadd hx hb dL_law_1644 ?_
  refine t_eqi (nI (i + 1)) (nI_add i 1) ?_
  refine g_sld hx hb hX hbl hbA hS (j := i + 1) (by omega) (by omega) dL_law_1645 ?_
  refine lv_aload_n hx hb dL_law_1646 rfl (lv_at hl 0 rfl) ?_
  refine lv_iload hx hb dL_law_1647 (lv_at hl 5 rfl) ?_
  refine lv_iconst (v := nI 2) hx hb dL_law_1649 (by decide) ?_
  refine lv_iadd hx hb dL_law_1650 ?_
  refine t_eqi (nI (i + 2)) (nI_add i 2) ?_
  refine g_sld hx hb hX hbl hbA hS (j := i + 2) (by omega) (by omega) dL_law_1651 ?_
  refine lv_aload_n hx hb dL_law_1652 rfl (lv_at hl 3 rfl) ?_
  refine g_callSH (As := [.ref (ad 0), .int (xs (i + 1)), .int (xs (i + 2)), .ref (ad 114)]) (rest := []) ⟨hx, hb, hml, hown, hw⟩ (mL_hasNext l hl9 D cT 116 ad A hD G (Nat.le_refl _) σ hY hI f hO (xs (i + 1)) (xs (i + 2))) (vx_cwSW 4 hw (gWSB wm_L_189 wst_L_hasNext wini_L wcw_L_hasNext) rfl rfl rfl (by decide +kernel) ⟨Nat.le_of_ble_eq_true rfl, Nat.le_of_ble_eq_true rfl⟩) hK hE hA hP hS rfl hl.1 (lv_room (Nat.le_of_ble_eq_true rfl)) dL_law_1653 ⟨by show cells + 0 + 3 ≤ 603072; omega, by show slots + 0 + 18 ≤ 7227498; omega⟩ (fun v G1 H locs hp hP hS => ?_)
  rcases hp with ⟨y8, G2, hcl, hO1, hfo, rfl⟩ | ⟨E, hpx, rfl, hg1⟩
  · skip
    rcases hcl with ⟨⟨b9, i9, hb9, hx1, hi9, hy1, hk9, hv⟩, hfr⟩
    have hfe : ∀ j, 69 ≤ j → G2 j = G j := fun j _ => by rw [hfr]
    have hM1 : MW cT ad G1 σ th := hM.keep (fun j h1 h2 => (hfo j (by omega)).trans (hfe j (by omega)))
    have hY1 := hY.ad (ad2 := ad) (G2 := G1) (fun _ _ => rfl) (fun k hk => (hfo k (by omega)).trans (by rw [hfr]))
    obtain rfl := Value.int.inj (Option.some.inj hv)
    rcases Decidable.em (0 < (σ.2 b9).2.2.2.2.2 i9) with hp9 | hp9
    · skip
      refine lv_istore (lv' := [(6, .int (nI 0)), (0, .ref b), (1, .ref (ad 0)), (2, .ref (ad 69)), (3, .ref (ad 114)), (4, .ref (ad 115)), (5, .int (nI i))]) hx hb dL_law_1656 hl (by decide) rfl (fun ls hl => ?_)
      refine lv_aload_n hx hb dL_law_1658 rfl (lv_at hl 3 rfl) ?_
      refine lv_aload_n hx hb dL_law_1659 rfl (lv_at hl 1 rfl) ?_
      refine lv_iload hx hb dL_law_1660 (lv_at hl 6 rfl) ?_
      refine lv_iconst (v := nI 1) hx hb dL_law_1662 (by decide) ?_
      refine lv_iadd hx hb dL_law_1663 ?_
      refine t_eqi (nI (i + 1)) (nI_add i 1) ?_
      refine g_sld hx hb hX hbl hbA hS (j := i + 1) (by omega) (by omega) dL_law_1664 ?_
      refine t_eqi (nI b9) hx1 ?_
      refine lv_aload_n hx hb dL_law_1665 rfl (lv_at hl 1 rfl) ?_
      refine lv_iload hx hb dL_law_1666 (lv_at hl 6 rfl) ?_
      refine lv_iconst (v := nI 2) hx hb dL_law_1668 (by decide) ?_
      refine lv_iadd hx hb dL_law_1669 ?_
      refine t_eqi (nI (i + 2)) (nI_add i 2) ?_
      refine g_sld hx hb hX hbl hbA hS (j := i + 2) (by omega) (by omega) dL_law_1670 ?_
      refine t_eqi (nI i9) hy1 ?_
      refine g_callV (As := [.int (nI b9), .int (nI i9)]) (rest := []) ⟨hx, hb, hml, hown, hw⟩ (mX3_hasNext_ok l D cT 116 ad A hD G1 (by omega) σ hI th hM1 b9 i9 hb9 hi9 hk9) (cwV 2 hw (gWV wm_L_191 wi_X3_hasNext wse_X3_hasNext wini_X3 wc_X3_hasNext) rfl rfl rfl (by decide +kernel) ⟨Nat.le_of_ble_eq_true rfl, Nat.le_of_ble_eq_true rfl⟩) hK hE hA hP hS (k := 69) (by omega) (MW.th hM1) rfl rfl hl.1 (lv_room (Nat.le_of_ble_eq_true rfl)) dL_law_1671 ⟨by show cells + 0 + 3 + 0 ≤ 603072; omega, by show slots + 0 + 18 + 0 ≤ 7227498; omega⟩ (fun v G3 H locs hp3 hP hS => ?_)
      obtain ⟨⟨rfl, hM3⟩, hf3⟩ := hp3
      refine t_eqi (nI 1) (if_pos hp9) ?_
      refine lv_istore (lv' := [(7, .int (nI 1)), (6, .int (nI 0)), (0, .ref b), (1, .ref (ad 0)), (2, .ref (ad 69)), (3, .ref (ad 114)), (4, .ref (ad 115)), (5, .int (nI i))]) hx hb dL_law_1674 hl (by decide) rfl (fun ls hl => ?_)
      refine lv_aload_n hx hb dL_law_1676 rfl (lv_at hl 4 rfl) ?_
      refine g_callV (As := []) (rest := []) ⟨hx, hb, hml, hown, hw⟩ (mX3_thrown l D cT 116 ad A hD G3 (by omega) 0 (MW.th hM3)) (cwV 0 hw (gWV wm_L_126 wi_X3_thrown wse_X3_thrown wini_X3 wc_X3_thrown) rfl rfl rfl (by decide +kernel) ⟨Nat.le_of_ble_eq_true rfl, Nat.le_of_ble_eq_true rfl⟩) hK hE hA hP hS (k := 69) (by omega) (MW.th hM3) rfl rfl hl.1 (lv_room (Nat.le_of_ble_eq_true rfl)) dL_law_1677 ⟨by show cells + 0 + 3 + 0 + 0 ≤ 603072; omega, by show slots + 0 + 18 + 0 + 0 ≤ 7227498; omega⟩ (fun v G4 H locs hp hP hS => ?_)
      obtain ⟨hv, hg⟩ := hp
      subst hv
      rw [hg] at hP
      refine lv_iload hx hb dL_law_1680 (lv_at hl 1 rfl) ?_
      refine t_icmp_eq (tgt := 1687) hx hb dL_law_1682 (by decide) (by omega) (by omega) (fun c_1 => ?_) (fun c_1 => absurd c_1 (by omega))
      refine lv_iload hx hb dL_law_1687 (lv_at hl 1 rfl) ?_
      refine t_if_ne (tgt := 1711) hx hb dL_law_1689 (by decide) (by omega) (fun c_2 => absurd c_2 (by omega)) (fun c_2 => ?_)
      refine lv_aload_n hx hb dL_law_1692 rfl (lv_at hl 5 rfl) ?_
      refine lv_iconst (v := nI 0) hx hb dL_law_1693 (by decide) ?_
      refine g_lald hx hb hK hP (i := 114) (by omega) ((hf3 _ (by omega)).trans hO1) (by omega) (by omega) dL_law_1694 ?_
      refine t_eql 1 ((va_up_self _ _ _).trans (by rw [if_pos hp9]; decide)) ?_
      refine lv_iload hx hb dL_law_1695 (lv_at hl 0 rfl) ?_
      refine t_if_eq (tgt := 1704) hx hb dL_law_1697 (by decide) (by omega) (fun c_3 => absurd c_3 (by omega)) (fun c_3 => ?_)
      refine lv_lconst (v := 1) hx hb dL_law_1700 (by decide) ?_
      refine lv_goto (tgt := 1705) hx hb dL_law_1701 (by decide) ?_
      refine W.lcmp hx hb dL_law_1705 ?_
      refine t_eqi (nI 0) (lgc_eq rfl) ?_
      refine t_if_eq (tgt := 1711) hx hb dL_law_1706 (by decide) (by omega) (fun c_4 => ?_) (fun c_4 => absurd c_4 (by omega))
      refine lv_goto (tgt := 2260) hx hb dL_law_1711 (by decide) ?_
      refine W.widen (k := cells + 10) (n := slots + 100) (by omega) (by omega) ?_
      exact kont _ G3 0 _ _ H locs ls ⟨hI, hY1.ad (fun _ _ => rfl) (fun k hk => hf3 k (by omega)), hM3, (hf3 114 (by omega)).trans hO1, (hf3 115 (by omega)).trans ((hfo 115 (by omega)).trans ((hfe 115 (by omega)).trans hO2))⟩ hP hS (lv_sub hl [2, 3, 4, 5, 6, 7] rfl)
    · skip
      refine lv_istore (lv' := [(6, .int (nI 0)), (0, .ref b), (1, .ref (ad 0)), (2, .ref (ad 69)), (3, .ref (ad 114)), (4, .ref (ad 115)), (5, .int (nI i))]) hx hb dL_law_1656 hl (by decide) rfl (fun ls hl => ?_)
      refine lv_aload_n hx hb dL_law_1658 rfl (lv_at hl 3 rfl) ?_
      refine lv_aload_n hx hb dL_law_1659 rfl (lv_at hl 1 rfl) ?_
      refine lv_iload hx hb dL_law_1660 (lv_at hl 6 rfl) ?_
      refine lv_iconst (v := nI 1) hx hb dL_law_1662 (by decide) ?_
      refine lv_iadd hx hb dL_law_1663 ?_
      refine t_eqi (nI (i + 1)) (nI_add i 1) ?_
      refine g_sld hx hb hX hbl hbA hS (j := i + 1) (by omega) (by omega) dL_law_1664 ?_
      refine t_eqi (nI b9) hx1 ?_
      refine lv_aload_n hx hb dL_law_1665 rfl (lv_at hl 1 rfl) ?_
      refine lv_iload hx hb dL_law_1666 (lv_at hl 6 rfl) ?_
      refine lv_iconst (v := nI 2) hx hb dL_law_1668 (by decide) ?_
      refine lv_iadd hx hb dL_law_1669 ?_
      refine t_eqi (nI (i + 2)) (nI_add i 2) ?_
      refine g_sld hx hb hX hbl hbA hS (j := i + 2) (by omega) (by omega) dL_law_1670 ?_
      refine t_eqi (nI i9) hy1 ?_
      refine g_callV (As := [.int (nI b9), .int (nI i9)]) (rest := []) ⟨hx, hb, hml, hown, hw⟩ (mX3_hasNext_ok l D cT 116 ad A hD G1 (by omega) σ hI th hM1 b9 i9 hb9 hi9 hk9) (cwV 2 hw (gWV wm_L_191 wi_X3_hasNext wse_X3_hasNext wini_X3 wc_X3_hasNext) rfl rfl rfl (by decide +kernel) ⟨Nat.le_of_ble_eq_true rfl, Nat.le_of_ble_eq_true rfl⟩) hK hE hA hP hS (k := 69) (by omega) (MW.th hM1) rfl rfl hl.1 (lv_room (Nat.le_of_ble_eq_true rfl)) dL_law_1671 ⟨by show cells + 0 + 3 + 0 ≤ 603072; omega, by show slots + 0 + 18 + 0 ≤ 7227498; omega⟩ (fun v G3 H locs hp3 hP hS => ?_)
      obtain ⟨⟨rfl, hM3⟩, hf3⟩ := hp3
      refine t_eqi (nI 0) (if_neg hp9) ?_
      refine lv_istore (lv' := [(7, .int (nI 0)), (6, .int (nI 0)), (0, .ref b), (1, .ref (ad 0)), (2, .ref (ad 69)), (3, .ref (ad 114)), (4, .ref (ad 115)), (5, .int (nI i))]) hx hb dL_law_1674 hl (by decide) rfl (fun ls hl => ?_)
      refine lv_aload_n hx hb dL_law_1676 rfl (lv_at hl 4 rfl) ?_
      refine g_callV (As := []) (rest := []) ⟨hx, hb, hml, hown, hw⟩ (mX3_thrown l D cT 116 ad A hD G3 (by omega) 0 (MW.th hM3)) (cwV 0 hw (gWV wm_L_126 wi_X3_thrown wse_X3_thrown wini_X3 wc_X3_thrown) rfl rfl rfl (by decide +kernel) ⟨Nat.le_of_ble_eq_true rfl, Nat.le_of_ble_eq_true rfl⟩) hK hE hA hP hS (k := 69) (by omega) (MW.th hM3) rfl rfl hl.1 (lv_room (Nat.le_of_ble_eq_true rfl)) dL_law_1677 ⟨by show cells + 0 + 3 + 0 + 0 ≤ 603072; omega, by show slots + 0 + 18 + 0 + 0 ≤ 7227498; omega⟩ (fun v G4 H locs hp hP hS => ?_)
      obtain ⟨hv, hg⟩ := hp
      subst hv
      rw [hg] at hP
      refine lv_iload hx hb dL_law_1680 (lv_at hl 1 rfl) ?_
      refine t_icmp_eq (tgt := 1687) hx hb dL_law_1682 (by decide) (by omega) (by omega) (fun c_5 => ?_) (fun c_5 => absurd c_5 (by omega))
      refine lv_iload hx hb dL_law_1687 (lv_at hl 1 rfl) ?_
      refine t_if_ne (tgt := 1711) hx hb dL_law_1689 (by decide) (by omega) (fun c_6 => absurd c_6 (by omega)) (fun c_6 => ?_)
      refine lv_aload_n hx hb dL_law_1692 rfl (lv_at hl 5 rfl) ?_
      refine lv_iconst (v := nI 0) hx hb dL_law_1693 (by decide) ?_
      refine g_lald hx hb hK hP (i := 114) (by omega) ((hf3 _ (by omega)).trans hO1) (by omega) (by omega) dL_law_1694 ?_
      refine t_eql 0 ((va_up_self _ _ _).trans (by rw [if_neg hp9]; decide)) ?_
      refine lv_iload hx hb dL_law_1695 (lv_at hl 0 rfl) ?_
      refine t_if_eq (tgt := 1704) hx hb dL_law_1697 (by decide) (by omega) (fun c_7 => ?_) (fun c_7 => absurd c_7 (by omega))
      refine lv_lconst (v := 0) hx hb dL_law_1704 (by decide) ?_
      refine W.lcmp hx hb dL_law_1705 ?_
      refine t_eqi (nI 0) (lgc_eq rfl) ?_
      refine t_if_eq (tgt := 1711) hx hb dL_law_1706 (by decide) (by omega) (fun c_8 => ?_) (fun c_8 => absurd c_8 (by omega))
      refine lv_goto (tgt := 2260) hx hb dL_law_1711 (by decide) ?_
      refine W.widen (k := cells + 10) (n := slots + 100) (by omega) (by omega) ?_
      exact kont _ G3 0 _ _ H locs ls ⟨hI, hY1.ad (fun _ _ => rfl) (fun k hk => hf3 k (by omega)), hM3, (hf3 114 (by omega)).trans hO1, (hf3 115 (by omega)).trans ((hfo 115 (by omega)).trans ((hfe 115 (by omega)).trans hO2))⟩ hP hS (lv_sub hl [2, 3, 4, 5, 6, 7] rfl)
  · skip
    rw [hg1] at hP
    have hcd1 := cd_pos [xIO, xIS] E
    have hcd3 := cd_le [xIO, xIS] E
    have hcd4 : ([xIO, xIS] : List String).length ≤ 3 := by decide
    have hcd2 : cd [xIO, xIS] E < 65536 := by omega
    refine lv_istore (lv' := [(6, .int (nI (cd [xIO, xIS] E))), (0, .ref b), (1, .ref (ad 0)), (2, .ref (ad 69)), (3, .ref (ad 114)), (4, .ref (ad 115)), (5, .int (nI i))]) hx hb dL_law_1656 hl (by decide) rfl (fun ls hl => ?_)
    refine lv_aload_n hx hb dL_law_1658 rfl (lv_at hl 3 rfl) ?_
    refine lv_aload_n hx hb dL_law_1659 rfl (lv_at hl 1 rfl) ?_
    refine lv_iload hx hb dL_law_1660 (lv_at hl 6 rfl) ?_
    refine lv_iconst (v := nI 1) hx hb dL_law_1662 (by decide) ?_
    refine lv_iadd hx hb dL_law_1663 ?_
    refine t_eqi (nI (i + 1)) (nI_add i 1) ?_
    refine g_sld hx hb hX hbl hbA hS (j := i + 1) (by omega) (by omega) dL_law_1664 ?_
    refine lv_aload_n hx hb dL_law_1665 rfl (lv_at hl 1 rfl) ?_
    refine lv_iload hx hb dL_law_1666 (lv_at hl 6 rfl) ?_
    refine lv_iconst (v := nI 2) hx hb dL_law_1668 (by decide) ?_
    refine lv_iadd hx hb dL_law_1669 ?_
    refine t_eqi (nI (i + 2)) (nI_add i 2) ?_
    refine g_sld hx hb hX hbl hbA hS (j := i + 2) (by omega) (by omega) dL_law_1670 ?_
    refine g_callV (As := [.int (xs (i + 1)), .int (xs (i + 2))]) (rest := []) ⟨hx, hb, hml, hown, hw⟩ (mX3_hasNext_no l D cT 116 ad A hD G (by omega) σ hI th hM (xs (i + 1)) (xs (i + 2)) E hpx) (cwV 2 hw (gWV wm_L_191 wi_X3_hasNext wse_X3_hasNext wini_X3 wc_X3_hasNext) rfl rfl rfl (by decide +kernel) ⟨Nat.le_of_ble_eq_true rfl, Nat.le_of_ble_eq_true rfl⟩) hK hE hA hP hS (k := 69) (by omega) (MW.th hM) rfl rfl hl.1 (lv_room (Nat.le_of_ble_eq_true rfl)) dL_law_1671 ⟨by show cells + 0 + 3 + 0 ≤ 603072; omega, by show slots + 0 + 18 + 0 ≤ 7227498; omega⟩ (fun v G3 H locs hp3 hP hS => ?_)
    obtain ⟨⟨⟨z9, rfl⟩, hM3⟩, hf3⟩ := hp3
    refine lv_istore (lv' := [(7, .int z9), (6, .int (nI (cd [xIO, xIS] E))), (0, .ref b), (1, .ref (ad 0)), (2, .ref (ad 69)), (3, .ref (ad 114)), (4, .ref (ad 115)), (5, .int (nI i))]) hx hb dL_law_1674 hl (by decide) rfl (fun ls hl => ?_)
    refine lv_aload_n hx hb dL_law_1676 rfl (lv_at hl 4 rfl) ?_
    refine g_callV (As := []) (rest := []) ⟨hx, hb, hml, hown, hw⟩ (mX3_thrown l D cT 116 ad A hD G3 (by omega) (cd [xIO, xIS] E) (MW.th hM3)) (cwV 0 hw (gWV wm_L_126 wi_X3_thrown wse_X3_thrown wini_X3 wc_X3_thrown) rfl rfl rfl (by decide +kernel) ⟨Nat.le_of_ble_eq_true rfl, Nat.le_of_ble_eq_true rfl⟩) hK hE hA hP hS (k := 69) (by omega) (MW.th hM3) rfl rfl hl.1 (lv_room (Nat.le_of_ble_eq_true rfl)) dL_law_1677 ⟨by show cells + 0 + 3 + 0 + 0 ≤ 603072; omega, by show slots + 0 + 18 + 0 + 0 ≤ 7227498; omega⟩ (fun v G4 H locs hp hP hS => ?_)
    obtain ⟨hv, hg⟩ := hp
    subst hv
    rw [hg] at hP
    refine lv_iload hx hb dL_law_1680 (lv_at hl 1 rfl) ?_
    refine t_icmp_eq (tgt := 1687) hx hb dL_law_1682 (by decide) (by omega) (by omega) (fun c_9 => ?_) (fun c_9 => ?_)
    · skip
      refine lv_iload hx hb dL_law_1687 (lv_at hl 1 rfl) ?_
      refine t_if_ne (tgt := 1711) hx hb dL_law_1689 (by decide) (by omega) (fun c_10 => ?_) (fun c_10 => ?_)
      · skip
        refine lv_goto (tgt := 2260) hx hb dL_law_1711 (by decide) ?_
        refine W.widen (k := cells + 10) (n := slots + 100) (by omega) (by omega) ?_
        exact kont σ G3 _ f f2 H locs ls ⟨hI, hY.ad (fun _ _ => rfl) (fun k hk => hf3 k (by omega)), hM3, (hf3 114 (by omega)).trans hO, (hf3 115 (by omega)).trans hO2⟩ hP hS (lv_sub hl [2, 3, 4, 5, 6, 7] rfl)
      · exfalso; omega
    · exfalso; omega

set_option maxHeartbeats 4000000 in
set_option maxRecDepth 100000 in
theorem lc_crumble {p : Program} {l : Launch} {e : Env} {s : State} {m : MethodId} {below : List Frame} {meth : Method} {c : Code} {b L : Nat} {xs : Nat → Int32} {D : va_G} {cT : Nat → ClassId} {ad : Nat → Nat} {A : Nat → Prop} {Q : State → Prop} {i cells slots : Nat} {H : Heap} {locs : List Loc} {ls : Array Slot} {σ : TY} {G : Nat → va_E} {th : Nat} {f : Nat → Int64} {f2 : Nat → UInt64} (hX9 : LX p l s m meth c b L xs D cT ad A) (hi : i + 8 ≤ L) (hc : cells + 10 ≤ 603072) (hs : slots + 100 ≤ 7227498) (hst : LSt cT ad G σ th f f2) (hP : va_P D vwCl (gw 116 ad G) H) (hS : va_S A s.heap H locs) (hl : lv_has ls 9 (LVL b ad i)) (kont : LK p l e s m below meth c b D cT ad A Q i (cells + 10) (slots + 100) 2260) : W p l e room_1 s m #[Value.ref b] below meth c H locs cells slots Q (F0 m 1714 ls []) := by
  obtain ⟨hx, hb, hml, hown, hw, hX, hbl, hbA, hK, hE, hA, hD, hN, hl9, hL⟩ := hX9
  obtain ⟨hI, hY, hM, hO, hO2⟩ := hst
  refine lv_aload_n hx hb dL_law_1714 rfl (lv_at hl 1 rfl) ?_
  refine lv_aload_n hx hb dL_law_1715 rfl (lv_at hl 0 rfl) ?_
  refine lv_iload hx hb dL_law_1716 (lv_at hl 5 rfl) ?_
  refine lv_iconst (v := nI 1) hx hb dL_law_1718 (by decide) ?_
  refine lv_iadd hx hb dL_law_1719 ?_
  refine t_eqi (nI (i + 1)) (nI_add i 1) ?_
  refine g_sld hx hb hX hbl hbA hS (j := i + 1) (by omega) (by omega) dL_law_1720 ?_
  refine lv_aload_n hx hb dL_law_1721 rfl (lv_at hl 0 rfl) ?_
  refine lv_iload hx hb dL_law_1722 (lv_at hl 5 rfl) ?_
  refine lv_iconst (v := nI 2) hx hb dL_law_1724 (by decide) ?_
  refine lv_iadd hx hb dL_law_1725 ?_
  refine t_eqi (nI (i + 2)) (nI_add i 2) ?_
  refine g_sld hx hb hX hbl hbA hS (j := i + 2) (by omega) (by omega) dL_law_1726 ?_
  refine lv_aload_n hx hb dL_law_1727 rfl (lv_at hl 3 rfl) ?_
  refine g_callSH (As := [.ref (ad 0), .int (xs (i + 1)), .int (xs (i + 2)), .ref (ad 114)]) (rest := []) ⟨hx, hb, hml, hown, hw⟩ (mL_crumble l hl9 D cT 116 ad A hD G (Nat.le_refl _) σ hY hI f hO (xs (i + 1)) (xs (i + 2))) (vx_cwSW 4 hw (gWSB wm_L_192 wst_L_crumble wini_L wcw_L_crumble) rfl rfl rfl (by decide +kernel) ⟨Nat.le_of_ble_eq_true rfl, Nat.le_of_ble_eq_true rfl⟩) hK hE hA hP hS rfl hl.1 (lv_room (Nat.le_of_ble_eq_true rfl)) dL_law_1728 ⟨by show cells + 0 + 2 ≤ 603072; omega, by show slots + 0 + 12 ≤ 7227498; omega⟩ (fun v G1 H locs hp hP hS => ?_)
  rcases hp with ⟨y8, G2, hcl, hO1, hfo, rfl⟩ | ⟨E, hpx, rfl, hg1⟩
  · skip
    rcases hcl with ⟨⟨b9, hb9, hx1, mo, hmo1, hmo2, hy1, hv, hY2⟩, hfr⟩
    have hfe : ∀ j, 69 ≤ j → G2 j = G j := hfr
    have hM1 : MW cT ad G1 σ th := hM.keep (fun j h1 h2 => (hfo j (by omega)).trans (hfe j (by omega)))
    have hY1 := hY2.ad (ad2 := ad) (G2 := G1) (fun _ _ => rfl) (fun k hk => hfo k (by omega))
    obtain rfl := Value.int.inj (Option.some.inj hv)
    refine lv_istore (lv' := [(6, .int (nI 0)), (0, .ref b), (1, .ref (ad 0)), (2, .ref (ad 69)), (3, .ref (ad 114)), (4, .ref (ad 115)), (5, .int (nI i))]) hx hb dL_law_1731 hl (by decide) rfl (fun ls hl => ?_)
    refine lv_aload_n hx hb dL_law_1733 rfl (lv_at hl 3 rfl) ?_
    refine lv_aload_n hx hb dL_law_1734 rfl (lv_at hl 1 rfl) ?_
    refine lv_iload hx hb dL_law_1735 (lv_at hl 6 rfl) ?_
    refine lv_iconst (v := nI 1) hx hb dL_law_1737 (by decide) ?_
    refine lv_iadd hx hb dL_law_1738 ?_
    refine t_eqi (nI (i + 1)) (nI_add i 1) ?_
    refine g_sld hx hb hX hbl hbA hS (j := i + 1) (by omega) (by omega) dL_law_1739 ?_
    refine t_eqi (nI b9) hx1 ?_
    refine lv_aload_n hx hb dL_law_1740 rfl (lv_at hl 1 rfl) ?_
    refine lv_iload hx hb dL_law_1741 (lv_at hl 6 rfl) ?_
    refine lv_iconst (v := nI 2) hx hb dL_law_1743 (by decide) ?_
    refine lv_iadd hx hb dL_law_1744 ?_
    refine t_eqi (nI (i + 2)) (nI_add i 2) ?_
    refine g_sld hx hb hX hbl hbA hS (j := i + 2) (by omega) (by omega) dL_law_1745 ?_
    refine t_eqi (nI mo) hy1 ?_
    refine g_callV (As := [.int (nI b9), .int (nI mo)]) (rest := []) ⟨hx, hb, hml, hown, hw⟩ (mX3_crumble_ok l D cT 116 ad A hD G1 (by omega) σ hI th hM1 b9 hb9 mo hmo1 hmo2) (cwV 2 hw (gWV wm_L_194 wi_X3_crumble wse_X3_crumble wini_X3 wc_X3_crumble) rfl rfl rfl (by decide +kernel) ⟨Nat.le_of_ble_eq_true rfl, Nat.le_of_ble_eq_true rfl⟩) hK hE hA hP hS (k := 69) (by omega) (MW.th hM1) rfl rfl hl.1 (lv_room (Nat.le_of_ble_eq_true rfl)) dL_law_1746 ⟨by show cells + 0 + 2 + 0 ≤ 603072; omega, by show slots + 0 + 12 + 0 ≤ 7227498; omega⟩ (fun v G3 H locs hp3 hP hS => ?_)
    obtain ⟨⟨rfl, hM3⟩, hf3⟩ := hp3
    refine lv_istore (lv' := [(7, .int (nI ((crumB (σ.2 b9) mo).2.1 - (σ.2 b9).2.1))), (6, .int (nI 0)), (0, .ref b), (1, .ref (ad 0)), (2, .ref (ad 69)), (3, .ref (ad 114)), (4, .ref (ad 115)), (5, .int (nI i))]) hx hb dL_law_1749 hl (by decide) rfl (fun ls hl => ?_)
    refine lv_aload_n hx hb dL_law_1751 rfl (lv_at hl 4 rfl) ?_
    refine g_callV (As := []) (rest := []) ⟨hx, hb, hml, hown, hw⟩ (mX3_thrown l D cT 116 ad A hD G3 (by omega) 0 (MW.th hM3)) (cwV 0 hw (gWV wm_L_126 wi_X3_thrown wse_X3_thrown wini_X3 wc_X3_thrown) rfl rfl rfl (by decide +kernel) ⟨Nat.le_of_ble_eq_true rfl, Nat.le_of_ble_eq_true rfl⟩) hK hE hA hP hS (k := 69) (by omega) (MW.th hM3) rfl rfl hl.1 (lv_room (Nat.le_of_ble_eq_true rfl)) dL_law_1752 ⟨by show cells + 0 + 2 + 0 + 0 ≤ 603072; omega, by show slots + 0 + 12 + 0 + 0 ≤ 7227498; omega⟩ (fun v G4 H locs hp hP hS => ?_)
    obtain ⟨hv, hg⟩ := hp
    subst hv
    rw [hg] at hP
    refine lv_iload hx hb dL_law_1755 (lv_at hl 1 rfl) ?_
    refine t_icmp_eq (tgt := 1762) hx hb dL_law_1757 (by decide) (by omega) (by omega) (fun c_1 => ?_) (fun c_1 => absurd c_1 (by omega))
    refine lv_iload hx hb dL_law_1762 (lv_at hl 1 rfl) ?_
    refine t_if_ne (tgt := 1779) hx hb dL_law_1764 (by decide) (by omega) (fun c_2 => absurd c_2 (by omega)) (fun c_2 => ?_)
    refine lv_aload_n hx hb dL_law_1767 rfl (lv_at hl 5 rfl) ?_
    refine lv_iconst (v := nI 0) hx hb dL_law_1768 (by decide) ?_
    refine g_lald hx hb hK hP (i := 114) (by omega) ((hf3 _ (by omega)).trans hO1) (by omega) (by omega) dL_law_1769 ?_
    refine t_eql ((nI ((crumB (σ.2 b9) mo).2.1 - (σ.2 b9).2.1)).toInt64) (va_up_self _ _ _) ?_
    refine lv_iload hx hb dL_law_1770 (lv_at hl 0 rfl) ?_
    refine lv_i2l hx hb dL_law_1772 rfl ?_
    refine W.lcmp hx hb dL_law_1773 ?_
    refine t_eqi (nI 0) (lgc_eq rfl) ?_
    refine t_if_eq (tgt := 1779) hx hb dL_law_1774 (by decide) (by omega) (fun c_3 => ?_) (fun c_3 => absurd c_3 (by omega))
    refine lv_goto (tgt := 2260) hx hb dL_law_1779 (by decide) ?_
    refine W.widen (k := cells + 10) (n := slots + 100) (by omega) (by omega) ?_
    exact kont _ G3 0 _ _ H locs ls ⟨hI.bench (BIt_crum (hI.2 b9 hb9) (by omega)), hY1.ad (fun _ _ => rfl) (fun k hk => hf3 k (by omega)), hM3, (hf3 114 (by omega)).trans hO1, (hf3 115 (by omega)).trans ((hfo 115 (by omega)).trans ((hfe 115 (by omega)).trans hO2))⟩ hP hS (lv_sub hl [2, 3, 4, 5, 6, 7] rfl)
  · skip
    rw [hg1] at hP
    have hcd1 := cd_pos [xIO, xIA] E
    have hcd3 := cd_le [xIO, xIA] E
    have hcd4 : ([xIO, xIA] : List String).length ≤ 3 := by decide
    have hcd2 : cd [xIO, xIA] E < 65536 := by omega
    refine lv_istore (lv' := [(6, .int (nI (cd [xIO, xIA] E))), (0, .ref b), (1, .ref (ad 0)), (2, .ref (ad 69)), (3, .ref (ad 114)), (4, .ref (ad 115)), (5, .int (nI i))]) hx hb dL_law_1731 hl (by decide) rfl (fun ls hl => ?_)
    refine lv_aload_n hx hb dL_law_1733 rfl (lv_at hl 3 rfl) ?_
    refine lv_aload_n hx hb dL_law_1734 rfl (lv_at hl 1 rfl) ?_
    refine lv_iload hx hb dL_law_1735 (lv_at hl 6 rfl) ?_
    refine lv_iconst (v := nI 1) hx hb dL_law_1737 (by decide) ?_
    refine lv_iadd hx hb dL_law_1738 ?_
    refine t_eqi (nI (i + 1)) (nI_add i 1) ?_
    refine g_sld hx hb hX hbl hbA hS (j := i + 1) (by omega) (by omega) dL_law_1739 ?_
    refine lv_aload_n hx hb dL_law_1740 rfl (lv_at hl 1 rfl) ?_
    refine lv_iload hx hb dL_law_1741 (lv_at hl 6 rfl) ?_
    refine lv_iconst (v := nI 2) hx hb dL_law_1743 (by decide) ?_
    refine lv_iadd hx hb dL_law_1744 ?_
    refine t_eqi (nI (i + 2)) (nI_add i 2) ?_
    refine g_sld hx hb hX hbl hbA hS (j := i + 2) (by omega) (by omega) dL_law_1745 ?_
    refine g_callV (As := [.int (xs (i + 1)), .int (xs (i + 2))]) (rest := []) ⟨hx, hb, hml, hown, hw⟩ (mX3_crumble_no l D cT 116 ad A hD G (by omega) σ hI th hM (xs (i + 1)) (xs (i + 2)) E hpx) (cwV 2 hw (gWV wm_L_194 wi_X3_crumble wse_X3_crumble wini_X3 wc_X3_crumble) rfl rfl rfl (by decide +kernel) ⟨Nat.le_of_ble_eq_true rfl, Nat.le_of_ble_eq_true rfl⟩) hK hE hA hP hS (k := 69) (by omega) (MW.th hM) rfl rfl hl.1 (lv_room (Nat.le_of_ble_eq_true rfl)) dL_law_1746 ⟨by show cells + 0 + 2 + 0 ≤ 603072; omega, by show slots + 0 + 12 + 0 ≤ 7227498; omega⟩ (fun v G3 H locs hp3 hP hS => ?_)
    obtain ⟨⟨⟨z9, rfl⟩, hM3⟩, hf3⟩ := hp3
    refine lv_istore (lv' := [(7, .int z9), (6, .int (nI (cd [xIO, xIA] E))), (0, .ref b), (1, .ref (ad 0)), (2, .ref (ad 69)), (3, .ref (ad 114)), (4, .ref (ad 115)), (5, .int (nI i))]) hx hb dL_law_1749 hl (by decide) rfl (fun ls hl => ?_)
    refine lv_aload_n hx hb dL_law_1751 rfl (lv_at hl 4 rfl) ?_
    refine g_callV (As := []) (rest := []) ⟨hx, hb, hml, hown, hw⟩ (mX3_thrown l D cT 116 ad A hD G3 (by omega) (cd [xIO, xIA] E) (MW.th hM3)) (cwV 0 hw (gWV wm_L_126 wi_X3_thrown wse_X3_thrown wini_X3 wc_X3_thrown) rfl rfl rfl (by decide +kernel) ⟨Nat.le_of_ble_eq_true rfl, Nat.le_of_ble_eq_true rfl⟩) hK hE hA hP hS (k := 69) (by omega) (MW.th hM3) rfl rfl hl.1 (lv_room (Nat.le_of_ble_eq_true rfl)) dL_law_1752 ⟨by show cells + 0 + 2 + 0 + 0 ≤ 603072; omega, by show slots + 0 + 12 + 0 + 0 ≤ 7227498; omega⟩ (fun v G4 H locs hp hP hS => ?_)
    obtain ⟨hv, hg⟩ := hp
    subst hv
    rw [hg] at hP
    refine lv_iload hx hb dL_law_1755 (lv_at hl 1 rfl) ?_
    refine t_icmp_eq (tgt := 1762) hx hb dL_law_1757 (by decide) (by omega) (by omega) (fun c_4 => ?_) (fun c_4 => ?_)
    · skip
      refine lv_iload hx hb dL_law_1762 (lv_at hl 1 rfl) ?_
      refine t_if_ne (tgt := 1779) hx hb dL_law_1764 (by decide) (by omega) (fun c_5 => ?_) (fun c_5 => ?_)
      · skip
        refine lv_goto (tgt := 2260) hx hb dL_law_1779 (by decide) ?_
        refine W.widen (k := cells + 10) (n := slots + 100) (by omega) (by omega) ?_
        exact kont σ G3 _ f f2 H locs ls ⟨hI, hY.ad (fun _ _ => rfl) (fun k hk => hf3 k (by omega)), hM3, (hf3 114 (by omega)).trans hO, (hf3 115 (by omega)).trans hO2⟩ hP hS (lv_sub hl [2, 3, 4, 5, 6, 7] rfl)
      · exfalso; omega
    · exfalso; omega

set_option maxHeartbeats 4000000 in
set_option maxRecDepth 100000 in
theorem lc_sweep {p : Program} {l : Launch} {e : Env} {s : State} {m : MethodId} {below : List Frame} {meth : Method} {c : Code} {b L : Nat} {xs : Nat → Int32} {D : va_G} {cT : Nat → ClassId} {ad : Nat → Nat} {A : Nat → Prop} {Q : State → Prop} {i cells slots : Nat} {H : Heap} {locs : List Loc} {ls : Array Slot} {σ : TY} {G : Nat → va_E} {th : Nat} {f : Nat → Int64} {f2 : Nat → UInt64} (hX9 : LX p l s m meth c b L xs D cT ad A) (hi : i + 8 ≤ L) (hc : cells + 10 ≤ 603072) (hs : slots + 100 ≤ 7227498) (hst : LSt cT ad G σ th f f2) (hP : va_P D vwCl (gw 116 ad G) H) (hS : va_S A s.heap H locs) (hl : lv_has ls 9 (LVL b ad i)) (kont : LK p l e s m below meth c b D cT ad A Q i (cells + 10) (slots + 100) 2260) : W p l e room_1 s m #[Value.ref b] below meth c H locs cells slots Q (F0 m 1782 ls []) := by
  obtain ⟨hx, hb, hml, hown, hw, hX, hbl, hbA, hK, hE, hA, hD, hN, hl9, hL⟩ := hX9
  obtain ⟨hI, hY, hM, hO, hO2⟩ := hst
  refine lv_aload_n hx hb dL_law_1782 rfl (lv_at hl 1 rfl) ?_
  refine lv_aload_n hx hb dL_law_1783 rfl (lv_at hl 0 rfl) ?_
  refine lv_iload hx hb dL_law_1784 (lv_at hl 5 rfl) ?_
  refine lv_iconst (v := nI 1) hx hb dL_law_1786 (by decide) ?_
  refine lv_iadd hx hb dL_law_1787 ?_
  refine t_eqi (nI (i + 1)) (nI_add i 1) ?_
  refine g_sld hx hb hX hbl hbA hS (j := i + 1) (by omega) (by omega) dL_law_1788 ?_
  refine lv_aload_n hx hb dL_law_1789 rfl (lv_at hl 3 rfl) ?_
  refine g_callSH (As := [.ref (ad 0), .int (xs (i + 1)), .ref (ad 114)]) (rest := []) ⟨hx, hb, hml, hown, hw⟩ (mL_sweep l hl9 D cT 116 ad A hD G (Nat.le_refl _) σ hY hI f hO (xs (i + 1))) (vx_cwSW 3 hw (gWSB wm_L_195 wst_L_sweep wini_L wcw_L_sweep) rfl rfl rfl (by decide +kernel) ⟨Nat.le_of_ble_eq_true rfl, Nat.le_of_ble_eq_true rfl⟩) hK hE hA hP hS rfl hl.1 (lv_room (Nat.le_of_ble_eq_true rfl)) dL_law_1790 ⟨by show cells + 0 + 1 ≤ 603072; omega, by show slots + 0 + 6 ≤ 7227498; omega⟩ (fun v G1 H locs hp hP hS => ?_)
  rcases hp with ⟨y8, G2, hcl, hO1, hfo, rfl⟩ | ⟨E, hpx, rfl, hg1⟩
  · skip
    rcases hcl with ⟨⟨b9, hb9, hx1, hv, hY2⟩, hfr⟩
    have hfe : ∀ j, 69 ≤ j → G2 j = G j := hfr
    have hM1 : MW cT ad G1 σ th := hM.keep (fun j h1 h2 => (hfo j (by omega)).trans (hfe j (by omega)))
    have hY1 := hY2.ad (ad2 := ad) (G2 := G1) (fun _ _ => rfl) (fun k hk => hfo k (by omega))
    obtain rfl := Value.int.inj (Option.some.inj hv)
    refine lv_istore (lv' := [(6, .int (nI 0)), (0, .ref b), (1, .ref (ad 0)), (2, .ref (ad 69)), (3, .ref (ad 114)), (4, .ref (ad 115)), (5, .int (nI i))]) hx hb dL_law_1793 hl (by decide) rfl (fun ls hl => ?_)
    refine lv_aload_n hx hb dL_law_1795 rfl (lv_at hl 3 rfl) ?_
    refine lv_aload_n hx hb dL_law_1796 rfl (lv_at hl 1 rfl) ?_
    refine lv_iload hx hb dL_law_1797 (lv_at hl 6 rfl) ?_
    refine lv_iconst (v := nI 1) hx hb dL_law_1799 (by decide) ?_
    refine lv_iadd hx hb dL_law_1800 ?_
    refine t_eqi (nI (i + 1)) (nI_add i 1) ?_
    refine g_sld hx hb hX hbl hbA hS (j := i + 1) (by omega) (by omega) dL_law_1801 ?_
    refine t_eqi (nI b9) hx1 ?_
    refine g_callV (As := [.int (nI b9)]) (rest := []) ⟨hx, hb, hml, hown, hw⟩ (mX3_sweep_ok l D cT 116 ad A hD G1 (by omega) σ hI th hM1 b9 hb9) (cwV 1 hw (gWV wm_L_197 wi_X3_sweep wse_X3_sweep wini_X3 wc_X3_sweep) rfl rfl rfl (by decide +kernel) ⟨Nat.le_of_ble_eq_true rfl, Nat.le_of_ble_eq_true rfl⟩) hK hE hA hP hS (k := 69) (by omega) (MW.th hM1) rfl rfl hl.1 (lv_room (Nat.le_of_ble_eq_true rfl)) dL_law_1802 ⟨by show cells + 0 + 1 + 0 ≤ 603072; omega, by show slots + 0 + 6 + 0 ≤ 7227498; omega⟩ (fun v G3 H locs hp3 hP hS => ?_)
    obtain ⟨⟨rfl, hM3⟩, hf3⟩ := hp3
    refine lv_istore (lv' := [(7, .int (nI ((σ.2 b9).2.1 - swk (σ.2 b9).2.2.2.2.2 (σ.2 b9).2.1))), (6, .int (nI 0)), (0, .ref b), (1, .ref (ad 0)), (2, .ref (ad 69)), (3, .ref (ad 114)), (4, .ref (ad 115)), (5, .int (nI i))]) hx hb dL_law_1805 hl (by decide) rfl (fun ls hl => ?_)
    refine lv_aload_n hx hb dL_law_1807 rfl (lv_at hl 4 rfl) ?_
    refine g_callV (As := []) (rest := []) ⟨hx, hb, hml, hown, hw⟩ (mX3_thrown l D cT 116 ad A hD G3 (by omega) 0 (MW.th hM3)) (cwV 0 hw (gWV wm_L_126 wi_X3_thrown wse_X3_thrown wini_X3 wc_X3_thrown) rfl rfl rfl (by decide +kernel) ⟨Nat.le_of_ble_eq_true rfl, Nat.le_of_ble_eq_true rfl⟩) hK hE hA hP hS (k := 69) (by omega) (MW.th hM3) rfl rfl hl.1 (lv_room (Nat.le_of_ble_eq_true rfl)) dL_law_1808 ⟨by show cells + 0 + 1 + 0 + 0 ≤ 603072; omega, by show slots + 0 + 6 + 0 + 0 ≤ 7227498; omega⟩ (fun v G4 H locs hp hP hS => ?_)
    obtain ⟨hv, hg⟩ := hp
    subst hv
    rw [hg] at hP
    refine lv_iload hx hb dL_law_1811 (lv_at hl 1 rfl) ?_
    refine t_icmp_eq (tgt := 1818) hx hb dL_law_1813 (by decide) (by omega) (by omega) (fun c_1 => ?_) (fun c_1 => absurd c_1 (by omega))
    refine lv_iload hx hb dL_law_1818 (lv_at hl 1 rfl) ?_
    refine t_if_ne (tgt := 1835) hx hb dL_law_1820 (by decide) (by omega) (fun c_2 => absurd c_2 (by omega)) (fun c_2 => ?_)
    refine lv_aload_n hx hb dL_law_1823 rfl (lv_at hl 5 rfl) ?_
    refine lv_iconst (v := nI 0) hx hb dL_law_1824 (by decide) ?_
    refine g_lald hx hb hK hP (i := 114) (by omega) ((hf3 _ (by omega)).trans hO1) (by omega) (by omega) dL_law_1825 ?_
    refine t_eql ((nI ((σ.2 b9).2.1 - swk (σ.2 b9).2.2.2.2.2 (σ.2 b9).2.1)).toInt64) (va_up_self _ _ _) ?_
    refine lv_iload hx hb dL_law_1826 (lv_at hl 0 rfl) ?_
    refine lv_i2l hx hb dL_law_1828 rfl ?_
    refine W.lcmp hx hb dL_law_1829 ?_
    refine t_eqi (nI 0) (lgc_eq rfl) ?_
    refine t_if_eq (tgt := 1835) hx hb dL_law_1830 (by decide) (by omega) (fun c_3 => ?_) (fun c_3 => absurd c_3 (by omega))
    refine lv_goto (tgt := 2260) hx hb dL_law_1835 (by decide) ?_
    refine W.widen (k := cells + 10) (n := slots + 100) (by omega) (by omega) ?_
    exact kont _ G3 0 _ _ H locs ls ⟨hI.bench (BIt_sweep (hI.2 b9 hb9)), hY1.ad (fun _ _ => rfl) (fun k hk => hf3 k (by omega)), hM3, (hf3 114 (by omega)).trans hO1, (hf3 115 (by omega)).trans ((hfo 115 (by omega)).trans ((hfe 115 (by omega)).trans hO2))⟩ hP hS (lv_sub hl [2, 3, 4, 5, 6, 7] rfl)
  · skip
    rw [hg1] at hP
    have hcd1 := cd_pos [xIO] E
    have hcd3 := cd_le [xIO] E
    have hcd4 : ([xIO] : List String).length ≤ 3 := by decide
    have hcd2 : cd [xIO] E < 65536 := by omega
    refine lv_istore (lv' := [(6, .int (nI (cd [xIO] E))), (0, .ref b), (1, .ref (ad 0)), (2, .ref (ad 69)), (3, .ref (ad 114)), (4, .ref (ad 115)), (5, .int (nI i))]) hx hb dL_law_1793 hl (by decide) rfl (fun ls hl => ?_)
    refine lv_aload_n hx hb dL_law_1795 rfl (lv_at hl 3 rfl) ?_
    refine lv_aload_n hx hb dL_law_1796 rfl (lv_at hl 1 rfl) ?_
    refine lv_iload hx hb dL_law_1797 (lv_at hl 6 rfl) ?_
    refine lv_iconst (v := nI 1) hx hb dL_law_1799 (by decide) ?_
    refine lv_iadd hx hb dL_law_1800 ?_
    refine t_eqi (nI (i + 1)) (nI_add i 1) ?_
    refine g_sld hx hb hX hbl hbA hS (j := i + 1) (by omega) (by omega) dL_law_1801 ?_
    refine g_callV (As := [.int (xs (i + 1))]) (rest := []) ⟨hx, hb, hml, hown, hw⟩ (mX3_sweep_no l D cT 116 ad A hD G (by omega) σ hI th hM (xs (i + 1)) E hpx) (cwV 1 hw (gWV wm_L_197 wi_X3_sweep wse_X3_sweep wini_X3 wc_X3_sweep) rfl rfl rfl (by decide +kernel) ⟨Nat.le_of_ble_eq_true rfl, Nat.le_of_ble_eq_true rfl⟩) hK hE hA hP hS (k := 69) (by omega) (MW.th hM) rfl rfl hl.1 (lv_room (Nat.le_of_ble_eq_true rfl)) dL_law_1802 ⟨by show cells + 0 + 1 + 0 ≤ 603072; omega, by show slots + 0 + 6 + 0 ≤ 7227498; omega⟩ (fun v G3 H locs hp3 hP hS => ?_)
    obtain ⟨⟨⟨z9, rfl⟩, hM3⟩, hf3⟩ := hp3
    refine lv_istore (lv' := [(7, .int z9), (6, .int (nI (cd [xIO] E))), (0, .ref b), (1, .ref (ad 0)), (2, .ref (ad 69)), (3, .ref (ad 114)), (4, .ref (ad 115)), (5, .int (nI i))]) hx hb dL_law_1805 hl (by decide) rfl (fun ls hl => ?_)
    refine lv_aload_n hx hb dL_law_1807 rfl (lv_at hl 4 rfl) ?_
    refine g_callV (As := []) (rest := []) ⟨hx, hb, hml, hown, hw⟩ (mX3_thrown l D cT 116 ad A hD G3 (by omega) (cd [xIO] E) (MW.th hM3)) (cwV 0 hw (gWV wm_L_126 wi_X3_thrown wse_X3_thrown wini_X3 wc_X3_thrown) rfl rfl rfl (by decide +kernel) ⟨Nat.le_of_ble_eq_true rfl, Nat.le_of_ble_eq_true rfl⟩) hK hE hA hP hS (k := 69) (by omega) (MW.th hM3) rfl rfl hl.1 (lv_room (Nat.le_of_ble_eq_true rfl)) dL_law_1808 ⟨by show cells + 0 + 1 + 0 + 0 ≤ 603072; omega, by show slots + 0 + 6 + 0 + 0 ≤ 7227498; omega⟩ (fun v G4 H locs hp hP hS => ?_)
    obtain ⟨hv, hg⟩ := hp
    subst hv
    rw [hg] at hP
    refine lv_iload hx hb dL_law_1811 (lv_at hl 1 rfl) ?_
    refine t_icmp_eq (tgt := 1818) hx hb dL_law_1813 (by decide) (by omega) (by omega) (fun c_4 => ?_) (fun c_4 => ?_)
    · skip
      refine lv_iload hx hb dL_law_1818 (lv_at hl 1 rfl) ?_
      refine t_if_ne (tgt := 1835) hx hb dL_law_1820 (by decide) (by omega) (fun c_5 => ?_) (fun c_5 => ?_)
      · skip
        refine lv_goto (tgt := 2260) hx hb dL_law_1835 (by decide) ?_
        refine W.widen (k := cells + 10) (n := slots + 100) (by omega) (by omega) ?_
        exact kont σ G3 _ f f2 H locs ls ⟨hI, hY.ad (fun _ _ => rfl) (fun k hk => hf3 k (by omega)), hM3, (hf3 114 (by omega)).trans hO, (hf3 115 (by omega)).trans hO2⟩ hP hS (lv_sub hl [2, 3, 4, 5, 6, 7] rfl)
      · exfalso; omega
    · exfalso; omega

set_option maxHeartbeats 4000000 in
set_option maxRecDepth 100000 in
theorem lc_isRead {p : Program} {l : Launch} {e : Env} {s : State} {m : MethodId} {below : List Frame} {meth : Method} {c : Code} {b L : Nat} {xs : Nat → Int32} {D : va_G} {cT : Nat → ClassId} {ad : Nat → Nat} {A : Nat → Prop} {Q : State → Prop} {i cells slots : Nat} {H : Heap} {locs : List Loc} {ls : Array Slot} {σ : TY} {G : Nat → va_E} {th : Nat} {f : Nat → Int64} {f2 : Nat → UInt64} (hX9 : LX p l s m meth c b L xs D cT ad A) (hi : i + 8 ≤ L) (hc : cells + 10 ≤ 603072) (hs : slots + 100 ≤ 7227498) (hst : LSt cT ad G σ th f f2) (hP : va_P D vwCl (gw 116 ad G) H) (hS : va_S A s.heap H locs) (hl : lv_has ls 9 (LVL b ad i)) (kont : LK p l e s m below meth c b D cT ad A Q i (cells + 10) (slots + 100) 2260) : W p l e room_1 s m #[Value.ref b] below meth c H locs cells slots Q (F0 m 1838 ls []) := by
  obtain ⟨hx, hb, hml, hown, hw, hX, hbl, hbA, hK, hE, hA, hD, hN, hl9, hL⟩ := hX9
  obtain ⟨hI, hY, hM, hO, hO2⟩ := hst
  refine lv_aload_n hx hb dL_law_1838 rfl (lv_at hl 1 rfl) ?_
  refine lv_aload_n hx hb dL_law_1839 rfl (lv_at hl 0 rfl) ?_
  refine lv_iload hx hb dL_law_1840 (lv_at hl 5 rfl) ?_
  refine lv_iconst (v := nI 1) hx hb dL_law_1842 (by decide) ?_
  refine lv_iadd hx hb dL_law_1843 ?_
  refine t_eqi (nI (i + 1)) (nI_add i 1) ?_
  refine g_sld hx hb hX hbl hbA hS (j := i + 1) (by omega) (by omega) dL_law_1844 ?_
  refine lv_aload_n hx hb dL_law_1845 rfl (lv_at hl 3 rfl) ?_
  refine g_callSH (As := [.ref (ad 0), .int (xs (i + 1)), .ref (ad 114)]) (rest := []) ⟨hx, hb, hml, hown, hw⟩ (mL_isRead l hl9 D cT 116 ad A hD G (Nat.le_refl _) σ hY hI f hO (xs (i + 1))) (vx_cwSW 3 hw (gWSB wm_L_198 wst_L_isRead wini_L wcw_L_isRead) rfl rfl rfl (by decide +kernel) ⟨Nat.le_of_ble_eq_true rfl, Nat.le_of_ble_eq_true rfl⟩) hK hE hA hP hS rfl hl.1 (lv_room (Nat.le_of_ble_eq_true rfl)) dL_law_1846 ⟨by show cells + 0 + 1 ≤ 603072; omega, by show slots + 0 + 6 ≤ 7227498; omega⟩ (fun v G1 H locs hp hP hS => ?_)
  rcases hp with ⟨y8, G2, hcl, hO1, hfo, rfl⟩ | ⟨E, hpx, rfl, hg1⟩
  · skip
    rcases hcl with ⟨⟨b9, hb9, hx1, hv⟩, hfr⟩
    have hfe : ∀ j, 69 ≤ j → G2 j = G j := fun j _ => by rw [hfr]
    have hM1 : MW cT ad G1 σ th := hM.keep (fun j h1 h2 => (hfo j (by omega)).trans (hfe j (by omega)))
    have hY1 := hY.ad (ad2 := ad) (G2 := G1) (fun _ _ => rfl) (fun k hk => (hfo k (by omega)).trans (by rw [hfr]))
    obtain rfl := Value.int.inj (Option.some.inj hv)
    rcases Decidable.em (cnt (σ.2 b9).2.2.2.2.1 (σ.2 b9).2.1 = (σ.2 b9).2.1) with hp9 | hp9
    · skip
      refine lv_istore (lv' := [(6, .int (nI 0)), (0, .ref b), (1, .ref (ad 0)), (2, .ref (ad 69)), (3, .ref (ad 114)), (4, .ref (ad 115)), (5, .int (nI i))]) hx hb dL_law_1849 hl (by decide) rfl (fun ls hl => ?_)
      refine lv_aload_n hx hb dL_law_1851 rfl (lv_at hl 3 rfl) ?_
      refine lv_aload_n hx hb dL_law_1852 rfl (lv_at hl 1 rfl) ?_
      refine lv_iload hx hb dL_law_1853 (lv_at hl 6 rfl) ?_
      refine lv_iconst (v := nI 1) hx hb dL_law_1855 (by decide) ?_
      refine lv_iadd hx hb dL_law_1856 ?_
      refine t_eqi (nI (i + 1)) (nI_add i 1) ?_
      refine g_sld hx hb hX hbl hbA hS (j := i + 1) (by omega) (by omega) dL_law_1857 ?_
      refine t_eqi (nI b9) hx1 ?_
      refine g_callV (As := [.int (nI b9)]) (rest := []) ⟨hx, hb, hml, hown, hw⟩ (mX3_isRead_ok l D cT 116 ad A hD G1 (by omega) σ hI th hM1 b9 hb9) (cwV 1 hw (gWV wm_L_200 wi_X3_isRead wse_X3_isRead wini_X3 wc_X3_isRead) rfl rfl rfl (by decide +kernel) ⟨Nat.le_of_ble_eq_true rfl, Nat.le_of_ble_eq_true rfl⟩) hK hE hA hP hS (k := 69) (by omega) (MW.th hM1) rfl rfl hl.1 (lv_room (Nat.le_of_ble_eq_true rfl)) dL_law_1858 ⟨by show cells + 0 + 1 + 0 ≤ 603072; omega, by show slots + 0 + 6 + 0 ≤ 7227498; omega⟩ (fun v G3 H locs hp3 hP hS => ?_)
      obtain ⟨⟨rfl, hM3⟩, hf3⟩ := hp3
      refine t_eqi (nI 1) (if_pos hp9) ?_
      refine lv_istore (lv' := [(7, .int (nI 1)), (6, .int (nI 0)), (0, .ref b), (1, .ref (ad 0)), (2, .ref (ad 69)), (3, .ref (ad 114)), (4, .ref (ad 115)), (5, .int (nI i))]) hx hb dL_law_1861 hl (by decide) rfl (fun ls hl => ?_)
      refine lv_aload_n hx hb dL_law_1863 rfl (lv_at hl 4 rfl) ?_
      refine g_callV (As := []) (rest := []) ⟨hx, hb, hml, hown, hw⟩ (mX3_thrown l D cT 116 ad A hD G3 (by omega) 0 (MW.th hM3)) (cwV 0 hw (gWV wm_L_126 wi_X3_thrown wse_X3_thrown wini_X3 wc_X3_thrown) rfl rfl rfl (by decide +kernel) ⟨Nat.le_of_ble_eq_true rfl, Nat.le_of_ble_eq_true rfl⟩) hK hE hA hP hS (k := 69) (by omega) (MW.th hM3) rfl rfl hl.1 (lv_room (Nat.le_of_ble_eq_true rfl)) dL_law_1864 ⟨by show cells + 0 + 1 + 0 + 0 ≤ 603072; omega, by show slots + 0 + 6 + 0 + 0 ≤ 7227498; omega⟩ (fun v G4 H locs hp hP hS => ?_)
      obtain ⟨hv, hg⟩ := hp
      subst hv
      rw [hg] at hP
      refine lv_iload hx hb dL_law_1867 (lv_at hl 1 rfl) ?_
      refine t_icmp_eq (tgt := 1874) hx hb dL_law_1869 (by decide) (by omega) (by omega) (fun c_1 => ?_) (fun c_1 => absurd c_1 (by omega))
      refine lv_iload hx hb dL_law_1874 (lv_at hl 1 rfl) ?_
      refine t_if_ne (tgt := 1898) hx hb dL_law_1876 (by decide) (by omega) (fun c_2 => absurd c_2 (by omega)) (fun c_2 => ?_)
      refine lv_aload_n hx hb dL_law_1879 rfl (lv_at hl 5 rfl) ?_
      refine lv_iconst (v := nI 0) hx hb dL_law_1880 (by decide) ?_
      refine g_lald hx hb hK hP (i := 114) (by omega) ((hf3 _ (by omega)).trans hO1) (by omega) (by omega) dL_law_1881 ?_
      refine t_eql 1 ((va_up_self _ _ _).trans (by rw [if_pos hp9]; decide)) ?_
      refine lv_iload hx hb dL_law_1882 (lv_at hl 0 rfl) ?_
      refine t_if_eq (tgt := 1891) hx hb dL_law_1884 (by decide) (by omega) (fun c_3 => absurd c_3 (by omega)) (fun c_3 => ?_)
      refine lv_lconst (v := 1) hx hb dL_law_1887 (by decide) ?_
      refine lv_goto (tgt := 1892) hx hb dL_law_1888 (by decide) ?_
      refine W.lcmp hx hb dL_law_1892 ?_
      refine t_eqi (nI 0) (lgc_eq rfl) ?_
      refine t_if_eq (tgt := 1898) hx hb dL_law_1893 (by decide) (by omega) (fun c_4 => ?_) (fun c_4 => absurd c_4 (by omega))
      refine lv_goto (tgt := 2260) hx hb dL_law_1898 (by decide) ?_
      refine W.widen (k := cells + 10) (n := slots + 100) (by omega) (by omega) ?_
      exact kont _ G3 0 _ _ H locs ls ⟨hI, hY1.ad (fun _ _ => rfl) (fun k hk => hf3 k (by omega)), hM3, (hf3 114 (by omega)).trans hO1, (hf3 115 (by omega)).trans ((hfo 115 (by omega)).trans ((hfe 115 (by omega)).trans hO2))⟩ hP hS (lv_sub hl [2, 3, 4, 5, 6, 7] rfl)
    · skip
      refine lv_istore (lv' := [(6, .int (nI 0)), (0, .ref b), (1, .ref (ad 0)), (2, .ref (ad 69)), (3, .ref (ad 114)), (4, .ref (ad 115)), (5, .int (nI i))]) hx hb dL_law_1849 hl (by decide) rfl (fun ls hl => ?_)
      refine lv_aload_n hx hb dL_law_1851 rfl (lv_at hl 3 rfl) ?_
      refine lv_aload_n hx hb dL_law_1852 rfl (lv_at hl 1 rfl) ?_
      refine lv_iload hx hb dL_law_1853 (lv_at hl 6 rfl) ?_
      refine lv_iconst (v := nI 1) hx hb dL_law_1855 (by decide) ?_
      refine lv_iadd hx hb dL_law_1856 ?_
      refine t_eqi (nI (i + 1)) (nI_add i 1) ?_
      refine g_sld hx hb hX hbl hbA hS (j := i + 1) (by omega) (by omega) dL_law_1857 ?_
      refine t_eqi (nI b9) hx1 ?_
      refine g_callV (As := [.int (nI b9)]) (rest := []) ⟨hx, hb, hml, hown, hw⟩ (mX3_isRead_ok l D cT 116 ad A hD G1 (by omega) σ hI th hM1 b9 hb9) (cwV 1 hw (gWV wm_L_200 wi_X3_isRead wse_X3_isRead wini_X3 wc_X3_isRead) rfl rfl rfl (by decide +kernel) ⟨Nat.le_of_ble_eq_true rfl, Nat.le_of_ble_eq_true rfl⟩) hK hE hA hP hS (k := 69) (by omega) (MW.th hM1) rfl rfl hl.1 (lv_room (Nat.le_of_ble_eq_true rfl)) dL_law_1858 ⟨by show cells + 0 + 1 + 0 ≤ 603072; omega, by show slots + 0 + 6 + 0 ≤ 7227498; omega⟩ (fun v G3 H locs hp3 hP hS => ?_)
      obtain ⟨⟨rfl, hM3⟩, hf3⟩ := hp3
      refine t_eqi (nI 0) (if_neg hp9) ?_
      refine lv_istore (lv' := [(7, .int (nI 0)), (6, .int (nI 0)), (0, .ref b), (1, .ref (ad 0)), (2, .ref (ad 69)), (3, .ref (ad 114)), (4, .ref (ad 115)), (5, .int (nI i))]) hx hb dL_law_1861 hl (by decide) rfl (fun ls hl => ?_)
      refine lv_aload_n hx hb dL_law_1863 rfl (lv_at hl 4 rfl) ?_
      refine g_callV (As := []) (rest := []) ⟨hx, hb, hml, hown, hw⟩ (mX3_thrown l D cT 116 ad A hD G3 (by omega) 0 (MW.th hM3)) (cwV 0 hw (gWV wm_L_126 wi_X3_thrown wse_X3_thrown wini_X3 wc_X3_thrown) rfl rfl rfl (by decide +kernel) ⟨Nat.le_of_ble_eq_true rfl, Nat.le_of_ble_eq_true rfl⟩) hK hE hA hP hS (k := 69) (by omega) (MW.th hM3) rfl rfl hl.1 (lv_room (Nat.le_of_ble_eq_true rfl)) dL_law_1864 ⟨by show cells + 0 + 1 + 0 + 0 ≤ 603072; omega, by show slots + 0 + 6 + 0 + 0 ≤ 7227498; omega⟩ (fun v G4 H locs hp hP hS => ?_)
      obtain ⟨hv, hg⟩ := hp
      subst hv
      rw [hg] at hP
      refine lv_iload hx hb dL_law_1867 (lv_at hl 1 rfl) ?_
      refine t_icmp_eq (tgt := 1874) hx hb dL_law_1869 (by decide) (by omega) (by omega) (fun c_5 => ?_) (fun c_5 => absurd c_5 (by omega))
      refine lv_iload hx hb dL_law_1874 (lv_at hl 1 rfl) ?_
      refine t_if_ne (tgt := 1898) hx hb dL_law_1876 (by decide) (by omega) (fun c_6 => absurd c_6 (by omega)) (fun c_6 => ?_)
      refine lv_aload_n hx hb dL_law_1879 rfl (lv_at hl 5 rfl) ?_
      refine lv_iconst (v := nI 0) hx hb dL_law_1880 (by decide) ?_
      refine g_lald hx hb hK hP (i := 114) (by omega) ((hf3 _ (by omega)).trans hO1) (by omega) (by omega) dL_law_1881 ?_
      refine t_eql 0 ((va_up_self _ _ _).trans (by rw [if_neg hp9]; decide)) ?_
      refine lv_iload hx hb dL_law_1882 (lv_at hl 0 rfl) ?_
      refine t_if_eq (tgt := 1891) hx hb dL_law_1884 (by decide) (by omega) (fun c_7 => ?_) (fun c_7 => absurd c_7 (by omega))
      refine lv_lconst (v := 0) hx hb dL_law_1891 (by decide) ?_
      refine W.lcmp hx hb dL_law_1892 ?_
      refine t_eqi (nI 0) (lgc_eq rfl) ?_
      refine t_if_eq (tgt := 1898) hx hb dL_law_1893 (by decide) (by omega) (fun c_8 => ?_) (fun c_8 => absurd c_8 (by omega))
      refine lv_goto (tgt := 2260) hx hb dL_law_1898 (by decide) ?_
      refine W.widen (k := cells + 10) (n := slots + 100) (by omega) (by omega) ?_
      exact kont _ G3 0 _ _ H locs ls ⟨hI, hY1.ad (fun _ _ => rfl) (fun k hk => hf3 k (by omega)), hM3, (hf3 114 (by omega)).trans hO1, (hf3 115 (by omega)).trans ((hfo 115 (by omega)).trans ((hfe 115 (by omega)).trans hO2))⟩ hP hS (lv_sub hl [2, 3, 4, 5, 6, 7] rfl)
  · skip
    rw [hg1] at hP
    have hcd1 := cd_pos [xIO] E
    have hcd3 := cd_le [xIO] E
    have hcd4 : ([xIO] : List String).length ≤ 3 := by decide
    have hcd2 : cd [xIO] E < 65536 := by omega
    refine lv_istore (lv' := [(6, .int (nI (cd [xIO] E))), (0, .ref b), (1, .ref (ad 0)), (2, .ref (ad 69)), (3, .ref (ad 114)), (4, .ref (ad 115)), (5, .int (nI i))]) hx hb dL_law_1849 hl (by decide) rfl (fun ls hl => ?_)
    refine lv_aload_n hx hb dL_law_1851 rfl (lv_at hl 3 rfl) ?_
    refine lv_aload_n hx hb dL_law_1852 rfl (lv_at hl 1 rfl) ?_
    refine lv_iload hx hb dL_law_1853 (lv_at hl 6 rfl) ?_
    refine lv_iconst (v := nI 1) hx hb dL_law_1855 (by decide) ?_
    refine lv_iadd hx hb dL_law_1856 ?_
    refine t_eqi (nI (i + 1)) (nI_add i 1) ?_
    refine g_sld hx hb hX hbl hbA hS (j := i + 1) (by omega) (by omega) dL_law_1857 ?_
    refine g_callV (As := [.int (xs (i + 1))]) (rest := []) ⟨hx, hb, hml, hown, hw⟩ (mX3_isRead_no l D cT 116 ad A hD G (by omega) σ hI th hM (xs (i + 1)) E hpx) (cwV 1 hw (gWV wm_L_200 wi_X3_isRead wse_X3_isRead wini_X3 wc_X3_isRead) rfl rfl rfl (by decide +kernel) ⟨Nat.le_of_ble_eq_true rfl, Nat.le_of_ble_eq_true rfl⟩) hK hE hA hP hS (k := 69) (by omega) (MW.th hM) rfl rfl hl.1 (lv_room (Nat.le_of_ble_eq_true rfl)) dL_law_1858 ⟨by show cells + 0 + 1 + 0 ≤ 603072; omega, by show slots + 0 + 6 + 0 ≤ 7227498; omega⟩ (fun v G3 H locs hp3 hP hS => ?_)
    obtain ⟨⟨⟨z9, rfl⟩, hM3⟩, hf3⟩ := hp3
    refine lv_istore (lv' := [(7, .int z9), (6, .int (nI (cd [xIO] E))), (0, .ref b), (1, .ref (ad 0)), (2, .ref (ad 69)), (3, .ref (ad 114)), (4, .ref (ad 115)), (5, .int (nI i))]) hx hb dL_law_1861 hl (by decide) rfl (fun ls hl => ?_)
    refine lv_aload_n hx hb dL_law_1863 rfl (lv_at hl 4 rfl) ?_
    refine g_callV (As := []) (rest := []) ⟨hx, hb, hml, hown, hw⟩ (mX3_thrown l D cT 116 ad A hD G3 (by omega) (cd [xIO] E) (MW.th hM3)) (cwV 0 hw (gWV wm_L_126 wi_X3_thrown wse_X3_thrown wini_X3 wc_X3_thrown) rfl rfl rfl (by decide +kernel) ⟨Nat.le_of_ble_eq_true rfl, Nat.le_of_ble_eq_true rfl⟩) hK hE hA hP hS (k := 69) (by omega) (MW.th hM3) rfl rfl hl.1 (lv_room (Nat.le_of_ble_eq_true rfl)) dL_law_1864 ⟨by show cells + 0 + 1 + 0 + 0 ≤ 603072; omega, by show slots + 0 + 6 + 0 + 0 ≤ 7227498; omega⟩ (fun v G4 H locs hp hP hS => ?_)
    obtain ⟨hv, hg⟩ := hp
    subst hv
    rw [hg] at hP
    refine lv_iload hx hb dL_law_1867 (lv_at hl 1 rfl) ?_
    refine t_icmp_eq (tgt := 1874) hx hb dL_law_1869 (by decide) (by omega) (by omega) (fun c_9 => ?_) (fun c_9 => ?_)
    · skip
      refine lv_iload hx hb dL_law_1874 (lv_at hl 1 rfl) ?_
      refine t_if_ne (tgt := 1898) hx hb dL_law_1876 (by decide) (by omega) (fun c_10 => ?_) (fun c_10 => ?_)
      · skip
        refine lv_goto (tgt := 2260) hx hb dL_law_1898 (by decide) ?_
        refine W.widen (k := cells + 10) (n := slots + 100) (by omega) (by omega) ?_
        exact kont σ G3 _ f f2 H locs ls ⟨hI, hY.ad (fun _ _ => rfl) (fun k hk => hf3 k (by omega)), hM3, (hf3 114 (by omega)).trans hO, (hf3 115 (by omega)).trans hO2⟩ hP hS (lv_sub hl [2, 3, 4, 5, 6, 7] rfl)
      · exfalso; omega
    · exfalso; omega

set_option maxHeartbeats 4000000 in
set_option maxRecDepth 100000 in
theorem lc_fold {p : Program} {l : Launch} {e : Env} {s : State} {m : MethodId} {below : List Frame} {meth : Method} {c : Code} {b L : Nat} {xs : Nat → Int32} {D : va_G} {cT : Nat → ClassId} {ad : Nat → Nat} {A : Nat → Prop} {Q : State → Prop} {i cells slots : Nat} {H : Heap} {locs : List Loc} {ls : Array Slot} {σ : TY} {G : Nat → va_E} {th : Nat} {f : Nat → Int64} {f2 : Nat → UInt64} (hX9 : LX p l s m meth c b L xs D cT ad A) (hi : i + 8 ≤ L) (hc : cells + 10 ≤ 603072) (hs : slots + 100 ≤ 7227498) (hst : LSt cT ad G σ th f f2) (hP : va_P D vwCl (gw 116 ad G) H) (hS : va_S A s.heap H locs) (hl : lv_has ls 9 (LVL b ad i)) (kont : LK p l e s m below meth c b D cT ad A Q i (cells + 10) (slots + 100) 2260) : W p l e room_1 s m #[Value.ref b] below meth c H locs cells slots Q (F0 m 1901 ls []) := by
  obtain ⟨hx, hb, hml, hown, hw, hX, hbl, hbA, hK, hE, hA, hD, hN, hl9, hL⟩ := hX9
  obtain ⟨hI, hY, hM, hO, hO2⟩ := hst
  refine lv_aload_n hx hb dL_law_1901 rfl (lv_at hl 1 rfl) ?_
  refine lv_aload_n hx hb dL_law_1902 rfl (lv_at hl 0 rfl) ?_
  refine lv_iload hx hb dL_law_1903 (lv_at hl 5 rfl) ?_
  refine lv_iconst (v := nI 1) hx hb dL_law_1905 (by decide) ?_
  refine lv_iadd hx hb dL_law_1906 ?_
  refine t_eqi (nI (i + 1)) (nI_add i 1) ?_
  refine g_sld hx hb hX hbl hbA hS (j := i + 1) (by omega) (by omega) dL_law_1907 ?_
  refine lv_i2c (v := nI (chN (xs (i + 1)))) hx hb dL_law_1908 (chN_eq _) ?_
  refine lv_aload_n hx hb dL_law_1909 rfl (lv_at hl 0 rfl) ?_
  refine lv_iload hx hb dL_law_1910 (lv_at hl 5 rfl) ?_
  refine lv_iconst (v := nI 2) hx hb dL_law_1912 (by decide) ?_
  refine lv_iadd hx hb dL_law_1913 ?_
  refine t_eqi (nI (i + 2)) (nI_add i 2) ?_
  refine g_sld hx hb hX hbl hbA hS (j := i + 2) (by omega) (by omega) dL_law_1914 ?_
  refine lv_aload_n hx hb dL_law_1915 rfl (lv_at hl 0 rfl) ?_
  refine lv_iload hx hb dL_law_1916 (lv_at hl 5 rfl) ?_
  refine lv_iconst (v := nI 3) hx hb dL_law_1918 (by decide) ?_
  refine lv_iadd hx hb dL_law_1919 ?_
  refine t_eqi (nI (i + 3)) (nI_add i 3) ?_
  refine g_sld hx hb hX hbl hbA hS (j := i + 3) (by omega) (by omega) dL_law_1920 ?_
  refine lv_aload_n hx hb dL_law_1921 rfl (lv_at hl 0 rfl) ?_
  refine lv_iload hx hb dL_law_1922 (lv_at hl 5 rfl) ?_
  refine lv_iconst (v := nI 4) hx hb dL_law_1924 (by decide) ?_
  refine lv_iadd hx hb dL_law_1925 ?_
  refine t_eqi (nI (i + 4)) (nI_add i 4) ?_
  refine g_sld hx hb hX hbl hbA hS (j := i + 4) (by omega) (by omega) dL_law_1926 ?_
  refine lv_i2c (v := nI (chN (xs (i + 4)))) hx hb dL_law_1927 (chN_eq _) ?_
  refine lv_aload_n hx hb dL_law_1928 rfl (lv_at hl 3 rfl) ?_
  refine g_callSH (As := [.ref (ad 0), .int (nI (chN (xs (i + 1)))), .int (xs (i + 2)), .int (xs (i + 3)), .int (nI (chN (xs (i + 4)))), .ref (ad 114)]) (rest := []) ⟨hx, hb, hml, hown, hw⟩ (mL_fold l hl9 D cT 116 ad A hD G (Nat.le_refl _) σ hY hI f hO (chN (xs (i + 1))) (chN (xs (i + 4))) (chN_lt _) (chN_lt _) (xs (i + 2)) (xs (i + 3))) (vx_cwSW 6 hw (gWSB wm_L_201 wst_L_fold wini_L wcw_L_fold) rfl rfl rfl (by decide +kernel) ⟨Nat.le_of_ble_eq_true rfl, Nat.le_of_ble_eq_true rfl⟩) hK hE hA hP hS rfl hl.1 (lv_room (Nat.le_of_ble_eq_true rfl)) dL_law_1929 ⟨by show cells + 0 + 2 ≤ 603072; omega, by show slots + 0 + 12 ≤ 7227498; omega⟩ (fun v G1 H locs hp hP hS => ?_)
  rcases hp with ⟨y8, G2, hcl, hO1, hfo, rfl⟩ | ⟨E, hpx, rfl, hg1⟩
  · skip
    rcases hcl with ⟨⟨mo, hmo1, hmo2, hy1, hw9, q, ro, hq, hro, hkq, hx1, hv⟩, hfr⟩
    have hfe : ∀ j, 69 ≤ j → G2 j = G j := fun j _ => by rw [hfr]
    have hM1 : MW cT ad G1 σ th := hM.keep (fun j h1 h2 => (hfo j (by omega)).trans (hfe j (by omega)))
    have hY1 := hY.ad (ad2 := ad) (G2 := G1) (fun _ _ => rfl) (fun k hk => (hfo k (by omega)).trans (by rw [hfr]))
    obtain rfl := Value.long.inj (Option.some.inj hv)
    refine lv_istore (lv' := [(6, .int (nI 0)), (0, .ref b), (1, .ref (ad 0)), (2, .ref (ad 69)), (3, .ref (ad 114)), (4, .ref (ad 115)), (5, .int (nI i))]) hx hb dL_law_1932 hl (by decide) rfl (fun ls hl => ?_)
    refine lv_aload_n hx hb dL_law_1934 rfl (lv_at hl 3 rfl) ?_
    refine lv_aload_n hx hb dL_law_1935 rfl (lv_at hl 1 rfl) ?_
    refine lv_iload hx hb dL_law_1936 (lv_at hl 6 rfl) ?_
    refine lv_iconst (v := nI 1) hx hb dL_law_1938 (by decide) ?_
    refine lv_iadd hx hb dL_law_1939 ?_
    refine t_eqi (nI (i + 1)) (nI_add i 1) ?_
    refine g_sld hx hb hX hbl hbA hS (j := i + 1) (by omega) (by omega) dL_law_1940 ?_
    refine lv_i2c (v := nI (chN (xs (i + 1)))) hx hb dL_law_1941 (chN_eq _) ?_
    refine lv_aload_n hx hb dL_law_1942 rfl (lv_at hl 1 rfl) ?_
    refine lv_iload hx hb dL_law_1943 (lv_at hl 6 rfl) ?_
    refine lv_iconst (v := nI 2) hx hb dL_law_1945 (by decide) ?_
    refine lv_iadd hx hb dL_law_1946 ?_
    refine t_eqi (nI (i + 2)) (nI_add i 2) ?_
    refine g_sld hx hb hX hbl hbA hS (j := i + 2) (by omega) (by omega) dL_law_1947 ?_
    refine t_eqi (nI ro) hx1 ?_
    refine lv_aload_n hx hb dL_law_1948 rfl (lv_at hl 1 rfl) ?_
    refine lv_iload hx hb dL_law_1949 (lv_at hl 6 rfl) ?_
    refine lv_iconst (v := nI 3) hx hb dL_law_1951 (by decide) ?_
    refine lv_iadd hx hb dL_law_1952 ?_
    refine t_eqi (nI (i + 3)) (nI_add i 3) ?_
    refine g_sld hx hb hX hbl hbA hS (j := i + 3) (by omega) (by omega) dL_law_1953 ?_
    refine t_eqi (nI mo) hy1 ?_
    refine lv_aload_n hx hb dL_law_1954 rfl (lv_at hl 1 rfl) ?_
    refine lv_iload hx hb dL_law_1955 (lv_at hl 6 rfl) ?_
    refine lv_iconst (v := nI 4) hx hb dL_law_1957 (by decide) ?_
    refine lv_iadd hx hb dL_law_1958 ?_
    refine t_eqi (nI (i + 4)) (nI_add i 4) ?_
    refine g_sld hx hb hX hbl hbA hS (j := i + 4) (by omega) (by omega) dL_law_1959 ?_
    refine lv_i2c (v := nI (chN (xs (i + 4)))) hx hb dL_law_1960 (chN_eq _) ?_
    refine g_callV (As := [.int (nI (chN (xs (i + 1)))), .int (nI ro), .int (nI mo), .int (nI (chN (xs (i + 4))))]) (rest := []) ⟨hx, hb, hml, hown, hw⟩ (mX3_fold_ok l D cT 116 ad A hD G1 (by omega) σ hI th hM1 (chN (xs (i + 1))) (chN_lt _) q ro hq hro hkq mo (chN (xs (i + 4))) hmo1 hmo2 (chN_lt _) hw9) (cwV 4 hw (gWV wm_L_204 wi_X3_fold wse_X3_fold wini_X3 wc_X3_fold) rfl rfl rfl (by decide +kernel) ⟨Nat.le_of_ble_eq_true rfl, Nat.le_of_ble_eq_true rfl⟩) hK hE hA hP hS (k := 69) (by omega) (MW.th hM1) rfl rfl hl.1 (lv_room (Nat.le_of_ble_eq_true rfl)) dL_law_1961 ⟨by show cells + 0 + 2 + 0 ≤ 603072; omega, by show slots + 0 + 12 + 0 ≤ 7227498; omega⟩ (fun v G3 H locs hp3 hP hS => ?_)
    obtain ⟨⟨rfl, hM3⟩, hf3⟩ := hp3
    refine lv_lstore (lv' := [(7, .long (fbn (σ.1 (4 * q + ro)).2 (chN (xs (i + 4))) 0 ((σ.1 (4 * q + ro)).1 - 0))), (6, .int (nI 0)), (0, .ref b), (1, .ref (ad 0)), (2, .ref (ad 69)), (3, .ref (ad 114)), (4, .ref (ad 115)), (5, .int (nI i))]) hx hb dL_law_1964 hl (by decide) rfl (fun ls hl => ?_)
    refine lv_aload_n hx hb dL_law_1966 rfl (lv_at hl 4 rfl) ?_
    refine g_callV (As := []) (rest := []) ⟨hx, hb, hml, hown, hw⟩ (mX3_thrown l D cT 116 ad A hD G3 (by omega) 0 (MW.th hM3)) (cwV 0 hw (gWV wm_L_126 wi_X3_thrown wse_X3_thrown wini_X3 wc_X3_thrown) rfl rfl rfl (by decide +kernel) ⟨Nat.le_of_ble_eq_true rfl, Nat.le_of_ble_eq_true rfl⟩) hK hE hA hP hS (k := 69) (by omega) (MW.th hM3) rfl rfl hl.1 (lv_room (Nat.le_of_ble_eq_true rfl)) dL_law_1967 ⟨by show cells + 0 + 2 + 0 + 0 ≤ 603072; omega, by show slots + 0 + 12 + 0 + 0 ≤ 7227498; omega⟩ (fun v G4 H locs hp hP hS => ?_)
    obtain ⟨hv, hg⟩ := hp
    subst hv
    rw [hg] at hP
    refine lv_iload hx hb dL_law_1970 (lv_at hl 1 rfl) ?_
    refine t_icmp_eq (tgt := 1977) hx hb dL_law_1972 (by decide) (by omega) (by omega) (fun c_1 => ?_) (fun c_1 => absurd c_1 (by omega))
    refine lv_iload hx hb dL_law_1977 (lv_at hl 1 rfl) ?_
    refine t_if_ne (tgt := 1993) hx hb dL_law_1979 (by decide) (by omega) (fun c_2 => absurd c_2 (by omega)) (fun c_2 => ?_)
    refine lv_aload_n hx hb dL_law_1982 rfl (lv_at hl 5 rfl) ?_
    refine lv_iconst (v := nI 0) hx hb dL_law_1983 (by decide) ?_
    refine g_lald hx hb hK hP (i := 114) (by omega) ((hf3 _ (by omega)).trans hO1) (by omega) (by omega) dL_law_1984 ?_
    refine t_eql (fbn (σ.1 (4 * q + ro)).2 (chN (xs (i + 4))) 0 ((σ.1 (4 * q + ro)).1 - 0)) (va_up_self _ _ _) ?_
    refine lv_lload hx hb dL_law_1985 (lv_at hl 0 rfl) ?_
    refine W.lcmp hx hb dL_law_1987 ?_
    refine t_eqi (nI 0) (lgc_eq rfl) ?_
    refine t_if_eq (tgt := 1993) hx hb dL_law_1988 (by decide) (by omega) (fun c_3 => ?_) (fun c_3 => absurd c_3 (by omega))
    refine lv_goto (tgt := 2260) hx hb dL_law_1993 (by decide) ?_
    refine W.widen (k := cells + 10) (n := slots + 100) (by omega) (by omega) ?_
    exact kont _ G3 0 _ _ H locs ls ⟨hI, hY1.ad (fun _ _ => rfl) (fun k hk => hf3 k (by omega)), hM3, (hf3 114 (by omega)).trans hO1, (hf3 115 (by omega)).trans ((hfo 115 (by omega)).trans ((hfe 115 (by omega)).trans hO2))⟩ hP hS (lv_sub hl [2, 3, 4, 5, 6, 7] rfl)
  · skip
    rw [hg1] at hP
    have hcd1 := cd_pos [xIA, xIO] E
    have hcd3 := cd_le [xIA, xIO] E
    have hcd4 : ([xIA, xIO] : List String).length ≤ 3 := by decide
    have hcd2 : cd [xIA, xIO] E < 65536 := by omega
    refine lv_istore (lv' := [(6, .int (nI (cd [xIA, xIO] E))), (0, .ref b), (1, .ref (ad 0)), (2, .ref (ad 69)), (3, .ref (ad 114)), (4, .ref (ad 115)), (5, .int (nI i))]) hx hb dL_law_1932 hl (by decide) rfl (fun ls hl => ?_)
    refine lv_aload_n hx hb dL_law_1934 rfl (lv_at hl 3 rfl) ?_
    refine lv_aload_n hx hb dL_law_1935 rfl (lv_at hl 1 rfl) ?_
    refine lv_iload hx hb dL_law_1936 (lv_at hl 6 rfl) ?_
    refine lv_iconst (v := nI 1) hx hb dL_law_1938 (by decide) ?_
    refine lv_iadd hx hb dL_law_1939 ?_
    refine t_eqi (nI (i + 1)) (nI_add i 1) ?_
    refine g_sld hx hb hX hbl hbA hS (j := i + 1) (by omega) (by omega) dL_law_1940 ?_
    refine lv_i2c (v := nI (chN (xs (i + 1)))) hx hb dL_law_1941 (chN_eq _) ?_
    refine lv_aload_n hx hb dL_law_1942 rfl (lv_at hl 1 rfl) ?_
    refine lv_iload hx hb dL_law_1943 (lv_at hl 6 rfl) ?_
    refine lv_iconst (v := nI 2) hx hb dL_law_1945 (by decide) ?_
    refine lv_iadd hx hb dL_law_1946 ?_
    refine t_eqi (nI (i + 2)) (nI_add i 2) ?_
    refine g_sld hx hb hX hbl hbA hS (j := i + 2) (by omega) (by omega) dL_law_1947 ?_
    refine lv_aload_n hx hb dL_law_1948 rfl (lv_at hl 1 rfl) ?_
    refine lv_iload hx hb dL_law_1949 (lv_at hl 6 rfl) ?_
    refine lv_iconst (v := nI 3) hx hb dL_law_1951 (by decide) ?_
    refine lv_iadd hx hb dL_law_1952 ?_
    refine t_eqi (nI (i + 3)) (nI_add i 3) ?_
    refine g_sld hx hb hX hbl hbA hS (j := i + 3) (by omega) (by omega) dL_law_1953 ?_
    refine lv_aload_n hx hb dL_law_1954 rfl (lv_at hl 1 rfl) ?_
    refine lv_iload hx hb dL_law_1955 (lv_at hl 6 rfl) ?_
    refine lv_iconst (v := nI 4) hx hb dL_law_1957 (by decide) ?_
    refine lv_iadd hx hb dL_law_1958 ?_
    refine t_eqi (nI (i + 4)) (nI_add i 4) ?_
    refine g_sld hx hb hX hbl hbA hS (j := i + 4) (by omega) (by omega) dL_law_1959 ?_
    refine lv_i2c (v := nI (chN (xs (i + 4)))) hx hb dL_law_1960 (chN_eq _) ?_
    refine g_callV (As := [.int (nI (chN (xs (i + 1)))), .int (xs (i + 2)), .int (xs (i + 3)), .int (nI (chN (xs (i + 4))))]) (rest := []) ⟨hx, hb, hml, hown, hw⟩ (mX3_fold_no l D cT 116 ad A hD G (by omega) σ hI th hM (chN (xs (i + 1))) (chN (xs (i + 4))) (chN_lt _) (chN_lt _) (xs (i + 2)) (xs (i + 3)) E hpx) (cwV 4 hw (gWV wm_L_204 wi_X3_fold wse_X3_fold wini_X3 wc_X3_fold) rfl rfl rfl (by decide +kernel) ⟨Nat.le_of_ble_eq_true rfl, Nat.le_of_ble_eq_true rfl⟩) hK hE hA hP hS (k := 69) (by omega) (MW.th hM) rfl rfl hl.1 (lv_room (Nat.le_of_ble_eq_true rfl)) dL_law_1961 ⟨by show cells + 0 + 2 + 0 ≤ 603072; omega, by show slots + 0 + 12 + 0 ≤ 7227498; omega⟩ (fun v G3 H locs hp3 hP hS => ?_)
    obtain ⟨⟨⟨z9, rfl⟩, hM3⟩, hf3⟩ := hp3
    refine lv_lstore (lv' := [(7, .long z9), (6, .int (nI (cd [xIA, xIO] E))), (0, .ref b), (1, .ref (ad 0)), (2, .ref (ad 69)), (3, .ref (ad 114)), (4, .ref (ad 115)), (5, .int (nI i))]) hx hb dL_law_1964 hl (by decide) rfl (fun ls hl => ?_)
    refine lv_aload_n hx hb dL_law_1966 rfl (lv_at hl 4 rfl) ?_
    refine g_callV (As := []) (rest := []) ⟨hx, hb, hml, hown, hw⟩ (mX3_thrown l D cT 116 ad A hD G3 (by omega) (cd [xIA, xIO] E) (MW.th hM3)) (cwV 0 hw (gWV wm_L_126 wi_X3_thrown wse_X3_thrown wini_X3 wc_X3_thrown) rfl rfl rfl (by decide +kernel) ⟨Nat.le_of_ble_eq_true rfl, Nat.le_of_ble_eq_true rfl⟩) hK hE hA hP hS (k := 69) (by omega) (MW.th hM3) rfl rfl hl.1 (lv_room (Nat.le_of_ble_eq_true rfl)) dL_law_1967 ⟨by show cells + 0 + 2 + 0 + 0 ≤ 603072; omega, by show slots + 0 + 12 + 0 + 0 ≤ 7227498; omega⟩ (fun v G4 H locs hp hP hS => ?_)
    obtain ⟨hv, hg⟩ := hp
    subst hv
    rw [hg] at hP
    refine lv_iload hx hb dL_law_1970 (lv_at hl 1 rfl) ?_
    refine t_icmp_eq (tgt := 1977) hx hb dL_law_1972 (by decide) (by omega) (by omega) (fun c_4 => ?_) (fun c_4 => ?_)
    · skip
      refine lv_iload hx hb dL_law_1977 (lv_at hl 1 rfl) ?_
      refine t_if_ne (tgt := 1993) hx hb dL_law_1979 (by decide) (by omega) (fun c_5 => ?_) (fun c_5 => ?_)
      · skip
        refine lv_goto (tgt := 2260) hx hb dL_law_1993 (by decide) ?_
        refine W.widen (k := cells + 10) (n := slots + 100) (by omega) (by omega) ?_
        exact kont σ G3 _ f f2 H locs ls ⟨hI, hY.ad (fun _ _ => rfl) (fun k hk => hf3 k (by omega)), hM3, (hf3 114 (by omega)).trans hO, (hf3 115 (by omega)).trans hO2⟩ hP hS (lv_sub hl [2, 3, 4, 5, 6, 7] rfl)
      · exfalso; omega
    · exfalso; omega

set_option maxHeartbeats 4000000 in
set_option maxRecDepth 100000 in
theorem lc_pieces {p : Program} {l : Launch} {e : Env} {s : State} {m : MethodId} {below : List Frame} {meth : Method} {c : Code} {b L : Nat} {xs : Nat → Int32} {D : va_G} {cT : Nat → ClassId} {ad : Nat → Nat} {A : Nat → Prop} {Q : State → Prop} {i cells slots : Nat} {H : Heap} {locs : List Loc} {ls : Array Slot} {σ : TY} {G : Nat → va_E} {th : Nat} {f : Nat → Int64} {f2 : Nat → UInt64} (hX9 : LX p l s m meth c b L xs D cT ad A) (hi : i + 8 ≤ L) (hc : cells + 10 ≤ 603072) (hs : slots + 100 ≤ 7227498) (hst : LSt cT ad G σ th f f2) (hP : va_P D vwCl (gw 116 ad G) H) (hS : va_S A s.heap H locs) (hl : lv_has ls 9 (LVL b ad i)) (kont : LK p l e s m below meth c b D cT ad A Q i (cells + 10) (slots + 100) 2260) : W p l e room_1 s m #[Value.ref b] below meth c H locs cells slots Q (F0 m 1996 ls []) := by
  obtain ⟨hx, hb, hml, hown, hw, hX, hbl, hbA, hK, hE, hA, hD, hN, hl9, hL⟩ := hX9
  obtain ⟨hI, hY, hM, hO, hO2⟩ := hst
  refine lv_aload_n hx hb dL_law_1996 rfl (lv_at hl 1 rfl) ?_
  refine lv_aload_n hx hb dL_law_1997 rfl (lv_at hl 0 rfl) ?_
  refine lv_iload hx hb dL_law_1998 (lv_at hl 5 rfl) ?_
  refine lv_iconst (v := nI 1) hx hb dL_law_2000 (by decide) ?_
  refine lv_iadd hx hb dL_law_2001 ?_
  refine t_eqi (nI (i + 1)) (nI_add i 1) ?_
  refine g_sld hx hb hX hbl hbA hS (j := i + 1) (by omega) (by omega) dL_law_2002 ?_
  refine lv_i2c (v := nI (chN (xs (i + 1)))) hx hb dL_law_2003 (chN_eq _) ?_
  refine lv_aload_n hx hb dL_law_2004 rfl (lv_at hl 0 rfl) ?_
  refine lv_iload hx hb dL_law_2005 (lv_at hl 5 rfl) ?_
  refine lv_iconst (v := nI 2) hx hb dL_law_2007 (by decide) ?_
  refine lv_iadd hx hb dL_law_2008 ?_
  refine t_eqi (nI (i + 2)) (nI_add i 2) ?_
  refine g_sld hx hb hX hbl hbA hS (j := i + 2) (by omega) (by omega) dL_law_2009 ?_
  refine lv_aload_n hx hb dL_law_2010 rfl (lv_at hl 0 rfl) ?_
  refine lv_iload hx hb dL_law_2011 (lv_at hl 5 rfl) ?_
  refine lv_iconst (v := nI 3) hx hb dL_law_2013 (by decide) ?_
  refine lv_iadd hx hb dL_law_2014 ?_
  refine t_eqi (nI (i + 3)) (nI_add i 3) ?_
  refine g_sld hx hb hX hbl hbA hS (j := i + 3) (by omega) (by omega) dL_law_2015 ?_
  refine lv_aload_n hx hb dL_law_2016 rfl (lv_at hl 3 rfl) ?_
  refine g_callSH (As := [.ref (ad 0), .int (nI (chN (xs (i + 1)))), .int (xs (i + 2)), .int (xs (i + 3)), .ref (ad 114)]) (rest := []) ⟨hx, hb, hml, hown, hw⟩ (mL_pieces l hl9 D cT 116 ad A hD G (Nat.le_refl _) σ hY hI f hO (chN (xs (i + 1))) (chN_lt _) (xs (i + 2)) (xs (i + 3))) (vx_cwSW 5 hw (gWSB wm_L_205 wst_L_pieces wini_L wcw_L_pieces) rfl rfl rfl (by decide +kernel) ⟨Nat.le_of_ble_eq_true rfl, Nat.le_of_ble_eq_true rfl⟩) hK hE hA hP hS rfl hl.1 (lv_room (Nat.le_of_ble_eq_true rfl)) dL_law_2017 ⟨by show cells + 0 + 2 ≤ 603072; omega, by show slots + 0 + 12 ≤ 7227498; omega⟩ (fun v G1 H locs hp hP hS => ?_)
  rcases hp with ⟨y8, G2, hcl, hO1, hfo, rfl⟩ | ⟨E, hpx, rfl, hg1⟩
  · skip
    rcases hcl with ⟨⟨mo, hmo1, hmo2, hy1, q, ro, hq, hro, hkq, hx1, hv, hY2⟩, hfr⟩
    have hfe : ∀ j, 69 ≤ j → G2 j = G j := hfr
    have hM1 : MW cT ad G1 σ th := hM.keep (fun j h1 h2 => (hfo j (by omega)).trans (hfe j (by omega)))
    have hY1 := hY2.ad (ad2 := ad) (G2 := G1) (fun _ _ => rfl) (fun k hk => hfo k (by omega))
    obtain rfl := Value.int.inj (Option.some.inj hv)
    refine lv_istore (lv' := [(6, .int (nI 0)), (0, .ref b), (1, .ref (ad 0)), (2, .ref (ad 69)), (3, .ref (ad 114)), (4, .ref (ad 115)), (5, .int (nI i))]) hx hb dL_law_2020 hl (by decide) rfl (fun ls hl => ?_)
    refine lv_aload_n hx hb dL_law_2022 rfl (lv_at hl 3 rfl) ?_
    refine lv_aload_n hx hb dL_law_2023 rfl (lv_at hl 1 rfl) ?_
    refine lv_iload hx hb dL_law_2024 (lv_at hl 6 rfl) ?_
    refine lv_iconst (v := nI 1) hx hb dL_law_2026 (by decide) ?_
    refine lv_iadd hx hb dL_law_2027 ?_
    refine t_eqi (nI (i + 1)) (nI_add i 1) ?_
    refine g_sld hx hb hX hbl hbA hS (j := i + 1) (by omega) (by omega) dL_law_2028 ?_
    refine lv_i2c (v := nI (chN (xs (i + 1)))) hx hb dL_law_2029 (chN_eq _) ?_
    refine lv_aload_n hx hb dL_law_2030 rfl (lv_at hl 1 rfl) ?_
    refine lv_iload hx hb dL_law_2031 (lv_at hl 6 rfl) ?_
    refine lv_iconst (v := nI 2) hx hb dL_law_2033 (by decide) ?_
    refine lv_iadd hx hb dL_law_2034 ?_
    refine t_eqi (nI (i + 2)) (nI_add i 2) ?_
    refine g_sld hx hb hX hbl hbA hS (j := i + 2) (by omega) (by omega) dL_law_2035 ?_
    refine t_eqi (nI ro) hx1 ?_
    refine lv_aload_n hx hb dL_law_2036 rfl (lv_at hl 1 rfl) ?_
    refine lv_iload hx hb dL_law_2037 (lv_at hl 6 rfl) ?_
    refine lv_iconst (v := nI 3) hx hb dL_law_2039 (by decide) ?_
    refine lv_iadd hx hb dL_law_2040 ?_
    refine t_eqi (nI (i + 3)) (nI_add i 3) ?_
    refine g_sld hx hb hX hbl hbA hS (j := i + 3) (by omega) (by omega) dL_law_2041 ?_
    refine t_eqi (nI mo) hy1 ?_
    refine g_callVC (As := [.int (nI (chN (xs (i + 1)))), .int (nI ro), .int (nI mo)]) (rest := []) ⟨hx, hb, hml, hown, hw⟩ (mX3_pieces_ok l D cT 116 ad A hD G1 (by omega) σ hI th hM1 (chN (xs (i + 1))) (chN_lt _) q ro hq hro hkq mo hmo1 hmo2) (cwV 3 hw (gWV wm_L_207 wi_X3_pieces wse_X3_pieces wini_X3 wc_X3_pieces) rfl rfl rfl (by decide +kernel) ⟨Nat.le_of_ble_eq_true rfl, Nat.le_of_ble_eq_true rfl⟩) hK hE hA hN hP hS (k := 69) (by omega) (MW.th hM1) rfl rfl hl.1 (lv_room (Nat.le_of_ble_eq_true rfl)) dL_law_2042 ⟨by show cells + 0 + 2 + 1 ≤ 603072; omega, by show slots + 0 + 12 + 49 ≤ 7227498; omega⟩ (fun v G3 H locs hp3 hP hS => ?_)
    obtain ⟨⟨rfl, hM3⟩, hf3⟩ := hp3
    refine lv_istore (lv' := [(7, .int (nI (pcs mo 8 (σ.1 (4 * q + ro)).1))), (6, .int (nI 0)), (0, .ref b), (1, .ref (ad 0)), (2, .ref (ad 69)), (3, .ref (ad 114)), (4, .ref (ad 115)), (5, .int (nI i))]) hx hb dL_law_2045 hl (by decide) rfl (fun ls hl => ?_)
    refine lv_aload_n hx hb dL_law_2047 rfl (lv_at hl 4 rfl) ?_
    refine g_callV (As := []) (rest := []) ⟨hx, hb, hml, hown, hw⟩ (mX3_thrown l D cT 116 ad A hD G3 (by omega) 0 (MW.th hM3)) (cwV 0 hw (gWV wm_L_126 wi_X3_thrown wse_X3_thrown wini_X3 wc_X3_thrown) rfl rfl rfl (by decide +kernel) ⟨Nat.le_of_ble_eq_true rfl, Nat.le_of_ble_eq_true rfl⟩) hK hE hA hP hS (k := 69) (by omega) (MW.th hM3) rfl rfl hl.1 (lv_room (Nat.le_of_ble_eq_true rfl)) dL_law_2048 ⟨by show cells + 0 + 2 + 1 + 0 ≤ 603072; omega, by show slots + 0 + 12 + 49 + 0 ≤ 7227498; omega⟩ (fun v G4 H locs hp hP hS => ?_)
    obtain ⟨hv, hg⟩ := hp
    subst hv
    rw [hg] at hP
    refine lv_iload hx hb dL_law_2051 (lv_at hl 1 rfl) ?_
    refine t_icmp_eq (tgt := 2058) hx hb dL_law_2053 (by decide) (by omega) (by omega) (fun c_1 => ?_) (fun c_1 => absurd c_1 (by omega))
    refine lv_iload hx hb dL_law_2058 (lv_at hl 1 rfl) ?_
    refine t_if_ne (tgt := 2075) hx hb dL_law_2060 (by decide) (by omega) (fun c_2 => absurd c_2 (by omega)) (fun c_2 => ?_)
    refine lv_aload_n hx hb dL_law_2063 rfl (lv_at hl 5 rfl) ?_
    refine lv_iconst (v := nI 0) hx hb dL_law_2064 (by decide) ?_
    refine g_lald hx hb hK hP (i := 114) (by omega) ((hf3 _ (by omega)).trans hO1) (by omega) (by omega) dL_law_2065 ?_
    refine t_eql ((nI (pcs mo 8 (σ.1 (4 * q + ro)).1)).toInt64) (va_up_self _ _ _) ?_
    refine lv_iload hx hb dL_law_2066 (lv_at hl 0 rfl) ?_
    refine lv_i2l hx hb dL_law_2068 rfl ?_
    refine W.lcmp hx hb dL_law_2069 ?_
    refine t_eqi (nI 0) (lgc_eq rfl) ?_
    refine t_if_eq (tgt := 2075) hx hb dL_law_2070 (by decide) (by omega) (fun c_3 => ?_) (fun c_3 => absurd c_3 (by omega))
    refine lv_goto (tgt := 2260) hx hb dL_law_2075 (by decide) ?_
    refine W.widen (k := cells + 10) (n := slots + 100) (by omega) (by omega) ?_
    exact kont _ G3 0 _ _ H locs ls ⟨hI, hY1.ad (fun _ _ => rfl) (fun k hk => hf3 k (by omega)), hM3, (hf3 114 (by omega)).trans hO1, (hf3 115 (by omega)).trans ((hfo 115 (by omega)).trans ((hfe 115 (by omega)).trans hO2))⟩ hP hS (lv_sub hl [2, 3, 4, 5, 6, 7] rfl)
  · skip
    rw [hg1] at hP
    have hcd1 := cd_pos [xIA, xIO] E
    have hcd3 := cd_le [xIA, xIO] E
    have hcd4 : ([xIA, xIO] : List String).length ≤ 3 := by decide
    have hcd2 : cd [xIA, xIO] E < 65536 := by omega
    refine lv_istore (lv' := [(6, .int (nI (cd [xIA, xIO] E))), (0, .ref b), (1, .ref (ad 0)), (2, .ref (ad 69)), (3, .ref (ad 114)), (4, .ref (ad 115)), (5, .int (nI i))]) hx hb dL_law_2020 hl (by decide) rfl (fun ls hl => ?_)
    refine lv_aload_n hx hb dL_law_2022 rfl (lv_at hl 3 rfl) ?_
    refine lv_aload_n hx hb dL_law_2023 rfl (lv_at hl 1 rfl) ?_
    refine lv_iload hx hb dL_law_2024 (lv_at hl 6 rfl) ?_
    refine lv_iconst (v := nI 1) hx hb dL_law_2026 (by decide) ?_
    refine lv_iadd hx hb dL_law_2027 ?_
    refine t_eqi (nI (i + 1)) (nI_add i 1) ?_
    refine g_sld hx hb hX hbl hbA hS (j := i + 1) (by omega) (by omega) dL_law_2028 ?_
    refine lv_i2c (v := nI (chN (xs (i + 1)))) hx hb dL_law_2029 (chN_eq _) ?_
    refine lv_aload_n hx hb dL_law_2030 rfl (lv_at hl 1 rfl) ?_
    refine lv_iload hx hb dL_law_2031 (lv_at hl 6 rfl) ?_
    refine lv_iconst (v := nI 2) hx hb dL_law_2033 (by decide) ?_
    refine lv_iadd hx hb dL_law_2034 ?_
    refine t_eqi (nI (i + 2)) (nI_add i 2) ?_
    refine g_sld hx hb hX hbl hbA hS (j := i + 2) (by omega) (by omega) dL_law_2035 ?_
    refine lv_aload_n hx hb dL_law_2036 rfl (lv_at hl 1 rfl) ?_
    refine lv_iload hx hb dL_law_2037 (lv_at hl 6 rfl) ?_
    refine lv_iconst (v := nI 3) hx hb dL_law_2039 (by decide) ?_
    refine lv_iadd hx hb dL_law_2040 ?_
    refine t_eqi (nI (i + 3)) (nI_add i 3) ?_
    refine g_sld hx hb hX hbl hbA hS (j := i + 3) (by omega) (by omega) dL_law_2041 ?_
    refine g_callV (As := [.int (nI (chN (xs (i + 1)))), .int (xs (i + 2)), .int (xs (i + 3))]) (rest := []) ⟨hx, hb, hml, hown, hw⟩ (mX3_pieces_no l D cT 116 ad A hD G (by omega) σ hI th hM (chN (xs (i + 1))) (chN_lt _) (xs (i + 2)) (xs (i + 3)) E hpx) (cwV 3 hw (gWV wm_L_207 wi_X3_pieces wse_X3_pieces wini_X3 wc_X3_pieces) rfl rfl rfl (by decide +kernel) ⟨Nat.le_of_ble_eq_true rfl, Nat.le_of_ble_eq_true rfl⟩) hK hE hA hP hS (k := 69) (by omega) (MW.th hM) rfl rfl hl.1 (lv_room (Nat.le_of_ble_eq_true rfl)) dL_law_2042 ⟨by show cells + 0 + 2 + 0 ≤ 603072; omega, by show slots + 0 + 12 + 0 ≤ 7227498; omega⟩ (fun v G3 H locs hp3 hP hS => ?_)
    obtain ⟨⟨⟨z9, rfl⟩, hM3⟩, hf3⟩ := hp3
    refine lv_istore (lv' := [(7, .int z9), (6, .int (nI (cd [xIA, xIO] E))), (0, .ref b), (1, .ref (ad 0)), (2, .ref (ad 69)), (3, .ref (ad 114)), (4, .ref (ad 115)), (5, .int (nI i))]) hx hb dL_law_2045 hl (by decide) rfl (fun ls hl => ?_)
    refine lv_aload_n hx hb dL_law_2047 rfl (lv_at hl 4 rfl) ?_
    refine g_callV (As := []) (rest := []) ⟨hx, hb, hml, hown, hw⟩ (mX3_thrown l D cT 116 ad A hD G3 (by omega) (cd [xIA, xIO] E) (MW.th hM3)) (cwV 0 hw (gWV wm_L_126 wi_X3_thrown wse_X3_thrown wini_X3 wc_X3_thrown) rfl rfl rfl (by decide +kernel) ⟨Nat.le_of_ble_eq_true rfl, Nat.le_of_ble_eq_true rfl⟩) hK hE hA hP hS (k := 69) (by omega) (MW.th hM3) rfl rfl hl.1 (lv_room (Nat.le_of_ble_eq_true rfl)) dL_law_2048 ⟨by show cells + 0 + 2 + 0 + 0 ≤ 603072; omega, by show slots + 0 + 12 + 0 + 0 ≤ 7227498; omega⟩ (fun v G4 H locs hp hP hS => ?_)
    obtain ⟨hv, hg⟩ := hp
    subst hv
    rw [hg] at hP
    refine lv_iload hx hb dL_law_2051 (lv_at hl 1 rfl) ?_
    refine t_icmp_eq (tgt := 2058) hx hb dL_law_2053 (by decide) (by omega) (by omega) (fun c_4 => ?_) (fun c_4 => ?_)
    · skip
      refine lv_iload hx hb dL_law_2058 (lv_at hl 1 rfl) ?_
      refine t_if_ne (tgt := 2075) hx hb dL_law_2060 (by decide) (by omega) (fun c_5 => ?_) (fun c_5 => ?_)
      · skip
        refine lv_goto (tgt := 2260) hx hb dL_law_2075 (by decide) ?_
        refine W.widen (k := cells + 10) (n := slots + 100) (by omega) (by omega) ?_
        exact kont σ G3 _ f f2 H locs ls ⟨hI, hY.ad (fun _ _ => rfl) (fun k hk => hf3 k (by omega)), hM3, (hf3 114 (by omega)).trans hO, (hf3 115 (by omega)).trans hO2⟩ hP hS (lv_sub hl [2, 3, 4, 5, 6, 7] rfl)
      · exfalso; omega
    · exfalso; omega

set_option maxHeartbeats 4000000 in
set_option maxRecDepth 100000 in
theorem lc_share {p : Program} {l : Launch} {e : Env} {s : State} {m : MethodId} {below : List Frame} {meth : Method} {c : Code} {b L : Nat} {xs : Nat → Int32} {D : va_G} {cT : Nat → ClassId} {ad : Nat → Nat} {A : Nat → Prop} {Q : State → Prop} {i cells slots : Nat} {H : Heap} {locs : List Loc} {ls : Array Slot} {σ : TY} {G : Nat → va_E} {th : Nat} {f : Nat → Int64} {f2 : Nat → UInt64} (hX9 : LX p l s m meth c b L xs D cT ad A) (hi : i + 8 ≤ L) (hc : cells + 10 ≤ 603072) (hs : slots + 100 ≤ 7227498) (hst : LSt cT ad G σ th f f2) (hP : va_P D vwCl (gw 116 ad G) H) (hS : va_S A s.heap H locs) (hl : lv_has ls 9 (LVL b ad i)) (kont : LK p l e s m below meth c b D cT ad A Q i (cells + 10) (slots + 100) 2260) : W p l e room_1 s m #[Value.ref b] below meth c H locs cells slots Q (F0 m 2078 ls []) := by
  obtain ⟨hx, hb, hml, hown, hw, hX, hbl, hbA, hK, hE, hA, hD, hN, hl9, hL⟩ := hX9
  obtain ⟨hI, hY, hM, hO, hO2⟩ := hst
  refine lv_aload_n hx hb dL_law_2078 rfl (lv_at hl 1 rfl) ?_
  refine lv_aload_n hx hb dL_law_2079 rfl (lv_at hl 0 rfl) ?_
  refine lv_iload hx hb dL_law_2080 (lv_at hl 5 rfl) ?_
  refine lv_iconst (v := nI 1) hx hb dL_law_2082 (by decide) ?_
  refine lv_iadd hx hb dL_law_2083 ?_
  refine t_eqi (nI (i + 1)) (nI_add i 1) ?_
  refine g_sld hx hb hX hbl hbA hS (j := i + 1) (by omega) (by omega) dL_law_2084 ?_
  refine lv_aload hx hb dL_law_2085 (lv_at hl 4 rfl) ?_
  refine g_callSH (As := [.ref (ad 0), .int (xs (i + 1)), .ref (ad 115)]) (rest := []) ⟨hx, hb, hml, hown, hw⟩ (mL_share l hl9 D cT 116 ad A hD G (Nat.le_refl _) σ hY hI f2 hO2 (xs (i + 1))) (vx_cwSW 3 hw (gWSB wm_L_208 wst_L_share wini_L wcw_L_share) rfl rfl rfl (by decide +kernel) ⟨Nat.le_of_ble_eq_true rfl, Nat.le_of_ble_eq_true rfl⟩) hK hE hA hP hS rfl hl.1 (lv_room (Nat.le_of_ble_eq_true rfl)) dL_law_2087 ⟨by show cells + 0 + 2 ≤ 603072; omega, by show slots + 0 + 12 ≤ 7227498; omega⟩ (fun v G1 H locs hp hP hS => ?_)
  rcases hp with ⟨y8, G2, hcl, hO1, hfo, rfl⟩ | ⟨E, hpx, rfl, hg1⟩
  · skip
    rcases hcl with ⟨⟨b9, hb9, hx1, hz9, hv⟩, hfr⟩
    have hfe : ∀ j, 69 ≤ j → G2 j = G j := fun j _ => by rw [hfr]
    have hM1 : MW cT ad G1 σ th := hM.keep (fun j h1 h2 => (hfo j (by omega)).trans (hfe j (by omega)))
    have hY1 := hY.ad (ad2 := ad) (G2 := G1) (fun _ _ => rfl) (fun k hk => (hfo k (by omega)).trans (by rw [hfr]))
    obtain rfl := Value.float.inj (Option.some.inj hv)
    have hc96 := Nat.le_trans (cnt_le (σ.2 b9).2.2.2.2.1 (σ.2 b9).2.1) (BI_cap (hI.2 b9 hb9).1)
    have hs48 := (hI.2 b9 hb9).1.1
    refine lv_istore (lv' := [(6, .int (nI 0)), (0, .ref b), (1, .ref (ad 0)), (2, .ref (ad 69)), (3, .ref (ad 114)), (4, .ref (ad 115)), (5, .int (nI i))]) hx hb dL_law_2090 hl (by decide) rfl (fun ls hl => ?_)
    refine lv_aload_n hx hb dL_law_2092 rfl (lv_at hl 3 rfl) ?_
    refine lv_aload_n hx hb dL_law_2093 rfl (lv_at hl 1 rfl) ?_
    refine lv_iload hx hb dL_law_2094 (lv_at hl 6 rfl) ?_
    refine lv_iconst (v := nI 1) hx hb dL_law_2096 (by decide) ?_
    refine lv_iadd hx hb dL_law_2097 ?_
    refine t_eqi (nI (i + 1)) (nI_add i 1) ?_
    refine g_sld hx hb hX hbl hbA hS (j := i + 1) (by omega) (by omega) dL_law_2098 ?_
    refine t_eqi (nI b9) hx1 ?_
    refine g_callV (As := [.int (nI b9)]) (rest := []) ⟨hx, hb, hml, hown, hw⟩ (mX3_share_ok l D cT 116 ad A hD G1 (by omega) σ hI th hM1 b9 hb9 hz9) (cwV 1 hw (gWV wm_L_211 wi_X3_share wse_X3_share wini_X3 wc_X3_share) rfl rfl rfl (by decide +kernel) ⟨Nat.le_of_ble_eq_true rfl, Nat.le_of_ble_eq_true rfl⟩) hK hE hA hP hS (k := 69) (by omega) (MW.th hM1) rfl rfl hl.1 (lv_room (Nat.le_of_ble_eq_true rfl)) dL_law_2099 ⟨by show cells + 0 + 2 + 0 ≤ 603072; omega, by show slots + 0 + 12 + 0 ≤ 7227498; omega⟩ (fun v G3 H locs hp3 hP hS => ?_)
    obtain ⟨⟨rfl, hM3⟩, hf3⟩ := hp3
    refine lv_fstore (lv' := [(7, .float (shF (cnt (σ.2 b9).2.2.2.2.1 (σ.2 b9).2.1) (σ.2 b9).1)), (6, .int (nI 0)), (0, .ref b), (1, .ref (ad 0)), (2, .ref (ad 69)), (3, .ref (ad 114)), (4, .ref (ad 115)), (5, .int (nI i))]) hx hb dL_law_2102 hl (by decide) rfl (fun ls hl => ?_)
    refine lv_aload_n hx hb dL_law_2104 rfl (lv_at hl 4 rfl) ?_
    refine g_callV (As := []) (rest := []) ⟨hx, hb, hml, hown, hw⟩ (mX3_thrown l D cT 116 ad A hD G3 (by omega) 0 (MW.th hM3)) (cwV 0 hw (gWV wm_L_126 wi_X3_thrown wse_X3_thrown wini_X3 wc_X3_thrown) rfl rfl rfl (by decide +kernel) ⟨Nat.le_of_ble_eq_true rfl, Nat.le_of_ble_eq_true rfl⟩) hK hE hA hP hS (k := 69) (by omega) (MW.th hM3) rfl rfl hl.1 (lv_room (Nat.le_of_ble_eq_true rfl)) dL_law_2105 ⟨by show cells + 0 + 2 + 0 + 0 ≤ 603072; omega, by show slots + 0 + 12 + 0 + 0 ≤ 7227498; omega⟩ (fun v G4 H locs hp hP hS => ?_)
    obtain ⟨hv, hg⟩ := hp
    subst hv
    rw [hg] at hP
    refine lv_iload hx hb dL_law_2108 (lv_at hl 1 rfl) ?_
    refine t_icmp_eq (tgt := 2115) hx hb dL_law_2110 (by decide) (by omega) (by omega) (fun c_1 => ?_) (fun c_1 => absurd c_1 (by omega))
    refine lv_iload hx hb dL_law_2115 (lv_at hl 1 rfl) ?_
    refine t_if_ne (tgt := 2153) hx hb dL_law_2117 (by decide) (by omega) (fun c_2 => absurd c_2 (by omega)) (fun c_2 => ?_)
    refine lv_aload hx hb dL_law_2120 (lv_at hl 6 rfl) ?_
    refine lv_iconst (v := nI 0) hx hb dL_law_2122 (by decide) ?_
    refine g_dald hx hb hK hP (i := 115) (by omega) ((hf3 _ (by omega)).trans hO1) (by omega) (by omega) dL_law_2123 ?_
    refine lv_fload hx hb dL_law_2124 (lv_at hl 0 rfl) ?_
    refine lv_f2d hx hb dL_law_2126 (sh2_ok hc96 hs48 hz9) ?_
    refine lv_dcmp hx hb dL_law_2127 ?_
    refine t_eqi (nI 0) ((congrArg (fun z => Op.cmpValue (FP.dcmp z _) .l) (va_up_self _ _ _)).trans (sh3_ok hc96 hs48 hz9)) ?_
    refine t_if_eq (tgt := 2153) hx hb dL_law_2128 (by decide) (by omega) (fun c_3 => ?_) (fun c_3 => absurd c_3 (by omega))
    refine lv_goto (tgt := 2260) hx hb dL_law_2153 (by decide) ?_
    refine W.widen (k := cells + 10) (n := slots + 100) (by omega) (by omega) ?_
    exact kont _ G3 0 _ _ H locs ls ⟨hI, hY1.ad (fun _ _ => rfl) (fun k hk => hf3 k (by omega)), hM3, (hf3 114 (by omega)).trans ((hfo 114 (by omega)).trans ((hfe 114 (by omega)).trans hO)), (hf3 115 (by omega)).trans hO1⟩ hP hS (lv_sub hl [2, 3, 4, 5, 6, 7] rfl)
  · skip
    rw [hg1] at hP
    have hcd1 := cd_pos [xIO, xAR] E
    have hcd3 := cd_le [xIO, xAR] E
    have hcd4 : ([xIO, xAR] : List String).length ≤ 3 := by decide
    have hcd2 : cd [xIO, xAR] E < 65536 := by omega
    refine lv_istore (lv' := [(6, .int (nI (cd [xIO, xAR] E))), (0, .ref b), (1, .ref (ad 0)), (2, .ref (ad 69)), (3, .ref (ad 114)), (4, .ref (ad 115)), (5, .int (nI i))]) hx hb dL_law_2090 hl (by decide) rfl (fun ls hl => ?_)
    refine lv_aload_n hx hb dL_law_2092 rfl (lv_at hl 3 rfl) ?_
    refine lv_aload_n hx hb dL_law_2093 rfl (lv_at hl 1 rfl) ?_
    refine lv_iload hx hb dL_law_2094 (lv_at hl 6 rfl) ?_
    refine lv_iconst (v := nI 1) hx hb dL_law_2096 (by decide) ?_
    refine lv_iadd hx hb dL_law_2097 ?_
    refine t_eqi (nI (i + 1)) (nI_add i 1) ?_
    refine g_sld hx hb hX hbl hbA hS (j := i + 1) (by omega) (by omega) dL_law_2098 ?_
    refine g_callV (As := [.int (xs (i + 1))]) (rest := []) ⟨hx, hb, hml, hown, hw⟩ (mX3_share_no l D cT 116 ad A hD G (by omega) σ hI th hM (xs (i + 1)) E hpx) (cwV 1 hw (gWV wm_L_211 wi_X3_share wse_X3_share wini_X3 wc_X3_share) rfl rfl rfl (by decide +kernel) ⟨Nat.le_of_ble_eq_true rfl, Nat.le_of_ble_eq_true rfl⟩) hK hE hA hP hS (k := 69) (by omega) (MW.th hM) rfl rfl hl.1 (lv_room (Nat.le_of_ble_eq_true rfl)) dL_law_2099 ⟨by show cells + 0 + 2 + 0 ≤ 603072; omega, by show slots + 0 + 12 + 0 ≤ 7227498; omega⟩ (fun v G3 H locs hp3 hP hS => ?_)
    obtain ⟨⟨⟨z9, rfl⟩, hM3⟩, hf3⟩ := hp3
    refine lv_fstore (lv' := [(7, .float z9), (6, .int (nI (cd [xIO, xAR] E))), (0, .ref b), (1, .ref (ad 0)), (2, .ref (ad 69)), (3, .ref (ad 114)), (4, .ref (ad 115)), (5, .int (nI i))]) hx hb dL_law_2102 hl (by decide) rfl (fun ls hl => ?_)
    refine lv_aload_n hx hb dL_law_2104 rfl (lv_at hl 4 rfl) ?_
    refine g_callV (As := []) (rest := []) ⟨hx, hb, hml, hown, hw⟩ (mX3_thrown l D cT 116 ad A hD G3 (by omega) (cd [xIO, xAR] E) (MW.th hM3)) (cwV 0 hw (gWV wm_L_126 wi_X3_thrown wse_X3_thrown wini_X3 wc_X3_thrown) rfl rfl rfl (by decide +kernel) ⟨Nat.le_of_ble_eq_true rfl, Nat.le_of_ble_eq_true rfl⟩) hK hE hA hP hS (k := 69) (by omega) (MW.th hM3) rfl rfl hl.1 (lv_room (Nat.le_of_ble_eq_true rfl)) dL_law_2105 ⟨by show cells + 0 + 2 + 0 + 0 ≤ 603072; omega, by show slots + 0 + 12 + 0 + 0 ≤ 7227498; omega⟩ (fun v G4 H locs hp hP hS => ?_)
    obtain ⟨hv, hg⟩ := hp
    subst hv
    rw [hg] at hP
    refine lv_iload hx hb dL_law_2108 (lv_at hl 1 rfl) ?_
    refine t_icmp_eq (tgt := 2115) hx hb dL_law_2110 (by decide) (by omega) (by omega) (fun c_4 => ?_) (fun c_4 => ?_)
    · skip
      refine lv_iload hx hb dL_law_2115 (lv_at hl 1 rfl) ?_
      refine t_if_ne (tgt := 2153) hx hb dL_law_2117 (by decide) (by omega) (fun c_5 => ?_) (fun c_5 => ?_)
      · skip
        refine lv_goto (tgt := 2260) hx hb dL_law_2153 (by decide) ?_
        refine W.widen (k := cells + 10) (n := slots + 100) (by omega) (by omega) ?_
        exact kont σ G3 _ f f2 H locs ls ⟨hI, hY.ad (fun _ _ => rfl) (fun k hk => hf3 k (by omega)), hM3, (hf3 114 (by omega)).trans hO, (hf3 115 (by omega)).trans hO2⟩ hP hS (lv_sub hl [2, 3, 4, 5, 6, 7] rfl)
      · exfalso; omega
    · exfalso; omega

set_option maxHeartbeats 4000000 in
set_option maxRecDepth 100000 in
theorem lc_meanLeft {p : Program} {l : Launch} {e : Env} {s : State} {m : MethodId} {below : List Frame} {meth : Method} {c : Code} {b L : Nat} {xs : Nat → Int32} {D : va_G} {cT : Nat → ClassId} {ad : Nat → Nat} {A : Nat → Prop} {Q : State → Prop} {i cells slots : Nat} {H : Heap} {locs : List Loc} {ls : Array Slot} {σ : TY} {G : Nat → va_E} {th : Nat} {f : Nat → Int64} {f2 : Nat → UInt64} (hX9 : LX p l s m meth c b L xs D cT ad A) (hi : i + 8 ≤ L) (hc : cells + 10 ≤ 603072) (hs : slots + 100 ≤ 7227498) (hst : LSt cT ad G σ th f f2) (hP : va_P D vwCl (gw 116 ad G) H) (hS : va_S A s.heap H locs) (hl : lv_has ls 9 (LVL b ad i)) (kont : LK p l e s m below meth c b D cT ad A Q i (cells + 10) (slots + 100) 2260) : W p l e room_1 s m #[Value.ref b] below meth c H locs cells slots Q (F0 m 2156 ls []) := by
  obtain ⟨hx, hb, hml, hown, hw, hX, hbl, hbA, hK, hE, hA, hD, hN, hl9, hL⟩ := hX9
  obtain ⟨hI, hY, hM, hO, hO2⟩ := hst
  refine lv_aload_n hx hb dL_law_2156 rfl (lv_at hl 1 rfl) ?_
  refine lv_aload_n hx hb dL_law_2157 rfl (lv_at hl 0 rfl) ?_
  refine lv_iload hx hb dL_law_2158 (lv_at hl 5 rfl) ?_
  refine lv_iconst (v := nI 1) hx hb dL_law_2160 (by decide) ?_
  refine lv_iadd hx hb dL_law_2161 ?_
  refine t_eqi (nI (i + 1)) (nI_add i 1) ?_
  refine g_sld hx hb hX hbl hbA hS (j := i + 1) (by omega) (by omega) dL_law_2162 ?_
  refine lv_aload hx hb dL_law_2163 (lv_at hl 4 rfl) ?_
  refine g_callSH (As := [.ref (ad 0), .int (xs (i + 1)), .ref (ad 115)]) (rest := []) ⟨hx, hb, hml, hown, hw⟩ (mL_meanLeft l hl9 D cT 116 ad A hD G (Nat.le_refl _) σ hY hI f2 hO2 (xs (i + 1))) (vx_cwSW 3 hw (gWSB wm_L_212 wst_L_meanLeft wini_L wcw_L_meanLeft) rfl rfl rfl (by decide +kernel) ⟨Nat.le_of_ble_eq_true rfl, Nat.le_of_ble_eq_true rfl⟩) hK hE hA hP hS rfl hl.1 (lv_room (Nat.le_of_ble_eq_true rfl)) dL_law_2165 ⟨by show cells + 0 + 2 ≤ 603072; omega, by show slots + 0 + 12 ≤ 7227498; omega⟩ (fun v G1 H locs hp hP hS => ?_)
  rcases hp with ⟨y8, G2, hcl, hO1, hfo, rfl⟩ | ⟨E, hpx, rfl, hg1⟩
  · skip
    rcases hcl with ⟨⟨b9, hb9, hx1, hz9, hv⟩, hfr⟩
    have hfe : ∀ j, 69 ≤ j → G2 j = G j := fun j _ => by rw [hfr]
    have hM1 : MW cT ad G1 σ th := hM.keep (fun j h1 h2 => (hfo j (by omega)).trans (hfe j (by omega)))
    have hY1 := hY.ad (ad2 := ad) (G2 := G1) (fun _ _ => rfl) (fun k hk => (hfo k (by omega)).trans (by rw [hfr]))
    obtain rfl := Value.double.inj (Option.some.inj hv)
    have hc96 := BI_cap (hI.2 b9 hb9).1
    have hl48 := lft_le (σ.2 b9).2.2.2.2.1 (σ.2 b9).2.2.2.2.2 (σ.2 b9).2.1
    have hp48 := (hI.2 b9 hb9).1.2.1
    have hs48 := (hI.2 b9 hb9).1.1
    refine lv_istore (lv' := [(6, .int (nI 0)), (0, .ref b), (1, .ref (ad 0)), (2, .ref (ad 69)), (3, .ref (ad 114)), (4, .ref (ad 115)), (5, .int (nI i))]) hx hb dL_law_2168 hl (by decide) rfl (fun ls hl => ?_)
    refine lv_aload_n hx hb dL_law_2170 rfl (lv_at hl 3 rfl) ?_
    refine lv_aload_n hx hb dL_law_2171 rfl (lv_at hl 1 rfl) ?_
    refine lv_iload hx hb dL_law_2172 (lv_at hl 6 rfl) ?_
    refine lv_iconst (v := nI 1) hx hb dL_law_2174 (by decide) ?_
    refine lv_iadd hx hb dL_law_2175 ?_
    refine t_eqi (nI (i + 1)) (nI_add i 1) ?_
    refine g_sld hx hb hX hbl hbA hS (j := i + 1) (by omega) (by omega) dL_law_2176 ?_
    refine t_eqi (nI b9) hx1 ?_
    refine g_callV (As := [.int (nI b9)]) (rest := []) ⟨hx, hb, hml, hown, hw⟩ (mX3_meanLeft_ok l D cT 116 ad A hD G1 (by omega) σ hI th hM1 b9 hb9 hz9) (cwV 1 hw (gWV wm_L_214 wi_X3_meanLeft wse_X3_meanLeft wini_X3 wc_X3_meanLeft) rfl rfl rfl (by decide +kernel) ⟨Nat.le_of_ble_eq_true rfl, Nat.le_of_ble_eq_true rfl⟩) hK hE hA hP hS (k := 69) (by omega) (MW.th hM1) rfl rfl hl.1 (lv_room (Nat.le_of_ble_eq_true rfl)) dL_law_2177 ⟨by show cells + 0 + 2 + 0 ≤ 603072; omega, by show slots + 0 + 12 + 0 ≤ 7227498; omega⟩ (fun v G3 H locs hp3 hP hS => ?_)
    obtain ⟨⟨rfl, hM3⟩, hf3⟩ := hp3
    refine lv_dstore (lv' := [(7, .double (mnF (lft (σ.2 b9).2.2.2.2.1 (σ.2 b9).2.2.2.2.2 (σ.2 b9).2.1) ((σ.2 b9).2.1 - cnt (σ.2 b9).2.2.2.2.1 (σ.2 b9).2.1))), (6, .int (nI 0)), (0, .ref b), (1, .ref (ad 0)), (2, .ref (ad 69)), (3, .ref (ad 114)), (4, .ref (ad 115)), (5, .int (nI i))]) hx hb dL_law_2180 hl (by decide) rfl (fun ls hl => ?_)
    refine lv_aload_n hx hb dL_law_2182 rfl (lv_at hl 4 rfl) ?_
    refine g_callV (As := []) (rest := []) ⟨hx, hb, hml, hown, hw⟩ (mX3_thrown l D cT 116 ad A hD G3 (by omega) 0 (MW.th hM3)) (cwV 0 hw (gWV wm_L_126 wi_X3_thrown wse_X3_thrown wini_X3 wc_X3_thrown) rfl rfl rfl (by decide +kernel) ⟨Nat.le_of_ble_eq_true rfl, Nat.le_of_ble_eq_true rfl⟩) hK hE hA hP hS (k := 69) (by omega) (MW.th hM3) rfl rfl hl.1 (lv_room (Nat.le_of_ble_eq_true rfl)) dL_law_2183 ⟨by show cells + 0 + 2 + 0 + 0 ≤ 603072; omega, by show slots + 0 + 12 + 0 + 0 ≤ 7227498; omega⟩ (fun v G4 H locs hp hP hS => ?_)
    obtain ⟨hv, hg⟩ := hp
    subst hv
    rw [hg] at hP
    refine lv_iload hx hb dL_law_2186 (lv_at hl 1 rfl) ?_
    refine t_icmp_eq (tgt := 2193) hx hb dL_law_2188 (by decide) (by omega) (by omega) (fun c_1 => ?_) (fun c_1 => absurd c_1 (by omega))
    refine lv_iload hx hb dL_law_2193 (lv_at hl 1 rfl) ?_
    refine t_if_ne (tgt := 2230) hx hb dL_law_2195 (by decide) (by omega) (fun c_2 => absurd c_2 (by omega)) (fun c_2 => ?_)
    refine lv_aload hx hb dL_law_2198 (lv_at hl 6 rfl) ?_
    refine lv_iconst (v := nI 0) hx hb dL_law_2200 (by decide) ?_
    refine g_dald hx hb hK hP (i := 115) (by omega) ((hf3 _ (by omega)).trans hO1) (by omega) (by omega) dL_law_2201 ?_
    refine lv_dload hx hb dL_law_2202 (lv_at hl 0 rfl) ?_
    refine lv_dcmp hx hb dL_law_2204 ?_
    refine t_eqi (nI 0) ((congrArg (fun z => Op.cmpValue (FP.dcmp z _) .l) (va_up_self _ _ _)).trans (mn3_ok (by omega) (by omega) hz9)) ?_
    refine t_if_eq (tgt := 2230) hx hb dL_law_2205 (by decide) (by omega) (fun c_3 => ?_) (fun c_3 => absurd c_3 (by omega))
    refine lv_goto (tgt := 2260) hx hb dL_law_2230 (by decide) ?_
    refine W.widen (k := cells + 10) (n := slots + 100) (by omega) (by omega) ?_
    exact kont _ G3 0 _ _ H locs ls ⟨hI, hY1.ad (fun _ _ => rfl) (fun k hk => hf3 k (by omega)), hM3, (hf3 114 (by omega)).trans ((hfo 114 (by omega)).trans ((hfe 114 (by omega)).trans hO)), (hf3 115 (by omega)).trans hO1⟩ hP hS (lv_sub hl [2, 3, 4, 5, 6, 7] rfl)
  · skip
    rw [hg1] at hP
    have hcd1 := cd_pos [xIO, xAR] E
    have hcd3 := cd_le [xIO, xAR] E
    have hcd4 : ([xIO, xAR] : List String).length ≤ 3 := by decide
    have hcd2 : cd [xIO, xAR] E < 65536 := by omega
    refine lv_istore (lv' := [(6, .int (nI (cd [xIO, xAR] E))), (0, .ref b), (1, .ref (ad 0)), (2, .ref (ad 69)), (3, .ref (ad 114)), (4, .ref (ad 115)), (5, .int (nI i))]) hx hb dL_law_2168 hl (by decide) rfl (fun ls hl => ?_)
    refine lv_aload_n hx hb dL_law_2170 rfl (lv_at hl 3 rfl) ?_
    refine lv_aload_n hx hb dL_law_2171 rfl (lv_at hl 1 rfl) ?_
    refine lv_iload hx hb dL_law_2172 (lv_at hl 6 rfl) ?_
    refine lv_iconst (v := nI 1) hx hb dL_law_2174 (by decide) ?_
    refine lv_iadd hx hb dL_law_2175 ?_
    refine t_eqi (nI (i + 1)) (nI_add i 1) ?_
    refine g_sld hx hb hX hbl hbA hS (j := i + 1) (by omega) (by omega) dL_law_2176 ?_
    refine g_callV (As := [.int (xs (i + 1))]) (rest := []) ⟨hx, hb, hml, hown, hw⟩ (mX3_meanLeft_no l D cT 116 ad A hD G (by omega) σ hI th hM (xs (i + 1)) E hpx) (cwV 1 hw (gWV wm_L_214 wi_X3_meanLeft wse_X3_meanLeft wini_X3 wc_X3_meanLeft) rfl rfl rfl (by decide +kernel) ⟨Nat.le_of_ble_eq_true rfl, Nat.le_of_ble_eq_true rfl⟩) hK hE hA hP hS (k := 69) (by omega) (MW.th hM) rfl rfl hl.1 (lv_room (Nat.le_of_ble_eq_true rfl)) dL_law_2177 ⟨by show cells + 0 + 2 + 0 ≤ 603072; omega, by show slots + 0 + 12 + 0 ≤ 7227498; omega⟩ (fun v G3 H locs hp3 hP hS => ?_)
    obtain ⟨⟨⟨z9, rfl⟩, hM3⟩, hf3⟩ := hp3
    refine lv_dstore (lv' := [(7, .double z9), (6, .int (nI (cd [xIO, xAR] E))), (0, .ref b), (1, .ref (ad 0)), (2, .ref (ad 69)), (3, .ref (ad 114)), (4, .ref (ad 115)), (5, .int (nI i))]) hx hb dL_law_2180 hl (by decide) rfl (fun ls hl => ?_)
    refine lv_aload_n hx hb dL_law_2182 rfl (lv_at hl 4 rfl) ?_
    refine g_callV (As := []) (rest := []) ⟨hx, hb, hml, hown, hw⟩ (mX3_thrown l D cT 116 ad A hD G3 (by omega) (cd [xIO, xAR] E) (MW.th hM3)) (cwV 0 hw (gWV wm_L_126 wi_X3_thrown wse_X3_thrown wini_X3 wc_X3_thrown) rfl rfl rfl (by decide +kernel) ⟨Nat.le_of_ble_eq_true rfl, Nat.le_of_ble_eq_true rfl⟩) hK hE hA hP hS (k := 69) (by omega) (MW.th hM3) rfl rfl hl.1 (lv_room (Nat.le_of_ble_eq_true rfl)) dL_law_2183 ⟨by show cells + 0 + 2 + 0 + 0 ≤ 603072; omega, by show slots + 0 + 12 + 0 + 0 ≤ 7227498; omega⟩ (fun v G4 H locs hp hP hS => ?_)
    obtain ⟨hv, hg⟩ := hp
    subst hv
    rw [hg] at hP
    refine lv_iload hx hb dL_law_2186 (lv_at hl 1 rfl) ?_
    refine t_icmp_eq (tgt := 2193) hx hb dL_law_2188 (by decide) (by omega) (by omega) (fun c_4 => ?_) (fun c_4 => ?_)
    · skip
      refine lv_iload hx hb dL_law_2193 (lv_at hl 1 rfl) ?_
      refine t_if_ne (tgt := 2230) hx hb dL_law_2195 (by decide) (by omega) (fun c_5 => ?_) (fun c_5 => ?_)
      · skip
        refine lv_goto (tgt := 2260) hx hb dL_law_2230 (by decide) ?_
        refine W.widen (k := cells + 10) (n := slots + 100) (by omega) (by omega) ?_
        exact kont σ G3 _ f f2 H locs ls ⟨hI, hY.ad (fun _ _ => rfl) (fun k hk => hf3 k (by omega)), hM3, (hf3 114 (by omega)).trans hO, (hf3 115 (by omega)).trans hO2⟩ hP hS (lv_sub hl [2, 3, 4, 5, 6, 7] rfl)
      · exfalso; omega
    · exfalso; omega
