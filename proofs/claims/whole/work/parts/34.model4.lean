theorem chx_in {ch : Nat} (h : 0 < chx ch) : ch = 111 ∨ ch = 115 ∨ ch = 117 ∨ ch = 105 ∨ ch = 97 := by
  unfold chx at h
  split at h
  · omega
  split at h
  · omega
  split at h
  · omega
  split at h
  · omega
  split at h <;> omega
theorem chx_no {ch : Nat} (h : chx ch = 0) : ch ≠ 111 ∧ ch ≠ 115 ∧ ch ≠ 117 ∧ ch ≠ 105 ∧ ch ≠ 97 := by
  refine ⟨?_, ?_, ?_, ?_, ?_⟩ <;> (intro e; subst e; exact absurd h (by decide))

theorem hal_K {σ : TY} {b i : Nat} {kf lf : Nat → Nat → Nat} {mf : Nat → Nat} (h : ∀ k, k < (σ.2 b).2.1 → kf b k = (σ.2 b).2.2.2.2.1 k ∧ lf b k = (σ.2 b).2.2.2.2.2 k) (hm : mf b = (σ.2 b).2.1) (hi : i < (σ.2 b).2.1) : ∀ k, k < (halfB (σ.2 b) i).2.1 → entF (kf b) i (mf b) 112 k = (halfB (σ.2 b) i).2.2.2.2.1 k := fun k hk => by
  rw [hm]
  exact ent_ins (fun j hj => (h j hj).1) (by omega) k hk
theorem upd_ag {f g : Nat → Nat} {c i v w : Nat} (h : ∀ k, k < c → f k = g k) (e : v = w) : ∀ k, k < c → va_up f i v k = va_up g i w k := fun k hk => by
  subst e
  by_cases q : k = i
  · subst q; rw [va_up_self, va_up_self]
  · rw [va_up_ne _ _ q, va_up_ne _ _ q]; exact h k hk
theorem hal_L {σ : TY} {b i : Nat} {kf lf : Nat → Nat → Nat} {mf : Nat → Nat} (h : ∀ k, k < (σ.2 b).2.1 → kf b k = (σ.2 b).2.2.2.2.1 k ∧ lf b k = (σ.2 b).2.2.2.2.2 k) (hm : mf b = (σ.2 b).2.1) (hi : i < (σ.2 b).2.1) : ∀ k, k < (halfB (σ.2 b) i).2.1 → entF (va_up (lf b) i (lf b i - lf b i / 2)) i (mf b) (lf b i / 2) k = (halfB (σ.2 b) i).2.2.2.2.2 k := fun k hk => by
  rw [hm, (h i hi).2]
  exact ent_ins (fun j hj => upd_ag (fun k hk => (h k hk).2) rfl j hj) (by omega) k hk

set_option maxHeartbeats 4000000 in
set_option maxRecDepth 100000 in
theorem mX3_items_ok (l : Launch) (D : va_G) (cT : Nat → ClassId) (n : Nat) (ad : Nat → Nat) (A : Nat → Prop) (hD : ∀ G, va_D A (gw n ad G)) (G : Nat → va_E) (hn : 114 ≤ n) (σ : TY) (hI : YI σ) (th : Nat) (hM : MW cT ad G σ th)(b : Nat) (hb6 : b < 6) : Met l yX3_items (wA yX3_items cX3_items 2 (some .int)) ({ frames := 1, cells := 0, slots := 0, locals := 23 } : Room) (PG D cT n ad A G [.ref (ad 69), .int (nI b)]) (QG D n ad A (fun v G1 => (v = some (.int (nI (σ.2 b).2.1)) ∧ MW cT ad G1 (σ) 0) ∧ ∀ j, (j < 69 ∨ 114 ≤ j) → G1 j = G j)) 0 0 A := by
  refine Met.ofG (cc := cX3_items) (maxL := 2) (ret := (some .int)) (by decide) (Nat.le_of_ble_eq_true rfl) ?_
  intro p e s m args below meth c Q hQ hx hb hr hml hlocks hown hw hP hK hE hA hS ls hl
  have hl : lv_has ls 2 [(0, .ref (ad 69)), (1, .int (nI b))] := hl
  obtain ⟨rf, sf, pf, zf, xf, kf, lf, mf, hC, hMA⟩ := hM
  obtain ⟨hz, hm, hxx, hpp, hkl⟩ := hMA.2 b (by omega)
  obtain ⟨hit, hbx⟩ := hI.2 b (by omega)
  have hcap := BI_cap hit
  have h48 := hit.1
  refine lv_aload_n hx hb dX3_items_0 rfl (lv_at hl 0 rfl) ?_
  refine lv_iload_n hx hb dX3_items_1 rfl (lv_at hl 1 rfl) ?_
  refine g_callS (As := [.int (nI b)]) (rest := [.ref (ad 69)]) ⟨hx, hb, hml, hown, hw⟩ (mX3_isBench l D cT n ad A hD G (nI b)) (va_cwS 1 hw (gWS wm_X3_67 wst_X3_isBench wini_X3 wc_X3_isBench) rfl rfl rfl (by decide +kernel) ⟨Nat.le_of_ble_eq_true rfl, Nat.le_of_ble_eq_true rfl⟩) hK hE hA hP hS rfl hl.1 (lv_room (Nat.le_of_ble_eq_true rfl)) dX3_items_2 ⟨Nat.le_of_ble_eq_true rfl, Nat.le_of_ble_eq_true rfl⟩ (fun v_2 G_1 H locs hp hP hS => ?_)
  obtain ⟨hv9, hg9⟩ := hp
  subst hv9
  rw [hg9] at hP
  refine t_eqi (nI 1) (congrArg nI (if_neg (ix_ok (by omega) (by decide)))) ?_
  refine lv_iconst (v := nI 1) hx hb dX3_items_5 (by decide) ?_
  refine lv_iconst (v := nI 1) hx hb dX3_items_6 (by decide) ?_
  refine g_callV (As := [.int (nI 1), .int (nI 1), .int (nI 1)]) (rest := []) ⟨hx, hb, hml, hown, hw⟩ (mX3_can l D cT n ad A hD G hn th 1 1 1 (by decide) (by decide) (by decide) hC.1) (cwV 3 hw (gWV wm_X3_63 wi_X3_can wse_X3_can wini_X3 wc_X3_can) rfl rfl rfl (by decide +kernel) ⟨Nat.le_of_ble_eq_true rfl, Nat.le_of_ble_eq_true rfl⟩) hK hE hA hP hS (k := 69) (by omega) hC.1 rfl rfl hl.1 (lv_room (Nat.le_of_ble_eq_true rfl)) dX3_items_7 ⟨Nat.le_of_ble_eq_true rfl, Nat.le_of_ble_eq_true rfl⟩ (fun v_4 G_3 H locs hp hP hS => ?_)
  obtain ⟨rfl, hg_G_3, ho_G_3⟩ := hp
  have hc_5 : G_3 69 = .inr (5, [.ref (ad 70), .ref (ad 86), .ref (ad 90), .ref (ad 97), .ref (ad 98), .ref (ad 99), .ref (ad 106), .ref (ad 113), .int (nI 0)]) := hg_G_3
  have hc_6 : G_3 70 = aQ (cT 10) 3 (q3 ad) := (ho_G_3 _ (by omega)).trans hC.2.1
  have hc_7 : G_3 86 = aQ (cT 8) 3 (qS ad) := (ho_G_3 _ (by omega)).trans hC.2.2.2.2.1
  have hc_8 : G_3 90 = aQ (cT 7) 6 (qP ad) := (ho_G_3 _ (by omega)).trans hC.2.2.2.2.2.2.1
  have hc_9 : G_3 97 = aI cT 6 zf := (ho_G_3 _ (by omega)).trans hC.2.2.2.2.2.2.2.2.1
  have hc_10 : G_3 98 = aZ cT 6 xf := (ho_G_3 _ (by omega)).trans hC.2.2.2.2.2.2.2.2.2.1
  have hc_11 : G_3 99 = aQ (cT 9) 6 (qK ad) := (ho_G_3 _ (by omega)).trans hC.2.2.2.2.2.2.2.2.2.2.1
  have hc_12 : G_3 106 = aQ (cT 8) 6 (qL ad) := (ho_G_3 _ (by omega)).trans hC.2.2.2.2.2.2.2.2.2.2.2.2.1
  have hc_13 : G_3 113 = aI cT 6 mf := (ho_G_3 _ (by omega)).trans hC.2.2.2.2.2.2.2.2.2.2.2.2.2.2.1
  have hc_14 : G_3 (91 + b) = aJ cT 48 (pf b) := (ho_G_3 _ (by omega)).trans (hC.2.2.2.2.2.2.2.1 b (by omega))
  have hc_15 : G_3 (100 + b) = aC cT 128 (kf b) := (ho_G_3 _ (by omega)).trans (hC.2.2.2.2.2.2.2.2.2.2.2.1 b (by omega))
  have hc_16 : G_3 (107 + b) = aI cT 128 (lf b) := (ho_G_3 _ (by omega)).trans (hC.2.2.2.2.2.2.2.2.2.2.2.2.2.1 b (by omega))
  have hfr_17 : ∀ j, (j ≠ 69) → G_3 j = G j := fun j hj => (ho_G_3 j (by omega)).trans (rfl)
  refine t_eqi (nI 1) rfl ?_
  refine t_if_eq (tgt := 22) hx hb dX3_items_10 (by decide) (by omega) (fun c_18 => absurd c_18 (by omega)) (fun c_18 => ?_)
  refine lv_aload_n hx hb dX3_items_13 rfl (lv_at hl 0 rfl) ?_
  refine g_get (C := RX3) (T := TX3) (N := 9) hx hb hw inX3 hown hK hP (i := 69) (by omega) hc_5 rfl 7 (by decide) (hw _ wf_X3_40) rfl dX3_items_14 ?_
  refine lv_iload_n hx hb dX3_items_17 rfl (lv_at hl 1 rfl) ?_
  refine g_iald hx hb hK hP (i := 113) (by omega) hc_13 (by omega) (by omega) dX3_items_18 ?_
  refine lv_goto (tgt := 23) hx hb dX3_items_19 (by decide) ?_
  refine g_ret hQ hx hb hr hlocks rfl hP hS (⟨⟨by rw [hm], MW.same hC hMA hc_5 (fun j9 _ _ hj9 => hfr_17 j9 hj9)⟩, fun j hj => hfr_17 j (by omega)⟩) (Nat.le_of_ble_eq_true rfl) (Nat.le_of_ble_eq_true rfl) dX3_items_23

set_option maxHeartbeats 4000000 in
set_option maxRecDepth 100000 in
theorem mX3_items_no (l : Launch) (D : va_G) (cT : Nat → ClassId) (n : Nat) (ad : Nat → Nat) (A : Nat → Prop) (hD : ∀ G, va_D A (gw n ad G)) (G : Nat → va_E) (hn : 114 ≤ n) (σ : TY) (hI : YI σ) (th : Nat) (hM : MW cT ad G σ th) (x : Int32) (E : String) (hpx : pxBen x E) : Met l yX3_items (wA yX3_items cX3_items 2 (some .int)) ({ frames := 1, cells := 0, slots := 0, locals := 23 } : Room) (PG D cT n ad A G [.ref (ad 69), .int x]) (QG D n ad A (fun v G1 => ((∃ z, v = some (.int z)) ∧ MW cT ad G1 σ (cd [xIO] E)) ∧ ∀ j, (j < 69 ∨ 114 ≤ j) → G1 j = G j)) 0 0 A := by
  refine Met.ofG (cc := cX3_items) (maxL := 2) (ret := (some .int)) (by decide) (Nat.le_of_ble_eq_true rfl) ?_
  intro p e s m args below meth c Q hQ hx hb hr hml hlocks hown hw hP hK hE hA hS ls hl
  have hl : lv_has ls 2 [(0, .ref (ad 69)), (1, .int x)] := hl
  obtain ⟨rf, sf, pf, zf, xf, kf, lf, mf, hC, hMA⟩ := hM
  obtain ⟨hbb, rfl⟩ := hpx
  refine lv_aload_n hx hb dX3_items_0 rfl (lv_at hl 0 rfl) ?_
  refine lv_iload_n hx hb dX3_items_1 rfl (lv_at hl 1 rfl) ?_
  refine g_callS (As := [.int x]) (rest := [.ref (ad 69)]) ⟨hx, hb, hml, hown, hw⟩ (mX3_isBench l D cT n ad A hD G x) (va_cwS 1 hw (gWS wm_X3_67 wst_X3_isBench wini_X3 wc_X3_isBench) rfl rfl rfl (by decide +kernel) ⟨Nat.le_of_ble_eq_true rfl, Nat.le_of_ble_eq_true rfl⟩) hK hE hA hP hS rfl hl.1 (lv_room (Nat.le_of_ble_eq_true rfl)) dX3_items_2 ⟨Nat.le_of_ble_eq_true rfl, Nat.le_of_ble_eq_true rfl⟩ (fun v_2 G_1 H locs hp hP hS => ?_)
  obtain ⟨hv9, hg9⟩ := hp
  subst hv9
  rw [hg9] at hP
  refine t_eqi (nI 0) (congrArg nI (if_pos hbb)) ?_
  refine lv_iconst (v := nI 1) hx hb dX3_items_5 (by decide) ?_
  refine lv_iconst (v := nI 1) hx hb dX3_items_6 (by decide) ?_
  refine g_callV (As := [.int (nI 0), .int (nI 1), .int (nI 1)]) (rest := []) ⟨hx, hb, hml, hown, hw⟩ (mX3_can l D cT n ad A hD G hn th 0 1 1 (by decide) (by decide) (by decide) hC.1) (cwV 3 hw (gWV wm_X3_63 wi_X3_can wse_X3_can wini_X3 wc_X3_can) rfl rfl rfl (by decide +kernel) ⟨Nat.le_of_ble_eq_true rfl, Nat.le_of_ble_eq_true rfl⟩) hK hE hA hP hS (k := 69) (by omega) hC.1 rfl rfl hl.1 (lv_room (Nat.le_of_ble_eq_true rfl)) dX3_items_7 ⟨Nat.le_of_ble_eq_true rfl, Nat.le_of_ble_eq_true rfl⟩ (fun v_4 G_3 H locs hp hP hS => ?_)
  obtain ⟨rfl, hg_G_3, ho_G_3⟩ := hp
  have hc_5 : G_3 69 = .inr (5, [.ref (ad 70), .ref (ad 86), .ref (ad 90), .ref (ad 97), .ref (ad 98), .ref (ad 99), .ref (ad 106), .ref (ad 113), .int (nI 1)]) := hg_G_3
  have hc_6 : G_3 70 = aQ (cT 10) 3 (q3 ad) := (ho_G_3 _ (by omega)).trans hC.2.1
  have hc_7 : G_3 86 = aQ (cT 8) 3 (qS ad) := (ho_G_3 _ (by omega)).trans hC.2.2.2.2.1
  have hc_8 : G_3 90 = aQ (cT 7) 6 (qP ad) := (ho_G_3 _ (by omega)).trans hC.2.2.2.2.2.2.1
  have hc_9 : G_3 97 = aI cT 6 zf := (ho_G_3 _ (by omega)).trans hC.2.2.2.2.2.2.2.2.1
  have hc_10 : G_3 98 = aZ cT 6 xf := (ho_G_3 _ (by omega)).trans hC.2.2.2.2.2.2.2.2.2.1
  have hc_11 : G_3 99 = aQ (cT 9) 6 (qK ad) := (ho_G_3 _ (by omega)).trans hC.2.2.2.2.2.2.2.2.2.2.1
  have hc_12 : G_3 106 = aQ (cT 8) 6 (qL ad) := (ho_G_3 _ (by omega)).trans hC.2.2.2.2.2.2.2.2.2.2.2.2.1
  have hc_13 : G_3 113 = aI cT 6 mf := (ho_G_3 _ (by omega)).trans hC.2.2.2.2.2.2.2.2.2.2.2.2.2.2.1
  have hfr_14 : ∀ j, (j ≠ 69) → G_3 j = G j := fun j hj => (ho_G_3 j (by omega)).trans (rfl)
  refine t_eqi (nI 0) rfl ?_
  refine t_if_eq (tgt := 22) hx hb dX3_items_10 (by decide) (by omega) (fun c_15 => ?_) (fun c_15 => absurd c_15 (by omega))
  refine lv_iconst (v := nI 0) hx hb dX3_items_22 (by decide) ?_
  refine g_ret hQ hx hb hr hlocks rfl hP hS (⟨⟨⟨_, rfl⟩, by rw [show cd [xIO] xIO = 1 from by decide +kernel]; exact MW.same hC hMA hc_5 (fun j9 _ _ hj9 => hfr_14 j9 hj9)⟩, fun j hj => hfr_14 j (by omega)⟩) (Nat.le_of_ble_eq_true rfl) (Nat.le_of_ble_eq_true rfl) dX3_items_23

set_option maxHeartbeats 4000000 in
set_option maxRecDepth 100000 in
theorem mX3_kindOf_ok (l : Launch) (D : va_G) (cT : Nat → ClassId) (n : Nat) (ad : Nat → Nat) (A : Nat → Prop) (hD : ∀ G, va_D A (gw n ad G)) (G : Nat → va_E) (hn : 114 ≤ n) (σ : TY) (hI : YI σ) (th : Nat) (hM : MW cT ad G σ th)(b i : Nat) (hb6 : b < 6) (hi : i < (σ.2 b).2.1) : Met l yX3_kindOf (wA yX3_kindOf cX3_kindOf 3 (some .char)) ({ frames := 2, cells := 0, slots := 0, locals := 42 } : Room) (PG D cT n ad A G [.ref (ad 69), .int (nI b), .int (nI i)]) (QG D n ad A (fun v G1 => (v = some (.int (nI ((σ.2 b).2.2.2.2.1 i))) ∧ MW cT ad G1 (σ) 0) ∧ ∀ j, (j < 69 ∨ 114 ≤ j) → G1 j = G j)) 0 0 A := by
  refine Met.ofG (cc := cX3_kindOf) (maxL := 3) (ret := (some .char)) (by decide) (Nat.le_of_ble_eq_true rfl) ?_
  intro p e s m args below meth c Q hQ hx hb hr hml hlocks hown hw hP hK hE hA hS ls hl
  have hl : lv_has ls 3 [(0, .ref (ad 69)), (1, .int (nI b)), (2, .int (nI i))] := hl
  obtain ⟨rf, sf, pf, zf, xf, kf, lf, mf, hC, hMA⟩ := hM
  obtain ⟨hz, hm, hxx, hpp, hkl⟩ := hMA.2 b (by omega)
  obtain ⟨hit, hbx⟩ := hI.2 b (by omega)
  have hcap := BI_cap hit
  have h48 := hit.1
  obtain ⟨hki, hli⟩ := hkl i hi
  have hik := (hit.2.2.1 i hi).1
  have hpl := ps_step (σ.2 b).2.2.2.2.2 hi
  have hpz := hit.2.1
  have hk16 := hC.2.2.2.2.2.2.2.2.2.2.2.2.2.2.2.1 b hb6 i
  refine lv_aload_n hx hb dX3_kindOf_0 rfl (lv_at hl 0 rfl) ?_
  refine lv_aload_n hx hb dX3_kindOf_1 rfl (lv_at hl 0 rfl) ?_
  refine lv_iload_n hx hb dX3_kindOf_2 rfl (lv_at hl 1 rfl) ?_
  refine lv_iload_n hx hb dX3_kindOf_3 rfl (lv_at hl 2 rfl) ?_
  refine g_callV (As := [.int (nI b), .int (nI i)]) (rest := [.ref (ad 69)]) ⟨hx, hb, hml, hown, hw⟩ (mX3_isItem l D cT n ad A hD G hn σ hI th rf sf pf zf xf kf lf mf hC hMA (nI b) (nI i)) (cwV 2 hw (gWV wm_X3_74 wi_X3_isItem wse_X3_isItem wini_X3 wc_X3_isItem) rfl rfl rfl (by decide +kernel) ⟨Nat.le_of_ble_eq_true rfl, Nat.le_of_ble_eq_true rfl⟩) hK hE hA hP hS (k := 69) (by omega) hC.1 rfl rfl hl.1 (lv_room (Nat.le_of_ble_eq_true rfl)) dX3_kindOf_4 ⟨Nat.le_of_ble_eq_true rfl, Nat.le_of_ble_eq_true rfl⟩ (fun v_2 G_1 H locs hp hP hS => ?_)
  obtain ⟨hv1, hv2, hg9⟩ := hp
  rw [hg9] at hP
  have hv := hv2 ⟨b, hb6, rfl, i, hi, rfl⟩
  subst hv
  refine lv_iconst (v := nI 1) hx hb dX3_kindOf_7 (by decide) ?_
  refine lv_iconst (v := nI 1) hx hb dX3_kindOf_8 (by decide) ?_
  refine g_callV (As := [.int (nI 1), .int (nI 1), .int (nI 1)]) (rest := []) ⟨hx, hb, hml, hown, hw⟩ (mX3_can l D cT n ad A hD G hn th 1 1 1 (by decide) (by decide) (by decide) hC.1) (cwV 3 hw (gWV wm_X3_63 wi_X3_can wse_X3_can wini_X3 wc_X3_can) rfl rfl rfl (by decide +kernel) ⟨Nat.le_of_ble_eq_true rfl, Nat.le_of_ble_eq_true rfl⟩) hK hE hA hP hS (k := 69) (by omega) hC.1 rfl rfl hl.1 (lv_room (Nat.le_of_ble_eq_true rfl)) dX3_kindOf_9 ⟨Nat.le_of_ble_eq_true rfl, Nat.le_of_ble_eq_true rfl⟩ (fun v_4 G_3 H locs hp hP hS => ?_)
  obtain ⟨rfl, hg_G_3, ho_G_3⟩ := hp
  have hc_5 : G_3 69 = .inr (5, [.ref (ad 70), .ref (ad 86), .ref (ad 90), .ref (ad 97), .ref (ad 98), .ref (ad 99), .ref (ad 106), .ref (ad 113), .int (nI 0)]) := hg_G_3
  have hc_6 : G_3 70 = aQ (cT 10) 3 (q3 ad) := (ho_G_3 _ (by omega)).trans hC.2.1
  have hc_7 : G_3 86 = aQ (cT 8) 3 (qS ad) := (ho_G_3 _ (by omega)).trans hC.2.2.2.2.1
  have hc_8 : G_3 90 = aQ (cT 7) 6 (qP ad) := (ho_G_3 _ (by omega)).trans hC.2.2.2.2.2.2.1
  have hc_9 : G_3 97 = aI cT 6 zf := (ho_G_3 _ (by omega)).trans hC.2.2.2.2.2.2.2.2.1
  have hc_10 : G_3 98 = aZ cT 6 xf := (ho_G_3 _ (by omega)).trans hC.2.2.2.2.2.2.2.2.2.1
  have hc_11 : G_3 99 = aQ (cT 9) 6 (qK ad) := (ho_G_3 _ (by omega)).trans hC.2.2.2.2.2.2.2.2.2.2.1
  have hc_12 : G_3 106 = aQ (cT 8) 6 (qL ad) := (ho_G_3 _ (by omega)).trans hC.2.2.2.2.2.2.2.2.2.2.2.2.1
  have hc_13 : G_3 113 = aI cT 6 mf := (ho_G_3 _ (by omega)).trans hC.2.2.2.2.2.2.2.2.2.2.2.2.2.2.1
  have hc_14 : G_3 (91 + b) = aJ cT 48 (pf b) := (ho_G_3 _ (by omega)).trans (hC.2.2.2.2.2.2.2.1 b (by omega))
  have hc_15 : G_3 (100 + b) = aC cT 128 (kf b) := (ho_G_3 _ (by omega)).trans (hC.2.2.2.2.2.2.2.2.2.2.2.1 b (by omega))
  have hc_16 : G_3 (107 + b) = aI cT 128 (lf b) := (ho_G_3 _ (by omega)).trans (hC.2.2.2.2.2.2.2.2.2.2.2.2.2.1 b (by omega))
  have hfr_17 : ∀ j, (j ≠ 69) → G_3 j = G j := fun j hj => (ho_G_3 j (by omega)).trans (rfl)
  refine t_eqi (nI 1) rfl ?_
  refine t_if_eq (tgt := 26) hx hb dX3_kindOf_12 (by decide) (by omega) (fun c_18 => absurd c_18 (by omega)) (fun c_18 => ?_)
  refine lv_aload_n hx hb dX3_kindOf_15 rfl (lv_at hl 0 rfl) ?_
  refine g_get (C := RX3) (T := TX3) (N := 9) hx hb hw inX3 hown hK hP (i := 69) (by omega) hc_5 rfl 5 (by decide) (hw _ wf_X3_34) rfl dX3_kindOf_16 ?_
  refine lv_iload_n hx hb dX3_kindOf_19 rfl (lv_at hl 1 rfl) ?_
  refine g_aald hx hb hK hP 9 (i := 99) (by omega) hc_11 rfl rfl (k := (ad (100 + b))) (by omega) (by omega) (qK_at (by omega)) dX3_kindOf_20 ?_
  refine lv_iload_n hx hb dX3_kindOf_21 rfl (lv_at hl 2 rfl) ?_
  refine g_cald hx hb hK hP (i := (100 + b)) (by omega) hc_15 (by omega) (by omega) dX3_kindOf_22 ?_
  refine lv_goto (tgt := 27) hx hb dX3_kindOf_23 (by decide) ?_
  refine g_ret hQ hx hb hr hlocks (by exact (pk_charN (by omega)).1) hP hS (⟨⟨by rw [hki], MW.same hC hMA hc_5 (fun j9 _ _ hj9 => hfr_17 j9 hj9)⟩, fun j hj => hfr_17 j (by omega)⟩) (Nat.le_of_ble_eq_true rfl) (Nat.le_of_ble_eq_true rfl) dX3_kindOf_27

set_option maxHeartbeats 4000000 in
set_option maxRecDepth 100000 in
theorem mX3_kindOf_no (l : Launch) (D : va_G) (cT : Nat → ClassId) (n : Nat) (ad : Nat → Nat) (A : Nat → Prop) (hD : ∀ G, va_D A (gw n ad G)) (G : Nat → va_E) (hn : 114 ≤ n) (σ : TY) (hI : YI σ) (th : Nat) (hM : MW cT ad G σ th) (x y : Int32) (E : String) (hpx : pxItem σ x y E) : Met l yX3_kindOf (wA yX3_kindOf cX3_kindOf 3 (some .char)) ({ frames := 2, cells := 0, slots := 0, locals := 42 } : Room) (PG D cT n ad A G [.ref (ad 69), .int x, .int y]) (QG D n ad A (fun v G1 => ((∃ z, v = some (.int z)) ∧ MW cT ad G1 σ (cd [xIO] E)) ∧ ∀ j, (j < 69 ∨ 114 ≤ j) → G1 j = G j)) 0 0 A := by
  refine Met.ofG (cc := cX3_kindOf) (maxL := 3) (ret := (some .char)) (by decide) (Nat.le_of_ble_eq_true rfl) ?_
  intro p e s m args below meth c Q hQ hx hb hr hml hlocks hown hw hP hK hE hA hS ls hl
  have hl : lv_has ls 3 [(0, .ref (ad 69)), (1, .int x), (2, .int y)] := hl
  obtain ⟨rf, sf, pf, zf, xf, kf, lf, mf, hC, hMA⟩ := hM
  obtain ⟨hib, rfl⟩ := hpx
  refine lv_aload_n hx hb dX3_kindOf_0 rfl (lv_at hl 0 rfl) ?_
  refine lv_aload_n hx hb dX3_kindOf_1 rfl (lv_at hl 0 rfl) ?_
  refine lv_iload_n hx hb dX3_kindOf_2 rfl (lv_at hl 1 rfl) ?_
  refine lv_iload_n hx hb dX3_kindOf_3 rfl (lv_at hl 2 rfl) ?_
  refine g_callV (As := [.int x, .int y]) (rest := [.ref (ad 69)]) ⟨hx, hb, hml, hown, hw⟩ (mX3_isItem l D cT n ad A hD G hn σ hI th rf sf pf zf xf kf lf mf hC hMA x y) (cwV 2 hw (gWV wm_X3_74 wi_X3_isItem wse_X3_isItem wini_X3 wc_X3_isItem) rfl rfl rfl (by decide +kernel) ⟨Nat.le_of_ble_eq_true rfl, Nat.le_of_ble_eq_true rfl⟩) hK hE hA hP hS (k := 69) (by omega) hC.1 rfl rfl hl.1 (lv_room (Nat.le_of_ble_eq_true rfl)) dX3_kindOf_4 ⟨Nat.le_of_ble_eq_true rfl, Nat.le_of_ble_eq_true rfl⟩ (fun v_2 G_1 H locs hp hP hS => ?_)
  obtain ⟨hv1, hv2, hg9⟩ := hp
  rw [hg9] at hP
  have hv := hv1 hib
  subst hv
  refine lv_iconst (v := nI 1) hx hb dX3_kindOf_7 (by decide) ?_
  refine lv_iconst (v := nI 1) hx hb dX3_kindOf_8 (by decide) ?_
  refine g_callV (As := [.int (nI 0), .int (nI 1), .int (nI 1)]) (rest := []) ⟨hx, hb, hml, hown, hw⟩ (mX3_can l D cT n ad A hD G hn th 0 1 1 (by decide) (by decide) (by decide) hC.1) (cwV 3 hw (gWV wm_X3_63 wi_X3_can wse_X3_can wini_X3 wc_X3_can) rfl rfl rfl (by decide +kernel) ⟨Nat.le_of_ble_eq_true rfl, Nat.le_of_ble_eq_true rfl⟩) hK hE hA hP hS (k := 69) (by omega) hC.1 rfl rfl hl.1 (lv_room (Nat.le_of_ble_eq_true rfl)) dX3_kindOf_9 ⟨Nat.le_of_ble_eq_true rfl, Nat.le_of_ble_eq_true rfl⟩ (fun v_4 G_3 H locs hp hP hS => ?_)
  obtain ⟨rfl, hg_G_3, ho_G_3⟩ := hp
  have hc_5 : G_3 69 = .inr (5, [.ref (ad 70), .ref (ad 86), .ref (ad 90), .ref (ad 97), .ref (ad 98), .ref (ad 99), .ref (ad 106), .ref (ad 113), .int (nI 1)]) := hg_G_3
  have hc_6 : G_3 70 = aQ (cT 10) 3 (q3 ad) := (ho_G_3 _ (by omega)).trans hC.2.1
  have hc_7 : G_3 86 = aQ (cT 8) 3 (qS ad) := (ho_G_3 _ (by omega)).trans hC.2.2.2.2.1
  have hc_8 : G_3 90 = aQ (cT 7) 6 (qP ad) := (ho_G_3 _ (by omega)).trans hC.2.2.2.2.2.2.1
  have hc_9 : G_3 97 = aI cT 6 zf := (ho_G_3 _ (by omega)).trans hC.2.2.2.2.2.2.2.2.1
  have hc_10 : G_3 98 = aZ cT 6 xf := (ho_G_3 _ (by omega)).trans hC.2.2.2.2.2.2.2.2.2.1
  have hc_11 : G_3 99 = aQ (cT 9) 6 (qK ad) := (ho_G_3 _ (by omega)).trans hC.2.2.2.2.2.2.2.2.2.2.1
  have hc_12 : G_3 106 = aQ (cT 8) 6 (qL ad) := (ho_G_3 _ (by omega)).trans hC.2.2.2.2.2.2.2.2.2.2.2.2.1
  have hc_13 : G_3 113 = aI cT 6 mf := (ho_G_3 _ (by omega)).trans hC.2.2.2.2.2.2.2.2.2.2.2.2.2.2.1
  have hfr_14 : ∀ j, (j ≠ 69) → G_3 j = G j := fun j hj => (ho_G_3 j (by omega)).trans (rfl)
  refine t_eqi (nI 0) rfl ?_
  refine t_if_eq (tgt := 26) hx hb dX3_kindOf_12 (by decide) (by omega) (fun c_15 => ?_) (fun c_15 => absurd c_15 (by omega))
  refine lv_iconst (v := nI 0) hx hb dX3_kindOf_26 (by decide) ?_
  refine g_ret hQ hx hb hr hlocks rfl hP hS (⟨⟨⟨_, rfl⟩, by rw [show cd [xIO] xIO = 1 from by decide +kernel]; exact MW.same hC hMA hc_5 (fun j9 _ _ hj9 => hfr_14 j9 hj9)⟩, fun j hj => hfr_14 j (by omega)⟩) (Nat.le_of_ble_eq_true rfl) (Nat.le_of_ble_eq_true rfl) dX3_kindOf_27

set_option maxHeartbeats 4000000 in
set_option maxRecDepth 100000 in
theorem mX3_given_ok (l : Launch) (D : va_G) (cT : Nat → ClassId) (n : Nat) (ad : Nat → Nat) (A : Nat → Prop) (hD : ∀ G, va_D A (gw n ad G)) (G : Nat → va_E) (hn : 114 ≤ n) (σ : TY) (hI : YI σ) (th : Nat) (hM : MW cT ad G σ th)(b i : Nat) (hb6 : b < 6) (hi : i < (σ.2 b).2.1) (hk9 : (σ.2 b).2.2.2.2.1 i = 110) : Met l yX3_given (wA yX3_given cX3_given 3 (some .long)) ({ frames := 3, cells := 0, slots := 0, locals := 66 } : Room) (PG D cT n ad A G [.ref (ad 69), .int (nI b), .int (nI i)]) (QG D n ad A (fun v G1 => (v = some (.long ((σ.2 b).2.2.2.1 (ps (σ.2 b).2.2.2.2.2 i))) ∧ MW cT ad G1 (σ) 0) ∧ ∀ j, (j < 69 ∨ 114 ≤ j) → G1 j = G j)) 0 0 A := by
  refine Met.ofG (cc := cX3_given) (maxL := 3) (ret := (some .long)) (by decide) (Nat.le_of_ble_eq_true rfl) ?_
  intro p e s m args below meth c Q hQ hx hb hr hml hlocks hown hw hP hK hE hA hS ls hl
  have hl : lv_has ls 3 [(0, .ref (ad 69)), (1, .int (nI b)), (2, .int (nI i))] := hl
  obtain ⟨rf, sf, pf, zf, xf, kf, lf, mf, hC, hMA⟩ := hM
  obtain ⟨hz, hm, hxx, hpp, hkl⟩ := hMA.2 b (by omega)
  obtain ⟨hit, hbx⟩ := hI.2 b (by omega)
  have hcap := BI_cap hit
  have h48 := hit.1
  obtain ⟨hki, hli⟩ := hkl i hi
  have hik := (hit.2.2.1 i hi).1
  have hpl := ps_step (σ.2 b).2.2.2.2.2 hi
  have hpz := hit.2.1
  have hk16 := hC.2.2.2.2.2.2.2.2.2.2.2.2.2.2.2.1 b hb6 i
  have hL1 := (hit.2.2.1 i hi).2 hk9
  refine lv_aload_n hx hb dX3_given_0 rfl (lv_at hl 0 rfl) ?_
  refine lv_iload_n hx hb dX3_given_1 rfl (lv_at hl 1 rfl) ?_
  refine lv_iload_n hx hb dX3_given_2 rfl (lv_at hl 2 rfl) ?_
  refine lv_bipush (v := nI 110) hx hb dX3_given_3 (by decide) ?_
  refine lv_bipush (v := nI 110) hx hb dX3_given_5 (by decide) ?_
  refine g_callV (As := [.int (nI b), .int (nI i), .int (nI 110), .int (nI 110)]) (rest := []) ⟨hx, hb, hml, hown, hw⟩ (mX3_isOf_ok l D cT n ad A hD G hn σ hI th rf sf pf zf xf kf lf mf hC hMA b i (by omega) (by omega) 110 110 (by omega) (by omega)) (cwV 4 hw (gWV wm_X3_78 wi_X3_isOf wse_X3_isOf wini_X3 wc_X3_isOf) rfl rfl rfl (by decide +kernel) ⟨Nat.le_of_ble_eq_true rfl, Nat.le_of_ble_eq_true rfl⟩) hK hE hA hP hS (k := 69) (by omega) hC.1 rfl rfl hl.1 (lv_room (Nat.le_of_ble_eq_true rfl)) dX3_given_7 ⟨Nat.le_of_ble_eq_true rfl, Nat.le_of_ble_eq_true rfl⟩ (fun v_2 G_1 H locs hp hP hS => ?_)
  obtain ⟨rfl, hg_G_1, ho_G_1⟩ := hp
  rw [if_pos (by omega)] at hg_G_1
  refine t_eqi (nI 1) (congrArg nI (if_pos (by omega))) ?_
  have hc_3 : G_1 69 = .inr (5, [.ref (ad 70), .ref (ad 86), .ref (ad 90), .ref (ad 97), .ref (ad 98), .ref (ad 99), .ref (ad 106), .ref (ad 113), .int (nI 0)]) := hg_G_1
  have hc_4 : G_1 70 = aQ (cT 10) 3 (q3 ad) := (ho_G_1 _ (by omega)).trans hC.2.1
  have hc_5 : G_1 86 = aQ (cT 8) 3 (qS ad) := (ho_G_1 _ (by omega)).trans hC.2.2.2.2.1
  have hc_6 : G_1 90 = aQ (cT 7) 6 (qP ad) := (ho_G_1 _ (by omega)).trans hC.2.2.2.2.2.2.1
  have hc_7 : G_1 97 = aI cT 6 zf := (ho_G_1 _ (by omega)).trans hC.2.2.2.2.2.2.2.2.1
  have hc_8 : G_1 98 = aZ cT 6 xf := (ho_G_1 _ (by omega)).trans hC.2.2.2.2.2.2.2.2.2.1
  have hc_9 : G_1 99 = aQ (cT 9) 6 (qK ad) := (ho_G_1 _ (by omega)).trans hC.2.2.2.2.2.2.2.2.2.2.1
  have hc_10 : G_1 106 = aQ (cT 8) 6 (qL ad) := (ho_G_1 _ (by omega)).trans hC.2.2.2.2.2.2.2.2.2.2.2.2.1
  have hc_11 : G_1 113 = aI cT 6 mf := (ho_G_1 _ (by omega)).trans hC.2.2.2.2.2.2.2.2.2.2.2.2.2.2.1
  have hc_12 : G_1 (91 + b) = aJ cT 48 (pf b) := (ho_G_1 _ (by omega)).trans (hC.2.2.2.2.2.2.2.1 b (by omega))
  have hc_13 : G_1 (100 + b) = aC cT 128 (kf b) := (ho_G_1 _ (by omega)).trans (hC.2.2.2.2.2.2.2.2.2.2.2.1 b (by omega))
  have hc_14 : G_1 (107 + b) = aI cT 128 (lf b) := (ho_G_1 _ (by omega)).trans (hC.2.2.2.2.2.2.2.2.2.2.2.2.2.1 b (by omega))
  have hfr_15 : ∀ j, (j ≠ 69) → G_1 j = G j := fun j hj => (ho_G_1 j (by omega)).trans (rfl)
  refine t_if_eq (tgt := 29) hx hb dX3_given_10 (by decide) (by omega) (fun c_16 => absurd c_16 (by omega)) (fun c_16 => ?_)
  refine lv_aload_n hx hb dX3_given_13 rfl (lv_at hl 0 rfl) ?_
  refine g_get (C := RX3) (T := TX3) (N := 9) hx hb hw inX3 hown hK hP (i := 69) (by omega) hc_3 rfl 2 (by decide) (hw _ wf_X3_21) rfl dX3_given_14 ?_
  refine lv_iload_n hx hb dX3_given_17 rfl (lv_at hl 1 rfl) ?_
  refine g_aald hx hb hK hP 7 (i := 90) (by omega) hc_6 rfl rfl (k := (ad (91 + b))) (by omega) (by omega) (qP_at (by omega)) dX3_given_18 ?_
  refine lv_aload_n hx hb dX3_given_19 rfl (lv_at hl 0 rfl) ?_
  refine lv_iload_n hx hb dX3_given_20 rfl (lv_at hl 1 rfl) ?_
  refine lv_iload_n hx hb dX3_given_21 rfl (lv_at hl 2 rfl) ?_
  refine g_callV (As := [.int (nI b), .int (nI i)]) (rest := [.ref (ad (91 + b))]) ⟨hx, hb, hml, hown, hw⟩ (mX3_before l D cT n ad A hD G_1 hn 0 hc_3 hc_10 b i (lf b) (σ.2 b).2.2.2.2.2 (by omega) hc_14 (fun j hj => (hkl j (by omega)).2) (by omega) (by omega)) (cwV 2 hw (gWV wm_X3_82 wi_X3_before wse_X3_before wini_X3 wc_X3_before) rfl rfl rfl (by decide +kernel) ⟨Nat.le_of_ble_eq_true rfl, Nat.le_of_ble_eq_true rfl⟩) hK hE hA hP hS (k := 69) (by omega) hc_3 rfl rfl hl.1 (lv_room (Nat.le_of_ble_eq_true rfl)) dX3_given_22 ⟨Nat.le_of_ble_eq_true rfl, Nat.le_of_ble_eq_true rfl⟩ (fun v_18 G_17 H locs hp hP hS => ?_)
  obtain ⟨hv, hg⟩ := hp
  subst hv
  rw [hg] at hP
  refine g_lald hx hb hK hP (i := (91 + b)) (by omega) hc_12 (by omega) (by omega) dX3_given_25 ?_
  refine lv_goto (tgt := 30) hx hb dX3_given_26 (by decide) ?_
  refine g_retl hQ hx hb hr hlocks hP hS (⟨⟨by rw [hpp _ (by omega)], MW.same hC hMA hc_3 (fun j9 _ _ hj9 => hfr_15 j9 hj9)⟩, fun j hj => hfr_15 j (by omega)⟩) (Nat.le_of_ble_eq_true rfl) (Nat.le_of_ble_eq_true rfl) dX3_given_30

set_option maxHeartbeats 4000000 in
set_option maxRecDepth 100000 in
theorem mX3_given_no (l : Launch) (D : va_G) (cT : Nat → ClassId) (n : Nat) (ad : Nat → Nat) (A : Nat → Prop) (hD : ∀ G, va_D A (gw n ad G)) (G : Nat → va_E) (hn : 114 ≤ n) (σ : TY) (hI : YI σ) (th : Nat) (hM : MW cT ad G σ th) (x y : Int32) (E : String) (hpx : pxIs σ x y (fun c => c ≠ 110) E) : Met l yX3_given (wA yX3_given cX3_given 3 (some .long)) ({ frames := 3, cells := 0, slots := 0, locals := 66 } : Room) (PG D cT n ad A G [.ref (ad 69), .int x, .int y]) (QG D n ad A (fun v G1 => ((∃ z, v = some (.long z)) ∧ MW cT ad G1 σ (cd [xIO, xIS] E)) ∧ ∀ j, (j < 69 ∨ 114 ≤ j) → G1 j = G j)) 0 0 A := by
  refine Met.ofG (cc := cX3_given) (maxL := 3) (ret := (some .long)) (by decide) (Nat.le_of_ble_eq_true rfl) ?_
  intro p e s m args below meth c Q hQ hx hb hr hml hlocks hown hw hP hK hE hA hS ls hl
  have hl : lv_has ls 3 [(0, .ref (ad 69)), (1, .int x), (2, .int y)] := hl
  obtain ⟨rf, sf, pf, zf, xf, kf, lf, mf, hC, hMA⟩ := hM
  rcases hpx with hpx | ⟨b, i, hb6, rfl, hi, rfl, hKp, rfl⟩
  · skip
    obtain ⟨hib, rfl⟩ := hpx
    refine lv_aload_n hx hb dX3_given_0 rfl (lv_at hl 0 rfl) ?_
    refine lv_iload_n hx hb dX3_given_1 rfl (lv_at hl 1 rfl) ?_
    refine lv_iload_n hx hb dX3_given_2 rfl (lv_at hl 2 rfl) ?_
    refine lv_bipush (v := nI 110) hx hb dX3_given_3 (by decide) ?_
    refine lv_bipush (v := nI 110) hx hb dX3_given_5 (by decide) ?_
    refine g_callV (As := [.int x, .int y, .int (nI 110), .int (nI 110)]) (rest := []) ⟨hx, hb, hml, hown, hw⟩ (mX3_isOf_bad l D cT n ad A hD G hn σ hI th rf sf pf zf xf kf lf mf hC hMA x y hib 110 110 (by omega) (by omega)) (cwV 4 hw (gWV wm_X3_78 wi_X3_isOf wse_X3_isOf wini_X3 wc_X3_isOf) rfl rfl rfl (by decide +kernel) ⟨Nat.le_of_ble_eq_true rfl, Nat.le_of_ble_eq_true rfl⟩) hK hE hA hP hS (k := 69) (by omega) hC.1 rfl rfl hl.1 (lv_room (Nat.le_of_ble_eq_true rfl)) dX3_given_7 ⟨Nat.le_of_ble_eq_true rfl, Nat.le_of_ble_eq_true rfl⟩ (fun v_2 G_1 H locs hp hP hS => ?_)
    obtain ⟨rfl, hg_G_1, ho_G_1⟩ := hp
    have hc_3 : G_1 69 = .inr (5, [.ref (ad 70), .ref (ad 86), .ref (ad 90), .ref (ad 97), .ref (ad 98), .ref (ad 99), .ref (ad 106), .ref (ad 113), .int (nI 1)]) := hg_G_1
    have hc_4 : G_1 70 = aQ (cT 10) 3 (q3 ad) := (ho_G_1 _ (by omega)).trans hC.2.1
    have hc_5 : G_1 86 = aQ (cT 8) 3 (qS ad) := (ho_G_1 _ (by omega)).trans hC.2.2.2.2.1
    have hc_6 : G_1 90 = aQ (cT 7) 6 (qP ad) := (ho_G_1 _ (by omega)).trans hC.2.2.2.2.2.2.1
    have hc_7 : G_1 97 = aI cT 6 zf := (ho_G_1 _ (by omega)).trans hC.2.2.2.2.2.2.2.2.1
    have hc_8 : G_1 98 = aZ cT 6 xf := (ho_G_1 _ (by omega)).trans hC.2.2.2.2.2.2.2.2.2.1
    have hc_9 : G_1 99 = aQ (cT 9) 6 (qK ad) := (ho_G_1 _ (by omega)).trans hC.2.2.2.2.2.2.2.2.2.2.1
    have hc_10 : G_1 106 = aQ (cT 8) 6 (qL ad) := (ho_G_1 _ (by omega)).trans hC.2.2.2.2.2.2.2.2.2.2.2.2.1
    have hc_11 : G_1 113 = aI cT 6 mf := (ho_G_1 _ (by omega)).trans hC.2.2.2.2.2.2.2.2.2.2.2.2.2.2.1
    have hfr_12 : ∀ j, (j ≠ 69) → G_1 j = G j := fun j hj => (ho_G_1 j (by omega)).trans (rfl)
    refine t_if_eq (tgt := 29) hx hb dX3_given_10 (by decide) (by omega) (fun c_13 => ?_) (fun c_13 => absurd c_13 (by omega))
    refine lv_lconst (v := 0) hx hb dX3_given_29 (by decide) ?_
    refine g_retl hQ hx hb hr hlocks hP hS (⟨⟨⟨_, rfl⟩, by rw [show cd [xIO, xIS] xIO = 1 from by decide +kernel]; exact MW.same hC hMA hc_3 (fun j9 _ _ hj9 => hfr_12 j9 hj9)⟩, fun j hj => hfr_12 j (by omega)⟩) (Nat.le_of_ble_eq_true rfl) (Nat.le_of_ble_eq_true rfl) dX3_given_30
  · skip
    obtain ⟨hz, hm, hxx, hpp, hkl⟩ := hMA.2 b (by omega)
    obtain ⟨hit, hbx⟩ := hI.2 b (by omega)
    have hcap := BI_cap hit
    have h48 := hit.1
    obtain ⟨hki, hli⟩ := hkl i hi
    have hik := (hit.2.2.1 i hi).1
    have hpl := ps_step (σ.2 b).2.2.2.2.2 hi
    have hpz := hit.2.1
    have hk16 := hC.2.2.2.2.2.2.2.2.2.2.2.2.2.2.2.1 b hb6 i
    refine lv_aload_n hx hb dX3_given_0 rfl (lv_at hl 0 rfl) ?_
    refine lv_iload_n hx hb dX3_given_1 rfl (lv_at hl 1 rfl) ?_
    refine lv_iload_n hx hb dX3_given_2 rfl (lv_at hl 2 rfl) ?_
    refine lv_bipush (v := nI 110) hx hb dX3_given_3 (by decide) ?_
    refine lv_bipush (v := nI 110) hx hb dX3_given_5 (by decide) ?_
    refine g_callV (As := [.int (nI b), .int (nI i), .int (nI 110), .int (nI 110)]) (rest := []) ⟨hx, hb, hml, hown, hw⟩ (mX3_isOf_ok l D cT n ad A hD G hn σ hI th rf sf pf zf xf kf lf mf hC hMA b i (by omega) (by omega) 110 110 (by omega) (by omega)) (cwV 4 hw (gWV wm_X3_78 wi_X3_isOf wse_X3_isOf wini_X3 wc_X3_isOf) rfl rfl rfl (by decide +kernel) ⟨Nat.le_of_ble_eq_true rfl, Nat.le_of_ble_eq_true rfl⟩) hK hE hA hP hS (k := 69) (by omega) hC.1 rfl rfl hl.1 (lv_room (Nat.le_of_ble_eq_true rfl)) dX3_given_7 ⟨Nat.le_of_ble_eq_true rfl, Nat.le_of_ble_eq_true rfl⟩ (fun v_15 G_14 H locs hp hP hS => ?_)
    obtain ⟨rfl, hg_G_14, ho_G_14⟩ := hp
    rw [if_neg (by omega)] at hg_G_14
    refine t_eqi (nI 0) (congrArg nI (if_neg (by omega))) ?_
    have hc_16 : G_14 69 = .inr (5, [.ref (ad 70), .ref (ad 86), .ref (ad 90), .ref (ad 97), .ref (ad 98), .ref (ad 99), .ref (ad 106), .ref (ad 113), .int (nI 2)]) := hg_G_14
    have hc_17 : G_14 70 = aQ (cT 10) 3 (q3 ad) := (ho_G_14 _ (by omega)).trans hC.2.1
    have hc_18 : G_14 86 = aQ (cT 8) 3 (qS ad) := (ho_G_14 _ (by omega)).trans hC.2.2.2.2.1
    have hc_19 : G_14 90 = aQ (cT 7) 6 (qP ad) := (ho_G_14 _ (by omega)).trans hC.2.2.2.2.2.2.1
    have hc_20 : G_14 97 = aI cT 6 zf := (ho_G_14 _ (by omega)).trans hC.2.2.2.2.2.2.2.2.1
    have hc_21 : G_14 98 = aZ cT 6 xf := (ho_G_14 _ (by omega)).trans hC.2.2.2.2.2.2.2.2.2.1
    have hc_22 : G_14 99 = aQ (cT 9) 6 (qK ad) := (ho_G_14 _ (by omega)).trans hC.2.2.2.2.2.2.2.2.2.2.1
    have hc_23 : G_14 106 = aQ (cT 8) 6 (qL ad) := (ho_G_14 _ (by omega)).trans hC.2.2.2.2.2.2.2.2.2.2.2.2.1
    have hc_24 : G_14 113 = aI cT 6 mf := (ho_G_14 _ (by omega)).trans hC.2.2.2.2.2.2.2.2.2.2.2.2.2.2.1
    have hc_25 : G_14 (91 + b) = aJ cT 48 (pf b) := (ho_G_14 _ (by omega)).trans (hC.2.2.2.2.2.2.2.1 b (by omega))
    have hc_26 : G_14 (100 + b) = aC cT 128 (kf b) := (ho_G_14 _ (by omega)).trans (hC.2.2.2.2.2.2.2.2.2.2.2.1 b (by omega))
    have hc_27 : G_14 (107 + b) = aI cT 128 (lf b) := (ho_G_14 _ (by omega)).trans (hC.2.2.2.2.2.2.2.2.2.2.2.2.2.1 b (by omega))
    have hfr_28 : ∀ j, (j ≠ 69) → G_14 j = G j := fun j hj => (ho_G_14 j (by omega)).trans (rfl)
    refine t_if_eq (tgt := 29) hx hb dX3_given_10 (by decide) (by omega) (fun c_29 => ?_) (fun c_29 => absurd c_29 (by omega))
    refine lv_lconst (v := 0) hx hb dX3_given_29 (by decide) ?_
    refine g_retl hQ hx hb hr hlocks hP hS (⟨⟨⟨_, rfl⟩, by rw [show cd [xIO, xIS] xIS = 2 from by decide +kernel]; exact MW.same hC hMA hc_16 (fun j9 _ _ hj9 => hfr_28 j9 hj9)⟩, fun j hj => hfr_28 j (by omega)⟩) (Nat.le_of_ble_eq_true rfl) (Nat.le_of_ble_eq_true rfl) dX3_given_30

set_option maxHeartbeats 4000000 in
set_option maxRecDepth 100000 in
theorem mX3_left_ok (l : Launch) (D : va_G) (cT : Nat → ClassId) (n : Nat) (ad : Nat → Nat) (A : Nat → Prop) (hD : ∀ G, va_D A (gw n ad G)) (G : Nat → va_E) (hn : 114 ≤ n) (σ : TY) (hI : YI σ) (th : Nat) (hM : MW cT ad G σ th)(b i : Nat) (hb6 : b < 6) (hi : i < (σ.2 b).2.1) (hk9 : (σ.2 b).2.2.2.2.1 i ≠ 110) : Met l yX3_left (wA yX3_left cX3_left 3 (some .int)) ({ frames := 3, cells := 0, slots := 0, locals := 66 } : Room) (PG D cT n ad A G [.ref (ad 69), .int (nI b), .int (nI i)]) (QG D n ad A (fun v G1 => (v = some (.int (nI ((σ.2 b).2.2.2.2.2 i))) ∧ MW cT ad G1 (σ) 0) ∧ ∀ j, (j < 69 ∨ 114 ≤ j) → G1 j = G j)) 0 0 A := by
  refine Met.ofG (cc := cX3_left) (maxL := 3) (ret := (some .int)) (by decide) (Nat.le_of_ble_eq_true rfl) ?_
  intro p e s m args below meth c Q hQ hx hb hr hml hlocks hown hw hP hK hE hA hS ls hl
  have hl : lv_has ls 3 [(0, .ref (ad 69)), (1, .int (nI b)), (2, .int (nI i))] := hl
  obtain ⟨rf, sf, pf, zf, xf, kf, lf, mf, hC, hMA⟩ := hM
  obtain ⟨hz, hm, hxx, hpp, hkl⟩ := hMA.2 b (by omega)
  obtain ⟨hit, hbx⟩ := hI.2 b (by omega)
  have hcap := BI_cap hit
  have h48 := hit.1
  obtain ⟨hki, hli⟩ := hkl i hi
  have hik := (hit.2.2.1 i hi).1
  have hpl := ps_step (σ.2 b).2.2.2.2.2 hi
  have hpz := hit.2.1
  have hk16 := hC.2.2.2.2.2.2.2.2.2.2.2.2.2.2.2.1 b hb6 i
  refine lv_aload_n hx hb dX3_left_0 rfl (lv_at hl 0 rfl) ?_
  refine lv_iload_n hx hb dX3_left_1 rfl (lv_at hl 1 rfl) ?_
  refine lv_iload_n hx hb dX3_left_2 rfl (lv_at hl 2 rfl) ?_
  refine lv_bipush (v := nI 112) hx hb dX3_left_3 (by decide) ?_
  refine lv_bipush (v := nI 116) hx hb dX3_left_5 (by decide) ?_
  refine g_callV (As := [.int (nI b), .int (nI i), .int (nI 112), .int (nI 116)]) (rest := []) ⟨hx, hb, hml, hown, hw⟩ (mX3_isOf_ok l D cT n ad A hD G hn σ hI th rf sf pf zf xf kf lf mf hC hMA b i (by omega) (by omega) 112 116 (by omega) (by omega)) (cwV 4 hw (gWV wm_X3_78 wi_X3_isOf wse_X3_isOf wini_X3 wc_X3_isOf) rfl rfl rfl (by decide +kernel) ⟨Nat.le_of_ble_eq_true rfl, Nat.le_of_ble_eq_true rfl⟩) hK hE hA hP hS (k := 69) (by omega) hC.1 rfl rfl hl.1 (lv_room (Nat.le_of_ble_eq_true rfl)) dX3_left_7 ⟨Nat.le_of_ble_eq_true rfl, Nat.le_of_ble_eq_true rfl⟩ (fun v_2 G_1 H locs hp hP hS => ?_)
  obtain ⟨rfl, hg_G_1, ho_G_1⟩ := hp
  rw [if_pos (by omega)] at hg_G_1
  refine t_eqi (nI 1) (congrArg nI (if_pos (by omega))) ?_
  have hc_3 : G_1 69 = .inr (5, [.ref (ad 70), .ref (ad 86), .ref (ad 90), .ref (ad 97), .ref (ad 98), .ref (ad 99), .ref (ad 106), .ref (ad 113), .int (nI 0)]) := hg_G_1
  have hc_4 : G_1 70 = aQ (cT 10) 3 (q3 ad) := (ho_G_1 _ (by omega)).trans hC.2.1
  have hc_5 : G_1 86 = aQ (cT 8) 3 (qS ad) := (ho_G_1 _ (by omega)).trans hC.2.2.2.2.1
  have hc_6 : G_1 90 = aQ (cT 7) 6 (qP ad) := (ho_G_1 _ (by omega)).trans hC.2.2.2.2.2.2.1
  have hc_7 : G_1 97 = aI cT 6 zf := (ho_G_1 _ (by omega)).trans hC.2.2.2.2.2.2.2.2.1
  have hc_8 : G_1 98 = aZ cT 6 xf := (ho_G_1 _ (by omega)).trans hC.2.2.2.2.2.2.2.2.2.1
  have hc_9 : G_1 99 = aQ (cT 9) 6 (qK ad) := (ho_G_1 _ (by omega)).trans hC.2.2.2.2.2.2.2.2.2.2.1
  have hc_10 : G_1 106 = aQ (cT 8) 6 (qL ad) := (ho_G_1 _ (by omega)).trans hC.2.2.2.2.2.2.2.2.2.2.2.2.1
  have hc_11 : G_1 113 = aI cT 6 mf := (ho_G_1 _ (by omega)).trans hC.2.2.2.2.2.2.2.2.2.2.2.2.2.2.1
  have hc_12 : G_1 (91 + b) = aJ cT 48 (pf b) := (ho_G_1 _ (by omega)).trans (hC.2.2.2.2.2.2.2.1 b (by omega))
  have hc_13 : G_1 (100 + b) = aC cT 128 (kf b) := (ho_G_1 _ (by omega)).trans (hC.2.2.2.2.2.2.2.2.2.2.2.1 b (by omega))
  have hc_14 : G_1 (107 + b) = aI cT 128 (lf b) := (ho_G_1 _ (by omega)).trans (hC.2.2.2.2.2.2.2.2.2.2.2.2.2.1 b (by omega))
  have hfr_15 : ∀ j, (j ≠ 69) → G_1 j = G j := fun j hj => (ho_G_1 j (by omega)).trans (rfl)
  refine t_if_eq (tgt := 24) hx hb dX3_left_10 (by decide) (by omega) (fun c_16 => absurd c_16 (by omega)) (fun c_16 => ?_)
  refine lv_aload_n hx hb dX3_left_13 rfl (lv_at hl 0 rfl) ?_
  refine g_get (C := RX3) (T := TX3) (N := 9) hx hb hw inX3 hown hK hP (i := 69) (by omega) hc_3 rfl 6 (by decide) (hw _ wf_X3_37) rfl dX3_left_14 ?_
  refine lv_iload_n hx hb dX3_left_17 rfl (lv_at hl 1 rfl) ?_
  refine g_aald hx hb hK hP 8 (i := 106) (by omega) hc_10 rfl rfl (k := (ad (107 + b))) (by omega) (by omega) (qL_at (by omega)) dX3_left_18 ?_
  refine lv_iload_n hx hb dX3_left_19 rfl (lv_at hl 2 rfl) ?_
  refine g_iald hx hb hK hP (i := (107 + b)) (by omega) hc_14 (by omega) (by omega) dX3_left_20 ?_
  refine lv_goto (tgt := 25) hx hb dX3_left_21 (by decide) ?_
  refine g_ret hQ hx hb hr hlocks rfl hP hS (⟨⟨by rw [hli], MW.same hC hMA hc_3 (fun j9 _ _ hj9 => hfr_15 j9 hj9)⟩, fun j hj => hfr_15 j (by omega)⟩) (Nat.le_of_ble_eq_true rfl) (Nat.le_of_ble_eq_true rfl) dX3_left_25

set_option maxHeartbeats 4000000 in
set_option maxRecDepth 100000 in
theorem mX3_left_no (l : Launch) (D : va_G) (cT : Nat → ClassId) (n : Nat) (ad : Nat → Nat) (A : Nat → Prop) (hD : ∀ G, va_D A (gw n ad G)) (G : Nat → va_E) (hn : 114 ≤ n) (σ : TY) (hI : YI σ) (th : Nat) (hM : MW cT ad G σ th) (x y : Int32) (E : String) (hpx : pxIs σ x y (fun c => c = 110) E) : Met l yX3_left (wA yX3_left cX3_left 3 (some .int)) ({ frames := 3, cells := 0, slots := 0, locals := 66 } : Room) (PG D cT n ad A G [.ref (ad 69), .int x, .int y]) (QG D n ad A (fun v G1 => ((∃ z, v = some (.int z)) ∧ MW cT ad G1 σ (cd [xIO, xIS] E)) ∧ ∀ j, (j < 69 ∨ 114 ≤ j) → G1 j = G j)) 0 0 A := by
  refine Met.ofG (cc := cX3_left) (maxL := 3) (ret := (some .int)) (by decide) (Nat.le_of_ble_eq_true rfl) ?_
  intro p e s m args below meth c Q hQ hx hb hr hml hlocks hown hw hP hK hE hA hS ls hl
  have hl : lv_has ls 3 [(0, .ref (ad 69)), (1, .int x), (2, .int y)] := hl
  obtain ⟨rf, sf, pf, zf, xf, kf, lf, mf, hC, hMA⟩ := hM
  rcases hpx with hpx | ⟨b, i, hb6, rfl, hi, rfl, hKp, rfl⟩
  · skip
    obtain ⟨hib, rfl⟩ := hpx
    refine lv_aload_n hx hb dX3_left_0 rfl (lv_at hl 0 rfl) ?_
    refine lv_iload_n hx hb dX3_left_1 rfl (lv_at hl 1 rfl) ?_
    refine lv_iload_n hx hb dX3_left_2 rfl (lv_at hl 2 rfl) ?_
    refine lv_bipush (v := nI 112) hx hb dX3_left_3 (by decide) ?_
    refine lv_bipush (v := nI 116) hx hb dX3_left_5 (by decide) ?_
    refine g_callV (As := [.int x, .int y, .int (nI 112), .int (nI 116)]) (rest := []) ⟨hx, hb, hml, hown, hw⟩ (mX3_isOf_bad l D cT n ad A hD G hn σ hI th rf sf pf zf xf kf lf mf hC hMA x y hib 112 116 (by omega) (by omega)) (cwV 4 hw (gWV wm_X3_78 wi_X3_isOf wse_X3_isOf wini_X3 wc_X3_isOf) rfl rfl rfl (by decide +kernel) ⟨Nat.le_of_ble_eq_true rfl, Nat.le_of_ble_eq_true rfl⟩) hK hE hA hP hS (k := 69) (by omega) hC.1 rfl rfl hl.1 (lv_room (Nat.le_of_ble_eq_true rfl)) dX3_left_7 ⟨Nat.le_of_ble_eq_true rfl, Nat.le_of_ble_eq_true rfl⟩ (fun v_2 G_1 H locs hp hP hS => ?_)
    obtain ⟨rfl, hg_G_1, ho_G_1⟩ := hp
    have hc_3 : G_1 69 = .inr (5, [.ref (ad 70), .ref (ad 86), .ref (ad 90), .ref (ad 97), .ref (ad 98), .ref (ad 99), .ref (ad 106), .ref (ad 113), .int (nI 1)]) := hg_G_1
    have hc_4 : G_1 70 = aQ (cT 10) 3 (q3 ad) := (ho_G_1 _ (by omega)).trans hC.2.1
    have hc_5 : G_1 86 = aQ (cT 8) 3 (qS ad) := (ho_G_1 _ (by omega)).trans hC.2.2.2.2.1
    have hc_6 : G_1 90 = aQ (cT 7) 6 (qP ad) := (ho_G_1 _ (by omega)).trans hC.2.2.2.2.2.2.1
    have hc_7 : G_1 97 = aI cT 6 zf := (ho_G_1 _ (by omega)).trans hC.2.2.2.2.2.2.2.2.1
    have hc_8 : G_1 98 = aZ cT 6 xf := (ho_G_1 _ (by omega)).trans hC.2.2.2.2.2.2.2.2.2.1
    have hc_9 : G_1 99 = aQ (cT 9) 6 (qK ad) := (ho_G_1 _ (by omega)).trans hC.2.2.2.2.2.2.2.2.2.2.1
    have hc_10 : G_1 106 = aQ (cT 8) 6 (qL ad) := (ho_G_1 _ (by omega)).trans hC.2.2.2.2.2.2.2.2.2.2.2.2.1
    have hc_11 : G_1 113 = aI cT 6 mf := (ho_G_1 _ (by omega)).trans hC.2.2.2.2.2.2.2.2.2.2.2.2.2.2.1
    have hfr_12 : ∀ j, (j ≠ 69) → G_1 j = G j := fun j hj => (ho_G_1 j (by omega)).trans (rfl)
    refine t_if_eq (tgt := 24) hx hb dX3_left_10 (by decide) (by omega) (fun c_13 => ?_) (fun c_13 => absurd c_13 (by omega))
    refine lv_iconst (v := nI 0) hx hb dX3_left_24 (by decide) ?_
    refine g_ret hQ hx hb hr hlocks rfl hP hS (⟨⟨⟨_, rfl⟩, by rw [show cd [xIO, xIS] xIO = 1 from by decide +kernel]; exact MW.same hC hMA hc_3 (fun j9 _ _ hj9 => hfr_12 j9 hj9)⟩, fun j hj => hfr_12 j (by omega)⟩) (Nat.le_of_ble_eq_true rfl) (Nat.le_of_ble_eq_true rfl) dX3_left_25
  · skip
    obtain ⟨hz, hm, hxx, hpp, hkl⟩ := hMA.2 b (by omega)
    obtain ⟨hit, hbx⟩ := hI.2 b (by omega)
    have hcap := BI_cap hit
    have h48 := hit.1
    obtain ⟨hki, hli⟩ := hkl i hi
    have hik := (hit.2.2.1 i hi).1
    have hpl := ps_step (σ.2 b).2.2.2.2.2 hi
    have hpz := hit.2.1
    have hk16 := hC.2.2.2.2.2.2.2.2.2.2.2.2.2.2.2.1 b hb6 i
    refine lv_aload_n hx hb dX3_left_0 rfl (lv_at hl 0 rfl) ?_
    refine lv_iload_n hx hb dX3_left_1 rfl (lv_at hl 1 rfl) ?_
    refine lv_iload_n hx hb dX3_left_2 rfl (lv_at hl 2 rfl) ?_
    refine lv_bipush (v := nI 112) hx hb dX3_left_3 (by decide) ?_
    refine lv_bipush (v := nI 116) hx hb dX3_left_5 (by decide) ?_
    refine g_callV (As := [.int (nI b), .int (nI i), .int (nI 112), .int (nI 116)]) (rest := []) ⟨hx, hb, hml, hown, hw⟩ (mX3_isOf_ok l D cT n ad A hD G hn σ hI th rf sf pf zf xf kf lf mf hC hMA b i (by omega) (by omega) 112 116 (by omega) (by omega)) (cwV 4 hw (gWV wm_X3_78 wi_X3_isOf wse_X3_isOf wini_X3 wc_X3_isOf) rfl rfl rfl (by decide +kernel) ⟨Nat.le_of_ble_eq_true rfl, Nat.le_of_ble_eq_true rfl⟩) hK hE hA hP hS (k := 69) (by omega) hC.1 rfl rfl hl.1 (lv_room (Nat.le_of_ble_eq_true rfl)) dX3_left_7 ⟨Nat.le_of_ble_eq_true rfl, Nat.le_of_ble_eq_true rfl⟩ (fun v_15 G_14 H locs hp hP hS => ?_)
    obtain ⟨rfl, hg_G_14, ho_G_14⟩ := hp
    rw [if_neg (by omega)] at hg_G_14
    refine t_eqi (nI 0) (congrArg nI (if_neg (by omega))) ?_
    have hc_16 : G_14 69 = .inr (5, [.ref (ad 70), .ref (ad 86), .ref (ad 90), .ref (ad 97), .ref (ad 98), .ref (ad 99), .ref (ad 106), .ref (ad 113), .int (nI 2)]) := hg_G_14
    have hc_17 : G_14 70 = aQ (cT 10) 3 (q3 ad) := (ho_G_14 _ (by omega)).trans hC.2.1
    have hc_18 : G_14 86 = aQ (cT 8) 3 (qS ad) := (ho_G_14 _ (by omega)).trans hC.2.2.2.2.1
    have hc_19 : G_14 90 = aQ (cT 7) 6 (qP ad) := (ho_G_14 _ (by omega)).trans hC.2.2.2.2.2.2.1
    have hc_20 : G_14 97 = aI cT 6 zf := (ho_G_14 _ (by omega)).trans hC.2.2.2.2.2.2.2.2.1
    have hc_21 : G_14 98 = aZ cT 6 xf := (ho_G_14 _ (by omega)).trans hC.2.2.2.2.2.2.2.2.2.1
    have hc_22 : G_14 99 = aQ (cT 9) 6 (qK ad) := (ho_G_14 _ (by omega)).trans hC.2.2.2.2.2.2.2.2.2.2.1
    have hc_23 : G_14 106 = aQ (cT 8) 6 (qL ad) := (ho_G_14 _ (by omega)).trans hC.2.2.2.2.2.2.2.2.2.2.2.2.1
    have hc_24 : G_14 113 = aI cT 6 mf := (ho_G_14 _ (by omega)).trans hC.2.2.2.2.2.2.2.2.2.2.2.2.2.2.1
    have hc_25 : G_14 (91 + b) = aJ cT 48 (pf b) := (ho_G_14 _ (by omega)).trans (hC.2.2.2.2.2.2.2.1 b (by omega))
    have hc_26 : G_14 (100 + b) = aC cT 128 (kf b) := (ho_G_14 _ (by omega)).trans (hC.2.2.2.2.2.2.2.2.2.2.2.1 b (by omega))
    have hc_27 : G_14 (107 + b) = aI cT 128 (lf b) := (ho_G_14 _ (by omega)).trans (hC.2.2.2.2.2.2.2.2.2.2.2.2.2.1 b (by omega))
    have hfr_28 : ∀ j, (j ≠ 69) → G_14 j = G j := fun j hj => (ho_G_14 j (by omega)).trans (rfl)
    refine t_if_eq (tgt := 24) hx hb dX3_left_10 (by decide) (by omega) (fun c_29 => ?_) (fun c_29 => absurd c_29 (by omega))
    refine lv_iconst (v := nI 0) hx hb dX3_left_24 (by decide) ?_
    refine g_ret hQ hx hb hr hlocks rfl hP hS (⟨⟨⟨_, rfl⟩, by rw [show cd [xIO, xIS] xIS = 2 from by decide +kernel]; exact MW.same hC hMA hc_16 (fun j9 _ _ hj9 => hfr_28 j9 hj9)⟩, fun j hj => hfr_28 j (by omega)⟩) (Nat.le_of_ble_eq_true rfl) (Nat.le_of_ble_eq_true rfl) dX3_left_25

set_option maxHeartbeats 4000000 in
set_option maxRecDepth 100000 in
theorem mX3_ahead_ok (l : Launch) (D : va_G) (cT : Nat → ClassId) (n : Nat) (ad : Nat → Nat) (A : Nat → Prop) (hD : ∀ G, va_D A (gw n ad G)) (G : Nat → va_E) (hn : 114 ≤ n) (σ : TY) (hI : YI σ) (th : Nat) (hM : MW cT ad G σ th)(b i : Nat) (hb6 : b < 6) (hi : i < (σ.2 b).2.1) : Met l yX3_ahead (wA yX3_ahead cX3_ahead 3 (some .int)) ({ frames := 2, cells := 0, slots := 0, locals := 42 } : Room) (PG D cT n ad A G [.ref (ad 69), .int (nI b), .int (nI i)]) (QG D n ad A (fun v G1 => (v = some (.int (nI (ps (σ.2 b).2.2.2.2.2 i))) ∧ MW cT ad G1 (σ) 0) ∧ ∀ j, (j < 69 ∨ 114 ≤ j) → G1 j = G j)) 0 0 A := by
  refine Met.ofG (cc := cX3_ahead) (maxL := 3) (ret := (some .int)) (by decide) (Nat.le_of_ble_eq_true rfl) ?_
  intro p e s m args below meth c Q hQ hx hb hr hml hlocks hown hw hP hK hE hA hS ls hl
  have hl : lv_has ls 3 [(0, .ref (ad 69)), (1, .int (nI b)), (2, .int (nI i))] := hl
  obtain ⟨rf, sf, pf, zf, xf, kf, lf, mf, hC, hMA⟩ := hM
  obtain ⟨hz, hm, hxx, hpp, hkl⟩ := hMA.2 b (by omega)
  obtain ⟨hit, hbx⟩ := hI.2 b (by omega)
  have hcap := BI_cap hit
  have h48 := hit.1
  obtain ⟨hki, hli⟩ := hkl i hi
  have hik := (hit.2.2.1 i hi).1
  have hpl := ps_step (σ.2 b).2.2.2.2.2 hi
  have hpz := hit.2.1
  have hk16 := hC.2.2.2.2.2.2.2.2.2.2.2.2.2.2.2.1 b hb6 i
  refine lv_aload_n hx hb dX3_ahead_0 rfl (lv_at hl 0 rfl) ?_
  refine lv_aload_n hx hb dX3_ahead_1 rfl (lv_at hl 0 rfl) ?_
  refine lv_iload_n hx hb dX3_ahead_2 rfl (lv_at hl 1 rfl) ?_
  refine lv_iload_n hx hb dX3_ahead_3 rfl (lv_at hl 2 rfl) ?_
  refine g_callV (As := [.int (nI b), .int (nI i)]) (rest := [.ref (ad 69)]) ⟨hx, hb, hml, hown, hw⟩ (mX3_isItem l D cT n ad A hD G hn σ hI th rf sf pf zf xf kf lf mf hC hMA (nI b) (nI i)) (cwV 2 hw (gWV wm_X3_74 wi_X3_isItem wse_X3_isItem wini_X3 wc_X3_isItem) rfl rfl rfl (by decide +kernel) ⟨Nat.le_of_ble_eq_true rfl, Nat.le_of_ble_eq_true rfl⟩) hK hE hA hP hS (k := 69) (by omega) hC.1 rfl rfl hl.1 (lv_room (Nat.le_of_ble_eq_true rfl)) dX3_ahead_4 ⟨Nat.le_of_ble_eq_true rfl, Nat.le_of_ble_eq_true rfl⟩ (fun v_2 G_1 H locs hp hP hS => ?_)
  obtain ⟨hv1, hv2, hg9⟩ := hp
  rw [hg9] at hP
  have hv := hv2 ⟨b, hb6, rfl, i, hi, rfl⟩
  subst hv
  refine lv_iconst (v := nI 1) hx hb dX3_ahead_7 (by decide) ?_
  refine lv_iconst (v := nI 1) hx hb dX3_ahead_8 (by decide) ?_
  refine g_callV (As := [.int (nI 1), .int (nI 1), .int (nI 1)]) (rest := []) ⟨hx, hb, hml, hown, hw⟩ (mX3_can l D cT n ad A hD G hn th 1 1 1 (by decide) (by decide) (by decide) hC.1) (cwV 3 hw (gWV wm_X3_63 wi_X3_can wse_X3_can wini_X3 wc_X3_can) rfl rfl rfl (by decide +kernel) ⟨Nat.le_of_ble_eq_true rfl, Nat.le_of_ble_eq_true rfl⟩) hK hE hA hP hS (k := 69) (by omega) hC.1 rfl rfl hl.1 (lv_room (Nat.le_of_ble_eq_true rfl)) dX3_ahead_9 ⟨Nat.le_of_ble_eq_true rfl, Nat.le_of_ble_eq_true rfl⟩ (fun v_4 G_3 H locs hp hP hS => ?_)
  obtain ⟨rfl, hg_G_3, ho_G_3⟩ := hp
  have hc_5 : G_3 69 = .inr (5, [.ref (ad 70), .ref (ad 86), .ref (ad 90), .ref (ad 97), .ref (ad 98), .ref (ad 99), .ref (ad 106), .ref (ad 113), .int (nI 0)]) := hg_G_3
  have hc_6 : G_3 70 = aQ (cT 10) 3 (q3 ad) := (ho_G_3 _ (by omega)).trans hC.2.1
  have hc_7 : G_3 86 = aQ (cT 8) 3 (qS ad) := (ho_G_3 _ (by omega)).trans hC.2.2.2.2.1
  have hc_8 : G_3 90 = aQ (cT 7) 6 (qP ad) := (ho_G_3 _ (by omega)).trans hC.2.2.2.2.2.2.1
  have hc_9 : G_3 97 = aI cT 6 zf := (ho_G_3 _ (by omega)).trans hC.2.2.2.2.2.2.2.2.1
  have hc_10 : G_3 98 = aZ cT 6 xf := (ho_G_3 _ (by omega)).trans hC.2.2.2.2.2.2.2.2.2.1
  have hc_11 : G_3 99 = aQ (cT 9) 6 (qK ad) := (ho_G_3 _ (by omega)).trans hC.2.2.2.2.2.2.2.2.2.2.1
  have hc_12 : G_3 106 = aQ (cT 8) 6 (qL ad) := (ho_G_3 _ (by omega)).trans hC.2.2.2.2.2.2.2.2.2.2.2.2.1
  have hc_13 : G_3 113 = aI cT 6 mf := (ho_G_3 _ (by omega)).trans hC.2.2.2.2.2.2.2.2.2.2.2.2.2.2.1
  have hc_14 : G_3 (91 + b) = aJ cT 48 (pf b) := (ho_G_3 _ (by omega)).trans (hC.2.2.2.2.2.2.2.1 b (by omega))
  have hc_15 : G_3 (100 + b) = aC cT 128 (kf b) := (ho_G_3 _ (by omega)).trans (hC.2.2.2.2.2.2.2.2.2.2.2.1 b (by omega))
  have hc_16 : G_3 (107 + b) = aI cT 128 (lf b) := (ho_G_3 _ (by omega)).trans (hC.2.2.2.2.2.2.2.2.2.2.2.2.2.1 b (by omega))
  have hfr_17 : ∀ j, (j ≠ 69) → G_3 j = G j := fun j hj => (ho_G_3 j (by omega)).trans (rfl)
  refine t_eqi (nI 1) rfl ?_
  refine t_if_eq (tgt := 24) hx hb dX3_ahead_12 (by decide) (by omega) (fun c_18 => absurd c_18 (by omega)) (fun c_18 => ?_)
  refine lv_aload_n hx hb dX3_ahead_15 rfl (lv_at hl 0 rfl) ?_
  refine lv_iload_n hx hb dX3_ahead_16 rfl (lv_at hl 1 rfl) ?_
  refine lv_iload_n hx hb dX3_ahead_17 rfl (lv_at hl 2 rfl) ?_
  refine g_callV (As := [.int (nI b), .int (nI i)]) (rest := []) ⟨hx, hb, hml, hown, hw⟩ (mX3_before l D cT n ad A hD G_3 hn 0 hc_5 hc_12 b i (lf b) (σ.2 b).2.2.2.2.2 (by omega) hc_16 (fun j hj => (hkl j (by omega)).2) (by omega) (by omega)) (cwV 2 hw (gWV wm_X3_82 wi_X3_before wse_X3_before wini_X3 wc_X3_before) rfl rfl rfl (by decide +kernel) ⟨Nat.le_of_ble_eq_true rfl, Nat.le_of_ble_eq_true rfl⟩) hK hE hA hP hS (k := 69) (by omega) hc_5 rfl rfl hl.1 (lv_room (Nat.le_of_ble_eq_true rfl)) dX3_ahead_18 ⟨Nat.le_of_ble_eq_true rfl, Nat.le_of_ble_eq_true rfl⟩ (fun v_20 G_19 H locs hp hP hS => ?_)
  obtain ⟨hv, hg⟩ := hp
  subst hv
  rw [hg] at hP
  refine lv_goto (tgt := 25) hx hb dX3_ahead_21 (by decide) ?_
  refine g_ret hQ hx hb hr hlocks rfl hP hS (⟨⟨rfl, MW.same hC hMA hc_5 (fun j9 _ _ hj9 => hfr_17 j9 hj9)⟩, fun j hj => hfr_17 j (by omega)⟩) (Nat.le_of_ble_eq_true rfl) (Nat.le_of_ble_eq_true rfl) dX3_ahead_25

set_option maxHeartbeats 4000000 in
set_option maxRecDepth 100000 in
theorem mX3_ahead_no (l : Launch) (D : va_G) (cT : Nat → ClassId) (n : Nat) (ad : Nat → Nat) (A : Nat → Prop) (hD : ∀ G, va_D A (gw n ad G)) (G : Nat → va_E) (hn : 114 ≤ n) (σ : TY) (hI : YI σ) (th : Nat) (hM : MW cT ad G σ th) (x y : Int32) (E : String) (hpx : pxItem σ x y E) : Met l yX3_ahead (wA yX3_ahead cX3_ahead 3 (some .int)) ({ frames := 2, cells := 0, slots := 0, locals := 42 } : Room) (PG D cT n ad A G [.ref (ad 69), .int x, .int y]) (QG D n ad A (fun v G1 => ((∃ z, v = some (.int z)) ∧ MW cT ad G1 σ (cd [xIO] E)) ∧ ∀ j, (j < 69 ∨ 114 ≤ j) → G1 j = G j)) 0 0 A := by
  refine Met.ofG (cc := cX3_ahead) (maxL := 3) (ret := (some .int)) (by decide) (Nat.le_of_ble_eq_true rfl) ?_
  intro p e s m args below meth c Q hQ hx hb hr hml hlocks hown hw hP hK hE hA hS ls hl
  have hl : lv_has ls 3 [(0, .ref (ad 69)), (1, .int x), (2, .int y)] := hl
  obtain ⟨rf, sf, pf, zf, xf, kf, lf, mf, hC, hMA⟩ := hM
  obtain ⟨hib, rfl⟩ := hpx
  refine lv_aload_n hx hb dX3_ahead_0 rfl (lv_at hl 0 rfl) ?_
  refine lv_aload_n hx hb dX3_ahead_1 rfl (lv_at hl 0 rfl) ?_
  refine lv_iload_n hx hb dX3_ahead_2 rfl (lv_at hl 1 rfl) ?_
  refine lv_iload_n hx hb dX3_ahead_3 rfl (lv_at hl 2 rfl) ?_
  refine g_callV (As := [.int x, .int y]) (rest := [.ref (ad 69)]) ⟨hx, hb, hml, hown, hw⟩ (mX3_isItem l D cT n ad A hD G hn σ hI th rf sf pf zf xf kf lf mf hC hMA x y) (cwV 2 hw (gWV wm_X3_74 wi_X3_isItem wse_X3_isItem wini_X3 wc_X3_isItem) rfl rfl rfl (by decide +kernel) ⟨Nat.le_of_ble_eq_true rfl, Nat.le_of_ble_eq_true rfl⟩) hK hE hA hP hS (k := 69) (by omega) hC.1 rfl rfl hl.1 (lv_room (Nat.le_of_ble_eq_true rfl)) dX3_ahead_4 ⟨Nat.le_of_ble_eq_true rfl, Nat.le_of_ble_eq_true rfl⟩ (fun v_2 G_1 H locs hp hP hS => ?_)
  obtain ⟨hv1, hv2, hg9⟩ := hp
  rw [hg9] at hP
  have hv := hv1 hib
  subst hv
  refine lv_iconst (v := nI 1) hx hb dX3_ahead_7 (by decide) ?_
  refine lv_iconst (v := nI 1) hx hb dX3_ahead_8 (by decide) ?_
  refine g_callV (As := [.int (nI 0), .int (nI 1), .int (nI 1)]) (rest := []) ⟨hx, hb, hml, hown, hw⟩ (mX3_can l D cT n ad A hD G hn th 0 1 1 (by decide) (by decide) (by decide) hC.1) (cwV 3 hw (gWV wm_X3_63 wi_X3_can wse_X3_can wini_X3 wc_X3_can) rfl rfl rfl (by decide +kernel) ⟨Nat.le_of_ble_eq_true rfl, Nat.le_of_ble_eq_true rfl⟩) hK hE hA hP hS (k := 69) (by omega) hC.1 rfl rfl hl.1 (lv_room (Nat.le_of_ble_eq_true rfl)) dX3_ahead_9 ⟨Nat.le_of_ble_eq_true rfl, Nat.le_of_ble_eq_true rfl⟩ (fun v_4 G_3 H locs hp hP hS => ?_)
  obtain ⟨rfl, hg_G_3, ho_G_3⟩ := hp
  have hc_5 : G_3 69 = .inr (5, [.ref (ad 70), .ref (ad 86), .ref (ad 90), .ref (ad 97), .ref (ad 98), .ref (ad 99), .ref (ad 106), .ref (ad 113), .int (nI 1)]) := hg_G_3
  have hc_6 : G_3 70 = aQ (cT 10) 3 (q3 ad) := (ho_G_3 _ (by omega)).trans hC.2.1
  have hc_7 : G_3 86 = aQ (cT 8) 3 (qS ad) := (ho_G_3 _ (by omega)).trans hC.2.2.2.2.1
  have hc_8 : G_3 90 = aQ (cT 7) 6 (qP ad) := (ho_G_3 _ (by omega)).trans hC.2.2.2.2.2.2.1
  have hc_9 : G_3 97 = aI cT 6 zf := (ho_G_3 _ (by omega)).trans hC.2.2.2.2.2.2.2.2.1
  have hc_10 : G_3 98 = aZ cT 6 xf := (ho_G_3 _ (by omega)).trans hC.2.2.2.2.2.2.2.2.2.1
  have hc_11 : G_3 99 = aQ (cT 9) 6 (qK ad) := (ho_G_3 _ (by omega)).trans hC.2.2.2.2.2.2.2.2.2.2.1
  have hc_12 : G_3 106 = aQ (cT 8) 6 (qL ad) := (ho_G_3 _ (by omega)).trans hC.2.2.2.2.2.2.2.2.2.2.2.2.1
  have hc_13 : G_3 113 = aI cT 6 mf := (ho_G_3 _ (by omega)).trans hC.2.2.2.2.2.2.2.2.2.2.2.2.2.2.1
  have hfr_14 : ∀ j, (j ≠ 69) → G_3 j = G j := fun j hj => (ho_G_3 j (by omega)).trans (rfl)
  refine t_eqi (nI 0) rfl ?_
  refine t_if_eq (tgt := 24) hx hb dX3_ahead_12 (by decide) (by omega) (fun c_15 => ?_) (fun c_15 => absurd c_15 (by omega))
  refine lv_iconst (v := nI 0) hx hb dX3_ahead_24 (by decide) ?_
  refine g_ret hQ hx hb hr hlocks rfl hP hS (⟨⟨⟨_, rfl⟩, by rw [show cd [xIO] xIO = 1 from by decide +kernel]; exact MW.same hC hMA hc_5 (fun j9 _ _ hj9 => hfr_14 j9 hj9)⟩, fun j hj => hfr_14 j (by omega)⟩) (Nat.le_of_ble_eq_true rfl) (Nat.le_of_ble_eq_true rfl) dX3_ahead_25

set_option maxHeartbeats 4000000 in
set_option maxRecDepth 100000 in
theorem mX3_has_ok (l : Launch) (D : va_G) (cT : Nat → ClassId) (n : Nat) (ad : Nat → Nat) (A : Nat → Prop) (hD : ∀ G, va_D A (gw n ad G)) (G : Nat → va_E) (hn : 114 ≤ n) (σ : TY) (hI : YI σ) (th : Nat) (hM : MW cT ad G σ th)(b i : Nat) (hb6 : b < 6) (hi : i < (σ.2 b).2.1) (ch : Nat) (hch : ch < 65536) (hk9 : (σ.2 b).2.2.2.2.1 i = 112) (hcx : 0 < chx ch) : Met l yX3_has (wA yX3_has cX3_has 4 (some .boolean)) ({ frames := 3, cells := 0, slots := 0, locals := 66 } : Room) (PG D cT n ad A G [.ref (ad 69), .int (nI b), .int (nI i), .int (nI ch)]) (QG D n ad A (fun v G1 => (v = some (.int (nI 1)) ∧ MW cT ad G1 (σ) 0) ∧ ∀ j, (j < 69 ∨ 114 ≤ j) → G1 j = G j)) 0 0 A := by
  refine Met.ofG (cc := cX3_has) (maxL := 4) (ret := (some .boolean)) (by decide) (Nat.le_of_ble_eq_true rfl) ?_
  intro p e s m args below meth c Q hQ hx hb hr hml hlocks hown hw hP hK hE hA hS ls hl
  have hl : lv_has ls 4 [(0, .ref (ad 69)), (1, .int (nI b)), (2, .int (nI i)), (3, .int (nI ch))] := hl
  obtain ⟨rf, sf, pf, zf, xf, kf, lf, mf, hC, hMA⟩ := hM
  obtain ⟨hz, hm, hxx, hpp, hkl⟩ := hMA.2 b (by omega)
  obtain ⟨hit, hbx⟩ := hI.2 b (by omega)
  have hcap := BI_cap hit
  have h48 := hit.1
  obtain ⟨hki, hli⟩ := hkl i hi
  have hik := (hit.2.2.1 i hi).1
  have hpl := ps_step (σ.2 b).2.2.2.2.2 hi
  have hpz := hit.2.1
  have hk16 := hC.2.2.2.2.2.2.2.2.2.2.2.2.2.2.2.1 b hb6 i
  have hx5 := chx_in hcx
  refine lv_aload_n hx hb dX3_has_0 rfl (lv_at hl 0 rfl) ?_
  refine lv_iload_n hx hb dX3_has_1 rfl (lv_at hl 1 rfl) ?_
  refine lv_iload_n hx hb dX3_has_2 rfl (lv_at hl 2 rfl) ?_
  refine lv_bipush (v := nI 112) hx hb dX3_has_3 (by decide) ?_
  refine lv_bipush (v := nI 112) hx hb dX3_has_5 (by decide) ?_
  refine g_callV (As := [.int (nI b), .int (nI i), .int (nI 112), .int (nI 112)]) (rest := []) ⟨hx, hb, hml, hown, hw⟩ (mX3_isOf_ok l D cT n ad A hD G hn σ hI th rf sf pf zf xf kf lf mf hC hMA b i (by omega) (by omega) 112 112 (by omega) (by omega)) (cwV 4 hw (gWV wm_X3_78 wi_X3_isOf wse_X3_isOf wini_X3 wc_X3_isOf) rfl rfl rfl (by decide +kernel) ⟨Nat.le_of_ble_eq_true rfl, Nat.le_of_ble_eq_true rfl⟩) hK hE hA hP hS (k := 69) (by omega) hC.1 rfl rfl hl.1 (lv_room (Nat.le_of_ble_eq_true rfl)) dX3_has_7 ⟨Nat.le_of_ble_eq_true rfl, Nat.le_of_ble_eq_true rfl⟩ (fun v_2 G_1 H locs hp hP hS => ?_)
  obtain ⟨rfl, hg_G_1, ho_G_1⟩ := hp
  rw [if_pos (by omega)] at hg_G_1
  refine t_eqi (nI 1) (congrArg nI (if_pos (by omega))) ?_
  have hc_3 : G_1 69 = .inr (5, [.ref (ad 70), .ref (ad 86), .ref (ad 90), .ref (ad 97), .ref (ad 98), .ref (ad 99), .ref (ad 106), .ref (ad 113), .int (nI 0)]) := hg_G_1
  have hc_4 : G_1 70 = aQ (cT 10) 3 (q3 ad) := (ho_G_1 _ (by omega)).trans hC.2.1
  have hc_5 : G_1 86 = aQ (cT 8) 3 (qS ad) := (ho_G_1 _ (by omega)).trans hC.2.2.2.2.1
  have hc_6 : G_1 90 = aQ (cT 7) 6 (qP ad) := (ho_G_1 _ (by omega)).trans hC.2.2.2.2.2.2.1
  have hc_7 : G_1 97 = aI cT 6 zf := (ho_G_1 _ (by omega)).trans hC.2.2.2.2.2.2.2.2.1
  have hc_8 : G_1 98 = aZ cT 6 xf := (ho_G_1 _ (by omega)).trans hC.2.2.2.2.2.2.2.2.2.1
  have hc_9 : G_1 99 = aQ (cT 9) 6 (qK ad) := (ho_G_1 _ (by omega)).trans hC.2.2.2.2.2.2.2.2.2.2.1
  have hc_10 : G_1 106 = aQ (cT 8) 6 (qL ad) := (ho_G_1 _ (by omega)).trans hC.2.2.2.2.2.2.2.2.2.2.2.2.1
  have hc_11 : G_1 113 = aI cT 6 mf := (ho_G_1 _ (by omega)).trans hC.2.2.2.2.2.2.2.2.2.2.2.2.2.2.1
  have hc_12 : G_1 (91 + b) = aJ cT 48 (pf b) := (ho_G_1 _ (by omega)).trans (hC.2.2.2.2.2.2.2.1 b (by omega))
  have hc_13 : G_1 (100 + b) = aC cT 128 (kf b) := (ho_G_1 _ (by omega)).trans (hC.2.2.2.2.2.2.2.2.2.2.2.1 b (by omega))
  have hc_14 : G_1 (107 + b) = aI cT 128 (lf b) := (ho_G_1 _ (by omega)).trans (hC.2.2.2.2.2.2.2.2.2.2.2.2.2.1 b (by omega))
  have hfr_15 : ∀ j, (j ≠ 69) → G_1 j = G j := fun j hj => (ho_G_1 j (by omega)).trans (rfl)
  refine t_if_eq (tgt := 61) hx hb dX3_has_10 (by decide) (by omega) (fun c_16 => absurd c_16 (by omega)) (fun c_16 => ?_)
  refine lv_aload_n hx hb dX3_has_13 rfl (lv_at hl 0 rfl) ?_
  refine lv_iconst (v := nI 1) hx hb dX3_has_14 (by decide) ?_
  refine lv_iconst (v := nI 1) hx hb dX3_has_15 (by decide) ?_
  refine lv_iload_n hx hb dX3_has_16 rfl (lv_at hl 3 rfl) ?_
  refine lv_bipush (v := nI 111) hx hb dX3_has_17 (by decide) ?_
  refine t_icmp_eq (tgt := 46) hx hb dX3_has_19 (by decide) (by omega) (by omega) (fun c_17 => ?_) (fun c_17 => ?_)
  · skip
    refine lv_iconst (v := nI 1) hx hb dX3_has_46 (by decide) ?_
    refine lv_goto (tgt := 51) hx hb dX3_has_47 (by decide) ?_
    refine g_callV (As := [.int (nI 1), .int (nI 1), .int (nI 1)]) (rest := []) ⟨hx, hb, hml, hown, hw⟩ (mX3_can l D cT n ad A hD G_1 hn 0 1 1 1 (by decide) (by decide) (by decide) hc_3) (cwV 3 hw (gWV wm_X3_63 wi_X3_can wse_X3_can wini_X3 wc_X3_can) rfl rfl rfl (by decide +kernel) ⟨Nat.le_of_ble_eq_true rfl, Nat.le_of_ble_eq_true rfl⟩) hK hE hA hP hS (k := 69) (by omega) hc_3 rfl rfl hl.1 (lv_room (Nat.le_of_ble_eq_true rfl)) dX3_has_51 ⟨Nat.le_of_ble_eq_true rfl, Nat.le_of_ble_eq_true rfl⟩ (fun v_19 G_18 H locs hp hP hS => ?_)
    obtain ⟨rfl, hg_G_18, ho_G_18⟩ := hp
    have hc_20 : G_18 69 = .inr (5, [.ref (ad 70), .ref (ad 86), .ref (ad 90), .ref (ad 97), .ref (ad 98), .ref (ad 99), .ref (ad 106), .ref (ad 113), .int (nI 0)]) := hg_G_18
    have hc_21 : G_18 70 = aQ (cT 10) 3 (q3 ad) := (ho_G_18 _ (by omega)).trans hc_4
    have hc_22 : G_18 86 = aQ (cT 8) 3 (qS ad) := (ho_G_18 _ (by omega)).trans hc_5
    have hc_23 : G_18 90 = aQ (cT 7) 6 (qP ad) := (ho_G_18 _ (by omega)).trans hc_6
    have hc_24 : G_18 97 = aI cT 6 zf := (ho_G_18 _ (by omega)).trans hc_7
    have hc_25 : G_18 98 = aZ cT 6 xf := (ho_G_18 _ (by omega)).trans hc_8
    have hc_26 : G_18 99 = aQ (cT 9) 6 (qK ad) := (ho_G_18 _ (by omega)).trans hc_9
    have hc_27 : G_18 106 = aQ (cT 8) 6 (qL ad) := (ho_G_18 _ (by omega)).trans hc_10
    have hc_28 : G_18 113 = aI cT 6 mf := (ho_G_18 _ (by omega)).trans hc_11
    have hc_29 : G_18 (91 + b) = aJ cT 48 (pf b) := (ho_G_18 _ (by omega)).trans hc_12
    have hc_30 : G_18 (100 + b) = aC cT 128 (kf b) := (ho_G_18 _ (by omega)).trans hc_13
    have hc_31 : G_18 (107 + b) = aI cT 128 (lf b) := (ho_G_18 _ (by omega)).trans hc_14
    have hfr_32 : ∀ j, (j ≠ 69) → G_18 j = G j := fun j hj => (ho_G_18 j (by omega)).trans (hfr_15 j hj)
    refine t_eqi (nI 1) rfl ?_
    refine t_if_eq (tgt := 61) hx hb dX3_has_54 (by decide) (by omega) (fun c_33 => absurd c_33 (by omega)) (fun c_33 => ?_)
    refine lv_iconst (v := nI 1) hx hb dX3_has_57 (by decide) ?_
    refine lv_goto (tgt := 62) hx hb dX3_has_58 (by decide) ?_
    refine g_ret hQ hx hb hr hlocks rfl hP hS (⟨⟨rfl, MW.same hC hMA hc_20 (fun j9 _ _ hj9 => hfr_32 j9 hj9)⟩, fun j hj => hfr_32 j (by omega)⟩) (Nat.le_of_ble_eq_true rfl) (Nat.le_of_ble_eq_true rfl) dX3_has_62
  · skip
    refine lv_iload_n hx hb dX3_has_22 rfl (lv_at hl 3 rfl) ?_
    refine lv_bipush (v := nI 115) hx hb dX3_has_23 (by decide) ?_
    refine t_icmp_eq (tgt := 46) hx hb dX3_has_25 (by decide) (by omega) (by omega) (fun c_34 => ?_) (fun c_34 => ?_)
    · skip
      refine lv_iconst (v := nI 1) hx hb dX3_has_46 (by decide) ?_
      refine lv_goto (tgt := 51) hx hb dX3_has_47 (by decide) ?_
      refine g_callV (As := [.int (nI 1), .int (nI 1), .int (nI 1)]) (rest := []) ⟨hx, hb, hml, hown, hw⟩ (mX3_can l D cT n ad A hD G_1 hn 0 1 1 1 (by decide) (by decide) (by decide) hc_3) (cwV 3 hw (gWV wm_X3_63 wi_X3_can wse_X3_can wini_X3 wc_X3_can) rfl rfl rfl (by decide +kernel) ⟨Nat.le_of_ble_eq_true rfl, Nat.le_of_ble_eq_true rfl⟩) hK hE hA hP hS (k := 69) (by omega) hc_3 rfl rfl hl.1 (lv_room (Nat.le_of_ble_eq_true rfl)) dX3_has_51 ⟨Nat.le_of_ble_eq_true rfl, Nat.le_of_ble_eq_true rfl⟩ (fun v_36 G_35 H locs hp hP hS => ?_)
      obtain ⟨rfl, hg_G_35, ho_G_35⟩ := hp
      have hc_37 : G_35 69 = .inr (5, [.ref (ad 70), .ref (ad 86), .ref (ad 90), .ref (ad 97), .ref (ad 98), .ref (ad 99), .ref (ad 106), .ref (ad 113), .int (nI 0)]) := hg_G_35
      have hc_38 : G_35 70 = aQ (cT 10) 3 (q3 ad) := (ho_G_35 _ (by omega)).trans hc_4
      have hc_39 : G_35 86 = aQ (cT 8) 3 (qS ad) := (ho_G_35 _ (by omega)).trans hc_5
      have hc_40 : G_35 90 = aQ (cT 7) 6 (qP ad) := (ho_G_35 _ (by omega)).trans hc_6
      have hc_41 : G_35 97 = aI cT 6 zf := (ho_G_35 _ (by omega)).trans hc_7
      have hc_42 : G_35 98 = aZ cT 6 xf := (ho_G_35 _ (by omega)).trans hc_8
      have hc_43 : G_35 99 = aQ (cT 9) 6 (qK ad) := (ho_G_35 _ (by omega)).trans hc_9
      have hc_44 : G_35 106 = aQ (cT 8) 6 (qL ad) := (ho_G_35 _ (by omega)).trans hc_10
      have hc_45 : G_35 113 = aI cT 6 mf := (ho_G_35 _ (by omega)).trans hc_11
      have hc_46 : G_35 (91 + b) = aJ cT 48 (pf b) := (ho_G_35 _ (by omega)).trans hc_12
      have hc_47 : G_35 (100 + b) = aC cT 128 (kf b) := (ho_G_35 _ (by omega)).trans hc_13
      have hc_48 : G_35 (107 + b) = aI cT 128 (lf b) := (ho_G_35 _ (by omega)).trans hc_14
      have hfr_49 : ∀ j, (j ≠ 69) → G_35 j = G j := fun j hj => (ho_G_35 j (by omega)).trans (hfr_15 j hj)
      refine t_eqi (nI 1) rfl ?_
      refine t_if_eq (tgt := 61) hx hb dX3_has_54 (by decide) (by omega) (fun c_50 => absurd c_50 (by omega)) (fun c_50 => ?_)
      refine lv_iconst (v := nI 1) hx hb dX3_has_57 (by decide) ?_
      refine lv_goto (tgt := 62) hx hb dX3_has_58 (by decide) ?_
      refine g_ret hQ hx hb hr hlocks rfl hP hS (⟨⟨rfl, MW.same hC hMA hc_37 (fun j9 _ _ hj9 => hfr_49 j9 hj9)⟩, fun j hj => hfr_49 j (by omega)⟩) (Nat.le_of_ble_eq_true rfl) (Nat.le_of_ble_eq_true rfl) dX3_has_62
    · skip
      refine lv_iload_n hx hb dX3_has_28 rfl (lv_at hl 3 rfl) ?_
      refine lv_bipush (v := nI 117) hx hb dX3_has_29 (by decide) ?_
      refine t_icmp_eq (tgt := 46) hx hb dX3_has_31 (by decide) (by omega) (by omega) (fun c_51 => ?_) (fun c_51 => ?_)
      · skip
        refine lv_iconst (v := nI 1) hx hb dX3_has_46 (by decide) ?_
        refine lv_goto (tgt := 51) hx hb dX3_has_47 (by decide) ?_
        refine g_callV (As := [.int (nI 1), .int (nI 1), .int (nI 1)]) (rest := []) ⟨hx, hb, hml, hown, hw⟩ (mX3_can l D cT n ad A hD G_1 hn 0 1 1 1 (by decide) (by decide) (by decide) hc_3) (cwV 3 hw (gWV wm_X3_63 wi_X3_can wse_X3_can wini_X3 wc_X3_can) rfl rfl rfl (by decide +kernel) ⟨Nat.le_of_ble_eq_true rfl, Nat.le_of_ble_eq_true rfl⟩) hK hE hA hP hS (k := 69) (by omega) hc_3 rfl rfl hl.1 (lv_room (Nat.le_of_ble_eq_true rfl)) dX3_has_51 ⟨Nat.le_of_ble_eq_true rfl, Nat.le_of_ble_eq_true rfl⟩ (fun v_53 G_52 H locs hp hP hS => ?_)
        obtain ⟨rfl, hg_G_52, ho_G_52⟩ := hp
        have hc_54 : G_52 69 = .inr (5, [.ref (ad 70), .ref (ad 86), .ref (ad 90), .ref (ad 97), .ref (ad 98), .ref (ad 99), .ref (ad 106), .ref (ad 113), .int (nI 0)]) := hg_G_52
        have hc_55 : G_52 70 = aQ (cT 10) 3 (q3 ad) := (ho_G_52 _ (by omega)).trans hc_4
        have hc_56 : G_52 86 = aQ (cT 8) 3 (qS ad) := (ho_G_52 _ (by omega)).trans hc_5
        have hc_57 : G_52 90 = aQ (cT 7) 6 (qP ad) := (ho_G_52 _ (by omega)).trans hc_6
        have hc_58 : G_52 97 = aI cT 6 zf := (ho_G_52 _ (by omega)).trans hc_7
        have hc_59 : G_52 98 = aZ cT 6 xf := (ho_G_52 _ (by omega)).trans hc_8
        have hc_60 : G_52 99 = aQ (cT 9) 6 (qK ad) := (ho_G_52 _ (by omega)).trans hc_9
        have hc_61 : G_52 106 = aQ (cT 8) 6 (qL ad) := (ho_G_52 _ (by omega)).trans hc_10
        have hc_62 : G_52 113 = aI cT 6 mf := (ho_G_52 _ (by omega)).trans hc_11
        have hc_63 : G_52 (91 + b) = aJ cT 48 (pf b) := (ho_G_52 _ (by omega)).trans hc_12
        have hc_64 : G_52 (100 + b) = aC cT 128 (kf b) := (ho_G_52 _ (by omega)).trans hc_13
        have hc_65 : G_52 (107 + b) = aI cT 128 (lf b) := (ho_G_52 _ (by omega)).trans hc_14
        have hfr_66 : ∀ j, (j ≠ 69) → G_52 j = G j := fun j hj => (ho_G_52 j (by omega)).trans (hfr_15 j hj)
        refine t_eqi (nI 1) rfl ?_
        refine t_if_eq (tgt := 61) hx hb dX3_has_54 (by decide) (by omega) (fun c_67 => absurd c_67 (by omega)) (fun c_67 => ?_)
        refine lv_iconst (v := nI 1) hx hb dX3_has_57 (by decide) ?_
        refine lv_goto (tgt := 62) hx hb dX3_has_58 (by decide) ?_
        refine g_ret hQ hx hb hr hlocks rfl hP hS (⟨⟨rfl, MW.same hC hMA hc_54 (fun j9 _ _ hj9 => hfr_66 j9 hj9)⟩, fun j hj => hfr_66 j (by omega)⟩) (Nat.le_of_ble_eq_true rfl) (Nat.le_of_ble_eq_true rfl) dX3_has_62
      · skip
        refine lv_iload_n hx hb dX3_has_34 rfl (lv_at hl 3 rfl) ?_
        refine lv_bipush (v := nI 105) hx hb dX3_has_35 (by decide) ?_
        refine t_icmp_eq (tgt := 46) hx hb dX3_has_37 (by decide) (by omega) (by omega) (fun c_68 => ?_) (fun c_68 => ?_)
        · skip
          refine lv_iconst (v := nI 1) hx hb dX3_has_46 (by decide) ?_
          refine lv_goto (tgt := 51) hx hb dX3_has_47 (by decide) ?_
          refine g_callV (As := [.int (nI 1), .int (nI 1), .int (nI 1)]) (rest := []) ⟨hx, hb, hml, hown, hw⟩ (mX3_can l D cT n ad A hD G_1 hn 0 1 1 1 (by decide) (by decide) (by decide) hc_3) (cwV 3 hw (gWV wm_X3_63 wi_X3_can wse_X3_can wini_X3 wc_X3_can) rfl rfl rfl (by decide +kernel) ⟨Nat.le_of_ble_eq_true rfl, Nat.le_of_ble_eq_true rfl⟩) hK hE hA hP hS (k := 69) (by omega) hc_3 rfl rfl hl.1 (lv_room (Nat.le_of_ble_eq_true rfl)) dX3_has_51 ⟨Nat.le_of_ble_eq_true rfl, Nat.le_of_ble_eq_true rfl⟩ (fun v_70 G_69 H locs hp hP hS => ?_)
          obtain ⟨rfl, hg_G_69, ho_G_69⟩ := hp
          have hc_71 : G_69 69 = .inr (5, [.ref (ad 70), .ref (ad 86), .ref (ad 90), .ref (ad 97), .ref (ad 98), .ref (ad 99), .ref (ad 106), .ref (ad 113), .int (nI 0)]) := hg_G_69
          have hc_72 : G_69 70 = aQ (cT 10) 3 (q3 ad) := (ho_G_69 _ (by omega)).trans hc_4
          have hc_73 : G_69 86 = aQ (cT 8) 3 (qS ad) := (ho_G_69 _ (by omega)).trans hc_5
          have hc_74 : G_69 90 = aQ (cT 7) 6 (qP ad) := (ho_G_69 _ (by omega)).trans hc_6
          have hc_75 : G_69 97 = aI cT 6 zf := (ho_G_69 _ (by omega)).trans hc_7
          have hc_76 : G_69 98 = aZ cT 6 xf := (ho_G_69 _ (by omega)).trans hc_8
          have hc_77 : G_69 99 = aQ (cT 9) 6 (qK ad) := (ho_G_69 _ (by omega)).trans hc_9
          have hc_78 : G_69 106 = aQ (cT 8) 6 (qL ad) := (ho_G_69 _ (by omega)).trans hc_10
          have hc_79 : G_69 113 = aI cT 6 mf := (ho_G_69 _ (by omega)).trans hc_11
          have hc_80 : G_69 (91 + b) = aJ cT 48 (pf b) := (ho_G_69 _ (by omega)).trans hc_12
          have hc_81 : G_69 (100 + b) = aC cT 128 (kf b) := (ho_G_69 _ (by omega)).trans hc_13
          have hc_82 : G_69 (107 + b) = aI cT 128 (lf b) := (ho_G_69 _ (by omega)).trans hc_14
          have hfr_83 : ∀ j, (j ≠ 69) → G_69 j = G j := fun j hj => (ho_G_69 j (by omega)).trans (hfr_15 j hj)
          refine t_eqi (nI 1) rfl ?_
          refine t_if_eq (tgt := 61) hx hb dX3_has_54 (by decide) (by omega) (fun c_84 => absurd c_84 (by omega)) (fun c_84 => ?_)
          refine lv_iconst (v := nI 1) hx hb dX3_has_57 (by decide) ?_
          refine lv_goto (tgt := 62) hx hb dX3_has_58 (by decide) ?_
          refine g_ret hQ hx hb hr hlocks rfl hP hS (⟨⟨rfl, MW.same hC hMA hc_71 (fun j9 _ _ hj9 => hfr_83 j9 hj9)⟩, fun j hj => hfr_83 j (by omega)⟩) (Nat.le_of_ble_eq_true rfl) (Nat.le_of_ble_eq_true rfl) dX3_has_62
        · skip
          refine lv_iload_n hx hb dX3_has_40 rfl (lv_at hl 3 rfl) ?_
          refine lv_bipush (v := nI 97) hx hb dX3_has_41 (by decide) ?_
          refine t_icmp_ne (tgt := 50) hx hb dX3_has_43 (by decide) (by omega) (by omega) (fun c_85 => ?_) (fun c_85 => ?_)
          · exfalso; omega
          · skip
            refine lv_iconst (v := nI 1) hx hb dX3_has_46 (by decide) ?_
            refine lv_goto (tgt := 51) hx hb dX3_has_47 (by decide) ?_
            refine g_callV (As := [.int (nI 1), .int (nI 1), .int (nI 1)]) (rest := []) ⟨hx, hb, hml, hown, hw⟩ (mX3_can l D cT n ad A hD G_1 hn 0 1 1 1 (by decide) (by decide) (by decide) hc_3) (cwV 3 hw (gWV wm_X3_63 wi_X3_can wse_X3_can wini_X3 wc_X3_can) rfl rfl rfl (by decide +kernel) ⟨Nat.le_of_ble_eq_true rfl, Nat.le_of_ble_eq_true rfl⟩) hK hE hA hP hS (k := 69) (by omega) hc_3 rfl rfl hl.1 (lv_room (Nat.le_of_ble_eq_true rfl)) dX3_has_51 ⟨Nat.le_of_ble_eq_true rfl, Nat.le_of_ble_eq_true rfl⟩ (fun v_87 G_86 H locs hp hP hS => ?_)
            obtain ⟨rfl, hg_G_86, ho_G_86⟩ := hp
            have hc_88 : G_86 69 = .inr (5, [.ref (ad 70), .ref (ad 86), .ref (ad 90), .ref (ad 97), .ref (ad 98), .ref (ad 99), .ref (ad 106), .ref (ad 113), .int (nI 0)]) := hg_G_86
            have hc_89 : G_86 70 = aQ (cT 10) 3 (q3 ad) := (ho_G_86 _ (by omega)).trans hc_4
            have hc_90 : G_86 86 = aQ (cT 8) 3 (qS ad) := (ho_G_86 _ (by omega)).trans hc_5
            have hc_91 : G_86 90 = aQ (cT 7) 6 (qP ad) := (ho_G_86 _ (by omega)).trans hc_6
            have hc_92 : G_86 97 = aI cT 6 zf := (ho_G_86 _ (by omega)).trans hc_7
            have hc_93 : G_86 98 = aZ cT 6 xf := (ho_G_86 _ (by omega)).trans hc_8
            have hc_94 : G_86 99 = aQ (cT 9) 6 (qK ad) := (ho_G_86 _ (by omega)).trans hc_9
            have hc_95 : G_86 106 = aQ (cT 8) 6 (qL ad) := (ho_G_86 _ (by omega)).trans hc_10
            have hc_96 : G_86 113 = aI cT 6 mf := (ho_G_86 _ (by omega)).trans hc_11
            have hc_97 : G_86 (91 + b) = aJ cT 48 (pf b) := (ho_G_86 _ (by omega)).trans hc_12
            have hc_98 : G_86 (100 + b) = aC cT 128 (kf b) := (ho_G_86 _ (by omega)).trans hc_13
            have hc_99 : G_86 (107 + b) = aI cT 128 (lf b) := (ho_G_86 _ (by omega)).trans hc_14
            have hfr_100 : ∀ j, (j ≠ 69) → G_86 j = G j := fun j hj => (ho_G_86 j (by omega)).trans (hfr_15 j hj)
            refine t_eqi (nI 1) rfl ?_
            refine t_if_eq (tgt := 61) hx hb dX3_has_54 (by decide) (by omega) (fun c_101 => absurd c_101 (by omega)) (fun c_101 => ?_)
            refine lv_iconst (v := nI 1) hx hb dX3_has_57 (by decide) ?_
            refine lv_goto (tgt := 62) hx hb dX3_has_58 (by decide) ?_
            refine g_ret hQ hx hb hr hlocks rfl hP hS (⟨⟨rfl, MW.same hC hMA hc_88 (fun j9 _ _ hj9 => hfr_100 j9 hj9)⟩, fun j hj => hfr_100 j (by omega)⟩) (Nat.le_of_ble_eq_true rfl) (Nat.le_of_ble_eq_true rfl) dX3_has_62

set_option maxHeartbeats 4000000 in
set_option maxRecDepth 100000 in
theorem mX3_has_no (l : Launch) (D : va_G) (cT : Nat → ClassId) (n : Nat) (ad : Nat → Nat) (A : Nat → Prop) (hD : ∀ G, va_D A (gw n ad G)) (G : Nat → va_E) (hn : 114 ≤ n) (σ : TY) (hI : YI σ) (th : Nat) (hM : MW cT ad G σ th) (x y : Int32) (ch : Nat) (hch : ch < 65536) (E : String) (hpx : pxIs σ x y (fun c => c ≠ 112) E ∨ onI σ x y (fun b i => (σ.2 b).2.2.2.2.1 i = 112 ∧ chx ch = 0 ∧ E = xIA)) : Met l yX3_has (wA yX3_has cX3_has 4 (some .boolean)) ({ frames := 3, cells := 0, slots := 0, locals := 66 } : Room) (PG D cT n ad A G [.ref (ad 69), .int x, .int y, .int (nI ch)]) (QG D n ad A (fun v G1 => ((∃ z, v = some (.int z)) ∧ MW cT ad G1 σ (cd [xIO, xIS, xIA] E)) ∧ ∀ j, (j < 69 ∨ 114 ≤ j) → G1 j = G j)) 0 0 A := by
  refine Met.ofG (cc := cX3_has) (maxL := 4) (ret := (some .boolean)) (by decide) (Nat.le_of_ble_eq_true rfl) ?_
  intro p e s m args below meth c Q hQ hx hb hr hml hlocks hown hw hP hK hE hA hS ls hl
  have hl : lv_has ls 4 [(0, .ref (ad 69)), (1, .int x), (2, .int y), (3, .int (nI ch))] := hl
  obtain ⟨rf, sf, pf, zf, xf, kf, lf, mf, hC, hMA⟩ := hM
  rcases hpx with hpx | ⟨b, i, hb6, rfl, hi, rfl, hKp, hcx, rfl⟩
  · skip
    rcases hpx with hpx | ⟨b, i, hb6, rfl, hi, rfl, hKp, rfl⟩
    · skip
      obtain ⟨hib, rfl⟩ := hpx
      refine lv_aload_n hx hb dX3_has_0 rfl (lv_at hl 0 rfl) ?_
      refine lv_iload_n hx hb dX3_has_1 rfl (lv_at hl 1 rfl) ?_
      refine lv_iload_n hx hb dX3_has_2 rfl (lv_at hl 2 rfl) ?_
      refine lv_bipush (v := nI 112) hx hb dX3_has_3 (by decide) ?_
      refine lv_bipush (v := nI 112) hx hb dX3_has_5 (by decide) ?_
      refine g_callV (As := [.int x, .int y, .int (nI 112), .int (nI 112)]) (rest := []) ⟨hx, hb, hml, hown, hw⟩ (mX3_isOf_bad l D cT n ad A hD G hn σ hI th rf sf pf zf xf kf lf mf hC hMA x y hib 112 112 (by omega) (by omega)) (cwV 4 hw (gWV wm_X3_78 wi_X3_isOf wse_X3_isOf wini_X3 wc_X3_isOf) rfl rfl rfl (by decide +kernel) ⟨Nat.le_of_ble_eq_true rfl, Nat.le_of_ble_eq_true rfl⟩) hK hE hA hP hS (k := 69) (by omega) hC.1 rfl rfl hl.1 (lv_room (Nat.le_of_ble_eq_true rfl)) dX3_has_7 ⟨Nat.le_of_ble_eq_true rfl, Nat.le_of_ble_eq_true rfl⟩ (fun v_2 G_1 H locs hp hP hS => ?_)
      obtain ⟨rfl, hg_G_1, ho_G_1⟩ := hp
      have hc_3 : G_1 69 = .inr (5, [.ref (ad 70), .ref (ad 86), .ref (ad 90), .ref (ad 97), .ref (ad 98), .ref (ad 99), .ref (ad 106), .ref (ad 113), .int (nI 1)]) := hg_G_1
      have hc_4 : G_1 70 = aQ (cT 10) 3 (q3 ad) := (ho_G_1 _ (by omega)).trans hC.2.1
      have hc_5 : G_1 86 = aQ (cT 8) 3 (qS ad) := (ho_G_1 _ (by omega)).trans hC.2.2.2.2.1
      have hc_6 : G_1 90 = aQ (cT 7) 6 (qP ad) := (ho_G_1 _ (by omega)).trans hC.2.2.2.2.2.2.1
      have hc_7 : G_1 97 = aI cT 6 zf := (ho_G_1 _ (by omega)).trans hC.2.2.2.2.2.2.2.2.1
      have hc_8 : G_1 98 = aZ cT 6 xf := (ho_G_1 _ (by omega)).trans hC.2.2.2.2.2.2.2.2.2.1
      have hc_9 : G_1 99 = aQ (cT 9) 6 (qK ad) := (ho_G_1 _ (by omega)).trans hC.2.2.2.2.2.2.2.2.2.2.1
      have hc_10 : G_1 106 = aQ (cT 8) 6 (qL ad) := (ho_G_1 _ (by omega)).trans hC.2.2.2.2.2.2.2.2.2.2.2.2.1
      have hc_11 : G_1 113 = aI cT 6 mf := (ho_G_1 _ (by omega)).trans hC.2.2.2.2.2.2.2.2.2.2.2.2.2.2.1
      have hfr_12 : ∀ j, (j ≠ 69) → G_1 j = G j := fun j hj => (ho_G_1 j (by omega)).trans (rfl)
      refine t_if_eq (tgt := 61) hx hb dX3_has_10 (by decide) (by omega) (fun c_13 => ?_) (fun c_13 => absurd c_13 (by omega))
      refine lv_iconst (v := nI 0) hx hb dX3_has_61 (by decide) ?_
      refine g_ret hQ hx hb hr hlocks rfl hP hS (⟨⟨⟨_, rfl⟩, by rw [show cd [xIO, xIS, xIA] xIO = 1 from by decide +kernel]; exact MW.same hC hMA hc_3 (fun j9 _ _ hj9 => hfr_12 j9 hj9)⟩, fun j hj => hfr_12 j (by omega)⟩) (Nat.le_of_ble_eq_true rfl) (Nat.le_of_ble_eq_true rfl) dX3_has_62
    · skip
      obtain ⟨hz, hm, hxx, hpp, hkl⟩ := hMA.2 b (by omega)
      obtain ⟨hit, hbx⟩ := hI.2 b (by omega)
      have hcap := BI_cap hit
      have h48 := hit.1
      obtain ⟨hki, hli⟩ := hkl i hi
      have hik := (hit.2.2.1 i hi).1
      have hpl := ps_step (σ.2 b).2.2.2.2.2 hi
      have hpz := hit.2.1
      have hk16 := hC.2.2.2.2.2.2.2.2.2.2.2.2.2.2.2.1 b hb6 i
      refine lv_aload_n hx hb dX3_has_0 rfl (lv_at hl 0 rfl) ?_
      refine lv_iload_n hx hb dX3_has_1 rfl (lv_at hl 1 rfl) ?_
      refine lv_iload_n hx hb dX3_has_2 rfl (lv_at hl 2 rfl) ?_
      refine lv_bipush (v := nI 112) hx hb dX3_has_3 (by decide) ?_
      refine lv_bipush (v := nI 112) hx hb dX3_has_5 (by decide) ?_
      refine g_callV (As := [.int (nI b), .int (nI i), .int (nI 112), .int (nI 112)]) (rest := []) ⟨hx, hb, hml, hown, hw⟩ (mX3_isOf_ok l D cT n ad A hD G hn σ hI th rf sf pf zf xf kf lf mf hC hMA b i (by omega) (by omega) 112 112 (by omega) (by omega)) (cwV 4 hw (gWV wm_X3_78 wi_X3_isOf wse_X3_isOf wini_X3 wc_X3_isOf) rfl rfl rfl (by decide +kernel) ⟨Nat.le_of_ble_eq_true rfl, Nat.le_of_ble_eq_true rfl⟩) hK hE hA hP hS (k := 69) (by omega) hC.1 rfl rfl hl.1 (lv_room (Nat.le_of_ble_eq_true rfl)) dX3_has_7 ⟨Nat.le_of_ble_eq_true rfl, Nat.le_of_ble_eq_true rfl⟩ (fun v_15 G_14 H locs hp hP hS => ?_)
      obtain ⟨rfl, hg_G_14, ho_G_14⟩ := hp
      rw [if_neg (by omega)] at hg_G_14
      refine t_eqi (nI 0) (congrArg nI (if_neg (by omega))) ?_
      have hc_16 : G_14 69 = .inr (5, [.ref (ad 70), .ref (ad 86), .ref (ad 90), .ref (ad 97), .ref (ad 98), .ref (ad 99), .ref (ad 106), .ref (ad 113), .int (nI 2)]) := hg_G_14
      have hc_17 : G_14 70 = aQ (cT 10) 3 (q3 ad) := (ho_G_14 _ (by omega)).trans hC.2.1
      have hc_18 : G_14 86 = aQ (cT 8) 3 (qS ad) := (ho_G_14 _ (by omega)).trans hC.2.2.2.2.1
      have hc_19 : G_14 90 = aQ (cT 7) 6 (qP ad) := (ho_G_14 _ (by omega)).trans hC.2.2.2.2.2.2.1
      have hc_20 : G_14 97 = aI cT 6 zf := (ho_G_14 _ (by omega)).trans hC.2.2.2.2.2.2.2.2.1
      have hc_21 : G_14 98 = aZ cT 6 xf := (ho_G_14 _ (by omega)).trans hC.2.2.2.2.2.2.2.2.2.1
      have hc_22 : G_14 99 = aQ (cT 9) 6 (qK ad) := (ho_G_14 _ (by omega)).trans hC.2.2.2.2.2.2.2.2.2.2.1
      have hc_23 : G_14 106 = aQ (cT 8) 6 (qL ad) := (ho_G_14 _ (by omega)).trans hC.2.2.2.2.2.2.2.2.2.2.2.2.1
      have hc_24 : G_14 113 = aI cT 6 mf := (ho_G_14 _ (by omega)).trans hC.2.2.2.2.2.2.2.2.2.2.2.2.2.2.1
      have hc_25 : G_14 (91 + b) = aJ cT 48 (pf b) := (ho_G_14 _ (by omega)).trans (hC.2.2.2.2.2.2.2.1 b (by omega))
      have hc_26 : G_14 (100 + b) = aC cT 128 (kf b) := (ho_G_14 _ (by omega)).trans (hC.2.2.2.2.2.2.2.2.2.2.2.1 b (by omega))
      have hc_27 : G_14 (107 + b) = aI cT 128 (lf b) := (ho_G_14 _ (by omega)).trans (hC.2.2.2.2.2.2.2.2.2.2.2.2.2.1 b (by omega))
      have hfr_28 : ∀ j, (j ≠ 69) → G_14 j = G j := fun j hj => (ho_G_14 j (by omega)).trans (rfl)
      refine t_if_eq (tgt := 61) hx hb dX3_has_10 (by decide) (by omega) (fun c_29 => ?_) (fun c_29 => absurd c_29 (by omega))
      refine lv_iconst (v := nI 0) hx hb dX3_has_61 (by decide) ?_
      refine g_ret hQ hx hb hr hlocks rfl hP hS (⟨⟨⟨_, rfl⟩, by rw [show cd [xIO, xIS, xIA] xIS = 2 from by decide +kernel]; exact MW.same hC hMA hc_16 (fun j9 _ _ hj9 => hfr_28 j9 hj9)⟩, fun j hj => hfr_28 j (by omega)⟩) (Nat.le_of_ble_eq_true rfl) (Nat.le_of_ble_eq_true rfl) dX3_has_62
  · skip
    obtain ⟨hz, hm, hxx, hpp, hkl⟩ := hMA.2 b (by omega)
    obtain ⟨hit, hbx⟩ := hI.2 b (by omega)
    have hcap := BI_cap hit
    have h48 := hit.1
    obtain ⟨hki, hli⟩ := hkl i hi
    have hik := (hit.2.2.1 i hi).1
    have hpl := ps_step (σ.2 b).2.2.2.2.2 hi
    have hpz := hit.2.1
    have hk16 := hC.2.2.2.2.2.2.2.2.2.2.2.2.2.2.2.1 b hb6 i
    have hx5 := chx_no hcx
    refine lv_aload_n hx hb dX3_has_0 rfl (lv_at hl 0 rfl) ?_
    refine lv_iload_n hx hb dX3_has_1 rfl (lv_at hl 1 rfl) ?_
    refine lv_iload_n hx hb dX3_has_2 rfl (lv_at hl 2 rfl) ?_
    refine lv_bipush (v := nI 112) hx hb dX3_has_3 (by decide) ?_
    refine lv_bipush (v := nI 112) hx hb dX3_has_5 (by decide) ?_
    refine g_callV (As := [.int (nI b), .int (nI i), .int (nI 112), .int (nI 112)]) (rest := []) ⟨hx, hb, hml, hown, hw⟩ (mX3_isOf_ok l D cT n ad A hD G hn σ hI th rf sf pf zf xf kf lf mf hC hMA b i (by omega) (by omega) 112 112 (by omega) (by omega)) (cwV 4 hw (gWV wm_X3_78 wi_X3_isOf wse_X3_isOf wini_X3 wc_X3_isOf) rfl rfl rfl (by decide +kernel) ⟨Nat.le_of_ble_eq_true rfl, Nat.le_of_ble_eq_true rfl⟩) hK hE hA hP hS (k := 69) (by omega) hC.1 rfl rfl hl.1 (lv_room (Nat.le_of_ble_eq_true rfl)) dX3_has_7 ⟨Nat.le_of_ble_eq_true rfl, Nat.le_of_ble_eq_true rfl⟩ (fun v_31 G_30 H locs hp hP hS => ?_)
    obtain ⟨rfl, hg_G_30, ho_G_30⟩ := hp
    rw [if_pos (by omega)] at hg_G_30
    refine t_eqi (nI 1) (congrArg nI (if_pos (by omega))) ?_
    have hc_32 : G_30 69 = .inr (5, [.ref (ad 70), .ref (ad 86), .ref (ad 90), .ref (ad 97), .ref (ad 98), .ref (ad 99), .ref (ad 106), .ref (ad 113), .int (nI 0)]) := hg_G_30
    have hc_33 : G_30 70 = aQ (cT 10) 3 (q3 ad) := (ho_G_30 _ (by omega)).trans hC.2.1
    have hc_34 : G_30 86 = aQ (cT 8) 3 (qS ad) := (ho_G_30 _ (by omega)).trans hC.2.2.2.2.1
    have hc_35 : G_30 90 = aQ (cT 7) 6 (qP ad) := (ho_G_30 _ (by omega)).trans hC.2.2.2.2.2.2.1
    have hc_36 : G_30 97 = aI cT 6 zf := (ho_G_30 _ (by omega)).trans hC.2.2.2.2.2.2.2.2.1
    have hc_37 : G_30 98 = aZ cT 6 xf := (ho_G_30 _ (by omega)).trans hC.2.2.2.2.2.2.2.2.2.1
    have hc_38 : G_30 99 = aQ (cT 9) 6 (qK ad) := (ho_G_30 _ (by omega)).trans hC.2.2.2.2.2.2.2.2.2.2.1
    have hc_39 : G_30 106 = aQ (cT 8) 6 (qL ad) := (ho_G_30 _ (by omega)).trans hC.2.2.2.2.2.2.2.2.2.2.2.2.1
    have hc_40 : G_30 113 = aI cT 6 mf := (ho_G_30 _ (by omega)).trans hC.2.2.2.2.2.2.2.2.2.2.2.2.2.2.1
    have hc_41 : G_30 (91 + b) = aJ cT 48 (pf b) := (ho_G_30 _ (by omega)).trans (hC.2.2.2.2.2.2.2.1 b (by omega))
    have hc_42 : G_30 (100 + b) = aC cT 128 (kf b) := (ho_G_30 _ (by omega)).trans (hC.2.2.2.2.2.2.2.2.2.2.2.1 b (by omega))
    have hc_43 : G_30 (107 + b) = aI cT 128 (lf b) := (ho_G_30 _ (by omega)).trans (hC.2.2.2.2.2.2.2.2.2.2.2.2.2.1 b (by omega))
    have hfr_44 : ∀ j, (j ≠ 69) → G_30 j = G j := fun j hj => (ho_G_30 j (by omega)).trans (rfl)
    refine t_if_eq (tgt := 61) hx hb dX3_has_10 (by decide) (by omega) (fun c_45 => absurd c_45 (by omega)) (fun c_45 => ?_)
    refine lv_aload_n hx hb dX3_has_13 rfl (lv_at hl 0 rfl) ?_
    refine lv_iconst (v := nI 1) hx hb dX3_has_14 (by decide) ?_
    refine lv_iconst (v := nI 1) hx hb dX3_has_15 (by decide) ?_
    refine lv_iload_n hx hb dX3_has_16 rfl (lv_at hl 3 rfl) ?_
    refine lv_bipush (v := nI 111) hx hb dX3_has_17 (by decide) ?_
    refine t_icmp_eq (tgt := 46) hx hb dX3_has_19 (by decide) (by omega) (by omega) (fun c_46 => ?_) (fun c_46 => ?_)
    · exfalso; omega
    · skip
      refine lv_iload_n hx hb dX3_has_22 rfl (lv_at hl 3 rfl) ?_
      refine lv_bipush (v := nI 115) hx hb dX3_has_23 (by decide) ?_
      refine t_icmp_eq (tgt := 46) hx hb dX3_has_25 (by decide) (by omega) (by omega) (fun c_47 => ?_) (fun c_47 => ?_)
      · exfalso; omega
      · skip
        refine lv_iload_n hx hb dX3_has_28 rfl (lv_at hl 3 rfl) ?_
        refine lv_bipush (v := nI 117) hx hb dX3_has_29 (by decide) ?_
        refine t_icmp_eq (tgt := 46) hx hb dX3_has_31 (by decide) (by omega) (by omega) (fun c_48 => ?_) (fun c_48 => ?_)
        · exfalso; omega
        · skip
          refine lv_iload_n hx hb dX3_has_34 rfl (lv_at hl 3 rfl) ?_
          refine lv_bipush (v := nI 105) hx hb dX3_has_35 (by decide) ?_
          refine t_icmp_eq (tgt := 46) hx hb dX3_has_37 (by decide) (by omega) (by omega) (fun c_49 => ?_) (fun c_49 => ?_)
          · exfalso; omega
          · skip
            refine lv_iload_n hx hb dX3_has_40 rfl (lv_at hl 3 rfl) ?_
            refine lv_bipush (v := nI 97) hx hb dX3_has_41 (by decide) ?_
            refine t_icmp_ne (tgt := 50) hx hb dX3_has_43 (by decide) (by omega) (by omega) (fun c_50 => ?_) (fun c_50 => ?_)
            · skip
              refine lv_iconst (v := nI 0) hx hb dX3_has_50 (by decide) ?_
              refine g_callV (As := [.int (nI 1), .int (nI 1), .int (nI 0)]) (rest := []) ⟨hx, hb, hml, hown, hw⟩ (mX3_can l D cT n ad A hD G_30 hn 0 1 1 0 (by decide) (by decide) (by decide) hc_32) (cwV 3 hw (gWV wm_X3_63 wi_X3_can wse_X3_can wini_X3 wc_X3_can) rfl rfl rfl (by decide +kernel) ⟨Nat.le_of_ble_eq_true rfl, Nat.le_of_ble_eq_true rfl⟩) hK hE hA hP hS (k := 69) (by omega) hc_32 rfl rfl hl.1 (lv_room (Nat.le_of_ble_eq_true rfl)) dX3_has_51 ⟨Nat.le_of_ble_eq_true rfl, Nat.le_of_ble_eq_true rfl⟩ (fun v_52 G_51 H locs hp hP hS => ?_)
              obtain ⟨rfl, hg_G_51, ho_G_51⟩ := hp
              have hc_53 : G_51 69 = .inr (5, [.ref (ad 70), .ref (ad 86), .ref (ad 90), .ref (ad 97), .ref (ad 98), .ref (ad 99), .ref (ad 106), .ref (ad 113), .int (nI 3)]) := hg_G_51
              have hc_54 : G_51 70 = aQ (cT 10) 3 (q3 ad) := (ho_G_51 _ (by omega)).trans hc_33
              have hc_55 : G_51 86 = aQ (cT 8) 3 (qS ad) := (ho_G_51 _ (by omega)).trans hc_34
              have hc_56 : G_51 90 = aQ (cT 7) 6 (qP ad) := (ho_G_51 _ (by omega)).trans hc_35
              have hc_57 : G_51 97 = aI cT 6 zf := (ho_G_51 _ (by omega)).trans hc_36
              have hc_58 : G_51 98 = aZ cT 6 xf := (ho_G_51 _ (by omega)).trans hc_37
              have hc_59 : G_51 99 = aQ (cT 9) 6 (qK ad) := (ho_G_51 _ (by omega)).trans hc_38
              have hc_60 : G_51 106 = aQ (cT 8) 6 (qL ad) := (ho_G_51 _ (by omega)).trans hc_39
              have hc_61 : G_51 113 = aI cT 6 mf := (ho_G_51 _ (by omega)).trans hc_40
              have hc_62 : G_51 (91 + b) = aJ cT 48 (pf b) := (ho_G_51 _ (by omega)).trans hc_41
              have hc_63 : G_51 (100 + b) = aC cT 128 (kf b) := (ho_G_51 _ (by omega)).trans hc_42
              have hc_64 : G_51 (107 + b) = aI cT 128 (lf b) := (ho_G_51 _ (by omega)).trans hc_43
              have hfr_65 : ∀ j, (j ≠ 69) → G_51 j = G j := fun j hj => (ho_G_51 j (by omega)).trans (hfr_44 j hj)
              refine t_eqi (nI 0) rfl ?_
              refine t_if_eq (tgt := 61) hx hb dX3_has_54 (by decide) (by omega) (fun c_66 => ?_) (fun c_66 => absurd c_66 (by omega))
              refine lv_iconst (v := nI 0) hx hb dX3_has_61 (by decide) ?_
              refine g_ret hQ hx hb hr hlocks rfl hP hS (⟨⟨⟨_, rfl⟩, by rw [show cd [xIO, xIS, xIA] xIA = 3 from by decide +kernel]; exact MW.same hC hMA hc_53 (fun j9 _ _ hj9 => hfr_65 j9 hj9)⟩, fun j hj => hfr_65 j (by omega)⟩) (Nat.le_of_ble_eq_true rfl) (Nat.le_of_ble_eq_true rfl) dX3_has_62
            · exfalso; omega

set_option maxHeartbeats 4000000 in
set_option maxRecDepth 100000 in
theorem mX3_isExact_ok (l : Launch) (D : va_G) (cT : Nat → ClassId) (n : Nat) (ad : Nat → Nat) (A : Nat → Prop) (hD : ∀ G, va_D A (gw n ad G)) (G : Nat → va_E) (hn : 114 ≤ n) (σ : TY) (hI : YI σ) (th : Nat) (hM : MW cT ad G σ th)(b i : Nat) (hb6 : b < 6) (hi : i < (σ.2 b).2.1) (hk9 : (σ.2 b).2.2.2.2.1 i = 112) : Met l yX3_isExact (wA yX3_isExact cX3_isExact 3 (some .boolean)) ({ frames := 3, cells := 0, slots := 0, locals := 66 } : Room) (PG D cT n ad A G [.ref (ad 69), .int (nI b), .int (nI i)]) (QG D n ad A (fun v G1 => (v = some (.int (nI 1)) ∧ MW cT ad G1 (σ) 0) ∧ ∀ j, (j < 69 ∨ 114 ≤ j) → G1 j = G j)) 0 0 A := by
  refine Met.ofG (cc := cX3_isExact) (maxL := 3) (ret := (some .boolean)) (by decide) (Nat.le_of_ble_eq_true rfl) ?_
  intro p e s m args below meth c Q hQ hx hb hr hml hlocks hown hw hP hK hE hA hS ls hl
  have hl : lv_has ls 3 [(0, .ref (ad 69)), (1, .int (nI b)), (2, .int (nI i))] := hl
  obtain ⟨rf, sf, pf, zf, xf, kf, lf, mf, hC, hMA⟩ := hM
  obtain ⟨hz, hm, hxx, hpp, hkl⟩ := hMA.2 b (by omega)
  obtain ⟨hit, hbx⟩ := hI.2 b (by omega)
  have hcap := BI_cap hit
  have h48 := hit.1
  obtain ⟨hki, hli⟩ := hkl i hi
  have hik := (hit.2.2.1 i hi).1
  have hpl := ps_step (σ.2 b).2.2.2.2.2 hi
  have hpz := hit.2.1
  have hk16 := hC.2.2.2.2.2.2.2.2.2.2.2.2.2.2.2.1 b hb6 i
  refine lv_aload_n hx hb dX3_isExact_0 rfl (lv_at hl 0 rfl) ?_
  refine lv_iload_n hx hb dX3_isExact_1 rfl (lv_at hl 1 rfl) ?_
  refine lv_iload_n hx hb dX3_isExact_2 rfl (lv_at hl 2 rfl) ?_
  refine lv_bipush (v := nI 112) hx hb dX3_isExact_3 (by decide) ?_
  refine lv_bipush (v := nI 112) hx hb dX3_isExact_5 (by decide) ?_
  refine g_callV (As := [.int (nI b), .int (nI i), .int (nI 112), .int (nI 112)]) (rest := []) ⟨hx, hb, hml, hown, hw⟩ (mX3_isOf_ok l D cT n ad A hD G hn σ hI th rf sf pf zf xf kf lf mf hC hMA b i (by omega) (by omega) 112 112 (by omega) (by omega)) (cwV 4 hw (gWV wm_X3_78 wi_X3_isOf wse_X3_isOf wini_X3 wc_X3_isOf) rfl rfl rfl (by decide +kernel) ⟨Nat.le_of_ble_eq_true rfl, Nat.le_of_ble_eq_true rfl⟩) hK hE hA hP hS (k := 69) (by omega) hC.1 rfl rfl hl.1 (lv_room (Nat.le_of_ble_eq_true rfl)) dX3_isExact_7 ⟨Nat.le_of_ble_eq_true rfl, Nat.le_of_ble_eq_true rfl⟩ (fun v_2 G_1 H locs hp hP hS => ?_)
  obtain ⟨rfl, hg_G_1, ho_G_1⟩ := hp
  rw [if_pos (by omega)] at hg_G_1
  refine t_eqi (nI 1) (congrArg nI (if_pos (by omega))) ?_
  have hc_3 : G_1 69 = .inr (5, [.ref (ad 70), .ref (ad 86), .ref (ad 90), .ref (ad 97), .ref (ad 98), .ref (ad 99), .ref (ad 106), .ref (ad 113), .int (nI 0)]) := hg_G_1
  have hc_4 : G_1 70 = aQ (cT 10) 3 (q3 ad) := (ho_G_1 _ (by omega)).trans hC.2.1
  have hc_5 : G_1 86 = aQ (cT 8) 3 (qS ad) := (ho_G_1 _ (by omega)).trans hC.2.2.2.2.1
  have hc_6 : G_1 90 = aQ (cT 7) 6 (qP ad) := (ho_G_1 _ (by omega)).trans hC.2.2.2.2.2.2.1
  have hc_7 : G_1 97 = aI cT 6 zf := (ho_G_1 _ (by omega)).trans hC.2.2.2.2.2.2.2.2.1
  have hc_8 : G_1 98 = aZ cT 6 xf := (ho_G_1 _ (by omega)).trans hC.2.2.2.2.2.2.2.2.2.1
  have hc_9 : G_1 99 = aQ (cT 9) 6 (qK ad) := (ho_G_1 _ (by omega)).trans hC.2.2.2.2.2.2.2.2.2.2.1
  have hc_10 : G_1 106 = aQ (cT 8) 6 (qL ad) := (ho_G_1 _ (by omega)).trans hC.2.2.2.2.2.2.2.2.2.2.2.2.1
  have hc_11 : G_1 113 = aI cT 6 mf := (ho_G_1 _ (by omega)).trans hC.2.2.2.2.2.2.2.2.2.2.2.2.2.2.1
  have hc_12 : G_1 (91 + b) = aJ cT 48 (pf b) := (ho_G_1 _ (by omega)).trans (hC.2.2.2.2.2.2.2.1 b (by omega))
  have hc_13 : G_1 (100 + b) = aC cT 128 (kf b) := (ho_G_1 _ (by omega)).trans (hC.2.2.2.2.2.2.2.2.2.2.2.1 b (by omega))
  have hc_14 : G_1 (107 + b) = aI cT 128 (lf b) := (ho_G_1 _ (by omega)).trans (hC.2.2.2.2.2.2.2.2.2.2.2.2.2.1 b (by omega))
  have hfr_15 : ∀ j, (j ≠ 69) → G_1 j = G j := fun j hj => (ho_G_1 j (by omega)).trans (rfl)
  refine g_ret hQ hx hb hr hlocks rfl hP hS (⟨⟨rfl, MW.same hC hMA hc_3 (fun j9 _ _ hj9 => hfr_15 j9 hj9)⟩, fun j hj => hfr_15 j (by omega)⟩) (Nat.le_of_ble_eq_true rfl) (Nat.le_of_ble_eq_true rfl) dX3_isExact_10

set_option maxHeartbeats 4000000 in
set_option maxRecDepth 100000 in
theorem mX3_isExact_no (l : Launch) (D : va_G) (cT : Nat → ClassId) (n : Nat) (ad : Nat → Nat) (A : Nat → Prop) (hD : ∀ G, va_D A (gw n ad G)) (G : Nat → va_E) (hn : 114 ≤ n) (σ : TY) (hI : YI σ) (th : Nat) (hM : MW cT ad G σ th) (x y : Int32) (E : String) (hpx : pxIs σ x y (fun c => c ≠ 112) E) : Met l yX3_isExact (wA yX3_isExact cX3_isExact 3 (some .boolean)) ({ frames := 3, cells := 0, slots := 0, locals := 66 } : Room) (PG D cT n ad A G [.ref (ad 69), .int x, .int y]) (QG D n ad A (fun v G1 => ((∃ z, v = some (.int z)) ∧ MW cT ad G1 σ (cd [xIO, xIS] E)) ∧ ∀ j, (j < 69 ∨ 114 ≤ j) → G1 j = G j)) 0 0 A := by
  refine Met.ofG (cc := cX3_isExact) (maxL := 3) (ret := (some .boolean)) (by decide) (Nat.le_of_ble_eq_true rfl) ?_
  intro p e s m args below meth c Q hQ hx hb hr hml hlocks hown hw hP hK hE hA hS ls hl
  have hl : lv_has ls 3 [(0, .ref (ad 69)), (1, .int x), (2, .int y)] := hl
  obtain ⟨rf, sf, pf, zf, xf, kf, lf, mf, hC, hMA⟩ := hM
  rcases hpx with hpx | ⟨b, i, hb6, rfl, hi, rfl, hKp, rfl⟩
  · skip
    obtain ⟨hib, rfl⟩ := hpx
    refine lv_aload_n hx hb dX3_isExact_0 rfl (lv_at hl 0 rfl) ?_
    refine lv_iload_n hx hb dX3_isExact_1 rfl (lv_at hl 1 rfl) ?_
    refine lv_iload_n hx hb dX3_isExact_2 rfl (lv_at hl 2 rfl) ?_
    refine lv_bipush (v := nI 112) hx hb dX3_isExact_3 (by decide) ?_
    refine lv_bipush (v := nI 112) hx hb dX3_isExact_5 (by decide) ?_
    refine g_callV (As := [.int x, .int y, .int (nI 112), .int (nI 112)]) (rest := []) ⟨hx, hb, hml, hown, hw⟩ (mX3_isOf_bad l D cT n ad A hD G hn σ hI th rf sf pf zf xf kf lf mf hC hMA x y hib 112 112 (by omega) (by omega)) (cwV 4 hw (gWV wm_X3_78 wi_X3_isOf wse_X3_isOf wini_X3 wc_X3_isOf) rfl rfl rfl (by decide +kernel) ⟨Nat.le_of_ble_eq_true rfl, Nat.le_of_ble_eq_true rfl⟩) hK hE hA hP hS (k := 69) (by omega) hC.1 rfl rfl hl.1 (lv_room (Nat.le_of_ble_eq_true rfl)) dX3_isExact_7 ⟨Nat.le_of_ble_eq_true rfl, Nat.le_of_ble_eq_true rfl⟩ (fun v_2 G_1 H locs hp hP hS => ?_)
    obtain ⟨rfl, hg_G_1, ho_G_1⟩ := hp
    have hc_3 : G_1 69 = .inr (5, [.ref (ad 70), .ref (ad 86), .ref (ad 90), .ref (ad 97), .ref (ad 98), .ref (ad 99), .ref (ad 106), .ref (ad 113), .int (nI 1)]) := hg_G_1
    have hc_4 : G_1 70 = aQ (cT 10) 3 (q3 ad) := (ho_G_1 _ (by omega)).trans hC.2.1
    have hc_5 : G_1 86 = aQ (cT 8) 3 (qS ad) := (ho_G_1 _ (by omega)).trans hC.2.2.2.2.1
    have hc_6 : G_1 90 = aQ (cT 7) 6 (qP ad) := (ho_G_1 _ (by omega)).trans hC.2.2.2.2.2.2.1
    have hc_7 : G_1 97 = aI cT 6 zf := (ho_G_1 _ (by omega)).trans hC.2.2.2.2.2.2.2.2.1
    have hc_8 : G_1 98 = aZ cT 6 xf := (ho_G_1 _ (by omega)).trans hC.2.2.2.2.2.2.2.2.2.1
    have hc_9 : G_1 99 = aQ (cT 9) 6 (qK ad) := (ho_G_1 _ (by omega)).trans hC.2.2.2.2.2.2.2.2.2.2.1
    have hc_10 : G_1 106 = aQ (cT 8) 6 (qL ad) := (ho_G_1 _ (by omega)).trans hC.2.2.2.2.2.2.2.2.2.2.2.2.1
    have hc_11 : G_1 113 = aI cT 6 mf := (ho_G_1 _ (by omega)).trans hC.2.2.2.2.2.2.2.2.2.2.2.2.2.2.1
    have hfr_12 : ∀ j, (j ≠ 69) → G_1 j = G j := fun j hj => (ho_G_1 j (by omega)).trans (rfl)
    refine g_ret hQ hx hb hr hlocks rfl hP hS (⟨⟨⟨_, rfl⟩, by rw [show cd [xIO, xIS] xIO = 1 from by decide +kernel]; exact MW.same hC hMA hc_3 (fun j9 _ _ hj9 => hfr_12 j9 hj9)⟩, fun j hj => hfr_12 j (by omega)⟩) (Nat.le_of_ble_eq_true rfl) (Nat.le_of_ble_eq_true rfl) dX3_isExact_10
  · skip
    obtain ⟨hz, hm, hxx, hpp, hkl⟩ := hMA.2 b (by omega)
    obtain ⟨hit, hbx⟩ := hI.2 b (by omega)
    have hcap := BI_cap hit
    have h48 := hit.1
    obtain ⟨hki, hli⟩ := hkl i hi
    have hik := (hit.2.2.1 i hi).1
    have hpl := ps_step (σ.2 b).2.2.2.2.2 hi
    have hpz := hit.2.1
    have hk16 := hC.2.2.2.2.2.2.2.2.2.2.2.2.2.2.2.1 b hb6 i
    refine lv_aload_n hx hb dX3_isExact_0 rfl (lv_at hl 0 rfl) ?_
    refine lv_iload_n hx hb dX3_isExact_1 rfl (lv_at hl 1 rfl) ?_
    refine lv_iload_n hx hb dX3_isExact_2 rfl (lv_at hl 2 rfl) ?_
    refine lv_bipush (v := nI 112) hx hb dX3_isExact_3 (by decide) ?_
    refine lv_bipush (v := nI 112) hx hb dX3_isExact_5 (by decide) ?_
    refine g_callV (As := [.int (nI b), .int (nI i), .int (nI 112), .int (nI 112)]) (rest := []) ⟨hx, hb, hml, hown, hw⟩ (mX3_isOf_ok l D cT n ad A hD G hn σ hI th rf sf pf zf xf kf lf mf hC hMA b i (by omega) (by omega) 112 112 (by omega) (by omega)) (cwV 4 hw (gWV wm_X3_78 wi_X3_isOf wse_X3_isOf wini_X3 wc_X3_isOf) rfl rfl rfl (by decide +kernel) ⟨Nat.le_of_ble_eq_true rfl, Nat.le_of_ble_eq_true rfl⟩) hK hE hA hP hS (k := 69) (by omega) hC.1 rfl rfl hl.1 (lv_room (Nat.le_of_ble_eq_true rfl)) dX3_isExact_7 ⟨Nat.le_of_ble_eq_true rfl, Nat.le_of_ble_eq_true rfl⟩ (fun v_14 G_13 H locs hp hP hS => ?_)
    obtain ⟨rfl, hg_G_13, ho_G_13⟩ := hp
    rw [if_neg (by omega)] at hg_G_13
    refine t_eqi (nI 0) (congrArg nI (if_neg (by omega))) ?_
    have hc_15 : G_13 69 = .inr (5, [.ref (ad 70), .ref (ad 86), .ref (ad 90), .ref (ad 97), .ref (ad 98), .ref (ad 99), .ref (ad 106), .ref (ad 113), .int (nI 2)]) := hg_G_13
    have hc_16 : G_13 70 = aQ (cT 10) 3 (q3 ad) := (ho_G_13 _ (by omega)).trans hC.2.1
    have hc_17 : G_13 86 = aQ (cT 8) 3 (qS ad) := (ho_G_13 _ (by omega)).trans hC.2.2.2.2.1
    have hc_18 : G_13 90 = aQ (cT 7) 6 (qP ad) := (ho_G_13 _ (by omega)).trans hC.2.2.2.2.2.2.1
    have hc_19 : G_13 97 = aI cT 6 zf := (ho_G_13 _ (by omega)).trans hC.2.2.2.2.2.2.2.2.1
    have hc_20 : G_13 98 = aZ cT 6 xf := (ho_G_13 _ (by omega)).trans hC.2.2.2.2.2.2.2.2.2.1
    have hc_21 : G_13 99 = aQ (cT 9) 6 (qK ad) := (ho_G_13 _ (by omega)).trans hC.2.2.2.2.2.2.2.2.2.2.1
    have hc_22 : G_13 106 = aQ (cT 8) 6 (qL ad) := (ho_G_13 _ (by omega)).trans hC.2.2.2.2.2.2.2.2.2.2.2.2.1
    have hc_23 : G_13 113 = aI cT 6 mf := (ho_G_13 _ (by omega)).trans hC.2.2.2.2.2.2.2.2.2.2.2.2.2.2.1
    have hc_24 : G_13 (91 + b) = aJ cT 48 (pf b) := (ho_G_13 _ (by omega)).trans (hC.2.2.2.2.2.2.2.1 b (by omega))
    have hc_25 : G_13 (100 + b) = aC cT 128 (kf b) := (ho_G_13 _ (by omega)).trans (hC.2.2.2.2.2.2.2.2.2.2.2.1 b (by omega))
    have hc_26 : G_13 (107 + b) = aI cT 128 (lf b) := (ho_G_13 _ (by omega)).trans (hC.2.2.2.2.2.2.2.2.2.2.2.2.2.1 b (by omega))
    have hfr_27 : ∀ j, (j ≠ 69) → G_13 j = G j := fun j hj => (ho_G_13 j (by omega)).trans (rfl)
    refine g_ret hQ hx hb hr hlocks rfl hP hS (⟨⟨⟨_, rfl⟩, by rw [show cd [xIO, xIS] xIS = 2 from by decide +kernel]; exact MW.same hC hMA hc_15 (fun j9 _ _ hj9 => hfr_27 j9 hj9)⟩, fun j hj => hfr_27 j (by omega)⟩) (Nat.le_of_ble_eq_true rfl) (Nat.le_of_ble_eq_true rfl) dX3_isExact_10

set_option maxHeartbeats 4000000 in
set_option maxRecDepth 100000 in
theorem mX3_split_ok0 (l : Launch) (D : va_G) (cT : Nat → ClassId) (n : Nat) (ad : Nat → Nat) (A : Nat → Prop) (hD : ∀ G, va_D A (gw n ad G)) (G : Nat → va_E) (hn : 114 ≤ n) (σ : TY) (hI : YI σ) (th : Nat) (hM : MW cT ad G σ th)(b i : Nat) (hb6 : b < 6) (hi : i < (σ.2 b).2.1) (hk9 : (σ.2 b).2.2.2.2.1 i = 112) (hL2 : (σ.2 b).2.2.2.2.2 i < 2) : Met l yX3_split (wA yX3_split cX3_split 3 (some .int)) ({ frames := 3, cells := 0, slots := 0, locals := 66 } : Room) (PG D cT n ad A G [.ref (ad 69), .int (nI b), .int (nI i)]) (QG D n ad A (fun v G1 => (v = some (.int (-1)) ∧ MW cT ad G1 (σ) 0) ∧ ∀ j, (j < 69 ∨ 114 ≤ j) → G1 j = G j)) 0 0 A := by
  refine Met.ofG (cc := cX3_split) (maxL := 3) (ret := (some .int)) (by decide) (Nat.le_of_ble_eq_true rfl) ?_
  intro p e s m args below meth c Q hQ hx hb hr hml hlocks hown hw hP hK hE hA hS ls hl
  have hl : lv_has ls 3 [(0, .ref (ad 69)), (1, .int (nI b)), (2, .int (nI i))] := hl
  obtain ⟨rf, sf, pf, zf, xf, kf, lf, mf, hC, hMA⟩ := hM
  obtain ⟨hz, hm, hxx, hpp, hkl⟩ := hMA.2 b (by omega)
  obtain ⟨hit, hbx⟩ := hI.2 b (by omega)
  have hcap := BI_cap hit
  have h48 := hit.1
  obtain ⟨hki, hli⟩ := hkl i hi
  have hik := (hit.2.2.1 i hi).1
  have hpl := ps_step (σ.2 b).2.2.2.2.2 hi
  have hpz := hit.2.1
  have hk16 := hC.2.2.2.2.2.2.2.2.2.2.2.2.2.2.2.1 b hb6 i
  refine lv_aload_n hx hb dX3_split_0 rfl (lv_at hl 0 rfl) ?_
  refine lv_iload_n hx hb dX3_split_1 rfl (lv_at hl 1 rfl) ?_
  refine lv_iload_n hx hb dX3_split_2 rfl (lv_at hl 2 rfl) ?_
  refine lv_bipush (v := nI 112) hx hb dX3_split_3 (by decide) ?_
  refine lv_bipush (v := nI 112) hx hb dX3_split_5 (by decide) ?_
  refine g_callV (As := [.int (nI b), .int (nI i), .int (nI 112), .int (nI 112)]) (rest := []) ⟨hx, hb, hml, hown, hw⟩ (mX3_isOf_ok l D cT n ad A hD G hn σ hI th rf sf pf zf xf kf lf mf hC hMA b i (by omega) (by omega) 112 112 (by omega) (by omega)) (cwV 4 hw (gWV wm_X3_78 wi_X3_isOf wse_X3_isOf wini_X3 wc_X3_isOf) rfl rfl rfl (by decide +kernel) ⟨Nat.le_of_ble_eq_true rfl, Nat.le_of_ble_eq_true rfl⟩) hK hE hA hP hS (k := 69) (by omega) hC.1 rfl rfl hl.1 (lv_room (Nat.le_of_ble_eq_true rfl)) dX3_split_7 ⟨Nat.le_of_ble_eq_true rfl, Nat.le_of_ble_eq_true rfl⟩ (fun v_2 G_1 H locs hp hP hS => ?_)
  obtain ⟨rfl, hg_G_1, ho_G_1⟩ := hp
  rw [if_pos (by omega)] at hg_G_1
  refine t_eqi (nI 1) (congrArg nI (if_pos (by omega))) ?_
  have hc_3 : G_1 69 = .inr (5, [.ref (ad 70), .ref (ad 86), .ref (ad 90), .ref (ad 97), .ref (ad 98), .ref (ad 99), .ref (ad 106), .ref (ad 113), .int (nI 0)]) := hg_G_1
  have hc_4 : G_1 70 = aQ (cT 10) 3 (q3 ad) := (ho_G_1 _ (by omega)).trans hC.2.1
  have hc_5 : G_1 86 = aQ (cT 8) 3 (qS ad) := (ho_G_1 _ (by omega)).trans hC.2.2.2.2.1
  have hc_6 : G_1 90 = aQ (cT 7) 6 (qP ad) := (ho_G_1 _ (by omega)).trans hC.2.2.2.2.2.2.1
  have hc_7 : G_1 97 = aI cT 6 zf := (ho_G_1 _ (by omega)).trans hC.2.2.2.2.2.2.2.2.1
  have hc_8 : G_1 98 = aZ cT 6 xf := (ho_G_1 _ (by omega)).trans hC.2.2.2.2.2.2.2.2.2.1
  have hc_9 : G_1 99 = aQ (cT 9) 6 (qK ad) := (ho_G_1 _ (by omega)).trans hC.2.2.2.2.2.2.2.2.2.2.1
  have hc_10 : G_1 106 = aQ (cT 8) 6 (qL ad) := (ho_G_1 _ (by omega)).trans hC.2.2.2.2.2.2.2.2.2.2.2.2.1
  have hc_11 : G_1 113 = aI cT 6 mf := (ho_G_1 _ (by omega)).trans hC.2.2.2.2.2.2.2.2.2.2.2.2.2.2.1
  have hc_12 : G_1 (91 + b) = aJ cT 48 (pf b) := (ho_G_1 _ (by omega)).trans (hC.2.2.2.2.2.2.2.1 b (by omega))
  have hc_13 : G_1 (100 + b) = aC cT 128 (kf b) := (ho_G_1 _ (by omega)).trans (hC.2.2.2.2.2.2.2.2.2.2.2.1 b (by omega))
  have hc_14 : G_1 (107 + b) = aI cT 128 (lf b) := (ho_G_1 _ (by omega)).trans (hC.2.2.2.2.2.2.2.2.2.2.2.2.2.1 b (by omega))
  have hfr_15 : ∀ j, (j ≠ 69) → G_1 j = G j := fun j hj => (ho_G_1 j (by omega)).trans (rfl)
  refine t_if_ne (tgt := 15) hx hb dX3_split_10 (by decide) (by omega) (fun c_16 => ?_) (fun c_16 => absurd c_16 (by omega))
  refine lv_aload_n hx hb dX3_split_15 rfl (lv_at hl 0 rfl) ?_
  refine g_get (C := RX3) (T := TX3) (N := 9) hx hb hw inX3 hown hK hP (i := 69) (by omega) hc_3 rfl 6 (by decide) (hw _ wf_X3_37) rfl dX3_split_16 ?_
  refine lv_iload_n hx hb dX3_split_19 rfl (lv_at hl 1 rfl) ?_
  refine g_aald hx hb hK hP 8 (i := 106) (by omega) hc_10 rfl rfl (k := (ad (107 + b))) (by omega) (by omega) (qL_at (by omega)) dX3_split_20 ?_
  refine lv_iload_n hx hb dX3_split_21 rfl (lv_at hl 2 rfl) ?_
  refine g_iald hx hb hK hP (i := (107 + b)) (by omega) hc_14 (by omega) (by omega) dX3_split_22 ?_
  refine lv_iconst (v := nI 2) hx hb dX3_split_23 (by decide) ?_
  refine t_icmp_ge (tgt := 31) hx hb dX3_split_24 (by decide) (by omega) (by omega) (fun c_17 => ?_) (fun c_17 => ?_)
  · exfalso; omega
  · skip
    refine lv_iconst (v := (-1)) hx hb dX3_split_27 (by decide) ?_
    refine lv_goto (tgt := 37) hx hb dX3_split_28 (by decide) ?_
    refine g_ret hQ hx hb hr hlocks rfl hP hS (⟨⟨rfl, MW.same hC hMA hc_3 (fun j9 _ _ hj9 => hfr_15 j9 hj9)⟩, fun j hj => hfr_15 j (by omega)⟩) (Nat.le_of_ble_eq_true rfl) (Nat.le_of_ble_eq_true rfl) dX3_split_37

set_option maxHeartbeats 4000000 in
set_option maxRecDepth 100000 in
theorem mX3_split_ok1 (l : Launch) (D : va_G) (cT : Nat → ClassId) (n : Nat) (ad : Nat → Nat) (A : Nat → Prop) (hD : ∀ G, va_D A (gw n ad G)) (G : Nat → va_E) (hn : 114 ≤ n) (σ : TY) (hI : YI σ) (th : Nat) (hM : MW cT ad G σ th)(b i : Nat) (hb6 : b < 6) (hi : i < (σ.2 b).2.1) (hk9 : (σ.2 b).2.2.2.2.1 i = 112) (hL2 : 2 ≤ (σ.2 b).2.2.2.2.2 i) : Met l yX3_split (wA yX3_split cX3_split 3 (some .int)) ({ frames := 3, cells := 0, slots := 0, locals := 66 } : Room) (PG D cT n ad A G [.ref (ad 69), .int (nI b), .int (nI i)]) (QG D n ad A (fun v G1 => (v = some (.int (nI ((σ.2 b).2.2.2.2.2 i / 2))) ∧ MW cT ad G1 (setB σ b (halfB (σ.2 b) i)) 0) ∧ ∀ j, (j < 69 ∨ 114 ≤ j) → G1 j = G j)) 0 0 A := by
  refine Met.ofG (cc := cX3_split) (maxL := 3) (ret := (some .int)) (by decide) (Nat.le_of_ble_eq_true rfl) ?_
  intro p e s m args below meth c Q hQ hx hb hr hml hlocks hown hw hP hK hE hA hS ls hl
  have hl : lv_has ls 3 [(0, .ref (ad 69)), (1, .int (nI b)), (2, .int (nI i))] := hl
  obtain ⟨rf, sf, pf, zf, xf, kf, lf, mf, hC, hMA⟩ := hM
  obtain ⟨hz, hm, hxx, hpp, hkl⟩ := hMA.2 b (by omega)
  obtain ⟨hit, hbx⟩ := hI.2 b (by omega)
  have hcap := BI_cap hit
  have h48 := hit.1
  obtain ⟨hki, hli⟩ := hkl i hi
  have hik := (hit.2.2.1 i hi).1
  have hpl := ps_step (σ.2 b).2.2.2.2.2 hi
  have hpz := hit.2.1
  have hk16 := hC.2.2.2.2.2.2.2.2.2.2.2.2.2.2.2.1 b hb6 i
  have hm96 := hm
  refine lv_aload_n hx hb dX3_split_0 rfl (lv_at hl 0 rfl) ?_
  refine lv_iload_n hx hb dX3_split_1 rfl (lv_at hl 1 rfl) ?_
  refine lv_iload_n hx hb dX3_split_2 rfl (lv_at hl 2 rfl) ?_
  refine lv_bipush (v := nI 112) hx hb dX3_split_3 (by decide) ?_
  refine lv_bipush (v := nI 112) hx hb dX3_split_5 (by decide) ?_
  refine g_callV (As := [.int (nI b), .int (nI i), .int (nI 112), .int (nI 112)]) (rest := []) ⟨hx, hb, hml, hown, hw⟩ (mX3_isOf_ok l D cT n ad A hD G hn σ hI th rf sf pf zf xf kf lf mf hC hMA b i (by omega) (by omega) 112 112 (by omega) (by omega)) (cwV 4 hw (gWV wm_X3_78 wi_X3_isOf wse_X3_isOf wini_X3 wc_X3_isOf) rfl rfl rfl (by decide +kernel) ⟨Nat.le_of_ble_eq_true rfl, Nat.le_of_ble_eq_true rfl⟩) hK hE hA hP hS (k := 69) (by omega) hC.1 rfl rfl hl.1 (lv_room (Nat.le_of_ble_eq_true rfl)) dX3_split_7 ⟨Nat.le_of_ble_eq_true rfl, Nat.le_of_ble_eq_true rfl⟩ (fun v_2 G_1 H locs hp hP hS => ?_)
  obtain ⟨rfl, hg_G_1, ho_G_1⟩ := hp
  rw [if_pos (by omega)] at hg_G_1
  refine t_eqi (nI 1) (congrArg nI (if_pos (by omega))) ?_
  have hc_3 : G_1 69 = .inr (5, [.ref (ad 70), .ref (ad 86), .ref (ad 90), .ref (ad 97), .ref (ad 98), .ref (ad 99), .ref (ad 106), .ref (ad 113), .int (nI 0)]) := hg_G_1
  have hc_4 : G_1 70 = aQ (cT 10) 3 (q3 ad) := (ho_G_1 _ (by omega)).trans hC.2.1
  have hc_5 : G_1 86 = aQ (cT 8) 3 (qS ad) := (ho_G_1 _ (by omega)).trans hC.2.2.2.2.1
  have hc_6 : G_1 90 = aQ (cT 7) 6 (qP ad) := (ho_G_1 _ (by omega)).trans hC.2.2.2.2.2.2.1
  have hc_7 : G_1 97 = aI cT 6 zf := (ho_G_1 _ (by omega)).trans hC.2.2.2.2.2.2.2.2.1
  have hc_8 : G_1 98 = aZ cT 6 xf := (ho_G_1 _ (by omega)).trans hC.2.2.2.2.2.2.2.2.2.1
  have hc_9 : G_1 99 = aQ (cT 9) 6 (qK ad) := (ho_G_1 _ (by omega)).trans hC.2.2.2.2.2.2.2.2.2.2.1
  have hc_10 : G_1 106 = aQ (cT 8) 6 (qL ad) := (ho_G_1 _ (by omega)).trans hC.2.2.2.2.2.2.2.2.2.2.2.2.1
  have hc_11 : G_1 113 = aI cT 6 mf := (ho_G_1 _ (by omega)).trans hC.2.2.2.2.2.2.2.2.2.2.2.2.2.2.1
  have hc_12 : G_1 (91 + b) = aJ cT 48 (pf b) := (ho_G_1 _ (by omega)).trans (hC.2.2.2.2.2.2.2.1 b (by omega))
  have hc_13 : G_1 (100 + b) = aC cT 128 (kf b) := (ho_G_1 _ (by omega)).trans (hC.2.2.2.2.2.2.2.2.2.2.2.1 b (by omega))
  have hc_14 : G_1 (107 + b) = aI cT 128 (lf b) := (ho_G_1 _ (by omega)).trans (hC.2.2.2.2.2.2.2.2.2.2.2.2.2.1 b (by omega))
  have hfr_15 : ∀ j, (j ≠ 69 ∧ j ≠ 100 + b ∧ j ≠ 107 + b ∧ j ≠ 113) → G_1 j = G j := fun j hj => (ho_G_1 j (by omega)).trans (rfl)
  refine t_if_ne (tgt := 15) hx hb dX3_split_10 (by decide) (by omega) (fun c_16 => ?_) (fun c_16 => absurd c_16 (by omega))
  refine lv_aload_n hx hb dX3_split_15 rfl (lv_at hl 0 rfl) ?_
  refine g_get (C := RX3) (T := TX3) (N := 9) hx hb hw inX3 hown hK hP (i := 69) (by omega) hc_3 rfl 6 (by decide) (hw _ wf_X3_37) rfl dX3_split_16 ?_
  refine lv_iload_n hx hb dX3_split_19 rfl (lv_at hl 1 rfl) ?_
  refine g_aald hx hb hK hP 8 (i := 106) (by omega) hc_10 rfl rfl (k := (ad (107 + b))) (by omega) (by omega) (qL_at (by omega)) dX3_split_20 ?_
  refine lv_iload_n hx hb dX3_split_21 rfl (lv_at hl 2 rfl) ?_
  refine g_iald hx hb hK hP (i := (107 + b)) (by omega) hc_14 (by omega) (by omega) dX3_split_22 ?_
  refine lv_iconst (v := nI 2) hx hb dX3_split_23 (by decide) ?_
  refine t_icmp_ge (tgt := 31) hx hb dX3_split_24 (by decide) (by omega) (by omega) (fun c_17 => ?_) (fun c_17 => ?_)
  · skip
    refine lv_aload_n hx hb dX3_split_31 rfl (lv_at hl 0 rfl) ?_
    refine lv_iload_n hx hb dX3_split_32 rfl (lv_at hl 1 rfl) ?_
    refine lv_iload_n hx hb dX3_split_33 rfl (lv_at hl 2 rfl) ?_
    refine g_callV (As := [.int (nI b), .int (nI i)]) (rest := []) ⟨hx, hb, hml, hown, hw⟩ (mX3_halved l D cT n ad A hD G_1 hn 0 b i (kf b) (lf b) mf hb6 ⟨hc_3, hc_9, hc_10, hc_13, hc_14, hc_11, (hC.2.2.2.2.2.2.2.2.2.2.2.2.2.2.2.1 b hb6), (hC.2.2.2.2.2.2.2.2.2.2.2.2.2.2.2.2 b hb6)⟩ (by omega) (by omega)) (cwV 2 hw (gWV wm_X3_90 wi_X3_halved wse_X3_halved wini_X3 wc_X3_halved) rfl rfl rfl (by decide +kernel) ⟨Nat.le_of_ble_eq_true rfl, Nat.le_of_ble_eq_true rfl⟩) hK hE hA hP hS (k := 69) (by omega) hc_3 rfl rfl hl.1 (lv_room (Nat.le_of_ble_eq_true rfl)) dX3_split_34 ⟨Nat.le_of_ble_eq_true rfl, Nat.le_of_ble_eq_true rfl⟩ (fun v_19 G_18 H locs hp hP hS => ?_)
    obtain ⟨rfl, hMB_20, hf_21⟩ := hp
    obtain ⟨hO_G_18, hK0_G_18, hL0_G_18, hk0_G_18, hl0_G_18, hm9_G_18, hk9_G_18, hl9_G_18⟩ := id hMB_20
    have hc_22 : G_18 70 = aQ (cT 10) 3 (q3 ad) := (hf_21 _ (by omega) (by omega) (by omega)).trans hc_4
    have hc_23 : G_18 86 = aQ (cT 8) 3 (qS ad) := (hf_21 _ (by omega) (by omega) (by omega)).trans hc_5
    have hc_24 : G_18 90 = aQ (cT 7) 6 (qP ad) := (hf_21 _ (by omega) (by omega) (by omega)).trans hc_6
    have hc_25 : G_18 97 = aI cT 6 zf := (hf_21 _ (by omega) (by omega) (by omega)).trans hc_7
    have hc_26 : G_18 98 = aZ cT 6 xf := (hf_21 _ (by omega) (by omega) (by omega)).trans hc_8
    have hc_27 : G_18 (91 + b) = aJ cT 48 (pf b) := (hf_21 _ (by omega) (by omega) (by omega)).trans hc_12
    have hfr_28 : ∀ j, (j ≠ 69 ∧ j ≠ 100 + b ∧ j ≠ 107 + b ∧ j ≠ 113) → G_18 j = G j := fun j hj => (hf_21 j (by omega) (by omega) (by omega)).trans (hfr_15 j hj)
    refine g_ret hQ hx hb hr hlocks rfl hP hS (⟨⟨by rw [hli], MW.bench hC hMA hb6 hO_G_18 hc_27 hc_25 hc_26 hk0_G_18 hl0_G_18 hm9_G_18 hk9_G_18 hl9_G_18 (fun j9 a1 a2 a3 a4 a5 a6 a7 a8 a9 => hfr_28 j9 ⟨a3, a7, a8, a9⟩) hz (by rw [va_up_self, hm]; rfl) hxx hpp (fun k hk => ⟨hal_K hkl hm hi k hk, hal_L hkl hm hi k hk⟩) (fun c hc => ⟨rfl, rfl, va_up_ne _ _ hc⟩)⟩, fun j hj => hfr_28 j (by omega)⟩) (Nat.le_of_ble_eq_true rfl) (Nat.le_of_ble_eq_true rfl) dX3_split_37
  · exfalso; omega

set_option maxHeartbeats 4000000 in
set_option maxRecDepth 100000 in
theorem mX3_split_no (l : Launch) (D : va_G) (cT : Nat → ClassId) (n : Nat) (ad : Nat → Nat) (A : Nat → Prop) (hD : ∀ G, va_D A (gw n ad G)) (G : Nat → va_E) (hn : 114 ≤ n) (σ : TY) (hI : YI σ) (th : Nat) (hM : MW cT ad G σ th) (x y : Int32) (E : String) (hpx : pxIs σ x y (fun c => c ≠ 112) E) : Met l yX3_split (wA yX3_split cX3_split 3 (some .int)) ({ frames := 3, cells := 0, slots := 0, locals := 66 } : Room) (PG D cT n ad A G [.ref (ad 69), .int x, .int y]) (QG D n ad A (fun v G1 => ((∃ z, v = some (.int z)) ∧ MW cT ad G1 σ (cd [xIO, xIS] E)) ∧ ∀ j, (j < 69 ∨ 114 ≤ j) → G1 j = G j)) 0 0 A := by
  refine Met.ofG (cc := cX3_split) (maxL := 3) (ret := (some .int)) (by decide) (Nat.le_of_ble_eq_true rfl) ?_
  intro p e s m args below meth c Q hQ hx hb hr hml hlocks hown hw hP hK hE hA hS ls hl
  have hl : lv_has ls 3 [(0, .ref (ad 69)), (1, .int x), (2, .int y)] := hl
  obtain ⟨rf, sf, pf, zf, xf, kf, lf, mf, hC, hMA⟩ := hM
  rcases hpx with hpx | ⟨b, i, hb6, rfl, hi, rfl, hKp, rfl⟩
  · skip
    obtain ⟨hib, rfl⟩ := hpx
    refine lv_aload_n hx hb dX3_split_0 rfl (lv_at hl 0 rfl) ?_
    refine lv_iload_n hx hb dX3_split_1 rfl (lv_at hl 1 rfl) ?_
    refine lv_iload_n hx hb dX3_split_2 rfl (lv_at hl 2 rfl) ?_
    refine lv_bipush (v := nI 112) hx hb dX3_split_3 (by decide) ?_
    refine lv_bipush (v := nI 112) hx hb dX3_split_5 (by decide) ?_
    refine g_callV (As := [.int x, .int y, .int (nI 112), .int (nI 112)]) (rest := []) ⟨hx, hb, hml, hown, hw⟩ (mX3_isOf_bad l D cT n ad A hD G hn σ hI th rf sf pf zf xf kf lf mf hC hMA x y hib 112 112 (by omega) (by omega)) (cwV 4 hw (gWV wm_X3_78 wi_X3_isOf wse_X3_isOf wini_X3 wc_X3_isOf) rfl rfl rfl (by decide +kernel) ⟨Nat.le_of_ble_eq_true rfl, Nat.le_of_ble_eq_true rfl⟩) hK hE hA hP hS (k := 69) (by omega) hC.1 rfl rfl hl.1 (lv_room (Nat.le_of_ble_eq_true rfl)) dX3_split_7 ⟨Nat.le_of_ble_eq_true rfl, Nat.le_of_ble_eq_true rfl⟩ (fun v_2 G_1 H locs hp hP hS => ?_)
    obtain ⟨rfl, hg_G_1, ho_G_1⟩ := hp
    have hc_3 : G_1 69 = .inr (5, [.ref (ad 70), .ref (ad 86), .ref (ad 90), .ref (ad 97), .ref (ad 98), .ref (ad 99), .ref (ad 106), .ref (ad 113), .int (nI 1)]) := hg_G_1
    have hc_4 : G_1 70 = aQ (cT 10) 3 (q3 ad) := (ho_G_1 _ (by omega)).trans hC.2.1
    have hc_5 : G_1 86 = aQ (cT 8) 3 (qS ad) := (ho_G_1 _ (by omega)).trans hC.2.2.2.2.1
    have hc_6 : G_1 90 = aQ (cT 7) 6 (qP ad) := (ho_G_1 _ (by omega)).trans hC.2.2.2.2.2.2.1
    have hc_7 : G_1 97 = aI cT 6 zf := (ho_G_1 _ (by omega)).trans hC.2.2.2.2.2.2.2.2.1
    have hc_8 : G_1 98 = aZ cT 6 xf := (ho_G_1 _ (by omega)).trans hC.2.2.2.2.2.2.2.2.2.1
    have hc_9 : G_1 99 = aQ (cT 9) 6 (qK ad) := (ho_G_1 _ (by omega)).trans hC.2.2.2.2.2.2.2.2.2.2.1
    have hc_10 : G_1 106 = aQ (cT 8) 6 (qL ad) := (ho_G_1 _ (by omega)).trans hC.2.2.2.2.2.2.2.2.2.2.2.2.1
    have hc_11 : G_1 113 = aI cT 6 mf := (ho_G_1 _ (by omega)).trans hC.2.2.2.2.2.2.2.2.2.2.2.2.2.2.1
    have hfr_12 : ∀ j, (j ≠ 69) → G_1 j = G j := fun j hj => (ho_G_1 j (by omega)).trans (rfl)
    refine t_if_ne (tgt := 15) hx hb dX3_split_10 (by decide) (by omega) (fun c_13 => absurd c_13 (by omega)) (fun c_13 => ?_)
    refine lv_iconst (v := nI 0) hx hb dX3_split_13 (by decide) ?_
    refine g_ret hQ hx hb hr hlocks rfl hP hS (⟨⟨⟨_, rfl⟩, by rw [show cd [xIO, xIS] xIO = 1 from by decide +kernel]; exact MW.same hC hMA hc_3 (fun j9 _ _ hj9 => hfr_12 j9 hj9)⟩, fun j hj => hfr_12 j (by omega)⟩) (Nat.le_of_ble_eq_true rfl) (Nat.le_of_ble_eq_true rfl) dX3_split_14
  · skip
    obtain ⟨hz, hm, hxx, hpp, hkl⟩ := hMA.2 b (by omega)
    obtain ⟨hit, hbx⟩ := hI.2 b (by omega)
    have hcap := BI_cap hit
    have h48 := hit.1
    obtain ⟨hki, hli⟩ := hkl i hi
    have hik := (hit.2.2.1 i hi).1
    have hpl := ps_step (σ.2 b).2.2.2.2.2 hi
    have hpz := hit.2.1
    have hk16 := hC.2.2.2.2.2.2.2.2.2.2.2.2.2.2.2.1 b hb6 i
    refine lv_aload_n hx hb dX3_split_0 rfl (lv_at hl 0 rfl) ?_
    refine lv_iload_n hx hb dX3_split_1 rfl (lv_at hl 1 rfl) ?_
    refine lv_iload_n hx hb dX3_split_2 rfl (lv_at hl 2 rfl) ?_
    refine lv_bipush (v := nI 112) hx hb dX3_split_3 (by decide) ?_
    refine lv_bipush (v := nI 112) hx hb dX3_split_5 (by decide) ?_
    refine g_callV (As := [.int (nI b), .int (nI i), .int (nI 112), .int (nI 112)]) (rest := []) ⟨hx, hb, hml, hown, hw⟩ (mX3_isOf_ok l D cT n ad A hD G hn σ hI th rf sf pf zf xf kf lf mf hC hMA b i (by omega) (by omega) 112 112 (by omega) (by omega)) (cwV 4 hw (gWV wm_X3_78 wi_X3_isOf wse_X3_isOf wini_X3 wc_X3_isOf) rfl rfl rfl (by decide +kernel) ⟨Nat.le_of_ble_eq_true rfl, Nat.le_of_ble_eq_true rfl⟩) hK hE hA hP hS (k := 69) (by omega) hC.1 rfl rfl hl.1 (lv_room (Nat.le_of_ble_eq_true rfl)) dX3_split_7 ⟨Nat.le_of_ble_eq_true rfl, Nat.le_of_ble_eq_true rfl⟩ (fun v_15 G_14 H locs hp hP hS => ?_)
    obtain ⟨rfl, hg_G_14, ho_G_14⟩ := hp
    rw [if_neg (by omega)] at hg_G_14
    refine t_eqi (nI 0) (congrArg nI (if_neg (by omega))) ?_
    have hc_16 : G_14 69 = .inr (5, [.ref (ad 70), .ref (ad 86), .ref (ad 90), .ref (ad 97), .ref (ad 98), .ref (ad 99), .ref (ad 106), .ref (ad 113), .int (nI 2)]) := hg_G_14
    have hc_17 : G_14 70 = aQ (cT 10) 3 (q3 ad) := (ho_G_14 _ (by omega)).trans hC.2.1
    have hc_18 : G_14 86 = aQ (cT 8) 3 (qS ad) := (ho_G_14 _ (by omega)).trans hC.2.2.2.2.1
    have hc_19 : G_14 90 = aQ (cT 7) 6 (qP ad) := (ho_G_14 _ (by omega)).trans hC.2.2.2.2.2.2.1
    have hc_20 : G_14 97 = aI cT 6 zf := (ho_G_14 _ (by omega)).trans hC.2.2.2.2.2.2.2.2.1
    have hc_21 : G_14 98 = aZ cT 6 xf := (ho_G_14 _ (by omega)).trans hC.2.2.2.2.2.2.2.2.2.1
    have hc_22 : G_14 99 = aQ (cT 9) 6 (qK ad) := (ho_G_14 _ (by omega)).trans hC.2.2.2.2.2.2.2.2.2.2.1
    have hc_23 : G_14 106 = aQ (cT 8) 6 (qL ad) := (ho_G_14 _ (by omega)).trans hC.2.2.2.2.2.2.2.2.2.2.2.2.1
    have hc_24 : G_14 113 = aI cT 6 mf := (ho_G_14 _ (by omega)).trans hC.2.2.2.2.2.2.2.2.2.2.2.2.2.2.1
    have hc_25 : G_14 (91 + b) = aJ cT 48 (pf b) := (ho_G_14 _ (by omega)).trans (hC.2.2.2.2.2.2.2.1 b (by omega))
    have hc_26 : G_14 (100 + b) = aC cT 128 (kf b) := (ho_G_14 _ (by omega)).trans (hC.2.2.2.2.2.2.2.2.2.2.2.1 b (by omega))
    have hc_27 : G_14 (107 + b) = aI cT 128 (lf b) := (ho_G_14 _ (by omega)).trans (hC.2.2.2.2.2.2.2.2.2.2.2.2.2.1 b (by omega))
    have hfr_28 : ∀ j, (j ≠ 69) → G_14 j = G j := fun j hj => (ho_G_14 j (by omega)).trans (rfl)
    refine t_if_ne (tgt := 15) hx hb dX3_split_10 (by decide) (by omega) (fun c_29 => absurd c_29 (by omega)) (fun c_29 => ?_)
    refine lv_iconst (v := nI 0) hx hb dX3_split_13 (by decide) ?_
    refine g_ret hQ hx hb hr hlocks rfl hP hS (⟨⟨⟨_, rfl⟩, by rw [show cd [xIO, xIS] xIS = 2 from by decide +kernel]; exact MW.same hC hMA hc_16 (fun j9 _ _ hj9 => hfr_28 j9 hj9)⟩, fun j hj => hfr_28 j (by omega)⟩) (Nat.le_of_ble_eq_true rfl) (Nat.le_of_ble_eq_true rfl) dX3_split_14
