def cd (L : List String) (E : String) : Nat := L.idxOf E + 1
theorem nm_q {ch q : Nat} {z : Int64} (h : kdx ch = q) (hq : q < 3) : nmOK ch z ↔ (q = 1 ∨ z = z.toInt32.toInt64) := by
  have h9 : ch = 108 ↔ q = 1 := by
    unfold kdx at h
    constructor
    · intro e; subst e; exact h.symm
    · intro e; subst e; revert h; split
      · intro h; omega
      · split
        · intro _; assumption
        · split <;> (intro h; omega)
  unfold nmOK
  rw [h9]
theorem isO_q {ch q : Nat} (h : kdx ch = q) (hq : q < 3) : isO ch = if q = 2 then 1 else 0 := by
  subst h
  unfold isO kdx at *
  by_cases h1 : ch = 105
  · subst h1; decide
  by_cases h2 : ch = 108
  · subst h2; decide
  by_cases h3 : ch = 111
  · subst h3; decide
  · rw [if_neg h1, if_neg h2, if_neg h3] at hq; omega
theorem up_agree {α : Type} {f g : Nat → α} {a c : Nat} {z : α} (h : ∀ k, k < c → f k = g k) (e : a = c) : ∀ k, k < c + 1 → va_up f a z k = va_up g c z k := fun k hk => by
  subst e
  by_cases e : k = a
  · subst e; rw [va_up_self, va_up_self]
  · rw [va_up_ne _ _ e, va_up_ne _ _ e]; exact h k (by omega)

set_option maxHeartbeats 4000000 in
set_option maxRecDepth 100000 in
theorem mX3_length_ok (l : Launch) (D : va_G) (cT : Nat → ClassId) (n : Nat) (ad : Nat → Nat) (A : Nat → Prop) (hD : ∀ G, va_D A (gw n ad G)) (G : Nat → va_E) (hn : 114 ≤ n) (σ : TY) (hI : YI σ) (th : Nat) (hM : MW cT ad G σ th) (ch : Nat) (hch : ch < 65536)(q ro : Nat) (hq : q < 3) (hro : ro < 4) (hkq : kdx ch = q) : Met l yX3_length (wA yX3_length cX3_length 4 (some .int)) ({ frames := 1, cells := 0, slots := 0, locals := 23 } : Room) (PG D cT n ad A G [.ref (ad 69), .int (nI ch), .int (nI ro)]) (QG D n ad A (fun v G1 => (v = some (.int (nI (σ.1 (4 * q + ro)).1)) ∧ MW cT ad G1 (σ) 0) ∧ ∀ j, (j < 69 ∨ 114 ≤ j) → G1 j = G j)) 0 0 A := by
  refine Met.ofG (cc := cX3_length) (maxL := 4) (ret := (some .int)) (by decide) (Nat.le_of_ble_eq_true rfl) ?_
  intro p e s m args below meth c Q hQ hx hb hr hml hlocks hown hw hP hK hE hA hS ls hl
  have hl : lv_has ls 4 [(0, .ref (ad 69)), (1, .int (nI ch)), (2, .int (nI ro))] := hl
  obtain ⟨rf, sf, pf, zf, xf, kf, lf, mf, hC, hMA⟩ := hM
  obtain ⟨hsz, hrv⟩ := hMA.1 q (by omega) ro (by omega)
  have hrc := hI.1 (4 * q + ro) (by omega)
  refine lv_iload_n hx hb dX3_length_0 rfl (lv_at hl 1 rfl) ?_
  refine g_callS (As := [.int (nI ch)]) (rest := []) ⟨hx, hb, hml, hown, hw⟩ (mX3_kind l D cT n ad A hD G ch (by omega)) (va_cwS 1 hw (gWS wm_X3_51 wst_X3_kind wini_X3 wc_X3_kind) rfl rfl rfl (by decide +kernel) ⟨Nat.le_of_ble_eq_true rfl, Nat.le_of_ble_eq_true rfl⟩) hK hE hA hP hS rfl hl.1 (lv_room (Nat.le_of_ble_eq_true rfl)) dX3_length_1 ⟨Nat.le_of_ble_eq_true rfl, Nat.le_of_ble_eq_true rfl⟩ (fun v_2 G_1 H locs hp hP hS => ?_)
  obtain ⟨hv9, hg9⟩ := hp
  subst hv9
  rw [hg9] at hP
  refine t_eqi (nI q) ((if_neg (by omega)).trans (congrArg nI hkq)) ?_
  refine lv_istore_n (lv' := [(3, .int (nI q)), (0, .ref (ad 69)), (1, .int (nI ch)), (2, .int (nI ro))]) hx hb dX3_length_4 rfl hl (by decide) rfl (fun ls hl => ?_)
  refine lv_aload_n hx hb dX3_length_5 rfl (lv_at hl 1 rfl) ?_
  refine lv_iload_n hx hb dX3_length_6 rfl (lv_at hl 0 rfl) ?_
  refine t_if_lt (tgt := 14) hx hb dX3_length_7 (by decide) (by omega) ?_
  refine lv_iconst (v := nI 1) hx hb dX3_length_10 (by decide) ?_
  refine lv_goto (tgt := 15) hx hb dX3_length_11 (by decide) ?_
  refine lv_iload_n hx hb dX3_length_15 rfl (lv_at hl 3 rfl) ?_
  refine g_callS (As := [.int (nI ro)]) (rest := [.int (nI 1), .ref (ad 69)]) ⟨hx, hb, hml, hown, hw⟩ (mX3_isRow l D cT n ad A hD G (nI ro)) (va_cwS 1 hw (gWS wm_X3_59 wst_X3_isRow wini_X3 wc_X3_isRow) rfl rfl rfl (by decide +kernel) ⟨Nat.le_of_ble_eq_true rfl, Nat.le_of_ble_eq_true rfl⟩) hK hE hA hP hS rfl hl.1 (lv_room (Nat.le_of_ble_eq_true rfl)) dX3_length_16 ⟨Nat.le_of_ble_eq_true rfl, Nat.le_of_ble_eq_true rfl⟩ (fun v_5 G_4 H locs hp hP hS => ?_)
  obtain ⟨hv9, hg9⟩ := hp
  subst hv9
  rw [hg9] at hP
  refine t_eqi (nI 1) (congrArg nI (if_neg (ix_ok (by omega) (by decide)))) ?_
  refine lv_iconst (v := nI 1) hx hb dX3_length_19 (by decide) ?_
  refine g_callV (As := [.int (nI 1), .int (nI 1), .int (nI 1)]) (rest := []) ⟨hx, hb, hml, hown, hw⟩ (mX3_can l D cT n ad A hD G hn th 1 1 1 (by decide) (by decide) (by decide) hC.1) (cwV 3 hw (gWV wm_X3_63 wi_X3_can wse_X3_can wini_X3 wc_X3_can) rfl rfl rfl (by decide +kernel) ⟨Nat.le_of_ble_eq_true rfl, Nat.le_of_ble_eq_true rfl⟩) hK hE hA hP hS (k := 69) (by omega) hC.1 rfl rfl hl.1 (lv_room (Nat.le_of_ble_eq_true rfl)) dX3_length_20 ⟨Nat.le_of_ble_eq_true rfl, Nat.le_of_ble_eq_true rfl⟩ (fun v_7 G_6 H locs hp hP hS => ?_)
  obtain ⟨rfl, hg_G_6, ho_G_6⟩ := hp
  have hc_8 : G_6 69 = .inr (5, [.ref (ad 70), .ref (ad 86), .ref (ad 90), .ref (ad 97), .ref (ad 98), .ref (ad 99), .ref (ad 106), .ref (ad 113), .int (nI 0)]) := hg_G_6
  have hc_9 : G_6 70 = aQ (cT 10) 3 (q3 ad) := (ho_G_6 _ (by omega)).trans hC.2.1
  have hc_10 : G_6 86 = aQ (cT 8) 3 (qS ad) := (ho_G_6 _ (by omega)).trans hC.2.2.2.2.1
  have hc_11 : G_6 90 = aQ (cT 7) 6 (qP ad) := (ho_G_6 _ (by omega)).trans hC.2.2.2.2.2.2.1
  have hc_12 : G_6 97 = aI cT 6 zf := (ho_G_6 _ (by omega)).trans hC.2.2.2.2.2.2.2.2.1
  have hc_13 : G_6 98 = aZ cT 6 xf := (ho_G_6 _ (by omega)).trans hC.2.2.2.2.2.2.2.2.2.1
  have hc_14 : G_6 99 = aQ (cT 9) 6 (qK ad) := (ho_G_6 _ (by omega)).trans hC.2.2.2.2.2.2.2.2.2.2.1
  have hc_15 : G_6 106 = aQ (cT 8) 6 (qL ad) := (ho_G_6 _ (by omega)).trans hC.2.2.2.2.2.2.2.2.2.2.2.2.1
  have hc_16 : G_6 113 = aI cT 6 mf := (ho_G_6 _ (by omega)).trans hC.2.2.2.2.2.2.2.2.2.2.2.2.2.2.1
  have hc_17 : G_6 (71 + 5 * q) = aQ (cT 7) 4 (q4 ad q) := (ho_G_6 _ (by omega)).trans (hC.2.2.1 q (by omega))
  have hc_18 : G_6 (87 + q) = aI cT 4 (sf q) := (ho_G_6 _ (by omega)).trans (hC.2.2.2.2.2.1 q (by omega))
  have hc_19 : G_6 (72 + 5 * q + ro) = aJ cT 48 (rf q ro) := (ho_G_6 _ (by omega)).trans (hC.2.2.2.1 q (by omega) ro (by omega))
  have hfr_20 : ∀ j, (j ≠ 69) → G_6 j = G j := fun j hj => (ho_G_6 j (by omega)).trans (rfl)
  refine t_eqi (nI 1) rfl ?_
  refine t_if_eq (tgt := 37) hx hb dX3_length_23 (by decide) (by omega) (fun c_21 => absurd c_21 (by omega)) (fun c_21 => ?_)
  refine lv_aload_n hx hb dX3_length_26 rfl (lv_at hl 1 rfl) ?_
  refine g_get (C := RX3) (T := TX3) (N := 9) hx hb hw inX3 hown hK hP (i := 69) (by omega) hc_8 rfl 1 (by decide) (hw _ wf_X3_16) rfl dX3_length_27 ?_
  refine lv_iload_n hx hb dX3_length_30 rfl (lv_at hl 0 rfl) ?_
  refine g_aald hx hb hK hP 8 (i := 86) (by omega) hc_10 rfl rfl (k := (ad (87 + q))) (by omega) (by omega) (qS_at (by omega)) dX3_length_31 ?_
  refine lv_iload_n hx hb dX3_length_32 rfl (lv_at hl 3 rfl) ?_
  refine g_iald hx hb hK hP (i := (87 + q)) (by omega) hc_18 (by omega) (by omega) dX3_length_33 ?_
  refine lv_goto (tgt := 38) hx hb dX3_length_34 (by decide) ?_
  refine g_ret hQ hx hb hr hlocks rfl hP hS (⟨⟨by rw [hsz], MW.same hC hMA hc_8 (fun j9 _ _ hj9 => hfr_20 j9 hj9)⟩, fun j hj => hfr_20 j (by omega)⟩) (Nat.le_of_ble_eq_true rfl) (Nat.le_of_ble_eq_true rfl) dX3_length_38

set_option maxHeartbeats 4000000 in
set_option maxRecDepth 100000 in
theorem mX3_length_no (l : Launch) (D : va_G) (cT : Nat → ClassId) (n : Nat) (ad : Nat → Nat) (A : Nat → Prop) (hD : ∀ G, va_D A (gw n ad G)) (G : Nat → va_E) (hn : 114 ≤ n) (σ : TY) (hI : YI σ) (th : Nat) (hM : MW cT ad G σ th) (ch : Nat) (hch : ch < 65536) (x : Int32) (E : String) (hpx : pxRow ch x E) : Met l yX3_length (wA yX3_length cX3_length 4 (some .int)) ({ frames := 1, cells := 0, slots := 0, locals := 23 } : Room) (PG D cT n ad A G [.ref (ad 69), .int (nI ch), .int x]) (QG D n ad A (fun v G1 => ((∃ z, v = some (.int z)) ∧ MW cT ad G1 σ (cd [xIA, xIO] E)) ∧ ∀ j, (j < 69 ∨ 114 ≤ j) → G1 j = G j)) 0 0 A := by
  refine Met.ofG (cc := cX3_length) (maxL := 4) (ret := (some .int)) (by decide) (Nat.le_of_ble_eq_true rfl) ?_
  intro p e s m args below meth c Q hQ hx hb hr hml hlocks hown hw hP hK hE hA hS ls hl
  have hl : lv_has ls 4 [(0, .ref (ad 69)), (1, .int (nI ch)), (2, .int x)] := hl
  obtain ⟨rf, sf, pf, zf, xf, kf, lf, mf, hC, hMA⟩ := hM
  rcases hpx with ⟨hkd, rfl⟩ | ⟨hk3, hrb, rfl⟩
  · skip
    rcases ix_cases x (N := 4) (by decide) with hrb | ⟨ro, hro, rfl⟩
    · skip
      refine lv_iload_n hx hb dX3_length_0 rfl (lv_at hl 1 rfl) ?_
      refine g_callS (As := [.int (nI ch)]) (rest := []) ⟨hx, hb, hml, hown, hw⟩ (mX3_kind l D cT n ad A hD G ch (by omega)) (va_cwS 1 hw (gWS wm_X3_51 wst_X3_kind wini_X3 wc_X3_kind) rfl rfl rfl (by decide +kernel) ⟨Nat.le_of_ble_eq_true rfl, Nat.le_of_ble_eq_true rfl⟩) hK hE hA hP hS rfl hl.1 (lv_room (Nat.le_of_ble_eq_true rfl)) dX3_length_1 ⟨Nat.le_of_ble_eq_true rfl, Nat.le_of_ble_eq_true rfl⟩ (fun v_2 G_1 H locs hp hP hS => ?_)
      obtain ⟨hv9, hg9⟩ := hp
      subst hv9
      rw [hg9] at hP
      refine t_eqi (-1) (if_pos hkd) ?_
      refine lv_istore_n (lv' := [(3, .int (-1)), (0, .ref (ad 69)), (1, .int (nI ch)), (2, .int x)]) hx hb dX3_length_4 rfl hl (by decide) rfl (fun ls hl => ?_)
      refine lv_aload_n hx hb dX3_length_5 rfl (lv_at hl 1 rfl) ?_
      refine lv_iload_n hx hb dX3_length_6 rfl (lv_at hl 0 rfl) ?_
      refine lv_if_lt (tgt := 14) hx hb dX3_length_7 (by decide) (fun h9 => ?_) (fun h9 => absurd (by decide) h9)
      refine lv_iconst (v := nI 0) hx hb dX3_length_14 (by decide) ?_
      refine lv_iload_n hx hb dX3_length_15 rfl (lv_at hl 3 rfl) ?_
      refine g_callS (As := [.int x]) (rest := [.int (nI 0), .ref (ad 69)]) ⟨hx, hb, hml, hown, hw⟩ (mX3_isRow l D cT n ad A hD G x) (va_cwS 1 hw (gWS wm_X3_59 wst_X3_isRow wini_X3 wc_X3_isRow) rfl rfl rfl (by decide +kernel) ⟨Nat.le_of_ble_eq_true rfl, Nat.le_of_ble_eq_true rfl⟩) hK hE hA hP hS rfl hl.1 (lv_room (Nat.le_of_ble_eq_true rfl)) dX3_length_16 ⟨Nat.le_of_ble_eq_true rfl, Nat.le_of_ble_eq_true rfl⟩ (fun v_4 G_3 H locs hp hP hS => ?_)
      obtain ⟨hv9, hg9⟩ := hp
      subst hv9
      rw [hg9] at hP
      refine t_eqi (nI 0) (congrArg nI (if_pos hrb)) ?_
      refine lv_iconst (v := nI 1) hx hb dX3_length_19 (by decide) ?_
      refine g_callV (As := [.int (nI 0), .int (nI 0), .int (nI 1)]) (rest := []) ⟨hx, hb, hml, hown, hw⟩ (mX3_can l D cT n ad A hD G hn th 0 0 1 (by decide) (by decide) (by decide) hC.1) (cwV 3 hw (gWV wm_X3_63 wi_X3_can wse_X3_can wini_X3 wc_X3_can) rfl rfl rfl (by decide +kernel) ⟨Nat.le_of_ble_eq_true rfl, Nat.le_of_ble_eq_true rfl⟩) hK hE hA hP hS (k := 69) (by omega) hC.1 rfl rfl hl.1 (lv_room (Nat.le_of_ble_eq_true rfl)) dX3_length_20 ⟨Nat.le_of_ble_eq_true rfl, Nat.le_of_ble_eq_true rfl⟩ (fun v_6 G_5 H locs hp hP hS => ?_)
      obtain ⟨rfl, hg_G_5, ho_G_5⟩ := hp
      have hc_7 : G_5 69 = .inr (5, [.ref (ad 70), .ref (ad 86), .ref (ad 90), .ref (ad 97), .ref (ad 98), .ref (ad 99), .ref (ad 106), .ref (ad 113), .int (nI 1)]) := hg_G_5
      have hc_8 : G_5 70 = aQ (cT 10) 3 (q3 ad) := (ho_G_5 _ (by omega)).trans hC.2.1
      have hc_9 : G_5 86 = aQ (cT 8) 3 (qS ad) := (ho_G_5 _ (by omega)).trans hC.2.2.2.2.1
      have hc_10 : G_5 90 = aQ (cT 7) 6 (qP ad) := (ho_G_5 _ (by omega)).trans hC.2.2.2.2.2.2.1
      have hc_11 : G_5 97 = aI cT 6 zf := (ho_G_5 _ (by omega)).trans hC.2.2.2.2.2.2.2.2.1
      have hc_12 : G_5 98 = aZ cT 6 xf := (ho_G_5 _ (by omega)).trans hC.2.2.2.2.2.2.2.2.2.1
      have hc_13 : G_5 99 = aQ (cT 9) 6 (qK ad) := (ho_G_5 _ (by omega)).trans hC.2.2.2.2.2.2.2.2.2.2.1
      have hc_14 : G_5 106 = aQ (cT 8) 6 (qL ad) := (ho_G_5 _ (by omega)).trans hC.2.2.2.2.2.2.2.2.2.2.2.2.1
      have hc_15 : G_5 113 = aI cT 6 mf := (ho_G_5 _ (by omega)).trans hC.2.2.2.2.2.2.2.2.2.2.2.2.2.2.1
      have hfr_16 : ∀ j, (j ≠ 69) → G_5 j = G j := fun j hj => (ho_G_5 j (by omega)).trans (rfl)
      refine t_eqi (nI 0) rfl ?_
      refine t_if_eq (tgt := 37) hx hb dX3_length_23 (by decide) (by omega) (fun c_17 => ?_) (fun c_17 => absurd c_17 (by omega))
      refine lv_iconst (v := nI 0) hx hb dX3_length_37 (by decide) ?_
      refine g_ret hQ hx hb hr hlocks rfl hP hS (⟨⟨⟨_, rfl⟩, by rw [show cd [xIA, xIO] xIA = 1 from by decide +kernel]; exact MW.same hC hMA hc_7 (fun j9 _ _ hj9 => hfr_16 j9 hj9)⟩, fun j hj => hfr_16 j (by omega)⟩) (Nat.le_of_ble_eq_true rfl) (Nat.le_of_ble_eq_true rfl) dX3_length_38
    · skip
      refine lv_iload_n hx hb dX3_length_0 rfl (lv_at hl 1 rfl) ?_
      refine g_callS (As := [.int (nI ch)]) (rest := []) ⟨hx, hb, hml, hown, hw⟩ (mX3_kind l D cT n ad A hD G ch (by omega)) (va_cwS 1 hw (gWS wm_X3_51 wst_X3_kind wini_X3 wc_X3_kind) rfl rfl rfl (by decide +kernel) ⟨Nat.le_of_ble_eq_true rfl, Nat.le_of_ble_eq_true rfl⟩) hK hE hA hP hS rfl hl.1 (lv_room (Nat.le_of_ble_eq_true rfl)) dX3_length_1 ⟨Nat.le_of_ble_eq_true rfl, Nat.le_of_ble_eq_true rfl⟩ (fun v_19 G_18 H locs hp hP hS => ?_)
      obtain ⟨hv9, hg9⟩ := hp
      subst hv9
      rw [hg9] at hP
      refine t_eqi (-1) (if_pos hkd) ?_
      refine lv_istore_n (lv' := [(3, .int (-1)), (0, .ref (ad 69)), (1, .int (nI ch)), (2, .int (nI ro))]) hx hb dX3_length_4 rfl hl (by decide) rfl (fun ls hl => ?_)
      refine lv_aload_n hx hb dX3_length_5 rfl (lv_at hl 1 rfl) ?_
      refine lv_iload_n hx hb dX3_length_6 rfl (lv_at hl 0 rfl) ?_
      refine lv_if_lt (tgt := 14) hx hb dX3_length_7 (by decide) (fun h9 => ?_) (fun h9 => absurd (by decide) h9)
      refine lv_iconst (v := nI 0) hx hb dX3_length_14 (by decide) ?_
      refine lv_iload_n hx hb dX3_length_15 rfl (lv_at hl 3 rfl) ?_
      refine g_callS (As := [.int (nI ro)]) (rest := [.int (nI 0), .ref (ad 69)]) ⟨hx, hb, hml, hown, hw⟩ (mX3_isRow l D cT n ad A hD G (nI ro)) (va_cwS 1 hw (gWS wm_X3_59 wst_X3_isRow wini_X3 wc_X3_isRow) rfl rfl rfl (by decide +kernel) ⟨Nat.le_of_ble_eq_true rfl, Nat.le_of_ble_eq_true rfl⟩) hK hE hA hP hS rfl hl.1 (lv_room (Nat.le_of_ble_eq_true rfl)) dX3_length_16 ⟨Nat.le_of_ble_eq_true rfl, Nat.le_of_ble_eq_true rfl⟩ (fun v_21 G_20 H locs hp hP hS => ?_)
      obtain ⟨hv9, hg9⟩ := hp
      subst hv9
      rw [hg9] at hP
      refine t_eqi (nI 1) (congrArg nI (if_neg (ix_ok (by omega) (by decide)))) ?_
      refine lv_iconst (v := nI 1) hx hb dX3_length_19 (by decide) ?_
      refine g_callV (As := [.int (nI 0), .int (nI 1), .int (nI 1)]) (rest := []) ⟨hx, hb, hml, hown, hw⟩ (mX3_can l D cT n ad A hD G hn th 0 1 1 (by decide) (by decide) (by decide) hC.1) (cwV 3 hw (gWV wm_X3_63 wi_X3_can wse_X3_can wini_X3 wc_X3_can) rfl rfl rfl (by decide +kernel) ⟨Nat.le_of_ble_eq_true rfl, Nat.le_of_ble_eq_true rfl⟩) hK hE hA hP hS (k := 69) (by omega) hC.1 rfl rfl hl.1 (lv_room (Nat.le_of_ble_eq_true rfl)) dX3_length_20 ⟨Nat.le_of_ble_eq_true rfl, Nat.le_of_ble_eq_true rfl⟩ (fun v_23 G_22 H locs hp hP hS => ?_)
      obtain ⟨rfl, hg_G_22, ho_G_22⟩ := hp
      have hc_24 : G_22 69 = .inr (5, [.ref (ad 70), .ref (ad 86), .ref (ad 90), .ref (ad 97), .ref (ad 98), .ref (ad 99), .ref (ad 106), .ref (ad 113), .int (nI 1)]) := hg_G_22
      have hc_25 : G_22 70 = aQ (cT 10) 3 (q3 ad) := (ho_G_22 _ (by omega)).trans hC.2.1
      have hc_26 : G_22 86 = aQ (cT 8) 3 (qS ad) := (ho_G_22 _ (by omega)).trans hC.2.2.2.2.1
      have hc_27 : G_22 90 = aQ (cT 7) 6 (qP ad) := (ho_G_22 _ (by omega)).trans hC.2.2.2.2.2.2.1
      have hc_28 : G_22 97 = aI cT 6 zf := (ho_G_22 _ (by omega)).trans hC.2.2.2.2.2.2.2.2.1
      have hc_29 : G_22 98 = aZ cT 6 xf := (ho_G_22 _ (by omega)).trans hC.2.2.2.2.2.2.2.2.2.1
      have hc_30 : G_22 99 = aQ (cT 9) 6 (qK ad) := (ho_G_22 _ (by omega)).trans hC.2.2.2.2.2.2.2.2.2.2.1
      have hc_31 : G_22 106 = aQ (cT 8) 6 (qL ad) := (ho_G_22 _ (by omega)).trans hC.2.2.2.2.2.2.2.2.2.2.2.2.1
      have hc_32 : G_22 113 = aI cT 6 mf := (ho_G_22 _ (by omega)).trans hC.2.2.2.2.2.2.2.2.2.2.2.2.2.2.1
      have hfr_33 : ∀ j, (j ≠ 69) → G_22 j = G j := fun j hj => (ho_G_22 j (by omega)).trans (rfl)
      refine t_eqi (nI 0) rfl ?_
      refine t_if_eq (tgt := 37) hx hb dX3_length_23 (by decide) (by omega) (fun c_34 => ?_) (fun c_34 => absurd c_34 (by omega))
      refine lv_iconst (v := nI 0) hx hb dX3_length_37 (by decide) ?_
      refine g_ret hQ hx hb hr hlocks rfl hP hS (⟨⟨⟨_, rfl⟩, by rw [show cd [xIA, xIO] xIA = 1 from by decide +kernel]; exact MW.same hC hMA hc_24 (fun j9 _ _ hj9 => hfr_33 j9 hj9)⟩, fun j hj => hfr_33 j (by omega)⟩) (Nat.le_of_ble_eq_true rfl) (Nat.le_of_ble_eq_true rfl) dX3_length_38
  · skip
    obtain ⟨q, hkq⟩ : ∃ q, kdx ch = q := ⟨_, rfl⟩
    have hkl9 := kdx_le ch
    have hq : q < 3 := by omega
    refine lv_iload_n hx hb dX3_length_0 rfl (lv_at hl 1 rfl) ?_
    refine g_callS (As := [.int (nI ch)]) (rest := []) ⟨hx, hb, hml, hown, hw⟩ (mX3_kind l D cT n ad A hD G ch (by omega)) (va_cwS 1 hw (gWS wm_X3_51 wst_X3_kind wini_X3 wc_X3_kind) rfl rfl rfl (by decide +kernel) ⟨Nat.le_of_ble_eq_true rfl, Nat.le_of_ble_eq_true rfl⟩) hK hE hA hP hS rfl hl.1 (lv_room (Nat.le_of_ble_eq_true rfl)) dX3_length_1 ⟨Nat.le_of_ble_eq_true rfl, Nat.le_of_ble_eq_true rfl⟩ (fun v_36 G_35 H locs hp hP hS => ?_)
    obtain ⟨hv9, hg9⟩ := hp
    subst hv9
    rw [hg9] at hP
    refine t_eqi (nI q) ((if_neg (by omega)).trans (congrArg nI hkq)) ?_
    refine lv_istore_n (lv' := [(3, .int (nI q)), (0, .ref (ad 69)), (1, .int (nI ch)), (2, .int x)]) hx hb dX3_length_4 rfl hl (by decide) rfl (fun ls hl => ?_)
    refine lv_aload_n hx hb dX3_length_5 rfl (lv_at hl 1 rfl) ?_
    refine lv_iload_n hx hb dX3_length_6 rfl (lv_at hl 0 rfl) ?_
    refine t_if_lt (tgt := 14) hx hb dX3_length_7 (by decide) (by omega) ?_
    refine lv_iconst (v := nI 1) hx hb dX3_length_10 (by decide) ?_
    refine lv_goto (tgt := 15) hx hb dX3_length_11 (by decide) ?_
    refine lv_iload_n hx hb dX3_length_15 rfl (lv_at hl 3 rfl) ?_
    refine g_callS (As := [.int x]) (rest := [.int (nI 1), .ref (ad 69)]) ⟨hx, hb, hml, hown, hw⟩ (mX3_isRow l D cT n ad A hD G x) (va_cwS 1 hw (gWS wm_X3_59 wst_X3_isRow wini_X3 wc_X3_isRow) rfl rfl rfl (by decide +kernel) ⟨Nat.le_of_ble_eq_true rfl, Nat.le_of_ble_eq_true rfl⟩) hK hE hA hP hS rfl hl.1 (lv_room (Nat.le_of_ble_eq_true rfl)) dX3_length_16 ⟨Nat.le_of_ble_eq_true rfl, Nat.le_of_ble_eq_true rfl⟩ (fun v_39 G_38 H locs hp hP hS => ?_)
    obtain ⟨hv9, hg9⟩ := hp
    subst hv9
    rw [hg9] at hP
    refine t_eqi (nI 0) (congrArg nI (if_pos hrb)) ?_
    refine lv_iconst (v := nI 1) hx hb dX3_length_19 (by decide) ?_
    refine g_callV (As := [.int (nI 1), .int (nI 0), .int (nI 1)]) (rest := []) ⟨hx, hb, hml, hown, hw⟩ (mX3_can l D cT n ad A hD G hn th 1 0 1 (by decide) (by decide) (by decide) hC.1) (cwV 3 hw (gWV wm_X3_63 wi_X3_can wse_X3_can wini_X3 wc_X3_can) rfl rfl rfl (by decide +kernel) ⟨Nat.le_of_ble_eq_true rfl, Nat.le_of_ble_eq_true rfl⟩) hK hE hA hP hS (k := 69) (by omega) hC.1 rfl rfl hl.1 (lv_room (Nat.le_of_ble_eq_true rfl)) dX3_length_20 ⟨Nat.le_of_ble_eq_true rfl, Nat.le_of_ble_eq_true rfl⟩ (fun v_41 G_40 H locs hp hP hS => ?_)
    obtain ⟨rfl, hg_G_40, ho_G_40⟩ := hp
    have hc_42 : G_40 69 = .inr (5, [.ref (ad 70), .ref (ad 86), .ref (ad 90), .ref (ad 97), .ref (ad 98), .ref (ad 99), .ref (ad 106), .ref (ad 113), .int (nI 2)]) := hg_G_40
    have hc_43 : G_40 70 = aQ (cT 10) 3 (q3 ad) := (ho_G_40 _ (by omega)).trans hC.2.1
    have hc_44 : G_40 86 = aQ (cT 8) 3 (qS ad) := (ho_G_40 _ (by omega)).trans hC.2.2.2.2.1
    have hc_45 : G_40 90 = aQ (cT 7) 6 (qP ad) := (ho_G_40 _ (by omega)).trans hC.2.2.2.2.2.2.1
    have hc_46 : G_40 97 = aI cT 6 zf := (ho_G_40 _ (by omega)).trans hC.2.2.2.2.2.2.2.2.1
    have hc_47 : G_40 98 = aZ cT 6 xf := (ho_G_40 _ (by omega)).trans hC.2.2.2.2.2.2.2.2.2.1
    have hc_48 : G_40 99 = aQ (cT 9) 6 (qK ad) := (ho_G_40 _ (by omega)).trans hC.2.2.2.2.2.2.2.2.2.2.1
    have hc_49 : G_40 106 = aQ (cT 8) 6 (qL ad) := (ho_G_40 _ (by omega)).trans hC.2.2.2.2.2.2.2.2.2.2.2.2.1
    have hc_50 : G_40 113 = aI cT 6 mf := (ho_G_40 _ (by omega)).trans hC.2.2.2.2.2.2.2.2.2.2.2.2.2.2.1
    have hfr_51 : ∀ j, (j ≠ 69) → G_40 j = G j := fun j hj => (ho_G_40 j (by omega)).trans (rfl)
    refine t_eqi (nI 0) rfl ?_
    refine t_if_eq (tgt := 37) hx hb dX3_length_23 (by decide) (by omega) (fun c_52 => ?_) (fun c_52 => absurd c_52 (by omega))
    refine lv_iconst (v := nI 0) hx hb dX3_length_37 (by decide) ?_
    refine g_ret hQ hx hb hr hlocks rfl hP hS (⟨⟨⟨_, rfl⟩, by rw [show cd [xIA, xIO] xIO = 2 from by decide +kernel]; exact MW.same hC hMA hc_42 (fun j9 _ _ hj9 => hfr_51 j9 hj9)⟩, fun j hj => hfr_51 j (by omega)⟩) (Nat.le_of_ble_eq_true rfl) (Nat.le_of_ble_eq_true rfl) dX3_length_38

set_option maxHeartbeats 4000000 in
set_option maxRecDepth 100000 in
theorem mX3_number_ok (l : Launch) (D : va_G) (cT : Nat → ClassId) (n : Nat) (ad : Nat → Nat) (A : Nat → Prop) (hD : ∀ G, va_D A (gw n ad G)) (G : Nat → va_E) (hn : 114 ≤ n) (σ : TY) (hI : YI σ) (th : Nat) (hM : MW cT ad G σ th) (ch : Nat) (hch : ch < 65536)(q ro : Nat) (hq : q < 3) (hro : ro < 4) (hkq : kdx ch = q) (i : Nat) (hi : i < (σ.1 (4 * q + ro)).1) : Met l yX3_number (wA yX3_number cX3_number 5 (some .long)) ({ frames := 1, cells := 0, slots := 0, locals := 23 } : Room) (PG D cT n ad A G [.ref (ad 69), .int (nI ch), .int (nI ro), .int (nI i)]) (QG D n ad A (fun v G1 => (v = some (.long ((σ.1 (4 * q + ro)).2 i)) ∧ MW cT ad G1 (σ) 0) ∧ ∀ j, (j < 69 ∨ 114 ≤ j) → G1 j = G j)) 0 0 A := by
  refine Met.ofG (cc := cX3_number) (maxL := 5) (ret := (some .long)) (by decide) (Nat.le_of_ble_eq_true rfl) ?_
  intro p e s m args below meth c Q hQ hx hb hr hml hlocks hown hw hP hK hE hA hS ls hl
  have hl : lv_has ls 5 [(0, .ref (ad 69)), (1, .int (nI ch)), (2, .int (nI ro)), (3, .int (nI i))] := hl
  obtain ⟨rf, sf, pf, zf, xf, kf, lf, mf, hC, hMA⟩ := hM
  obtain ⟨hsz, hrv⟩ := hMA.1 q (by omega) ro (by omega)
  have hrc := hI.1 (4 * q + ro) (by omega)
  refine lv_iload_n hx hb dX3_number_0 rfl (lv_at hl 1 rfl) ?_
  refine g_callS (As := [.int (nI ch)]) (rest := []) ⟨hx, hb, hml, hown, hw⟩ (mX3_kind l D cT n ad A hD G ch (by omega)) (va_cwS 1 hw (gWS wm_X3_51 wst_X3_kind wini_X3 wc_X3_kind) rfl rfl rfl (by decide +kernel) ⟨Nat.le_of_ble_eq_true rfl, Nat.le_of_ble_eq_true rfl⟩) hK hE hA hP hS rfl hl.1 (lv_room (Nat.le_of_ble_eq_true rfl)) dX3_number_1 ⟨Nat.le_of_ble_eq_true rfl, Nat.le_of_ble_eq_true rfl⟩ (fun v_2 G_1 H locs hp hP hS => ?_)
  obtain ⟨hv9, hg9⟩ := hp
  subst hv9
  rw [hg9] at hP
  refine t_eqi (nI q) ((if_neg (by omega)).trans (congrArg nI hkq)) ?_
  refine lv_istore (lv' := [(4, .int (nI q)), (0, .ref (ad 69)), (1, .int (nI ch)), (2, .int (nI ro)), (3, .int (nI i))]) hx hb dX3_number_4 hl (by decide) rfl (fun ls hl => ?_)
  refine lv_aload_n hx hb dX3_number_6 rfl (lv_at hl 1 rfl) ?_
  refine lv_iload hx hb dX3_number_7 (lv_at hl 0 rfl) ?_
  refine t_if_lt (tgt := 16) hx hb dX3_number_9 (by decide) (by omega) ?_
  refine lv_iconst (v := nI 1) hx hb dX3_number_12 (by decide) ?_
  refine lv_goto (tgt := 17) hx hb dX3_number_13 (by decide) ?_
  refine lv_iload_n hx hb dX3_number_17 rfl (lv_at hl 3 rfl) ?_
  refine g_callS (As := [.int (nI ro)]) (rest := [.int (nI 1), .ref (ad 69)]) ⟨hx, hb, hml, hown, hw⟩ (mX3_isRow l D cT n ad A hD G (nI ro)) (va_cwS 1 hw (gWS wm_X3_59 wst_X3_isRow wini_X3 wc_X3_isRow) rfl rfl rfl (by decide +kernel) ⟨Nat.le_of_ble_eq_true rfl, Nat.le_of_ble_eq_true rfl⟩) hK hE hA hP hS rfl hl.1 (lv_room (Nat.le_of_ble_eq_true rfl)) dX3_number_18 ⟨Nat.le_of_ble_eq_true rfl, Nat.le_of_ble_eq_true rfl⟩ (fun v_5 G_4 H locs hp hP hS => ?_)
  obtain ⟨hv9, hg9⟩ := hp
  subst hv9
  rw [hg9] at hP
  refine t_eqi (nI 1) (congrArg nI (if_neg (ix_ok (by omega) (by decide)))) ?_
  refine lv_iconst (v := nI 1) hx hb dX3_number_21 (by decide) ?_
  refine g_callV (As := [.int (nI 1), .int (nI 1), .int (nI 1)]) (rest := []) ⟨hx, hb, hml, hown, hw⟩ (mX3_can l D cT n ad A hD G hn th 1 1 1 (by decide) (by decide) (by decide) hC.1) (cwV 3 hw (gWV wm_X3_63 wi_X3_can wse_X3_can wini_X3 wc_X3_can) rfl rfl rfl (by decide +kernel) ⟨Nat.le_of_ble_eq_true rfl, Nat.le_of_ble_eq_true rfl⟩) hK hE hA hP hS (k := 69) (by omega) hC.1 rfl rfl hl.1 (lv_room (Nat.le_of_ble_eq_true rfl)) dX3_number_22 ⟨Nat.le_of_ble_eq_true rfl, Nat.le_of_ble_eq_true rfl⟩ (fun v_7 G_6 H locs hp hP hS => ?_)
  obtain ⟨rfl, hg_G_6, ho_G_6⟩ := hp
  have hc_8 : G_6 69 = .inr (5, [.ref (ad 70), .ref (ad 86), .ref (ad 90), .ref (ad 97), .ref (ad 98), .ref (ad 99), .ref (ad 106), .ref (ad 113), .int (nI 0)]) := hg_G_6
  have hc_9 : G_6 70 = aQ (cT 10) 3 (q3 ad) := (ho_G_6 _ (by omega)).trans hC.2.1
  have hc_10 : G_6 86 = aQ (cT 8) 3 (qS ad) := (ho_G_6 _ (by omega)).trans hC.2.2.2.2.1
  have hc_11 : G_6 90 = aQ (cT 7) 6 (qP ad) := (ho_G_6 _ (by omega)).trans hC.2.2.2.2.2.2.1
  have hc_12 : G_6 97 = aI cT 6 zf := (ho_G_6 _ (by omega)).trans hC.2.2.2.2.2.2.2.2.1
  have hc_13 : G_6 98 = aZ cT 6 xf := (ho_G_6 _ (by omega)).trans hC.2.2.2.2.2.2.2.2.2.1
  have hc_14 : G_6 99 = aQ (cT 9) 6 (qK ad) := (ho_G_6 _ (by omega)).trans hC.2.2.2.2.2.2.2.2.2.2.1
  have hc_15 : G_6 106 = aQ (cT 8) 6 (qL ad) := (ho_G_6 _ (by omega)).trans hC.2.2.2.2.2.2.2.2.2.2.2.2.1
  have hc_16 : G_6 113 = aI cT 6 mf := (ho_G_6 _ (by omega)).trans hC.2.2.2.2.2.2.2.2.2.2.2.2.2.2.1
  have hc_17 : G_6 (71 + 5 * q) = aQ (cT 7) 4 (q4 ad q) := (ho_G_6 _ (by omega)).trans (hC.2.2.1 q (by omega))
  have hc_18 : G_6 (87 + q) = aI cT 4 (sf q) := (ho_G_6 _ (by omega)).trans (hC.2.2.2.2.2.1 q (by omega))
  have hc_19 : G_6 (72 + 5 * q + ro) = aJ cT 48 (rf q ro) := (ho_G_6 _ (by omega)).trans (hC.2.2.2.1 q (by omega) ro (by omega))
  have hfr_20 : ∀ j, (j ≠ 69) → G_6 j = G j := fun j hj => (ho_G_6 j (by omega)).trans (rfl)
  refine t_eqi (nI 1) rfl ?_
  refine t_if_eq (tgt := 59) hx hb dX3_number_25 (by decide) (by omega) (fun c_21 => absurd c_21 (by omega)) (fun c_21 => ?_)
  refine lv_aload_n hx hb dX3_number_28 rfl (lv_at hl 1 rfl) ?_
  refine lv_iconst (v := nI 1) hx hb dX3_number_29 (by decide) ?_
  refine lv_iload_n hx hb dX3_number_30 rfl (lv_at hl 4 rfl) ?_
  refine t_if_lt (tgt := 51) hx hb dX3_number_31 (by decide) (by omega) ?_
  refine lv_iload_n hx hb dX3_number_34 rfl (lv_at hl 4 rfl) ?_
  refine lv_aload_n hx hb dX3_number_35 rfl (lv_at hl 1 rfl) ?_
  refine g_get (C := RX3) (T := TX3) (N := 9) hx hb hw inX3 hown hK hP (i := 69) (by omega) hc_8 rfl 1 (by decide) (hw _ wf_X3_16) rfl dX3_number_36 ?_
  refine lv_iload hx hb dX3_number_39 (lv_at hl 0 rfl) ?_
  refine g_aald hx hb hK hP 8 (i := 86) (by omega) hc_10 rfl rfl (k := (ad (87 + q))) (by omega) (by omega) (qS_at (by omega)) dX3_number_41 ?_
  refine lv_iload_n hx hb dX3_number_42 rfl (lv_at hl 3 rfl) ?_
  refine g_iald hx hb hK hP (i := (87 + q)) (by omega) hc_18 (by omega) (by omega) dX3_number_43 ?_
  refine t_icmp_ge (tgt := 51) hx hb dX3_number_44 (by decide) (by omega) (by omega) (fun c_23 => ?_) (fun c_23 => ?_)
  · exfalso; omega
  · skip
    refine lv_iconst (v := nI 1) hx hb dX3_number_47 (by decide) ?_
    refine lv_goto (tgt := 52) hx hb dX3_number_48 (by decide) ?_
    refine lv_iconst (v := nI 1) hx hb dX3_number_52 (by decide) ?_
    refine g_callV (As := [.int (nI 1), .int (nI 1), .int (nI 1)]) (rest := []) ⟨hx, hb, hml, hown, hw⟩ (mX3_can l D cT n ad A hD G_6 hn 0 1 1 1 (by decide) (by decide) (by decide) hc_8) (cwV 3 hw (gWV wm_X3_63 wi_X3_can wse_X3_can wini_X3 wc_X3_can) rfl rfl rfl (by decide +kernel) ⟨Nat.le_of_ble_eq_true rfl, Nat.le_of_ble_eq_true rfl⟩) hK hE hA hP hS (k := 69) (by omega) hc_8 rfl rfl hl.1 (lv_room (Nat.le_of_ble_eq_true rfl)) dX3_number_53 ⟨Nat.le_of_ble_eq_true rfl, Nat.le_of_ble_eq_true rfl⟩ (fun v_25 G_24 H locs hp hP hS => ?_)
    obtain ⟨rfl, hg_G_24, ho_G_24⟩ := hp
    have hc_26 : G_24 69 = .inr (5, [.ref (ad 70), .ref (ad 86), .ref (ad 90), .ref (ad 97), .ref (ad 98), .ref (ad 99), .ref (ad 106), .ref (ad 113), .int (nI 0)]) := hg_G_24
    have hc_27 : G_24 70 = aQ (cT 10) 3 (q3 ad) := (ho_G_24 _ (by omega)).trans hc_9
    have hc_28 : G_24 86 = aQ (cT 8) 3 (qS ad) := (ho_G_24 _ (by omega)).trans hc_10
    have hc_29 : G_24 90 = aQ (cT 7) 6 (qP ad) := (ho_G_24 _ (by omega)).trans hc_11
    have hc_30 : G_24 97 = aI cT 6 zf := (ho_G_24 _ (by omega)).trans hc_12
    have hc_31 : G_24 98 = aZ cT 6 xf := (ho_G_24 _ (by omega)).trans hc_13
    have hc_32 : G_24 99 = aQ (cT 9) 6 (qK ad) := (ho_G_24 _ (by omega)).trans hc_14
    have hc_33 : G_24 106 = aQ (cT 8) 6 (qL ad) := (ho_G_24 _ (by omega)).trans hc_15
    have hc_34 : G_24 113 = aI cT 6 mf := (ho_G_24 _ (by omega)).trans hc_16
    have hc_35 : G_24 (71 + 5 * q) = aQ (cT 7) 4 (q4 ad q) := (ho_G_24 _ (by omega)).trans hc_17
    have hc_36 : G_24 (87 + q) = aI cT 4 (sf q) := (ho_G_24 _ (by omega)).trans hc_18
    have hc_37 : G_24 (72 + 5 * q + ro) = aJ cT 48 (rf q ro) := (ho_G_24 _ (by omega)).trans hc_19
    have hfr_38 : ∀ j, (j ≠ 69) → G_24 j = G j := fun j hj => (ho_G_24 j (by omega)).trans (hfr_20 j hj)
    refine t_eqi (nI 1) rfl ?_
    refine t_if_ne (tgt := 61) hx hb dX3_number_56 (by decide) (by omega) (fun c_39 => ?_) (fun c_39 => absurd c_39 (by omega))
    refine lv_aload_n hx hb dX3_number_61 rfl (lv_at hl 1 rfl) ?_
    refine g_get (C := RX3) (T := TX3) (N := 9) hx hb hw inX3 hown hK hP (i := 69) (by omega) hc_26 rfl 0 (by decide) (hw _ wf_X3_11) rfl dX3_number_62 ?_
    refine lv_iload hx hb dX3_number_65 (lv_at hl 0 rfl) ?_
    refine g_aald hx hb hK hP 10 (i := 70) (by omega) hc_27 rfl rfl (k := (ad (71 + 5 * q))) (by omega) (by omega) (q3_at (by omega)) dX3_number_67 ?_
    refine lv_iload_n hx hb dX3_number_68 rfl (lv_at hl 3 rfl) ?_
    refine g_aald hx hb hK hP 7 (i := (71 + 5 * q)) (by omega) hc_35 rfl rfl (k := (ad (72 + 5 * q + ro))) (by omega) (by omega) (q4_at (by omega)) dX3_number_69 ?_
    refine lv_iload_n hx hb dX3_number_70 rfl (lv_at hl 4 rfl) ?_
    refine g_lald hx hb hK hP (i := (72 + 5 * q + ro)) (by omega) hc_37 (by omega) (by omega) dX3_number_71 ?_
    refine g_retl hQ hx hb hr hlocks hP hS (⟨⟨by rw [hrv i hi], MW.same hC hMA hc_26 (fun j9 _ _ hj9 => hfr_38 j9 hj9)⟩, fun j hj => hfr_38 j (by omega)⟩) (Nat.le_of_ble_eq_true rfl) (Nat.le_of_ble_eq_true rfl) dX3_number_72

set_option maxHeartbeats 4000000 in
set_option maxRecDepth 100000 in
theorem mX3_number_no (l : Launch) (D : va_G) (cT : Nat → ClassId) (n : Nat) (ad : Nat → Nat) (A : Nat → Prop) (hD : ∀ G, va_D A (gw n ad G)) (G : Nat → va_E) (hn : 114 ≤ n) (σ : TY) (hI : YI σ) (th : Nat) (hM : MW cT ad G σ th) (ch : Nat) (hch : ch < 65536) (x y : Int32) (E : String) (hpx : pxRow ch x E ∨ onR ch x (fun r => (y < 0 ∨ nI (σ.1 r).1 ≤ y) ∧ E = xIO)) : Met l yX3_number (wA yX3_number cX3_number 5 (some .long)) ({ frames := 1, cells := 0, slots := 0, locals := 23 } : Room) (PG D cT n ad A G [.ref (ad 69), .int (nI ch), .int x, .int y]) (QG D n ad A (fun v G1 => ((∃ z, v = some (.long z)) ∧ MW cT ad G1 σ (cd [xIA, xIO] E)) ∧ ∀ j, (j < 69 ∨ 114 ≤ j) → G1 j = G j)) 0 0 A := by
  refine Met.ofG (cc := cX3_number) (maxL := 5) (ret := (some .long)) (by decide) (Nat.le_of_ble_eq_true rfl) ?_
  intro p e s m args below meth c Q hQ hx hb hr hml hlocks hown hw hP hK hE hA hS ls hl
  have hl : lv_has ls 5 [(0, .ref (ad 69)), (1, .int (nI ch)), (2, .int x), (3, .int y)] := hl
  obtain ⟨rf, sf, pf, zf, xf, kf, lf, mf, hC, hMA⟩ := hM
  rcases hpx with hpx | ⟨q, ro, hq, hro, hkq, rfl, hyb, rfl⟩
  · skip
    rcases hpx with ⟨hkd, rfl⟩ | ⟨hk3, hrb, rfl⟩
    · skip
      rcases ix_cases x (N := 4) (by decide) with hrb | ⟨ro, hro, rfl⟩
      · skip
        refine lv_iload_n hx hb dX3_number_0 rfl (lv_at hl 1 rfl) ?_
        refine g_callS (As := [.int (nI ch)]) (rest := []) ⟨hx, hb, hml, hown, hw⟩ (mX3_kind l D cT n ad A hD G ch (by omega)) (va_cwS 1 hw (gWS wm_X3_51 wst_X3_kind wini_X3 wc_X3_kind) rfl rfl rfl (by decide +kernel) ⟨Nat.le_of_ble_eq_true rfl, Nat.le_of_ble_eq_true rfl⟩) hK hE hA hP hS rfl hl.1 (lv_room (Nat.le_of_ble_eq_true rfl)) dX3_number_1 ⟨Nat.le_of_ble_eq_true rfl, Nat.le_of_ble_eq_true rfl⟩ (fun v_2 G_1 H locs hp hP hS => ?_)
        obtain ⟨hv9, hg9⟩ := hp
        subst hv9
        rw [hg9] at hP
        refine t_eqi (-1) (if_pos hkd) ?_
        refine lv_istore (lv' := [(4, .int (-1)), (0, .ref (ad 69)), (1, .int (nI ch)), (2, .int x), (3, .int y)]) hx hb dX3_number_4 hl (by decide) rfl (fun ls hl => ?_)
        refine lv_aload_n hx hb dX3_number_6 rfl (lv_at hl 1 rfl) ?_
        refine lv_iload hx hb dX3_number_7 (lv_at hl 0 rfl) ?_
        refine lv_if_lt (tgt := 16) hx hb dX3_number_9 (by decide) (fun h9 => ?_) (fun h9 => absurd (by decide) h9)
        refine lv_iconst (v := nI 0) hx hb dX3_number_16 (by decide) ?_
        refine lv_iload_n hx hb dX3_number_17 rfl (lv_at hl 3 rfl) ?_
        refine g_callS (As := [.int x]) (rest := [.int (nI 0), .ref (ad 69)]) ⟨hx, hb, hml, hown, hw⟩ (mX3_isRow l D cT n ad A hD G x) (va_cwS 1 hw (gWS wm_X3_59 wst_X3_isRow wini_X3 wc_X3_isRow) rfl rfl rfl (by decide +kernel) ⟨Nat.le_of_ble_eq_true rfl, Nat.le_of_ble_eq_true rfl⟩) hK hE hA hP hS rfl hl.1 (lv_room (Nat.le_of_ble_eq_true rfl)) dX3_number_18 ⟨Nat.le_of_ble_eq_true rfl, Nat.le_of_ble_eq_true rfl⟩ (fun v_4 G_3 H locs hp hP hS => ?_)
        obtain ⟨hv9, hg9⟩ := hp
        subst hv9
        rw [hg9] at hP
        refine t_eqi (nI 0) (congrArg nI (if_pos hrb)) ?_
        refine lv_iconst (v := nI 1) hx hb dX3_number_21 (by decide) ?_
        refine g_callV (As := [.int (nI 0), .int (nI 0), .int (nI 1)]) (rest := []) ⟨hx, hb, hml, hown, hw⟩ (mX3_can l D cT n ad A hD G hn th 0 0 1 (by decide) (by decide) (by decide) hC.1) (cwV 3 hw (gWV wm_X3_63 wi_X3_can wse_X3_can wini_X3 wc_X3_can) rfl rfl rfl (by decide +kernel) ⟨Nat.le_of_ble_eq_true rfl, Nat.le_of_ble_eq_true rfl⟩) hK hE hA hP hS (k := 69) (by omega) hC.1 rfl rfl hl.1 (lv_room (Nat.le_of_ble_eq_true rfl)) dX3_number_22 ⟨Nat.le_of_ble_eq_true rfl, Nat.le_of_ble_eq_true rfl⟩ (fun v_6 G_5 H locs hp hP hS => ?_)
        obtain ⟨rfl, hg_G_5, ho_G_5⟩ := hp
        have hc_7 : G_5 69 = .inr (5, [.ref (ad 70), .ref (ad 86), .ref (ad 90), .ref (ad 97), .ref (ad 98), .ref (ad 99), .ref (ad 106), .ref (ad 113), .int (nI 1)]) := hg_G_5
        have hc_8 : G_5 70 = aQ (cT 10) 3 (q3 ad) := (ho_G_5 _ (by omega)).trans hC.2.1
        have hc_9 : G_5 86 = aQ (cT 8) 3 (qS ad) := (ho_G_5 _ (by omega)).trans hC.2.2.2.2.1
        have hc_10 : G_5 90 = aQ (cT 7) 6 (qP ad) := (ho_G_5 _ (by omega)).trans hC.2.2.2.2.2.2.1
        have hc_11 : G_5 97 = aI cT 6 zf := (ho_G_5 _ (by omega)).trans hC.2.2.2.2.2.2.2.2.1
        have hc_12 : G_5 98 = aZ cT 6 xf := (ho_G_5 _ (by omega)).trans hC.2.2.2.2.2.2.2.2.2.1
        have hc_13 : G_5 99 = aQ (cT 9) 6 (qK ad) := (ho_G_5 _ (by omega)).trans hC.2.2.2.2.2.2.2.2.2.2.1
        have hc_14 : G_5 106 = aQ (cT 8) 6 (qL ad) := (ho_G_5 _ (by omega)).trans hC.2.2.2.2.2.2.2.2.2.2.2.2.1
        have hc_15 : G_5 113 = aI cT 6 mf := (ho_G_5 _ (by omega)).trans hC.2.2.2.2.2.2.2.2.2.2.2.2.2.2.1
        have hfr_16 : ∀ j, (j ≠ 69) → G_5 j = G j := fun j hj => (ho_G_5 j (by omega)).trans (rfl)
        refine t_eqi (nI 0) rfl ?_
        refine t_if_eq (tgt := 59) hx hb dX3_number_25 (by decide) (by omega) (fun c_17 => ?_) (fun c_17 => absurd c_17 (by omega))
        refine lv_lconst (v := 0) hx hb dX3_number_59 (by decide) ?_
        refine g_retl hQ hx hb hr hlocks hP hS (⟨⟨⟨_, rfl⟩, by rw [show cd [xIA, xIO] xIA = 1 from by decide +kernel]; exact MW.same hC hMA hc_7 (fun j9 _ _ hj9 => hfr_16 j9 hj9)⟩, fun j hj => hfr_16 j (by omega)⟩) (Nat.le_of_ble_eq_true rfl) (Nat.le_of_ble_eq_true rfl) dX3_number_60
      · skip
        refine lv_iload_n hx hb dX3_number_0 rfl (lv_at hl 1 rfl) ?_
        refine g_callS (As := [.int (nI ch)]) (rest := []) ⟨hx, hb, hml, hown, hw⟩ (mX3_kind l D cT n ad A hD G ch (by omega)) (va_cwS 1 hw (gWS wm_X3_51 wst_X3_kind wini_X3 wc_X3_kind) rfl rfl rfl (by decide +kernel) ⟨Nat.le_of_ble_eq_true rfl, Nat.le_of_ble_eq_true rfl⟩) hK hE hA hP hS rfl hl.1 (lv_room (Nat.le_of_ble_eq_true rfl)) dX3_number_1 ⟨Nat.le_of_ble_eq_true rfl, Nat.le_of_ble_eq_true rfl⟩ (fun v_19 G_18 H locs hp hP hS => ?_)
        obtain ⟨hv9, hg9⟩ := hp
        subst hv9
        rw [hg9] at hP
        refine t_eqi (-1) (if_pos hkd) ?_
        refine lv_istore (lv' := [(4, .int (-1)), (0, .ref (ad 69)), (1, .int (nI ch)), (2, .int (nI ro)), (3, .int y)]) hx hb dX3_number_4 hl (by decide) rfl (fun ls hl => ?_)
        refine lv_aload_n hx hb dX3_number_6 rfl (lv_at hl 1 rfl) ?_
        refine lv_iload hx hb dX3_number_7 (lv_at hl 0 rfl) ?_
        refine lv_if_lt (tgt := 16) hx hb dX3_number_9 (by decide) (fun h9 => ?_) (fun h9 => absurd (by decide) h9)
        refine lv_iconst (v := nI 0) hx hb dX3_number_16 (by decide) ?_
        refine lv_iload_n hx hb dX3_number_17 rfl (lv_at hl 3 rfl) ?_
        refine g_callS (As := [.int (nI ro)]) (rest := [.int (nI 0), .ref (ad 69)]) ⟨hx, hb, hml, hown, hw⟩ (mX3_isRow l D cT n ad A hD G (nI ro)) (va_cwS 1 hw (gWS wm_X3_59 wst_X3_isRow wini_X3 wc_X3_isRow) rfl rfl rfl (by decide +kernel) ⟨Nat.le_of_ble_eq_true rfl, Nat.le_of_ble_eq_true rfl⟩) hK hE hA hP hS rfl hl.1 (lv_room (Nat.le_of_ble_eq_true rfl)) dX3_number_18 ⟨Nat.le_of_ble_eq_true rfl, Nat.le_of_ble_eq_true rfl⟩ (fun v_21 G_20 H locs hp hP hS => ?_)
        obtain ⟨hv9, hg9⟩ := hp
        subst hv9
        rw [hg9] at hP
        refine t_eqi (nI 1) (congrArg nI (if_neg (ix_ok (by omega) (by decide)))) ?_
        refine lv_iconst (v := nI 1) hx hb dX3_number_21 (by decide) ?_
        refine g_callV (As := [.int (nI 0), .int (nI 1), .int (nI 1)]) (rest := []) ⟨hx, hb, hml, hown, hw⟩ (mX3_can l D cT n ad A hD G hn th 0 1 1 (by decide) (by decide) (by decide) hC.1) (cwV 3 hw (gWV wm_X3_63 wi_X3_can wse_X3_can wini_X3 wc_X3_can) rfl rfl rfl (by decide +kernel) ⟨Nat.le_of_ble_eq_true rfl, Nat.le_of_ble_eq_true rfl⟩) hK hE hA hP hS (k := 69) (by omega) hC.1 rfl rfl hl.1 (lv_room (Nat.le_of_ble_eq_true rfl)) dX3_number_22 ⟨Nat.le_of_ble_eq_true rfl, Nat.le_of_ble_eq_true rfl⟩ (fun v_23 G_22 H locs hp hP hS => ?_)
        obtain ⟨rfl, hg_G_22, ho_G_22⟩ := hp
        have hc_24 : G_22 69 = .inr (5, [.ref (ad 70), .ref (ad 86), .ref (ad 90), .ref (ad 97), .ref (ad 98), .ref (ad 99), .ref (ad 106), .ref (ad 113), .int (nI 1)]) := hg_G_22
        have hc_25 : G_22 70 = aQ (cT 10) 3 (q3 ad) := (ho_G_22 _ (by omega)).trans hC.2.1
        have hc_26 : G_22 86 = aQ (cT 8) 3 (qS ad) := (ho_G_22 _ (by omega)).trans hC.2.2.2.2.1
        have hc_27 : G_22 90 = aQ (cT 7) 6 (qP ad) := (ho_G_22 _ (by omega)).trans hC.2.2.2.2.2.2.1
        have hc_28 : G_22 97 = aI cT 6 zf := (ho_G_22 _ (by omega)).trans hC.2.2.2.2.2.2.2.2.1
        have hc_29 : G_22 98 = aZ cT 6 xf := (ho_G_22 _ (by omega)).trans hC.2.2.2.2.2.2.2.2.2.1
        have hc_30 : G_22 99 = aQ (cT 9) 6 (qK ad) := (ho_G_22 _ (by omega)).trans hC.2.2.2.2.2.2.2.2.2.2.1
        have hc_31 : G_22 106 = aQ (cT 8) 6 (qL ad) := (ho_G_22 _ (by omega)).trans hC.2.2.2.2.2.2.2.2.2.2.2.2.1
        have hc_32 : G_22 113 = aI cT 6 mf := (ho_G_22 _ (by omega)).trans hC.2.2.2.2.2.2.2.2.2.2.2.2.2.2.1
        have hfr_33 : ∀ j, (j ≠ 69) → G_22 j = G j := fun j hj => (ho_G_22 j (by omega)).trans (rfl)
        refine t_eqi (nI 0) rfl ?_
        refine t_if_eq (tgt := 59) hx hb dX3_number_25 (by decide) (by omega) (fun c_34 => ?_) (fun c_34 => absurd c_34 (by omega))
        refine lv_lconst (v := 0) hx hb dX3_number_59 (by decide) ?_
        refine g_retl hQ hx hb hr hlocks hP hS (⟨⟨⟨_, rfl⟩, by rw [show cd [xIA, xIO] xIA = 1 from by decide +kernel]; exact MW.same hC hMA hc_24 (fun j9 _ _ hj9 => hfr_33 j9 hj9)⟩, fun j hj => hfr_33 j (by omega)⟩) (Nat.le_of_ble_eq_true rfl) (Nat.le_of_ble_eq_true rfl) dX3_number_60
    · skip
      obtain ⟨q, hkq⟩ : ∃ q, kdx ch = q := ⟨_, rfl⟩
      have hkl9 := kdx_le ch
      have hq : q < 3 := by omega
      refine lv_iload_n hx hb dX3_number_0 rfl (lv_at hl 1 rfl) ?_
      refine g_callS (As := [.int (nI ch)]) (rest := []) ⟨hx, hb, hml, hown, hw⟩ (mX3_kind l D cT n ad A hD G ch (by omega)) (va_cwS 1 hw (gWS wm_X3_51 wst_X3_kind wini_X3 wc_X3_kind) rfl rfl rfl (by decide +kernel) ⟨Nat.le_of_ble_eq_true rfl, Nat.le_of_ble_eq_true rfl⟩) hK hE hA hP hS rfl hl.1 (lv_room (Nat.le_of_ble_eq_true rfl)) dX3_number_1 ⟨Nat.le_of_ble_eq_true rfl, Nat.le_of_ble_eq_true rfl⟩ (fun v_36 G_35 H locs hp hP hS => ?_)
      obtain ⟨hv9, hg9⟩ := hp
      subst hv9
      rw [hg9] at hP
      refine t_eqi (nI q) ((if_neg (by omega)).trans (congrArg nI hkq)) ?_
      refine lv_istore (lv' := [(4, .int (nI q)), (0, .ref (ad 69)), (1, .int (nI ch)), (2, .int x), (3, .int y)]) hx hb dX3_number_4 hl (by decide) rfl (fun ls hl => ?_)
      refine lv_aload_n hx hb dX3_number_6 rfl (lv_at hl 1 rfl) ?_
      refine lv_iload hx hb dX3_number_7 (lv_at hl 0 rfl) ?_
      refine t_if_lt (tgt := 16) hx hb dX3_number_9 (by decide) (by omega) ?_
      refine lv_iconst (v := nI 1) hx hb dX3_number_12 (by decide) ?_
      refine lv_goto (tgt := 17) hx hb dX3_number_13 (by decide) ?_
      refine lv_iload_n hx hb dX3_number_17 rfl (lv_at hl 3 rfl) ?_
      refine g_callS (As := [.int x]) (rest := [.int (nI 1), .ref (ad 69)]) ⟨hx, hb, hml, hown, hw⟩ (mX3_isRow l D cT n ad A hD G x) (va_cwS 1 hw (gWS wm_X3_59 wst_X3_isRow wini_X3 wc_X3_isRow) rfl rfl rfl (by decide +kernel) ⟨Nat.le_of_ble_eq_true rfl, Nat.le_of_ble_eq_true rfl⟩) hK hE hA hP hS rfl hl.1 (lv_room (Nat.le_of_ble_eq_true rfl)) dX3_number_18 ⟨Nat.le_of_ble_eq_true rfl, Nat.le_of_ble_eq_true rfl⟩ (fun v_39 G_38 H locs hp hP hS => ?_)
      obtain ⟨hv9, hg9⟩ := hp
      subst hv9
      rw [hg9] at hP
      refine t_eqi (nI 0) (congrArg nI (if_pos hrb)) ?_
      refine lv_iconst (v := nI 1) hx hb dX3_number_21 (by decide) ?_
      refine g_callV (As := [.int (nI 1), .int (nI 0), .int (nI 1)]) (rest := []) ⟨hx, hb, hml, hown, hw⟩ (mX3_can l D cT n ad A hD G hn th 1 0 1 (by decide) (by decide) (by decide) hC.1) (cwV 3 hw (gWV wm_X3_63 wi_X3_can wse_X3_can wini_X3 wc_X3_can) rfl rfl rfl (by decide +kernel) ⟨Nat.le_of_ble_eq_true rfl, Nat.le_of_ble_eq_true rfl⟩) hK hE hA hP hS (k := 69) (by omega) hC.1 rfl rfl hl.1 (lv_room (Nat.le_of_ble_eq_true rfl)) dX3_number_22 ⟨Nat.le_of_ble_eq_true rfl, Nat.le_of_ble_eq_true rfl⟩ (fun v_41 G_40 H locs hp hP hS => ?_)
      obtain ⟨rfl, hg_G_40, ho_G_40⟩ := hp
      have hc_42 : G_40 69 = .inr (5, [.ref (ad 70), .ref (ad 86), .ref (ad 90), .ref (ad 97), .ref (ad 98), .ref (ad 99), .ref (ad 106), .ref (ad 113), .int (nI 2)]) := hg_G_40
      have hc_43 : G_40 70 = aQ (cT 10) 3 (q3 ad) := (ho_G_40 _ (by omega)).trans hC.2.1
      have hc_44 : G_40 86 = aQ (cT 8) 3 (qS ad) := (ho_G_40 _ (by omega)).trans hC.2.2.2.2.1
      have hc_45 : G_40 90 = aQ (cT 7) 6 (qP ad) := (ho_G_40 _ (by omega)).trans hC.2.2.2.2.2.2.1
      have hc_46 : G_40 97 = aI cT 6 zf := (ho_G_40 _ (by omega)).trans hC.2.2.2.2.2.2.2.2.1
      have hc_47 : G_40 98 = aZ cT 6 xf := (ho_G_40 _ (by omega)).trans hC.2.2.2.2.2.2.2.2.2.1
      have hc_48 : G_40 99 = aQ (cT 9) 6 (qK ad) := (ho_G_40 _ (by omega)).trans hC.2.2.2.2.2.2.2.2.2.2.1
      have hc_49 : G_40 106 = aQ (cT 8) 6 (qL ad) := (ho_G_40 _ (by omega)).trans hC.2.2.2.2.2.2.2.2.2.2.2.2.1
      have hc_50 : G_40 113 = aI cT 6 mf := (ho_G_40 _ (by omega)).trans hC.2.2.2.2.2.2.2.2.2.2.2.2.2.2.1
      have hfr_51 : ∀ j, (j ≠ 69) → G_40 j = G j := fun j hj => (ho_G_40 j (by omega)).trans (rfl)
      refine t_eqi (nI 0) rfl ?_
      refine t_if_eq (tgt := 59) hx hb dX3_number_25 (by decide) (by omega) (fun c_52 => ?_) (fun c_52 => absurd c_52 (by omega))
      refine lv_lconst (v := 0) hx hb dX3_number_59 (by decide) ?_
      refine g_retl hQ hx hb hr hlocks hP hS (⟨⟨⟨_, rfl⟩, by rw [show cd [xIA, xIO] xIO = 2 from by decide +kernel]; exact MW.same hC hMA hc_42 (fun j9 _ _ hj9 => hfr_51 j9 hj9)⟩, fun j hj => hfr_51 j (by omega)⟩) (Nat.le_of_ble_eq_true rfl) (Nat.le_of_ble_eq_true rfl) dX3_number_60
  · skip
    obtain ⟨hsz, hrv⟩ := hMA.1 q (by omega) ro (by omega)
    have hrc := hI.1 (4 * q + ro) (by omega)
    refine lv_iload_n hx hb dX3_number_0 rfl (lv_at hl 1 rfl) ?_
    refine g_callS (As := [.int (nI ch)]) (rest := []) ⟨hx, hb, hml, hown, hw⟩ (mX3_kind l D cT n ad A hD G ch (by omega)) (va_cwS 1 hw (gWS wm_X3_51 wst_X3_kind wini_X3 wc_X3_kind) rfl rfl rfl (by decide +kernel) ⟨Nat.le_of_ble_eq_true rfl, Nat.le_of_ble_eq_true rfl⟩) hK hE hA hP hS rfl hl.1 (lv_room (Nat.le_of_ble_eq_true rfl)) dX3_number_1 ⟨Nat.le_of_ble_eq_true rfl, Nat.le_of_ble_eq_true rfl⟩ (fun v_54 G_53 H locs hp hP hS => ?_)
    obtain ⟨hv9, hg9⟩ := hp
    subst hv9
    rw [hg9] at hP
    refine t_eqi (nI q) ((if_neg (by omega)).trans (congrArg nI hkq)) ?_
    refine lv_istore (lv' := [(4, .int (nI q)), (0, .ref (ad 69)), (1, .int (nI ch)), (2, .int (nI ro)), (3, .int y)]) hx hb dX3_number_4 hl (by decide) rfl (fun ls hl => ?_)
    refine lv_aload_n hx hb dX3_number_6 rfl (lv_at hl 1 rfl) ?_
    refine lv_iload hx hb dX3_number_7 (lv_at hl 0 rfl) ?_
    refine t_if_lt (tgt := 16) hx hb dX3_number_9 (by decide) (by omega) ?_
    refine lv_iconst (v := nI 1) hx hb dX3_number_12 (by decide) ?_
    refine lv_goto (tgt := 17) hx hb dX3_number_13 (by decide) ?_
    refine lv_iload_n hx hb dX3_number_17 rfl (lv_at hl 3 rfl) ?_
    refine g_callS (As := [.int (nI ro)]) (rest := [.int (nI 1), .ref (ad 69)]) ⟨hx, hb, hml, hown, hw⟩ (mX3_isRow l D cT n ad A hD G (nI ro)) (va_cwS 1 hw (gWS wm_X3_59 wst_X3_isRow wini_X3 wc_X3_isRow) rfl rfl rfl (by decide +kernel) ⟨Nat.le_of_ble_eq_true rfl, Nat.le_of_ble_eq_true rfl⟩) hK hE hA hP hS rfl hl.1 (lv_room (Nat.le_of_ble_eq_true rfl)) dX3_number_18 ⟨Nat.le_of_ble_eq_true rfl, Nat.le_of_ble_eq_true rfl⟩ (fun v_57 G_56 H locs hp hP hS => ?_)
    obtain ⟨hv9, hg9⟩ := hp
    subst hv9
    rw [hg9] at hP
    refine t_eqi (nI 1) (congrArg nI (if_neg (ix_ok (by omega) (by decide)))) ?_
    refine lv_iconst (v := nI 1) hx hb dX3_number_21 (by decide) ?_
    refine g_callV (As := [.int (nI 1), .int (nI 1), .int (nI 1)]) (rest := []) ⟨hx, hb, hml, hown, hw⟩ (mX3_can l D cT n ad A hD G hn th 1 1 1 (by decide) (by decide) (by decide) hC.1) (cwV 3 hw (gWV wm_X3_63 wi_X3_can wse_X3_can wini_X3 wc_X3_can) rfl rfl rfl (by decide +kernel) ⟨Nat.le_of_ble_eq_true rfl, Nat.le_of_ble_eq_true rfl⟩) hK hE hA hP hS (k := 69) (by omega) hC.1 rfl rfl hl.1 (lv_room (Nat.le_of_ble_eq_true rfl)) dX3_number_22 ⟨Nat.le_of_ble_eq_true rfl, Nat.le_of_ble_eq_true rfl⟩ (fun v_59 G_58 H locs hp hP hS => ?_)
    obtain ⟨rfl, hg_G_58, ho_G_58⟩ := hp
    have hc_60 : G_58 69 = .inr (5, [.ref (ad 70), .ref (ad 86), .ref (ad 90), .ref (ad 97), .ref (ad 98), .ref (ad 99), .ref (ad 106), .ref (ad 113), .int (nI 0)]) := hg_G_58
    have hc_61 : G_58 70 = aQ (cT 10) 3 (q3 ad) := (ho_G_58 _ (by omega)).trans hC.2.1
    have hc_62 : G_58 86 = aQ (cT 8) 3 (qS ad) := (ho_G_58 _ (by omega)).trans hC.2.2.2.2.1
    have hc_63 : G_58 90 = aQ (cT 7) 6 (qP ad) := (ho_G_58 _ (by omega)).trans hC.2.2.2.2.2.2.1
    have hc_64 : G_58 97 = aI cT 6 zf := (ho_G_58 _ (by omega)).trans hC.2.2.2.2.2.2.2.2.1
    have hc_65 : G_58 98 = aZ cT 6 xf := (ho_G_58 _ (by omega)).trans hC.2.2.2.2.2.2.2.2.2.1
    have hc_66 : G_58 99 = aQ (cT 9) 6 (qK ad) := (ho_G_58 _ (by omega)).trans hC.2.2.2.2.2.2.2.2.2.2.1
    have hc_67 : G_58 106 = aQ (cT 8) 6 (qL ad) := (ho_G_58 _ (by omega)).trans hC.2.2.2.2.2.2.2.2.2.2.2.2.1
    have hc_68 : G_58 113 = aI cT 6 mf := (ho_G_58 _ (by omega)).trans hC.2.2.2.2.2.2.2.2.2.2.2.2.2.2.1
    have hc_69 : G_58 (71 + 5 * q) = aQ (cT 7) 4 (q4 ad q) := (ho_G_58 _ (by omega)).trans (hC.2.2.1 q (by omega))
    have hc_70 : G_58 (87 + q) = aI cT 4 (sf q) := (ho_G_58 _ (by omega)).trans (hC.2.2.2.2.2.1 q (by omega))
    have hc_71 : G_58 (72 + 5 * q + ro) = aJ cT 48 (rf q ro) := (ho_G_58 _ (by omega)).trans (hC.2.2.2.1 q (by omega) ro (by omega))
    have hfr_72 : ∀ j, (j ≠ 69) → G_58 j = G j := fun j hj => (ho_G_58 j (by omega)).trans (rfl)
    refine t_eqi (nI 1) rfl ?_
    refine t_if_eq (tgt := 59) hx hb dX3_number_25 (by decide) (by omega) (fun c_73 => absurd c_73 (by omega)) (fun c_73 => ?_)
    refine lv_aload_n hx hb dX3_number_28 rfl (lv_at hl 1 rfl) ?_
    refine lv_iconst (v := nI 1) hx hb dX3_number_29 (by decide) ?_
    refine lv_iload_n hx hb dX3_number_30 rfl (lv_at hl 4 rfl) ?_
    refine lv_if_lt (tgt := 51) hx hb dX3_number_31 (by decide) (fun c_74 => ?_) (fun c_74 => ?_)
    · skip
      refine lv_iconst (v := nI 0) hx hb dX3_number_51 (by decide) ?_
      refine lv_iconst (v := nI 1) hx hb dX3_number_52 (by decide) ?_
      refine g_callV (As := [.int (nI 1), .int (nI 0), .int (nI 1)]) (rest := []) ⟨hx, hb, hml, hown, hw⟩ (mX3_can l D cT n ad A hD G_58 hn 0 1 0 1 (by decide) (by decide) (by decide) hc_60) (cwV 3 hw (gWV wm_X3_63 wi_X3_can wse_X3_can wini_X3 wc_X3_can) rfl rfl rfl (by decide +kernel) ⟨Nat.le_of_ble_eq_true rfl, Nat.le_of_ble_eq_true rfl⟩) hK hE hA hP hS (k := 69) (by omega) hc_60 rfl rfl hl.1 (lv_room (Nat.le_of_ble_eq_true rfl)) dX3_number_53 ⟨Nat.le_of_ble_eq_true rfl, Nat.le_of_ble_eq_true rfl⟩ (fun v_76 G_75 H locs hp hP hS => ?_)
      obtain ⟨rfl, hg_G_75, ho_G_75⟩ := hp
      have hc_77 : G_75 69 = .inr (5, [.ref (ad 70), .ref (ad 86), .ref (ad 90), .ref (ad 97), .ref (ad 98), .ref (ad 99), .ref (ad 106), .ref (ad 113), .int (nI 2)]) := hg_G_75
      have hc_78 : G_75 70 = aQ (cT 10) 3 (q3 ad) := (ho_G_75 _ (by omega)).trans hc_61
      have hc_79 : G_75 86 = aQ (cT 8) 3 (qS ad) := (ho_G_75 _ (by omega)).trans hc_62
      have hc_80 : G_75 90 = aQ (cT 7) 6 (qP ad) := (ho_G_75 _ (by omega)).trans hc_63
      have hc_81 : G_75 97 = aI cT 6 zf := (ho_G_75 _ (by omega)).trans hc_64
      have hc_82 : G_75 98 = aZ cT 6 xf := (ho_G_75 _ (by omega)).trans hc_65
      have hc_83 : G_75 99 = aQ (cT 9) 6 (qK ad) := (ho_G_75 _ (by omega)).trans hc_66
      have hc_84 : G_75 106 = aQ (cT 8) 6 (qL ad) := (ho_G_75 _ (by omega)).trans hc_67
      have hc_85 : G_75 113 = aI cT 6 mf := (ho_G_75 _ (by omega)).trans hc_68
      have hc_86 : G_75 (71 + 5 * q) = aQ (cT 7) 4 (q4 ad q) := (ho_G_75 _ (by omega)).trans hc_69
      have hc_87 : G_75 (87 + q) = aI cT 4 (sf q) := (ho_G_75 _ (by omega)).trans hc_70
      have hc_88 : G_75 (72 + 5 * q + ro) = aJ cT 48 (rf q ro) := (ho_G_75 _ (by omega)).trans hc_71
      have hfr_89 : ∀ j, (j ≠ 69) → G_75 j = G j := fun j hj => (ho_G_75 j (by omega)).trans (hfr_72 j hj)
      refine t_eqi (nI 0) rfl ?_
      refine t_if_ne (tgt := 61) hx hb dX3_number_56 (by decide) (by omega) (fun c_90 => absurd c_90 (by omega)) (fun c_90 => ?_)
      refine lv_lconst (v := 0) hx hb dX3_number_59 (by decide) ?_
      refine g_retl hQ hx hb hr hlocks hP hS (⟨⟨⟨_, rfl⟩, by rw [show cd [xIA, xIO] xIO = 2 from by decide +kernel]; exact MW.same hC hMA hc_77 (fun j9 _ _ hj9 => hfr_89 j9 hj9)⟩, fun j hj => hfr_89 j (by omega)⟩) (Nat.le_of_ble_eq_true rfl) (Nat.le_of_ble_eq_true rfl) dX3_number_60
    · skip
      refine lv_iload_n hx hb dX3_number_34 rfl (lv_at hl 4 rfl) ?_
      refine lv_aload_n hx hb dX3_number_35 rfl (lv_at hl 1 rfl) ?_
      refine g_get (C := RX3) (T := TX3) (N := 9) hx hb hw inX3 hown hK hP (i := 69) (by omega) hc_60 rfl 1 (by decide) (hw _ wf_X3_16) rfl dX3_number_36 ?_
      refine lv_iload hx hb dX3_number_39 (lv_at hl 0 rfl) ?_
      refine g_aald hx hb hK hP 8 (i := 86) (by omega) hc_62 rfl rfl (k := (ad (87 + q))) (by omega) (by omega) (qS_at (by omega)) dX3_number_41 ?_
      refine lv_iload_n hx hb dX3_number_42 rfl (lv_at hl 3 rfl) ?_
      refine g_iald hx hb hK hP (i := (87 + q)) (by omega) hc_70 (by omega) (by omega) dX3_number_43 ?_
      refine lv_icmp_ge (tgt := 51) hx hb dX3_number_44 (by decide) (fun c_91 => ?_) (fun c_91 => ?_)
      · skip
        refine lv_iconst (v := nI 0) hx hb dX3_number_51 (by decide) ?_
        refine lv_iconst (v := nI 1) hx hb dX3_number_52 (by decide) ?_
        refine g_callV (As := [.int (nI 1), .int (nI 0), .int (nI 1)]) (rest := []) ⟨hx, hb, hml, hown, hw⟩ (mX3_can l D cT n ad A hD G_58 hn 0 1 0 1 (by decide) (by decide) (by decide) hc_60) (cwV 3 hw (gWV wm_X3_63 wi_X3_can wse_X3_can wini_X3 wc_X3_can) rfl rfl rfl (by decide +kernel) ⟨Nat.le_of_ble_eq_true rfl, Nat.le_of_ble_eq_true rfl⟩) hK hE hA hP hS (k := 69) (by omega) hc_60 rfl rfl hl.1 (lv_room (Nat.le_of_ble_eq_true rfl)) dX3_number_53 ⟨Nat.le_of_ble_eq_true rfl, Nat.le_of_ble_eq_true rfl⟩ (fun v_93 G_92 H locs hp hP hS => ?_)
        obtain ⟨rfl, hg_G_92, ho_G_92⟩ := hp
        have hc_94 : G_92 69 = .inr (5, [.ref (ad 70), .ref (ad 86), .ref (ad 90), .ref (ad 97), .ref (ad 98), .ref (ad 99), .ref (ad 106), .ref (ad 113), .int (nI 2)]) := hg_G_92
        have hc_95 : G_92 70 = aQ (cT 10) 3 (q3 ad) := (ho_G_92 _ (by omega)).trans hc_61
        have hc_96 : G_92 86 = aQ (cT 8) 3 (qS ad) := (ho_G_92 _ (by omega)).trans hc_62
        have hc_97 : G_92 90 = aQ (cT 7) 6 (qP ad) := (ho_G_92 _ (by omega)).trans hc_63
        have hc_98 : G_92 97 = aI cT 6 zf := (ho_G_92 _ (by omega)).trans hc_64
        have hc_99 : G_92 98 = aZ cT 6 xf := (ho_G_92 _ (by omega)).trans hc_65
        have hc_100 : G_92 99 = aQ (cT 9) 6 (qK ad) := (ho_G_92 _ (by omega)).trans hc_66
        have hc_101 : G_92 106 = aQ (cT 8) 6 (qL ad) := (ho_G_92 _ (by omega)).trans hc_67
        have hc_102 : G_92 113 = aI cT 6 mf := (ho_G_92 _ (by omega)).trans hc_68
        have hc_103 : G_92 (71 + 5 * q) = aQ (cT 7) 4 (q4 ad q) := (ho_G_92 _ (by omega)).trans hc_69
        have hc_104 : G_92 (87 + q) = aI cT 4 (sf q) := (ho_G_92 _ (by omega)).trans hc_70
        have hc_105 : G_92 (72 + 5 * q + ro) = aJ cT 48 (rf q ro) := (ho_G_92 _ (by omega)).trans hc_71
        have hfr_106 : ∀ j, (j ≠ 69) → G_92 j = G j := fun j hj => (ho_G_92 j (by omega)).trans (hfr_72 j hj)
        refine t_eqi (nI 0) rfl ?_
        refine t_if_ne (tgt := 61) hx hb dX3_number_56 (by decide) (by omega) (fun c_107 => absurd c_107 (by omega)) (fun c_107 => ?_)
        refine lv_lconst (v := 0) hx hb dX3_number_59 (by decide) ?_
        refine g_retl hQ hx hb hr hlocks hP hS (⟨⟨⟨_, rfl⟩, by rw [show cd [xIA, xIO] xIO = 2 from by decide +kernel]; exact MW.same hC hMA hc_94 (fun j9 _ _ hj9 => hfr_106 j9 hj9)⟩, fun j hj => hfr_106 j (by omega)⟩) (Nat.le_of_ble_eq_true rfl) (Nat.le_of_ble_eq_true rfl) dX3_number_60
      · skip
        exact absurd hyb (fun q9 => q9.elim c_74 (by rw [← hsz]; exact c_91))

set_option maxHeartbeats 4000000 in
set_option maxRecDepth 100000 in
theorem mX3_append_ok (l : Launch) (D : va_G) (cT : Nat → ClassId) (n : Nat) (ad : Nat → Nat) (A : Nat → Prop) (hD : ∀ G, va_D A (gw n ad G)) (G : Nat → va_E) (hn : 114 ≤ n) (σ : TY) (hI : YI σ) (th : Nat) (hM : MW cT ad G σ th) (ch : Nat) (hch : ch < 65536)(q ro : Nat) (hq : q < 3) (hro : ro < 4) (hkq : kdx ch = q) (z : Int64) (hz : nmOK ch z) (hlt : (σ.1 (4 * q + ro)).1 < 48) : Met l yX3_append (wA yX3_append cX3_append 6 (some .int)) ({ frames := 1, cells := 0, slots := 0, locals := 23 } : Room) (PG D cT n ad A G [.ref (ad 69), .int (nI ch), .int (nI ro), .long z]) (QG D n ad A (fun v G1 => (v = some (.int (nI ((σ.1 (4 * q + ro)).1 + 1))) ∧ MW cT ad G1 (setR σ (4 * q + ro) ((σ.1 (4 * q + ro)).1 + 1, va_up (σ.1 (4 * q + ro)).2 (σ.1 (4 * q + ro)).1 z)) 0) ∧ ∀ j, (j < 69 ∨ 114 ≤ j) → G1 j = G j)) 0 0 A := by
  refine Met.ofG (cc := cX3_append) (maxL := 6) (ret := (some .int)) (by decide) (Nat.le_of_ble_eq_true rfl) ?_
  intro p e s m args below meth c Q hQ hx hb hr hml hlocks hown hw hP hK hE hA hS ls hl
  have hl : lv_has ls 6 [(0, .ref (ad 69)), (1, .int (nI ch)), (2, .int (nI ro)), (3, .long z)] := hl
  obtain ⟨rf, sf, pf, zf, xf, kf, lf, mf, hC, hMA⟩ := hM
  obtain ⟨hsz, hrv⟩ := hMA.1 q (by omega) ro (by omega)
  have hrc := hI.1 (4 * q + ro) (by omega)
  refine lv_iload_n hx hb dX3_append_0 rfl (lv_at hl 1 rfl) ?_
  refine g_callS (As := [.int (nI ch)]) (rest := []) ⟨hx, hb, hml, hown, hw⟩ (mX3_kind l D cT n ad A hD G ch (by omega)) (va_cwS 1 hw (gWS wm_X3_51 wst_X3_kind wini_X3 wc_X3_kind) rfl rfl rfl (by decide +kernel) ⟨Nat.le_of_ble_eq_true rfl, Nat.le_of_ble_eq_true rfl⟩) hK hE hA hP hS rfl hl.1 (lv_room (Nat.le_of_ble_eq_true rfl)) dX3_append_1 ⟨Nat.le_of_ble_eq_true rfl, Nat.le_of_ble_eq_true rfl⟩ (fun v_2 G_1 H locs hp hP hS => ?_)
  obtain ⟨hv9, hg9⟩ := hp
  subst hv9
  rw [hg9] at hP
  refine t_eqi (nI q) ((if_neg (by omega)).trans (congrArg nI hkq)) ?_
  refine lv_istore (lv' := [(5, .int (nI q)), (0, .ref (ad 69)), (1, .int (nI ch)), (2, .int (nI ro)), (3, .long z)]) hx hb dX3_append_4 hl (by decide) rfl (fun ls hl => ?_)
  refine lv_aload_n hx hb dX3_append_6 rfl (lv_at hl 1 rfl) ?_
  refine lv_iload hx hb dX3_append_7 (lv_at hl 0 rfl) ?_
  refine t_if_lt (tgt := 25) hx hb dX3_append_9 (by decide) (by omega) ?_
  refine lv_iload hx hb dX3_append_12 (lv_at hl 0 rfl) ?_
  refine lv_lload_n hx hb dX3_append_14 rfl (lv_at hl 4 rfl) ?_
  refine g_callS (As := [.int (nI q), .long z]) (rest := [.ref (ad 69)]) ⟨hx, hb, hml, hown, hw⟩ (mX3_isNumber l D cT n ad A hD G q (by omega) z) (va_cwS 2 hw (gWS wm_X3_55 wst_X3_isNumber wini_X3 wc_X3_isNumber) rfl rfl rfl (by decide +kernel) ⟨Nat.le_of_ble_eq_true rfl, Nat.le_of_ble_eq_true rfl⟩) hK hE hA hP hS rfl hl.1 (lv_room (Nat.le_of_ble_eq_true rfl)) dX3_append_15 ⟨Nat.le_of_ble_eq_true rfl, Nat.le_of_ble_eq_true rfl⟩ (fun v_5 G_4 H locs hp hP hS => ?_)
  obtain ⟨hv9, hg9⟩ := hp
  subst hv9
  rw [hg9] at hP
  refine t_eqi (nI 1) (congrArg nI (if_pos ((nm_q hkq hq).mp hz))) ?_
  refine t_if_eq (tgt := 25) hx hb dX3_append_18 (by decide) (by omega) (fun c_6 => absurd c_6 (by omega)) (fun c_6 => ?_)
  refine lv_iconst (v := nI 1) hx hb dX3_append_21 (by decide) ?_
  refine lv_goto (tgt := 26) hx hb dX3_append_22 (by decide) ?_
  refine lv_iload_n hx hb dX3_append_26 rfl (lv_at hl 3 rfl) ?_
  refine g_callS (As := [.int (nI ro)]) (rest := [.int (nI 1), .ref (ad 69)]) ⟨hx, hb, hml, hown, hw⟩ (mX3_isRow l D cT n ad A hD G (nI ro)) (va_cwS 1 hw (gWS wm_X3_59 wst_X3_isRow wini_X3 wc_X3_isRow) rfl rfl rfl (by decide +kernel) ⟨Nat.le_of_ble_eq_true rfl, Nat.le_of_ble_eq_true rfl⟩) hK hE hA hP hS rfl hl.1 (lv_room (Nat.le_of_ble_eq_true rfl)) dX3_append_27 ⟨Nat.le_of_ble_eq_true rfl, Nat.le_of_ble_eq_true rfl⟩ (fun v_8 G_7 H locs hp hP hS => ?_)
  obtain ⟨hv9, hg9⟩ := hp
  subst hv9
  rw [hg9] at hP
  refine t_eqi (nI 1) (congrArg nI (if_neg (ix_ok (by omega) (by decide)))) ?_
  refine lv_iconst (v := nI 1) hx hb dX3_append_30 (by decide) ?_
  refine g_callV (As := [.int (nI 1), .int (nI 1), .int (nI 1)]) (rest := []) ⟨hx, hb, hml, hown, hw⟩ (mX3_can l D cT n ad A hD G hn th 1 1 1 (by decide) (by decide) (by decide) hC.1) (cwV 3 hw (gWV wm_X3_63 wi_X3_can wse_X3_can wini_X3 wc_X3_can) rfl rfl rfl (by decide +kernel) ⟨Nat.le_of_ble_eq_true rfl, Nat.le_of_ble_eq_true rfl⟩) hK hE hA hP hS (k := 69) (by omega) hC.1 rfl rfl hl.1 (lv_room (Nat.le_of_ble_eq_true rfl)) dX3_append_31 ⟨Nat.le_of_ble_eq_true rfl, Nat.le_of_ble_eq_true rfl⟩ (fun v_10 G_9 H locs hp hP hS => ?_)
  obtain ⟨rfl, hg_G_9, ho_G_9⟩ := hp
  have hc_11 : G_9 69 = .inr (5, [.ref (ad 70), .ref (ad 86), .ref (ad 90), .ref (ad 97), .ref (ad 98), .ref (ad 99), .ref (ad 106), .ref (ad 113), .int (nI 0)]) := hg_G_9
  have hc_12 : G_9 70 = aQ (cT 10) 3 (q3 ad) := (ho_G_9 _ (by omega)).trans hC.2.1
  have hc_13 : G_9 86 = aQ (cT 8) 3 (qS ad) := (ho_G_9 _ (by omega)).trans hC.2.2.2.2.1
  have hc_14 : G_9 90 = aQ (cT 7) 6 (qP ad) := (ho_G_9 _ (by omega)).trans hC.2.2.2.2.2.2.1
  have hc_15 : G_9 97 = aI cT 6 zf := (ho_G_9 _ (by omega)).trans hC.2.2.2.2.2.2.2.2.1
  have hc_16 : G_9 98 = aZ cT 6 xf := (ho_G_9 _ (by omega)).trans hC.2.2.2.2.2.2.2.2.2.1
  have hc_17 : G_9 99 = aQ (cT 9) 6 (qK ad) := (ho_G_9 _ (by omega)).trans hC.2.2.2.2.2.2.2.2.2.2.1
  have hc_18 : G_9 106 = aQ (cT 8) 6 (qL ad) := (ho_G_9 _ (by omega)).trans hC.2.2.2.2.2.2.2.2.2.2.2.2.1
  have hc_19 : G_9 113 = aI cT 6 mf := (ho_G_9 _ (by omega)).trans hC.2.2.2.2.2.2.2.2.2.2.2.2.2.2.1
  have hc_20 : G_9 (71 + 5 * q) = aQ (cT 7) 4 (q4 ad q) := (ho_G_9 _ (by omega)).trans (hC.2.2.1 q (by omega))
  have hc_21 : G_9 (87 + q) = aI cT 4 (sf q) := (ho_G_9 _ (by omega)).trans (hC.2.2.2.2.2.1 q (by omega))
  have hc_22 : G_9 (72 + 5 * q + ro) = aJ cT 48 (rf q ro) := (ho_G_9 _ (by omega)).trans (hC.2.2.2.1 q (by omega) ro (by omega))
  have hfr_23 : ∀ j, (j ≠ 69 ∧ j ≠ 72 + 5 * q + ro ∧ j ≠ 87 + q) → G_9 j = G j := fun j hj => (ho_G_9 j (by omega)).trans (rfl)
  refine t_eqi (nI 1) rfl ?_
  refine t_if_eq (tgt := 65) hx hb dX3_append_34 (by decide) (by omega) (fun c_24 => absurd c_24 (by omega)) (fun c_24 => ?_)
  refine lv_aload_n hx hb dX3_append_37 rfl (lv_at hl 1 rfl) ?_
  refine lv_iconst (v := nI 1) hx hb dX3_append_38 (by decide) ?_
  refine lv_iconst (v := nI 1) hx hb dX3_append_39 (by decide) ?_
  refine lv_aload_n hx hb dX3_append_40 rfl (lv_at hl 1 rfl) ?_
  refine g_get (C := RX3) (T := TX3) (N := 9) hx hb hw inX3 hown hK hP (i := 69) (by omega) hc_11 rfl 1 (by decide) (hw _ wf_X3_16) rfl dX3_append_41 ?_
  refine lv_iload hx hb dX3_append_44 (lv_at hl 0 rfl) ?_
  refine g_aald hx hb hK hP 8 (i := 86) (by omega) hc_13 rfl rfl (k := (ad (87 + q))) (by omega) (by omega) (qS_at (by omega)) dX3_append_46 ?_
  refine lv_iload_n hx hb dX3_append_47 rfl (lv_at hl 3 rfl) ?_
  refine g_iald hx hb hK hP (i := (87 + q)) (by omega) hc_21 (by omega) (by omega) dX3_append_48 ?_
  refine lv_bipush (v := nI 48) hx hb dX3_append_49 (by decide) ?_
  refine t_icmp_ge (tgt := 58) hx hb dX3_append_51 (by decide) (by omega) (by omega) (fun c_25 => ?_) (fun c_25 => ?_)
  · exfalso; omega
  · skip
    refine lv_iconst (v := nI 1) hx hb dX3_append_54 (by decide) ?_
    refine lv_goto (tgt := 59) hx hb dX3_append_55 (by decide) ?_
    refine g_callV (As := [.int (nI 1), .int (nI 1), .int (nI 1)]) (rest := []) ⟨hx, hb, hml, hown, hw⟩ (mX3_can l D cT n ad A hD G_9 hn 0 1 1 1 (by decide) (by decide) (by decide) hc_11) (cwV 3 hw (gWV wm_X3_63 wi_X3_can wse_X3_can wini_X3 wc_X3_can) rfl rfl rfl (by decide +kernel) ⟨Nat.le_of_ble_eq_true rfl, Nat.le_of_ble_eq_true rfl⟩) hK hE hA hP hS (k := 69) (by omega) hc_11 rfl rfl hl.1 (lv_room (Nat.le_of_ble_eq_true rfl)) dX3_append_59 ⟨Nat.le_of_ble_eq_true rfl, Nat.le_of_ble_eq_true rfl⟩ (fun v_27 G_26 H locs hp hP hS => ?_)
    obtain ⟨rfl, hg_G_26, ho_G_26⟩ := hp
    have hc_28 : G_26 69 = .inr (5, [.ref (ad 70), .ref (ad 86), .ref (ad 90), .ref (ad 97), .ref (ad 98), .ref (ad 99), .ref (ad 106), .ref (ad 113), .int (nI 0)]) := hg_G_26
    have hc_29 : G_26 70 = aQ (cT 10) 3 (q3 ad) := (ho_G_26 _ (by omega)).trans hc_12
    have hc_30 : G_26 86 = aQ (cT 8) 3 (qS ad) := (ho_G_26 _ (by omega)).trans hc_13
    have hc_31 : G_26 90 = aQ (cT 7) 6 (qP ad) := (ho_G_26 _ (by omega)).trans hc_14
    have hc_32 : G_26 97 = aI cT 6 zf := (ho_G_26 _ (by omega)).trans hc_15
    have hc_33 : G_26 98 = aZ cT 6 xf := (ho_G_26 _ (by omega)).trans hc_16
    have hc_34 : G_26 99 = aQ (cT 9) 6 (qK ad) := (ho_G_26 _ (by omega)).trans hc_17
    have hc_35 : G_26 106 = aQ (cT 8) 6 (qL ad) := (ho_G_26 _ (by omega)).trans hc_18
    have hc_36 : G_26 113 = aI cT 6 mf := (ho_G_26 _ (by omega)).trans hc_19
    have hc_37 : G_26 (71 + 5 * q) = aQ (cT 7) 4 (q4 ad q) := (ho_G_26 _ (by omega)).trans hc_20
    have hc_38 : G_26 (87 + q) = aI cT 4 (sf q) := (ho_G_26 _ (by omega)).trans hc_21
    have hc_39 : G_26 (72 + 5 * q + ro) = aJ cT 48 (rf q ro) := (ho_G_26 _ (by omega)).trans hc_22
    have hfr_40 : ∀ j, (j ≠ 69 ∧ j ≠ 72 + 5 * q + ro ∧ j ≠ 87 + q) → G_26 j = G j := fun j hj => (ho_G_26 j (by omega)).trans (hfr_23 j hj)
    refine t_eqi (nI 1) rfl ?_
    refine t_if_ne (tgt := 67) hx hb dX3_append_62 (by decide) (by omega) (fun c_41 => ?_) (fun c_41 => absurd c_41 (by omega))
    refine lv_aload_n hx hb dX3_append_67 rfl (lv_at hl 1 rfl) ?_
    refine g_get (C := RX3) (T := TX3) (N := 9) hx hb hw inX3 hown hK hP (i := 69) (by omega) hc_28 rfl 0 (by decide) (hw _ wf_X3_11) rfl dX3_append_68 ?_
    refine lv_iload hx hb dX3_append_71 (lv_at hl 0 rfl) ?_
    refine g_aald hx hb hK hP 10 (i := 70) (by omega) hc_29 rfl rfl (k := (ad (71 + 5 * q))) (by omega) (by omega) (q3_at (by omega)) dX3_append_73 ?_
    refine lv_iload_n hx hb dX3_append_74 rfl (lv_at hl 3 rfl) ?_
    refine g_aald hx hb hK hP 7 (i := (71 + 5 * q)) (by omega) hc_37 rfl rfl (k := (ad (72 + 5 * q + ro))) (by omega) (by omega) (q4_at (by omega)) dX3_append_75 ?_
    refine lv_aload_n hx hb dX3_append_76 rfl (lv_at hl 1 rfl) ?_
    refine g_get (C := RX3) (T := TX3) (N := 9) hx hb hw inX3 hown hK hP (i := 69) (by omega) hc_28 rfl 1 (by decide) (hw _ wf_X3_16) rfl dX3_append_77 ?_
    refine lv_iload hx hb dX3_append_80 (lv_at hl 0 rfl) ?_
    refine g_aald hx hb hK hP 8 (i := 86) (by omega) hc_30 rfl rfl (k := (ad (87 + q))) (by omega) (by omega) (qS_at (by omega)) dX3_append_82 ?_
    refine lv_iload_n hx hb dX3_append_83 rfl (lv_at hl 3 rfl) ?_
    refine g_iald hx hb hK hP (i := (87 + q)) (by omega) hc_38 (by omega) (by omega) dX3_append_84 ?_
    refine lv_lload_n hx hb dX3_append_85 rfl (lv_at hl 4 rfl) ?_
    refine g_last hx hb hK hP hD hS (i := (72 + 5 * q + ro)) (by omega) hc_39 (by omega) (by omega) dX3_append_86 (fun G_42 H locs hg_G_42 ho_G_42 hP hS => ?_)
    have hc_43 : G_42 69 = .inr (5, [.ref (ad 70), .ref (ad 86), .ref (ad 90), .ref (ad 97), .ref (ad 98), .ref (ad 99), .ref (ad 106), .ref (ad 113), .int (nI 0)]) := (ho_G_42 _ (by omega)).trans hc_28
    have hc_44 : G_42 70 = aQ (cT 10) 3 (q3 ad) := (ho_G_42 _ (by omega)).trans hc_29
    have hc_45 : G_42 86 = aQ (cT 8) 3 (qS ad) := (ho_G_42 _ (by omega)).trans hc_30
    have hc_46 : G_42 90 = aQ (cT 7) 6 (qP ad) := (ho_G_42 _ (by omega)).trans hc_31
    have hc_47 : G_42 97 = aI cT 6 zf := (ho_G_42 _ (by omega)).trans hc_32
    have hc_48 : G_42 98 = aZ cT 6 xf := (ho_G_42 _ (by omega)).trans hc_33
    have hc_49 : G_42 99 = aQ (cT 9) 6 (qK ad) := (ho_G_42 _ (by omega)).trans hc_34
    have hc_50 : G_42 106 = aQ (cT 8) 6 (qL ad) := (ho_G_42 _ (by omega)).trans hc_35
    have hc_51 : G_42 113 = aI cT 6 mf := (ho_G_42 _ (by omega)).trans hc_36
    have hc_52 : G_42 (71 + 5 * q) = aQ (cT 7) 4 (q4 ad q) := (ho_G_42 _ (by omega)).trans hc_37
    have hc_53 : G_42 (87 + q) = aI cT 4 (sf q) := (ho_G_42 _ (by omega)).trans hc_38
    have hc_54 : G_42 (72 + 5 * q + ro) = aJ cT 48 (va_up (rf q ro) ((sf q) ro) z) := hg_G_42
    have hfr_55 : ∀ j, (j ≠ 69 ∧ j ≠ 72 + 5 * q + ro ∧ j ≠ 87 + q) → G_42 j = G j := fun j hj => (ho_G_42 j (by omega)).trans (hfr_40 j hj)
    refine lv_aload_n hx hb dX3_append_87 rfl (lv_at hl 1 rfl) ?_
    refine g_get (C := RX3) (T := TX3) (N := 9) hx hb hw inX3 hown hK hP (i := 69) (by omega) hc_43 rfl 1 (by decide) (hw _ wf_X3_16) rfl dX3_append_88 ?_
    refine lv_iload hx hb dX3_append_91 (lv_at hl 0 rfl) ?_
    refine g_aald hx hb hK hP 8 (i := 86) (by omega) hc_45 rfl rfl (k := (ad (87 + q))) (by omega) (by omega) (qS_at (by omega)) dX3_append_93 ?_
    refine lv_iload_n hx hb dX3_append_94 rfl (lv_at hl 3 rfl) ?_
    refine lv_dup2_11 hx hb dX3_append_95 rfl rfl ?_
    refine g_iald hx hb hK hP (i := (87 + q)) (by omega) hc_53 (by omega) (by omega) dX3_append_96 ?_
    refine lv_iconst (v := nI 1) hx hb dX3_append_97 (by decide) ?_
    refine lv_iadd hx hb dX3_append_98 ?_
    refine t_eqi (nI (((sf q) ro) + 1)) (nI_add ((sf q) ro) 1) ?_
    refine g_iast hx hb hK hP hD hS (i := (87 + q)) (by omega) hc_53 (by omega) (by omega) dX3_append_99 (fun G_56 H locs hg_G_56 ho_G_56 hP hS => ?_)
    have hc_57 : G_56 69 = .inr (5, [.ref (ad 70), .ref (ad 86), .ref (ad 90), .ref (ad 97), .ref (ad 98), .ref (ad 99), .ref (ad 106), .ref (ad 113), .int (nI 0)]) := (ho_G_56 _ (by omega)).trans hc_43
    have hc_58 : G_56 70 = aQ (cT 10) 3 (q3 ad) := (ho_G_56 _ (by omega)).trans hc_44
    have hc_59 : G_56 86 = aQ (cT 8) 3 (qS ad) := (ho_G_56 _ (by omega)).trans hc_45
    have hc_60 : G_56 90 = aQ (cT 7) 6 (qP ad) := (ho_G_56 _ (by omega)).trans hc_46
    have hc_61 : G_56 97 = aI cT 6 zf := (ho_G_56 _ (by omega)).trans hc_47
    have hc_62 : G_56 98 = aZ cT 6 xf := (ho_G_56 _ (by omega)).trans hc_48
    have hc_63 : G_56 99 = aQ (cT 9) 6 (qK ad) := (ho_G_56 _ (by omega)).trans hc_49
    have hc_64 : G_56 106 = aQ (cT 8) 6 (qL ad) := (ho_G_56 _ (by omega)).trans hc_50
    have hc_65 : G_56 113 = aI cT 6 mf := (ho_G_56 _ (by omega)).trans hc_51
    have hc_66 : G_56 (71 + 5 * q) = aQ (cT 7) 4 (q4 ad q) := (ho_G_56 _ (by omega)).trans hc_52
    have hc_67 : G_56 (87 + q) = aI cT 4 (va_up (sf q) ro (((sf q) ro) + 1)) := hg_G_56
    have hc_68 : G_56 (72 + 5 * q + ro) = aJ cT 48 (va_up (rf q ro) ((sf q) ro) z) := (ho_G_56 _ (by omega)).trans hc_54
    have hfr_69 : ∀ j, (j ≠ 69 ∧ j ≠ 72 + 5 * q + ro ∧ j ≠ 87 + q) → G_56 j = G j := fun j hj => (ho_G_56 j (by omega)).trans (hfr_55 j hj)
    refine lv_aload_n hx hb dX3_append_100 rfl (lv_at hl 1 rfl) ?_
    refine g_get (C := RX3) (T := TX3) (N := 9) hx hb hw inX3 hown hK hP (i := 69) (by omega) hc_57 rfl 1 (by decide) (hw _ wf_X3_16) rfl dX3_append_101 ?_
    refine lv_iload hx hb dX3_append_104 (lv_at hl 0 rfl) ?_
    refine g_aald hx hb hK hP 8 (i := 86) (by omega) hc_59 rfl rfl (k := (ad (87 + q))) (by omega) (by omega) (qS_at (by omega)) dX3_append_106 ?_
    refine lv_iload_n hx hb dX3_append_107 rfl (lv_at hl 3 rfl) ?_
    refine g_iald hx hb hK hP (i := (87 + q)) (by omega) hc_67 (by omega) (by omega) dX3_append_108 ?_
    refine g_ret hQ hx hb hr hlocks rfl hP hS (⟨⟨by rw [va_up_self, hsz], MW.row hC hMA hq hro hc_57 hc_68 hc_67 (fun j9 _ _ a b c => hfr_69 j9 ⟨a, b, c⟩) (by rw [va_up_self, hsz]) (fun k hk => va_up_ne _ _ hk) (up_agree hrv hsz)⟩, fun j hj => hfr_69 j (by omega)⟩) (Nat.le_of_ble_eq_true rfl) (Nat.le_of_ble_eq_true rfl) dX3_append_109

set_option maxHeartbeats 4000000 in
set_option maxRecDepth 100000 in
theorem mX3_append_no (l : Launch) (D : va_G) (cT : Nat → ClassId) (n : Nat) (ad : Nat → Nat) (A : Nat → Prop) (hD : ∀ G, va_D A (gw n ad G)) (G : Nat → va_E) (hn : 114 ≤ n) (σ : TY) (hI : YI σ) (th : Nat) (hM : MW cT ad G σ th) (ch : Nat) (hch : ch < 65536) (x : Int32) (z : Int64) (E : String) (hpx : (¬ nmOK ch z ∧ E = xIA) ∨ (nmOK ch z ∧ (pxRow ch x E ∨ onR ch x (fun r => (σ.1 r).1 = 48 ∧ E = xIS)))) : Met l yX3_append (wA yX3_append cX3_append 6 (some .int)) ({ frames := 1, cells := 0, slots := 0, locals := 23 } : Room) (PG D cT n ad A G [.ref (ad 69), .int (nI ch), .int x, .long z]) (QG D n ad A (fun v G1 => ((∃ z, v = some (.int z)) ∧ MW cT ad G1 σ (cd [xIA, xIO, xIS] E)) ∧ ∀ j, (j < 69 ∨ 114 ≤ j) → G1 j = G j)) 0 0 A := by
  refine Met.ofG (cc := cX3_append) (maxL := 6) (ret := (some .int)) (by decide) (Nat.le_of_ble_eq_true rfl) ?_
  intro p e s m args below meth c Q hQ hx hb hr hml hlocks hown hw hP hK hE hA hS ls hl
  have hl : lv_has ls 6 [(0, .ref (ad 69)), (1, .int (nI ch)), (2, .int x), (3, .long z)] := hl
  obtain ⟨rf, sf, pf, zf, xf, kf, lf, mf, hC, hMA⟩ := hM
  rcases hpx with ⟨hz, rfl⟩ | ⟨hz, hpx⟩
  · skip
    rcases Decidable.em (kdx ch = 3) with hkd | hkd
    · skip
      rcases ix_cases x (N := 4) (by decide) with hrb | ⟨ro, hro, rfl⟩
      · skip
        refine lv_iload_n hx hb dX3_append_0 rfl (lv_at hl 1 rfl) ?_
        refine g_callS (As := [.int (nI ch)]) (rest := []) ⟨hx, hb, hml, hown, hw⟩ (mX3_kind l D cT n ad A hD G ch (by omega)) (va_cwS 1 hw (gWS wm_X3_51 wst_X3_kind wini_X3 wc_X3_kind) rfl rfl rfl (by decide +kernel) ⟨Nat.le_of_ble_eq_true rfl, Nat.le_of_ble_eq_true rfl⟩) hK hE hA hP hS rfl hl.1 (lv_room (Nat.le_of_ble_eq_true rfl)) dX3_append_1 ⟨Nat.le_of_ble_eq_true rfl, Nat.le_of_ble_eq_true rfl⟩ (fun v_2 G_1 H locs hp hP hS => ?_)
        obtain ⟨hv9, hg9⟩ := hp
        subst hv9
        rw [hg9] at hP
        refine t_eqi (-1) (if_pos hkd) ?_
        refine lv_istore (lv' := [(5, .int (-1)), (0, .ref (ad 69)), (1, .int (nI ch)), (2, .int x), (3, .long z)]) hx hb dX3_append_4 hl (by decide) rfl (fun ls hl => ?_)
        refine lv_aload_n hx hb dX3_append_6 rfl (lv_at hl 1 rfl) ?_
        refine lv_iload hx hb dX3_append_7 (lv_at hl 0 rfl) ?_
        refine lv_if_lt (tgt := 25) hx hb dX3_append_9 (by decide) (fun h9 => ?_) (fun h9 => absurd (by decide) h9)
        refine lv_iconst (v := nI 0) hx hb dX3_append_25 (by decide) ?_
        refine lv_iload_n hx hb dX3_append_26 rfl (lv_at hl 3 rfl) ?_
        refine g_callS (As := [.int x]) (rest := [.int (nI 0), .ref (ad 69)]) ⟨hx, hb, hml, hown, hw⟩ (mX3_isRow l D cT n ad A hD G x) (va_cwS 1 hw (gWS wm_X3_59 wst_X3_isRow wini_X3 wc_X3_isRow) rfl rfl rfl (by decide +kernel) ⟨Nat.le_of_ble_eq_true rfl, Nat.le_of_ble_eq_true rfl⟩) hK hE hA hP hS rfl hl.1 (lv_room (Nat.le_of_ble_eq_true rfl)) dX3_append_27 ⟨Nat.le_of_ble_eq_true rfl, Nat.le_of_ble_eq_true rfl⟩ (fun v_4 G_3 H locs hp hP hS => ?_)
        obtain ⟨hv9, hg9⟩ := hp
        subst hv9
        rw [hg9] at hP
        refine t_eqi (nI 0) (congrArg nI (if_pos hrb)) ?_
        refine lv_iconst (v := nI 1) hx hb dX3_append_30 (by decide) ?_
        refine g_callV (As := [.int (nI 0), .int (nI 0), .int (nI 1)]) (rest := []) ⟨hx, hb, hml, hown, hw⟩ (mX3_can l D cT n ad A hD G hn th 0 0 1 (by decide) (by decide) (by decide) hC.1) (cwV 3 hw (gWV wm_X3_63 wi_X3_can wse_X3_can wini_X3 wc_X3_can) rfl rfl rfl (by decide +kernel) ⟨Nat.le_of_ble_eq_true rfl, Nat.le_of_ble_eq_true rfl⟩) hK hE hA hP hS (k := 69) (by omega) hC.1 rfl rfl hl.1 (lv_room (Nat.le_of_ble_eq_true rfl)) dX3_append_31 ⟨Nat.le_of_ble_eq_true rfl, Nat.le_of_ble_eq_true rfl⟩ (fun v_6 G_5 H locs hp hP hS => ?_)
        obtain ⟨rfl, hg_G_5, ho_G_5⟩ := hp
        have hc_7 : G_5 69 = .inr (5, [.ref (ad 70), .ref (ad 86), .ref (ad 90), .ref (ad 97), .ref (ad 98), .ref (ad 99), .ref (ad 106), .ref (ad 113), .int (nI 1)]) := hg_G_5
        have hc_8 : G_5 70 = aQ (cT 10) 3 (q3 ad) := (ho_G_5 _ (by omega)).trans hC.2.1
        have hc_9 : G_5 86 = aQ (cT 8) 3 (qS ad) := (ho_G_5 _ (by omega)).trans hC.2.2.2.2.1
        have hc_10 : G_5 90 = aQ (cT 7) 6 (qP ad) := (ho_G_5 _ (by omega)).trans hC.2.2.2.2.2.2.1
        have hc_11 : G_5 97 = aI cT 6 zf := (ho_G_5 _ (by omega)).trans hC.2.2.2.2.2.2.2.2.1
        have hc_12 : G_5 98 = aZ cT 6 xf := (ho_G_5 _ (by omega)).trans hC.2.2.2.2.2.2.2.2.2.1
        have hc_13 : G_5 99 = aQ (cT 9) 6 (qK ad) := (ho_G_5 _ (by omega)).trans hC.2.2.2.2.2.2.2.2.2.2.1
        have hc_14 : G_5 106 = aQ (cT 8) 6 (qL ad) := (ho_G_5 _ (by omega)).trans hC.2.2.2.2.2.2.2.2.2.2.2.2.1
        have hc_15 : G_5 113 = aI cT 6 mf := (ho_G_5 _ (by omega)).trans hC.2.2.2.2.2.2.2.2.2.2.2.2.2.2.1
        have hfr_16 : ∀ j, (j ≠ 69) → G_5 j = G j := fun j hj => (ho_G_5 j (by omega)).trans (rfl)
        refine t_eqi (nI 0) rfl ?_
        refine t_if_eq (tgt := 65) hx hb dX3_append_34 (by decide) (by omega) (fun c_17 => ?_) (fun c_17 => absurd c_17 (by omega))
        refine lv_iconst (v := nI 0) hx hb dX3_append_65 (by decide) ?_
        refine g_ret hQ hx hb hr hlocks rfl hP hS (⟨⟨⟨_, rfl⟩, by rw [show cd [xIA, xIO, xIS] xIA = 1 from by decide +kernel]; exact MW.same hC hMA hc_7 (fun j9 _ _ hj9 => hfr_16 j9 hj9)⟩, fun j hj => hfr_16 j (by omega)⟩) (Nat.le_of_ble_eq_true rfl) (Nat.le_of_ble_eq_true rfl) dX3_append_66
      · skip
        refine lv_iload_n hx hb dX3_append_0 rfl (lv_at hl 1 rfl) ?_
        refine g_callS (As := [.int (nI ch)]) (rest := []) ⟨hx, hb, hml, hown, hw⟩ (mX3_kind l D cT n ad A hD G ch (by omega)) (va_cwS 1 hw (gWS wm_X3_51 wst_X3_kind wini_X3 wc_X3_kind) rfl rfl rfl (by decide +kernel) ⟨Nat.le_of_ble_eq_true rfl, Nat.le_of_ble_eq_true rfl⟩) hK hE hA hP hS rfl hl.1 (lv_room (Nat.le_of_ble_eq_true rfl)) dX3_append_1 ⟨Nat.le_of_ble_eq_true rfl, Nat.le_of_ble_eq_true rfl⟩ (fun v_19 G_18 H locs hp hP hS => ?_)
        obtain ⟨hv9, hg9⟩ := hp
        subst hv9
        rw [hg9] at hP
        refine t_eqi (-1) (if_pos hkd) ?_
        refine lv_istore (lv' := [(5, .int (-1)), (0, .ref (ad 69)), (1, .int (nI ch)), (2, .int (nI ro)), (3, .long z)]) hx hb dX3_append_4 hl (by decide) rfl (fun ls hl => ?_)
        refine lv_aload_n hx hb dX3_append_6 rfl (lv_at hl 1 rfl) ?_
        refine lv_iload hx hb dX3_append_7 (lv_at hl 0 rfl) ?_
        refine lv_if_lt (tgt := 25) hx hb dX3_append_9 (by decide) (fun h9 => ?_) (fun h9 => absurd (by decide) h9)
        refine lv_iconst (v := nI 0) hx hb dX3_append_25 (by decide) ?_
        refine lv_iload_n hx hb dX3_append_26 rfl (lv_at hl 3 rfl) ?_
        refine g_callS (As := [.int (nI ro)]) (rest := [.int (nI 0), .ref (ad 69)]) ⟨hx, hb, hml, hown, hw⟩ (mX3_isRow l D cT n ad A hD G (nI ro)) (va_cwS 1 hw (gWS wm_X3_59 wst_X3_isRow wini_X3 wc_X3_isRow) rfl rfl rfl (by decide +kernel) ⟨Nat.le_of_ble_eq_true rfl, Nat.le_of_ble_eq_true rfl⟩) hK hE hA hP hS rfl hl.1 (lv_room (Nat.le_of_ble_eq_true rfl)) dX3_append_27 ⟨Nat.le_of_ble_eq_true rfl, Nat.le_of_ble_eq_true rfl⟩ (fun v_21 G_20 H locs hp hP hS => ?_)
        obtain ⟨hv9, hg9⟩ := hp
        subst hv9
        rw [hg9] at hP
        refine t_eqi (nI 1) (congrArg nI (if_neg (ix_ok (by omega) (by decide)))) ?_
        refine lv_iconst (v := nI 1) hx hb dX3_append_30 (by decide) ?_
        refine g_callV (As := [.int (nI 0), .int (nI 1), .int (nI 1)]) (rest := []) ⟨hx, hb, hml, hown, hw⟩ (mX3_can l D cT n ad A hD G hn th 0 1 1 (by decide) (by decide) (by decide) hC.1) (cwV 3 hw (gWV wm_X3_63 wi_X3_can wse_X3_can wini_X3 wc_X3_can) rfl rfl rfl (by decide +kernel) ⟨Nat.le_of_ble_eq_true rfl, Nat.le_of_ble_eq_true rfl⟩) hK hE hA hP hS (k := 69) (by omega) hC.1 rfl rfl hl.1 (lv_room (Nat.le_of_ble_eq_true rfl)) dX3_append_31 ⟨Nat.le_of_ble_eq_true rfl, Nat.le_of_ble_eq_true rfl⟩ (fun v_23 G_22 H locs hp hP hS => ?_)
        obtain ⟨rfl, hg_G_22, ho_G_22⟩ := hp
        have hc_24 : G_22 69 = .inr (5, [.ref (ad 70), .ref (ad 86), .ref (ad 90), .ref (ad 97), .ref (ad 98), .ref (ad 99), .ref (ad 106), .ref (ad 113), .int (nI 1)]) := hg_G_22
        have hc_25 : G_22 70 = aQ (cT 10) 3 (q3 ad) := (ho_G_22 _ (by omega)).trans hC.2.1
        have hc_26 : G_22 86 = aQ (cT 8) 3 (qS ad) := (ho_G_22 _ (by omega)).trans hC.2.2.2.2.1
        have hc_27 : G_22 90 = aQ (cT 7) 6 (qP ad) := (ho_G_22 _ (by omega)).trans hC.2.2.2.2.2.2.1
        have hc_28 : G_22 97 = aI cT 6 zf := (ho_G_22 _ (by omega)).trans hC.2.2.2.2.2.2.2.2.1
        have hc_29 : G_22 98 = aZ cT 6 xf := (ho_G_22 _ (by omega)).trans hC.2.2.2.2.2.2.2.2.2.1
        have hc_30 : G_22 99 = aQ (cT 9) 6 (qK ad) := (ho_G_22 _ (by omega)).trans hC.2.2.2.2.2.2.2.2.2.2.1
        have hc_31 : G_22 106 = aQ (cT 8) 6 (qL ad) := (ho_G_22 _ (by omega)).trans hC.2.2.2.2.2.2.2.2.2.2.2.2.1
        have hc_32 : G_22 113 = aI cT 6 mf := (ho_G_22 _ (by omega)).trans hC.2.2.2.2.2.2.2.2.2.2.2.2.2.2.1
        have hfr_33 : ∀ j, (j ≠ 69) → G_22 j = G j := fun j hj => (ho_G_22 j (by omega)).trans (rfl)
        refine t_eqi (nI 0) rfl ?_
        refine t_if_eq (tgt := 65) hx hb dX3_append_34 (by decide) (by omega) (fun c_34 => ?_) (fun c_34 => absurd c_34 (by omega))
        refine lv_iconst (v := nI 0) hx hb dX3_append_65 (by decide) ?_
        refine g_ret hQ hx hb hr hlocks rfl hP hS (⟨⟨⟨_, rfl⟩, by rw [show cd [xIA, xIO, xIS] xIA = 1 from by decide +kernel]; exact MW.same hC hMA hc_24 (fun j9 _ _ hj9 => hfr_33 j9 hj9)⟩, fun j hj => hfr_33 j (by omega)⟩) (Nat.le_of_ble_eq_true rfl) (Nat.le_of_ble_eq_true rfl) dX3_append_66
    · skip
      obtain ⟨q, hkq⟩ : ∃ q, kdx ch = q := ⟨_, rfl⟩
      have hkl9 := kdx_le ch
      have hq : q < 3 := by omega
      rcases ix_cases x (N := 4) (by decide) with hrb | ⟨ro, hro, rfl⟩
      · skip
        refine lv_iload_n hx hb dX3_append_0 rfl (lv_at hl 1 rfl) ?_
        refine g_callS (As := [.int (nI ch)]) (rest := []) ⟨hx, hb, hml, hown, hw⟩ (mX3_kind l D cT n ad A hD G ch (by omega)) (va_cwS 1 hw (gWS wm_X3_51 wst_X3_kind wini_X3 wc_X3_kind) rfl rfl rfl (by decide +kernel) ⟨Nat.le_of_ble_eq_true rfl, Nat.le_of_ble_eq_true rfl⟩) hK hE hA hP hS rfl hl.1 (lv_room (Nat.le_of_ble_eq_true rfl)) dX3_append_1 ⟨Nat.le_of_ble_eq_true rfl, Nat.le_of_ble_eq_true rfl⟩ (fun v_36 G_35 H locs hp hP hS => ?_)
        obtain ⟨hv9, hg9⟩ := hp
        subst hv9
        rw [hg9] at hP
        refine t_eqi (nI q) ((if_neg (by omega)).trans (congrArg nI hkq)) ?_
        refine lv_istore (lv' := [(5, .int (nI q)), (0, .ref (ad 69)), (1, .int (nI ch)), (2, .int x), (3, .long z)]) hx hb dX3_append_4 hl (by decide) rfl (fun ls hl => ?_)
        refine lv_aload_n hx hb dX3_append_6 rfl (lv_at hl 1 rfl) ?_
        refine lv_iload hx hb dX3_append_7 (lv_at hl 0 rfl) ?_
        refine t_if_lt (tgt := 25) hx hb dX3_append_9 (by decide) (by omega) ?_
        refine lv_iload hx hb dX3_append_12 (lv_at hl 0 rfl) ?_
        refine lv_lload_n hx hb dX3_append_14 rfl (lv_at hl 4 rfl) ?_
        refine g_callS (As := [.int (nI q), .long z]) (rest := [.ref (ad 69)]) ⟨hx, hb, hml, hown, hw⟩ (mX3_isNumber l D cT n ad A hD G q (by omega) z) (va_cwS 2 hw (gWS wm_X3_55 wst_X3_isNumber wini_X3 wc_X3_isNumber) rfl rfl rfl (by decide +kernel) ⟨Nat.le_of_ble_eq_true rfl, Nat.le_of_ble_eq_true rfl⟩) hK hE hA hP hS rfl hl.1 (lv_room (Nat.le_of_ble_eq_true rfl)) dX3_append_15 ⟨Nat.le_of_ble_eq_true rfl, Nat.le_of_ble_eq_true rfl⟩ (fun v_39 G_38 H locs hp hP hS => ?_)
        obtain ⟨hv9, hg9⟩ := hp
        subst hv9
        rw [hg9] at hP
        refine t_eqi (nI 0) (congrArg nI (if_neg (fun q9 => hz ((nm_q hkq hq).mpr q9)))) ?_
        refine t_if_eq (tgt := 25) hx hb dX3_append_18 (by decide) (by omega) (fun c_40 => ?_) (fun c_40 => absurd c_40 (by omega))
        refine lv_iconst (v := nI 0) hx hb dX3_append_25 (by decide) ?_
        refine lv_iload_n hx hb dX3_append_26 rfl (lv_at hl 3 rfl) ?_
        refine g_callS (As := [.int x]) (rest := [.int (nI 0), .ref (ad 69)]) ⟨hx, hb, hml, hown, hw⟩ (mX3_isRow l D cT n ad A hD G x) (va_cwS 1 hw (gWS wm_X3_59 wst_X3_isRow wini_X3 wc_X3_isRow) rfl rfl rfl (by decide +kernel) ⟨Nat.le_of_ble_eq_true rfl, Nat.le_of_ble_eq_true rfl⟩) hK hE hA hP hS rfl hl.1 (lv_room (Nat.le_of_ble_eq_true rfl)) dX3_append_27 ⟨Nat.le_of_ble_eq_true rfl, Nat.le_of_ble_eq_true rfl⟩ (fun v_42 G_41 H locs hp hP hS => ?_)
        obtain ⟨hv9, hg9⟩ := hp
        subst hv9
        rw [hg9] at hP
        refine t_eqi (nI 0) (congrArg nI (if_pos hrb)) ?_
        refine lv_iconst (v := nI 1) hx hb dX3_append_30 (by decide) ?_
        refine g_callV (As := [.int (nI 0), .int (nI 0), .int (nI 1)]) (rest := []) ⟨hx, hb, hml, hown, hw⟩ (mX3_can l D cT n ad A hD G hn th 0 0 1 (by decide) (by decide) (by decide) hC.1) (cwV 3 hw (gWV wm_X3_63 wi_X3_can wse_X3_can wini_X3 wc_X3_can) rfl rfl rfl (by decide +kernel) ⟨Nat.le_of_ble_eq_true rfl, Nat.le_of_ble_eq_true rfl⟩) hK hE hA hP hS (k := 69) (by omega) hC.1 rfl rfl hl.1 (lv_room (Nat.le_of_ble_eq_true rfl)) dX3_append_31 ⟨Nat.le_of_ble_eq_true rfl, Nat.le_of_ble_eq_true rfl⟩ (fun v_44 G_43 H locs hp hP hS => ?_)
        obtain ⟨rfl, hg_G_43, ho_G_43⟩ := hp
        have hc_45 : G_43 69 = .inr (5, [.ref (ad 70), .ref (ad 86), .ref (ad 90), .ref (ad 97), .ref (ad 98), .ref (ad 99), .ref (ad 106), .ref (ad 113), .int (nI 1)]) := hg_G_43
        have hc_46 : G_43 70 = aQ (cT 10) 3 (q3 ad) := (ho_G_43 _ (by omega)).trans hC.2.1
        have hc_47 : G_43 86 = aQ (cT 8) 3 (qS ad) := (ho_G_43 _ (by omega)).trans hC.2.2.2.2.1
        have hc_48 : G_43 90 = aQ (cT 7) 6 (qP ad) := (ho_G_43 _ (by omega)).trans hC.2.2.2.2.2.2.1
        have hc_49 : G_43 97 = aI cT 6 zf := (ho_G_43 _ (by omega)).trans hC.2.2.2.2.2.2.2.2.1
        have hc_50 : G_43 98 = aZ cT 6 xf := (ho_G_43 _ (by omega)).trans hC.2.2.2.2.2.2.2.2.2.1
        have hc_51 : G_43 99 = aQ (cT 9) 6 (qK ad) := (ho_G_43 _ (by omega)).trans hC.2.2.2.2.2.2.2.2.2.2.1
        have hc_52 : G_43 106 = aQ (cT 8) 6 (qL ad) := (ho_G_43 _ (by omega)).trans hC.2.2.2.2.2.2.2.2.2.2.2.2.1
        have hc_53 : G_43 113 = aI cT 6 mf := (ho_G_43 _ (by omega)).trans hC.2.2.2.2.2.2.2.2.2.2.2.2.2.2.1
        have hfr_54 : ∀ j, (j ≠ 69) → G_43 j = G j := fun j hj => (ho_G_43 j (by omega)).trans (rfl)
        refine t_eqi (nI 0) rfl ?_
        refine t_if_eq (tgt := 65) hx hb dX3_append_34 (by decide) (by omega) (fun c_55 => ?_) (fun c_55 => absurd c_55 (by omega))
        refine lv_iconst (v := nI 0) hx hb dX3_append_65 (by decide) ?_
        refine g_ret hQ hx hb hr hlocks rfl hP hS (⟨⟨⟨_, rfl⟩, by rw [show cd [xIA, xIO, xIS] xIA = 1 from by decide +kernel]; exact MW.same hC hMA hc_45 (fun j9 _ _ hj9 => hfr_54 j9 hj9)⟩, fun j hj => hfr_54 j (by omega)⟩) (Nat.le_of_ble_eq_true rfl) (Nat.le_of_ble_eq_true rfl) dX3_append_66
      · skip
        obtain ⟨hsz, hrv⟩ := hMA.1 q (by omega) ro (by omega)
        have hrc := hI.1 (4 * q + ro) (by omega)
        refine lv_iload_n hx hb dX3_append_0 rfl (lv_at hl 1 rfl) ?_
        refine g_callS (As := [.int (nI ch)]) (rest := []) ⟨hx, hb, hml, hown, hw⟩ (mX3_kind l D cT n ad A hD G ch (by omega)) (va_cwS 1 hw (gWS wm_X3_51 wst_X3_kind wini_X3 wc_X3_kind) rfl rfl rfl (by decide +kernel) ⟨Nat.le_of_ble_eq_true rfl, Nat.le_of_ble_eq_true rfl⟩) hK hE hA hP hS rfl hl.1 (lv_room (Nat.le_of_ble_eq_true rfl)) dX3_append_1 ⟨Nat.le_of_ble_eq_true rfl, Nat.le_of_ble_eq_true rfl⟩ (fun v_57 G_56 H locs hp hP hS => ?_)
        obtain ⟨hv9, hg9⟩ := hp
        subst hv9
        rw [hg9] at hP
        refine t_eqi (nI q) ((if_neg (by omega)).trans (congrArg nI hkq)) ?_
        refine lv_istore (lv' := [(5, .int (nI q)), (0, .ref (ad 69)), (1, .int (nI ch)), (2, .int (nI ro)), (3, .long z)]) hx hb dX3_append_4 hl (by decide) rfl (fun ls hl => ?_)
        refine lv_aload_n hx hb dX3_append_6 rfl (lv_at hl 1 rfl) ?_
        refine lv_iload hx hb dX3_append_7 (lv_at hl 0 rfl) ?_
        refine t_if_lt (tgt := 25) hx hb dX3_append_9 (by decide) (by omega) ?_
        refine lv_iload hx hb dX3_append_12 (lv_at hl 0 rfl) ?_
        refine lv_lload_n hx hb dX3_append_14 rfl (lv_at hl 4 rfl) ?_
        refine g_callS (As := [.int (nI q), .long z]) (rest := [.ref (ad 69)]) ⟨hx, hb, hml, hown, hw⟩ (mX3_isNumber l D cT n ad A hD G q (by omega) z) (va_cwS 2 hw (gWS wm_X3_55 wst_X3_isNumber wini_X3 wc_X3_isNumber) rfl rfl rfl (by decide +kernel) ⟨Nat.le_of_ble_eq_true rfl, Nat.le_of_ble_eq_true rfl⟩) hK hE hA hP hS rfl hl.1 (lv_room (Nat.le_of_ble_eq_true rfl)) dX3_append_15 ⟨Nat.le_of_ble_eq_true rfl, Nat.le_of_ble_eq_true rfl⟩ (fun v_60 G_59 H locs hp hP hS => ?_)
        obtain ⟨hv9, hg9⟩ := hp
        subst hv9
        rw [hg9] at hP
        refine t_eqi (nI 0) (congrArg nI (if_neg (fun q9 => hz ((nm_q hkq hq).mpr q9)))) ?_
        refine t_if_eq (tgt := 25) hx hb dX3_append_18 (by decide) (by omega) (fun c_61 => ?_) (fun c_61 => absurd c_61 (by omega))
        refine lv_iconst (v := nI 0) hx hb dX3_append_25 (by decide) ?_
        refine lv_iload_n hx hb dX3_append_26 rfl (lv_at hl 3 rfl) ?_
        refine g_callS (As := [.int (nI ro)]) (rest := [.int (nI 0), .ref (ad 69)]) ⟨hx, hb, hml, hown, hw⟩ (mX3_isRow l D cT n ad A hD G (nI ro)) (va_cwS 1 hw (gWS wm_X3_59 wst_X3_isRow wini_X3 wc_X3_isRow) rfl rfl rfl (by decide +kernel) ⟨Nat.le_of_ble_eq_true rfl, Nat.le_of_ble_eq_true rfl⟩) hK hE hA hP hS rfl hl.1 (lv_room (Nat.le_of_ble_eq_true rfl)) dX3_append_27 ⟨Nat.le_of_ble_eq_true rfl, Nat.le_of_ble_eq_true rfl⟩ (fun v_63 G_62 H locs hp hP hS => ?_)
        obtain ⟨hv9, hg9⟩ := hp
        subst hv9
        rw [hg9] at hP
        refine t_eqi (nI 1) (congrArg nI (if_neg (ix_ok (by omega) (by decide)))) ?_
        refine lv_iconst (v := nI 1) hx hb dX3_append_30 (by decide) ?_
        refine g_callV (As := [.int (nI 0), .int (nI 1), .int (nI 1)]) (rest := []) ⟨hx, hb, hml, hown, hw⟩ (mX3_can l D cT n ad A hD G hn th 0 1 1 (by decide) (by decide) (by decide) hC.1) (cwV 3 hw (gWV wm_X3_63 wi_X3_can wse_X3_can wini_X3 wc_X3_can) rfl rfl rfl (by decide +kernel) ⟨Nat.le_of_ble_eq_true rfl, Nat.le_of_ble_eq_true rfl⟩) hK hE hA hP hS (k := 69) (by omega) hC.1 rfl rfl hl.1 (lv_room (Nat.le_of_ble_eq_true rfl)) dX3_append_31 ⟨Nat.le_of_ble_eq_true rfl, Nat.le_of_ble_eq_true rfl⟩ (fun v_65 G_64 H locs hp hP hS => ?_)
        obtain ⟨rfl, hg_G_64, ho_G_64⟩ := hp
        have hc_66 : G_64 69 = .inr (5, [.ref (ad 70), .ref (ad 86), .ref (ad 90), .ref (ad 97), .ref (ad 98), .ref (ad 99), .ref (ad 106), .ref (ad 113), .int (nI 1)]) := hg_G_64
        have hc_67 : G_64 70 = aQ (cT 10) 3 (q3 ad) := (ho_G_64 _ (by omega)).trans hC.2.1
        have hc_68 : G_64 86 = aQ (cT 8) 3 (qS ad) := (ho_G_64 _ (by omega)).trans hC.2.2.2.2.1
        have hc_69 : G_64 90 = aQ (cT 7) 6 (qP ad) := (ho_G_64 _ (by omega)).trans hC.2.2.2.2.2.2.1
        have hc_70 : G_64 97 = aI cT 6 zf := (ho_G_64 _ (by omega)).trans hC.2.2.2.2.2.2.2.2.1
        have hc_71 : G_64 98 = aZ cT 6 xf := (ho_G_64 _ (by omega)).trans hC.2.2.2.2.2.2.2.2.2.1
        have hc_72 : G_64 99 = aQ (cT 9) 6 (qK ad) := (ho_G_64 _ (by omega)).trans hC.2.2.2.2.2.2.2.2.2.2.1
        have hc_73 : G_64 106 = aQ (cT 8) 6 (qL ad) := (ho_G_64 _ (by omega)).trans hC.2.2.2.2.2.2.2.2.2.2.2.2.1
        have hc_74 : G_64 113 = aI cT 6 mf := (ho_G_64 _ (by omega)).trans hC.2.2.2.2.2.2.2.2.2.2.2.2.2.2.1
        have hc_75 : G_64 (71 + 5 * q) = aQ (cT 7) 4 (q4 ad q) := (ho_G_64 _ (by omega)).trans (hC.2.2.1 q (by omega))
        have hc_76 : G_64 (87 + q) = aI cT 4 (sf q) := (ho_G_64 _ (by omega)).trans (hC.2.2.2.2.2.1 q (by omega))
        have hc_77 : G_64 (72 + 5 * q + ro) = aJ cT 48 (rf q ro) := (ho_G_64 _ (by omega)).trans (hC.2.2.2.1 q (by omega) ro (by omega))
        have hfr_78 : ∀ j, (j ≠ 69) → G_64 j = G j := fun j hj => (ho_G_64 j (by omega)).trans (rfl)
        refine t_eqi (nI 0) rfl ?_
        refine t_if_eq (tgt := 65) hx hb dX3_append_34 (by decide) (by omega) (fun c_79 => ?_) (fun c_79 => absurd c_79 (by omega))
        refine lv_iconst (v := nI 0) hx hb dX3_append_65 (by decide) ?_
        refine g_ret hQ hx hb hr hlocks rfl hP hS (⟨⟨⟨_, rfl⟩, by rw [show cd [xIA, xIO, xIS] xIA = 1 from by decide +kernel]; exact MW.same hC hMA hc_66 (fun j9 _ _ hj9 => hfr_78 j9 hj9)⟩, fun j hj => hfr_78 j (by omega)⟩) (Nat.le_of_ble_eq_true rfl) (Nat.le_of_ble_eq_true rfl) dX3_append_66
  · skip
    rcases hpx with hpx | ⟨q, ro, hq, hro, hkq, rfl, hfull, rfl⟩
    · skip
      rcases hpx with ⟨hkd, rfl⟩ | ⟨hk3, hrb, rfl⟩
      · skip
        rcases ix_cases x (N := 4) (by decide) with hrb | ⟨ro, hro, rfl⟩
        · skip
          refine lv_iload_n hx hb dX3_append_0 rfl (lv_at hl 1 rfl) ?_
          refine g_callS (As := [.int (nI ch)]) (rest := []) ⟨hx, hb, hml, hown, hw⟩ (mX3_kind l D cT n ad A hD G ch (by omega)) (va_cwS 1 hw (gWS wm_X3_51 wst_X3_kind wini_X3 wc_X3_kind) rfl rfl rfl (by decide +kernel) ⟨Nat.le_of_ble_eq_true rfl, Nat.le_of_ble_eq_true rfl⟩) hK hE hA hP hS rfl hl.1 (lv_room (Nat.le_of_ble_eq_true rfl)) dX3_append_1 ⟨Nat.le_of_ble_eq_true rfl, Nat.le_of_ble_eq_true rfl⟩ (fun v_81 G_80 H locs hp hP hS => ?_)
          obtain ⟨hv9, hg9⟩ := hp
          subst hv9
          rw [hg9] at hP
          refine t_eqi (-1) (if_pos hkd) ?_
          refine lv_istore (lv' := [(5, .int (-1)), (0, .ref (ad 69)), (1, .int (nI ch)), (2, .int x), (3, .long z)]) hx hb dX3_append_4 hl (by decide) rfl (fun ls hl => ?_)
          refine lv_aload_n hx hb dX3_append_6 rfl (lv_at hl 1 rfl) ?_
          refine lv_iload hx hb dX3_append_7 (lv_at hl 0 rfl) ?_
          refine lv_if_lt (tgt := 25) hx hb dX3_append_9 (by decide) (fun h9 => ?_) (fun h9 => absurd (by decide) h9)
          refine lv_iconst (v := nI 0) hx hb dX3_append_25 (by decide) ?_
          refine lv_iload_n hx hb dX3_append_26 rfl (lv_at hl 3 rfl) ?_
          refine g_callS (As := [.int x]) (rest := [.int (nI 0), .ref (ad 69)]) ⟨hx, hb, hml, hown, hw⟩ (mX3_isRow l D cT n ad A hD G x) (va_cwS 1 hw (gWS wm_X3_59 wst_X3_isRow wini_X3 wc_X3_isRow) rfl rfl rfl (by decide +kernel) ⟨Nat.le_of_ble_eq_true rfl, Nat.le_of_ble_eq_true rfl⟩) hK hE hA hP hS rfl hl.1 (lv_room (Nat.le_of_ble_eq_true rfl)) dX3_append_27 ⟨Nat.le_of_ble_eq_true rfl, Nat.le_of_ble_eq_true rfl⟩ (fun v_83 G_82 H locs hp hP hS => ?_)
          obtain ⟨hv9, hg9⟩ := hp
          subst hv9
          rw [hg9] at hP
          refine t_eqi (nI 0) (congrArg nI (if_pos hrb)) ?_
          refine lv_iconst (v := nI 1) hx hb dX3_append_30 (by decide) ?_
          refine g_callV (As := [.int (nI 0), .int (nI 0), .int (nI 1)]) (rest := []) ⟨hx, hb, hml, hown, hw⟩ (mX3_can l D cT n ad A hD G hn th 0 0 1 (by decide) (by decide) (by decide) hC.1) (cwV 3 hw (gWV wm_X3_63 wi_X3_can wse_X3_can wini_X3 wc_X3_can) rfl rfl rfl (by decide +kernel) ⟨Nat.le_of_ble_eq_true rfl, Nat.le_of_ble_eq_true rfl⟩) hK hE hA hP hS (k := 69) (by omega) hC.1 rfl rfl hl.1 (lv_room (Nat.le_of_ble_eq_true rfl)) dX3_append_31 ⟨Nat.le_of_ble_eq_true rfl, Nat.le_of_ble_eq_true rfl⟩ (fun v_85 G_84 H locs hp hP hS => ?_)
          obtain ⟨rfl, hg_G_84, ho_G_84⟩ := hp
          have hc_86 : G_84 69 = .inr (5, [.ref (ad 70), .ref (ad 86), .ref (ad 90), .ref (ad 97), .ref (ad 98), .ref (ad 99), .ref (ad 106), .ref (ad 113), .int (nI 1)]) := hg_G_84
          have hc_87 : G_84 70 = aQ (cT 10) 3 (q3 ad) := (ho_G_84 _ (by omega)).trans hC.2.1
          have hc_88 : G_84 86 = aQ (cT 8) 3 (qS ad) := (ho_G_84 _ (by omega)).trans hC.2.2.2.2.1
          have hc_89 : G_84 90 = aQ (cT 7) 6 (qP ad) := (ho_G_84 _ (by omega)).trans hC.2.2.2.2.2.2.1
          have hc_90 : G_84 97 = aI cT 6 zf := (ho_G_84 _ (by omega)).trans hC.2.2.2.2.2.2.2.2.1
          have hc_91 : G_84 98 = aZ cT 6 xf := (ho_G_84 _ (by omega)).trans hC.2.2.2.2.2.2.2.2.2.1
          have hc_92 : G_84 99 = aQ (cT 9) 6 (qK ad) := (ho_G_84 _ (by omega)).trans hC.2.2.2.2.2.2.2.2.2.2.1
          have hc_93 : G_84 106 = aQ (cT 8) 6 (qL ad) := (ho_G_84 _ (by omega)).trans hC.2.2.2.2.2.2.2.2.2.2.2.2.1
          have hc_94 : G_84 113 = aI cT 6 mf := (ho_G_84 _ (by omega)).trans hC.2.2.2.2.2.2.2.2.2.2.2.2.2.2.1
          have hfr_95 : ∀ j, (j ≠ 69) → G_84 j = G j := fun j hj => (ho_G_84 j (by omega)).trans (rfl)
          refine t_eqi (nI 0) rfl ?_
          refine t_if_eq (tgt := 65) hx hb dX3_append_34 (by decide) (by omega) (fun c_96 => ?_) (fun c_96 => absurd c_96 (by omega))
          refine lv_iconst (v := nI 0) hx hb dX3_append_65 (by decide) ?_
          refine g_ret hQ hx hb hr hlocks rfl hP hS (⟨⟨⟨_, rfl⟩, by rw [show cd [xIA, xIO, xIS] xIA = 1 from by decide +kernel]; exact MW.same hC hMA hc_86 (fun j9 _ _ hj9 => hfr_95 j9 hj9)⟩, fun j hj => hfr_95 j (by omega)⟩) (Nat.le_of_ble_eq_true rfl) (Nat.le_of_ble_eq_true rfl) dX3_append_66
        · skip
          refine lv_iload_n hx hb dX3_append_0 rfl (lv_at hl 1 rfl) ?_
          refine g_callS (As := [.int (nI ch)]) (rest := []) ⟨hx, hb, hml, hown, hw⟩ (mX3_kind l D cT n ad A hD G ch (by omega)) (va_cwS 1 hw (gWS wm_X3_51 wst_X3_kind wini_X3 wc_X3_kind) rfl rfl rfl (by decide +kernel) ⟨Nat.le_of_ble_eq_true rfl, Nat.le_of_ble_eq_true rfl⟩) hK hE hA hP hS rfl hl.1 (lv_room (Nat.le_of_ble_eq_true rfl)) dX3_append_1 ⟨Nat.le_of_ble_eq_true rfl, Nat.le_of_ble_eq_true rfl⟩ (fun v_98 G_97 H locs hp hP hS => ?_)
          obtain ⟨hv9, hg9⟩ := hp
          subst hv9
          rw [hg9] at hP
          refine t_eqi (-1) (if_pos hkd) ?_
          refine lv_istore (lv' := [(5, .int (-1)), (0, .ref (ad 69)), (1, .int (nI ch)), (2, .int (nI ro)), (3, .long z)]) hx hb dX3_append_4 hl (by decide) rfl (fun ls hl => ?_)
          refine lv_aload_n hx hb dX3_append_6 rfl (lv_at hl 1 rfl) ?_
          refine lv_iload hx hb dX3_append_7 (lv_at hl 0 rfl) ?_
          refine lv_if_lt (tgt := 25) hx hb dX3_append_9 (by decide) (fun h9 => ?_) (fun h9 => absurd (by decide) h9)
          refine lv_iconst (v := nI 0) hx hb dX3_append_25 (by decide) ?_
          refine lv_iload_n hx hb dX3_append_26 rfl (lv_at hl 3 rfl) ?_
          refine g_callS (As := [.int (nI ro)]) (rest := [.int (nI 0), .ref (ad 69)]) ⟨hx, hb, hml, hown, hw⟩ (mX3_isRow l D cT n ad A hD G (nI ro)) (va_cwS 1 hw (gWS wm_X3_59 wst_X3_isRow wini_X3 wc_X3_isRow) rfl rfl rfl (by decide +kernel) ⟨Nat.le_of_ble_eq_true rfl, Nat.le_of_ble_eq_true rfl⟩) hK hE hA hP hS rfl hl.1 (lv_room (Nat.le_of_ble_eq_true rfl)) dX3_append_27 ⟨Nat.le_of_ble_eq_true rfl, Nat.le_of_ble_eq_true rfl⟩ (fun v_100 G_99 H locs hp hP hS => ?_)
          obtain ⟨hv9, hg9⟩ := hp
          subst hv9
          rw [hg9] at hP
          refine t_eqi (nI 1) (congrArg nI (if_neg (ix_ok (by omega) (by decide)))) ?_
          refine lv_iconst (v := nI 1) hx hb dX3_append_30 (by decide) ?_
          refine g_callV (As := [.int (nI 0), .int (nI 1), .int (nI 1)]) (rest := []) ⟨hx, hb, hml, hown, hw⟩ (mX3_can l D cT n ad A hD G hn th 0 1 1 (by decide) (by decide) (by decide) hC.1) (cwV 3 hw (gWV wm_X3_63 wi_X3_can wse_X3_can wini_X3 wc_X3_can) rfl rfl rfl (by decide +kernel) ⟨Nat.le_of_ble_eq_true rfl, Nat.le_of_ble_eq_true rfl⟩) hK hE hA hP hS (k := 69) (by omega) hC.1 rfl rfl hl.1 (lv_room (Nat.le_of_ble_eq_true rfl)) dX3_append_31 ⟨Nat.le_of_ble_eq_true rfl, Nat.le_of_ble_eq_true rfl⟩ (fun v_102 G_101 H locs hp hP hS => ?_)
          obtain ⟨rfl, hg_G_101, ho_G_101⟩ := hp
          have hc_103 : G_101 69 = .inr (5, [.ref (ad 70), .ref (ad 86), .ref (ad 90), .ref (ad 97), .ref (ad 98), .ref (ad 99), .ref (ad 106), .ref (ad 113), .int (nI 1)]) := hg_G_101
          have hc_104 : G_101 70 = aQ (cT 10) 3 (q3 ad) := (ho_G_101 _ (by omega)).trans hC.2.1
          have hc_105 : G_101 86 = aQ (cT 8) 3 (qS ad) := (ho_G_101 _ (by omega)).trans hC.2.2.2.2.1
          have hc_106 : G_101 90 = aQ (cT 7) 6 (qP ad) := (ho_G_101 _ (by omega)).trans hC.2.2.2.2.2.2.1
          have hc_107 : G_101 97 = aI cT 6 zf := (ho_G_101 _ (by omega)).trans hC.2.2.2.2.2.2.2.2.1
          have hc_108 : G_101 98 = aZ cT 6 xf := (ho_G_101 _ (by omega)).trans hC.2.2.2.2.2.2.2.2.2.1
          have hc_109 : G_101 99 = aQ (cT 9) 6 (qK ad) := (ho_G_101 _ (by omega)).trans hC.2.2.2.2.2.2.2.2.2.2.1
          have hc_110 : G_101 106 = aQ (cT 8) 6 (qL ad) := (ho_G_101 _ (by omega)).trans hC.2.2.2.2.2.2.2.2.2.2.2.2.1
          have hc_111 : G_101 113 = aI cT 6 mf := (ho_G_101 _ (by omega)).trans hC.2.2.2.2.2.2.2.2.2.2.2.2.2.2.1
          have hfr_112 : ∀ j, (j ≠ 69) → G_101 j = G j := fun j hj => (ho_G_101 j (by omega)).trans (rfl)
          refine t_eqi (nI 0) rfl ?_
          refine t_if_eq (tgt := 65) hx hb dX3_append_34 (by decide) (by omega) (fun c_113 => ?_) (fun c_113 => absurd c_113 (by omega))
          refine lv_iconst (v := nI 0) hx hb dX3_append_65 (by decide) ?_
          refine g_ret hQ hx hb hr hlocks rfl hP hS (⟨⟨⟨_, rfl⟩, by rw [show cd [xIA, xIO, xIS] xIA = 1 from by decide +kernel]; exact MW.same hC hMA hc_103 (fun j9 _ _ hj9 => hfr_112 j9 hj9)⟩, fun j hj => hfr_112 j (by omega)⟩) (Nat.le_of_ble_eq_true rfl) (Nat.le_of_ble_eq_true rfl) dX3_append_66
      · skip
        obtain ⟨q, hkq⟩ : ∃ q, kdx ch = q := ⟨_, rfl⟩
        have hkl9 := kdx_le ch
        have hq : q < 3 := by omega
        refine lv_iload_n hx hb dX3_append_0 rfl (lv_at hl 1 rfl) ?_
        refine g_callS (As := [.int (nI ch)]) (rest := []) ⟨hx, hb, hml, hown, hw⟩ (mX3_kind l D cT n ad A hD G ch (by omega)) (va_cwS 1 hw (gWS wm_X3_51 wst_X3_kind wini_X3 wc_X3_kind) rfl rfl rfl (by decide +kernel) ⟨Nat.le_of_ble_eq_true rfl, Nat.le_of_ble_eq_true rfl⟩) hK hE hA hP hS rfl hl.1 (lv_room (Nat.le_of_ble_eq_true rfl)) dX3_append_1 ⟨Nat.le_of_ble_eq_true rfl, Nat.le_of_ble_eq_true rfl⟩ (fun v_115 G_114 H locs hp hP hS => ?_)
        obtain ⟨hv9, hg9⟩ := hp
        subst hv9
        rw [hg9] at hP
        refine t_eqi (nI q) ((if_neg (by omega)).trans (congrArg nI hkq)) ?_
        refine lv_istore (lv' := [(5, .int (nI q)), (0, .ref (ad 69)), (1, .int (nI ch)), (2, .int x), (3, .long z)]) hx hb dX3_append_4 hl (by decide) rfl (fun ls hl => ?_)
        refine lv_aload_n hx hb dX3_append_6 rfl (lv_at hl 1 rfl) ?_
        refine lv_iload hx hb dX3_append_7 (lv_at hl 0 rfl) ?_
        refine t_if_lt (tgt := 25) hx hb dX3_append_9 (by decide) (by omega) ?_
        refine lv_iload hx hb dX3_append_12 (lv_at hl 0 rfl) ?_
        refine lv_lload_n hx hb dX3_append_14 rfl (lv_at hl 4 rfl) ?_
        refine g_callS (As := [.int (nI q), .long z]) (rest := [.ref (ad 69)]) ⟨hx, hb, hml, hown, hw⟩ (mX3_isNumber l D cT n ad A hD G q (by omega) z) (va_cwS 2 hw (gWS wm_X3_55 wst_X3_isNumber wini_X3 wc_X3_isNumber) rfl rfl rfl (by decide +kernel) ⟨Nat.le_of_ble_eq_true rfl, Nat.le_of_ble_eq_true rfl⟩) hK hE hA hP hS rfl hl.1 (lv_room (Nat.le_of_ble_eq_true rfl)) dX3_append_15 ⟨Nat.le_of_ble_eq_true rfl, Nat.le_of_ble_eq_true rfl⟩ (fun v_118 G_117 H locs hp hP hS => ?_)
        obtain ⟨hv9, hg9⟩ := hp
        subst hv9
        rw [hg9] at hP
        refine t_eqi (nI 1) (congrArg nI (if_pos ((nm_q hkq hq).mp hz))) ?_
        refine t_if_eq (tgt := 25) hx hb dX3_append_18 (by decide) (by omega) (fun c_119 => absurd c_119 (by omega)) (fun c_119 => ?_)
        refine lv_iconst (v := nI 1) hx hb dX3_append_21 (by decide) ?_
        refine lv_goto (tgt := 26) hx hb dX3_append_22 (by decide) ?_
        refine lv_iload_n hx hb dX3_append_26 rfl (lv_at hl 3 rfl) ?_
        refine g_callS (As := [.int x]) (rest := [.int (nI 1), .ref (ad 69)]) ⟨hx, hb, hml, hown, hw⟩ (mX3_isRow l D cT n ad A hD G x) (va_cwS 1 hw (gWS wm_X3_59 wst_X3_isRow wini_X3 wc_X3_isRow) rfl rfl rfl (by decide +kernel) ⟨Nat.le_of_ble_eq_true rfl, Nat.le_of_ble_eq_true rfl⟩) hK hE hA hP hS rfl hl.1 (lv_room (Nat.le_of_ble_eq_true rfl)) dX3_append_27 ⟨Nat.le_of_ble_eq_true rfl, Nat.le_of_ble_eq_true rfl⟩ (fun v_121 G_120 H locs hp hP hS => ?_)
        obtain ⟨hv9, hg9⟩ := hp
        subst hv9
        rw [hg9] at hP
        refine t_eqi (nI 0) (congrArg nI (if_pos hrb)) ?_
        refine lv_iconst (v := nI 1) hx hb dX3_append_30 (by decide) ?_
        refine g_callV (As := [.int (nI 1), .int (nI 0), .int (nI 1)]) (rest := []) ⟨hx, hb, hml, hown, hw⟩ (mX3_can l D cT n ad A hD G hn th 1 0 1 (by decide) (by decide) (by decide) hC.1) (cwV 3 hw (gWV wm_X3_63 wi_X3_can wse_X3_can wini_X3 wc_X3_can) rfl rfl rfl (by decide +kernel) ⟨Nat.le_of_ble_eq_true rfl, Nat.le_of_ble_eq_true rfl⟩) hK hE hA hP hS (k := 69) (by omega) hC.1 rfl rfl hl.1 (lv_room (Nat.le_of_ble_eq_true rfl)) dX3_append_31 ⟨Nat.le_of_ble_eq_true rfl, Nat.le_of_ble_eq_true rfl⟩ (fun v_123 G_122 H locs hp hP hS => ?_)
        obtain ⟨rfl, hg_G_122, ho_G_122⟩ := hp
        have hc_124 : G_122 69 = .inr (5, [.ref (ad 70), .ref (ad 86), .ref (ad 90), .ref (ad 97), .ref (ad 98), .ref (ad 99), .ref (ad 106), .ref (ad 113), .int (nI 2)]) := hg_G_122
        have hc_125 : G_122 70 = aQ (cT 10) 3 (q3 ad) := (ho_G_122 _ (by omega)).trans hC.2.1
        have hc_126 : G_122 86 = aQ (cT 8) 3 (qS ad) := (ho_G_122 _ (by omega)).trans hC.2.2.2.2.1
        have hc_127 : G_122 90 = aQ (cT 7) 6 (qP ad) := (ho_G_122 _ (by omega)).trans hC.2.2.2.2.2.2.1
        have hc_128 : G_122 97 = aI cT 6 zf := (ho_G_122 _ (by omega)).trans hC.2.2.2.2.2.2.2.2.1
        have hc_129 : G_122 98 = aZ cT 6 xf := (ho_G_122 _ (by omega)).trans hC.2.2.2.2.2.2.2.2.2.1
        have hc_130 : G_122 99 = aQ (cT 9) 6 (qK ad) := (ho_G_122 _ (by omega)).trans hC.2.2.2.2.2.2.2.2.2.2.1
        have hc_131 : G_122 106 = aQ (cT 8) 6 (qL ad) := (ho_G_122 _ (by omega)).trans hC.2.2.2.2.2.2.2.2.2.2.2.2.1
        have hc_132 : G_122 113 = aI cT 6 mf := (ho_G_122 _ (by omega)).trans hC.2.2.2.2.2.2.2.2.2.2.2.2.2.2.1
        have hfr_133 : ∀ j, (j ≠ 69) → G_122 j = G j := fun j hj => (ho_G_122 j (by omega)).trans (rfl)
        refine t_eqi (nI 0) rfl ?_
        refine t_if_eq (tgt := 65) hx hb dX3_append_34 (by decide) (by omega) (fun c_134 => ?_) (fun c_134 => absurd c_134 (by omega))
        refine lv_iconst (v := nI 0) hx hb dX3_append_65 (by decide) ?_
        refine g_ret hQ hx hb hr hlocks rfl hP hS (⟨⟨⟨_, rfl⟩, by rw [show cd [xIA, xIO, xIS] xIO = 2 from by decide +kernel]; exact MW.same hC hMA hc_124 (fun j9 _ _ hj9 => hfr_133 j9 hj9)⟩, fun j hj => hfr_133 j (by omega)⟩) (Nat.le_of_ble_eq_true rfl) (Nat.le_of_ble_eq_true rfl) dX3_append_66
    · skip
      obtain ⟨hsz, hrv⟩ := hMA.1 q (by omega) ro (by omega)
      have hrc := hI.1 (4 * q + ro) (by omega)
      refine lv_iload_n hx hb dX3_append_0 rfl (lv_at hl 1 rfl) ?_
      refine g_callS (As := [.int (nI ch)]) (rest := []) ⟨hx, hb, hml, hown, hw⟩ (mX3_kind l D cT n ad A hD G ch (by omega)) (va_cwS 1 hw (gWS wm_X3_51 wst_X3_kind wini_X3 wc_X3_kind) rfl rfl rfl (by decide +kernel) ⟨Nat.le_of_ble_eq_true rfl, Nat.le_of_ble_eq_true rfl⟩) hK hE hA hP hS rfl hl.1 (lv_room (Nat.le_of_ble_eq_true rfl)) dX3_append_1 ⟨Nat.le_of_ble_eq_true rfl, Nat.le_of_ble_eq_true rfl⟩ (fun v_136 G_135 H locs hp hP hS => ?_)
      obtain ⟨hv9, hg9⟩ := hp
      subst hv9
      rw [hg9] at hP
      refine t_eqi (nI q) ((if_neg (by omega)).trans (congrArg nI hkq)) ?_
      refine lv_istore (lv' := [(5, .int (nI q)), (0, .ref (ad 69)), (1, .int (nI ch)), (2, .int (nI ro)), (3, .long z)]) hx hb dX3_append_4 hl (by decide) rfl (fun ls hl => ?_)
      refine lv_aload_n hx hb dX3_append_6 rfl (lv_at hl 1 rfl) ?_
      refine lv_iload hx hb dX3_append_7 (lv_at hl 0 rfl) ?_
      refine t_if_lt (tgt := 25) hx hb dX3_append_9 (by decide) (by omega) ?_
      refine lv_iload hx hb dX3_append_12 (lv_at hl 0 rfl) ?_
      refine lv_lload_n hx hb dX3_append_14 rfl (lv_at hl 4 rfl) ?_
      refine g_callS (As := [.int (nI q), .long z]) (rest := [.ref (ad 69)]) ⟨hx, hb, hml, hown, hw⟩ (mX3_isNumber l D cT n ad A hD G q (by omega) z) (va_cwS 2 hw (gWS wm_X3_55 wst_X3_isNumber wini_X3 wc_X3_isNumber) rfl rfl rfl (by decide +kernel) ⟨Nat.le_of_ble_eq_true rfl, Nat.le_of_ble_eq_true rfl⟩) hK hE hA hP hS rfl hl.1 (lv_room (Nat.le_of_ble_eq_true rfl)) dX3_append_15 ⟨Nat.le_of_ble_eq_true rfl, Nat.le_of_ble_eq_true rfl⟩ (fun v_139 G_138 H locs hp hP hS => ?_)
      obtain ⟨hv9, hg9⟩ := hp
      subst hv9
      rw [hg9] at hP
      refine t_eqi (nI 1) (congrArg nI (if_pos ((nm_q hkq hq).mp hz))) ?_
      refine t_if_eq (tgt := 25) hx hb dX3_append_18 (by decide) (by omega) (fun c_140 => absurd c_140 (by omega)) (fun c_140 => ?_)
      refine lv_iconst (v := nI 1) hx hb dX3_append_21 (by decide) ?_
      refine lv_goto (tgt := 26) hx hb dX3_append_22 (by decide) ?_
      refine lv_iload_n hx hb dX3_append_26 rfl (lv_at hl 3 rfl) ?_
      refine g_callS (As := [.int (nI ro)]) (rest := [.int (nI 1), .ref (ad 69)]) ⟨hx, hb, hml, hown, hw⟩ (mX3_isRow l D cT n ad A hD G (nI ro)) (va_cwS 1 hw (gWS wm_X3_59 wst_X3_isRow wini_X3 wc_X3_isRow) rfl rfl rfl (by decide +kernel) ⟨Nat.le_of_ble_eq_true rfl, Nat.le_of_ble_eq_true rfl⟩) hK hE hA hP hS rfl hl.1 (lv_room (Nat.le_of_ble_eq_true rfl)) dX3_append_27 ⟨Nat.le_of_ble_eq_true rfl, Nat.le_of_ble_eq_true rfl⟩ (fun v_142 G_141 H locs hp hP hS => ?_)
      obtain ⟨hv9, hg9⟩ := hp
      subst hv9
      rw [hg9] at hP
      refine t_eqi (nI 1) (congrArg nI (if_neg (ix_ok (by omega) (by decide)))) ?_
      refine lv_iconst (v := nI 1) hx hb dX3_append_30 (by decide) ?_
      refine g_callV (As := [.int (nI 1), .int (nI 1), .int (nI 1)]) (rest := []) ⟨hx, hb, hml, hown, hw⟩ (mX3_can l D cT n ad A hD G hn th 1 1 1 (by decide) (by decide) (by decide) hC.1) (cwV 3 hw (gWV wm_X3_63 wi_X3_can wse_X3_can wini_X3 wc_X3_can) rfl rfl rfl (by decide +kernel) ⟨Nat.le_of_ble_eq_true rfl, Nat.le_of_ble_eq_true rfl⟩) hK hE hA hP hS (k := 69) (by omega) hC.1 rfl rfl hl.1 (lv_room (Nat.le_of_ble_eq_true rfl)) dX3_append_31 ⟨Nat.le_of_ble_eq_true rfl, Nat.le_of_ble_eq_true rfl⟩ (fun v_144 G_143 H locs hp hP hS => ?_)
      obtain ⟨rfl, hg_G_143, ho_G_143⟩ := hp
      have hc_145 : G_143 69 = .inr (5, [.ref (ad 70), .ref (ad 86), .ref (ad 90), .ref (ad 97), .ref (ad 98), .ref (ad 99), .ref (ad 106), .ref (ad 113), .int (nI 0)]) := hg_G_143
      have hc_146 : G_143 70 = aQ (cT 10) 3 (q3 ad) := (ho_G_143 _ (by omega)).trans hC.2.1
      have hc_147 : G_143 86 = aQ (cT 8) 3 (qS ad) := (ho_G_143 _ (by omega)).trans hC.2.2.2.2.1
      have hc_148 : G_143 90 = aQ (cT 7) 6 (qP ad) := (ho_G_143 _ (by omega)).trans hC.2.2.2.2.2.2.1
      have hc_149 : G_143 97 = aI cT 6 zf := (ho_G_143 _ (by omega)).trans hC.2.2.2.2.2.2.2.2.1
      have hc_150 : G_143 98 = aZ cT 6 xf := (ho_G_143 _ (by omega)).trans hC.2.2.2.2.2.2.2.2.2.1
      have hc_151 : G_143 99 = aQ (cT 9) 6 (qK ad) := (ho_G_143 _ (by omega)).trans hC.2.2.2.2.2.2.2.2.2.2.1
      have hc_152 : G_143 106 = aQ (cT 8) 6 (qL ad) := (ho_G_143 _ (by omega)).trans hC.2.2.2.2.2.2.2.2.2.2.2.2.1
      have hc_153 : G_143 113 = aI cT 6 mf := (ho_G_143 _ (by omega)).trans hC.2.2.2.2.2.2.2.2.2.2.2.2.2.2.1
      have hc_154 : G_143 (71 + 5 * q) = aQ (cT 7) 4 (q4 ad q) := (ho_G_143 _ (by omega)).trans (hC.2.2.1 q (by omega))
      have hc_155 : G_143 (87 + q) = aI cT 4 (sf q) := (ho_G_143 _ (by omega)).trans (hC.2.2.2.2.2.1 q (by omega))
      have hc_156 : G_143 (72 + 5 * q + ro) = aJ cT 48 (rf q ro) := (ho_G_143 _ (by omega)).trans (hC.2.2.2.1 q (by omega) ro (by omega))
      have hfr_157 : ∀ j, (j ≠ 69) → G_143 j = G j := fun j hj => (ho_G_143 j (by omega)).trans (rfl)
      refine t_eqi (nI 1) rfl ?_
      refine t_if_eq (tgt := 65) hx hb dX3_append_34 (by decide) (by omega) (fun c_158 => absurd c_158 (by omega)) (fun c_158 => ?_)
      refine lv_aload_n hx hb dX3_append_37 rfl (lv_at hl 1 rfl) ?_
      refine lv_iconst (v := nI 1) hx hb dX3_append_38 (by decide) ?_
      refine lv_iconst (v := nI 1) hx hb dX3_append_39 (by decide) ?_
      refine lv_aload_n hx hb dX3_append_40 rfl (lv_at hl 1 rfl) ?_
      refine g_get (C := RX3) (T := TX3) (N := 9) hx hb hw inX3 hown hK hP (i := 69) (by omega) hc_145 rfl 1 (by decide) (hw _ wf_X3_16) rfl dX3_append_41 ?_
      refine lv_iload hx hb dX3_append_44 (lv_at hl 0 rfl) ?_
      refine g_aald hx hb hK hP 8 (i := 86) (by omega) hc_147 rfl rfl (k := (ad (87 + q))) (by omega) (by omega) (qS_at (by omega)) dX3_append_46 ?_
      refine lv_iload_n hx hb dX3_append_47 rfl (lv_at hl 3 rfl) ?_
      refine g_iald hx hb hK hP (i := (87 + q)) (by omega) hc_155 (by omega) (by omega) dX3_append_48 ?_
      refine lv_bipush (v := nI 48) hx hb dX3_append_49 (by decide) ?_
      refine t_icmp_ge (tgt := 58) hx hb dX3_append_51 (by decide) (by omega) (by omega) (fun c_159 => ?_) (fun c_159 => ?_)
      · skip
        refine lv_iconst (v := nI 0) hx hb dX3_append_58 (by decide) ?_
        refine g_callV (As := [.int (nI 1), .int (nI 1), .int (nI 0)]) (rest := []) ⟨hx, hb, hml, hown, hw⟩ (mX3_can l D cT n ad A hD G_143 hn 0 1 1 0 (by decide) (by decide) (by decide) hc_145) (cwV 3 hw (gWV wm_X3_63 wi_X3_can wse_X3_can wini_X3 wc_X3_can) rfl rfl rfl (by decide +kernel) ⟨Nat.le_of_ble_eq_true rfl, Nat.le_of_ble_eq_true rfl⟩) hK hE hA hP hS (k := 69) (by omega) hc_145 rfl rfl hl.1 (lv_room (Nat.le_of_ble_eq_true rfl)) dX3_append_59 ⟨Nat.le_of_ble_eq_true rfl, Nat.le_of_ble_eq_true rfl⟩ (fun v_161 G_160 H locs hp hP hS => ?_)
        obtain ⟨rfl, hg_G_160, ho_G_160⟩ := hp
        have hc_162 : G_160 69 = .inr (5, [.ref (ad 70), .ref (ad 86), .ref (ad 90), .ref (ad 97), .ref (ad 98), .ref (ad 99), .ref (ad 106), .ref (ad 113), .int (nI 3)]) := hg_G_160
        have hc_163 : G_160 70 = aQ (cT 10) 3 (q3 ad) := (ho_G_160 _ (by omega)).trans hc_146
        have hc_164 : G_160 86 = aQ (cT 8) 3 (qS ad) := (ho_G_160 _ (by omega)).trans hc_147
        have hc_165 : G_160 90 = aQ (cT 7) 6 (qP ad) := (ho_G_160 _ (by omega)).trans hc_148
        have hc_166 : G_160 97 = aI cT 6 zf := (ho_G_160 _ (by omega)).trans hc_149
        have hc_167 : G_160 98 = aZ cT 6 xf := (ho_G_160 _ (by omega)).trans hc_150
        have hc_168 : G_160 99 = aQ (cT 9) 6 (qK ad) := (ho_G_160 _ (by omega)).trans hc_151
        have hc_169 : G_160 106 = aQ (cT 8) 6 (qL ad) := (ho_G_160 _ (by omega)).trans hc_152
        have hc_170 : G_160 113 = aI cT 6 mf := (ho_G_160 _ (by omega)).trans hc_153
        have hc_171 : G_160 (71 + 5 * q) = aQ (cT 7) 4 (q4 ad q) := (ho_G_160 _ (by omega)).trans hc_154
        have hc_172 : G_160 (87 + q) = aI cT 4 (sf q) := (ho_G_160 _ (by omega)).trans hc_155
        have hc_173 : G_160 (72 + 5 * q + ro) = aJ cT 48 (rf q ro) := (ho_G_160 _ (by omega)).trans hc_156
        have hfr_174 : ∀ j, (j ≠ 69) → G_160 j = G j := fun j hj => (ho_G_160 j (by omega)).trans (hfr_157 j hj)
        refine t_eqi (nI 0) rfl ?_
        refine t_if_ne (tgt := 67) hx hb dX3_append_62 (by decide) (by omega) (fun c_175 => absurd c_175 (by omega)) (fun c_175 => ?_)
        refine lv_iconst (v := nI 0) hx hb dX3_append_65 (by decide) ?_
        refine g_ret hQ hx hb hr hlocks rfl hP hS (⟨⟨⟨_, rfl⟩, by rw [show cd [xIA, xIO, xIS] xIS = 3 from by decide +kernel]; exact MW.same hC hMA hc_162 (fun j9 _ _ hj9 => hfr_174 j9 hj9)⟩, fun j hj => hfr_174 j (by omega)⟩) (Nat.le_of_ble_eq_true rfl) (Nat.le_of_ble_eq_true rfl) dX3_append_66
      · exfalso; omega

theorem kd_l {ch q : Nat} (h : kdx ch = q) : q = 1 ↔ ch = 108 := by
  constructor
  · intro e; subst e; revert h; unfold kdx; split
    · intro h; omega
    · split
      · intro _; assumption
      · split <;> (intro h; omega)
  · intro e; subst e; exact h.symm

set_option maxHeartbeats 4000000 in
set_option maxRecDepth 100000 in
theorem mX3_lay_ok (l : Launch) (D : va_G) (cT : Nat → ClassId) (n : Nat) (ad : Nat → Nat) (A : Nat → Prop) (hD : ∀ G, va_D A (gw n ad G)) (G : Nat → va_E) (hn : 114 ≤ n) (σ : TY) (hI : YI σ) (th : Nat) (hM : MW cT ad G σ th) (ch : Nat) (hch : ch < 65536)(q ro : Nat) (hq : q < 3) (hro : ro < 4) (hkq : kdx ch = q) (t : Nat) (ht : t ≤ 48) (a w : Int64) : Met l yX3_lay (wA yX3_lay cX3_lay 13 (some .int)) ({ frames := 1, cells := 0, slots := 0, locals := 23 } : Room) (PG D cT n ad A G [.ref (ad 69), .int (nI ch), .int (nI ro), .int (nI t), .long a, .long w]) (QG D n ad A (fun v G1 => (v = some (.int (nI (σ.1 (4 * q + ro)).1)) ∧ MW cT ad G1 (setR σ (4 * q + ro) (t, gvF (σ.1 (4 * q + ro)).2 0 t (layF ch a w))) 0) ∧ ∀ j, (j < 69 ∨ 114 ≤ j) → G1 j = G j)) 0 0 A := by
  refine Met.ofG (cc := cX3_lay) (maxL := 13) (ret := (some .int)) (by decide) (Nat.le_of_ble_eq_true rfl) ?_
  intro p e s m args below meth c Q hQ hx hb hr hml hlocks hown hw hP hK hE hA hS ls hl
  have hl : lv_has ls 13 [(0, .ref (ad 69)), (1, .int (nI ch)), (2, .int (nI ro)), (3, .int (nI t)), (4, .long a), (6, .long w)] := hl
  obtain ⟨rf, sf, pf, zf, xf, kf, lf, mf, hC, hMA⟩ := hM
  obtain ⟨hsz, hrv⟩ := hMA.1 q (by omega) ro (by omega)
  have hrc := hI.1 (4 * q + ro) (by omega)
  refine lv_iload_n hx hb dX3_lay_0 rfl (lv_at hl 1 rfl) ?_
  refine g_callS (As := [.int (nI ch)]) (rest := []) ⟨hx, hb, hml, hown, hw⟩ (mX3_kind l D cT n ad A hD G ch (by omega)) (va_cwS 1 hw (gWS wm_X3_51 wst_X3_kind wini_X3 wc_X3_kind) rfl rfl rfl (by decide +kernel) ⟨Nat.le_of_ble_eq_true rfl, Nat.le_of_ble_eq_true rfl⟩) hK hE hA hP hS rfl hl.1 (lv_room (Nat.le_of_ble_eq_true rfl)) dX3_lay_1 ⟨Nat.le_of_ble_eq_true rfl, Nat.le_of_ble_eq_true rfl⟩ (fun v_2 G_1 H locs hp hP hS => ?_)
  obtain ⟨hv9, hg9⟩ := hp
  subst hv9
  rw [hg9] at hP
  refine t_eqi (nI q) ((if_neg (by omega)).trans (congrArg nI hkq)) ?_
  refine lv_istore (lv' := [(8, .int (nI q)), (0, .ref (ad 69)), (1, .int (nI ch)), (2, .int (nI ro)), (3, .int (nI t)), (4, .long a), (6, .long w)]) hx hb dX3_lay_4 hl (by decide) rfl (fun ls hl => ?_)
  refine lv_aload_n hx hb dX3_lay_6 rfl (lv_at hl 1 rfl) ?_
  refine lv_iload hx hb dX3_lay_7 (lv_at hl 0 rfl) ?_
  refine t_if_lt (tgt := 26) hx hb dX3_lay_9 (by decide) (by omega) ?_
  refine lv_iload_n hx hb dX3_lay_12 rfl (lv_at hl 4 rfl) ?_
  refine t_if_lt (tgt := 26) hx hb dX3_lay_13 (by decide) (by omega) ?_
  refine lv_iload_n hx hb dX3_lay_16 rfl (lv_at hl 4 rfl) ?_
  refine lv_bipush (v := nI 48) hx hb dX3_lay_17 (by decide) ?_
  refine t_icmp_gt (tgt := 26) hx hb dX3_lay_19 (by decide) (by omega) (by omega) (fun c_5 => ?_) (fun c_5 => ?_)
  · exfalso; omega
  · skip
    refine lv_iconst (v := nI 1) hx hb dX3_lay_22 (by decide) ?_
    refine lv_goto (tgt := 27) hx hb dX3_lay_23 (by decide) ?_
    refine lv_iload_n hx hb dX3_lay_27 rfl (lv_at hl 3 rfl) ?_
    refine g_callS (As := [.int (nI ro)]) (rest := [.int (nI 1), .ref (ad 69)]) ⟨hx, hb, hml, hown, hw⟩ (mX3_isRow l D cT n ad A hD G (nI ro)) (va_cwS 1 hw (gWS wm_X3_59 wst_X3_isRow wini_X3 wc_X3_isRow) rfl rfl rfl (by decide +kernel) ⟨Nat.le_of_ble_eq_true rfl, Nat.le_of_ble_eq_true rfl⟩) hK hE hA hP hS rfl hl.1 (lv_room (Nat.le_of_ble_eq_true rfl)) dX3_lay_28 ⟨Nat.le_of_ble_eq_true rfl, Nat.le_of_ble_eq_true rfl⟩ (fun v_7 G_6 H locs hp hP hS => ?_)
    obtain ⟨hv9, hg9⟩ := hp
    subst hv9
    rw [hg9] at hP
    refine t_eqi (nI 1) (congrArg nI (if_neg (ix_ok (by omega) (by decide)))) ?_
    refine lv_iconst (v := nI 1) hx hb dX3_lay_31 (by decide) ?_
    refine g_callV (As := [.int (nI 1), .int (nI 1), .int (nI 1)]) (rest := []) ⟨hx, hb, hml, hown, hw⟩ (mX3_can l D cT n ad A hD G hn th 1 1 1 (by decide) (by decide) (by decide) hC.1) (cwV 3 hw (gWV wm_X3_63 wi_X3_can wse_X3_can wini_X3 wc_X3_can) rfl rfl rfl (by decide +kernel) ⟨Nat.le_of_ble_eq_true rfl, Nat.le_of_ble_eq_true rfl⟩) hK hE hA hP hS (k := 69) (by omega) hC.1 rfl rfl hl.1 (lv_room (Nat.le_of_ble_eq_true rfl)) dX3_lay_32 ⟨Nat.le_of_ble_eq_true rfl, Nat.le_of_ble_eq_true rfl⟩ (fun v_9 G_8 H locs hp hP hS => ?_)
    obtain ⟨rfl, hg_G_8, ho_G_8⟩ := hp
    have hc_10 : G_8 69 = .inr (5, [.ref (ad 70), .ref (ad 86), .ref (ad 90), .ref (ad 97), .ref (ad 98), .ref (ad 99), .ref (ad 106), .ref (ad 113), .int (nI 0)]) := hg_G_8
    have hc_11 : G_8 70 = aQ (cT 10) 3 (q3 ad) := (ho_G_8 _ (by omega)).trans hC.2.1
    have hc_12 : G_8 86 = aQ (cT 8) 3 (qS ad) := (ho_G_8 _ (by omega)).trans hC.2.2.2.2.1
    have hc_13 : G_8 90 = aQ (cT 7) 6 (qP ad) := (ho_G_8 _ (by omega)).trans hC.2.2.2.2.2.2.1
    have hc_14 : G_8 97 = aI cT 6 zf := (ho_G_8 _ (by omega)).trans hC.2.2.2.2.2.2.2.2.1
    have hc_15 : G_8 98 = aZ cT 6 xf := (ho_G_8 _ (by omega)).trans hC.2.2.2.2.2.2.2.2.2.1
    have hc_16 : G_8 99 = aQ (cT 9) 6 (qK ad) := (ho_G_8 _ (by omega)).trans hC.2.2.2.2.2.2.2.2.2.2.1
    have hc_17 : G_8 106 = aQ (cT 8) 6 (qL ad) := (ho_G_8 _ (by omega)).trans hC.2.2.2.2.2.2.2.2.2.2.2.2.1
    have hc_18 : G_8 113 = aI cT 6 mf := (ho_G_8 _ (by omega)).trans hC.2.2.2.2.2.2.2.2.2.2.2.2.2.2.1
    have hc_19 : G_8 (71 + 5 * q) = aQ (cT 7) 4 (q4 ad q) := (ho_G_8 _ (by omega)).trans (hC.2.2.1 q (by omega))
    have hc_20 : G_8 (87 + q) = aI cT 4 (sf q) := (ho_G_8 _ (by omega)).trans (hC.2.2.2.2.2.1 q (by omega))
    have hc_21 : G_8 (72 + 5 * q + ro) = aJ cT 48 (rf q ro) := (ho_G_8 _ (by omega)).trans (hC.2.2.2.1 q (by omega) ro (by omega))
    have hfr_22 : ∀ j, (j ≠ 69 ∧ j ≠ 72 + 5 * q + ro ∧ j ≠ 87 + q) → G_8 j = G j := fun j hj => (ho_G_8 j (by omega)).trans (rfl)
    refine t_eqi (nI 1) rfl ?_
    refine t_if_ne (tgt := 40) hx hb dX3_lay_35 (by decide) (by omega) (fun c_23 => ?_) (fun c_23 => absurd c_23 (by omega))
    refine lv_aload_n hx hb dX3_lay_40 rfl (lv_at hl 1 rfl) ?_
    refine g_get (C := RX3) (T := TX3) (N := 9) hx hb hw inX3 hown hK hP (i := 69) (by omega) hc_10 rfl 1 (by decide) (hw _ wf_X3_16) rfl dX3_lay_41 ?_
    refine lv_iload hx hb dX3_lay_44 (lv_at hl 0 rfl) ?_
    refine g_aald hx hb hK hP 8 (i := 86) (by omega) hc_12 rfl rfl (k := (ad (87 + q))) (by omega) (by omega) (qS_at (by omega)) dX3_lay_46 ?_
    refine lv_iload_n hx hb dX3_lay_47 rfl (lv_at hl 3 rfl) ?_
    refine g_iald hx hb hK hP (i := (87 + q)) (by omega) hc_20 (by omega) (by omega) dX3_lay_48 ?_
    refine lv_istore (lv' := [(9, .int (nI ((sf q) ro))), (8, .int (nI q)), (0, .ref (ad 69)), (1, .int (nI ch)), (2, .int (nI ro)), (3, .int (nI t)), (4, .long a), (6, .long w)]) hx hb dX3_lay_49 hl (by decide) rfl (fun ls hl => ?_)
    refine lv_lload hx hb dX3_lay_51 (lv_at hl 6 rfl) ?_
    refine lv_lstore (lv' := [(10, .long a), (9, .int (nI ((sf q) ro))), (8, .int (nI q)), (0, .ref (ad 69)), (1, .int (nI ch)), (2, .int (nI ro)), (3, .int (nI t)), (4, .long a), (6, .long w)]) hx hb dX3_lay_53 hl (by decide) rfl (fun ls hl => ?_)
    refine lv_iconst (v := nI 0) hx hb dX3_lay_55 (by decide) ?_
    refine lv_istore (lv' := [(12, .int (nI 0)), (10, .long a), (9, .int (nI ((sf q) ro))), (8, .int (nI q)), (0, .ref (ad 69)), (1, .int (nI ch)), (2, .int (nI ro)), (3, .int (nI t)), (4, .long a), (6, .long w)]) hx hb dX3_lay_56 hl (by decide) rfl (fun ls hl => ?_)
    have hg0 := gvF_0 (rf q ro) 0 (layF ch a w)
    have key_24 : ∀ (fu : Nat) (u : Nat), (u ≤ t) → (t - u) < fu → ∀ (Gl : Nat → va_E) (H : Heap) (locs : List Loc), (∀ j, j ≠ 72 + 5 * q + ro → Gl j = G_8 j) → (Gl (72 + 5 * q + ro) = aJ cT 48 (gvF (rf q ro) 0 u (layF ch a w))) → va_P D vwCl (gw n ad Gl) H → va_S A s.heap H locs → ∀ ls : Array Slot, lv_has ls 13 [(12, .int (nI u)), (10, .long (lz a w u)), (9, .int (nI (sf q ro))), (8, .int (nI q)), (6, .long w), (4, .long a), (3, .int (nI t)), (2, .int (nI ro)), (1, .int (nI ch)), (0, .ref (ad 69))] → W p l e ({ frames := 1, cells := 0, slots := 0, locals := 23 } : Room) s m args below meth c H locs 0 0 Q (F0 m 58 ls []) := by
      intro fu_25
      induction fu_25 with
      | zero => intros; exfalso; omega
      | succ fu_25 ih_26 =>
        intro u hu hfu_27 Gl H locs hfL hRL hP hS ls hl
        have hc_28 : Gl 69 = .inr (5, [.ref (ad 70), .ref (ad 86), .ref (ad 90), .ref (ad 97), .ref (ad 98), .ref (ad 99), .ref (ad 106), .ref (ad 113), .int (nI 0)]) := (hfL _ (by omega)).trans (hc_10)
        have hc_29 : Gl 70 = aQ (cT 10) 3 (q3 ad) := (hfL _ (by omega)).trans (hc_11)
        have hc_30 : Gl 86 = aQ (cT 8) 3 (qS ad) := (hfL _ (by omega)).trans (hc_12)
        have hc_31 : Gl 90 = aQ (cT 7) 6 (qP ad) := (hfL _ (by omega)).trans (hc_13)
        have hc_32 : Gl 97 = aI cT 6 zf := (hfL _ (by omega)).trans (hc_14)
        have hc_33 : Gl 98 = aZ cT 6 xf := (hfL _ (by omega)).trans (hc_15)
        have hc_34 : Gl 99 = aQ (cT 9) 6 (qK ad) := (hfL _ (by omega)).trans (hc_16)
        have hc_35 : Gl 106 = aQ (cT 8) 6 (qL ad) := (hfL _ (by omega)).trans (hc_17)
        have hc_36 : Gl 113 = aI cT 6 mf := (hfL _ (by omega)).trans (hc_18)
        have hc_37 : Gl (71 + 5 * q) = aQ (cT 7) 4 (q4 ad q) := (hfL _ (by omega)).trans (hc_19)
        have hc_38 : Gl (87 + q) = aI cT 4 (sf q) := (hfL _ (by omega)).trans (hc_20)
        have hfM : ∀ j, (j ≠ 69 ∧ j ≠ 72 + 5 * q + ro ∧ j ≠ 87 + q) → Gl j = G j := fun j hj => (hfL j (by omega)).trans (hfr_22 j hj)
        refine lv_iload hx hb dX3_lay_58 (lv_at hl 0 rfl) ?_
        refine lv_iload_n hx hb dX3_lay_60 rfl (lv_at hl 6 rfl) ?_
        refine t_icmp_ge (tgt := 104) hx hb dX3_lay_61 (by decide) (by omega) (by omega) (fun c_39 => ?_) (fun c_39 => ?_)
        · skip
          obtain rfl : u = t := by omega
          refine lv_aload_n hx hb dX3_lay_104 rfl (lv_at hl 9 rfl) ?_
          refine g_get (C := RX3) (T := TX3) (N := 9) hx hb hw inX3 hown hK hP (i := 69) (by omega) hc_28 rfl 1 (by decide) (hw _ wf_X3_16) rfl dX3_lay_105 ?_
          refine lv_iload hx hb dX3_lay_108 (lv_at hl 3 rfl) ?_
          refine g_aald hx hb hK hP 8 (i := 86) (by omega) hc_30 rfl rfl (k := (ad (87 + q))) (by omega) (by omega) (qS_at (by omega)) dX3_lay_110 ?_
          refine lv_iload_n hx hb dX3_lay_111 rfl (lv_at hl 7 rfl) ?_
          refine lv_iload_n hx hb dX3_lay_112 rfl (lv_at hl 6 rfl) ?_
          refine g_iast hx hb hK hP hD hS (i := (87 + q)) (by omega) hc_38 (by omega) (by omega) dX3_lay_113 (fun G_40 H locs hg_G_40 ho_G_40 hP hS => ?_)
          have hc_41 : G_40 69 = .inr (5, [.ref (ad 70), .ref (ad 86), .ref (ad 90), .ref (ad 97), .ref (ad 98), .ref (ad 99), .ref (ad 106), .ref (ad 113), .int (nI 0)]) := (ho_G_40 _ (by omega)).trans hc_28
          have hc_42 : G_40 70 = aQ (cT 10) 3 (q3 ad) := (ho_G_40 _ (by omega)).trans hc_29
          have hc_43 : G_40 86 = aQ (cT 8) 3 (qS ad) := (ho_G_40 _ (by omega)).trans hc_30
          have hc_44 : G_40 90 = aQ (cT 7) 6 (qP ad) := (ho_G_40 _ (by omega)).trans hc_31
          have hc_45 : G_40 97 = aI cT 6 zf := (ho_G_40 _ (by omega)).trans hc_32
          have hc_46 : G_40 98 = aZ cT 6 xf := (ho_G_40 _ (by omega)).trans hc_33
          have hc_47 : G_40 99 = aQ (cT 9) 6 (qK ad) := (ho_G_40 _ (by omega)).trans hc_34
          have hc_48 : G_40 106 = aQ (cT 8) 6 (qL ad) := (ho_G_40 _ (by omega)).trans hc_35
          have hc_49 : G_40 113 = aI cT 6 mf := (ho_G_40 _ (by omega)).trans hc_36
          have hc_50 : G_40 (71 + 5 * q) = aQ (cT 7) 4 (q4 ad q) := (ho_G_40 _ (by omega)).trans hc_37
          have hc_51 : G_40 (87 + q) = aI cT 4 (va_up (sf q) ro u) := hg_G_40
          have hc_52 : G_40 (72 + 5 * q + ro) = aJ cT 48 (gvF (rf q ro) 0 u (layF ch a w)) := (ho_G_40 _ (by omega)).trans hRL
          have hfr_53 : ∀ j, (j ≠ 69 ∧ j ≠ 72 + 5 * q + ro ∧ j ≠ 87 + q) → G_40 j = G j := fun j hj => (ho_G_40 j (by omega)).trans (hfM j hj)
          refine lv_iload hx hb dX3_lay_114 (lv_at hl 2 rfl) ?_
          refine g_ret hQ hx hb hr hlocks rfl hP hS (⟨⟨by rw [hsz], MW.row hC hMA hq hro hc_41 hc_52 hc_51 (fun j9 _ _ a b c => hfr_53 j9 ⟨a, b, c⟩) (va_up_self _ _ _) (fun k hk => va_up_ne _ _ hk) (fun k hk => by rw [gvF_in (by omega) (by omega), gvF_in (by omega) (by omega)])⟩, fun j hj => hfr_53 j (by omega)⟩) (Nat.le_of_ble_eq_true rfl) (Nat.le_of_ble_eq_true rfl) dX3_lay_116
        · skip
          refine lv_aload_n hx hb dX3_lay_64 rfl (lv_at hl 9 rfl) ?_
          refine g_get (C := RX3) (T := TX3) (N := 9) hx hb hw inX3 hown hK hP (i := 69) (by omega) hc_28 rfl 0 (by decide) (hw _ wf_X3_11) rfl dX3_lay_65 ?_
          refine lv_iload hx hb dX3_lay_68 (lv_at hl 3 rfl) ?_
          refine g_aald hx hb hK hP 10 (i := 70) (by omega) hc_29 rfl rfl (k := (ad (71 + 5 * q))) (by omega) (by omega) (q3_at (by omega)) dX3_lay_70 ?_
          refine lv_iload_n hx hb dX3_lay_71 rfl (lv_at hl 7 rfl) ?_
          refine g_aald hx hb hK hP 7 (i := (71 + 5 * q)) (by omega) hc_37 rfl rfl (k := (ad (72 + 5 * q + ro))) (by omega) (by omega) (q4_at (by omega)) dX3_lay_72 ?_
          refine lv_iload hx hb dX3_lay_73 (lv_at hl 0 rfl) ?_
          refine lv_iload hx hb dX3_lay_75 (lv_at hl 3 rfl) ?_
          refine lv_iconst (v := nI 1) hx hb dX3_lay_77 (by decide) ?_
          refine t_icmp_ne (tgt := 86) hx hb dX3_lay_78 (by decide) (by omega) (by omega) (fun c_54 => ?_) (fun c_54 => ?_)
          · skip
            refine lv_lload hx hb dX3_lay_86 (lv_at hl 1 rfl) ?_
            refine lv_l2i hx hb dX3_lay_88 rfl ?_
            refine lv_i2l hx hb dX3_lay_89 rfl ?_
            refine g_last hx hb hK hP hD hS (i := (72 + 5 * q + ro)) (by omega) hRL (by omega) (by omega) dX3_lay_90 (fun G_55 H locs hg_G_55 ho_G_55 hP hS => ?_)
            have hc_56 : G_55 69 = .inr (5, [.ref (ad 70), .ref (ad 86), .ref (ad 90), .ref (ad 97), .ref (ad 98), .ref (ad 99), .ref (ad 106), .ref (ad 113), .int (nI 0)]) := (ho_G_55 _ (by omega)).trans hc_28
            have hc_57 : G_55 70 = aQ (cT 10) 3 (q3 ad) := (ho_G_55 _ (by omega)).trans hc_29
            have hc_58 : G_55 86 = aQ (cT 8) 3 (qS ad) := (ho_G_55 _ (by omega)).trans hc_30
            have hc_59 : G_55 90 = aQ (cT 7) 6 (qP ad) := (ho_G_55 _ (by omega)).trans hc_31
            have hc_60 : G_55 97 = aI cT 6 zf := (ho_G_55 _ (by omega)).trans hc_32
            have hc_61 : G_55 98 = aZ cT 6 xf := (ho_G_55 _ (by omega)).trans hc_33
            have hc_62 : G_55 99 = aQ (cT 9) 6 (qK ad) := (ho_G_55 _ (by omega)).trans hc_34
            have hc_63 : G_55 106 = aQ (cT 8) 6 (qL ad) := (ho_G_55 _ (by omega)).trans hc_35
            have hc_64 : G_55 113 = aI cT 6 mf := (ho_G_55 _ (by omega)).trans hc_36
            have hc_65 : G_55 (71 + 5 * q) = aQ (cT 7) 4 (q4 ad q) := (ho_G_55 _ (by omega)).trans hc_37
            have hc_66 : G_55 (87 + q) = aI cT 4 (sf q) := (ho_G_55 _ (by omega)).trans hc_38
            have hc_67 : G_55 (72 + 5 * q + ro) = aJ cT 48 (va_up (gvF (rf q ro) 0 u (layF ch a w)) u (((lz a w u).toInt32).toInt64)) := hg_G_55
            have hfr_68 : ∀ j, (j ≠ 69 ∧ j ≠ 72 + 5 * q + ro ∧ j ≠ 87 + q) → G_55 j = G j := fun j hj => (ho_G_55 j (by omega)).trans (hfM j hj)
            refine lv_lload hx hb dX3_lay_91 (lv_at hl 1 rfl) ?_
            refine lv_lload hx hb dX3_lay_93 (lv_at hl 4 rfl) ?_
            refine lv_ladd hx hb dX3_lay_95 ?_
            refine lv_lstore (lv' := [(10, .long ((lz a w u) + w)), (12, .int (nI u)), (9, .int (nI (sf q ro))), (8, .int (nI q)), (6, .long w), (4, .long a), (3, .int (nI t)), (2, .int (nI ro)), (1, .int (nI ch)), (0, .ref (ad 69))]) hx hb dX3_lay_96 hl (by decide) rfl (fun ls hl => ?_)
            refine lv_iinc (v := nI (u + 1)) (lv' := [(12, .int (nI (u + 1))), (10, .long ((lz a w u) + w)), (9, .int (nI (sf q ro))), (8, .int (nI q)), (6, .long w), (4, .long a), (3, .int (nI t)), (2, .int (nI ro)), (1, .int (nI ch)), (0, .ref (ad 69))]) hx hb dX3_lay_98 hl (k := 1) rfl (by exact nI_add u 1) (by decide) rfl (fun ls hl => ?_)
            refine lv_goto (tgt := 58) hx hb dX3_lay_101 (by decide) ?_
            have hfn_69 : ∀ j, j ≠ 72 + 5 * q + ro → G_55 j = G_8 j := fun j hj => (ho_G_55 j hj).trans (hfL j hj)
            exact ih_26 (u + 1) (by omega) (by omega) _ _ _ (hfn_69) (hc_67.trans (congrArg (aJ cT 48) (by have hgs := gvF_step (rf q ro) 0 u (layF ch a w); rw [Nat.zero_add] at hgs; rw [← hgs, show layF ch a w u = _ from if_neg (fun q9 => absurd ((kd_l hkq).mpr q9) (by omega))]))) hP hS ls (lv_sub hl [0, 1, 2, 3, 4, 5, 6, 7, 8, 9] rfl)
          · skip
            refine lv_lload hx hb dX3_lay_81 (lv_at hl 1 rfl) ?_
            refine lv_goto (tgt := 90) hx hb dX3_lay_83 (by decide) ?_
            refine g_last hx hb hK hP hD hS (i := (72 + 5 * q + ro)) (by omega) hRL (by omega) (by omega) dX3_lay_90 (fun G_70 H locs hg_G_70 ho_G_70 hP hS => ?_)
            have hc_71 : G_70 69 = .inr (5, [.ref (ad 70), .ref (ad 86), .ref (ad 90), .ref (ad 97), .ref (ad 98), .ref (ad 99), .ref (ad 106), .ref (ad 113), .int (nI 0)]) := (ho_G_70 _ (by omega)).trans hc_28
            have hc_72 : G_70 70 = aQ (cT 10) 3 (q3 ad) := (ho_G_70 _ (by omega)).trans hc_29
            have hc_73 : G_70 86 = aQ (cT 8) 3 (qS ad) := (ho_G_70 _ (by omega)).trans hc_30
            have hc_74 : G_70 90 = aQ (cT 7) 6 (qP ad) := (ho_G_70 _ (by omega)).trans hc_31
            have hc_75 : G_70 97 = aI cT 6 zf := (ho_G_70 _ (by omega)).trans hc_32
            have hc_76 : G_70 98 = aZ cT 6 xf := (ho_G_70 _ (by omega)).trans hc_33
            have hc_77 : G_70 99 = aQ (cT 9) 6 (qK ad) := (ho_G_70 _ (by omega)).trans hc_34
            have hc_78 : G_70 106 = aQ (cT 8) 6 (qL ad) := (ho_G_70 _ (by omega)).trans hc_35
            have hc_79 : G_70 113 = aI cT 6 mf := (ho_G_70 _ (by omega)).trans hc_36
            have hc_80 : G_70 (71 + 5 * q) = aQ (cT 7) 4 (q4 ad q) := (ho_G_70 _ (by omega)).trans hc_37
            have hc_81 : G_70 (87 + q) = aI cT 4 (sf q) := (ho_G_70 _ (by omega)).trans hc_38
            have hc_82 : G_70 (72 + 5 * q + ro) = aJ cT 48 (va_up (gvF (rf q ro) 0 u (layF ch a w)) u (lz a w u)) := hg_G_70
            have hfr_83 : ∀ j, (j ≠ 69 ∧ j ≠ 72 + 5 * q + ro ∧ j ≠ 87 + q) → G_70 j = G j := fun j hj => (ho_G_70 j (by omega)).trans (hfM j hj)
            refine lv_lload hx hb dX3_lay_91 (lv_at hl 1 rfl) ?_
            refine lv_lload hx hb dX3_lay_93 (lv_at hl 4 rfl) ?_
            refine lv_ladd hx hb dX3_lay_95 ?_
            refine lv_lstore (lv' := [(10, .long ((lz a w u) + w)), (12, .int (nI u)), (9, .int (nI (sf q ro))), (8, .int (nI q)), (6, .long w), (4, .long a), (3, .int (nI t)), (2, .int (nI ro)), (1, .int (nI ch)), (0, .ref (ad 69))]) hx hb dX3_lay_96 hl (by decide) rfl (fun ls hl => ?_)
            refine lv_iinc (v := nI (u + 1)) (lv' := [(12, .int (nI (u + 1))), (10, .long ((lz a w u) + w)), (9, .int (nI (sf q ro))), (8, .int (nI q)), (6, .long w), (4, .long a), (3, .int (nI t)), (2, .int (nI ro)), (1, .int (nI ch)), (0, .ref (ad 69))]) hx hb dX3_lay_98 hl (k := 1) rfl (by exact nI_add u 1) (by decide) rfl (fun ls hl => ?_)
            refine lv_goto (tgt := 58) hx hb dX3_lay_101 (by decide) ?_
            have hfn_84 : ∀ j, j ≠ 72 + 5 * q + ro → G_70 j = G_8 j := fun j hj => (ho_G_70 j hj).trans (hfL j hj)
            exact ih_26 (u + 1) (by omega) (by omega) _ _ _ (hfn_84) (hc_82.trans (congrArg (aJ cT 48) (by have hgs := gvF_step (rf q ro) 0 u (layF ch a w); rw [Nat.zero_add] at hgs; rw [← hgs, show layF ch a w u = _ from if_pos ((kd_l hkq).mp (by omega))]))) hP hS ls (lv_sub hl [0, 1, 2, 3, 4, 5, 6, 7, 8, 9] rfl)
    exact key_24 _ 0 (by omega) (Nat.lt_succ_self _) _ _ _ (fun _ _ => rfl) (by rw [hg0]; exact hc_21) hP hS ls (lv_sub hl [0, 1, 2, 3, 9, 8, 7, 6, 5, 4] rfl)

set_option maxHeartbeats 4000000 in
set_option maxRecDepth 100000 in
theorem mX3_lay_no (l : Launch) (D : va_G) (cT : Nat → ClassId) (n : Nat) (ad : Nat → Nat) (A : Nat → Prop) (hD : ∀ G, va_D A (gw n ad G)) (G : Nat → va_E) (hn : 114 ≤ n) (σ : TY) (hI : YI σ) (th : Nat) (hM : MW cT ad G σ th) (ch : Nat) (hch : ch < 65536) (x y : Int32) (a w : Int64) (E : String) (hpx : ((y < 0 ∨ nI 48 < y) ∧ E = xIA) ∨ (∃ t, t ≤ 48 ∧ y = nI t ∧ pxRow ch x E)) : Met l yX3_lay (wA yX3_lay cX3_lay 13 (some .int)) ({ frames := 1, cells := 0, slots := 0, locals := 23 } : Room) (PG D cT n ad A G [.ref (ad 69), .int (nI ch), .int x, .int y, .long a, .long w]) (QG D n ad A (fun v G1 => ((∃ z, v = some (.int z)) ∧ MW cT ad G1 σ (cd [xIA, xIO] E)) ∧ ∀ j, (j < 69 ∨ 114 ≤ j) → G1 j = G j)) 0 0 A := by
  refine Met.ofG (cc := cX3_lay) (maxL := 13) (ret := (some .int)) (by decide) (Nat.le_of_ble_eq_true rfl) ?_
  intro p e s m args below meth c Q hQ hx hb hr hml hlocks hown hw hP hK hE hA hS ls hl
  have hl : lv_has ls 13 [(0, .ref (ad 69)), (1, .int (nI ch)), (2, .int x), (3, .int y), (4, .long a), (6, .long w)] := hl
  obtain ⟨rf, sf, pf, zf, xf, kf, lf, mf, hC, hMA⟩ := hM
  rcases hpx with ⟨hyb, rfl⟩ | ⟨t, ht, rfl, hpx⟩
  · skip
    rcases Decidable.em (kdx ch = 3) with hkd | hkd
    · skip
      rcases ix_cases x (N := 4) (by decide) with hrb | ⟨ro, hro, rfl⟩
      · skip
        refine lv_iload_n hx hb dX3_lay_0 rfl (lv_at hl 1 rfl) ?_
        refine g_callS (As := [.int (nI ch)]) (rest := []) ⟨hx, hb, hml, hown, hw⟩ (mX3_kind l D cT n ad A hD G ch (by omega)) (va_cwS 1 hw (gWS wm_X3_51 wst_X3_kind wini_X3 wc_X3_kind) rfl rfl rfl (by decide +kernel) ⟨Nat.le_of_ble_eq_true rfl, Nat.le_of_ble_eq_true rfl⟩) hK hE hA hP hS rfl hl.1 (lv_room (Nat.le_of_ble_eq_true rfl)) dX3_lay_1 ⟨Nat.le_of_ble_eq_true rfl, Nat.le_of_ble_eq_true rfl⟩ (fun v_2 G_1 H locs hp hP hS => ?_)
        obtain ⟨hv9, hg9⟩ := hp
        subst hv9
        rw [hg9] at hP
        refine t_eqi (-1) (if_pos hkd) ?_
        refine lv_istore (lv' := [(8, .int (-1)), (0, .ref (ad 69)), (1, .int (nI ch)), (2, .int x), (3, .int y), (4, .long a), (6, .long w)]) hx hb dX3_lay_4 hl (by decide) rfl (fun ls hl => ?_)
        refine lv_aload_n hx hb dX3_lay_6 rfl (lv_at hl 1 rfl) ?_
        refine lv_iload hx hb dX3_lay_7 (lv_at hl 0 rfl) ?_
        refine lv_if_lt (tgt := 26) hx hb dX3_lay_9 (by decide) (fun h9 => ?_) (fun h9 => absurd (by decide) h9)
        refine lv_iconst (v := nI 0) hx hb dX3_lay_26 (by decide) ?_
        refine lv_iload_n hx hb dX3_lay_27 rfl (lv_at hl 3 rfl) ?_
        refine g_callS (As := [.int x]) (rest := [.int (nI 0), .ref (ad 69)]) ⟨hx, hb, hml, hown, hw⟩ (mX3_isRow l D cT n ad A hD G x) (va_cwS 1 hw (gWS wm_X3_59 wst_X3_isRow wini_X3 wc_X3_isRow) rfl rfl rfl (by decide +kernel) ⟨Nat.le_of_ble_eq_true rfl, Nat.le_of_ble_eq_true rfl⟩) hK hE hA hP hS rfl hl.1 (lv_room (Nat.le_of_ble_eq_true rfl)) dX3_lay_28 ⟨Nat.le_of_ble_eq_true rfl, Nat.le_of_ble_eq_true rfl⟩ (fun v_4 G_3 H locs hp hP hS => ?_)
        obtain ⟨hv9, hg9⟩ := hp
        subst hv9
        rw [hg9] at hP
        refine t_eqi (nI 0) (congrArg nI (if_pos hrb)) ?_
        refine lv_iconst (v := nI 1) hx hb dX3_lay_31 (by decide) ?_
        refine g_callV (As := [.int (nI 0), .int (nI 0), .int (nI 1)]) (rest := []) ⟨hx, hb, hml, hown, hw⟩ (mX3_can l D cT n ad A hD G hn th 0 0 1 (by decide) (by decide) (by decide) hC.1) (cwV 3 hw (gWV wm_X3_63 wi_X3_can wse_X3_can wini_X3 wc_X3_can) rfl rfl rfl (by decide +kernel) ⟨Nat.le_of_ble_eq_true rfl, Nat.le_of_ble_eq_true rfl⟩) hK hE hA hP hS (k := 69) (by omega) hC.1 rfl rfl hl.1 (lv_room (Nat.le_of_ble_eq_true rfl)) dX3_lay_32 ⟨Nat.le_of_ble_eq_true rfl, Nat.le_of_ble_eq_true rfl⟩ (fun v_6 G_5 H locs hp hP hS => ?_)
        obtain ⟨rfl, hg_G_5, ho_G_5⟩ := hp
        have hc_7 : G_5 69 = .inr (5, [.ref (ad 70), .ref (ad 86), .ref (ad 90), .ref (ad 97), .ref (ad 98), .ref (ad 99), .ref (ad 106), .ref (ad 113), .int (nI 1)]) := hg_G_5
        have hc_8 : G_5 70 = aQ (cT 10) 3 (q3 ad) := (ho_G_5 _ (by omega)).trans hC.2.1
        have hc_9 : G_5 86 = aQ (cT 8) 3 (qS ad) := (ho_G_5 _ (by omega)).trans hC.2.2.2.2.1
        have hc_10 : G_5 90 = aQ (cT 7) 6 (qP ad) := (ho_G_5 _ (by omega)).trans hC.2.2.2.2.2.2.1
        have hc_11 : G_5 97 = aI cT 6 zf := (ho_G_5 _ (by omega)).trans hC.2.2.2.2.2.2.2.2.1
        have hc_12 : G_5 98 = aZ cT 6 xf := (ho_G_5 _ (by omega)).trans hC.2.2.2.2.2.2.2.2.2.1
        have hc_13 : G_5 99 = aQ (cT 9) 6 (qK ad) := (ho_G_5 _ (by omega)).trans hC.2.2.2.2.2.2.2.2.2.2.1
        have hc_14 : G_5 106 = aQ (cT 8) 6 (qL ad) := (ho_G_5 _ (by omega)).trans hC.2.2.2.2.2.2.2.2.2.2.2.2.1
        have hc_15 : G_5 113 = aI cT 6 mf := (ho_G_5 _ (by omega)).trans hC.2.2.2.2.2.2.2.2.2.2.2.2.2.2.1
        have hfr_16 : ∀ j, (j ≠ 69) → G_5 j = G j := fun j hj => (ho_G_5 j (by omega)).trans (rfl)
        refine t_eqi (nI 0) rfl ?_
        refine t_if_ne (tgt := 40) hx hb dX3_lay_35 (by decide) (by omega) (fun c_17 => absurd c_17 (by omega)) (fun c_17 => ?_)
        refine lv_iconst (v := nI 0) hx hb dX3_lay_38 (by decide) ?_
        refine g_ret hQ hx hb hr hlocks rfl hP hS (⟨⟨⟨_, rfl⟩, by rw [show cd [xIA, xIO] xIA = 1 from by decide +kernel]; exact MW.same hC hMA hc_7 (fun j9 _ _ hj9 => hfr_16 j9 hj9)⟩, fun j hj => hfr_16 j (by omega)⟩) (Nat.le_of_ble_eq_true rfl) (Nat.le_of_ble_eq_true rfl) dX3_lay_39
      · skip
        refine lv_iload_n hx hb dX3_lay_0 rfl (lv_at hl 1 rfl) ?_
        refine g_callS (As := [.int (nI ch)]) (rest := []) ⟨hx, hb, hml, hown, hw⟩ (mX3_kind l D cT n ad A hD G ch (by omega)) (va_cwS 1 hw (gWS wm_X3_51 wst_X3_kind wini_X3 wc_X3_kind) rfl rfl rfl (by decide +kernel) ⟨Nat.le_of_ble_eq_true rfl, Nat.le_of_ble_eq_true rfl⟩) hK hE hA hP hS rfl hl.1 (lv_room (Nat.le_of_ble_eq_true rfl)) dX3_lay_1 ⟨Nat.le_of_ble_eq_true rfl, Nat.le_of_ble_eq_true rfl⟩ (fun v_19 G_18 H locs hp hP hS => ?_)
        obtain ⟨hv9, hg9⟩ := hp
        subst hv9
        rw [hg9] at hP
        refine t_eqi (-1) (if_pos hkd) ?_
        refine lv_istore (lv' := [(8, .int (-1)), (0, .ref (ad 69)), (1, .int (nI ch)), (2, .int (nI ro)), (3, .int y), (4, .long a), (6, .long w)]) hx hb dX3_lay_4 hl (by decide) rfl (fun ls hl => ?_)
        refine lv_aload_n hx hb dX3_lay_6 rfl (lv_at hl 1 rfl) ?_
        refine lv_iload hx hb dX3_lay_7 (lv_at hl 0 rfl) ?_
        refine lv_if_lt (tgt := 26) hx hb dX3_lay_9 (by decide) (fun h9 => ?_) (fun h9 => absurd (by decide) h9)
        refine lv_iconst (v := nI 0) hx hb dX3_lay_26 (by decide) ?_
        refine lv_iload_n hx hb dX3_lay_27 rfl (lv_at hl 3 rfl) ?_
        refine g_callS (As := [.int (nI ro)]) (rest := [.int (nI 0), .ref (ad 69)]) ⟨hx, hb, hml, hown, hw⟩ (mX3_isRow l D cT n ad A hD G (nI ro)) (va_cwS 1 hw (gWS wm_X3_59 wst_X3_isRow wini_X3 wc_X3_isRow) rfl rfl rfl (by decide +kernel) ⟨Nat.le_of_ble_eq_true rfl, Nat.le_of_ble_eq_true rfl⟩) hK hE hA hP hS rfl hl.1 (lv_room (Nat.le_of_ble_eq_true rfl)) dX3_lay_28 ⟨Nat.le_of_ble_eq_true rfl, Nat.le_of_ble_eq_true rfl⟩ (fun v_21 G_20 H locs hp hP hS => ?_)
        obtain ⟨hv9, hg9⟩ := hp
        subst hv9
        rw [hg9] at hP
        refine t_eqi (nI 1) (congrArg nI (if_neg (ix_ok (by omega) (by decide)))) ?_
        refine lv_iconst (v := nI 1) hx hb dX3_lay_31 (by decide) ?_
        refine g_callV (As := [.int (nI 0), .int (nI 1), .int (nI 1)]) (rest := []) ⟨hx, hb, hml, hown, hw⟩ (mX3_can l D cT n ad A hD G hn th 0 1 1 (by decide) (by decide) (by decide) hC.1) (cwV 3 hw (gWV wm_X3_63 wi_X3_can wse_X3_can wini_X3 wc_X3_can) rfl rfl rfl (by decide +kernel) ⟨Nat.le_of_ble_eq_true rfl, Nat.le_of_ble_eq_true rfl⟩) hK hE hA hP hS (k := 69) (by omega) hC.1 rfl rfl hl.1 (lv_room (Nat.le_of_ble_eq_true rfl)) dX3_lay_32 ⟨Nat.le_of_ble_eq_true rfl, Nat.le_of_ble_eq_true rfl⟩ (fun v_23 G_22 H locs hp hP hS => ?_)
        obtain ⟨rfl, hg_G_22, ho_G_22⟩ := hp
        have hc_24 : G_22 69 = .inr (5, [.ref (ad 70), .ref (ad 86), .ref (ad 90), .ref (ad 97), .ref (ad 98), .ref (ad 99), .ref (ad 106), .ref (ad 113), .int (nI 1)]) := hg_G_22
        have hc_25 : G_22 70 = aQ (cT 10) 3 (q3 ad) := (ho_G_22 _ (by omega)).trans hC.2.1
        have hc_26 : G_22 86 = aQ (cT 8) 3 (qS ad) := (ho_G_22 _ (by omega)).trans hC.2.2.2.2.1
        have hc_27 : G_22 90 = aQ (cT 7) 6 (qP ad) := (ho_G_22 _ (by omega)).trans hC.2.2.2.2.2.2.1
        have hc_28 : G_22 97 = aI cT 6 zf := (ho_G_22 _ (by omega)).trans hC.2.2.2.2.2.2.2.2.1
        have hc_29 : G_22 98 = aZ cT 6 xf := (ho_G_22 _ (by omega)).trans hC.2.2.2.2.2.2.2.2.2.1
        have hc_30 : G_22 99 = aQ (cT 9) 6 (qK ad) := (ho_G_22 _ (by omega)).trans hC.2.2.2.2.2.2.2.2.2.2.1
        have hc_31 : G_22 106 = aQ (cT 8) 6 (qL ad) := (ho_G_22 _ (by omega)).trans hC.2.2.2.2.2.2.2.2.2.2.2.2.1
        have hc_32 : G_22 113 = aI cT 6 mf := (ho_G_22 _ (by omega)).trans hC.2.2.2.2.2.2.2.2.2.2.2.2.2.2.1
        have hfr_33 : ∀ j, (j ≠ 69) → G_22 j = G j := fun j hj => (ho_G_22 j (by omega)).trans (rfl)
        refine t_eqi (nI 0) rfl ?_
        refine t_if_ne (tgt := 40) hx hb dX3_lay_35 (by decide) (by omega) (fun c_34 => absurd c_34 (by omega)) (fun c_34 => ?_)
        refine lv_iconst (v := nI 0) hx hb dX3_lay_38 (by decide) ?_
        refine g_ret hQ hx hb hr hlocks rfl hP hS (⟨⟨⟨_, rfl⟩, by rw [show cd [xIA, xIO] xIA = 1 from by decide +kernel]; exact MW.same hC hMA hc_24 (fun j9 _ _ hj9 => hfr_33 j9 hj9)⟩, fun j hj => hfr_33 j (by omega)⟩) (Nat.le_of_ble_eq_true rfl) (Nat.le_of_ble_eq_true rfl) dX3_lay_39
    · skip
      obtain ⟨q, hkq⟩ : ∃ q, kdx ch = q := ⟨_, rfl⟩
      have hkl9 := kdx_le ch
      have hq : q < 3 := by omega
      rcases ix_cases x (N := 4) (by decide) with hrb | ⟨ro, hro, rfl⟩
      · skip
        refine lv_iload_n hx hb dX3_lay_0 rfl (lv_at hl 1 rfl) ?_
        refine g_callS (As := [.int (nI ch)]) (rest := []) ⟨hx, hb, hml, hown, hw⟩ (mX3_kind l D cT n ad A hD G ch (by omega)) (va_cwS 1 hw (gWS wm_X3_51 wst_X3_kind wini_X3 wc_X3_kind) rfl rfl rfl (by decide +kernel) ⟨Nat.le_of_ble_eq_true rfl, Nat.le_of_ble_eq_true rfl⟩) hK hE hA hP hS rfl hl.1 (lv_room (Nat.le_of_ble_eq_true rfl)) dX3_lay_1 ⟨Nat.le_of_ble_eq_true rfl, Nat.le_of_ble_eq_true rfl⟩ (fun v_36 G_35 H locs hp hP hS => ?_)
        obtain ⟨hv9, hg9⟩ := hp
        subst hv9
        rw [hg9] at hP
        refine t_eqi (nI q) ((if_neg (by omega)).trans (congrArg nI hkq)) ?_
        refine lv_istore (lv' := [(8, .int (nI q)), (0, .ref (ad 69)), (1, .int (nI ch)), (2, .int x), (3, .int y), (4, .long a), (6, .long w)]) hx hb dX3_lay_4 hl (by decide) rfl (fun ls hl => ?_)
        refine lv_aload_n hx hb dX3_lay_6 rfl (lv_at hl 1 rfl) ?_
        refine lv_iload hx hb dX3_lay_7 (lv_at hl 0 rfl) ?_
        refine t_if_lt (tgt := 26) hx hb dX3_lay_9 (by decide) (by omega) ?_
        refine lv_iload_n hx hb dX3_lay_12 rfl (lv_at hl 4 rfl) ?_
        refine lv_if_lt (tgt := 26) hx hb dX3_lay_13 (by decide) (fun c_38 => ?_) (fun c_38 => ?_)
        · skip
          refine lv_iconst (v := nI 0) hx hb dX3_lay_26 (by decide) ?_
          refine lv_iload_n hx hb dX3_lay_27 rfl (lv_at hl 3 rfl) ?_
          refine g_callS (As := [.int x]) (rest := [.int (nI 0), .ref (ad 69)]) ⟨hx, hb, hml, hown, hw⟩ (mX3_isRow l D cT n ad A hD G x) (va_cwS 1 hw (gWS wm_X3_59 wst_X3_isRow wini_X3 wc_X3_isRow) rfl rfl rfl (by decide +kernel) ⟨Nat.le_of_ble_eq_true rfl, Nat.le_of_ble_eq_true rfl⟩) hK hE hA hP hS rfl hl.1 (lv_room (Nat.le_of_ble_eq_true rfl)) dX3_lay_28 ⟨Nat.le_of_ble_eq_true rfl, Nat.le_of_ble_eq_true rfl⟩ (fun v_40 G_39 H locs hp hP hS => ?_)
          obtain ⟨hv9, hg9⟩ := hp
          subst hv9
          rw [hg9] at hP
          refine t_eqi (nI 0) (congrArg nI (if_pos hrb)) ?_
          refine lv_iconst (v := nI 1) hx hb dX3_lay_31 (by decide) ?_
          refine g_callV (As := [.int (nI 0), .int (nI 0), .int (nI 1)]) (rest := []) ⟨hx, hb, hml, hown, hw⟩ (mX3_can l D cT n ad A hD G hn th 0 0 1 (by decide) (by decide) (by decide) hC.1) (cwV 3 hw (gWV wm_X3_63 wi_X3_can wse_X3_can wini_X3 wc_X3_can) rfl rfl rfl (by decide +kernel) ⟨Nat.le_of_ble_eq_true rfl, Nat.le_of_ble_eq_true rfl⟩) hK hE hA hP hS (k := 69) (by omega) hC.1 rfl rfl hl.1 (lv_room (Nat.le_of_ble_eq_true rfl)) dX3_lay_32 ⟨Nat.le_of_ble_eq_true rfl, Nat.le_of_ble_eq_true rfl⟩ (fun v_42 G_41 H locs hp hP hS => ?_)
          obtain ⟨rfl, hg_G_41, ho_G_41⟩ := hp
          have hc_43 : G_41 69 = .inr (5, [.ref (ad 70), .ref (ad 86), .ref (ad 90), .ref (ad 97), .ref (ad 98), .ref (ad 99), .ref (ad 106), .ref (ad 113), .int (nI 1)]) := hg_G_41
          have hc_44 : G_41 70 = aQ (cT 10) 3 (q3 ad) := (ho_G_41 _ (by omega)).trans hC.2.1
          have hc_45 : G_41 86 = aQ (cT 8) 3 (qS ad) := (ho_G_41 _ (by omega)).trans hC.2.2.2.2.1
          have hc_46 : G_41 90 = aQ (cT 7) 6 (qP ad) := (ho_G_41 _ (by omega)).trans hC.2.2.2.2.2.2.1
          have hc_47 : G_41 97 = aI cT 6 zf := (ho_G_41 _ (by omega)).trans hC.2.2.2.2.2.2.2.2.1
          have hc_48 : G_41 98 = aZ cT 6 xf := (ho_G_41 _ (by omega)).trans hC.2.2.2.2.2.2.2.2.2.1
          have hc_49 : G_41 99 = aQ (cT 9) 6 (qK ad) := (ho_G_41 _ (by omega)).trans hC.2.2.2.2.2.2.2.2.2.2.1
          have hc_50 : G_41 106 = aQ (cT 8) 6 (qL ad) := (ho_G_41 _ (by omega)).trans hC.2.2.2.2.2.2.2.2.2.2.2.2.1
          have hc_51 : G_41 113 = aI cT 6 mf := (ho_G_41 _ (by omega)).trans hC.2.2.2.2.2.2.2.2.2.2.2.2.2.2.1
          have hfr_52 : ∀ j, (j ≠ 69) → G_41 j = G j := fun j hj => (ho_G_41 j (by omega)).trans (rfl)
          refine t_eqi (nI 0) rfl ?_
          refine t_if_ne (tgt := 40) hx hb dX3_lay_35 (by decide) (by omega) (fun c_53 => absurd c_53 (by omega)) (fun c_53 => ?_)
          refine lv_iconst (v := nI 0) hx hb dX3_lay_38 (by decide) ?_
          refine g_ret hQ hx hb hr hlocks rfl hP hS (⟨⟨⟨_, rfl⟩, by rw [show cd [xIA, xIO] xIA = 1 from by decide +kernel]; exact MW.same hC hMA hc_43 (fun j9 _ _ hj9 => hfr_52 j9 hj9)⟩, fun j hj => hfr_52 j (by omega)⟩) (Nat.le_of_ble_eq_true rfl) (Nat.le_of_ble_eq_true rfl) dX3_lay_39
        · skip
          refine lv_iload_n hx hb dX3_lay_16 rfl (lv_at hl 4 rfl) ?_
          refine lv_bipush (v := nI 48) hx hb dX3_lay_17 (by decide) ?_
          refine lv_icmp_gt (tgt := 26) hx hb dX3_lay_19 (by decide) (fun c_54 => ?_) (fun c_54 => ?_)
          · skip
            refine lv_iconst (v := nI 0) hx hb dX3_lay_26 (by decide) ?_
            refine lv_iload_n hx hb dX3_lay_27 rfl (lv_at hl 3 rfl) ?_
            refine g_callS (As := [.int x]) (rest := [.int (nI 0), .ref (ad 69)]) ⟨hx, hb, hml, hown, hw⟩ (mX3_isRow l D cT n ad A hD G x) (va_cwS 1 hw (gWS wm_X3_59 wst_X3_isRow wini_X3 wc_X3_isRow) rfl rfl rfl (by decide +kernel) ⟨Nat.le_of_ble_eq_true rfl, Nat.le_of_ble_eq_true rfl⟩) hK hE hA hP hS rfl hl.1 (lv_room (Nat.le_of_ble_eq_true rfl)) dX3_lay_28 ⟨Nat.le_of_ble_eq_true rfl, Nat.le_of_ble_eq_true rfl⟩ (fun v_56 G_55 H locs hp hP hS => ?_)
            obtain ⟨hv9, hg9⟩ := hp
            subst hv9
            rw [hg9] at hP
            refine t_eqi (nI 0) (congrArg nI (if_pos hrb)) ?_
            refine lv_iconst (v := nI 1) hx hb dX3_lay_31 (by decide) ?_
            refine g_callV (As := [.int (nI 0), .int (nI 0), .int (nI 1)]) (rest := []) ⟨hx, hb, hml, hown, hw⟩ (mX3_can l D cT n ad A hD G hn th 0 0 1 (by decide) (by decide) (by decide) hC.1) (cwV 3 hw (gWV wm_X3_63 wi_X3_can wse_X3_can wini_X3 wc_X3_can) rfl rfl rfl (by decide +kernel) ⟨Nat.le_of_ble_eq_true rfl, Nat.le_of_ble_eq_true rfl⟩) hK hE hA hP hS (k := 69) (by omega) hC.1 rfl rfl hl.1 (lv_room (Nat.le_of_ble_eq_true rfl)) dX3_lay_32 ⟨Nat.le_of_ble_eq_true rfl, Nat.le_of_ble_eq_true rfl⟩ (fun v_58 G_57 H locs hp hP hS => ?_)
            obtain ⟨rfl, hg_G_57, ho_G_57⟩ := hp
            have hc_59 : G_57 69 = .inr (5, [.ref (ad 70), .ref (ad 86), .ref (ad 90), .ref (ad 97), .ref (ad 98), .ref (ad 99), .ref (ad 106), .ref (ad 113), .int (nI 1)]) := hg_G_57
            have hc_60 : G_57 70 = aQ (cT 10) 3 (q3 ad) := (ho_G_57 _ (by omega)).trans hC.2.1
            have hc_61 : G_57 86 = aQ (cT 8) 3 (qS ad) := (ho_G_57 _ (by omega)).trans hC.2.2.2.2.1
            have hc_62 : G_57 90 = aQ (cT 7) 6 (qP ad) := (ho_G_57 _ (by omega)).trans hC.2.2.2.2.2.2.1
            have hc_63 : G_57 97 = aI cT 6 zf := (ho_G_57 _ (by omega)).trans hC.2.2.2.2.2.2.2.2.1
            have hc_64 : G_57 98 = aZ cT 6 xf := (ho_G_57 _ (by omega)).trans hC.2.2.2.2.2.2.2.2.2.1
            have hc_65 : G_57 99 = aQ (cT 9) 6 (qK ad) := (ho_G_57 _ (by omega)).trans hC.2.2.2.2.2.2.2.2.2.2.1
            have hc_66 : G_57 106 = aQ (cT 8) 6 (qL ad) := (ho_G_57 _ (by omega)).trans hC.2.2.2.2.2.2.2.2.2.2.2.2.1
            have hc_67 : G_57 113 = aI cT 6 mf := (ho_G_57 _ (by omega)).trans hC.2.2.2.2.2.2.2.2.2.2.2.2.2.2.1
            have hfr_68 : ∀ j, (j ≠ 69) → G_57 j = G j := fun j hj => (ho_G_57 j (by omega)).trans (rfl)
            refine t_eqi (nI 0) rfl ?_
            refine t_if_ne (tgt := 40) hx hb dX3_lay_35 (by decide) (by omega) (fun c_69 => absurd c_69 (by omega)) (fun c_69 => ?_)
            refine lv_iconst (v := nI 0) hx hb dX3_lay_38 (by decide) ?_
            refine g_ret hQ hx hb hr hlocks rfl hP hS (⟨⟨⟨_, rfl⟩, by rw [show cd [xIA, xIO] xIA = 1 from by decide +kernel]; exact MW.same hC hMA hc_59 (fun j9 _ _ hj9 => hfr_68 j9 hj9)⟩, fun j hj => hfr_68 j (by omega)⟩) (Nat.le_of_ble_eq_true rfl) (Nat.le_of_ble_eq_true rfl) dX3_lay_39
          · skip
            exact absurd hyb (fun q9 => q9.elim c_38 c_54)
      · skip
        obtain ⟨hsz, hrv⟩ := hMA.1 q (by omega) ro (by omega)
        have hrc := hI.1 (4 * q + ro) (by omega)
        refine lv_iload_n hx hb dX3_lay_0 rfl (lv_at hl 1 rfl) ?_
        refine g_callS (As := [.int (nI ch)]) (rest := []) ⟨hx, hb, hml, hown, hw⟩ (mX3_kind l D cT n ad A hD G ch (by omega)) (va_cwS 1 hw (gWS wm_X3_51 wst_X3_kind wini_X3 wc_X3_kind) rfl rfl rfl (by decide +kernel) ⟨Nat.le_of_ble_eq_true rfl, Nat.le_of_ble_eq_true rfl⟩) hK hE hA hP hS rfl hl.1 (lv_room (Nat.le_of_ble_eq_true rfl)) dX3_lay_1 ⟨Nat.le_of_ble_eq_true rfl, Nat.le_of_ble_eq_true rfl⟩ (fun v_71 G_70 H locs hp hP hS => ?_)
        obtain ⟨hv9, hg9⟩ := hp
        subst hv9
        rw [hg9] at hP
        refine t_eqi (nI q) ((if_neg (by omega)).trans (congrArg nI hkq)) ?_
        refine lv_istore (lv' := [(8, .int (nI q)), (0, .ref (ad 69)), (1, .int (nI ch)), (2, .int (nI ro)), (3, .int y), (4, .long a), (6, .long w)]) hx hb dX3_lay_4 hl (by decide) rfl (fun ls hl => ?_)
        refine lv_aload_n hx hb dX3_lay_6 rfl (lv_at hl 1 rfl) ?_
        refine lv_iload hx hb dX3_lay_7 (lv_at hl 0 rfl) ?_
        refine t_if_lt (tgt := 26) hx hb dX3_lay_9 (by decide) (by omega) ?_
        refine lv_iload_n hx hb dX3_lay_12 rfl (lv_at hl 4 rfl) ?_
        refine lv_if_lt (tgt := 26) hx hb dX3_lay_13 (by decide) (fun c_73 => ?_) (fun c_73 => ?_)
        · skip
          refine lv_iconst (v := nI 0) hx hb dX3_lay_26 (by decide) ?_
          refine lv_iload_n hx hb dX3_lay_27 rfl (lv_at hl 3 rfl) ?_
          refine g_callS (As := [.int (nI ro)]) (rest := [.int (nI 0), .ref (ad 69)]) ⟨hx, hb, hml, hown, hw⟩ (mX3_isRow l D cT n ad A hD G (nI ro)) (va_cwS 1 hw (gWS wm_X3_59 wst_X3_isRow wini_X3 wc_X3_isRow) rfl rfl rfl (by decide +kernel) ⟨Nat.le_of_ble_eq_true rfl, Nat.le_of_ble_eq_true rfl⟩) hK hE hA hP hS rfl hl.1 (lv_room (Nat.le_of_ble_eq_true rfl)) dX3_lay_28 ⟨Nat.le_of_ble_eq_true rfl, Nat.le_of_ble_eq_true rfl⟩ (fun v_75 G_74 H locs hp hP hS => ?_)
          obtain ⟨hv9, hg9⟩ := hp
          subst hv9
          rw [hg9] at hP
          refine t_eqi (nI 1) (congrArg nI (if_neg (ix_ok (by omega) (by decide)))) ?_
          refine lv_iconst (v := nI 1) hx hb dX3_lay_31 (by decide) ?_
          refine g_callV (As := [.int (nI 0), .int (nI 1), .int (nI 1)]) (rest := []) ⟨hx, hb, hml, hown, hw⟩ (mX3_can l D cT n ad A hD G hn th 0 1 1 (by decide) (by decide) (by decide) hC.1) (cwV 3 hw (gWV wm_X3_63 wi_X3_can wse_X3_can wini_X3 wc_X3_can) rfl rfl rfl (by decide +kernel) ⟨Nat.le_of_ble_eq_true rfl, Nat.le_of_ble_eq_true rfl⟩) hK hE hA hP hS (k := 69) (by omega) hC.1 rfl rfl hl.1 (lv_room (Nat.le_of_ble_eq_true rfl)) dX3_lay_32 ⟨Nat.le_of_ble_eq_true rfl, Nat.le_of_ble_eq_true rfl⟩ (fun v_77 G_76 H locs hp hP hS => ?_)
          obtain ⟨rfl, hg_G_76, ho_G_76⟩ := hp
          have hc_78 : G_76 69 = .inr (5, [.ref (ad 70), .ref (ad 86), .ref (ad 90), .ref (ad 97), .ref (ad 98), .ref (ad 99), .ref (ad 106), .ref (ad 113), .int (nI 1)]) := hg_G_76
          have hc_79 : G_76 70 = aQ (cT 10) 3 (q3 ad) := (ho_G_76 _ (by omega)).trans hC.2.1
          have hc_80 : G_76 86 = aQ (cT 8) 3 (qS ad) := (ho_G_76 _ (by omega)).trans hC.2.2.2.2.1
          have hc_81 : G_76 90 = aQ (cT 7) 6 (qP ad) := (ho_G_76 _ (by omega)).trans hC.2.2.2.2.2.2.1
          have hc_82 : G_76 97 = aI cT 6 zf := (ho_G_76 _ (by omega)).trans hC.2.2.2.2.2.2.2.2.1
          have hc_83 : G_76 98 = aZ cT 6 xf := (ho_G_76 _ (by omega)).trans hC.2.2.2.2.2.2.2.2.2.1
          have hc_84 : G_76 99 = aQ (cT 9) 6 (qK ad) := (ho_G_76 _ (by omega)).trans hC.2.2.2.2.2.2.2.2.2.2.1
          have hc_85 : G_76 106 = aQ (cT 8) 6 (qL ad) := (ho_G_76 _ (by omega)).trans hC.2.2.2.2.2.2.2.2.2.2.2.2.1
          have hc_86 : G_76 113 = aI cT 6 mf := (ho_G_76 _ (by omega)).trans hC.2.2.2.2.2.2.2.2.2.2.2.2.2.2.1
          have hc_87 : G_76 (71 + 5 * q) = aQ (cT 7) 4 (q4 ad q) := (ho_G_76 _ (by omega)).trans (hC.2.2.1 q (by omega))
          have hc_88 : G_76 (87 + q) = aI cT 4 (sf q) := (ho_G_76 _ (by omega)).trans (hC.2.2.2.2.2.1 q (by omega))
          have hc_89 : G_76 (72 + 5 * q + ro) = aJ cT 48 (rf q ro) := (ho_G_76 _ (by omega)).trans (hC.2.2.2.1 q (by omega) ro (by omega))
          have hfr_90 : ∀ j, (j ≠ 69) → G_76 j = G j := fun j hj => (ho_G_76 j (by omega)).trans (rfl)
          refine t_eqi (nI 0) rfl ?_
          refine t_if_ne (tgt := 40) hx hb dX3_lay_35 (by decide) (by omega) (fun c_91 => absurd c_91 (by omega)) (fun c_91 => ?_)
          refine lv_iconst (v := nI 0) hx hb dX3_lay_38 (by decide) ?_
          refine g_ret hQ hx hb hr hlocks rfl hP hS (⟨⟨⟨_, rfl⟩, by rw [show cd [xIA, xIO] xIA = 1 from by decide +kernel]; exact MW.same hC hMA hc_78 (fun j9 _ _ hj9 => hfr_90 j9 hj9)⟩, fun j hj => hfr_90 j (by omega)⟩) (Nat.le_of_ble_eq_true rfl) (Nat.le_of_ble_eq_true rfl) dX3_lay_39
        · skip
          refine lv_iload_n hx hb dX3_lay_16 rfl (lv_at hl 4 rfl) ?_
          refine lv_bipush (v := nI 48) hx hb dX3_lay_17 (by decide) ?_
          refine lv_icmp_gt (tgt := 26) hx hb dX3_lay_19 (by decide) (fun c_92 => ?_) (fun c_92 => ?_)
          · skip
            refine lv_iconst (v := nI 0) hx hb dX3_lay_26 (by decide) ?_
            refine lv_iload_n hx hb dX3_lay_27 rfl (lv_at hl 3 rfl) ?_
            refine g_callS (As := [.int (nI ro)]) (rest := [.int (nI 0), .ref (ad 69)]) ⟨hx, hb, hml, hown, hw⟩ (mX3_isRow l D cT n ad A hD G (nI ro)) (va_cwS 1 hw (gWS wm_X3_59 wst_X3_isRow wini_X3 wc_X3_isRow) rfl rfl rfl (by decide +kernel) ⟨Nat.le_of_ble_eq_true rfl, Nat.le_of_ble_eq_true rfl⟩) hK hE hA hP hS rfl hl.1 (lv_room (Nat.le_of_ble_eq_true rfl)) dX3_lay_28 ⟨Nat.le_of_ble_eq_true rfl, Nat.le_of_ble_eq_true rfl⟩ (fun v_94 G_93 H locs hp hP hS => ?_)
            obtain ⟨hv9, hg9⟩ := hp
            subst hv9
            rw [hg9] at hP
            refine t_eqi (nI 1) (congrArg nI (if_neg (ix_ok (by omega) (by decide)))) ?_
            refine lv_iconst (v := nI 1) hx hb dX3_lay_31 (by decide) ?_
            refine g_callV (As := [.int (nI 0), .int (nI 1), .int (nI 1)]) (rest := []) ⟨hx, hb, hml, hown, hw⟩ (mX3_can l D cT n ad A hD G hn th 0 1 1 (by decide) (by decide) (by decide) hC.1) (cwV 3 hw (gWV wm_X3_63 wi_X3_can wse_X3_can wini_X3 wc_X3_can) rfl rfl rfl (by decide +kernel) ⟨Nat.le_of_ble_eq_true rfl, Nat.le_of_ble_eq_true rfl⟩) hK hE hA hP hS (k := 69) (by omega) hC.1 rfl rfl hl.1 (lv_room (Nat.le_of_ble_eq_true rfl)) dX3_lay_32 ⟨Nat.le_of_ble_eq_true rfl, Nat.le_of_ble_eq_true rfl⟩ (fun v_96 G_95 H locs hp hP hS => ?_)
            obtain ⟨rfl, hg_G_95, ho_G_95⟩ := hp
            have hc_97 : G_95 69 = .inr (5, [.ref (ad 70), .ref (ad 86), .ref (ad 90), .ref (ad 97), .ref (ad 98), .ref (ad 99), .ref (ad 106), .ref (ad 113), .int (nI 1)]) := hg_G_95
            have hc_98 : G_95 70 = aQ (cT 10) 3 (q3 ad) := (ho_G_95 _ (by omega)).trans hC.2.1
            have hc_99 : G_95 86 = aQ (cT 8) 3 (qS ad) := (ho_G_95 _ (by omega)).trans hC.2.2.2.2.1
            have hc_100 : G_95 90 = aQ (cT 7) 6 (qP ad) := (ho_G_95 _ (by omega)).trans hC.2.2.2.2.2.2.1
            have hc_101 : G_95 97 = aI cT 6 zf := (ho_G_95 _ (by omega)).trans hC.2.2.2.2.2.2.2.2.1
            have hc_102 : G_95 98 = aZ cT 6 xf := (ho_G_95 _ (by omega)).trans hC.2.2.2.2.2.2.2.2.2.1
            have hc_103 : G_95 99 = aQ (cT 9) 6 (qK ad) := (ho_G_95 _ (by omega)).trans hC.2.2.2.2.2.2.2.2.2.2.1
            have hc_104 : G_95 106 = aQ (cT 8) 6 (qL ad) := (ho_G_95 _ (by omega)).trans hC.2.2.2.2.2.2.2.2.2.2.2.2.1
            have hc_105 : G_95 113 = aI cT 6 mf := (ho_G_95 _ (by omega)).trans hC.2.2.2.2.2.2.2.2.2.2.2.2.2.2.1
            have hc_106 : G_95 (71 + 5 * q) = aQ (cT 7) 4 (q4 ad q) := (ho_G_95 _ (by omega)).trans (hC.2.2.1 q (by omega))
            have hc_107 : G_95 (87 + q) = aI cT 4 (sf q) := (ho_G_95 _ (by omega)).trans (hC.2.2.2.2.2.1 q (by omega))
            have hc_108 : G_95 (72 + 5 * q + ro) = aJ cT 48 (rf q ro) := (ho_G_95 _ (by omega)).trans (hC.2.2.2.1 q (by omega) ro (by omega))
            have hfr_109 : ∀ j, (j ≠ 69) → G_95 j = G j := fun j hj => (ho_G_95 j (by omega)).trans (rfl)
            refine t_eqi (nI 0) rfl ?_
            refine t_if_ne (tgt := 40) hx hb dX3_lay_35 (by decide) (by omega) (fun c_110 => absurd c_110 (by omega)) (fun c_110 => ?_)
            refine lv_iconst (v := nI 0) hx hb dX3_lay_38 (by decide) ?_
            refine g_ret hQ hx hb hr hlocks rfl hP hS (⟨⟨⟨_, rfl⟩, by rw [show cd [xIA, xIO] xIA = 1 from by decide +kernel]; exact MW.same hC hMA hc_97 (fun j9 _ _ hj9 => hfr_109 j9 hj9)⟩, fun j hj => hfr_109 j (by omega)⟩) (Nat.le_of_ble_eq_true rfl) (Nat.le_of_ble_eq_true rfl) dX3_lay_39
          · skip
            exact absurd hyb (fun q9 => q9.elim c_73 c_92)
  · skip
    rcases hpx with ⟨hkd, rfl⟩ | ⟨hk3, hrb, rfl⟩
    · skip
      rcases ix_cases x (N := 4) (by decide) with hrb | ⟨ro, hro, rfl⟩
      · skip
        refine lv_iload_n hx hb dX3_lay_0 rfl (lv_at hl 1 rfl) ?_
        refine g_callS (As := [.int (nI ch)]) (rest := []) ⟨hx, hb, hml, hown, hw⟩ (mX3_kind l D cT n ad A hD G ch (by omega)) (va_cwS 1 hw (gWS wm_X3_51 wst_X3_kind wini_X3 wc_X3_kind) rfl rfl rfl (by decide +kernel) ⟨Nat.le_of_ble_eq_true rfl, Nat.le_of_ble_eq_true rfl⟩) hK hE hA hP hS rfl hl.1 (lv_room (Nat.le_of_ble_eq_true rfl)) dX3_lay_1 ⟨Nat.le_of_ble_eq_true rfl, Nat.le_of_ble_eq_true rfl⟩ (fun v_112 G_111 H locs hp hP hS => ?_)
        obtain ⟨hv9, hg9⟩ := hp
        subst hv9
        rw [hg9] at hP
        refine t_eqi (-1) (if_pos hkd) ?_
        refine lv_istore (lv' := [(8, .int (-1)), (0, .ref (ad 69)), (1, .int (nI ch)), (2, .int x), (3, .int (nI t)), (4, .long a), (6, .long w)]) hx hb dX3_lay_4 hl (by decide) rfl (fun ls hl => ?_)
        refine lv_aload_n hx hb dX3_lay_6 rfl (lv_at hl 1 rfl) ?_
        refine lv_iload hx hb dX3_lay_7 (lv_at hl 0 rfl) ?_
        refine lv_if_lt (tgt := 26) hx hb dX3_lay_9 (by decide) (fun h9 => ?_) (fun h9 => absurd (by decide) h9)
        refine lv_iconst (v := nI 0) hx hb dX3_lay_26 (by decide) ?_
        refine lv_iload_n hx hb dX3_lay_27 rfl (lv_at hl 3 rfl) ?_
        refine g_callS (As := [.int x]) (rest := [.int (nI 0), .ref (ad 69)]) ⟨hx, hb, hml, hown, hw⟩ (mX3_isRow l D cT n ad A hD G x) (va_cwS 1 hw (gWS wm_X3_59 wst_X3_isRow wini_X3 wc_X3_isRow) rfl rfl rfl (by decide +kernel) ⟨Nat.le_of_ble_eq_true rfl, Nat.le_of_ble_eq_true rfl⟩) hK hE hA hP hS rfl hl.1 (lv_room (Nat.le_of_ble_eq_true rfl)) dX3_lay_28 ⟨Nat.le_of_ble_eq_true rfl, Nat.le_of_ble_eq_true rfl⟩ (fun v_114 G_113 H locs hp hP hS => ?_)
        obtain ⟨hv9, hg9⟩ := hp
        subst hv9
        rw [hg9] at hP
        refine t_eqi (nI 0) (congrArg nI (if_pos hrb)) ?_
        refine lv_iconst (v := nI 1) hx hb dX3_lay_31 (by decide) ?_
        refine g_callV (As := [.int (nI 0), .int (nI 0), .int (nI 1)]) (rest := []) ⟨hx, hb, hml, hown, hw⟩ (mX3_can l D cT n ad A hD G hn th 0 0 1 (by decide) (by decide) (by decide) hC.1) (cwV 3 hw (gWV wm_X3_63 wi_X3_can wse_X3_can wini_X3 wc_X3_can) rfl rfl rfl (by decide +kernel) ⟨Nat.le_of_ble_eq_true rfl, Nat.le_of_ble_eq_true rfl⟩) hK hE hA hP hS (k := 69) (by omega) hC.1 rfl rfl hl.1 (lv_room (Nat.le_of_ble_eq_true rfl)) dX3_lay_32 ⟨Nat.le_of_ble_eq_true rfl, Nat.le_of_ble_eq_true rfl⟩ (fun v_116 G_115 H locs hp hP hS => ?_)
        obtain ⟨rfl, hg_G_115, ho_G_115⟩ := hp
        have hc_117 : G_115 69 = .inr (5, [.ref (ad 70), .ref (ad 86), .ref (ad 90), .ref (ad 97), .ref (ad 98), .ref (ad 99), .ref (ad 106), .ref (ad 113), .int (nI 1)]) := hg_G_115
        have hc_118 : G_115 70 = aQ (cT 10) 3 (q3 ad) := (ho_G_115 _ (by omega)).trans hC.2.1
        have hc_119 : G_115 86 = aQ (cT 8) 3 (qS ad) := (ho_G_115 _ (by omega)).trans hC.2.2.2.2.1
        have hc_120 : G_115 90 = aQ (cT 7) 6 (qP ad) := (ho_G_115 _ (by omega)).trans hC.2.2.2.2.2.2.1
        have hc_121 : G_115 97 = aI cT 6 zf := (ho_G_115 _ (by omega)).trans hC.2.2.2.2.2.2.2.2.1
        have hc_122 : G_115 98 = aZ cT 6 xf := (ho_G_115 _ (by omega)).trans hC.2.2.2.2.2.2.2.2.2.1
        have hc_123 : G_115 99 = aQ (cT 9) 6 (qK ad) := (ho_G_115 _ (by omega)).trans hC.2.2.2.2.2.2.2.2.2.2.1
        have hc_124 : G_115 106 = aQ (cT 8) 6 (qL ad) := (ho_G_115 _ (by omega)).trans hC.2.2.2.2.2.2.2.2.2.2.2.2.1
        have hc_125 : G_115 113 = aI cT 6 mf := (ho_G_115 _ (by omega)).trans hC.2.2.2.2.2.2.2.2.2.2.2.2.2.2.1
        have hfr_126 : ∀ j, (j ≠ 69) → G_115 j = G j := fun j hj => (ho_G_115 j (by omega)).trans (rfl)
        refine t_eqi (nI 0) rfl ?_
        refine t_if_ne (tgt := 40) hx hb dX3_lay_35 (by decide) (by omega) (fun c_127 => absurd c_127 (by omega)) (fun c_127 => ?_)
        refine lv_iconst (v := nI 0) hx hb dX3_lay_38 (by decide) ?_
        refine g_ret hQ hx hb hr hlocks rfl hP hS (⟨⟨⟨_, rfl⟩, by rw [show cd [xIA, xIO] xIA = 1 from by decide +kernel]; exact MW.same hC hMA hc_117 (fun j9 _ _ hj9 => hfr_126 j9 hj9)⟩, fun j hj => hfr_126 j (by omega)⟩) (Nat.le_of_ble_eq_true rfl) (Nat.le_of_ble_eq_true rfl) dX3_lay_39
      · skip
        refine lv_iload_n hx hb dX3_lay_0 rfl (lv_at hl 1 rfl) ?_
        refine g_callS (As := [.int (nI ch)]) (rest := []) ⟨hx, hb, hml, hown, hw⟩ (mX3_kind l D cT n ad A hD G ch (by omega)) (va_cwS 1 hw (gWS wm_X3_51 wst_X3_kind wini_X3 wc_X3_kind) rfl rfl rfl (by decide +kernel) ⟨Nat.le_of_ble_eq_true rfl, Nat.le_of_ble_eq_true rfl⟩) hK hE hA hP hS rfl hl.1 (lv_room (Nat.le_of_ble_eq_true rfl)) dX3_lay_1 ⟨Nat.le_of_ble_eq_true rfl, Nat.le_of_ble_eq_true rfl⟩ (fun v_129 G_128 H locs hp hP hS => ?_)
        obtain ⟨hv9, hg9⟩ := hp
        subst hv9
        rw [hg9] at hP
        refine t_eqi (-1) (if_pos hkd) ?_
        refine lv_istore (lv' := [(8, .int (-1)), (0, .ref (ad 69)), (1, .int (nI ch)), (2, .int (nI ro)), (3, .int (nI t)), (4, .long a), (6, .long w)]) hx hb dX3_lay_4 hl (by decide) rfl (fun ls hl => ?_)
        refine lv_aload_n hx hb dX3_lay_6 rfl (lv_at hl 1 rfl) ?_
        refine lv_iload hx hb dX3_lay_7 (lv_at hl 0 rfl) ?_
        refine lv_if_lt (tgt := 26) hx hb dX3_lay_9 (by decide) (fun h9 => ?_) (fun h9 => absurd (by decide) h9)
        refine lv_iconst (v := nI 0) hx hb dX3_lay_26 (by decide) ?_
        refine lv_iload_n hx hb dX3_lay_27 rfl (lv_at hl 3 rfl) ?_
        refine g_callS (As := [.int (nI ro)]) (rest := [.int (nI 0), .ref (ad 69)]) ⟨hx, hb, hml, hown, hw⟩ (mX3_isRow l D cT n ad A hD G (nI ro)) (va_cwS 1 hw (gWS wm_X3_59 wst_X3_isRow wini_X3 wc_X3_isRow) rfl rfl rfl (by decide +kernel) ⟨Nat.le_of_ble_eq_true rfl, Nat.le_of_ble_eq_true rfl⟩) hK hE hA hP hS rfl hl.1 (lv_room (Nat.le_of_ble_eq_true rfl)) dX3_lay_28 ⟨Nat.le_of_ble_eq_true rfl, Nat.le_of_ble_eq_true rfl⟩ (fun v_131 G_130 H locs hp hP hS => ?_)
        obtain ⟨hv9, hg9⟩ := hp
        subst hv9
        rw [hg9] at hP
        refine t_eqi (nI 1) (congrArg nI (if_neg (ix_ok (by omega) (by decide)))) ?_
        refine lv_iconst (v := nI 1) hx hb dX3_lay_31 (by decide) ?_
        refine g_callV (As := [.int (nI 0), .int (nI 1), .int (nI 1)]) (rest := []) ⟨hx, hb, hml, hown, hw⟩ (mX3_can l D cT n ad A hD G hn th 0 1 1 (by decide) (by decide) (by decide) hC.1) (cwV 3 hw (gWV wm_X3_63 wi_X3_can wse_X3_can wini_X3 wc_X3_can) rfl rfl rfl (by decide +kernel) ⟨Nat.le_of_ble_eq_true rfl, Nat.le_of_ble_eq_true rfl⟩) hK hE hA hP hS (k := 69) (by omega) hC.1 rfl rfl hl.1 (lv_room (Nat.le_of_ble_eq_true rfl)) dX3_lay_32 ⟨Nat.le_of_ble_eq_true rfl, Nat.le_of_ble_eq_true rfl⟩ (fun v_133 G_132 H locs hp hP hS => ?_)
        obtain ⟨rfl, hg_G_132, ho_G_132⟩ := hp
        have hc_134 : G_132 69 = .inr (5, [.ref (ad 70), .ref (ad 86), .ref (ad 90), .ref (ad 97), .ref (ad 98), .ref (ad 99), .ref (ad 106), .ref (ad 113), .int (nI 1)]) := hg_G_132
        have hc_135 : G_132 70 = aQ (cT 10) 3 (q3 ad) := (ho_G_132 _ (by omega)).trans hC.2.1
        have hc_136 : G_132 86 = aQ (cT 8) 3 (qS ad) := (ho_G_132 _ (by omega)).trans hC.2.2.2.2.1
        have hc_137 : G_132 90 = aQ (cT 7) 6 (qP ad) := (ho_G_132 _ (by omega)).trans hC.2.2.2.2.2.2.1
        have hc_138 : G_132 97 = aI cT 6 zf := (ho_G_132 _ (by omega)).trans hC.2.2.2.2.2.2.2.2.1
        have hc_139 : G_132 98 = aZ cT 6 xf := (ho_G_132 _ (by omega)).trans hC.2.2.2.2.2.2.2.2.2.1
        have hc_140 : G_132 99 = aQ (cT 9) 6 (qK ad) := (ho_G_132 _ (by omega)).trans hC.2.2.2.2.2.2.2.2.2.2.1
        have hc_141 : G_132 106 = aQ (cT 8) 6 (qL ad) := (ho_G_132 _ (by omega)).trans hC.2.2.2.2.2.2.2.2.2.2.2.2.1
        have hc_142 : G_132 113 = aI cT 6 mf := (ho_G_132 _ (by omega)).trans hC.2.2.2.2.2.2.2.2.2.2.2.2.2.2.1
        have hfr_143 : ∀ j, (j ≠ 69) → G_132 j = G j := fun j hj => (ho_G_132 j (by omega)).trans (rfl)
        refine t_eqi (nI 0) rfl ?_
        refine t_if_ne (tgt := 40) hx hb dX3_lay_35 (by decide) (by omega) (fun c_144 => absurd c_144 (by omega)) (fun c_144 => ?_)
        refine lv_iconst (v := nI 0) hx hb dX3_lay_38 (by decide) ?_
        refine g_ret hQ hx hb hr hlocks rfl hP hS (⟨⟨⟨_, rfl⟩, by rw [show cd [xIA, xIO] xIA = 1 from by decide +kernel]; exact MW.same hC hMA hc_134 (fun j9 _ _ hj9 => hfr_143 j9 hj9)⟩, fun j hj => hfr_143 j (by omega)⟩) (Nat.le_of_ble_eq_true rfl) (Nat.le_of_ble_eq_true rfl) dX3_lay_39
    · skip
      obtain ⟨q, hkq⟩ : ∃ q, kdx ch = q := ⟨_, rfl⟩
      have hkl9 := kdx_le ch
      have hq : q < 3 := by omega
      refine lv_iload_n hx hb dX3_lay_0 rfl (lv_at hl 1 rfl) ?_
      refine g_callS (As := [.int (nI ch)]) (rest := []) ⟨hx, hb, hml, hown, hw⟩ (mX3_kind l D cT n ad A hD G ch (by omega)) (va_cwS 1 hw (gWS wm_X3_51 wst_X3_kind wini_X3 wc_X3_kind) rfl rfl rfl (by decide +kernel) ⟨Nat.le_of_ble_eq_true rfl, Nat.le_of_ble_eq_true rfl⟩) hK hE hA hP hS rfl hl.1 (lv_room (Nat.le_of_ble_eq_true rfl)) dX3_lay_1 ⟨Nat.le_of_ble_eq_true rfl, Nat.le_of_ble_eq_true rfl⟩ (fun v_146 G_145 H locs hp hP hS => ?_)
      obtain ⟨hv9, hg9⟩ := hp
      subst hv9
      rw [hg9] at hP
      refine t_eqi (nI q) ((if_neg (by omega)).trans (congrArg nI hkq)) ?_
      refine lv_istore (lv' := [(8, .int (nI q)), (0, .ref (ad 69)), (1, .int (nI ch)), (2, .int x), (3, .int (nI t)), (4, .long a), (6, .long w)]) hx hb dX3_lay_4 hl (by decide) rfl (fun ls hl => ?_)
      refine lv_aload_n hx hb dX3_lay_6 rfl (lv_at hl 1 rfl) ?_
      refine lv_iload hx hb dX3_lay_7 (lv_at hl 0 rfl) ?_
      refine t_if_lt (tgt := 26) hx hb dX3_lay_9 (by decide) (by omega) ?_
      refine lv_iload_n hx hb dX3_lay_12 rfl (lv_at hl 4 rfl) ?_
      refine t_if_lt (tgt := 26) hx hb dX3_lay_13 (by decide) (by omega) ?_
      refine lv_iload_n hx hb dX3_lay_16 rfl (lv_at hl 4 rfl) ?_
      refine lv_bipush (v := nI 48) hx hb dX3_lay_17 (by decide) ?_
      refine t_icmp_gt (tgt := 26) hx hb dX3_lay_19 (by decide) (by omega) (by omega) (fun c_149 => ?_) (fun c_149 => ?_)
      · exfalso; omega
      · skip
        refine lv_iconst (v := nI 1) hx hb dX3_lay_22 (by decide) ?_
        refine lv_goto (tgt := 27) hx hb dX3_lay_23 (by decide) ?_
        refine lv_iload_n hx hb dX3_lay_27 rfl (lv_at hl 3 rfl) ?_
        refine g_callS (As := [.int x]) (rest := [.int (nI 1), .ref (ad 69)]) ⟨hx, hb, hml, hown, hw⟩ (mX3_isRow l D cT n ad A hD G x) (va_cwS 1 hw (gWS wm_X3_59 wst_X3_isRow wini_X3 wc_X3_isRow) rfl rfl rfl (by decide +kernel) ⟨Nat.le_of_ble_eq_true rfl, Nat.le_of_ble_eq_true rfl⟩) hK hE hA hP hS rfl hl.1 (lv_room (Nat.le_of_ble_eq_true rfl)) dX3_lay_28 ⟨Nat.le_of_ble_eq_true rfl, Nat.le_of_ble_eq_true rfl⟩ (fun v_151 G_150 H locs hp hP hS => ?_)
        obtain ⟨hv9, hg9⟩ := hp
        subst hv9
        rw [hg9] at hP
        refine t_eqi (nI 0) (congrArg nI (if_pos hrb)) ?_
        refine lv_iconst (v := nI 1) hx hb dX3_lay_31 (by decide) ?_
        refine g_callV (As := [.int (nI 1), .int (nI 0), .int (nI 1)]) (rest := []) ⟨hx, hb, hml, hown, hw⟩ (mX3_can l D cT n ad A hD G hn th 1 0 1 (by decide) (by decide) (by decide) hC.1) (cwV 3 hw (gWV wm_X3_63 wi_X3_can wse_X3_can wini_X3 wc_X3_can) rfl rfl rfl (by decide +kernel) ⟨Nat.le_of_ble_eq_true rfl, Nat.le_of_ble_eq_true rfl⟩) hK hE hA hP hS (k := 69) (by omega) hC.1 rfl rfl hl.1 (lv_room (Nat.le_of_ble_eq_true rfl)) dX3_lay_32 ⟨Nat.le_of_ble_eq_true rfl, Nat.le_of_ble_eq_true rfl⟩ (fun v_153 G_152 H locs hp hP hS => ?_)
        obtain ⟨rfl, hg_G_152, ho_G_152⟩ := hp
        have hc_154 : G_152 69 = .inr (5, [.ref (ad 70), .ref (ad 86), .ref (ad 90), .ref (ad 97), .ref (ad 98), .ref (ad 99), .ref (ad 106), .ref (ad 113), .int (nI 2)]) := hg_G_152
        have hc_155 : G_152 70 = aQ (cT 10) 3 (q3 ad) := (ho_G_152 _ (by omega)).trans hC.2.1
        have hc_156 : G_152 86 = aQ (cT 8) 3 (qS ad) := (ho_G_152 _ (by omega)).trans hC.2.2.2.2.1
        have hc_157 : G_152 90 = aQ (cT 7) 6 (qP ad) := (ho_G_152 _ (by omega)).trans hC.2.2.2.2.2.2.1
        have hc_158 : G_152 97 = aI cT 6 zf := (ho_G_152 _ (by omega)).trans hC.2.2.2.2.2.2.2.2.1
        have hc_159 : G_152 98 = aZ cT 6 xf := (ho_G_152 _ (by omega)).trans hC.2.2.2.2.2.2.2.2.2.1
        have hc_160 : G_152 99 = aQ (cT 9) 6 (qK ad) := (ho_G_152 _ (by omega)).trans hC.2.2.2.2.2.2.2.2.2.2.1
        have hc_161 : G_152 106 = aQ (cT 8) 6 (qL ad) := (ho_G_152 _ (by omega)).trans hC.2.2.2.2.2.2.2.2.2.2.2.2.1
        have hc_162 : G_152 113 = aI cT 6 mf := (ho_G_152 _ (by omega)).trans hC.2.2.2.2.2.2.2.2.2.2.2.2.2.2.1
        have hfr_163 : ∀ j, (j ≠ 69) → G_152 j = G j := fun j hj => (ho_G_152 j (by omega)).trans (rfl)
        refine t_eqi (nI 0) rfl ?_
        refine t_if_ne (tgt := 40) hx hb dX3_lay_35 (by decide) (by omega) (fun c_164 => absurd c_164 (by omega)) (fun c_164 => ?_)
        refine lv_iconst (v := nI 0) hx hb dX3_lay_38 (by decide) ?_
        refine g_ret hQ hx hb hr hlocks rfl hP hS (⟨⟨⟨_, rfl⟩, by rw [show cd [xIA, xIO] xIO = 2 from by decide +kernel]; exact MW.same hC hMA hc_154 (fun j9 _ _ hj9 => hfr_163 j9 hj9)⟩, fun j hj => hfr_163 j (by omega)⟩) (Nat.le_of_ble_eq_true rfl) (Nat.le_of_ble_eq_true rfl) dX3_lay_39
