theorem RR.ad {cT : Nat → ClassId} {ad ad2 : Nat → Nat} {G G2 : Nat → va_E} {k cn : Nat} {f : Nat → Int64} (h : RR cT ad G k cn f) (h1 : ad2 (k + 1) = ad (k + 1)) (h2 : ∀ j, k ≤ j → j < k + 2 → G2 j = G j) : RR cT ad2 G2 k cn f := by
  unfold RR
  rw [h1]
  exact ⟨(h2 _ (by omega) (by omega)).trans h.1, (h2 _ (by omega) (by omega)).trans h.2⟩
theorem RB.ad {cT : Nat → ClassId} {ad ad2 : Nat → Nat} {G G2 : Nat → va_E} {k sz cn bx : Nat} {pt : Nat → Int64} {w : Nat → Nat} {nu : Nat → Int64} {ne en : Nat → Nat} (h : RB cT ad G k sz cn bx pt w nu ne en) (h1 : ∀ j, k ≤ j → j < k + 6 → ad2 j = ad j) (h2 : ∀ j, k ≤ j → j < k + 6 → G2 j = G j) : RB cT ad2 G2 k sz cn bx pt w nu ne en := by
  unfold RB
  rw [h1 _ (by omega) (by omega), h1 _ (by omega) (by omega), h1 _ (by omega) (by omega), h1 _ (by omega) (by omega), h1 _ (by omega) (by omega)]
  exact h.keep h2
def rQu (ad : Nat → Nat) (u : Nat) : Nat → Option Nat := fun j => if j < u then some (ad (9 + 2 * j)) else none
def bQu (ad : Nat → Nat) (u : Nat) : Nat → Option Nat := fun j => if j < u then some (ad (33 + 6 * j)) else none
theorem rQu_ad {ad ad2 : Nat → Nat} {u : Nat} (h : ∀ k, k < 9 + 2 * u → ad2 k = ad k) : rQu ad u = rQu ad2 u := by
  funext j
  unfold rQu
  by_cases q : j < u
  · rw [if_pos q, if_pos q, h _ (by omega)]
  · rw [if_neg q, if_neg q]
theorem bQu_ad {ad ad2 : Nat → Nat} {u : Nat} (h : ∀ k, k < 33 + 6 * u → ad2 k = ad k) : bQu ad u = bQu ad2 u := by
  funext j
  unfold bQu
  by_cases q : j < u
  · rw [if_pos q, if_pos q, h _ (by omega)]
  · rw [if_neg q, if_neg q]
theorem rQu_step {ad : Nat → Nat} {u : Nat} : va_up (rQu ad u) u (some (ad (9 + 2 * u))) = rQu ad (u + 1) := by
  funext j
  unfold rQu
  by_cases e : j = u
  · subst e
    rw [va_up_self, if_pos (by omega)]
  · rw [va_up_ne _ _ e]
    by_cases q : j < u
    · rw [if_pos q, if_pos (by omega)]
    · rw [if_neg q, if_neg (by omega)]
theorem bQu_step {ad : Nat → Nat} {u : Nat} : va_up (bQu ad u) u (some (ad (33 + 6 * u))) = bQu ad (u + 1) := by
  funext j
  unfold bQu
  by_cases e : j = u
  · subst e
    rw [va_up_self, if_pos (by omega)]
  · rw [va_up_ne _ _ e]
    by_cases q : j < u
    · rw [if_pos q, if_pos (by omega)]
    · rw [if_neg q, if_neg (by omega)]
theorem rQu_0 (ad : Nat → Nat) : rQu ad 0 = fun _ => none := by
  funext j
  exact if_neg (Nat.not_lt_zero _)
theorem bQu_0 (ad : Nat → Nat) : bQu ad 0 = fun _ => none := by
  funext j
  exact if_neg (Nat.not_lt_zero _)
abbrev z0 : Nat → Nat := fun _ => 0
abbrev zl : Nat → Int64 := fun _ => 0
def σ0 : TY := (fun _ => (0, zl), fun _ => (0, 0, 0, zl, z0, z0))
theorem BR_0 {cT : Nat → ClassId} {ad : Nat → Nat} {G : Nat → va_E} {k : Nat} (h : RB cT ad G k 0 0 0 zl z0 zl z0 z0) : BRt cT ad G k (0, 0, 0, zl, z0, z0) := ⟨zl, z0, zl, z0, z0, h, fun _ hj => absurd hj (Nat.not_lt_zero _), fun _ hj => absurd hj (Nat.not_lt_zero _)⟩
theorem YI_0 : YI σ0 := ⟨fun _ _ => Nat.zero_le _, fun _ _ => ⟨⟨Nat.zero_le _, rfl, fun _ hi => absurd hi (Nat.not_lt_zero _), fun _ => Nat.zero_le _, fun h => absurd h (Nat.lt_irrefl _)⟩, Nat.zero_le _⟩⟩

set_option maxHeartbeats 4000000 in
set_option maxRecDepth 100000 in
theorem mX2_init (l : Launch) (D : va_G) (cT : Nat → ClassId) (ad : Nat → Nat) (A : Nat → Prop) (G : Nat → va_E) (hG : G 0 = .inr (4, [.null, .null, .null])) (hD : ∀ G, va_D A (gw (1) ad G)) : Met l yX2_init (wA yX2_init cX2_init 2 none) ({ frames := 2, cells := 68, slots := 3698, locals := 40 } : Room) (PC D cT (1) ad A G [.ref (ad 0)]) (QC D (1) (69) ad A (fun ad2 G2 => YW cT ad2 G2 σ0)) 68 3698 A := by
  refine Met.ofC (cc := cX2_init) (maxL := 2) (ret := none) (by decide) (Nat.le_of_ble_eq_true rfl) ?_
  intro p e s m args below meth c Q hQ hx hb hr hml hlocks hname hown hw hP hK hE hA hS hN ls hl
  have hl : lv_has ls 2 [(0, .ref (ad 0))] := hl
  obtain ⟨tKI, hZKI, hTKI⟩ := hE.1.2.2.1
  refine lv_aload_n hx hb dX2_init_0 rfl (lv_at hl 0 rfl) ?_
  refine W.objInit hx hb hown (hw _ wm_X2_3) (hw _ wi_t1_23) (hw _ wc_t1_24) rfl (hl.1.trans hml.symm) rfl dX2_init_1 (Nat.le_of_ble_eq_true rfl) (Nat.le_of_ble_eq_true rfl) ?_
  refine lv_aload_n hx hb dX2_init_4 rfl (lv_at hl 0 rfl) ?_
  refine va_gets hx hb hZKI hS hown (hw _ wf_X2_9) (fun _ h9 => h9) dX2_init_5 ?_
  refine va_tlen hx hb hTKI hS (v := nI 3) rfl dX2_init_8 ?_
  refine lv_iconst (v := nI 4) hx hb dX2_init_9 (by decide) ?_
  refine lv_imul hx hb dX2_init_10 ?_
  refine t_eqi (nI 12) (rfl) ?_
  refine g_newq (C := RX1) (t0 := 5) (N := 12) hx hb hown (hw _ wcl_X2_13) (hN.2 _ (List.mem_of_getElem? (i := 0) rfl)) (hN.1 _ (List.mem_of_getElem? (i := 5) rfl)) hP hD hS hA (by omega) (Nat.le_of_ble_eq_true rfl) (Nat.le_of_ble_eq_true rfl) dX2_init_11 (fun adw_1 Gww_1 H hadw_1 hgw_1 how_1 hDw_1 hP hS => ?_)
  have hc_2 : Gww_1 0 = .inr (4, [.null, .null, .null]) := ((how_1 _ (by omega)).trans hG).trans rfl
  rw [← hadw_1 0 (by omega)] at hl
  rw [← hadw_1 0 (by omega)]
  have hads_3 : ∀ j, j < 1 → adw_1 j = ad j := fun j hj => (hadw_1 j (by omega)).trans (rfl)
  have hfr_4 : ∀ j, j < 0 → Gww_1 j = G j := fun j hj => (how_1 j (by omega)).trans (rfl)
  refine g_putF (C := RX2) (T := TX2) (N := 3) hx hb hw inX2 tyX2 tyX2_ok nmX2 hown hK hP hDw_1 hS (i := 0) (by omega) hc_2 rfl 0 (by decide) (hw _ wf_X2_15) rfl hname rfl (tyX2_ok 0 (by decide)) rfl rfl (Nat.le_of_ble_eq_true rfl) dX2_init_14 (fun G_5 H locs hg_G_5 ho_G_5 hP hS => ?_)
  have hc_6 : G_5 0 = .inr (4, [.ref (adw_1 1), .null, .null]) := hg_G_5
  have hc_7 : G_5 1 = aQ (cT 5) 12 (fun _ => none) := (ho_G_5 _ (by omega)).trans hgw_1
  have hfr_8 : ∀ j, j < 0 → G_5 j = G j := fun j hj => (ho_G_5 j (by omega)).trans (hfr_4 j hj)
  refine lv_aload_n hx hb dX2_init_17 rfl (lv_at hl 0 rfl) ?_
  refine lv_bipush (v := nI 6) hx hb dX2_init_18 (by decide) ?_
  refine g_newq (C := RX0) (t0 := 6) (N := 6) hx hb hown (hw _ wcl_X2_19) (hN.2 _ (List.mem_of_getElem? (i := 1) rfl)) (hN.1 _ (List.mem_of_getElem? (i := 6) rfl)) hP hDw_1 hS hA (by omega) (Nat.le_of_ble_eq_true rfl) (Nat.le_of_ble_eq_true rfl) dX2_init_20 (fun adw_9 Gww_9 H hadw_9 hgw_9 how_9 hDw_9 hP hS => ?_)
  have hc_10 : Gww_9 0 = .inr (4, [.ref (adw_9 1), .null, .null]) := ((how_9 _ (by omega)).trans hc_6).trans (by rw [hadw_9 1 (by omega)])
  have hc_11 : Gww_9 1 = aQ (cT 5) 12 (fun _ => none) := ((how_9 _ (by omega)).trans hc_7).trans rfl
  rw [← hadw_9 0 (by omega)] at hl
  rw [← hadw_9 0 (by omega)]
  have hads_12 : ∀ j, j < 1 → adw_9 j = ad j := fun j hj => (hadw_9 j (by omega)).trans (hads_3 j hj)
  have hfr_13 : ∀ j, j < 0 → Gww_9 j = G j := fun j hj => (how_9 j (by omega)).trans (hfr_8 j hj)
  refine g_putF (C := RX2) (T := TX2) (N := 3) hx hb hw inX2 tyX2 tyX2_ok nmX2 hown hK hP hDw_9 hS (i := 0) (by omega) hc_10 rfl 1 (by decide) (hw _ wf_X2_21) rfl hname rfl (tyX2_ok 1 (by decide)) rfl rfl (Nat.le_of_ble_eq_true rfl) dX2_init_23 (fun G_14 H locs hg_G_14 ho_G_14 hP hS => ?_)
  have hc_15 : G_14 0 = .inr (4, [.ref (adw_9 1), .ref (adw_9 2), .null]) := hg_G_14
  have hc_16 : G_14 1 = aQ (cT 5) 12 (fun _ => none) := (ho_G_14 _ (by omega)).trans hc_11
  have hc_17 : G_14 2 = aQ (cT 6) 6 (fun _ => none) := (ho_G_14 _ (by omega)).trans hgw_9
  have hfr_18 : ∀ j, j < 0 → G_14 j = G j := fun j hj => (ho_G_14 j (by omega)).trans (hfr_13 j hj)
  refine lv_aload_n hx hb dX2_init_26 rfl (lv_at hl 0 rfl) ?_
  refine g_newO (C := RX0) (T := TX0) (N := 8) (ci := 2) (fs := [.null, .int (nI 0), .int (nI 0), .null, .null, .null, .null, .int (nI 0)]) hx hb hw inX0 tyX0 tyX0_ok hown (hw _ wcl_X2_19) (hw _ wins_X0) (hw _ wini_X0) hK hP hDw_9 hS hA rfl (fun j hj => by rcases (show j = 0 ∨ j = 1 ∨ j = 2 ∨ j = 3 ∨ j = 4 ∨ j = 5 ∨ j = 6 ∨ j = 7 by omega) with rfl | rfl | rfl | rfl | rfl | rfl | rfl | rfl <;> rfl) (Nat.le_of_ble_eq_true rfl) (Nat.le_of_ble_eq_true rfl) dX2_init_27 (fun adw_19 Gww_19 H hadw_19 hgw_19 how_19 hDw_19 hP hS => ?_)
  have hc_20 : Gww_19 0 = .inr (4, [.ref (adw_19 1), .ref (adw_19 2), .null]) := ((how_19 _ (by omega)).trans hc_15).trans (by rw [hadw_19 1 (by omega), hadw_19 2 (by omega)])
  have hc_21 : Gww_19 1 = aQ (cT 5) 12 (fun _ => none) := ((how_19 _ (by omega)).trans hc_16).trans rfl
  have hc_22 : Gww_19 2 = aQ (cT 6) 6 (fun _ => none) := ((how_19 _ (by omega)).trans hc_17).trans rfl
  rw [← hadw_19 0 (by omega)] at hl
  rw [← hadw_19 0 (by omega)]
  have hads_23 : ∀ j, j < 1 → adw_19 j = ad j := fun j hj => (hadw_19 j (by omega)).trans (hads_12 j hj)
  have hfr_24 : ∀ j, j < 0 → Gww_19 j = G j := fun j hj => (how_19 j (by omega)).trans (hfr_18 j hj)
  refine lv_dup hx hb dX2_init_30 rfl ?_
  refine g_callC (va_runIN (host := "Splityard") (As := []) (rest := [.ref (adw_19 3), .ref (adw_19 0)]) ⟨hx, hb, hml, hown, hw⟩ (mX0_init l D cT adw_19 A Gww_19 3 hgw_19 hDw_19) ⟨va_cnB 0 hw (gWA wc_X0_init) rfl rfl rfl (hE.2.2.2.1 (25, yX0_init) List.mem_cons_self) (hw _ wini_X0) (by decide +kernel) ⟨Nat.le_of_ble_eq_true rfl, Nat.le_of_ble_eq_true rfl⟩, rfl, hw _ wi_X0_init⟩ ⟨PC_blind, PC_at hK hE hA hN hP hS⟩ rfl rfl hl.1 rfl (lv_room (Nat.le_of_ble_eq_true rfl)) dX2_init_31 ⟨Nat.le_of_ble_eq_true rfl, Nat.le_of_ble_eq_true rfl⟩) hS (fun adw_25 Gww_25 H locs hadw_25 hDw_25 hp hP hS => ?_)
  obtain ⟨hrw_25, how_25⟩ := hp
  have hc_26 : Gww_25 0 = .inr (4, [.ref (adw_25 1), .ref (adw_25 2), .null]) := ((how_25 _ (by omega)).trans hc_20).trans (by rw [hadw_25 1 (by omega), hadw_25 2 (by omega)])
  have hc_27 : Gww_25 1 = aQ (cT 5) 12 (fun _ => none) := ((how_25 _ (by omega)).trans hc_21).trans rfl
  have hc_28 : Gww_25 2 = aQ (cT 6) 6 (fun _ => none) := ((how_25 _ (by omega)).trans hc_22).trans rfl
  rw [← hadw_25 0 (by omega)] at hl
  rw [← hadw_25 3 (by omega)]
  rw [← hadw_25 0 (by omega)]
  have hads_29 : ∀ j, j < 1 → adw_25 j = ad j := fun j hj => (hadw_25 j (by omega)).trans (hads_23 j hj)
  have hfr_30 : ∀ j, j < 0 → Gww_25 j = G j := fun j hj => (how_25 j (by omega)).trans (hfr_24 j hj)
  refine g_putF (C := RX2) (T := TX2) (N := 3) hx hb hw inX2 tyX2 tyX2_ok nmX2 hown hK hP hDw_25 hS (i := 0) (by omega) hc_26 rfl 2 (by decide) (hw _ wf_X2_26) rfl hname rfl (tyX2_ok 2 (by decide)) rfl rfl (Nat.le_of_ble_eq_true rfl) dX2_init_34 (fun G_31 H locs hg_G_31 ho_G_31 hP hS => ?_)
  have hc_32 : G_31 0 = .inr (4, [.ref (adw_25 1), .ref (adw_25 2), .ref (adw_25 3)]) := hg_G_31
  have hc_33 : G_31 1 = aQ (cT 5) 12 (fun _ => none) := (ho_G_31 _ (by omega)).trans hc_27
  have hc_34 : G_31 2 = aQ (cT 6) 6 (fun _ => none) := (ho_G_31 _ (by omega)).trans hc_28
  have hc_35 : G_31 3 = .inr (2, [.ref (adw_25 4), .int (nI 0), .int (nI 0), .ref (adw_25 5), .ref (adw_25 6), .ref (adw_25 7), .ref (adw_25 8), .int (nI 0)]) := (ho_G_31 _ (by omega)).trans hrw_25.1
  have hfr_36 : ∀ j, j < 0 → G_31 j = G j := fun j hj => (ho_G_31 j (by omega)).trans (hfr_30 j hj)
  refine lv_iconst (v := nI 0) hx hb dX2_init_37 (by decide) ?_
  refine lv_istore_n (lv' := [(1, .int (nI 0)), (0, .ref (adw_25 0))]) hx hb dX2_init_38 rfl hl (by decide) rfl (fun ls hl => ?_)
  have hR3 : RB cT adw_25 G_31 3 0 0 0 zl z0 zl z0 z0 := hrw_25.keep (fun j hj1 hj2 => ho_G_31 j (by omega))
  have key1 : ∀ (fu : Nat) (u : Nat), u ≤ 12 → 12 - u < fu → ∀ (adu : Nat → Nat) (Gu : Nat → va_E) (H : Heap) (locs : List Loc), (∀ j, j < 1 → adu j = ad j) → (∀ G, va_D A (gw (9 + 2 * u) adu G)) → Gu 0 = .inr (4, [.ref (adu 1), .ref (adu 2), .ref (adu 3)]) → Gu 1 = aQ (cT 5) 12 (rQu adu u) → Gu 2 = aQ (cT 6) 6 (fun _ => none) → RB cT adu Gu 3 0 0 0 zl z0 zl z0 z0 → (∀ j, j < u → RR cT adu Gu (9 + 2 * j) 0 zl) → va_P D vwCl (gw (9 + 2 * u) adu Gu) H → va_S A s.heap H locs → ∀ ls : Array Slot, lv_has ls 2 [(1, .int (nI u)), (0, .ref (adu 0))] → W p l e ({ frames := 2, cells := 68, slots := 3698, locals := 40 } : Room) s m args below meth c H locs (8 + 2 * u) (458 + 50 * u) Q (F0 m 39 ls []) := by
    intro fu
    induction fu with
    | zero => intros; exfalso; omega
    | succ fu ih =>
      intro u hu hfu adu Gu H locs hau hDu h0 h1 h2 h3 h4 hP hS ls hl
      refine lv_iload_n hx hb dX2_init_39 rfl (lv_at hl 0 rfl) ?_
      refine lv_aload_n hx hb dX2_init_40 rfl (lv_at hl 1 rfl) ?_
      refine g_get (C := RX2) (T := TX2) (N := 3) hx hb hw inX2 hown hK hP (i := 0) (by omega) h0 rfl 0 (by decide) (hw _ wf_X2_15) rfl dX2_init_41 ?_
      refine va_alen hx hb hK hP 1 5 (gw_get (by omega) h1) rfl (v := nI 12) rfl dX2_init_44 ?_
      refine t_icmp_ge (tgt := 67) hx hb dX2_init_45 (by decide) (by omega) (by omega) (fun c_37 => ?_) (fun c_37 => ?_)
      · skip
        obtain rfl : u = 12 := by omega
        refine lv_iconst (v := nI 0) hx hb dX2_init_67 (by decide) ?_
        refine lv_istore_n (lv' := [(1, .int (nI 0)), (0, .ref (adu 0))]) hx hb dX2_init_68 rfl hl (by decide) rfl (fun ls hl => ?_)
        have key2 : ∀ (fv : Nat) (b : Nat), b ≤ 6 → 6 - b < fv → ∀ (adb : Nat → Nat) (Gb : Nat → va_E) (H : Heap) (locs : List Loc), (∀ j, j < 1 → adb j = ad j) → (∀ G, va_D A (gw (33 + 6 * b) adb G)) → Gb 0 = .inr (4, [.ref (adb 1), .ref (adb 2), .ref (adb 3)]) → Gb 1 = aQ (cT 5) 12 (rQu adb 12) → Gb 2 = aQ (cT 6) 6 (bQu adb b) → RB cT adb Gb 3 0 0 0 zl z0 zl z0 z0 → (∀ j, j < 12 → RR cT adb Gb (9 + 2 * j) 0 zl) → (∀ j, j < b → RB cT adb Gb (33 + 6 * j) 0 0 0 zl z0 zl z0 z0) → va_P D vwCl (gw (33 + 6 * b) adb Gb) H → va_S A s.heap H locs → ∀ ls : Array Slot, lv_has ls 2 [(1, .int (nI b)), (0, .ref (adb 0))] → W p l e ({ frames := 2, cells := 68, slots := 3698, locals := 40 } : Room) s m args below meth c H locs (32 + 6 * b) (1058 + 440 * b) Q (F0 m 69 ls []) := by
          intro fv
          induction fv with
          | zero => intros; exfalso; omega
          | succ fv ih2 =>
            intro b hb7 hfv adb Gb H locs hab hDb k0 k1 k2 k3 k4 k5 hP hS ls hl
            refine lv_iload_n hx hb dX2_init_69 rfl (lv_at hl 0 rfl) ?_
            refine lv_aload_n hx hb dX2_init_70 rfl (lv_at hl 1 rfl) ?_
            refine g_get (C := RX2) (T := TX2) (N := 3) hx hb hw inX2 hown hK hP (i := 0) (by omega) k0 rfl 1 (by decide) (hw _ wf_X2_21) rfl dX2_init_71 ?_
            refine va_alen hx hb hK hP 2 6 (gw_get (by omega) k2) rfl (v := nI 6) rfl dX2_init_74 ?_
            refine t_icmp_ge (tgt := 97) hx hb dX2_init_75 (by decide) (by omega) (by omega) (fun c_38 => ?_) (fun c_38 => ?_)
            · skip
              obtain rfl : b = 6 := by omega
              refine W.widen (k := 68) (n := 3698) (by omega) (by omega) ?_
              exact g_retC hQ hx hb hr hlocks (fun j hj => hab j hj) hDb hP hS ⟨⟨k0, k1, k2⟩, k4, fun b hb => BR_0 (k5 b hb), 0, 0, 0, zl, z0, zl, z0, z0, k3⟩ (Nat.le_refl _) (Nat.le_refl _) dX2_init_97
            · skip
              refine lv_aload_n hx hb dX2_init_78 rfl (lv_at hl 1 rfl) ?_
              refine g_get (C := RX2) (T := TX2) (N := 3) hx hb hw inX2 hown hK hP (i := 0) (by omega) k0 rfl 1 (by decide) (hw _ wf_X2_21) rfl dX2_init_79 ?_
              refine lv_iload_n hx hb dX2_init_82 rfl (lv_at hl 0 rfl) ?_
              refine g_newO (C := RX0) (T := TX0) (N := 8) (ci := 2) (fs := [.null, .int (nI 0), .int (nI 0), .null, .null, .null, .null, .int (nI 0)]) hx hb hw inX0 tyX0 tyX0_ok hown (hw _ wcl_X2_19) (hw _ wins_X0) (hw _ wini_X0) hK hP hDb hS hA rfl (fun j hj => by rcases (show j = 0 ∨ j = 1 ∨ j = 2 ∨ j = 3 ∨ j = 4 ∨ j = 5 ∨ j = 6 ∨ j = 7 by omega) with rfl | rfl | rfl | rfl | rfl | rfl | rfl | rfl <;> rfl) (by show 32 + 6 * b + 1 ≤ 68; omega) (by show 1058 + 440 * b + 8 ≤ 3698; omega) dX2_init_83 (fun adw_39 Gww_39 H hadw_39 hgw_39 how_39 hDw_39 hP hS => ?_)
              have hc_40 : Gww_39 0 = .inr (4, [.ref (adw_39 1), .ref (adw_39 2), .ref (adw_39 3)]) := ((how_39 _ (by omega)).trans k0).trans (by rw [hadw_39 1 (by omega), hadw_39 2 (by omega), hadw_39 3 (by omega)])
              rw [← hadw_39 0 (by omega)] at hl
              rw [← hadw_39 2 (by omega)]
              have hads_41 : ∀ j, j < 33 + 6 * b → adw_39 j = adb j := fun j hj => (hadw_39 j (by omega)).trans (rfl)
              have hfr_42 : ∀ j, (j < 33 + 6 * b ∧ j ≠ 2) → Gww_39 j = Gb j := fun j hj => (how_39 j (by omega)).trans (rfl)
              have hf1_43 : ∀ j, j < 33 + 6 * b → Gww_39 j = Gb j := fun j hj => (how_39 j (by omega)).trans (rfl)
              refine lv_dup hx hb dX2_init_86 rfl ?_
              refine g_callC (va_runIN (host := "Splityard") (As := []) (rest := [.ref (adw_39 (33 + 6 * b)), .int (nI b), .ref (adw_39 2)]) ⟨hx, hb, hml, hown, hw⟩ (mX0_init l D cT adw_39 A Gww_39 (33 + 6 * b) hgw_39 hDw_39) ⟨va_cnB 0 hw (gWA wc_X0_init) rfl rfl rfl (hE.2.2.2.1 (25, yX0_init) List.mem_cons_self) (hw _ wini_X0) (by decide +kernel) ⟨Nat.le_of_ble_eq_true rfl, Nat.le_of_ble_eq_true rfl⟩, rfl, hw _ wi_X0_init⟩ ⟨PC_blind, PC_at hK hE hA hN hP hS⟩ rfl rfl hl.1 rfl (lv_room (Nat.le_of_ble_eq_true rfl)) dX2_init_87 ⟨by show 32 + 6 * b + 1 + 5 ≤ 68; omega, by show 1058 + 440 * b + 8 + 432 ≤ 3698; omega⟩) hS (fun adw_44 Gww_44 H locs hadw_44 hDw_44 hp hP hS => ?_)
              obtain ⟨hrw_44, how_44⟩ := hp
              have hc_45 : Gww_44 0 = .inr (4, [.ref (adw_44 1), .ref (adw_44 2), .ref (adw_44 3)]) := ((how_44 _ (by omega)).trans hc_40).trans (by rw [hadw_44 1 (by omega), hadw_44 2 (by omega), hadw_44 3 (by omega)])
              rw [← hadw_44 0 (by omega)] at hl
              rw [← hadw_44 (33 + 6 * b) (by omega)]
              rw [← hadw_44 2 (by omega)]
              have hads_46 : ∀ j, j < 33 + 6 * b → adw_44 j = adb j := fun j hj => (hadw_44 j (by omega)).trans (hads_41 j hj)
              have hfr_47 : ∀ j, (j < 33 + 6 * b ∧ j ≠ 2) → Gww_44 j = Gb j := fun j hj => (how_44 j (by omega)).trans (hfr_42 j hj)
              have hf1_48 : ∀ j, j < 33 + 6 * b → Gww_44 j = Gb j := fun j hj => (how_44 j (by omega)).trans (hf1_43 j hj)
              have hc_49 : Gww_44 2 = aQ (cT 6) 6 (bQu adw_44 b) := by
                rw [← bQu_ad (ad := adb) (ad2 := adw_44) (fun k hk => hads_46 k hk)]
                exact (hf1_48 2 (by omega)).trans k2
              refine g_aastq hx hb hK hP hDw_44 hS 6 2 (i := 2) (k := (33 + 6 * b)) (by omega) hc_49 rfl (by omega) hrw_44.1 rfl (by omega) (by omega) dX2_init_90 (fun G_50 H locs hg_G_50 ho_G_50 hP hS => ?_)
              have hc_51 : G_50 0 = .inr (4, [.ref (adw_44 1), .ref (adw_44 2), .ref (adw_44 3)]) := (ho_G_50 _ (by omega)).trans hc_45
              have hc_52 : G_50 (33 + 6 * b) = .inr (2, [.ref (adw_44 (33 + 6 * b + 1)), .int (nI 0), .int (nI 0), .ref (adw_44 (33 + 6 * b + 2)), .ref (adw_44 (33 + 6 * b + 3)), .ref (adw_44 (33 + 6 * b + 4)), .ref (adw_44 (33 + 6 * b + 5)), .int (nI 0)]) := (ho_G_50 _ (by omega)).trans hrw_44.1
              have hc_53 : G_50 2 = aQ (cT 6) 6 (va_up (bQu adw_44 b) b (some (adw_44 (33 + 6 * b)))) := hg_G_50
              have hfr_54 : ∀ j, (j < 33 + 6 * b ∧ j ≠ 2) → G_50 j = Gb j := fun j hj => (ho_G_50 j (by omega)).trans (hfr_47 j hj)
              refine lv_iinc (v := nI (b + 1)) (lv' := [(1, .int (nI (b + 1))), (0, .ref (adw_44 0))]) hx hb dX2_init_91 hl (k := 0) rfl (by exact nI_add b 1) (by decide) rfl (fun ls hl => ?_)
              refine lv_goto (tgt := 69) hx hb dX2_init_94 (by decide) ?_
              refine W.widen (k := 32 + 6 * (b + 1)) (n := 1058 + 440 * (b + 1)) (by omega) (by omega) ?_
              exact ih2 (b + 1) (by omega) (by omega) adw_44 G_50 _ _ (fun j hj => (hads_46 j (by omega)).trans (hab j hj)) hDw_44 hc_51 (((hfr_54 1 (by omega)).trans k1).trans (congrArg (aQ (cT 5) 12) (rQu_ad (fun k hk => hads_46 k (by omega))))) (hc_53.trans (congrArg (aQ (cT 6) 6) bQu_step)) (k3.ad (fun j _ hj => hads_46 j (by omega)) (fun j _ hj => hfr_54 j (by omega))) (fun j hj => (k4 j hj).ad (hads_46 _ (by omega)) (fun i hi1 hi2 => hfr_54 i (by omega))) (fun j hj => by rcases Nat.lt_or_ge j b with q | q; exact (k5 j q).ad (fun i _ hi => hads_46 i (by omega)) (fun i hi1 hi2 => hfr_54 i (by omega)); obtain rfl : j = b := (by omega); exact hrw_44.keep (fun i hi1 hi2 => ho_G_50 i (by omega))) hP hS ls (lv_sub hl [0, 1] rfl)
        exact key2 _ 0 (by omega) (Nat.lt_succ_self _) adu Gu _ _ hau hDu h0 h1 (by rw [bQu_0]; exact h2) h3 h4 (fun j hj => absurd hj (Nat.not_lt_zero _)) hP hS ls (lv_sub hl [0, 1] rfl)
      · skip
        refine lv_aload_n hx hb dX2_init_48 rfl (lv_at hl 1 rfl) ?_
        refine g_get (C := RX2) (T := TX2) (N := 3) hx hb hw inX2 hown hK hP (i := 0) (by omega) h0 rfl 0 (by decide) (hw _ wf_X2_15) rfl dX2_init_49 ?_
        refine lv_iload_n hx hb dX2_init_52 rfl (lv_at hl 0 rfl) ?_
        refine g_newO (C := RX1) (T := TX1) (N := 2) (ci := 3) (fs := [.null, .int (nI 0)]) hx hb hw inX1 tyX1 tyX1_ok hown (hw _ wcl_X2_13) (hw _ wins_X1) (hw _ wini_X1) hK hP hDu hS hA rfl (fun j hj => by rcases (show j = 0 ∨ j = 1 by omega) with rfl | rfl <;> rfl) (by show 8 + 2 * u + 1 ≤ 68; omega) (by show 458 + 50 * u + 2 ≤ 3698; omega) dX2_init_53 (fun adw_55 Gww_55 H hadw_55 hgw_55 how_55 hDw_55 hP hS => ?_)
        have hc_56 : Gww_55 0 = .inr (4, [.ref (adw_55 1), .ref (adw_55 2), .ref (adw_55 3)]) := ((how_55 _ (by omega)).trans h0).trans (by rw [hadw_55 1 (by omega), hadw_55 2 (by omega), hadw_55 3 (by omega)])
        rw [← hadw_55 0 (by omega)] at hl
        rw [← hadw_55 1 (by omega)]
        have hads_57 : ∀ j, j < 9 + 2 * u → adw_55 j = adu j := fun j hj => (hadw_55 j (by omega)).trans (rfl)
        have hfr_58 : ∀ j, (j < 9 + 2 * u ∧ j ≠ 1) → Gww_55 j = Gu j := fun j hj => (how_55 j (by omega)).trans (rfl)
        have hf1_59 : ∀ j, j < 9 + 2 * u → Gww_55 j = Gu j := fun j hj => (how_55 j (by omega)).trans (rfl)
        refine lv_dup hx hb dX2_init_56 rfl ?_
        refine g_callC (va_runIN (host := "Splityard") (As := []) (rest := [.ref (adw_55 (9 + 2 * u)), .int (nI u), .ref (adw_55 1)]) ⟨hx, hb, hml, hown, hw⟩ (mX1_init l D cT adw_55 A Gww_55 (9 + 2 * u) hgw_55 hDw_55) ⟨va_cnB 0 hw (gWA wc_X1_init) rfl rfl rfl (hE.2.2.2.1 (30, yX1_init) (List.mem_cons_of_mem _ List.mem_cons_self)) (hw _ wini_X1) (by decide +kernel) ⟨Nat.le_of_ble_eq_true rfl, Nat.le_of_ble_eq_true rfl⟩, rfl, hw _ wi_X1_init⟩ ⟨PC_blind, PC_at hK hE hA hN hP hS⟩ rfl rfl hl.1 rfl (lv_room (Nat.le_of_ble_eq_true rfl)) dX2_init_57 ⟨by show 8 + 2 * u + 1 + 1 ≤ 68; omega, by show 458 + 50 * u + 2 + 48 ≤ 3698; omega⟩) hS (fun adw_60 Gww_60 H locs hadw_60 hDw_60 hp hP hS => ?_)
        obtain ⟨hrw_60, how_60⟩ := hp
        have hc_61 : Gww_60 0 = .inr (4, [.ref (adw_60 1), .ref (adw_60 2), .ref (adw_60 3)]) := ((how_60 _ (by omega)).trans hc_56).trans (by rw [hadw_60 1 (by omega), hadw_60 2 (by omega), hadw_60 3 (by omega)])
        rw [← hadw_60 0 (by omega)] at hl
        rw [← hadw_60 (9 + 2 * u) (by omega)]
        rw [← hadw_60 1 (by omega)]
        have hads_62 : ∀ j, j < 9 + 2 * u → adw_60 j = adu j := fun j hj => (hadw_60 j (by omega)).trans (hads_57 j hj)
        have hfr_63 : ∀ j, (j < 9 + 2 * u ∧ j ≠ 1) → Gww_60 j = Gu j := fun j hj => (how_60 j (by omega)).trans (hfr_58 j hj)
        have hf1_64 : ∀ j, j < 9 + 2 * u → Gww_60 j = Gu j := fun j hj => (how_60 j (by omega)).trans (hf1_59 j hj)
        have hc_65 : Gww_60 1 = aQ (cT 5) 12 (rQu adw_60 u) := by
          rw [← rQu_ad (ad := adu) (ad2 := adw_60) (fun k hk => hads_62 k hk)]
          exact (hf1_64 1 (by omega)).trans h1
        refine g_aastq hx hb hK hP hDw_60 hS 5 3 (i := 1) (k := (9 + 2 * u)) (by omega) hc_65 rfl (by omega) hrw_60.1 rfl (by omega) (by omega) dX2_init_60 (fun G_66 H locs hg_G_66 ho_G_66 hP hS => ?_)
        have hc_67 : G_66 0 = .inr (4, [.ref (adw_60 1), .ref (adw_60 2), .ref (adw_60 3)]) := (ho_G_66 _ (by omega)).trans hc_61
        have hc_68 : G_66 (9 + 2 * u) = .inr (3, [.ref (adw_60 (9 + 2 * u + 1)), .int (nI 0)]) := (ho_G_66 _ (by omega)).trans hrw_60.1
        have hc_69 : G_66 1 = aQ (cT 5) 12 (va_up (rQu adw_60 u) u (some (adw_60 (9 + 2 * u)))) := hg_G_66
        have hfr_70 : ∀ j, (j < 9 + 2 * u ∧ j ≠ 1) → G_66 j = Gu j := fun j hj => (ho_G_66 j (by omega)).trans (hfr_63 j hj)
        refine lv_iinc (v := nI (u + 1)) (lv' := [(1, .int (nI (u + 1))), (0, .ref (adw_60 0))]) hx hb dX2_init_61 hl (k := 0) rfl (by exact nI_add u 1) (by decide) rfl (fun ls hl => ?_)
        refine lv_goto (tgt := 39) hx hb dX2_init_64 (by decide) ?_
        refine W.widen (k := 8 + 2 * (u + 1)) (n := 458 + 50 * (u + 1)) (by omega) (by omega) ?_
        exact ih (u + 1) (by omega) (by omega) adw_60 G_66 _ _ (fun j hj => (hads_62 j (by omega)).trans (hau j hj)) hDw_60 hc_67 (hc_69.trans (congrArg (aQ (cT 5) 12) rQu_step)) ((hfr_70 2 (by omega)).trans h2) (h3.ad (fun j _ hj => hads_62 j (by omega)) (fun j _ hj => hfr_70 j (by omega))) (fun j hj => by rcases Nat.lt_or_ge j u with q | q; exact (h4 j q).ad (hads_62 _ (by omega)) (fun i hi1 hi2 => hfr_70 i (by omega)); obtain rfl : j = u := (by omega); exact hrw_60.keep (fun i hi1 hi2 => ho_G_66 i (by omega))) hP hS ls (lv_sub hl [0, 1] rfl)
  exact key1 _ 0 (by omega) (Nat.lt_succ_self _) adw_25 G_31 _ _ (fun j hj => hads_29 j hj) hDw_25 hc_32 (by rw [rQu_0]; exact hc_33) hc_34 hR3 (fun j hj => absurd hj (Nat.not_lt_zero _)) hP hS ls (lv_sub hl [0, 1] rfl)
