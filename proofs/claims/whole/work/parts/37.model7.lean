theorem fbn_s {f : Nat → Int64} {u : Nat} : fbn f 115 0 u + f u = fbn f 115 0 (u + 1) := by
  show _ = fnx f 115 (fbn f 115 0 u) (0 + u)
  rw [Nat.zero_add]; unfold fnx; rw [if_pos rfl]
theorem fbn_x {f : Nat → Int64} {u : Nat} : fbn f 120 0 u ^^^ f u = fbn f 120 0 (u + 1) := by
  show _ = fnx f 120 (fbn f 120 0 u) (0 + u)
  rw [Nat.zero_add]; unfold fnx; rw [if_neg (by decide), if_pos rfl]
theorem fbn_h {f : Nat → Int64} {u : Nat} : 31 * fbn f 104 0 u + f u = fbn f 104 0 (u + 1) := by
  show _ = fnx f 104 (fbn f 104 0 u) (0 + u)
  rw [Nat.zero_add]; unfold fnx; rw [if_neg (by decide), if_neg (by decide), if_pos rfl]
theorem fbn_f1 {f : Nat → Int64} {u : Nat} (h : fbn f 102 0 u = -1) : lN u = fbn f 102 0 (u + 1) := by
  show _ = fnx f 102 (fbn f 102 0 u) (0 + u)
  rw [Nat.zero_add, fnx_f, h, if_pos (by decide)]
theorem fbn_f2 {f : Nat → Int64} {u t : Nat} (h : fbn f 102 0 u = lN t) (ht : t < 48) (h2 : f t < f u) : lN u = fbn f 102 0 (u + 1) := by
  show _ = fnx f 102 (fbn f 102 0 u) (0 + u)
  rw [Nat.zero_add, fnx_f, h, if_neg (lN_nneg (by omega)), lN_nat (by omega), if_pos h2]
theorem fbn_f3 {f : Nat → Int64} {u t : Nat} (h : fbn f 102 0 u = lN t) (ht : t < 48) (h2 : ¬ f t < f u) : lN t = fbn f 102 0 (u + 1) := by
  show _ = fnx f 102 (fbn f 102 0 u) (0 + u)
  rw [Nat.zero_add, fnx_f, h, if_neg (lN_nneg (by omega)), lN_nat (by omega), if_neg h2]
theorem rsum_ag {f g : Nat → Int64} {a : Int64} : ∀ n, (∀ k, k < n → f k = g k) → rsum f a n = rsum g a n
  | 0, _ => rfl
  | n + 1, h => by
    show 31 * rsum f a n + f n = 31 * rsum g a n + g n
    rw [rsum_ag n (fun k hk => h k (by omega)), h n (by omega)]

set_option maxHeartbeats 4000000 in
set_option maxRecDepth 100000 in
theorem mX3_fold_ok (l : Launch) (D : va_G) (cT : Nat → ClassId) (n : Nat) (ad : Nat → Nat) (A : Nat → Prop) (hD : ∀ G, va_D A (gw n ad G)) (G : Nat → va_E) (hn : 114 ≤ n) (σ : TY) (hI : YI σ) (th : Nat) (hM : MW cT ad G σ th) (ch : Nat) (hch : ch < 65536)(q ro : Nat) (hq : q < 3) (hro : ro < 4) (hkq : kdx ch = q) (mo hc : Nat) (hmo1 : 1 ≤ mo) (hmo2 : mo ≤ 48) (hhc : hc < 65536) (hw9 : hwx hc ≠ 4) : Met l yX3_fold (wA yX3_fold cX3_fold 11 (some .long)) ({ frames := 1, cells := 0, slots := 0, locals := 23 } : Room) (PG D cT n ad A G [.ref (ad 69), .int (nI ch), .int (nI ro), .int (nI mo), .int (nI hc)]) (QG D n ad A (fun v G1 => (v = some (.long (fbn (σ.1 (4 * q + ro)).2 hc 0 ((σ.1 (4 * q + ro)).1 - 0))) ∧ MW cT ad G1 σ 0) ∧ ∀ j, (j < 69 ∨ 114 ≤ j) → G1 j = G j)) 0 0 A := by
  refine Met.ofG (cc := cX3_fold) (maxL := 11) (ret := (some .long)) (by decide) (Nat.le_of_ble_eq_true rfl) ?_
  intro p e s m args below meth c Q hQ hx hb hr hml hlocks hown hw hP hK hE hA hS ls hl
  have hl : lv_has ls 11 [(0, .ref (ad 69)), (1, .int (nI ch)), (2, .int (nI ro)), (3, .int (nI mo)), (4, .int (nI hc))] := hl
  obtain ⟨rf, sf, pf, zf, xf, kf, lf, mf, hC, hMA⟩ := hM
  obtain ⟨hsz, hrv⟩ := hMA.1 q (by omega) ro (by omega)
  have hrc := hI.1 (4 * q + ro) (by omega)
  have hh := hwx_lt hw9
  rcases hh with rfl | rfl | rfl | rfl
  · skip
    refine lv_iload_n hx hb dX3_fold_0 rfl (lv_at hl 1 rfl) ?_
    refine g_callS (As := [.int (nI ch)]) (rest := []) ⟨hx, hb, hml, hown, hw⟩ (mX3_kind l D cT n ad A hD G ch (by omega)) (va_cwS 1 hw (gWS wm_X3_51 wst_X3_kind wini_X3 wc_X3_kind) rfl rfl rfl (by decide +kernel) ⟨Nat.le_of_ble_eq_true rfl, Nat.le_of_ble_eq_true rfl⟩) hK hE hA hP hS rfl hl.1 (lv_room (Nat.le_of_ble_eq_true rfl)) dX3_fold_1 ⟨Nat.le_of_ble_eq_true rfl, Nat.le_of_ble_eq_true rfl⟩ (fun v_2 G_1 H locs hp hP hS => ?_)
    obtain ⟨hv9, hg9⟩ := hp
    subst hv9
    rw [hg9] at hP
    refine t_eqi (nI q) ((if_neg (by omega)).trans (congrArg nI hkq)) ?_
    refine lv_istore (lv' := [(5, .int (nI q)), (0, .ref (ad 69)), (1, .int (nI ch)), (2, .int (nI ro)), (3, .int (nI mo)), (4, .int (nI 115))]) hx hb dX3_fold_4 hl (by decide) rfl (fun ls hl => ?_)
    refine lv_aload_n hx hb dX3_fold_6 rfl (lv_at hl 1 rfl) ?_
    refine lv_iload hx hb dX3_fold_7 (lv_at hl 0 rfl) ?_
    refine t_if_lt (tgt := 51) hx hb dX3_fold_9 (by decide) (by omega) ?_
    refine lv_iload_n hx hb dX3_fold_12 rfl (lv_at hl 4 rfl) ?_
    refine g_callS (As := [.int (nI mo)]) (rest := [.ref (ad 69)]) ⟨hx, hb, hml, hown, hw⟩ (mX3_isMost l D cT n ad A hD G (nI mo)) (va_cwS 1 hw (gWS wm_X3_93 wst_X3_isMost wini_X3 wc_X3_isMost) rfl rfl rfl (by decide +kernel) ⟨Nat.le_of_ble_eq_true rfl, Nat.le_of_ble_eq_true rfl⟩) hK hE hA hP hS rfl hl.1 (lv_room (Nat.le_of_ble_eq_true rfl)) dX3_fold_13 ⟨Nat.le_of_ble_eq_true rfl, Nat.le_of_ble_eq_true rfl⟩ (fun v_5 G_4 H locs hp hP hS => ?_)
    obtain ⟨hv9, hg9⟩ := hp
    subst hv9
    rw [hg9] at hP
    refine t_eqi (nI 1) (congrArg nI (if_neg (mo_ok (by omega) (by omega)))) ?_
    refine t_if_eq (tgt := 51) hx hb dX3_fold_16 (by decide) (by omega) (fun c_6 => absurd c_6 (by omega)) (fun c_6 => ?_)
    refine lv_iload hx hb dX3_fold_19 (lv_at hl 5 rfl) ?_
    refine lv_bipush (v := nI 115) hx hb dX3_fold_21 (by decide) ?_
    refine t_icmp_eq (tgt := 47) hx hb dX3_fold_23 (by decide) (by omega) (by omega) (fun c_7 => ?_) (fun c_7 => absurd c_7 (by omega))
    refine lv_iconst (v := nI 1) hx hb dX3_fold_47 (by decide) ?_
    refine lv_goto (tgt := 52) hx hb dX3_fold_48 (by decide) ?_
    refine lv_iload_n hx hb dX3_fold_52 rfl (lv_at hl 3 rfl) ?_
    refine g_callS (As := [.int (nI ro)]) (rest := [.int (nI 1), .ref (ad 69)]) ⟨hx, hb, hml, hown, hw⟩ (mX3_isRow l D cT n ad A hD G (nI ro)) (va_cwS 1 hw (gWS wm_X3_59 wst_X3_isRow wini_X3 wc_X3_isRow) rfl rfl rfl (by decide +kernel) ⟨Nat.le_of_ble_eq_true rfl, Nat.le_of_ble_eq_true rfl⟩) hK hE hA hP hS rfl hl.1 (lv_room (Nat.le_of_ble_eq_true rfl)) dX3_fold_53 ⟨Nat.le_of_ble_eq_true rfl, Nat.le_of_ble_eq_true rfl⟩ (fun v_9 G_8 H locs hp hP hS => ?_)
    obtain ⟨hv9, hg9⟩ := hp
    subst hv9
    rw [hg9] at hP
    refine t_eqi (nI 1) (congrArg nI (if_neg (ix_ok (by omega) (by decide)))) ?_
    refine lv_iconst (v := nI 1) hx hb dX3_fold_56 (by decide) ?_
    refine g_callV (As := [.int (nI 1), .int (nI 1), .int (nI 1)]) (rest := []) ⟨hx, hb, hml, hown, hw⟩ (mX3_can l D cT n ad A hD G hn th 1 1 1 (by decide) (by decide) (by decide) hC.1) (cwV 3 hw (gWV wm_X3_63 wi_X3_can wse_X3_can wini_X3 wc_X3_can) rfl rfl rfl (by decide +kernel) ⟨Nat.le_of_ble_eq_true rfl, Nat.le_of_ble_eq_true rfl⟩) hK hE hA hP hS (k := 69) (by omega) hC.1 rfl rfl hl.1 (lv_room (Nat.le_of_ble_eq_true rfl)) dX3_fold_57 ⟨Nat.le_of_ble_eq_true rfl, Nat.le_of_ble_eq_true rfl⟩ (fun v_11 G_10 H locs hp hP hS => ?_)
    obtain ⟨rfl, hg_G_10, ho_G_10⟩ := hp
    have hc_12 : G_10 69 = .inr (5, [.ref (ad 70), .ref (ad 86), .ref (ad 90), .ref (ad 97), .ref (ad 98), .ref (ad 99), .ref (ad 106), .ref (ad 113), .int (nI 0)]) := hg_G_10
    have hc_13 : G_10 70 = aQ (cT 10) 3 (q3 ad) := (ho_G_10 _ (by omega)).trans hC.2.1
    have hc_14 : G_10 86 = aQ (cT 8) 3 (qS ad) := (ho_G_10 _ (by omega)).trans hC.2.2.2.2.1
    have hc_15 : G_10 90 = aQ (cT 7) 6 (qP ad) := (ho_G_10 _ (by omega)).trans hC.2.2.2.2.2.2.1
    have hc_16 : G_10 97 = aI cT 6 zf := (ho_G_10 _ (by omega)).trans hC.2.2.2.2.2.2.2.2.1
    have hc_17 : G_10 98 = aZ cT 6 xf := (ho_G_10 _ (by omega)).trans hC.2.2.2.2.2.2.2.2.2.1
    have hc_18 : G_10 99 = aQ (cT 9) 6 (qK ad) := (ho_G_10 _ (by omega)).trans hC.2.2.2.2.2.2.2.2.2.2.1
    have hc_19 : G_10 106 = aQ (cT 8) 6 (qL ad) := (ho_G_10 _ (by omega)).trans hC.2.2.2.2.2.2.2.2.2.2.2.2.1
    have hc_20 : G_10 113 = aI cT 6 mf := (ho_G_10 _ (by omega)).trans hC.2.2.2.2.2.2.2.2.2.2.2.2.2.2.1
    have hc_21 : G_10 (71 + 5 * q) = aQ (cT 7) 4 (q4 ad q) := (ho_G_10 _ (by omega)).trans (hC.2.2.1 q (by omega))
    have hc_22 : G_10 (87 + q) = aI cT 4 (sf q) := (ho_G_10 _ (by omega)).trans (hC.2.2.2.2.2.1 q (by omega))
    have hc_23 : G_10 (72 + 5 * q + ro) = aJ cT 48 (rf q ro) := (ho_G_10 _ (by omega)).trans (hC.2.2.2.1 q (by omega) ro (by omega))
    have hfr_24 : ∀ j, (j ≠ 69) → G_10 j = G j := fun j hj => (ho_G_10 j (by omega)).trans (rfl)
    refine t_eqi (nI 1) rfl ?_
    refine t_if_ne (tgt := 65) hx hb dX3_fold_60 (by decide) (by omega) (fun c_25 => ?_) (fun c_25 => absurd c_25 (by omega))
    refine lv_iload hx hb dX3_fold_65 (lv_at hl 5 rfl) ?_
    refine lv_bipush (v := nI 102) hx hb dX3_fold_67 (by decide) ?_
    refine t_icmp_ne (tgt := 78) hx hb dX3_fold_69 (by decide) (by omega) (by omega) (fun c_26 => ?_) (fun c_26 => absurd c_26 (by omega))
    refine lv_lconst (v := 0) hx hb dX3_fold_78 (by decide) ?_
    refine lv_lstore (lv' := [(6, .long 0), (5, .int (nI q)), (0, .ref (ad 69)), (1, .int (nI ch)), (2, .int (nI ro)), (3, .int (nI mo)), (4, .int (nI 115))]) hx hb dX3_fold_79 hl (by decide) rfl (fun ls hl => ?_)
    refine lv_iconst (v := nI 0) hx hb dX3_fold_81 (by decide) ?_
    refine lv_istore (lv' := [(8, .int (nI 0)), (6, .long 0), (5, .int (nI q)), (0, .ref (ad 69)), (1, .int (nI ch)), (2, .int (nI ro)), (3, .int (nI mo)), (4, .int (nI 115))]) hx hb dX3_fold_82 hl (by decide) rfl (fun ls hl => ?_)
    have hl : lv_has ls 11 [(8, .int (nI 0)), (6, .long (fbn (σ.1 (4 * q + ro)).2 115 0 0)), (5, .int (nI q)), (0, .ref (ad 69)), (1, .int (nI ch)), (2, .int (nI ro)), (3, .int (nI mo)), (4, .int (nI 115))] := hl
    have key_27 : ∀ (fu : Nat) (u : Nat), (u ≤ (σ.1 (4 * q + ro)).1) → ((σ.1 (4 * q + ro)).1 - u) < fu → ∀ (H : Heap) (locs : List Loc), va_P D vwCl (gw n ad G_10) H → va_S A s.heap H locs → ∀ ls : Array Slot, lv_has ls 11 [(8, .int (nI u)), (6, .long (fbn (σ.1 (4 * q + ro)).2 115 0 u)), (5, .int (nI q)), (0, .ref (ad 69)), (2, .int (nI ro)), (4, .int (nI 115))] → W p l e ({ frames := 1, cells := 0, slots := 0, locals := 23 } : Room) s m args below meth c H locs 0 0 Q (F0 m 84 ls []) := by
      intro fu_28
      induction fu_28 with
      | zero => intros; exfalso; omega
      | succ fu_28 ih_29 =>
        intro u hu hfu_30 H locs hP hS ls hl
        refine lv_iload hx hb dX3_fold_84 (lv_at hl 0 rfl) ?_
        refine lv_aload_n hx hb dX3_fold_86 rfl (lv_at hl 3 rfl) ?_
        refine g_get (C := RX3) (T := TX3) (N := 9) hx hb hw inX3 hown hK hP (i := 69) (by omega) hc_12 rfl 1 (by decide) (hw _ wf_X3_16) rfl dX3_fold_87 ?_
        refine lv_iload hx hb dX3_fold_90 (lv_at hl 2 rfl) ?_
        refine g_aald hx hb hK hP 8 (i := 86) (by omega) hc_14 rfl rfl (k := (ad (87 + q))) (by omega) (by omega) (qS_at (by omega)) dX3_fold_92 ?_
        refine lv_iload_n hx hb dX3_fold_93 rfl (lv_at hl 4 rfl) ?_
        refine g_iald hx hb hK hP (i := (87 + q)) (by omega) hc_22 (by omega) (by omega) dX3_fold_94 ?_
        refine t_icmp_ge (tgt := 204) hx hb dX3_fold_95 (by decide) (by omega) (by omega) (fun c_31 => ?_) (fun c_31 => ?_)
        · skip
          obtain rfl : u = (σ.1 (4 * q + ro)).1 := by omega
          refine lv_lload hx hb dX3_fold_204 (lv_at hl 1 rfl) ?_
          refine g_retl hQ hx hb hr hlocks hP hS (⟨⟨by rw [Nat.sub_zero], MW.same hC hMA hc_12 (fun j9 _ _ hj9 => hfr_24 j9 hj9)⟩, fun j hj => hfr_24 j (by omega)⟩) (Nat.le_of_ble_eq_true rfl) (Nat.le_of_ble_eq_true rfl) dX3_fold_206
        · skip
          refine lv_aload_n hx hb dX3_fold_98 rfl (lv_at hl 3 rfl) ?_
          refine g_get (C := RX3) (T := TX3) (N := 9) hx hb hw inX3 hown hK hP (i := 69) (by omega) hc_12 rfl 0 (by decide) (hw _ wf_X3_11) rfl dX3_fold_99 ?_
          refine lv_iload hx hb dX3_fold_102 (lv_at hl 2 rfl) ?_
          refine g_aald hx hb hK hP 10 (i := 70) (by omega) hc_13 rfl rfl (k := (ad (71 + 5 * q))) (by omega) (by omega) (q3_at (by omega)) dX3_fold_104 ?_
          refine lv_iload_n hx hb dX3_fold_105 rfl (lv_at hl 4 rfl) ?_
          refine g_aald hx hb hK hP 7 (i := (71 + 5 * q)) (by omega) hc_21 rfl rfl (k := (ad (72 + 5 * q + ro))) (by omega) (by omega) (q4_at (by omega)) dX3_fold_106 ?_
          refine lv_iload hx hb dX3_fold_107 (lv_at hl 0 rfl) ?_
          refine g_lald hx hb hK hP (i := (72 + 5 * q + ro)) (by omega) hc_23 (by omega) (by omega) dX3_fold_109 ?_
          refine t_eql ((σ.1 (4 * q + ro)).2 u) (hrv u (by omega)) ?_
          refine lv_lstore (lv' := [(9, .long ((σ.1 (4 * q + ro)).2 u)), (8, .int (nI u)), (6, .long (fbn (σ.1 (4 * q + ro)).2 115 0 u)), (5, .int (nI q)), (0, .ref (ad 69)), (2, .int (nI ro)), (4, .int (nI 115))]) hx hb dX3_fold_110 hl (by decide) rfl (fun ls hl => ?_)
          refine lv_iload hx hb dX3_fold_112 (lv_at hl 6 rfl) ?_
          refine lv_bipush (v := nI 115) hx hb dX3_fold_114 (by decide) ?_
          refine t_icmp_ne (tgt := 129) hx hb dX3_fold_116 (by decide) (by omega) (by omega) (fun c_32 => absurd c_32 (by omega)) (fun c_32 => ?_)
          refine lv_lload hx hb dX3_fold_119 (lv_at hl 2 rfl) ?_
          refine lv_lload hx hb dX3_fold_121 (lv_at hl 0 rfl) ?_
          refine lv_ladd hx hb dX3_fold_123 ?_
          refine lv_lstore (lv' := [(6, .long ((fbn (σ.1 (4 * q + ro)).2 115 0 u) + ((σ.1 (4 * q + ro)).2 u))), (9, .long ((σ.1 (4 * q + ro)).2 u)), (8, .int (nI u)), (5, .int (nI q)), (0, .ref (ad 69)), (2, .int (nI ro)), (4, .int (nI 115))]) hx hb dX3_fold_124 hl (by decide) rfl (fun ls hl => ?_)
          refine lv_goto (tgt := 198) hx hb dX3_fold_126 (by decide) ?_
          refine lv_iinc (v := nI (u + 1)) (lv' := [(8, .int (nI (u + 1))), (6, .long ((fbn (σ.1 (4 * q + ro)).2 115 0 u) + ((σ.1 (4 * q + ro)).2 u))), (9, .long ((σ.1 (4 * q + ro)).2 u)), (5, .int (nI q)), (0, .ref (ad 69)), (2, .int (nI ro)), (4, .int (nI 115))]) hx hb dX3_fold_198 hl (k := 2) rfl (by exact nI_add u 1) (by decide) rfl (fun ls hl => ?_)
          refine lv_goto (tgt := 84) hx hb dX3_fold_201 (by decide) ?_
          have hz8 : (fbn (σ.1 (4 * q + ro)).2 115 0 u) + ((σ.1 (4 * q + ro)).2 u) = fbn (σ.1 (4 * q + ro)).2 115 0 (u + 1) := fbn_s
          have hl := hl
          rw [hz8] at hl
          exact ih_29 (u + 1) (by omega) (by omega) _ _ hP hS ls (lv_sub hl [0, 1, 3, 4, 5, 6] rfl)
    exact key_27 _ 0 (by omega) (Nat.lt_succ_self _) _ _ hP hS ls (lv_sub hl [0, 1, 2, 3, 5, 7] rfl)
  · skip
    refine lv_iload_n hx hb dX3_fold_0 rfl (lv_at hl 1 rfl) ?_
    refine g_callS (As := [.int (nI ch)]) (rest := []) ⟨hx, hb, hml, hown, hw⟩ (mX3_kind l D cT n ad A hD G ch (by omega)) (va_cwS 1 hw (gWS wm_X3_51 wst_X3_kind wini_X3 wc_X3_kind) rfl rfl rfl (by decide +kernel) ⟨Nat.le_of_ble_eq_true rfl, Nat.le_of_ble_eq_true rfl⟩) hK hE hA hP hS rfl hl.1 (lv_room (Nat.le_of_ble_eq_true rfl)) dX3_fold_1 ⟨Nat.le_of_ble_eq_true rfl, Nat.le_of_ble_eq_true rfl⟩ (fun v_34 G_33 H locs hp hP hS => ?_)
    obtain ⟨hv9, hg9⟩ := hp
    subst hv9
    rw [hg9] at hP
    refine t_eqi (nI q) ((if_neg (by omega)).trans (congrArg nI hkq)) ?_
    refine lv_istore (lv' := [(5, .int (nI q)), (0, .ref (ad 69)), (1, .int (nI ch)), (2, .int (nI ro)), (3, .int (nI mo)), (4, .int (nI 120))]) hx hb dX3_fold_4 hl (by decide) rfl (fun ls hl => ?_)
    refine lv_aload_n hx hb dX3_fold_6 rfl (lv_at hl 1 rfl) ?_
    refine lv_iload hx hb dX3_fold_7 (lv_at hl 0 rfl) ?_
    refine t_if_lt (tgt := 51) hx hb dX3_fold_9 (by decide) (by omega) ?_
    refine lv_iload_n hx hb dX3_fold_12 rfl (lv_at hl 4 rfl) ?_
    refine g_callS (As := [.int (nI mo)]) (rest := [.ref (ad 69)]) ⟨hx, hb, hml, hown, hw⟩ (mX3_isMost l D cT n ad A hD G (nI mo)) (va_cwS 1 hw (gWS wm_X3_93 wst_X3_isMost wini_X3 wc_X3_isMost) rfl rfl rfl (by decide +kernel) ⟨Nat.le_of_ble_eq_true rfl, Nat.le_of_ble_eq_true rfl⟩) hK hE hA hP hS rfl hl.1 (lv_room (Nat.le_of_ble_eq_true rfl)) dX3_fold_13 ⟨Nat.le_of_ble_eq_true rfl, Nat.le_of_ble_eq_true rfl⟩ (fun v_37 G_36 H locs hp hP hS => ?_)
    obtain ⟨hv9, hg9⟩ := hp
    subst hv9
    rw [hg9] at hP
    refine t_eqi (nI 1) (congrArg nI (if_neg (mo_ok (by omega) (by omega)))) ?_
    refine t_if_eq (tgt := 51) hx hb dX3_fold_16 (by decide) (by omega) (fun c_38 => absurd c_38 (by omega)) (fun c_38 => ?_)
    refine lv_iload hx hb dX3_fold_19 (lv_at hl 5 rfl) ?_
    refine lv_bipush (v := nI 115) hx hb dX3_fold_21 (by decide) ?_
    refine t_icmp_eq (tgt := 47) hx hb dX3_fold_23 (by decide) (by omega) (by omega) (fun c_39 => absurd c_39 (by omega)) (fun c_39 => ?_)
    refine lv_iload hx hb dX3_fold_26 (lv_at hl 5 rfl) ?_
    refine lv_bipush (v := nI 120) hx hb dX3_fold_28 (by decide) ?_
    refine t_icmp_eq (tgt := 47) hx hb dX3_fold_30 (by decide) (by omega) (by omega) (fun c_40 => ?_) (fun c_40 => absurd c_40 (by omega))
    refine lv_iconst (v := nI 1) hx hb dX3_fold_47 (by decide) ?_
    refine lv_goto (tgt := 52) hx hb dX3_fold_48 (by decide) ?_
    refine lv_iload_n hx hb dX3_fold_52 rfl (lv_at hl 3 rfl) ?_
    refine g_callS (As := [.int (nI ro)]) (rest := [.int (nI 1), .ref (ad 69)]) ⟨hx, hb, hml, hown, hw⟩ (mX3_isRow l D cT n ad A hD G (nI ro)) (va_cwS 1 hw (gWS wm_X3_59 wst_X3_isRow wini_X3 wc_X3_isRow) rfl rfl rfl (by decide +kernel) ⟨Nat.le_of_ble_eq_true rfl, Nat.le_of_ble_eq_true rfl⟩) hK hE hA hP hS rfl hl.1 (lv_room (Nat.le_of_ble_eq_true rfl)) dX3_fold_53 ⟨Nat.le_of_ble_eq_true rfl, Nat.le_of_ble_eq_true rfl⟩ (fun v_42 G_41 H locs hp hP hS => ?_)
    obtain ⟨hv9, hg9⟩ := hp
    subst hv9
    rw [hg9] at hP
    refine t_eqi (nI 1) (congrArg nI (if_neg (ix_ok (by omega) (by decide)))) ?_
    refine lv_iconst (v := nI 1) hx hb dX3_fold_56 (by decide) ?_
    refine g_callV (As := [.int (nI 1), .int (nI 1), .int (nI 1)]) (rest := []) ⟨hx, hb, hml, hown, hw⟩ (mX3_can l D cT n ad A hD G hn th 1 1 1 (by decide) (by decide) (by decide) hC.1) (cwV 3 hw (gWV wm_X3_63 wi_X3_can wse_X3_can wini_X3 wc_X3_can) rfl rfl rfl (by decide +kernel) ⟨Nat.le_of_ble_eq_true rfl, Nat.le_of_ble_eq_true rfl⟩) hK hE hA hP hS (k := 69) (by omega) hC.1 rfl rfl hl.1 (lv_room (Nat.le_of_ble_eq_true rfl)) dX3_fold_57 ⟨Nat.le_of_ble_eq_true rfl, Nat.le_of_ble_eq_true rfl⟩ (fun v_44 G_43 H locs hp hP hS => ?_)
    obtain ⟨rfl, hg_G_43, ho_G_43⟩ := hp
    have hc_45 : G_43 69 = .inr (5, [.ref (ad 70), .ref (ad 86), .ref (ad 90), .ref (ad 97), .ref (ad 98), .ref (ad 99), .ref (ad 106), .ref (ad 113), .int (nI 0)]) := hg_G_43
    have hc_46 : G_43 70 = aQ (cT 10) 3 (q3 ad) := (ho_G_43 _ (by omega)).trans hC.2.1
    have hc_47 : G_43 86 = aQ (cT 8) 3 (qS ad) := (ho_G_43 _ (by omega)).trans hC.2.2.2.2.1
    have hc_48 : G_43 90 = aQ (cT 7) 6 (qP ad) := (ho_G_43 _ (by omega)).trans hC.2.2.2.2.2.2.1
    have hc_49 : G_43 97 = aI cT 6 zf := (ho_G_43 _ (by omega)).trans hC.2.2.2.2.2.2.2.2.1
    have hc_50 : G_43 98 = aZ cT 6 xf := (ho_G_43 _ (by omega)).trans hC.2.2.2.2.2.2.2.2.2.1
    have hc_51 : G_43 99 = aQ (cT 9) 6 (qK ad) := (ho_G_43 _ (by omega)).trans hC.2.2.2.2.2.2.2.2.2.2.1
    have hc_52 : G_43 106 = aQ (cT 8) 6 (qL ad) := (ho_G_43 _ (by omega)).trans hC.2.2.2.2.2.2.2.2.2.2.2.2.1
    have hc_53 : G_43 113 = aI cT 6 mf := (ho_G_43 _ (by omega)).trans hC.2.2.2.2.2.2.2.2.2.2.2.2.2.2.1
    have hc_54 : G_43 (71 + 5 * q) = aQ (cT 7) 4 (q4 ad q) := (ho_G_43 _ (by omega)).trans (hC.2.2.1 q (by omega))
    have hc_55 : G_43 (87 + q) = aI cT 4 (sf q) := (ho_G_43 _ (by omega)).trans (hC.2.2.2.2.2.1 q (by omega))
    have hc_56 : G_43 (72 + 5 * q + ro) = aJ cT 48 (rf q ro) := (ho_G_43 _ (by omega)).trans (hC.2.2.2.1 q (by omega) ro (by omega))
    have hfr_57 : ∀ j, (j ≠ 69) → G_43 j = G j := fun j hj => (ho_G_43 j (by omega)).trans (rfl)
    refine t_eqi (nI 1) rfl ?_
    refine t_if_ne (tgt := 65) hx hb dX3_fold_60 (by decide) (by omega) (fun c_58 => ?_) (fun c_58 => absurd c_58 (by omega))
    refine lv_iload hx hb dX3_fold_65 (lv_at hl 5 rfl) ?_
    refine lv_bipush (v := nI 102) hx hb dX3_fold_67 (by decide) ?_
    refine t_icmp_ne (tgt := 78) hx hb dX3_fold_69 (by decide) (by omega) (by omega) (fun c_59 => ?_) (fun c_59 => absurd c_59 (by omega))
    refine lv_lconst (v := 0) hx hb dX3_fold_78 (by decide) ?_
    refine lv_lstore (lv' := [(6, .long 0), (5, .int (nI q)), (0, .ref (ad 69)), (1, .int (nI ch)), (2, .int (nI ro)), (3, .int (nI mo)), (4, .int (nI 120))]) hx hb dX3_fold_79 hl (by decide) rfl (fun ls hl => ?_)
    refine lv_iconst (v := nI 0) hx hb dX3_fold_81 (by decide) ?_
    refine lv_istore (lv' := [(8, .int (nI 0)), (6, .long 0), (5, .int (nI q)), (0, .ref (ad 69)), (1, .int (nI ch)), (2, .int (nI ro)), (3, .int (nI mo)), (4, .int (nI 120))]) hx hb dX3_fold_82 hl (by decide) rfl (fun ls hl => ?_)
    have hl : lv_has ls 11 [(8, .int (nI 0)), (6, .long (fbn (σ.1 (4 * q + ro)).2 120 0 0)), (5, .int (nI q)), (0, .ref (ad 69)), (1, .int (nI ch)), (2, .int (nI ro)), (3, .int (nI mo)), (4, .int (nI 120))] := hl
    have key_60 : ∀ (fu : Nat) (u : Nat), (u ≤ (σ.1 (4 * q + ro)).1) → ((σ.1 (4 * q + ro)).1 - u) < fu → ∀ (H : Heap) (locs : List Loc), va_P D vwCl (gw n ad G_43) H → va_S A s.heap H locs → ∀ ls : Array Slot, lv_has ls 11 [(8, .int (nI u)), (6, .long (fbn (σ.1 (4 * q + ro)).2 120 0 u)), (5, .int (nI q)), (0, .ref (ad 69)), (2, .int (nI ro)), (4, .int (nI 120))] → W p l e ({ frames := 1, cells := 0, slots := 0, locals := 23 } : Room) s m args below meth c H locs 0 0 Q (F0 m 84 ls []) := by
      intro fu_61
      induction fu_61 with
      | zero => intros; exfalso; omega
      | succ fu_61 ih_62 =>
        intro u hu hfu_63 H locs hP hS ls hl
        refine lv_iload hx hb dX3_fold_84 (lv_at hl 0 rfl) ?_
        refine lv_aload_n hx hb dX3_fold_86 rfl (lv_at hl 3 rfl) ?_
        refine g_get (C := RX3) (T := TX3) (N := 9) hx hb hw inX3 hown hK hP (i := 69) (by omega) hc_45 rfl 1 (by decide) (hw _ wf_X3_16) rfl dX3_fold_87 ?_
        refine lv_iload hx hb dX3_fold_90 (lv_at hl 2 rfl) ?_
        refine g_aald hx hb hK hP 8 (i := 86) (by omega) hc_47 rfl rfl (k := (ad (87 + q))) (by omega) (by omega) (qS_at (by omega)) dX3_fold_92 ?_
        refine lv_iload_n hx hb dX3_fold_93 rfl (lv_at hl 4 rfl) ?_
        refine g_iald hx hb hK hP (i := (87 + q)) (by omega) hc_55 (by omega) (by omega) dX3_fold_94 ?_
        refine t_icmp_ge (tgt := 204) hx hb dX3_fold_95 (by decide) (by omega) (by omega) (fun c_64 => ?_) (fun c_64 => ?_)
        · skip
          obtain rfl : u = (σ.1 (4 * q + ro)).1 := by omega
          refine lv_lload hx hb dX3_fold_204 (lv_at hl 1 rfl) ?_
          refine g_retl hQ hx hb hr hlocks hP hS (⟨⟨by rw [Nat.sub_zero], MW.same hC hMA hc_45 (fun j9 _ _ hj9 => hfr_57 j9 hj9)⟩, fun j hj => hfr_57 j (by omega)⟩) (Nat.le_of_ble_eq_true rfl) (Nat.le_of_ble_eq_true rfl) dX3_fold_206
        · skip
          refine lv_aload_n hx hb dX3_fold_98 rfl (lv_at hl 3 rfl) ?_
          refine g_get (C := RX3) (T := TX3) (N := 9) hx hb hw inX3 hown hK hP (i := 69) (by omega) hc_45 rfl 0 (by decide) (hw _ wf_X3_11) rfl dX3_fold_99 ?_
          refine lv_iload hx hb dX3_fold_102 (lv_at hl 2 rfl) ?_
          refine g_aald hx hb hK hP 10 (i := 70) (by omega) hc_46 rfl rfl (k := (ad (71 + 5 * q))) (by omega) (by omega) (q3_at (by omega)) dX3_fold_104 ?_
          refine lv_iload_n hx hb dX3_fold_105 rfl (lv_at hl 4 rfl) ?_
          refine g_aald hx hb hK hP 7 (i := (71 + 5 * q)) (by omega) hc_54 rfl rfl (k := (ad (72 + 5 * q + ro))) (by omega) (by omega) (q4_at (by omega)) dX3_fold_106 ?_
          refine lv_iload hx hb dX3_fold_107 (lv_at hl 0 rfl) ?_
          refine g_lald hx hb hK hP (i := (72 + 5 * q + ro)) (by omega) hc_56 (by omega) (by omega) dX3_fold_109 ?_
          refine t_eql ((σ.1 (4 * q + ro)).2 u) (hrv u (by omega)) ?_
          refine lv_lstore (lv' := [(9, .long ((σ.1 (4 * q + ro)).2 u)), (8, .int (nI u)), (6, .long (fbn (σ.1 (4 * q + ro)).2 120 0 u)), (5, .int (nI q)), (0, .ref (ad 69)), (2, .int (nI ro)), (4, .int (nI 120))]) hx hb dX3_fold_110 hl (by decide) rfl (fun ls hl => ?_)
          refine lv_iload hx hb dX3_fold_112 (lv_at hl 6 rfl) ?_
          refine lv_bipush (v := nI 115) hx hb dX3_fold_114 (by decide) ?_
          refine t_icmp_ne (tgt := 129) hx hb dX3_fold_116 (by decide) (by omega) (by omega) (fun c_65 => ?_) (fun c_65 => absurd c_65 (by omega))
          refine lv_iload hx hb dX3_fold_129 (lv_at hl 6 rfl) ?_
          refine lv_bipush (v := nI 120) hx hb dX3_fold_131 (by decide) ?_
          refine t_icmp_ne (tgt := 146) hx hb dX3_fold_133 (by decide) (by omega) (by omega) (fun c_66 => absurd c_66 (by omega)) (fun c_66 => ?_)
          refine lv_lload hx hb dX3_fold_136 (lv_at hl 2 rfl) ?_
          refine lv_lload hx hb dX3_fold_138 (lv_at hl 0 rfl) ?_
          refine lv_lxor hx hb dX3_fold_140 ?_
          refine lv_lstore (lv' := [(6, .long ((fbn (σ.1 (4 * q + ro)).2 120 0 u) ^^^ ((σ.1 (4 * q + ro)).2 u))), (9, .long ((σ.1 (4 * q + ro)).2 u)), (8, .int (nI u)), (5, .int (nI q)), (0, .ref (ad 69)), (2, .int (nI ro)), (4, .int (nI 120))]) hx hb dX3_fold_141 hl (by decide) rfl (fun ls hl => ?_)
          refine lv_goto (tgt := 198) hx hb dX3_fold_143 (by decide) ?_
          refine lv_iinc (v := nI (u + 1)) (lv' := [(8, .int (nI (u + 1))), (6, .long ((fbn (σ.1 (4 * q + ro)).2 120 0 u) ^^^ ((σ.1 (4 * q + ro)).2 u))), (9, .long ((σ.1 (4 * q + ro)).2 u)), (5, .int (nI q)), (0, .ref (ad 69)), (2, .int (nI ro)), (4, .int (nI 120))]) hx hb dX3_fold_198 hl (k := 2) rfl (by exact nI_add u 1) (by decide) rfl (fun ls hl => ?_)
          refine lv_goto (tgt := 84) hx hb dX3_fold_201 (by decide) ?_
          have hz8 : (fbn (σ.1 (4 * q + ro)).2 120 0 u) ^^^ ((σ.1 (4 * q + ro)).2 u) = fbn (σ.1 (4 * q + ro)).2 120 0 (u + 1) := fbn_x
          have hl := hl
          rw [hz8] at hl
          exact ih_62 (u + 1) (by omega) (by omega) _ _ hP hS ls (lv_sub hl [0, 1, 3, 4, 5, 6] rfl)
    exact key_60 _ 0 (by omega) (Nat.lt_succ_self _) _ _ hP hS ls (lv_sub hl [0, 1, 2, 3, 5, 7] rfl)
  · skip
    refine lv_iload_n hx hb dX3_fold_0 rfl (lv_at hl 1 rfl) ?_
    refine g_callS (As := [.int (nI ch)]) (rest := []) ⟨hx, hb, hml, hown, hw⟩ (mX3_kind l D cT n ad A hD G ch (by omega)) (va_cwS 1 hw (gWS wm_X3_51 wst_X3_kind wini_X3 wc_X3_kind) rfl rfl rfl (by decide +kernel) ⟨Nat.le_of_ble_eq_true rfl, Nat.le_of_ble_eq_true rfl⟩) hK hE hA hP hS rfl hl.1 (lv_room (Nat.le_of_ble_eq_true rfl)) dX3_fold_1 ⟨Nat.le_of_ble_eq_true rfl, Nat.le_of_ble_eq_true rfl⟩ (fun v_68 G_67 H locs hp hP hS => ?_)
    obtain ⟨hv9, hg9⟩ := hp
    subst hv9
    rw [hg9] at hP
    refine t_eqi (nI q) ((if_neg (by omega)).trans (congrArg nI hkq)) ?_
    refine lv_istore (lv' := [(5, .int (nI q)), (0, .ref (ad 69)), (1, .int (nI ch)), (2, .int (nI ro)), (3, .int (nI mo)), (4, .int (nI 104))]) hx hb dX3_fold_4 hl (by decide) rfl (fun ls hl => ?_)
    refine lv_aload_n hx hb dX3_fold_6 rfl (lv_at hl 1 rfl) ?_
    refine lv_iload hx hb dX3_fold_7 (lv_at hl 0 rfl) ?_
    refine t_if_lt (tgt := 51) hx hb dX3_fold_9 (by decide) (by omega) ?_
    refine lv_iload_n hx hb dX3_fold_12 rfl (lv_at hl 4 rfl) ?_
    refine g_callS (As := [.int (nI mo)]) (rest := [.ref (ad 69)]) ⟨hx, hb, hml, hown, hw⟩ (mX3_isMost l D cT n ad A hD G (nI mo)) (va_cwS 1 hw (gWS wm_X3_93 wst_X3_isMost wini_X3 wc_X3_isMost) rfl rfl rfl (by decide +kernel) ⟨Nat.le_of_ble_eq_true rfl, Nat.le_of_ble_eq_true rfl⟩) hK hE hA hP hS rfl hl.1 (lv_room (Nat.le_of_ble_eq_true rfl)) dX3_fold_13 ⟨Nat.le_of_ble_eq_true rfl, Nat.le_of_ble_eq_true rfl⟩ (fun v_71 G_70 H locs hp hP hS => ?_)
    obtain ⟨hv9, hg9⟩ := hp
    subst hv9
    rw [hg9] at hP
    refine t_eqi (nI 1) (congrArg nI (if_neg (mo_ok (by omega) (by omega)))) ?_
    refine t_if_eq (tgt := 51) hx hb dX3_fold_16 (by decide) (by omega) (fun c_72 => absurd c_72 (by omega)) (fun c_72 => ?_)
    refine lv_iload hx hb dX3_fold_19 (lv_at hl 5 rfl) ?_
    refine lv_bipush (v := nI 115) hx hb dX3_fold_21 (by decide) ?_
    refine t_icmp_eq (tgt := 47) hx hb dX3_fold_23 (by decide) (by omega) (by omega) (fun c_73 => absurd c_73 (by omega)) (fun c_73 => ?_)
    refine lv_iload hx hb dX3_fold_26 (lv_at hl 5 rfl) ?_
    refine lv_bipush (v := nI 120) hx hb dX3_fold_28 (by decide) ?_
    refine t_icmp_eq (tgt := 47) hx hb dX3_fold_30 (by decide) (by omega) (by omega) (fun c_74 => absurd c_74 (by omega)) (fun c_74 => ?_)
    refine lv_iload hx hb dX3_fold_33 (lv_at hl 5 rfl) ?_
    refine lv_bipush (v := nI 104) hx hb dX3_fold_35 (by decide) ?_
    refine t_icmp_eq (tgt := 47) hx hb dX3_fold_37 (by decide) (by omega) (by omega) (fun c_75 => ?_) (fun c_75 => absurd c_75 (by omega))
    refine lv_iconst (v := nI 1) hx hb dX3_fold_47 (by decide) ?_
    refine lv_goto (tgt := 52) hx hb dX3_fold_48 (by decide) ?_
    refine lv_iload_n hx hb dX3_fold_52 rfl (lv_at hl 3 rfl) ?_
    refine g_callS (As := [.int (nI ro)]) (rest := [.int (nI 1), .ref (ad 69)]) ⟨hx, hb, hml, hown, hw⟩ (mX3_isRow l D cT n ad A hD G (nI ro)) (va_cwS 1 hw (gWS wm_X3_59 wst_X3_isRow wini_X3 wc_X3_isRow) rfl rfl rfl (by decide +kernel) ⟨Nat.le_of_ble_eq_true rfl, Nat.le_of_ble_eq_true rfl⟩) hK hE hA hP hS rfl hl.1 (lv_room (Nat.le_of_ble_eq_true rfl)) dX3_fold_53 ⟨Nat.le_of_ble_eq_true rfl, Nat.le_of_ble_eq_true rfl⟩ (fun v_77 G_76 H locs hp hP hS => ?_)
    obtain ⟨hv9, hg9⟩ := hp
    subst hv9
    rw [hg9] at hP
    refine t_eqi (nI 1) (congrArg nI (if_neg (ix_ok (by omega) (by decide)))) ?_
    refine lv_iconst (v := nI 1) hx hb dX3_fold_56 (by decide) ?_
    refine g_callV (As := [.int (nI 1), .int (nI 1), .int (nI 1)]) (rest := []) ⟨hx, hb, hml, hown, hw⟩ (mX3_can l D cT n ad A hD G hn th 1 1 1 (by decide) (by decide) (by decide) hC.1) (cwV 3 hw (gWV wm_X3_63 wi_X3_can wse_X3_can wini_X3 wc_X3_can) rfl rfl rfl (by decide +kernel) ⟨Nat.le_of_ble_eq_true rfl, Nat.le_of_ble_eq_true rfl⟩) hK hE hA hP hS (k := 69) (by omega) hC.1 rfl rfl hl.1 (lv_room (Nat.le_of_ble_eq_true rfl)) dX3_fold_57 ⟨Nat.le_of_ble_eq_true rfl, Nat.le_of_ble_eq_true rfl⟩ (fun v_79 G_78 H locs hp hP hS => ?_)
    obtain ⟨rfl, hg_G_78, ho_G_78⟩ := hp
    have hc_80 : G_78 69 = .inr (5, [.ref (ad 70), .ref (ad 86), .ref (ad 90), .ref (ad 97), .ref (ad 98), .ref (ad 99), .ref (ad 106), .ref (ad 113), .int (nI 0)]) := hg_G_78
    have hc_81 : G_78 70 = aQ (cT 10) 3 (q3 ad) := (ho_G_78 _ (by omega)).trans hC.2.1
    have hc_82 : G_78 86 = aQ (cT 8) 3 (qS ad) := (ho_G_78 _ (by omega)).trans hC.2.2.2.2.1
    have hc_83 : G_78 90 = aQ (cT 7) 6 (qP ad) := (ho_G_78 _ (by omega)).trans hC.2.2.2.2.2.2.1
    have hc_84 : G_78 97 = aI cT 6 zf := (ho_G_78 _ (by omega)).trans hC.2.2.2.2.2.2.2.2.1
    have hc_85 : G_78 98 = aZ cT 6 xf := (ho_G_78 _ (by omega)).trans hC.2.2.2.2.2.2.2.2.2.1
    have hc_86 : G_78 99 = aQ (cT 9) 6 (qK ad) := (ho_G_78 _ (by omega)).trans hC.2.2.2.2.2.2.2.2.2.2.1
    have hc_87 : G_78 106 = aQ (cT 8) 6 (qL ad) := (ho_G_78 _ (by omega)).trans hC.2.2.2.2.2.2.2.2.2.2.2.2.1
    have hc_88 : G_78 113 = aI cT 6 mf := (ho_G_78 _ (by omega)).trans hC.2.2.2.2.2.2.2.2.2.2.2.2.2.2.1
    have hc_89 : G_78 (71 + 5 * q) = aQ (cT 7) 4 (q4 ad q) := (ho_G_78 _ (by omega)).trans (hC.2.2.1 q (by omega))
    have hc_90 : G_78 (87 + q) = aI cT 4 (sf q) := (ho_G_78 _ (by omega)).trans (hC.2.2.2.2.2.1 q (by omega))
    have hc_91 : G_78 (72 + 5 * q + ro) = aJ cT 48 (rf q ro) := (ho_G_78 _ (by omega)).trans (hC.2.2.2.1 q (by omega) ro (by omega))
    have hfr_92 : ∀ j, (j ≠ 69) → G_78 j = G j := fun j hj => (ho_G_78 j (by omega)).trans (rfl)
    refine t_eqi (nI 1) rfl ?_
    refine t_if_ne (tgt := 65) hx hb dX3_fold_60 (by decide) (by omega) (fun c_93 => ?_) (fun c_93 => absurd c_93 (by omega))
    refine lv_iload hx hb dX3_fold_65 (lv_at hl 5 rfl) ?_
    refine lv_bipush (v := nI 102) hx hb dX3_fold_67 (by decide) ?_
    refine t_icmp_ne (tgt := 78) hx hb dX3_fold_69 (by decide) (by omega) (by omega) (fun c_94 => ?_) (fun c_94 => absurd c_94 (by omega))
    refine lv_lconst (v := 0) hx hb dX3_fold_78 (by decide) ?_
    refine lv_lstore (lv' := [(6, .long 0), (5, .int (nI q)), (0, .ref (ad 69)), (1, .int (nI ch)), (2, .int (nI ro)), (3, .int (nI mo)), (4, .int (nI 104))]) hx hb dX3_fold_79 hl (by decide) rfl (fun ls hl => ?_)
    refine lv_iconst (v := nI 0) hx hb dX3_fold_81 (by decide) ?_
    refine lv_istore (lv' := [(8, .int (nI 0)), (6, .long 0), (5, .int (nI q)), (0, .ref (ad 69)), (1, .int (nI ch)), (2, .int (nI ro)), (3, .int (nI mo)), (4, .int (nI 104))]) hx hb dX3_fold_82 hl (by decide) rfl (fun ls hl => ?_)
    have hl : lv_has ls 11 [(8, .int (nI 0)), (6, .long (fbn (σ.1 (4 * q + ro)).2 104 0 0)), (5, .int (nI q)), (0, .ref (ad 69)), (1, .int (nI ch)), (2, .int (nI ro)), (3, .int (nI mo)), (4, .int (nI 104))] := hl
    have key_95 : ∀ (fu : Nat) (u : Nat), (u ≤ (σ.1 (4 * q + ro)).1) → ((σ.1 (4 * q + ro)).1 - u) < fu → ∀ (H : Heap) (locs : List Loc), va_P D vwCl (gw n ad G_78) H → va_S A s.heap H locs → ∀ ls : Array Slot, lv_has ls 11 [(8, .int (nI u)), (6, .long (fbn (σ.1 (4 * q + ro)).2 104 0 u)), (5, .int (nI q)), (0, .ref (ad 69)), (2, .int (nI ro)), (4, .int (nI 104))] → W p l e ({ frames := 1, cells := 0, slots := 0, locals := 23 } : Room) s m args below meth c H locs 0 0 Q (F0 m 84 ls []) := by
      intro fu_96
      induction fu_96 with
      | zero => intros; exfalso; omega
      | succ fu_96 ih_97 =>
        intro u hu hfu_98 H locs hP hS ls hl
        refine lv_iload hx hb dX3_fold_84 (lv_at hl 0 rfl) ?_
        refine lv_aload_n hx hb dX3_fold_86 rfl (lv_at hl 3 rfl) ?_
        refine g_get (C := RX3) (T := TX3) (N := 9) hx hb hw inX3 hown hK hP (i := 69) (by omega) hc_80 rfl 1 (by decide) (hw _ wf_X3_16) rfl dX3_fold_87 ?_
        refine lv_iload hx hb dX3_fold_90 (lv_at hl 2 rfl) ?_
        refine g_aald hx hb hK hP 8 (i := 86) (by omega) hc_82 rfl rfl (k := (ad (87 + q))) (by omega) (by omega) (qS_at (by omega)) dX3_fold_92 ?_
        refine lv_iload_n hx hb dX3_fold_93 rfl (lv_at hl 4 rfl) ?_
        refine g_iald hx hb hK hP (i := (87 + q)) (by omega) hc_90 (by omega) (by omega) dX3_fold_94 ?_
        refine t_icmp_ge (tgt := 204) hx hb dX3_fold_95 (by decide) (by omega) (by omega) (fun c_99 => ?_) (fun c_99 => ?_)
        · skip
          obtain rfl : u = (σ.1 (4 * q + ro)).1 := by omega
          refine lv_lload hx hb dX3_fold_204 (lv_at hl 1 rfl) ?_
          refine g_retl hQ hx hb hr hlocks hP hS (⟨⟨by rw [Nat.sub_zero], MW.same hC hMA hc_80 (fun j9 _ _ hj9 => hfr_92 j9 hj9)⟩, fun j hj => hfr_92 j (by omega)⟩) (Nat.le_of_ble_eq_true rfl) (Nat.le_of_ble_eq_true rfl) dX3_fold_206
        · skip
          refine lv_aload_n hx hb dX3_fold_98 rfl (lv_at hl 3 rfl) ?_
          refine g_get (C := RX3) (T := TX3) (N := 9) hx hb hw inX3 hown hK hP (i := 69) (by omega) hc_80 rfl 0 (by decide) (hw _ wf_X3_11) rfl dX3_fold_99 ?_
          refine lv_iload hx hb dX3_fold_102 (lv_at hl 2 rfl) ?_
          refine g_aald hx hb hK hP 10 (i := 70) (by omega) hc_81 rfl rfl (k := (ad (71 + 5 * q))) (by omega) (by omega) (q3_at (by omega)) dX3_fold_104 ?_
          refine lv_iload_n hx hb dX3_fold_105 rfl (lv_at hl 4 rfl) ?_
          refine g_aald hx hb hK hP 7 (i := (71 + 5 * q)) (by omega) hc_89 rfl rfl (k := (ad (72 + 5 * q + ro))) (by omega) (by omega) (q4_at (by omega)) dX3_fold_106 ?_
          refine lv_iload hx hb dX3_fold_107 (lv_at hl 0 rfl) ?_
          refine g_lald hx hb hK hP (i := (72 + 5 * q + ro)) (by omega) hc_91 (by omega) (by omega) dX3_fold_109 ?_
          refine t_eql ((σ.1 (4 * q + ro)).2 u) (hrv u (by omega)) ?_
          refine lv_lstore (lv' := [(9, .long ((σ.1 (4 * q + ro)).2 u)), (8, .int (nI u)), (6, .long (fbn (σ.1 (4 * q + ro)).2 104 0 u)), (5, .int (nI q)), (0, .ref (ad 69)), (2, .int (nI ro)), (4, .int (nI 104))]) hx hb dX3_fold_110 hl (by decide) rfl (fun ls hl => ?_)
          refine lv_iload hx hb dX3_fold_112 (lv_at hl 6 rfl) ?_
          refine lv_bipush (v := nI 115) hx hb dX3_fold_114 (by decide) ?_
          refine t_icmp_ne (tgt := 129) hx hb dX3_fold_116 (by decide) (by omega) (by omega) (fun c_100 => ?_) (fun c_100 => absurd c_100 (by omega))
          refine lv_iload hx hb dX3_fold_129 (lv_at hl 6 rfl) ?_
          refine lv_bipush (v := nI 120) hx hb dX3_fold_131 (by decide) ?_
          refine t_icmp_ne (tgt := 146) hx hb dX3_fold_133 (by decide) (by omega) (by omega) (fun c_101 => ?_) (fun c_101 => absurd c_101 (by omega))
          refine lv_iload hx hb dX3_fold_146 (lv_at hl 6 rfl) ?_
          refine lv_bipush (v := nI 104) hx hb dX3_fold_148 (by decide) ?_
          refine t_icmp_ne (tgt := 167) hx hb dX3_fold_150 (by decide) (by omega) (by omega) (fun c_102 => absurd c_102 (by omega)) (fun c_102 => ?_)
          refine lv_ldc2 hx hb hown (hw _ wk_X3_102) dX3_fold_153 ?_
          refine lv_lload hx hb dX3_fold_156 (lv_at hl 2 rfl) ?_
          refine lv_lmul hx hb dX3_fold_158 ?_
          refine lv_lload hx hb dX3_fold_159 (lv_at hl 0 rfl) ?_
          refine lv_ladd hx hb dX3_fold_161 ?_
          refine lv_lstore (lv' := [(6, .long ((31 * (fbn (σ.1 (4 * q + ro)).2 104 0 u)) + ((σ.1 (4 * q + ro)).2 u))), (9, .long ((σ.1 (4 * q + ro)).2 u)), (8, .int (nI u)), (5, .int (nI q)), (0, .ref (ad 69)), (2, .int (nI ro)), (4, .int (nI 104))]) hx hb dX3_fold_162 hl (by decide) rfl (fun ls hl => ?_)
          refine lv_goto (tgt := 198) hx hb dX3_fold_164 (by decide) ?_
          refine lv_iinc (v := nI (u + 1)) (lv' := [(8, .int (nI (u + 1))), (6, .long ((31 * (fbn (σ.1 (4 * q + ro)).2 104 0 u)) + ((σ.1 (4 * q + ro)).2 u))), (9, .long ((σ.1 (4 * q + ro)).2 u)), (5, .int (nI q)), (0, .ref (ad 69)), (2, .int (nI ro)), (4, .int (nI 104))]) hx hb dX3_fold_198 hl (k := 2) rfl (by exact nI_add u 1) (by decide) rfl (fun ls hl => ?_)
          refine lv_goto (tgt := 84) hx hb dX3_fold_201 (by decide) ?_
          have hz8 : (31 * (fbn (σ.1 (4 * q + ro)).2 104 0 u)) + ((σ.1 (4 * q + ro)).2 u) = fbn (σ.1 (4 * q + ro)).2 104 0 (u + 1) := fbn_h
          have hl := hl
          rw [hz8] at hl
          exact ih_97 (u + 1) (by omega) (by omega) _ _ hP hS ls (lv_sub hl [0, 1, 3, 4, 5, 6] rfl)
    exact key_95 _ 0 (by omega) (Nat.lt_succ_self _) _ _ hP hS ls (lv_sub hl [0, 1, 2, 3, 5, 7] rfl)
  · skip
    refine lv_iload_n hx hb dX3_fold_0 rfl (lv_at hl 1 rfl) ?_
    refine g_callS (As := [.int (nI ch)]) (rest := []) ⟨hx, hb, hml, hown, hw⟩ (mX3_kind l D cT n ad A hD G ch (by omega)) (va_cwS 1 hw (gWS wm_X3_51 wst_X3_kind wini_X3 wc_X3_kind) rfl rfl rfl (by decide +kernel) ⟨Nat.le_of_ble_eq_true rfl, Nat.le_of_ble_eq_true rfl⟩) hK hE hA hP hS rfl hl.1 (lv_room (Nat.le_of_ble_eq_true rfl)) dX3_fold_1 ⟨Nat.le_of_ble_eq_true rfl, Nat.le_of_ble_eq_true rfl⟩ (fun v_104 G_103 H locs hp hP hS => ?_)
    obtain ⟨hv9, hg9⟩ := hp
    subst hv9
    rw [hg9] at hP
    refine t_eqi (nI q) ((if_neg (by omega)).trans (congrArg nI hkq)) ?_
    refine lv_istore (lv' := [(5, .int (nI q)), (0, .ref (ad 69)), (1, .int (nI ch)), (2, .int (nI ro)), (3, .int (nI mo)), (4, .int (nI 102))]) hx hb dX3_fold_4 hl (by decide) rfl (fun ls hl => ?_)
    refine lv_aload_n hx hb dX3_fold_6 rfl (lv_at hl 1 rfl) ?_
    refine lv_iload hx hb dX3_fold_7 (lv_at hl 0 rfl) ?_
    refine t_if_lt (tgt := 51) hx hb dX3_fold_9 (by decide) (by omega) ?_
    refine lv_iload_n hx hb dX3_fold_12 rfl (lv_at hl 4 rfl) ?_
    refine g_callS (As := [.int (nI mo)]) (rest := [.ref (ad 69)]) ⟨hx, hb, hml, hown, hw⟩ (mX3_isMost l D cT n ad A hD G (nI mo)) (va_cwS 1 hw (gWS wm_X3_93 wst_X3_isMost wini_X3 wc_X3_isMost) rfl rfl rfl (by decide +kernel) ⟨Nat.le_of_ble_eq_true rfl, Nat.le_of_ble_eq_true rfl⟩) hK hE hA hP hS rfl hl.1 (lv_room (Nat.le_of_ble_eq_true rfl)) dX3_fold_13 ⟨Nat.le_of_ble_eq_true rfl, Nat.le_of_ble_eq_true rfl⟩ (fun v_107 G_106 H locs hp hP hS => ?_)
    obtain ⟨hv9, hg9⟩ := hp
    subst hv9
    rw [hg9] at hP
    refine t_eqi (nI 1) (congrArg nI (if_neg (mo_ok (by omega) (by omega)))) ?_
    refine t_if_eq (tgt := 51) hx hb dX3_fold_16 (by decide) (by omega) (fun c_108 => absurd c_108 (by omega)) (fun c_108 => ?_)
    refine lv_iload hx hb dX3_fold_19 (lv_at hl 5 rfl) ?_
    refine lv_bipush (v := nI 115) hx hb dX3_fold_21 (by decide) ?_
    refine t_icmp_eq (tgt := 47) hx hb dX3_fold_23 (by decide) (by omega) (by omega) (fun c_109 => absurd c_109 (by omega)) (fun c_109 => ?_)
    refine lv_iload hx hb dX3_fold_26 (lv_at hl 5 rfl) ?_
    refine lv_bipush (v := nI 120) hx hb dX3_fold_28 (by decide) ?_
    refine t_icmp_eq (tgt := 47) hx hb dX3_fold_30 (by decide) (by omega) (by omega) (fun c_110 => absurd c_110 (by omega)) (fun c_110 => ?_)
    refine lv_iload hx hb dX3_fold_33 (lv_at hl 5 rfl) ?_
    refine lv_bipush (v := nI 104) hx hb dX3_fold_35 (by decide) ?_
    refine t_icmp_eq (tgt := 47) hx hb dX3_fold_37 (by decide) (by omega) (by omega) (fun c_111 => absurd c_111 (by omega)) (fun c_111 => ?_)
    refine lv_iload hx hb dX3_fold_40 (lv_at hl 5 rfl) ?_
    refine lv_bipush (v := nI 102) hx hb dX3_fold_42 (by decide) ?_
    refine t_icmp_ne (tgt := 51) hx hb dX3_fold_44 (by decide) (by omega) (by omega) (fun c_112 => absurd c_112 (by omega)) (fun c_112 => ?_)
    refine lv_iconst (v := nI 1) hx hb dX3_fold_47 (by decide) ?_
    refine lv_goto (tgt := 52) hx hb dX3_fold_48 (by decide) ?_
    refine lv_iload_n hx hb dX3_fold_52 rfl (lv_at hl 3 rfl) ?_
    refine g_callS (As := [.int (nI ro)]) (rest := [.int (nI 1), .ref (ad 69)]) ⟨hx, hb, hml, hown, hw⟩ (mX3_isRow l D cT n ad A hD G (nI ro)) (va_cwS 1 hw (gWS wm_X3_59 wst_X3_isRow wini_X3 wc_X3_isRow) rfl rfl rfl (by decide +kernel) ⟨Nat.le_of_ble_eq_true rfl, Nat.le_of_ble_eq_true rfl⟩) hK hE hA hP hS rfl hl.1 (lv_room (Nat.le_of_ble_eq_true rfl)) dX3_fold_53 ⟨Nat.le_of_ble_eq_true rfl, Nat.le_of_ble_eq_true rfl⟩ (fun v_114 G_113 H locs hp hP hS => ?_)
    obtain ⟨hv9, hg9⟩ := hp
    subst hv9
    rw [hg9] at hP
    refine t_eqi (nI 1) (congrArg nI (if_neg (ix_ok (by omega) (by decide)))) ?_
    refine lv_iconst (v := nI 1) hx hb dX3_fold_56 (by decide) ?_
    refine g_callV (As := [.int (nI 1), .int (nI 1), .int (nI 1)]) (rest := []) ⟨hx, hb, hml, hown, hw⟩ (mX3_can l D cT n ad A hD G hn th 1 1 1 (by decide) (by decide) (by decide) hC.1) (cwV 3 hw (gWV wm_X3_63 wi_X3_can wse_X3_can wini_X3 wc_X3_can) rfl rfl rfl (by decide +kernel) ⟨Nat.le_of_ble_eq_true rfl, Nat.le_of_ble_eq_true rfl⟩) hK hE hA hP hS (k := 69) (by omega) hC.1 rfl rfl hl.1 (lv_room (Nat.le_of_ble_eq_true rfl)) dX3_fold_57 ⟨Nat.le_of_ble_eq_true rfl, Nat.le_of_ble_eq_true rfl⟩ (fun v_116 G_115 H locs hp hP hS => ?_)
    obtain ⟨rfl, hg_G_115, ho_G_115⟩ := hp
    have hc_117 : G_115 69 = .inr (5, [.ref (ad 70), .ref (ad 86), .ref (ad 90), .ref (ad 97), .ref (ad 98), .ref (ad 99), .ref (ad 106), .ref (ad 113), .int (nI 0)]) := hg_G_115
    have hc_118 : G_115 70 = aQ (cT 10) 3 (q3 ad) := (ho_G_115 _ (by omega)).trans hC.2.1
    have hc_119 : G_115 86 = aQ (cT 8) 3 (qS ad) := (ho_G_115 _ (by omega)).trans hC.2.2.2.2.1
    have hc_120 : G_115 90 = aQ (cT 7) 6 (qP ad) := (ho_G_115 _ (by omega)).trans hC.2.2.2.2.2.2.1
    have hc_121 : G_115 97 = aI cT 6 zf := (ho_G_115 _ (by omega)).trans hC.2.2.2.2.2.2.2.2.1
    have hc_122 : G_115 98 = aZ cT 6 xf := (ho_G_115 _ (by omega)).trans hC.2.2.2.2.2.2.2.2.2.1
    have hc_123 : G_115 99 = aQ (cT 9) 6 (qK ad) := (ho_G_115 _ (by omega)).trans hC.2.2.2.2.2.2.2.2.2.2.1
    have hc_124 : G_115 106 = aQ (cT 8) 6 (qL ad) := (ho_G_115 _ (by omega)).trans hC.2.2.2.2.2.2.2.2.2.2.2.2.1
    have hc_125 : G_115 113 = aI cT 6 mf := (ho_G_115 _ (by omega)).trans hC.2.2.2.2.2.2.2.2.2.2.2.2.2.2.1
    have hc_126 : G_115 (71 + 5 * q) = aQ (cT 7) 4 (q4 ad q) := (ho_G_115 _ (by omega)).trans (hC.2.2.1 q (by omega))
    have hc_127 : G_115 (87 + q) = aI cT 4 (sf q) := (ho_G_115 _ (by omega)).trans (hC.2.2.2.2.2.1 q (by omega))
    have hc_128 : G_115 (72 + 5 * q + ro) = aJ cT 48 (rf q ro) := (ho_G_115 _ (by omega)).trans (hC.2.2.2.1 q (by omega) ro (by omega))
    have hfr_129 : ∀ j, (j ≠ 69) → G_115 j = G j := fun j hj => (ho_G_115 j (by omega)).trans (rfl)
    refine t_eqi (nI 1) rfl ?_
    refine t_if_ne (tgt := 65) hx hb dX3_fold_60 (by decide) (by omega) (fun c_130 => ?_) (fun c_130 => absurd c_130 (by omega))
    refine lv_iload hx hb dX3_fold_65 (lv_at hl 5 rfl) ?_
    refine lv_bipush (v := nI 102) hx hb dX3_fold_67 (by decide) ?_
    refine t_icmp_ne (tgt := 78) hx hb dX3_fold_69 (by decide) (by omega) (by omega) (fun c_131 => absurd c_131 (by omega)) (fun c_131 => ?_)
    refine lv_ldc2 hx hb hown (hw _ wk_X3_100) dX3_fold_72 ?_
    refine lv_goto (tgt := 79) hx hb dX3_fold_75 (by decide) ?_
    refine lv_lstore (lv' := [(6, .long (-1)), (5, .int (nI q)), (0, .ref (ad 69)), (1, .int (nI ch)), (2, .int (nI ro)), (3, .int (nI mo)), (4, .int (nI 102))]) hx hb dX3_fold_79 hl (by decide) rfl (fun ls hl => ?_)
    refine lv_iconst (v := nI 0) hx hb dX3_fold_81 (by decide) ?_
    refine lv_istore (lv' := [(8, .int (nI 0)), (6, .long (-1)), (5, .int (nI q)), (0, .ref (ad 69)), (1, .int (nI ch)), (2, .int (nI ro)), (3, .int (nI mo)), (4, .int (nI 102))]) hx hb dX3_fold_82 hl (by decide) rfl (fun ls hl => ?_)
    have hl : lv_has ls 11 [(8, .int (nI 0)), (6, .long (fbn (σ.1 (4 * q + ro)).2 102 0 0)), (5, .int (nI q)), (0, .ref (ad 69)), (1, .int (nI ch)), (2, .int (nI ro)), (3, .int (nI mo)), (4, .int (nI 102))] := hl
    have key_132 : ∀ (fu : Nat) (u : Nat), (u ≤ (σ.1 (4 * q + ro)).1) → ((σ.1 (4 * q + ro)).1 - u) < fu → ∀ (H : Heap) (locs : List Loc), va_P D vwCl (gw n ad G_115) H → va_S A s.heap H locs → ∀ ls : Array Slot, lv_has ls 11 [(8, .int (nI u)), (6, .long (fbn (σ.1 (4 * q + ro)).2 102 0 u)), (5, .int (nI q)), (0, .ref (ad 69)), (2, .int (nI ro)), (4, .int (nI 102))] → W p l e ({ frames := 1, cells := 0, slots := 0, locals := 23 } : Room) s m args below meth c H locs 0 0 Q (F0 m 84 ls []) := by
      intro fu_133
      induction fu_133 with
      | zero => intros; exfalso; omega
      | succ fu_133 ih_134 =>
        intro u hu hfu_135 H locs hP hS ls hl
        refine lv_iload hx hb dX3_fold_84 (lv_at hl 0 rfl) ?_
        refine lv_aload_n hx hb dX3_fold_86 rfl (lv_at hl 3 rfl) ?_
        refine g_get (C := RX3) (T := TX3) (N := 9) hx hb hw inX3 hown hK hP (i := 69) (by omega) hc_117 rfl 1 (by decide) (hw _ wf_X3_16) rfl dX3_fold_87 ?_
        refine lv_iload hx hb dX3_fold_90 (lv_at hl 2 rfl) ?_
        refine g_aald hx hb hK hP 8 (i := 86) (by omega) hc_119 rfl rfl (k := (ad (87 + q))) (by omega) (by omega) (qS_at (by omega)) dX3_fold_92 ?_
        refine lv_iload_n hx hb dX3_fold_93 rfl (lv_at hl 4 rfl) ?_
        refine g_iald hx hb hK hP (i := (87 + q)) (by omega) hc_127 (by omega) (by omega) dX3_fold_94 ?_
        refine t_icmp_ge (tgt := 204) hx hb dX3_fold_95 (by decide) (by omega) (by omega) (fun c_136 => ?_) (fun c_136 => ?_)
        · skip
          obtain rfl : u = (σ.1 (4 * q + ro)).1 := by omega
          refine lv_lload hx hb dX3_fold_204 (lv_at hl 1 rfl) ?_
          refine g_retl hQ hx hb hr hlocks hP hS (⟨⟨by rw [Nat.sub_zero], MW.same hC hMA hc_117 (fun j9 _ _ hj9 => hfr_129 j9 hj9)⟩, fun j hj => hfr_129 j (by omega)⟩) (Nat.le_of_ble_eq_true rfl) (Nat.le_of_ble_eq_true rfl) dX3_fold_206
        · skip
          refine lv_aload_n hx hb dX3_fold_98 rfl (lv_at hl 3 rfl) ?_
          refine g_get (C := RX3) (T := TX3) (N := 9) hx hb hw inX3 hown hK hP (i := 69) (by omega) hc_117 rfl 0 (by decide) (hw _ wf_X3_11) rfl dX3_fold_99 ?_
          refine lv_iload hx hb dX3_fold_102 (lv_at hl 2 rfl) ?_
          refine g_aald hx hb hK hP 10 (i := 70) (by omega) hc_118 rfl rfl (k := (ad (71 + 5 * q))) (by omega) (by omega) (q3_at (by omega)) dX3_fold_104 ?_
          refine lv_iload_n hx hb dX3_fold_105 rfl (lv_at hl 4 rfl) ?_
          refine g_aald hx hb hK hP 7 (i := (71 + 5 * q)) (by omega) hc_126 rfl rfl (k := (ad (72 + 5 * q + ro))) (by omega) (by omega) (q4_at (by omega)) dX3_fold_106 ?_
          refine lv_iload hx hb dX3_fold_107 (lv_at hl 0 rfl) ?_
          refine g_lald hx hb hK hP (i := (72 + 5 * q + ro)) (by omega) hc_128 (by omega) (by omega) dX3_fold_109 ?_
          refine t_eql ((σ.1 (4 * q + ro)).2 u) (hrv u (by omega)) ?_
          refine lv_lstore (lv' := [(9, .long ((σ.1 (4 * q + ro)).2 u)), (8, .int (nI u)), (6, .long (fbn (σ.1 (4 * q + ro)).2 102 0 u)), (5, .int (nI q)), (0, .ref (ad 69)), (2, .int (nI ro)), (4, .int (nI 102))]) hx hb dX3_fold_110 hl (by decide) rfl (fun ls hl => ?_)
          refine lv_iload hx hb dX3_fold_112 (lv_at hl 6 rfl) ?_
          refine lv_bipush (v := nI 115) hx hb dX3_fold_114 (by decide) ?_
          refine t_icmp_ne (tgt := 129) hx hb dX3_fold_116 (by decide) (by omega) (by omega) (fun c_137 => ?_) (fun c_137 => absurd c_137 (by omega))
          refine lv_iload hx hb dX3_fold_129 (lv_at hl 6 rfl) ?_
          refine lv_bipush (v := nI 120) hx hb dX3_fold_131 (by decide) ?_
          refine t_icmp_ne (tgt := 146) hx hb dX3_fold_133 (by decide) (by omega) (by omega) (fun c_138 => ?_) (fun c_138 => absurd c_138 (by omega))
          refine lv_iload hx hb dX3_fold_146 (lv_at hl 6 rfl) ?_
          refine lv_bipush (v := nI 104) hx hb dX3_fold_148 (by decide) ?_
          refine t_icmp_ne (tgt := 167) hx hb dX3_fold_150 (by decide) (by omega) (by omega) (fun c_139 => ?_) (fun c_139 => absurd c_139 (by omega))
          rcases fb_f (f := (σ.1 (4 * q + ro)).2) (a := 0) u (by omega) with ⟨hu0, hfm⟩ | ⟨hu1, t, ht1, ht2, hft⟩
          · skip
            have hl := hl
            rw [hfm] at hl
            refine lv_lload hx hb dX3_fold_167 (lv_at hl 2 rfl) ?_
            refine lv_lconst (v := 0) hx hb dX3_fold_169 (by decide) ?_
            refine W.lcmp hx hb dX3_fold_170 ?_
            refine lv_if_lt (tgt := 193) hx hb dX3_fold_171 (by decide) (fun c_140 => ?_) (fun c_140 => ?_)
            · skip
              refine lv_iload hx hb dX3_fold_193 (lv_at hl 1 rfl) ?_
              refine lv_i2l hx hb dX3_fold_195 rfl ?_
              refine t_eql (lN u) (nI_l (by omega)) ?_
              refine lv_lstore (lv' := [(6, .long (lN u)), (9, .long ((σ.1 (4 * q + ro)).2 u)), (8, .int (nI u)), (5, .int (nI q)), (0, .ref (ad 69)), (2, .int (nI ro)), (4, .int (nI 102))]) hx hb dX3_fold_196 hl (by decide) rfl (fun ls hl => ?_)
              refine lv_iinc (v := nI (u + 1)) (lv' := [(8, .int (nI (u + 1))), (6, .long (lN u)), (9, .long ((σ.1 (4 * q + ro)).2 u)), (5, .int (nI q)), (0, .ref (ad 69)), (2, .int (nI ro)), (4, .int (nI 102))]) hx hb dX3_fold_198 hl (k := 2) rfl (by exact nI_add u 1) (by decide) rfl (fun ls hl => ?_)
              refine lv_goto (tgt := 84) hx hb dX3_fold_201 (by decide) ?_
              have hz8 : lN u = fbn (σ.1 (4 * q + ro)).2 102 0 (u + 1) := fbn_f1 hfm
              have hl := hl
              rw [hz8] at hl
              exact ih_134 (u + 1) (by omega) (by omega) _ _ hP hS ls (lv_sub hl [0, 1, 3, 4, 5, 6] rfl)
            · skip
              exact absurd ((lg_cmp_lt _ _).mpr (by decide)) c_140
          · skip
            have hl := hl
            rw [hft] at hl
            refine lv_lload hx hb dX3_fold_167 (lv_at hl 2 rfl) ?_
            refine lv_lconst (v := 0) hx hb dX3_fold_169 (by decide) ?_
            refine W.lcmp hx hb dX3_fold_170 ?_
            refine lv_if_lt (tgt := 193) hx hb dX3_fold_171 (by decide) (fun c_141 => ?_) (fun c_141 => ?_)
            · skip
              exact absurd ((lg_cmp_lt _ _).mp c_141) (lN_nneg (by omega))
            · skip
              refine lv_lload hx hb dX3_fold_174 (lv_at hl 0 rfl) ?_
              refine lv_aload_n hx hb dX3_fold_176 rfl (lv_at hl 4 rfl) ?_
              refine g_get (C := RX3) (T := TX3) (N := 9) hx hb hw inX3 hown hK hP (i := 69) (by omega) hc_117 rfl 0 (by decide) (hw _ wf_X3_11) rfl dX3_fold_177 ?_
              refine lv_iload hx hb dX3_fold_180 (lv_at hl 3 rfl) ?_
              refine g_aald hx hb hK hP 10 (i := 70) (by omega) hc_118 rfl rfl (k := (ad (71 + 5 * q))) (by omega) (by omega) (q3_at (by omega)) dX3_fold_182 ?_
              refine lv_iload_n hx hb dX3_fold_183 rfl (lv_at hl 5 rfl) ?_
              refine g_aald hx hb hK hP 7 (i := (71 + 5 * q)) (by omega) hc_126 rfl rfl (k := (ad (72 + 5 * q + ro))) (by omega) (by omega) (q4_at (by omega)) dX3_fold_184 ?_
              refine lv_lload hx hb dX3_fold_185 (lv_at hl 2 rfl) ?_
              refine lv_l2i hx hb dX3_fold_187 rfl ?_
              refine t_eqi (nI t) (lN_i t) ?_
              refine g_lald hx hb hK hP (i := (72 + 5 * q + ro)) (by omega) hc_128 (by omega) (by omega) dX3_fold_188 ?_
              refine t_eql ((σ.1 (4 * q + ro)).2 t) (hrv t (by omega)) ?_
              refine W.lcmp hx hb dX3_fold_189 ?_
              refine lv_if_le (tgt := 198) hx hb dX3_fold_190 (by decide) (fun c_142 => ?_) (fun c_142 => ?_)
              · skip
                refine lv_iinc (v := nI (u + 1)) (lv' := [(8, .int (nI (u + 1))), (9, .long ((σ.1 (4 * q + ro)).2 u)), (6, .long (lN t)), (5, .int (nI q)), (0, .ref (ad 69)), (2, .int (nI ro)), (4, .int (nI 102))]) hx hb dX3_fold_198 hl (k := 1) rfl (by exact nI_add u 1) (by decide) rfl (fun ls hl => ?_)
                refine lv_goto (tgt := 84) hx hb dX3_fold_201 (by decide) ?_
                have hz8 : lN t = fbn (σ.1 (4 * q + ro)).2 102 0 (u + 1) := fbn_f3 hft (by omega) (fun q9 => absurd ((lg_cmp_le _ _).mp c_142) (Int64.not_le.mpr q9))
                have hl := hl
                rw [hz8] at hl
                exact ih_134 (u + 1) (by omega) (by omega) _ _ hP hS ls (lv_sub hl [0, 2, 3, 4, 5, 6] rfl)
              · skip
                refine lv_iload hx hb dX3_fold_193 (lv_at hl 1 rfl) ?_
                refine lv_i2l hx hb dX3_fold_195 rfl ?_
                refine t_eql (lN u) (nI_l (by omega)) ?_
                refine lv_lstore (lv' := [(6, .long (lN u)), (9, .long ((σ.1 (4 * q + ro)).2 u)), (8, .int (nI u)), (5, .int (nI q)), (0, .ref (ad 69)), (2, .int (nI ro)), (4, .int (nI 102))]) hx hb dX3_fold_196 hl (by decide) rfl (fun ls hl => ?_)
                refine lv_iinc (v := nI (u + 1)) (lv' := [(8, .int (nI (u + 1))), (6, .long (lN u)), (9, .long ((σ.1 (4 * q + ro)).2 u)), (5, .int (nI q)), (0, .ref (ad 69)), (2, .int (nI ro)), (4, .int (nI 102))]) hx hb dX3_fold_198 hl (k := 2) rfl (by exact nI_add u 1) (by decide) rfl (fun ls hl => ?_)
                refine lv_goto (tgt := 84) hx hb dX3_fold_201 (by decide) ?_
                have hz8 : lN u = fbn (σ.1 (4 * q + ro)).2 102 0 (u + 1) := fbn_f2 hft (by omega) (Int64.not_le.mp (fun q9 => c_142 ((lg_cmp_le _ _).mpr q9)))
                have hl := hl
                rw [hz8] at hl
                exact ih_134 (u + 1) (by omega) (by omega) _ _ hP hS ls (lv_sub hl [0, 1, 3, 4, 5, 6] rfl)
    exact key_132 _ 0 (by omega) (Nat.lt_succ_self _) _ _ hP hS ls (lv_sub hl [0, 1, 2, 3, 5, 7] rfl)

theorem hwx_no {hc : Nat} (h : hwx hc = 4) : hc ≠ 115 ∧ hc ≠ 120 ∧ hc ≠ 104 ∧ hc ≠ 102 := by
  refine ⟨?_, ?_, ?_, ?_⟩ <;> (intro e; subst e; exact absurd h (by decide))

set_option maxHeartbeats 4000000 in
set_option maxRecDepth 100000 in
theorem mX3_fold_no (l : Launch) (D : va_G) (cT : Nat → ClassId) (n : Nat) (ad : Nat → Nat) (A : Nat → Prop) (hD : ∀ G, va_D A (gw n ad G)) (G : Nat → va_E) (hn : 114 ≤ n) (σ : TY) (hI : YI σ) (th : Nat) (hM : MW cT ad G σ th) (ch hc : Nat) (hch : ch < 65536) (hhc : hc < 65536) (x y : Int32) (E : String) (hpx : (mBad y ∧ E = xIA) ∨ (∃ mo, 1 ≤ mo ∧ mo ≤ 48 ∧ y = nI mo ∧ ((hwx hc = 4 ∧ E = xIA) ∨ (hwx hc ≠ 4 ∧ pxRow ch x E)))) : Met l yX3_fold (wA yX3_fold cX3_fold 11 (some .long)) ({ frames := 1, cells := 0, slots := 0, locals := 23 } : Room) (PG D cT n ad A G [.ref (ad 69), .int (nI ch), .int x, .int y, .int (nI hc)]) (QG D n ad A (fun v G1 => ((∃ z, v = some (.long z)) ∧ MW cT ad G1 σ (cd [xIA, xIO] E)) ∧ ∀ j, (j < 69 ∨ 114 ≤ j) → G1 j = G j)) 0 0 A := by
  refine Met.ofG (cc := cX3_fold) (maxL := 11) (ret := (some .long)) (by decide) (Nat.le_of_ble_eq_true rfl) ?_
  intro p e s m args below meth c Q hQ hx hb hr hml hlocks hown hw hP hK hE hA hS ls hl
  have hl : lv_has ls 11 [(0, .ref (ad 69)), (1, .int (nI ch)), (2, .int x), (3, .int y), (4, .int (nI hc))] := hl
  obtain ⟨rf, sf, pf, zf, xf, kf, lf, mf, hC, hMA⟩ := hM
  rcases hpx with ⟨hyb, rfl⟩ | ⟨mo, hmo1, hmo2, rfl, hpx⟩
  · skip
    rcases Decidable.em (kdx ch = 3) with hkd | hkd
    · skip
      rcases ix_cases x (N := 4) (by decide) with hrb | ⟨ro, hro, rfl⟩
      · skip
        refine lv_iload_n hx hb dX3_fold_0 rfl (lv_at hl 1 rfl) ?_
        refine g_callS (As := [.int (nI ch)]) (rest := []) ⟨hx, hb, hml, hown, hw⟩ (mX3_kind l D cT n ad A hD G ch (by omega)) (va_cwS 1 hw (gWS wm_X3_51 wst_X3_kind wini_X3 wc_X3_kind) rfl rfl rfl (by decide +kernel) ⟨Nat.le_of_ble_eq_true rfl, Nat.le_of_ble_eq_true rfl⟩) hK hE hA hP hS rfl hl.1 (lv_room (Nat.le_of_ble_eq_true rfl)) dX3_fold_1 ⟨Nat.le_of_ble_eq_true rfl, Nat.le_of_ble_eq_true rfl⟩ (fun v_2 G_1 H locs hp hP hS => ?_)
        obtain ⟨hv9, hg9⟩ := hp
        subst hv9
        rw [hg9] at hP
        refine t_eqi (-1) (if_pos hkd) ?_
        refine lv_istore (lv' := [(5, .int (-1)), (0, .ref (ad 69)), (1, .int (nI ch)), (2, .int x), (3, .int y), (4, .int (nI hc))]) hx hb dX3_fold_4 hl (by decide) rfl (fun ls hl => ?_)
        refine lv_aload_n hx hb dX3_fold_6 rfl (lv_at hl 1 rfl) ?_
        refine lv_iload hx hb dX3_fold_7 (lv_at hl 0 rfl) ?_
        refine lv_if_lt (tgt := 51) hx hb dX3_fold_9 (by decide) (fun h9 => ?_) (fun h9 => absurd (by decide) h9)
        refine lv_iconst (v := nI 0) hx hb dX3_fold_51 (by decide) ?_
        refine lv_iload_n hx hb dX3_fold_52 rfl (lv_at hl 3 rfl) ?_
        refine g_callS (As := [.int x]) (rest := [.int (nI 0), .ref (ad 69)]) ⟨hx, hb, hml, hown, hw⟩ (mX3_isRow l D cT n ad A hD G x) (va_cwS 1 hw (gWS wm_X3_59 wst_X3_isRow wini_X3 wc_X3_isRow) rfl rfl rfl (by decide +kernel) ⟨Nat.le_of_ble_eq_true rfl, Nat.le_of_ble_eq_true rfl⟩) hK hE hA hP hS rfl hl.1 (lv_room (Nat.le_of_ble_eq_true rfl)) dX3_fold_53 ⟨Nat.le_of_ble_eq_true rfl, Nat.le_of_ble_eq_true rfl⟩ (fun v_4 G_3 H locs hp hP hS => ?_)
        obtain ⟨hv9, hg9⟩ := hp
        subst hv9
        rw [hg9] at hP
        refine t_eqi (nI 0) (congrArg nI (if_pos hrb)) ?_
        refine lv_iconst (v := nI 1) hx hb dX3_fold_56 (by decide) ?_
        refine g_callV (As := [.int (nI 0), .int (nI 0), .int (nI 1)]) (rest := []) ⟨hx, hb, hml, hown, hw⟩ (mX3_can l D cT n ad A hD G hn th 0 0 1 (by decide) (by decide) (by decide) hC.1) (cwV 3 hw (gWV wm_X3_63 wi_X3_can wse_X3_can wini_X3 wc_X3_can) rfl rfl rfl (by decide +kernel) ⟨Nat.le_of_ble_eq_true rfl, Nat.le_of_ble_eq_true rfl⟩) hK hE hA hP hS (k := 69) (by omega) hC.1 rfl rfl hl.1 (lv_room (Nat.le_of_ble_eq_true rfl)) dX3_fold_57 ⟨Nat.le_of_ble_eq_true rfl, Nat.le_of_ble_eq_true rfl⟩ (fun v_6 G_5 H locs hp hP hS => ?_)
        obtain ⟨rfl, hg_G_5, ho_G_5⟩ := hp
        have hc_7 : G_5 69 = .inr (5, [.ref (ad 70), .ref (ad 86), .ref (ad 90), .ref (ad 97), .ref (ad 98), .ref (ad 99), .ref (ad 106), .ref (ad 113), .int (nI 1)]) := hg_G_5
        have hc_8 : G_5 70 = aQ (cT 10) 3 (q3 ad) := (ho_G_5 _ (by omega)).trans hC.2.1
        have hc_9 : G_5 86 = aQ (cT 8) 3 (qS ad) := (ho_G_5 _ (by omega)).trans hC.2.2.2.2.1
        have hc_10 : G_5 90 = aQ (cT 7) 6 (qP ad) := (ho_G_5 _ (by omega)).trans hC.2.2.2.2.2.2.1
        have hc_11 : G_5 97 = aI cT 6 zf := (ho_G_5 _ (by omega)).trans hC.2.2.2.2.2.2.2.2.1
        have hc_12 : G_5 98 = aZ cT 6 xf := (ho_G_5 _ (by omega)).trans hC.2.2.2.2.2.2.2.2.2.1
        have hc_13 : G_5 99 = aQ (cT 9) 6 (qK ad) := (ho_G_5 _ (by omega)).trans hC.2.2.2.2.2.2.2.2.2.2.1
        have hc_14 : G_5 106 = aQ (cT 8) 6 (qL ad) := (ho_G_5 _ (by omega)).trans hC.2.2.2.2.2.2.2.2.2.2.2.2.1
        have hc_15 : G_5 113 = aI cT 6 mf := (ho_G_5 _ (by omega)).trans hC.2.2.2.2.2.2.2.2.2.2.2.2.2.2.1
        have hfr_16 : ∀ j, (j ≠ 69) → G_5 j = G j := fun j hj => (ho_G_5 j (by omega)).trans (rfl)
        refine t_eqi (nI 0) rfl ?_
        refine t_if_ne (tgt := 65) hx hb dX3_fold_60 (by decide) (by omega) (fun c_17 => absurd c_17 (by omega)) (fun c_17 => ?_)
        refine lv_lconst (v := 0) hx hb dX3_fold_63 (by decide) ?_
        refine g_retl hQ hx hb hr hlocks hP hS (⟨⟨⟨_, rfl⟩, by rw [show cd [xIA, xIO] xIA = 1 from by decide +kernel]; exact MW.same hC hMA hc_7 (fun j9 _ _ hj9 => hfr_16 j9 hj9)⟩, fun j hj => hfr_16 j (by omega)⟩) (Nat.le_of_ble_eq_true rfl) (Nat.le_of_ble_eq_true rfl) dX3_fold_64
      · skip
        refine lv_iload_n hx hb dX3_fold_0 rfl (lv_at hl 1 rfl) ?_
        refine g_callS (As := [.int (nI ch)]) (rest := []) ⟨hx, hb, hml, hown, hw⟩ (mX3_kind l D cT n ad A hD G ch (by omega)) (va_cwS 1 hw (gWS wm_X3_51 wst_X3_kind wini_X3 wc_X3_kind) rfl rfl rfl (by decide +kernel) ⟨Nat.le_of_ble_eq_true rfl, Nat.le_of_ble_eq_true rfl⟩) hK hE hA hP hS rfl hl.1 (lv_room (Nat.le_of_ble_eq_true rfl)) dX3_fold_1 ⟨Nat.le_of_ble_eq_true rfl, Nat.le_of_ble_eq_true rfl⟩ (fun v_19 G_18 H locs hp hP hS => ?_)
        obtain ⟨hv9, hg9⟩ := hp
        subst hv9
        rw [hg9] at hP
        refine t_eqi (-1) (if_pos hkd) ?_
        refine lv_istore (lv' := [(5, .int (-1)), (0, .ref (ad 69)), (1, .int (nI ch)), (2, .int (nI ro)), (3, .int y), (4, .int (nI hc))]) hx hb dX3_fold_4 hl (by decide) rfl (fun ls hl => ?_)
        refine lv_aload_n hx hb dX3_fold_6 rfl (lv_at hl 1 rfl) ?_
        refine lv_iload hx hb dX3_fold_7 (lv_at hl 0 rfl) ?_
        refine lv_if_lt (tgt := 51) hx hb dX3_fold_9 (by decide) (fun h9 => ?_) (fun h9 => absurd (by decide) h9)
        refine lv_iconst (v := nI 0) hx hb dX3_fold_51 (by decide) ?_
        refine lv_iload_n hx hb dX3_fold_52 rfl (lv_at hl 3 rfl) ?_
        refine g_callS (As := [.int (nI ro)]) (rest := [.int (nI 0), .ref (ad 69)]) ⟨hx, hb, hml, hown, hw⟩ (mX3_isRow l D cT n ad A hD G (nI ro)) (va_cwS 1 hw (gWS wm_X3_59 wst_X3_isRow wini_X3 wc_X3_isRow) rfl rfl rfl (by decide +kernel) ⟨Nat.le_of_ble_eq_true rfl, Nat.le_of_ble_eq_true rfl⟩) hK hE hA hP hS rfl hl.1 (lv_room (Nat.le_of_ble_eq_true rfl)) dX3_fold_53 ⟨Nat.le_of_ble_eq_true rfl, Nat.le_of_ble_eq_true rfl⟩ (fun v_21 G_20 H locs hp hP hS => ?_)
        obtain ⟨hv9, hg9⟩ := hp
        subst hv9
        rw [hg9] at hP
        refine t_eqi (nI 1) (congrArg nI (if_neg (ix_ok (by omega) (by decide)))) ?_
        refine lv_iconst (v := nI 1) hx hb dX3_fold_56 (by decide) ?_
        refine g_callV (As := [.int (nI 0), .int (nI 1), .int (nI 1)]) (rest := []) ⟨hx, hb, hml, hown, hw⟩ (mX3_can l D cT n ad A hD G hn th 0 1 1 (by decide) (by decide) (by decide) hC.1) (cwV 3 hw (gWV wm_X3_63 wi_X3_can wse_X3_can wini_X3 wc_X3_can) rfl rfl rfl (by decide +kernel) ⟨Nat.le_of_ble_eq_true rfl, Nat.le_of_ble_eq_true rfl⟩) hK hE hA hP hS (k := 69) (by omega) hC.1 rfl rfl hl.1 (lv_room (Nat.le_of_ble_eq_true rfl)) dX3_fold_57 ⟨Nat.le_of_ble_eq_true rfl, Nat.le_of_ble_eq_true rfl⟩ (fun v_23 G_22 H locs hp hP hS => ?_)
        obtain ⟨rfl, hg_G_22, ho_G_22⟩ := hp
        have hc_24 : G_22 69 = .inr (5, [.ref (ad 70), .ref (ad 86), .ref (ad 90), .ref (ad 97), .ref (ad 98), .ref (ad 99), .ref (ad 106), .ref (ad 113), .int (nI 1)]) := hg_G_22
        have hc_25 : G_22 70 = aQ (cT 10) 3 (q3 ad) := (ho_G_22 _ (by omega)).trans hC.2.1
        have hc_26 : G_22 86 = aQ (cT 8) 3 (qS ad) := (ho_G_22 _ (by omega)).trans hC.2.2.2.2.1
        have hc_27 : G_22 90 = aQ (cT 7) 6 (qP ad) := (ho_G_22 _ (by omega)).trans hC.2.2.2.2.2.2.1
        have hc_28 : G_22 97 = aI cT 6 zf := (ho_G_22 _ (by omega)).trans hC.2.2.2.2.2.2.2.2.1
        have hc_29 : G_22 98 = aZ cT 6 xf := (ho_G_22 _ (by omega)).trans hC.2.2.2.2.2.2.2.2.2.1
        have hc_30 : G_22 99 = aQ (cT 9) 6 (qK ad) := (ho_G_22 _ (by omega)).trans hC.2.2.2.2.2.2.2.2.2.2.1
        have hc_31 : G_22 106 = aQ (cT 8) 6 (qL ad) := (ho_G_22 _ (by omega)).trans hC.2.2.2.2.2.2.2.2.2.2.2.2.1
        have hc_32 : G_22 113 = aI cT 6 mf := (ho_G_22 _ (by omega)).trans hC.2.2.2.2.2.2.2.2.2.2.2.2.2.2.1
        have hfr_33 : ∀ j, (j ≠ 69) → G_22 j = G j := fun j hj => (ho_G_22 j (by omega)).trans (rfl)
        refine t_eqi (nI 0) rfl ?_
        refine t_if_ne (tgt := 65) hx hb dX3_fold_60 (by decide) (by omega) (fun c_34 => absurd c_34 (by omega)) (fun c_34 => ?_)
        refine lv_lconst (v := 0) hx hb dX3_fold_63 (by decide) ?_
        refine g_retl hQ hx hb hr hlocks hP hS (⟨⟨⟨_, rfl⟩, by rw [show cd [xIA, xIO] xIA = 1 from by decide +kernel]; exact MW.same hC hMA hc_24 (fun j9 _ _ hj9 => hfr_33 j9 hj9)⟩, fun j hj => hfr_33 j (by omega)⟩) (Nat.le_of_ble_eq_true rfl) (Nat.le_of_ble_eq_true rfl) dX3_fold_64
    · skip
      obtain ⟨q, hkq⟩ : ∃ q, kdx ch = q := ⟨_, rfl⟩
      have hkl9 := kdx_le ch
      have hq : q < 3 := by omega
      rcases ix_cases x (N := 4) (by decide) with hrb | ⟨ro, hro, rfl⟩
      · skip
        refine lv_iload_n hx hb dX3_fold_0 rfl (lv_at hl 1 rfl) ?_
        refine g_callS (As := [.int (nI ch)]) (rest := []) ⟨hx, hb, hml, hown, hw⟩ (mX3_kind l D cT n ad A hD G ch (by omega)) (va_cwS 1 hw (gWS wm_X3_51 wst_X3_kind wini_X3 wc_X3_kind) rfl rfl rfl (by decide +kernel) ⟨Nat.le_of_ble_eq_true rfl, Nat.le_of_ble_eq_true rfl⟩) hK hE hA hP hS rfl hl.1 (lv_room (Nat.le_of_ble_eq_true rfl)) dX3_fold_1 ⟨Nat.le_of_ble_eq_true rfl, Nat.le_of_ble_eq_true rfl⟩ (fun v_36 G_35 H locs hp hP hS => ?_)
        obtain ⟨hv9, hg9⟩ := hp
        subst hv9
        rw [hg9] at hP
        refine t_eqi (nI q) ((if_neg (by omega)).trans (congrArg nI hkq)) ?_
        refine lv_istore (lv' := [(5, .int (nI q)), (0, .ref (ad 69)), (1, .int (nI ch)), (2, .int x), (3, .int y), (4, .int (nI hc))]) hx hb dX3_fold_4 hl (by decide) rfl (fun ls hl => ?_)
        refine lv_aload_n hx hb dX3_fold_6 rfl (lv_at hl 1 rfl) ?_
        refine lv_iload hx hb dX3_fold_7 (lv_at hl 0 rfl) ?_
        refine t_if_lt (tgt := 51) hx hb dX3_fold_9 (by decide) (by omega) ?_
        refine lv_iload_n hx hb dX3_fold_12 rfl (lv_at hl 4 rfl) ?_
        refine g_callS (As := [.int y]) (rest := [.ref (ad 69)]) ⟨hx, hb, hml, hown, hw⟩ (mX3_isMost l D cT n ad A hD G y) (va_cwS 1 hw (gWS wm_X3_93 wst_X3_isMost wini_X3 wc_X3_isMost) rfl rfl rfl (by decide +kernel) ⟨Nat.le_of_ble_eq_true rfl, Nat.le_of_ble_eq_true rfl⟩) hK hE hA hP hS rfl hl.1 (lv_room (Nat.le_of_ble_eq_true rfl)) dX3_fold_13 ⟨Nat.le_of_ble_eq_true rfl, Nat.le_of_ble_eq_true rfl⟩ (fun v_39 G_38 H locs hp hP hS => ?_)
        obtain ⟨hv9, hg9⟩ := hp
        subst hv9
        rw [hg9] at hP
        refine t_eqi (nI 0) (congrArg nI (if_pos hyb)) ?_
        refine t_if_eq (tgt := 51) hx hb dX3_fold_16 (by decide) (by omega) (fun c_40 => ?_) (fun c_40 => absurd c_40 (by omega))
        refine lv_iconst (v := nI 0) hx hb dX3_fold_51 (by decide) ?_
        refine lv_iload_n hx hb dX3_fold_52 rfl (lv_at hl 3 rfl) ?_
        refine g_callS (As := [.int x]) (rest := [.int (nI 0), .ref (ad 69)]) ⟨hx, hb, hml, hown, hw⟩ (mX3_isRow l D cT n ad A hD G x) (va_cwS 1 hw (gWS wm_X3_59 wst_X3_isRow wini_X3 wc_X3_isRow) rfl rfl rfl (by decide +kernel) ⟨Nat.le_of_ble_eq_true rfl, Nat.le_of_ble_eq_true rfl⟩) hK hE hA hP hS rfl hl.1 (lv_room (Nat.le_of_ble_eq_true rfl)) dX3_fold_53 ⟨Nat.le_of_ble_eq_true rfl, Nat.le_of_ble_eq_true rfl⟩ (fun v_42 G_41 H locs hp hP hS => ?_)
        obtain ⟨hv9, hg9⟩ := hp
        subst hv9
        rw [hg9] at hP
        refine t_eqi (nI 0) (congrArg nI (if_pos hrb)) ?_
        refine lv_iconst (v := nI 1) hx hb dX3_fold_56 (by decide) ?_
        refine g_callV (As := [.int (nI 0), .int (nI 0), .int (nI 1)]) (rest := []) ⟨hx, hb, hml, hown, hw⟩ (mX3_can l D cT n ad A hD G hn th 0 0 1 (by decide) (by decide) (by decide) hC.1) (cwV 3 hw (gWV wm_X3_63 wi_X3_can wse_X3_can wini_X3 wc_X3_can) rfl rfl rfl (by decide +kernel) ⟨Nat.le_of_ble_eq_true rfl, Nat.le_of_ble_eq_true rfl⟩) hK hE hA hP hS (k := 69) (by omega) hC.1 rfl rfl hl.1 (lv_room (Nat.le_of_ble_eq_true rfl)) dX3_fold_57 ⟨Nat.le_of_ble_eq_true rfl, Nat.le_of_ble_eq_true rfl⟩ (fun v_44 G_43 H locs hp hP hS => ?_)
        obtain ⟨rfl, hg_G_43, ho_G_43⟩ := hp
        have hc_45 : G_43 69 = .inr (5, [.ref (ad 70), .ref (ad 86), .ref (ad 90), .ref (ad 97), .ref (ad 98), .ref (ad 99), .ref (ad 106), .ref (ad 113), .int (nI 1)]) := hg_G_43
        have hc_46 : G_43 70 = aQ (cT 10) 3 (q3 ad) := (ho_G_43 _ (by omega)).trans hC.2.1
        have hc_47 : G_43 86 = aQ (cT 8) 3 (qS ad) := (ho_G_43 _ (by omega)).trans hC.2.2.2.2.1
        have hc_48 : G_43 90 = aQ (cT 7) 6 (qP ad) := (ho_G_43 _ (by omega)).trans hC.2.2.2.2.2.2.1
        have hc_49 : G_43 97 = aI cT 6 zf := (ho_G_43 _ (by omega)).trans hC.2.2.2.2.2.2.2.2.1
        have hc_50 : G_43 98 = aZ cT 6 xf := (ho_G_43 _ (by omega)).trans hC.2.2.2.2.2.2.2.2.2.1
        have hc_51 : G_43 99 = aQ (cT 9) 6 (qK ad) := (ho_G_43 _ (by omega)).trans hC.2.2.2.2.2.2.2.2.2.2.1
        have hc_52 : G_43 106 = aQ (cT 8) 6 (qL ad) := (ho_G_43 _ (by omega)).trans hC.2.2.2.2.2.2.2.2.2.2.2.2.1
        have hc_53 : G_43 113 = aI cT 6 mf := (ho_G_43 _ (by omega)).trans hC.2.2.2.2.2.2.2.2.2.2.2.2.2.2.1
        have hfr_54 : ∀ j, (j ≠ 69) → G_43 j = G j := fun j hj => (ho_G_43 j (by omega)).trans (rfl)
        refine t_eqi (nI 0) rfl ?_
        refine t_if_ne (tgt := 65) hx hb dX3_fold_60 (by decide) (by omega) (fun c_55 => absurd c_55 (by omega)) (fun c_55 => ?_)
        refine lv_lconst (v := 0) hx hb dX3_fold_63 (by decide) ?_
        refine g_retl hQ hx hb hr hlocks hP hS (⟨⟨⟨_, rfl⟩, by rw [show cd [xIA, xIO] xIA = 1 from by decide +kernel]; exact MW.same hC hMA hc_45 (fun j9 _ _ hj9 => hfr_54 j9 hj9)⟩, fun j hj => hfr_54 j (by omega)⟩) (Nat.le_of_ble_eq_true rfl) (Nat.le_of_ble_eq_true rfl) dX3_fold_64
      · skip
        obtain ⟨hsz, hrv⟩ := hMA.1 q (by omega) ro (by omega)
        have hrc := hI.1 (4 * q + ro) (by omega)
        refine lv_iload_n hx hb dX3_fold_0 rfl (lv_at hl 1 rfl) ?_
        refine g_callS (As := [.int (nI ch)]) (rest := []) ⟨hx, hb, hml, hown, hw⟩ (mX3_kind l D cT n ad A hD G ch (by omega)) (va_cwS 1 hw (gWS wm_X3_51 wst_X3_kind wini_X3 wc_X3_kind) rfl rfl rfl (by decide +kernel) ⟨Nat.le_of_ble_eq_true rfl, Nat.le_of_ble_eq_true rfl⟩) hK hE hA hP hS rfl hl.1 (lv_room (Nat.le_of_ble_eq_true rfl)) dX3_fold_1 ⟨Nat.le_of_ble_eq_true rfl, Nat.le_of_ble_eq_true rfl⟩ (fun v_57 G_56 H locs hp hP hS => ?_)
        obtain ⟨hv9, hg9⟩ := hp
        subst hv9
        rw [hg9] at hP
        refine t_eqi (nI q) ((if_neg (by omega)).trans (congrArg nI hkq)) ?_
        refine lv_istore (lv' := [(5, .int (nI q)), (0, .ref (ad 69)), (1, .int (nI ch)), (2, .int (nI ro)), (3, .int y), (4, .int (nI hc))]) hx hb dX3_fold_4 hl (by decide) rfl (fun ls hl => ?_)
        refine lv_aload_n hx hb dX3_fold_6 rfl (lv_at hl 1 rfl) ?_
        refine lv_iload hx hb dX3_fold_7 (lv_at hl 0 rfl) ?_
        refine t_if_lt (tgt := 51) hx hb dX3_fold_9 (by decide) (by omega) ?_
        refine lv_iload_n hx hb dX3_fold_12 rfl (lv_at hl 4 rfl) ?_
        refine g_callS (As := [.int y]) (rest := [.ref (ad 69)]) ⟨hx, hb, hml, hown, hw⟩ (mX3_isMost l D cT n ad A hD G y) (va_cwS 1 hw (gWS wm_X3_93 wst_X3_isMost wini_X3 wc_X3_isMost) rfl rfl rfl (by decide +kernel) ⟨Nat.le_of_ble_eq_true rfl, Nat.le_of_ble_eq_true rfl⟩) hK hE hA hP hS rfl hl.1 (lv_room (Nat.le_of_ble_eq_true rfl)) dX3_fold_13 ⟨Nat.le_of_ble_eq_true rfl, Nat.le_of_ble_eq_true rfl⟩ (fun v_60 G_59 H locs hp hP hS => ?_)
        obtain ⟨hv9, hg9⟩ := hp
        subst hv9
        rw [hg9] at hP
        refine t_eqi (nI 0) (congrArg nI (if_pos hyb)) ?_
        refine t_if_eq (tgt := 51) hx hb dX3_fold_16 (by decide) (by omega) (fun c_61 => ?_) (fun c_61 => absurd c_61 (by omega))
        refine lv_iconst (v := nI 0) hx hb dX3_fold_51 (by decide) ?_
        refine lv_iload_n hx hb dX3_fold_52 rfl (lv_at hl 3 rfl) ?_
        refine g_callS (As := [.int (nI ro)]) (rest := [.int (nI 0), .ref (ad 69)]) ⟨hx, hb, hml, hown, hw⟩ (mX3_isRow l D cT n ad A hD G (nI ro)) (va_cwS 1 hw (gWS wm_X3_59 wst_X3_isRow wini_X3 wc_X3_isRow) rfl rfl rfl (by decide +kernel) ⟨Nat.le_of_ble_eq_true rfl, Nat.le_of_ble_eq_true rfl⟩) hK hE hA hP hS rfl hl.1 (lv_room (Nat.le_of_ble_eq_true rfl)) dX3_fold_53 ⟨Nat.le_of_ble_eq_true rfl, Nat.le_of_ble_eq_true rfl⟩ (fun v_63 G_62 H locs hp hP hS => ?_)
        obtain ⟨hv9, hg9⟩ := hp
        subst hv9
        rw [hg9] at hP
        refine t_eqi (nI 1) (congrArg nI (if_neg (ix_ok (by omega) (by decide)))) ?_
        refine lv_iconst (v := nI 1) hx hb dX3_fold_56 (by decide) ?_
        refine g_callV (As := [.int (nI 0), .int (nI 1), .int (nI 1)]) (rest := []) ⟨hx, hb, hml, hown, hw⟩ (mX3_can l D cT n ad A hD G hn th 0 1 1 (by decide) (by decide) (by decide) hC.1) (cwV 3 hw (gWV wm_X3_63 wi_X3_can wse_X3_can wini_X3 wc_X3_can) rfl rfl rfl (by decide +kernel) ⟨Nat.le_of_ble_eq_true rfl, Nat.le_of_ble_eq_true rfl⟩) hK hE hA hP hS (k := 69) (by omega) hC.1 rfl rfl hl.1 (lv_room (Nat.le_of_ble_eq_true rfl)) dX3_fold_57 ⟨Nat.le_of_ble_eq_true rfl, Nat.le_of_ble_eq_true rfl⟩ (fun v_65 G_64 H locs hp hP hS => ?_)
        obtain ⟨rfl, hg_G_64, ho_G_64⟩ := hp
        have hc_66 : G_64 69 = .inr (5, [.ref (ad 70), .ref (ad 86), .ref (ad 90), .ref (ad 97), .ref (ad 98), .ref (ad 99), .ref (ad 106), .ref (ad 113), .int (nI 1)]) := hg_G_64
        have hc_67 : G_64 70 = aQ (cT 10) 3 (q3 ad) := (ho_G_64 _ (by omega)).trans hC.2.1
        have hc_68 : G_64 86 = aQ (cT 8) 3 (qS ad) := (ho_G_64 _ (by omega)).trans hC.2.2.2.2.1
        have hc_69 : G_64 90 = aQ (cT 7) 6 (qP ad) := (ho_G_64 _ (by omega)).trans hC.2.2.2.2.2.2.1
        have hc_70 : G_64 97 = aI cT 6 zf := (ho_G_64 _ (by omega)).trans hC.2.2.2.2.2.2.2.2.1
        have hc_71 : G_64 98 = aZ cT 6 xf := (ho_G_64 _ (by omega)).trans hC.2.2.2.2.2.2.2.2.2.1
        have hc_72 : G_64 99 = aQ (cT 9) 6 (qK ad) := (ho_G_64 _ (by omega)).trans hC.2.2.2.2.2.2.2.2.2.2.1
        have hc_73 : G_64 106 = aQ (cT 8) 6 (qL ad) := (ho_G_64 _ (by omega)).trans hC.2.2.2.2.2.2.2.2.2.2.2.2.1
        have hc_74 : G_64 113 = aI cT 6 mf := (ho_G_64 _ (by omega)).trans hC.2.2.2.2.2.2.2.2.2.2.2.2.2.2.1
        have hc_75 : G_64 (71 + 5 * q) = aQ (cT 7) 4 (q4 ad q) := (ho_G_64 _ (by omega)).trans (hC.2.2.1 q (by omega))
        have hc_76 : G_64 (87 + q) = aI cT 4 (sf q) := (ho_G_64 _ (by omega)).trans (hC.2.2.2.2.2.1 q (by omega))
        have hc_77 : G_64 (72 + 5 * q + ro) = aJ cT 48 (rf q ro) := (ho_G_64 _ (by omega)).trans (hC.2.2.2.1 q (by omega) ro (by omega))
        have hfr_78 : ∀ j, (j ≠ 69) → G_64 j = G j := fun j hj => (ho_G_64 j (by omega)).trans (rfl)
        refine t_eqi (nI 0) rfl ?_
        refine t_if_ne (tgt := 65) hx hb dX3_fold_60 (by decide) (by omega) (fun c_79 => absurd c_79 (by omega)) (fun c_79 => ?_)
        refine lv_lconst (v := 0) hx hb dX3_fold_63 (by decide) ?_
        refine g_retl hQ hx hb hr hlocks hP hS (⟨⟨⟨_, rfl⟩, by rw [show cd [xIA, xIO] xIA = 1 from by decide +kernel]; exact MW.same hC hMA hc_66 (fun j9 _ _ hj9 => hfr_78 j9 hj9)⟩, fun j hj => hfr_78 j (by omega)⟩) (Nat.le_of_ble_eq_true rfl) (Nat.le_of_ble_eq_true rfl) dX3_fold_64
  · skip
    rcases hpx with ⟨hw9, rfl⟩ | ⟨hw9, hpx⟩
    · skip
      have hx5 := hwx_no hw9
      rcases Decidable.em (kdx ch = 3) with hkd | hkd
      · skip
        rcases ix_cases x (N := 4) (by decide) with hrb | ⟨ro, hro, rfl⟩
        · skip
          refine lv_iload_n hx hb dX3_fold_0 rfl (lv_at hl 1 rfl) ?_
          refine g_callS (As := [.int (nI ch)]) (rest := []) ⟨hx, hb, hml, hown, hw⟩ (mX3_kind l D cT n ad A hD G ch (by omega)) (va_cwS 1 hw (gWS wm_X3_51 wst_X3_kind wini_X3 wc_X3_kind) rfl rfl rfl (by decide +kernel) ⟨Nat.le_of_ble_eq_true rfl, Nat.le_of_ble_eq_true rfl⟩) hK hE hA hP hS rfl hl.1 (lv_room (Nat.le_of_ble_eq_true rfl)) dX3_fold_1 ⟨Nat.le_of_ble_eq_true rfl, Nat.le_of_ble_eq_true rfl⟩ (fun v_81 G_80 H locs hp hP hS => ?_)
          obtain ⟨hv9, hg9⟩ := hp
          subst hv9
          rw [hg9] at hP
          refine t_eqi (-1) (if_pos hkd) ?_
          refine lv_istore (lv' := [(5, .int (-1)), (0, .ref (ad 69)), (1, .int (nI ch)), (2, .int x), (3, .int (nI mo)), (4, .int (nI hc))]) hx hb dX3_fold_4 hl (by decide) rfl (fun ls hl => ?_)
          refine lv_aload_n hx hb dX3_fold_6 rfl (lv_at hl 1 rfl) ?_
          refine lv_iload hx hb dX3_fold_7 (lv_at hl 0 rfl) ?_
          refine lv_if_lt (tgt := 51) hx hb dX3_fold_9 (by decide) (fun h9 => ?_) (fun h9 => absurd (by decide) h9)
          refine lv_iconst (v := nI 0) hx hb dX3_fold_51 (by decide) ?_
          refine lv_iload_n hx hb dX3_fold_52 rfl (lv_at hl 3 rfl) ?_
          refine g_callS (As := [.int x]) (rest := [.int (nI 0), .ref (ad 69)]) ⟨hx, hb, hml, hown, hw⟩ (mX3_isRow l D cT n ad A hD G x) (va_cwS 1 hw (gWS wm_X3_59 wst_X3_isRow wini_X3 wc_X3_isRow) rfl rfl rfl (by decide +kernel) ⟨Nat.le_of_ble_eq_true rfl, Nat.le_of_ble_eq_true rfl⟩) hK hE hA hP hS rfl hl.1 (lv_room (Nat.le_of_ble_eq_true rfl)) dX3_fold_53 ⟨Nat.le_of_ble_eq_true rfl, Nat.le_of_ble_eq_true rfl⟩ (fun v_83 G_82 H locs hp hP hS => ?_)
          obtain ⟨hv9, hg9⟩ := hp
          subst hv9
          rw [hg9] at hP
          refine t_eqi (nI 0) (congrArg nI (if_pos hrb)) ?_
          refine lv_iconst (v := nI 1) hx hb dX3_fold_56 (by decide) ?_
          refine g_callV (As := [.int (nI 0), .int (nI 0), .int (nI 1)]) (rest := []) ⟨hx, hb, hml, hown, hw⟩ (mX3_can l D cT n ad A hD G hn th 0 0 1 (by decide) (by decide) (by decide) hC.1) (cwV 3 hw (gWV wm_X3_63 wi_X3_can wse_X3_can wini_X3 wc_X3_can) rfl rfl rfl (by decide +kernel) ⟨Nat.le_of_ble_eq_true rfl, Nat.le_of_ble_eq_true rfl⟩) hK hE hA hP hS (k := 69) (by omega) hC.1 rfl rfl hl.1 (lv_room (Nat.le_of_ble_eq_true rfl)) dX3_fold_57 ⟨Nat.le_of_ble_eq_true rfl, Nat.le_of_ble_eq_true rfl⟩ (fun v_85 G_84 H locs hp hP hS => ?_)
          obtain ⟨rfl, hg_G_84, ho_G_84⟩ := hp
          have hc_86 : G_84 69 = .inr (5, [.ref (ad 70), .ref (ad 86), .ref (ad 90), .ref (ad 97), .ref (ad 98), .ref (ad 99), .ref (ad 106), .ref (ad 113), .int (nI 1)]) := hg_G_84
          have hc_87 : G_84 70 = aQ (cT 10) 3 (q3 ad) := (ho_G_84 _ (by omega)).trans hC.2.1
          have hc_88 : G_84 86 = aQ (cT 8) 3 (qS ad) := (ho_G_84 _ (by omega)).trans hC.2.2.2.2.1
          have hc_89 : G_84 90 = aQ (cT 7) 6 (qP ad) := (ho_G_84 _ (by omega)).trans hC.2.2.2.2.2.2.1
          have hc_90 : G_84 97 = aI cT 6 zf := (ho_G_84 _ (by omega)).trans hC.2.2.2.2.2.2.2.2.1
          have hc_91 : G_84 98 = aZ cT 6 xf := (ho_G_84 _ (by omega)).trans hC.2.2.2.2.2.2.2.2.2.1
          have hc_92 : G_84 99 = aQ (cT 9) 6 (qK ad) := (ho_G_84 _ (by omega)).trans hC.2.2.2.2.2.2.2.2.2.2.1
          have hc_93 : G_84 106 = aQ (cT 8) 6 (qL ad) := (ho_G_84 _ (by omega)).trans hC.2.2.2.2.2.2.2.2.2.2.2.2.1
          have hc_94 : G_84 113 = aI cT 6 mf := (ho_G_84 _ (by omega)).trans hC.2.2.2.2.2.2.2.2.2.2.2.2.2.2.1
          have hfr_95 : ∀ j, (j ≠ 69) → G_84 j = G j := fun j hj => (ho_G_84 j (by omega)).trans (rfl)
          refine t_eqi (nI 0) rfl ?_
          refine t_if_ne (tgt := 65) hx hb dX3_fold_60 (by decide) (by omega) (fun c_96 => absurd c_96 (by omega)) (fun c_96 => ?_)
          refine lv_lconst (v := 0) hx hb dX3_fold_63 (by decide) ?_
          refine g_retl hQ hx hb hr hlocks hP hS (⟨⟨⟨_, rfl⟩, by rw [show cd [xIA, xIO] xIA = 1 from by decide +kernel]; exact MW.same hC hMA hc_86 (fun j9 _ _ hj9 => hfr_95 j9 hj9)⟩, fun j hj => hfr_95 j (by omega)⟩) (Nat.le_of_ble_eq_true rfl) (Nat.le_of_ble_eq_true rfl) dX3_fold_64
        · skip
          refine lv_iload_n hx hb dX3_fold_0 rfl (lv_at hl 1 rfl) ?_
          refine g_callS (As := [.int (nI ch)]) (rest := []) ⟨hx, hb, hml, hown, hw⟩ (mX3_kind l D cT n ad A hD G ch (by omega)) (va_cwS 1 hw (gWS wm_X3_51 wst_X3_kind wini_X3 wc_X3_kind) rfl rfl rfl (by decide +kernel) ⟨Nat.le_of_ble_eq_true rfl, Nat.le_of_ble_eq_true rfl⟩) hK hE hA hP hS rfl hl.1 (lv_room (Nat.le_of_ble_eq_true rfl)) dX3_fold_1 ⟨Nat.le_of_ble_eq_true rfl, Nat.le_of_ble_eq_true rfl⟩ (fun v_98 G_97 H locs hp hP hS => ?_)
          obtain ⟨hv9, hg9⟩ := hp
          subst hv9
          rw [hg9] at hP
          refine t_eqi (-1) (if_pos hkd) ?_
          refine lv_istore (lv' := [(5, .int (-1)), (0, .ref (ad 69)), (1, .int (nI ch)), (2, .int (nI ro)), (3, .int (nI mo)), (4, .int (nI hc))]) hx hb dX3_fold_4 hl (by decide) rfl (fun ls hl => ?_)
          refine lv_aload_n hx hb dX3_fold_6 rfl (lv_at hl 1 rfl) ?_
          refine lv_iload hx hb dX3_fold_7 (lv_at hl 0 rfl) ?_
          refine lv_if_lt (tgt := 51) hx hb dX3_fold_9 (by decide) (fun h9 => ?_) (fun h9 => absurd (by decide) h9)
          refine lv_iconst (v := nI 0) hx hb dX3_fold_51 (by decide) ?_
          refine lv_iload_n hx hb dX3_fold_52 rfl (lv_at hl 3 rfl) ?_
          refine g_callS (As := [.int (nI ro)]) (rest := [.int (nI 0), .ref (ad 69)]) ⟨hx, hb, hml, hown, hw⟩ (mX3_isRow l D cT n ad A hD G (nI ro)) (va_cwS 1 hw (gWS wm_X3_59 wst_X3_isRow wini_X3 wc_X3_isRow) rfl rfl rfl (by decide +kernel) ⟨Nat.le_of_ble_eq_true rfl, Nat.le_of_ble_eq_true rfl⟩) hK hE hA hP hS rfl hl.1 (lv_room (Nat.le_of_ble_eq_true rfl)) dX3_fold_53 ⟨Nat.le_of_ble_eq_true rfl, Nat.le_of_ble_eq_true rfl⟩ (fun v_100 G_99 H locs hp hP hS => ?_)
          obtain ⟨hv9, hg9⟩ := hp
          subst hv9
          rw [hg9] at hP
          refine t_eqi (nI 1) (congrArg nI (if_neg (ix_ok (by omega) (by decide)))) ?_
          refine lv_iconst (v := nI 1) hx hb dX3_fold_56 (by decide) ?_
          refine g_callV (As := [.int (nI 0), .int (nI 1), .int (nI 1)]) (rest := []) ⟨hx, hb, hml, hown, hw⟩ (mX3_can l D cT n ad A hD G hn th 0 1 1 (by decide) (by decide) (by decide) hC.1) (cwV 3 hw (gWV wm_X3_63 wi_X3_can wse_X3_can wini_X3 wc_X3_can) rfl rfl rfl (by decide +kernel) ⟨Nat.le_of_ble_eq_true rfl, Nat.le_of_ble_eq_true rfl⟩) hK hE hA hP hS (k := 69) (by omega) hC.1 rfl rfl hl.1 (lv_room (Nat.le_of_ble_eq_true rfl)) dX3_fold_57 ⟨Nat.le_of_ble_eq_true rfl, Nat.le_of_ble_eq_true rfl⟩ (fun v_102 G_101 H locs hp hP hS => ?_)
          obtain ⟨rfl, hg_G_101, ho_G_101⟩ := hp
          have hc_103 : G_101 69 = .inr (5, [.ref (ad 70), .ref (ad 86), .ref (ad 90), .ref (ad 97), .ref (ad 98), .ref (ad 99), .ref (ad 106), .ref (ad 113), .int (nI 1)]) := hg_G_101
          have hc_104 : G_101 70 = aQ (cT 10) 3 (q3 ad) := (ho_G_101 _ (by omega)).trans hC.2.1
          have hc_105 : G_101 86 = aQ (cT 8) 3 (qS ad) := (ho_G_101 _ (by omega)).trans hC.2.2.2.2.1
          have hc_106 : G_101 90 = aQ (cT 7) 6 (qP ad) := (ho_G_101 _ (by omega)).trans hC.2.2.2.2.2.2.1
          have hc_107 : G_101 97 = aI cT 6 zf := (ho_G_101 _ (by omega)).trans hC.2.2.2.2.2.2.2.2.1
          have hc_108 : G_101 98 = aZ cT 6 xf := (ho_G_101 _ (by omega)).trans hC.2.2.2.2.2.2.2.2.2.1
          have hc_109 : G_101 99 = aQ (cT 9) 6 (qK ad) := (ho_G_101 _ (by omega)).trans hC.2.2.2.2.2.2.2.2.2.2.1
          have hc_110 : G_101 106 = aQ (cT 8) 6 (qL ad) := (ho_G_101 _ (by omega)).trans hC.2.2.2.2.2.2.2.2.2.2.2.2.1
          have hc_111 : G_101 113 = aI cT 6 mf := (ho_G_101 _ (by omega)).trans hC.2.2.2.2.2.2.2.2.2.2.2.2.2.2.1
          have hfr_112 : ∀ j, (j ≠ 69) → G_101 j = G j := fun j hj => (ho_G_101 j (by omega)).trans (rfl)
          refine t_eqi (nI 0) rfl ?_
          refine t_if_ne (tgt := 65) hx hb dX3_fold_60 (by decide) (by omega) (fun c_113 => absurd c_113 (by omega)) (fun c_113 => ?_)
          refine lv_lconst (v := 0) hx hb dX3_fold_63 (by decide) ?_
          refine g_retl hQ hx hb hr hlocks hP hS (⟨⟨⟨_, rfl⟩, by rw [show cd [xIA, xIO] xIA = 1 from by decide +kernel]; exact MW.same hC hMA hc_103 (fun j9 _ _ hj9 => hfr_112 j9 hj9)⟩, fun j hj => hfr_112 j (by omega)⟩) (Nat.le_of_ble_eq_true rfl) (Nat.le_of_ble_eq_true rfl) dX3_fold_64
      · skip
        obtain ⟨q, hkq⟩ : ∃ q, kdx ch = q := ⟨_, rfl⟩
        have hkl9 := kdx_le ch
        have hq : q < 3 := by omega
        rcases ix_cases x (N := 4) (by decide) with hrb | ⟨ro, hro, rfl⟩
        · skip
          refine lv_iload_n hx hb dX3_fold_0 rfl (lv_at hl 1 rfl) ?_
          refine g_callS (As := [.int (nI ch)]) (rest := []) ⟨hx, hb, hml, hown, hw⟩ (mX3_kind l D cT n ad A hD G ch (by omega)) (va_cwS 1 hw (gWS wm_X3_51 wst_X3_kind wini_X3 wc_X3_kind) rfl rfl rfl (by decide +kernel) ⟨Nat.le_of_ble_eq_true rfl, Nat.le_of_ble_eq_true rfl⟩) hK hE hA hP hS rfl hl.1 (lv_room (Nat.le_of_ble_eq_true rfl)) dX3_fold_1 ⟨Nat.le_of_ble_eq_true rfl, Nat.le_of_ble_eq_true rfl⟩ (fun v_115 G_114 H locs hp hP hS => ?_)
          obtain ⟨hv9, hg9⟩ := hp
          subst hv9
          rw [hg9] at hP
          refine t_eqi (nI q) ((if_neg (by omega)).trans (congrArg nI hkq)) ?_
          refine lv_istore (lv' := [(5, .int (nI q)), (0, .ref (ad 69)), (1, .int (nI ch)), (2, .int x), (3, .int (nI mo)), (4, .int (nI hc))]) hx hb dX3_fold_4 hl (by decide) rfl (fun ls hl => ?_)
          refine lv_aload_n hx hb dX3_fold_6 rfl (lv_at hl 1 rfl) ?_
          refine lv_iload hx hb dX3_fold_7 (lv_at hl 0 rfl) ?_
          refine t_if_lt (tgt := 51) hx hb dX3_fold_9 (by decide) (by omega) ?_
          refine lv_iload_n hx hb dX3_fold_12 rfl (lv_at hl 4 rfl) ?_
          refine g_callS (As := [.int (nI mo)]) (rest := [.ref (ad 69)]) ⟨hx, hb, hml, hown, hw⟩ (mX3_isMost l D cT n ad A hD G (nI mo)) (va_cwS 1 hw (gWS wm_X3_93 wst_X3_isMost wini_X3 wc_X3_isMost) rfl rfl rfl (by decide +kernel) ⟨Nat.le_of_ble_eq_true rfl, Nat.le_of_ble_eq_true rfl⟩) hK hE hA hP hS rfl hl.1 (lv_room (Nat.le_of_ble_eq_true rfl)) dX3_fold_13 ⟨Nat.le_of_ble_eq_true rfl, Nat.le_of_ble_eq_true rfl⟩ (fun v_118 G_117 H locs hp hP hS => ?_)
          obtain ⟨hv9, hg9⟩ := hp
          subst hv9
          rw [hg9] at hP
          refine t_eqi (nI 1) (congrArg nI (if_neg (mo_ok (by omega) (by omega)))) ?_
          refine t_if_eq (tgt := 51) hx hb dX3_fold_16 (by decide) (by omega) (fun c_119 => absurd c_119 (by omega)) (fun c_119 => ?_)
          refine lv_iload hx hb dX3_fold_19 (lv_at hl 5 rfl) ?_
          refine lv_bipush (v := nI 115) hx hb dX3_fold_21 (by decide) ?_
          refine t_icmp_eq (tgt := 47) hx hb dX3_fold_23 (by decide) (by omega) (by omega) (fun c_120 => ?_) (fun c_120 => ?_)
          · exfalso; omega
          · skip
            refine lv_iload hx hb dX3_fold_26 (lv_at hl 5 rfl) ?_
            refine lv_bipush (v := nI 120) hx hb dX3_fold_28 (by decide) ?_
            refine t_icmp_eq (tgt := 47) hx hb dX3_fold_30 (by decide) (by omega) (by omega) (fun c_121 => ?_) (fun c_121 => ?_)
            · exfalso; omega
            · skip
              refine lv_iload hx hb dX3_fold_33 (lv_at hl 5 rfl) ?_
              refine lv_bipush (v := nI 104) hx hb dX3_fold_35 (by decide) ?_
              refine t_icmp_eq (tgt := 47) hx hb dX3_fold_37 (by decide) (by omega) (by omega) (fun c_122 => ?_) (fun c_122 => ?_)
              · exfalso; omega
              · skip
                refine lv_iload hx hb dX3_fold_40 (lv_at hl 5 rfl) ?_
                refine lv_bipush (v := nI 102) hx hb dX3_fold_42 (by decide) ?_
                refine t_icmp_ne (tgt := 51) hx hb dX3_fold_44 (by decide) (by omega) (by omega) (fun c_123 => ?_) (fun c_123 => ?_)
                · skip
                  refine lv_iconst (v := nI 0) hx hb dX3_fold_51 (by decide) ?_
                  refine lv_iload_n hx hb dX3_fold_52 rfl (lv_at hl 3 rfl) ?_
                  refine g_callS (As := [.int x]) (rest := [.int (nI 0), .ref (ad 69)]) ⟨hx, hb, hml, hown, hw⟩ (mX3_isRow l D cT n ad A hD G x) (va_cwS 1 hw (gWS wm_X3_59 wst_X3_isRow wini_X3 wc_X3_isRow) rfl rfl rfl (by decide +kernel) ⟨Nat.le_of_ble_eq_true rfl, Nat.le_of_ble_eq_true rfl⟩) hK hE hA hP hS rfl hl.1 (lv_room (Nat.le_of_ble_eq_true rfl)) dX3_fold_53 ⟨Nat.le_of_ble_eq_true rfl, Nat.le_of_ble_eq_true rfl⟩ (fun v_125 G_124 H locs hp hP hS => ?_)
                  obtain ⟨hv9, hg9⟩ := hp
                  subst hv9
                  rw [hg9] at hP
                  refine t_eqi (nI 0) (congrArg nI (if_pos hrb)) ?_
                  refine lv_iconst (v := nI 1) hx hb dX3_fold_56 (by decide) ?_
                  refine g_callV (As := [.int (nI 0), .int (nI 0), .int (nI 1)]) (rest := []) ⟨hx, hb, hml, hown, hw⟩ (mX3_can l D cT n ad A hD G hn th 0 0 1 (by decide) (by decide) (by decide) hC.1) (cwV 3 hw (gWV wm_X3_63 wi_X3_can wse_X3_can wini_X3 wc_X3_can) rfl rfl rfl (by decide +kernel) ⟨Nat.le_of_ble_eq_true rfl, Nat.le_of_ble_eq_true rfl⟩) hK hE hA hP hS (k := 69) (by omega) hC.1 rfl rfl hl.1 (lv_room (Nat.le_of_ble_eq_true rfl)) dX3_fold_57 ⟨Nat.le_of_ble_eq_true rfl, Nat.le_of_ble_eq_true rfl⟩ (fun v_127 G_126 H locs hp hP hS => ?_)
                  obtain ⟨rfl, hg_G_126, ho_G_126⟩ := hp
                  have hc_128 : G_126 69 = .inr (5, [.ref (ad 70), .ref (ad 86), .ref (ad 90), .ref (ad 97), .ref (ad 98), .ref (ad 99), .ref (ad 106), .ref (ad 113), .int (nI 1)]) := hg_G_126
                  have hc_129 : G_126 70 = aQ (cT 10) 3 (q3 ad) := (ho_G_126 _ (by omega)).trans hC.2.1
                  have hc_130 : G_126 86 = aQ (cT 8) 3 (qS ad) := (ho_G_126 _ (by omega)).trans hC.2.2.2.2.1
                  have hc_131 : G_126 90 = aQ (cT 7) 6 (qP ad) := (ho_G_126 _ (by omega)).trans hC.2.2.2.2.2.2.1
                  have hc_132 : G_126 97 = aI cT 6 zf := (ho_G_126 _ (by omega)).trans hC.2.2.2.2.2.2.2.2.1
                  have hc_133 : G_126 98 = aZ cT 6 xf := (ho_G_126 _ (by omega)).trans hC.2.2.2.2.2.2.2.2.2.1
                  have hc_134 : G_126 99 = aQ (cT 9) 6 (qK ad) := (ho_G_126 _ (by omega)).trans hC.2.2.2.2.2.2.2.2.2.2.1
                  have hc_135 : G_126 106 = aQ (cT 8) 6 (qL ad) := (ho_G_126 _ (by omega)).trans hC.2.2.2.2.2.2.2.2.2.2.2.2.1
                  have hc_136 : G_126 113 = aI cT 6 mf := (ho_G_126 _ (by omega)).trans hC.2.2.2.2.2.2.2.2.2.2.2.2.2.2.1
                  have hfr_137 : ∀ j, (j ≠ 69) → G_126 j = G j := fun j hj => (ho_G_126 j (by omega)).trans (rfl)
                  refine t_eqi (nI 0) rfl ?_
                  refine t_if_ne (tgt := 65) hx hb dX3_fold_60 (by decide) (by omega) (fun c_138 => absurd c_138 (by omega)) (fun c_138 => ?_)
                  refine lv_lconst (v := 0) hx hb dX3_fold_63 (by decide) ?_
                  refine g_retl hQ hx hb hr hlocks hP hS (⟨⟨⟨_, rfl⟩, by rw [show cd [xIA, xIO] xIA = 1 from by decide +kernel]; exact MW.same hC hMA hc_128 (fun j9 _ _ hj9 => hfr_137 j9 hj9)⟩, fun j hj => hfr_137 j (by omega)⟩) (Nat.le_of_ble_eq_true rfl) (Nat.le_of_ble_eq_true rfl) dX3_fold_64
                · exfalso; omega
        · skip
          obtain ⟨hsz, hrv⟩ := hMA.1 q (by omega) ro (by omega)
          have hrc := hI.1 (4 * q + ro) (by omega)
          refine lv_iload_n hx hb dX3_fold_0 rfl (lv_at hl 1 rfl) ?_
          refine g_callS (As := [.int (nI ch)]) (rest := []) ⟨hx, hb, hml, hown, hw⟩ (mX3_kind l D cT n ad A hD G ch (by omega)) (va_cwS 1 hw (gWS wm_X3_51 wst_X3_kind wini_X3 wc_X3_kind) rfl rfl rfl (by decide +kernel) ⟨Nat.le_of_ble_eq_true rfl, Nat.le_of_ble_eq_true rfl⟩) hK hE hA hP hS rfl hl.1 (lv_room (Nat.le_of_ble_eq_true rfl)) dX3_fold_1 ⟨Nat.le_of_ble_eq_true rfl, Nat.le_of_ble_eq_true rfl⟩ (fun v_140 G_139 H locs hp hP hS => ?_)
          obtain ⟨hv9, hg9⟩ := hp
          subst hv9
          rw [hg9] at hP
          refine t_eqi (nI q) ((if_neg (by omega)).trans (congrArg nI hkq)) ?_
          refine lv_istore (lv' := [(5, .int (nI q)), (0, .ref (ad 69)), (1, .int (nI ch)), (2, .int (nI ro)), (3, .int (nI mo)), (4, .int (nI hc))]) hx hb dX3_fold_4 hl (by decide) rfl (fun ls hl => ?_)
          refine lv_aload_n hx hb dX3_fold_6 rfl (lv_at hl 1 rfl) ?_
          refine lv_iload hx hb dX3_fold_7 (lv_at hl 0 rfl) ?_
          refine t_if_lt (tgt := 51) hx hb dX3_fold_9 (by decide) (by omega) ?_
          refine lv_iload_n hx hb dX3_fold_12 rfl (lv_at hl 4 rfl) ?_
          refine g_callS (As := [.int (nI mo)]) (rest := [.ref (ad 69)]) ⟨hx, hb, hml, hown, hw⟩ (mX3_isMost l D cT n ad A hD G (nI mo)) (va_cwS 1 hw (gWS wm_X3_93 wst_X3_isMost wini_X3 wc_X3_isMost) rfl rfl rfl (by decide +kernel) ⟨Nat.le_of_ble_eq_true rfl, Nat.le_of_ble_eq_true rfl⟩) hK hE hA hP hS rfl hl.1 (lv_room (Nat.le_of_ble_eq_true rfl)) dX3_fold_13 ⟨Nat.le_of_ble_eq_true rfl, Nat.le_of_ble_eq_true rfl⟩ (fun v_143 G_142 H locs hp hP hS => ?_)
          obtain ⟨hv9, hg9⟩ := hp
          subst hv9
          rw [hg9] at hP
          refine t_eqi (nI 1) (congrArg nI (if_neg (mo_ok (by omega) (by omega)))) ?_
          refine t_if_eq (tgt := 51) hx hb dX3_fold_16 (by decide) (by omega) (fun c_144 => absurd c_144 (by omega)) (fun c_144 => ?_)
          refine lv_iload hx hb dX3_fold_19 (lv_at hl 5 rfl) ?_
          refine lv_bipush (v := nI 115) hx hb dX3_fold_21 (by decide) ?_
          refine t_icmp_eq (tgt := 47) hx hb dX3_fold_23 (by decide) (by omega) (by omega) (fun c_145 => ?_) (fun c_145 => ?_)
          · exfalso; omega
          · skip
            refine lv_iload hx hb dX3_fold_26 (lv_at hl 5 rfl) ?_
            refine lv_bipush (v := nI 120) hx hb dX3_fold_28 (by decide) ?_
            refine t_icmp_eq (tgt := 47) hx hb dX3_fold_30 (by decide) (by omega) (by omega) (fun c_146 => ?_) (fun c_146 => ?_)
            · exfalso; omega
            · skip
              refine lv_iload hx hb dX3_fold_33 (lv_at hl 5 rfl) ?_
              refine lv_bipush (v := nI 104) hx hb dX3_fold_35 (by decide) ?_
              refine t_icmp_eq (tgt := 47) hx hb dX3_fold_37 (by decide) (by omega) (by omega) (fun c_147 => ?_) (fun c_147 => ?_)
              · exfalso; omega
              · skip
                refine lv_iload hx hb dX3_fold_40 (lv_at hl 5 rfl) ?_
                refine lv_bipush (v := nI 102) hx hb dX3_fold_42 (by decide) ?_
                refine t_icmp_ne (tgt := 51) hx hb dX3_fold_44 (by decide) (by omega) (by omega) (fun c_148 => ?_) (fun c_148 => ?_)
                · skip
                  refine lv_iconst (v := nI 0) hx hb dX3_fold_51 (by decide) ?_
                  refine lv_iload_n hx hb dX3_fold_52 rfl (lv_at hl 3 rfl) ?_
                  refine g_callS (As := [.int (nI ro)]) (rest := [.int (nI 0), .ref (ad 69)]) ⟨hx, hb, hml, hown, hw⟩ (mX3_isRow l D cT n ad A hD G (nI ro)) (va_cwS 1 hw (gWS wm_X3_59 wst_X3_isRow wini_X3 wc_X3_isRow) rfl rfl rfl (by decide +kernel) ⟨Nat.le_of_ble_eq_true rfl, Nat.le_of_ble_eq_true rfl⟩) hK hE hA hP hS rfl hl.1 (lv_room (Nat.le_of_ble_eq_true rfl)) dX3_fold_53 ⟨Nat.le_of_ble_eq_true rfl, Nat.le_of_ble_eq_true rfl⟩ (fun v_150 G_149 H locs hp hP hS => ?_)
                  obtain ⟨hv9, hg9⟩ := hp
                  subst hv9
                  rw [hg9] at hP
                  refine t_eqi (nI 1) (congrArg nI (if_neg (ix_ok (by omega) (by decide)))) ?_
                  refine lv_iconst (v := nI 1) hx hb dX3_fold_56 (by decide) ?_
                  refine g_callV (As := [.int (nI 0), .int (nI 1), .int (nI 1)]) (rest := []) ⟨hx, hb, hml, hown, hw⟩ (mX3_can l D cT n ad A hD G hn th 0 1 1 (by decide) (by decide) (by decide) hC.1) (cwV 3 hw (gWV wm_X3_63 wi_X3_can wse_X3_can wini_X3 wc_X3_can) rfl rfl rfl (by decide +kernel) ⟨Nat.le_of_ble_eq_true rfl, Nat.le_of_ble_eq_true rfl⟩) hK hE hA hP hS (k := 69) (by omega) hC.1 rfl rfl hl.1 (lv_room (Nat.le_of_ble_eq_true rfl)) dX3_fold_57 ⟨Nat.le_of_ble_eq_true rfl, Nat.le_of_ble_eq_true rfl⟩ (fun v_152 G_151 H locs hp hP hS => ?_)
                  obtain ⟨rfl, hg_G_151, ho_G_151⟩ := hp
                  have hc_153 : G_151 69 = .inr (5, [.ref (ad 70), .ref (ad 86), .ref (ad 90), .ref (ad 97), .ref (ad 98), .ref (ad 99), .ref (ad 106), .ref (ad 113), .int (nI 1)]) := hg_G_151
                  have hc_154 : G_151 70 = aQ (cT 10) 3 (q3 ad) := (ho_G_151 _ (by omega)).trans hC.2.1
                  have hc_155 : G_151 86 = aQ (cT 8) 3 (qS ad) := (ho_G_151 _ (by omega)).trans hC.2.2.2.2.1
                  have hc_156 : G_151 90 = aQ (cT 7) 6 (qP ad) := (ho_G_151 _ (by omega)).trans hC.2.2.2.2.2.2.1
                  have hc_157 : G_151 97 = aI cT 6 zf := (ho_G_151 _ (by omega)).trans hC.2.2.2.2.2.2.2.2.1
                  have hc_158 : G_151 98 = aZ cT 6 xf := (ho_G_151 _ (by omega)).trans hC.2.2.2.2.2.2.2.2.2.1
                  have hc_159 : G_151 99 = aQ (cT 9) 6 (qK ad) := (ho_G_151 _ (by omega)).trans hC.2.2.2.2.2.2.2.2.2.2.1
                  have hc_160 : G_151 106 = aQ (cT 8) 6 (qL ad) := (ho_G_151 _ (by omega)).trans hC.2.2.2.2.2.2.2.2.2.2.2.2.1
                  have hc_161 : G_151 113 = aI cT 6 mf := (ho_G_151 _ (by omega)).trans hC.2.2.2.2.2.2.2.2.2.2.2.2.2.2.1
                  have hc_162 : G_151 (71 + 5 * q) = aQ (cT 7) 4 (q4 ad q) := (ho_G_151 _ (by omega)).trans (hC.2.2.1 q (by omega))
                  have hc_163 : G_151 (87 + q) = aI cT 4 (sf q) := (ho_G_151 _ (by omega)).trans (hC.2.2.2.2.2.1 q (by omega))
                  have hc_164 : G_151 (72 + 5 * q + ro) = aJ cT 48 (rf q ro) := (ho_G_151 _ (by omega)).trans (hC.2.2.2.1 q (by omega) ro (by omega))
                  have hfr_165 : ∀ j, (j ≠ 69) → G_151 j = G j := fun j hj => (ho_G_151 j (by omega)).trans (rfl)
                  refine t_eqi (nI 0) rfl ?_
                  refine t_if_ne (tgt := 65) hx hb dX3_fold_60 (by decide) (by omega) (fun c_166 => absurd c_166 (by omega)) (fun c_166 => ?_)
                  refine lv_lconst (v := 0) hx hb dX3_fold_63 (by decide) ?_
                  refine g_retl hQ hx hb hr hlocks hP hS (⟨⟨⟨_, rfl⟩, by rw [show cd [xIA, xIO] xIA = 1 from by decide +kernel]; exact MW.same hC hMA hc_153 (fun j9 _ _ hj9 => hfr_165 j9 hj9)⟩, fun j hj => hfr_165 j (by omega)⟩) (Nat.le_of_ble_eq_true rfl) (Nat.le_of_ble_eq_true rfl) dX3_fold_64
                · exfalso; omega
    · skip
      have hx5 := hwx_lt hw9
      rcases hpx with ⟨hkd, rfl⟩ | ⟨hk3, hrb, rfl⟩
      · skip
        rcases ix_cases x (N := 4) (by decide) with hrb | ⟨ro, hro, rfl⟩
        · skip
          refine lv_iload_n hx hb dX3_fold_0 rfl (lv_at hl 1 rfl) ?_
          refine g_callS (As := [.int (nI ch)]) (rest := []) ⟨hx, hb, hml, hown, hw⟩ (mX3_kind l D cT n ad A hD G ch (by omega)) (va_cwS 1 hw (gWS wm_X3_51 wst_X3_kind wini_X3 wc_X3_kind) rfl rfl rfl (by decide +kernel) ⟨Nat.le_of_ble_eq_true rfl, Nat.le_of_ble_eq_true rfl⟩) hK hE hA hP hS rfl hl.1 (lv_room (Nat.le_of_ble_eq_true rfl)) dX3_fold_1 ⟨Nat.le_of_ble_eq_true rfl, Nat.le_of_ble_eq_true rfl⟩ (fun v_168 G_167 H locs hp hP hS => ?_)
          obtain ⟨hv9, hg9⟩ := hp
          subst hv9
          rw [hg9] at hP
          refine t_eqi (-1) (if_pos hkd) ?_
          refine lv_istore (lv' := [(5, .int (-1)), (0, .ref (ad 69)), (1, .int (nI ch)), (2, .int x), (3, .int (nI mo)), (4, .int (nI hc))]) hx hb dX3_fold_4 hl (by decide) rfl (fun ls hl => ?_)
          refine lv_aload_n hx hb dX3_fold_6 rfl (lv_at hl 1 rfl) ?_
          refine lv_iload hx hb dX3_fold_7 (lv_at hl 0 rfl) ?_
          refine lv_if_lt (tgt := 51) hx hb dX3_fold_9 (by decide) (fun h9 => ?_) (fun h9 => absurd (by decide) h9)
          refine lv_iconst (v := nI 0) hx hb dX3_fold_51 (by decide) ?_
          refine lv_iload_n hx hb dX3_fold_52 rfl (lv_at hl 3 rfl) ?_
          refine g_callS (As := [.int x]) (rest := [.int (nI 0), .ref (ad 69)]) ⟨hx, hb, hml, hown, hw⟩ (mX3_isRow l D cT n ad A hD G x) (va_cwS 1 hw (gWS wm_X3_59 wst_X3_isRow wini_X3 wc_X3_isRow) rfl rfl rfl (by decide +kernel) ⟨Nat.le_of_ble_eq_true rfl, Nat.le_of_ble_eq_true rfl⟩) hK hE hA hP hS rfl hl.1 (lv_room (Nat.le_of_ble_eq_true rfl)) dX3_fold_53 ⟨Nat.le_of_ble_eq_true rfl, Nat.le_of_ble_eq_true rfl⟩ (fun v_170 G_169 H locs hp hP hS => ?_)
          obtain ⟨hv9, hg9⟩ := hp
          subst hv9
          rw [hg9] at hP
          refine t_eqi (nI 0) (congrArg nI (if_pos hrb)) ?_
          refine lv_iconst (v := nI 1) hx hb dX3_fold_56 (by decide) ?_
          refine g_callV (As := [.int (nI 0), .int (nI 0), .int (nI 1)]) (rest := []) ⟨hx, hb, hml, hown, hw⟩ (mX3_can l D cT n ad A hD G hn th 0 0 1 (by decide) (by decide) (by decide) hC.1) (cwV 3 hw (gWV wm_X3_63 wi_X3_can wse_X3_can wini_X3 wc_X3_can) rfl rfl rfl (by decide +kernel) ⟨Nat.le_of_ble_eq_true rfl, Nat.le_of_ble_eq_true rfl⟩) hK hE hA hP hS (k := 69) (by omega) hC.1 rfl rfl hl.1 (lv_room (Nat.le_of_ble_eq_true rfl)) dX3_fold_57 ⟨Nat.le_of_ble_eq_true rfl, Nat.le_of_ble_eq_true rfl⟩ (fun v_172 G_171 H locs hp hP hS => ?_)
          obtain ⟨rfl, hg_G_171, ho_G_171⟩ := hp
          have hc_173 : G_171 69 = .inr (5, [.ref (ad 70), .ref (ad 86), .ref (ad 90), .ref (ad 97), .ref (ad 98), .ref (ad 99), .ref (ad 106), .ref (ad 113), .int (nI 1)]) := hg_G_171
          have hc_174 : G_171 70 = aQ (cT 10) 3 (q3 ad) := (ho_G_171 _ (by omega)).trans hC.2.1
          have hc_175 : G_171 86 = aQ (cT 8) 3 (qS ad) := (ho_G_171 _ (by omega)).trans hC.2.2.2.2.1
          have hc_176 : G_171 90 = aQ (cT 7) 6 (qP ad) := (ho_G_171 _ (by omega)).trans hC.2.2.2.2.2.2.1
          have hc_177 : G_171 97 = aI cT 6 zf := (ho_G_171 _ (by omega)).trans hC.2.2.2.2.2.2.2.2.1
          have hc_178 : G_171 98 = aZ cT 6 xf := (ho_G_171 _ (by omega)).trans hC.2.2.2.2.2.2.2.2.2.1
          have hc_179 : G_171 99 = aQ (cT 9) 6 (qK ad) := (ho_G_171 _ (by omega)).trans hC.2.2.2.2.2.2.2.2.2.2.1
          have hc_180 : G_171 106 = aQ (cT 8) 6 (qL ad) := (ho_G_171 _ (by omega)).trans hC.2.2.2.2.2.2.2.2.2.2.2.2.1
          have hc_181 : G_171 113 = aI cT 6 mf := (ho_G_171 _ (by omega)).trans hC.2.2.2.2.2.2.2.2.2.2.2.2.2.2.1
          have hfr_182 : ∀ j, (j ≠ 69) → G_171 j = G j := fun j hj => (ho_G_171 j (by omega)).trans (rfl)
          refine t_eqi (nI 0) rfl ?_
          refine t_if_ne (tgt := 65) hx hb dX3_fold_60 (by decide) (by omega) (fun c_183 => absurd c_183 (by omega)) (fun c_183 => ?_)
          refine lv_lconst (v := 0) hx hb dX3_fold_63 (by decide) ?_
          refine g_retl hQ hx hb hr hlocks hP hS (⟨⟨⟨_, rfl⟩, by rw [show cd [xIA, xIO] xIA = 1 from by decide +kernel]; exact MW.same hC hMA hc_173 (fun j9 _ _ hj9 => hfr_182 j9 hj9)⟩, fun j hj => hfr_182 j (by omega)⟩) (Nat.le_of_ble_eq_true rfl) (Nat.le_of_ble_eq_true rfl) dX3_fold_64
        · skip
          refine lv_iload_n hx hb dX3_fold_0 rfl (lv_at hl 1 rfl) ?_
          refine g_callS (As := [.int (nI ch)]) (rest := []) ⟨hx, hb, hml, hown, hw⟩ (mX3_kind l D cT n ad A hD G ch (by omega)) (va_cwS 1 hw (gWS wm_X3_51 wst_X3_kind wini_X3 wc_X3_kind) rfl rfl rfl (by decide +kernel) ⟨Nat.le_of_ble_eq_true rfl, Nat.le_of_ble_eq_true rfl⟩) hK hE hA hP hS rfl hl.1 (lv_room (Nat.le_of_ble_eq_true rfl)) dX3_fold_1 ⟨Nat.le_of_ble_eq_true rfl, Nat.le_of_ble_eq_true rfl⟩ (fun v_185 G_184 H locs hp hP hS => ?_)
          obtain ⟨hv9, hg9⟩ := hp
          subst hv9
          rw [hg9] at hP
          refine t_eqi (-1) (if_pos hkd) ?_
          refine lv_istore (lv' := [(5, .int (-1)), (0, .ref (ad 69)), (1, .int (nI ch)), (2, .int (nI ro)), (3, .int (nI mo)), (4, .int (nI hc))]) hx hb dX3_fold_4 hl (by decide) rfl (fun ls hl => ?_)
          refine lv_aload_n hx hb dX3_fold_6 rfl (lv_at hl 1 rfl) ?_
          refine lv_iload hx hb dX3_fold_7 (lv_at hl 0 rfl) ?_
          refine lv_if_lt (tgt := 51) hx hb dX3_fold_9 (by decide) (fun h9 => ?_) (fun h9 => absurd (by decide) h9)
          refine lv_iconst (v := nI 0) hx hb dX3_fold_51 (by decide) ?_
          refine lv_iload_n hx hb dX3_fold_52 rfl (lv_at hl 3 rfl) ?_
          refine g_callS (As := [.int (nI ro)]) (rest := [.int (nI 0), .ref (ad 69)]) ⟨hx, hb, hml, hown, hw⟩ (mX3_isRow l D cT n ad A hD G (nI ro)) (va_cwS 1 hw (gWS wm_X3_59 wst_X3_isRow wini_X3 wc_X3_isRow) rfl rfl rfl (by decide +kernel) ⟨Nat.le_of_ble_eq_true rfl, Nat.le_of_ble_eq_true rfl⟩) hK hE hA hP hS rfl hl.1 (lv_room (Nat.le_of_ble_eq_true rfl)) dX3_fold_53 ⟨Nat.le_of_ble_eq_true rfl, Nat.le_of_ble_eq_true rfl⟩ (fun v_187 G_186 H locs hp hP hS => ?_)
          obtain ⟨hv9, hg9⟩ := hp
          subst hv9
          rw [hg9] at hP
          refine t_eqi (nI 1) (congrArg nI (if_neg (ix_ok (by omega) (by decide)))) ?_
          refine lv_iconst (v := nI 1) hx hb dX3_fold_56 (by decide) ?_
          refine g_callV (As := [.int (nI 0), .int (nI 1), .int (nI 1)]) (rest := []) ⟨hx, hb, hml, hown, hw⟩ (mX3_can l D cT n ad A hD G hn th 0 1 1 (by decide) (by decide) (by decide) hC.1) (cwV 3 hw (gWV wm_X3_63 wi_X3_can wse_X3_can wini_X3 wc_X3_can) rfl rfl rfl (by decide +kernel) ⟨Nat.le_of_ble_eq_true rfl, Nat.le_of_ble_eq_true rfl⟩) hK hE hA hP hS (k := 69) (by omega) hC.1 rfl rfl hl.1 (lv_room (Nat.le_of_ble_eq_true rfl)) dX3_fold_57 ⟨Nat.le_of_ble_eq_true rfl, Nat.le_of_ble_eq_true rfl⟩ (fun v_189 G_188 H locs hp hP hS => ?_)
          obtain ⟨rfl, hg_G_188, ho_G_188⟩ := hp
          have hc_190 : G_188 69 = .inr (5, [.ref (ad 70), .ref (ad 86), .ref (ad 90), .ref (ad 97), .ref (ad 98), .ref (ad 99), .ref (ad 106), .ref (ad 113), .int (nI 1)]) := hg_G_188
          have hc_191 : G_188 70 = aQ (cT 10) 3 (q3 ad) := (ho_G_188 _ (by omega)).trans hC.2.1
          have hc_192 : G_188 86 = aQ (cT 8) 3 (qS ad) := (ho_G_188 _ (by omega)).trans hC.2.2.2.2.1
          have hc_193 : G_188 90 = aQ (cT 7) 6 (qP ad) := (ho_G_188 _ (by omega)).trans hC.2.2.2.2.2.2.1
          have hc_194 : G_188 97 = aI cT 6 zf := (ho_G_188 _ (by omega)).trans hC.2.2.2.2.2.2.2.2.1
          have hc_195 : G_188 98 = aZ cT 6 xf := (ho_G_188 _ (by omega)).trans hC.2.2.2.2.2.2.2.2.2.1
          have hc_196 : G_188 99 = aQ (cT 9) 6 (qK ad) := (ho_G_188 _ (by omega)).trans hC.2.2.2.2.2.2.2.2.2.2.1
          have hc_197 : G_188 106 = aQ (cT 8) 6 (qL ad) := (ho_G_188 _ (by omega)).trans hC.2.2.2.2.2.2.2.2.2.2.2.2.1
          have hc_198 : G_188 113 = aI cT 6 mf := (ho_G_188 _ (by omega)).trans hC.2.2.2.2.2.2.2.2.2.2.2.2.2.2.1
          have hfr_199 : ∀ j, (j ≠ 69) → G_188 j = G j := fun j hj => (ho_G_188 j (by omega)).trans (rfl)
          refine t_eqi (nI 0) rfl ?_
          refine t_if_ne (tgt := 65) hx hb dX3_fold_60 (by decide) (by omega) (fun c_200 => absurd c_200 (by omega)) (fun c_200 => ?_)
          refine lv_lconst (v := 0) hx hb dX3_fold_63 (by decide) ?_
          refine g_retl hQ hx hb hr hlocks hP hS (⟨⟨⟨_, rfl⟩, by rw [show cd [xIA, xIO] xIA = 1 from by decide +kernel]; exact MW.same hC hMA hc_190 (fun j9 _ _ hj9 => hfr_199 j9 hj9)⟩, fun j hj => hfr_199 j (by omega)⟩) (Nat.le_of_ble_eq_true rfl) (Nat.le_of_ble_eq_true rfl) dX3_fold_64
      · skip
        obtain ⟨q, hkq⟩ : ∃ q, kdx ch = q := ⟨_, rfl⟩
        have hkl9 := kdx_le ch
        have hq : q < 3 := by omega
        refine lv_iload_n hx hb dX3_fold_0 rfl (lv_at hl 1 rfl) ?_
        refine g_callS (As := [.int (nI ch)]) (rest := []) ⟨hx, hb, hml, hown, hw⟩ (mX3_kind l D cT n ad A hD G ch (by omega)) (va_cwS 1 hw (gWS wm_X3_51 wst_X3_kind wini_X3 wc_X3_kind) rfl rfl rfl (by decide +kernel) ⟨Nat.le_of_ble_eq_true rfl, Nat.le_of_ble_eq_true rfl⟩) hK hE hA hP hS rfl hl.1 (lv_room (Nat.le_of_ble_eq_true rfl)) dX3_fold_1 ⟨Nat.le_of_ble_eq_true rfl, Nat.le_of_ble_eq_true rfl⟩ (fun v_202 G_201 H locs hp hP hS => ?_)
        obtain ⟨hv9, hg9⟩ := hp
        subst hv9
        rw [hg9] at hP
        refine t_eqi (nI q) ((if_neg (by omega)).trans (congrArg nI hkq)) ?_
        refine lv_istore (lv' := [(5, .int (nI q)), (0, .ref (ad 69)), (1, .int (nI ch)), (2, .int x), (3, .int (nI mo)), (4, .int (nI hc))]) hx hb dX3_fold_4 hl (by decide) rfl (fun ls hl => ?_)
        refine lv_aload_n hx hb dX3_fold_6 rfl (lv_at hl 1 rfl) ?_
        refine lv_iload hx hb dX3_fold_7 (lv_at hl 0 rfl) ?_
        refine t_if_lt (tgt := 51) hx hb dX3_fold_9 (by decide) (by omega) ?_
        refine lv_iload_n hx hb dX3_fold_12 rfl (lv_at hl 4 rfl) ?_
        refine g_callS (As := [.int (nI mo)]) (rest := [.ref (ad 69)]) ⟨hx, hb, hml, hown, hw⟩ (mX3_isMost l D cT n ad A hD G (nI mo)) (va_cwS 1 hw (gWS wm_X3_93 wst_X3_isMost wini_X3 wc_X3_isMost) rfl rfl rfl (by decide +kernel) ⟨Nat.le_of_ble_eq_true rfl, Nat.le_of_ble_eq_true rfl⟩) hK hE hA hP hS rfl hl.1 (lv_room (Nat.le_of_ble_eq_true rfl)) dX3_fold_13 ⟨Nat.le_of_ble_eq_true rfl, Nat.le_of_ble_eq_true rfl⟩ (fun v_205 G_204 H locs hp hP hS => ?_)
        obtain ⟨hv9, hg9⟩ := hp
        subst hv9
        rw [hg9] at hP
        refine t_eqi (nI 1) (congrArg nI (if_neg (mo_ok (by omega) (by omega)))) ?_
        refine t_if_eq (tgt := 51) hx hb dX3_fold_16 (by decide) (by omega) (fun c_206 => absurd c_206 (by omega)) (fun c_206 => ?_)
        refine lv_iload hx hb dX3_fold_19 (lv_at hl 5 rfl) ?_
        refine lv_bipush (v := nI 115) hx hb dX3_fold_21 (by decide) ?_
        refine t_icmp_eq (tgt := 47) hx hb dX3_fold_23 (by decide) (by omega) (by omega) (fun c_207 => ?_) (fun c_207 => ?_)
        · skip
          refine lv_iconst (v := nI 1) hx hb dX3_fold_47 (by decide) ?_
          refine lv_goto (tgt := 52) hx hb dX3_fold_48 (by decide) ?_
          refine lv_iload_n hx hb dX3_fold_52 rfl (lv_at hl 3 rfl) ?_
          refine g_callS (As := [.int x]) (rest := [.int (nI 1), .ref (ad 69)]) ⟨hx, hb, hml, hown, hw⟩ (mX3_isRow l D cT n ad A hD G x) (va_cwS 1 hw (gWS wm_X3_59 wst_X3_isRow wini_X3 wc_X3_isRow) rfl rfl rfl (by decide +kernel) ⟨Nat.le_of_ble_eq_true rfl, Nat.le_of_ble_eq_true rfl⟩) hK hE hA hP hS rfl hl.1 (lv_room (Nat.le_of_ble_eq_true rfl)) dX3_fold_53 ⟨Nat.le_of_ble_eq_true rfl, Nat.le_of_ble_eq_true rfl⟩ (fun v_209 G_208 H locs hp hP hS => ?_)
          obtain ⟨hv9, hg9⟩ := hp
          subst hv9
          rw [hg9] at hP
          refine t_eqi (nI 0) (congrArg nI (if_pos hrb)) ?_
          refine lv_iconst (v := nI 1) hx hb dX3_fold_56 (by decide) ?_
          refine g_callV (As := [.int (nI 1), .int (nI 0), .int (nI 1)]) (rest := []) ⟨hx, hb, hml, hown, hw⟩ (mX3_can l D cT n ad A hD G hn th 1 0 1 (by decide) (by decide) (by decide) hC.1) (cwV 3 hw (gWV wm_X3_63 wi_X3_can wse_X3_can wini_X3 wc_X3_can) rfl rfl rfl (by decide +kernel) ⟨Nat.le_of_ble_eq_true rfl, Nat.le_of_ble_eq_true rfl⟩) hK hE hA hP hS (k := 69) (by omega) hC.1 rfl rfl hl.1 (lv_room (Nat.le_of_ble_eq_true rfl)) dX3_fold_57 ⟨Nat.le_of_ble_eq_true rfl, Nat.le_of_ble_eq_true rfl⟩ (fun v_211 G_210 H locs hp hP hS => ?_)
          obtain ⟨rfl, hg_G_210, ho_G_210⟩ := hp
          have hc_212 : G_210 69 = .inr (5, [.ref (ad 70), .ref (ad 86), .ref (ad 90), .ref (ad 97), .ref (ad 98), .ref (ad 99), .ref (ad 106), .ref (ad 113), .int (nI 2)]) := hg_G_210
          have hc_213 : G_210 70 = aQ (cT 10) 3 (q3 ad) := (ho_G_210 _ (by omega)).trans hC.2.1
          have hc_214 : G_210 86 = aQ (cT 8) 3 (qS ad) := (ho_G_210 _ (by omega)).trans hC.2.2.2.2.1
          have hc_215 : G_210 90 = aQ (cT 7) 6 (qP ad) := (ho_G_210 _ (by omega)).trans hC.2.2.2.2.2.2.1
          have hc_216 : G_210 97 = aI cT 6 zf := (ho_G_210 _ (by omega)).trans hC.2.2.2.2.2.2.2.2.1
          have hc_217 : G_210 98 = aZ cT 6 xf := (ho_G_210 _ (by omega)).trans hC.2.2.2.2.2.2.2.2.2.1
          have hc_218 : G_210 99 = aQ (cT 9) 6 (qK ad) := (ho_G_210 _ (by omega)).trans hC.2.2.2.2.2.2.2.2.2.2.1
          have hc_219 : G_210 106 = aQ (cT 8) 6 (qL ad) := (ho_G_210 _ (by omega)).trans hC.2.2.2.2.2.2.2.2.2.2.2.2.1
          have hc_220 : G_210 113 = aI cT 6 mf := (ho_G_210 _ (by omega)).trans hC.2.2.2.2.2.2.2.2.2.2.2.2.2.2.1
          have hfr_221 : ∀ j, (j ≠ 69) → G_210 j = G j := fun j hj => (ho_G_210 j (by omega)).trans (rfl)
          refine t_eqi (nI 0) rfl ?_
          refine t_if_ne (tgt := 65) hx hb dX3_fold_60 (by decide) (by omega) (fun c_222 => absurd c_222 (by omega)) (fun c_222 => ?_)
          refine lv_lconst (v := 0) hx hb dX3_fold_63 (by decide) ?_
          refine g_retl hQ hx hb hr hlocks hP hS (⟨⟨⟨_, rfl⟩, by rw [show cd [xIA, xIO] xIO = 2 from by decide +kernel]; exact MW.same hC hMA hc_212 (fun j9 _ _ hj9 => hfr_221 j9 hj9)⟩, fun j hj => hfr_221 j (by omega)⟩) (Nat.le_of_ble_eq_true rfl) (Nat.le_of_ble_eq_true rfl) dX3_fold_64
        · skip
          refine lv_iload hx hb dX3_fold_26 (lv_at hl 5 rfl) ?_
          refine lv_bipush (v := nI 120) hx hb dX3_fold_28 (by decide) ?_
          refine t_icmp_eq (tgt := 47) hx hb dX3_fold_30 (by decide) (by omega) (by omega) (fun c_223 => ?_) (fun c_223 => ?_)
          · skip
            refine lv_iconst (v := nI 1) hx hb dX3_fold_47 (by decide) ?_
            refine lv_goto (tgt := 52) hx hb dX3_fold_48 (by decide) ?_
            refine lv_iload_n hx hb dX3_fold_52 rfl (lv_at hl 3 rfl) ?_
            refine g_callS (As := [.int x]) (rest := [.int (nI 1), .ref (ad 69)]) ⟨hx, hb, hml, hown, hw⟩ (mX3_isRow l D cT n ad A hD G x) (va_cwS 1 hw (gWS wm_X3_59 wst_X3_isRow wini_X3 wc_X3_isRow) rfl rfl rfl (by decide +kernel) ⟨Nat.le_of_ble_eq_true rfl, Nat.le_of_ble_eq_true rfl⟩) hK hE hA hP hS rfl hl.1 (lv_room (Nat.le_of_ble_eq_true rfl)) dX3_fold_53 ⟨Nat.le_of_ble_eq_true rfl, Nat.le_of_ble_eq_true rfl⟩ (fun v_225 G_224 H locs hp hP hS => ?_)
            obtain ⟨hv9, hg9⟩ := hp
            subst hv9
            rw [hg9] at hP
            refine t_eqi (nI 0) (congrArg nI (if_pos hrb)) ?_
            refine lv_iconst (v := nI 1) hx hb dX3_fold_56 (by decide) ?_
            refine g_callV (As := [.int (nI 1), .int (nI 0), .int (nI 1)]) (rest := []) ⟨hx, hb, hml, hown, hw⟩ (mX3_can l D cT n ad A hD G hn th 1 0 1 (by decide) (by decide) (by decide) hC.1) (cwV 3 hw (gWV wm_X3_63 wi_X3_can wse_X3_can wini_X3 wc_X3_can) rfl rfl rfl (by decide +kernel) ⟨Nat.le_of_ble_eq_true rfl, Nat.le_of_ble_eq_true rfl⟩) hK hE hA hP hS (k := 69) (by omega) hC.1 rfl rfl hl.1 (lv_room (Nat.le_of_ble_eq_true rfl)) dX3_fold_57 ⟨Nat.le_of_ble_eq_true rfl, Nat.le_of_ble_eq_true rfl⟩ (fun v_227 G_226 H locs hp hP hS => ?_)
            obtain ⟨rfl, hg_G_226, ho_G_226⟩ := hp
            have hc_228 : G_226 69 = .inr (5, [.ref (ad 70), .ref (ad 86), .ref (ad 90), .ref (ad 97), .ref (ad 98), .ref (ad 99), .ref (ad 106), .ref (ad 113), .int (nI 2)]) := hg_G_226
            have hc_229 : G_226 70 = aQ (cT 10) 3 (q3 ad) := (ho_G_226 _ (by omega)).trans hC.2.1
            have hc_230 : G_226 86 = aQ (cT 8) 3 (qS ad) := (ho_G_226 _ (by omega)).trans hC.2.2.2.2.1
            have hc_231 : G_226 90 = aQ (cT 7) 6 (qP ad) := (ho_G_226 _ (by omega)).trans hC.2.2.2.2.2.2.1
            have hc_232 : G_226 97 = aI cT 6 zf := (ho_G_226 _ (by omega)).trans hC.2.2.2.2.2.2.2.2.1
            have hc_233 : G_226 98 = aZ cT 6 xf := (ho_G_226 _ (by omega)).trans hC.2.2.2.2.2.2.2.2.2.1
            have hc_234 : G_226 99 = aQ (cT 9) 6 (qK ad) := (ho_G_226 _ (by omega)).trans hC.2.2.2.2.2.2.2.2.2.2.1
            have hc_235 : G_226 106 = aQ (cT 8) 6 (qL ad) := (ho_G_226 _ (by omega)).trans hC.2.2.2.2.2.2.2.2.2.2.2.2.1
            have hc_236 : G_226 113 = aI cT 6 mf := (ho_G_226 _ (by omega)).trans hC.2.2.2.2.2.2.2.2.2.2.2.2.2.2.1
            have hfr_237 : ∀ j, (j ≠ 69) → G_226 j = G j := fun j hj => (ho_G_226 j (by omega)).trans (rfl)
            refine t_eqi (nI 0) rfl ?_
            refine t_if_ne (tgt := 65) hx hb dX3_fold_60 (by decide) (by omega) (fun c_238 => absurd c_238 (by omega)) (fun c_238 => ?_)
            refine lv_lconst (v := 0) hx hb dX3_fold_63 (by decide) ?_
            refine g_retl hQ hx hb hr hlocks hP hS (⟨⟨⟨_, rfl⟩, by rw [show cd [xIA, xIO] xIO = 2 from by decide +kernel]; exact MW.same hC hMA hc_228 (fun j9 _ _ hj9 => hfr_237 j9 hj9)⟩, fun j hj => hfr_237 j (by omega)⟩) (Nat.le_of_ble_eq_true rfl) (Nat.le_of_ble_eq_true rfl) dX3_fold_64
          · skip
            refine lv_iload hx hb dX3_fold_33 (lv_at hl 5 rfl) ?_
            refine lv_bipush (v := nI 104) hx hb dX3_fold_35 (by decide) ?_
            refine t_icmp_eq (tgt := 47) hx hb dX3_fold_37 (by decide) (by omega) (by omega) (fun c_239 => ?_) (fun c_239 => ?_)
            · skip
              refine lv_iconst (v := nI 1) hx hb dX3_fold_47 (by decide) ?_
              refine lv_goto (tgt := 52) hx hb dX3_fold_48 (by decide) ?_
              refine lv_iload_n hx hb dX3_fold_52 rfl (lv_at hl 3 rfl) ?_
              refine g_callS (As := [.int x]) (rest := [.int (nI 1), .ref (ad 69)]) ⟨hx, hb, hml, hown, hw⟩ (mX3_isRow l D cT n ad A hD G x) (va_cwS 1 hw (gWS wm_X3_59 wst_X3_isRow wini_X3 wc_X3_isRow) rfl rfl rfl (by decide +kernel) ⟨Nat.le_of_ble_eq_true rfl, Nat.le_of_ble_eq_true rfl⟩) hK hE hA hP hS rfl hl.1 (lv_room (Nat.le_of_ble_eq_true rfl)) dX3_fold_53 ⟨Nat.le_of_ble_eq_true rfl, Nat.le_of_ble_eq_true rfl⟩ (fun v_241 G_240 H locs hp hP hS => ?_)
              obtain ⟨hv9, hg9⟩ := hp
              subst hv9
              rw [hg9] at hP
              refine t_eqi (nI 0) (congrArg nI (if_pos hrb)) ?_
              refine lv_iconst (v := nI 1) hx hb dX3_fold_56 (by decide) ?_
              refine g_callV (As := [.int (nI 1), .int (nI 0), .int (nI 1)]) (rest := []) ⟨hx, hb, hml, hown, hw⟩ (mX3_can l D cT n ad A hD G hn th 1 0 1 (by decide) (by decide) (by decide) hC.1) (cwV 3 hw (gWV wm_X3_63 wi_X3_can wse_X3_can wini_X3 wc_X3_can) rfl rfl rfl (by decide +kernel) ⟨Nat.le_of_ble_eq_true rfl, Nat.le_of_ble_eq_true rfl⟩) hK hE hA hP hS (k := 69) (by omega) hC.1 rfl rfl hl.1 (lv_room (Nat.le_of_ble_eq_true rfl)) dX3_fold_57 ⟨Nat.le_of_ble_eq_true rfl, Nat.le_of_ble_eq_true rfl⟩ (fun v_243 G_242 H locs hp hP hS => ?_)
              obtain ⟨rfl, hg_G_242, ho_G_242⟩ := hp
              have hc_244 : G_242 69 = .inr (5, [.ref (ad 70), .ref (ad 86), .ref (ad 90), .ref (ad 97), .ref (ad 98), .ref (ad 99), .ref (ad 106), .ref (ad 113), .int (nI 2)]) := hg_G_242
              have hc_245 : G_242 70 = aQ (cT 10) 3 (q3 ad) := (ho_G_242 _ (by omega)).trans hC.2.1
              have hc_246 : G_242 86 = aQ (cT 8) 3 (qS ad) := (ho_G_242 _ (by omega)).trans hC.2.2.2.2.1
              have hc_247 : G_242 90 = aQ (cT 7) 6 (qP ad) := (ho_G_242 _ (by omega)).trans hC.2.2.2.2.2.2.1
              have hc_248 : G_242 97 = aI cT 6 zf := (ho_G_242 _ (by omega)).trans hC.2.2.2.2.2.2.2.2.1
              have hc_249 : G_242 98 = aZ cT 6 xf := (ho_G_242 _ (by omega)).trans hC.2.2.2.2.2.2.2.2.2.1
              have hc_250 : G_242 99 = aQ (cT 9) 6 (qK ad) := (ho_G_242 _ (by omega)).trans hC.2.2.2.2.2.2.2.2.2.2.1
              have hc_251 : G_242 106 = aQ (cT 8) 6 (qL ad) := (ho_G_242 _ (by omega)).trans hC.2.2.2.2.2.2.2.2.2.2.2.2.1
              have hc_252 : G_242 113 = aI cT 6 mf := (ho_G_242 _ (by omega)).trans hC.2.2.2.2.2.2.2.2.2.2.2.2.2.2.1
              have hfr_253 : ∀ j, (j ≠ 69) → G_242 j = G j := fun j hj => (ho_G_242 j (by omega)).trans (rfl)
              refine t_eqi (nI 0) rfl ?_
              refine t_if_ne (tgt := 65) hx hb dX3_fold_60 (by decide) (by omega) (fun c_254 => absurd c_254 (by omega)) (fun c_254 => ?_)
              refine lv_lconst (v := 0) hx hb dX3_fold_63 (by decide) ?_
              refine g_retl hQ hx hb hr hlocks hP hS (⟨⟨⟨_, rfl⟩, by rw [show cd [xIA, xIO] xIO = 2 from by decide +kernel]; exact MW.same hC hMA hc_244 (fun j9 _ _ hj9 => hfr_253 j9 hj9)⟩, fun j hj => hfr_253 j (by omega)⟩) (Nat.le_of_ble_eq_true rfl) (Nat.le_of_ble_eq_true rfl) dX3_fold_64
            · skip
              refine lv_iload hx hb dX3_fold_40 (lv_at hl 5 rfl) ?_
              refine lv_bipush (v := nI 102) hx hb dX3_fold_42 (by decide) ?_
              refine t_icmp_ne (tgt := 51) hx hb dX3_fold_44 (by decide) (by omega) (by omega) (fun c_255 => ?_) (fun c_255 => ?_)
              · exfalso; omega
              · skip
                refine lv_iconst (v := nI 1) hx hb dX3_fold_47 (by decide) ?_
                refine lv_goto (tgt := 52) hx hb dX3_fold_48 (by decide) ?_
                refine lv_iload_n hx hb dX3_fold_52 rfl (lv_at hl 3 rfl) ?_
                refine g_callS (As := [.int x]) (rest := [.int (nI 1), .ref (ad 69)]) ⟨hx, hb, hml, hown, hw⟩ (mX3_isRow l D cT n ad A hD G x) (va_cwS 1 hw (gWS wm_X3_59 wst_X3_isRow wini_X3 wc_X3_isRow) rfl rfl rfl (by decide +kernel) ⟨Nat.le_of_ble_eq_true rfl, Nat.le_of_ble_eq_true rfl⟩) hK hE hA hP hS rfl hl.1 (lv_room (Nat.le_of_ble_eq_true rfl)) dX3_fold_53 ⟨Nat.le_of_ble_eq_true rfl, Nat.le_of_ble_eq_true rfl⟩ (fun v_257 G_256 H locs hp hP hS => ?_)
                obtain ⟨hv9, hg9⟩ := hp
                subst hv9
                rw [hg9] at hP
                refine t_eqi (nI 0) (congrArg nI (if_pos hrb)) ?_
                refine lv_iconst (v := nI 1) hx hb dX3_fold_56 (by decide) ?_
                refine g_callV (As := [.int (nI 1), .int (nI 0), .int (nI 1)]) (rest := []) ⟨hx, hb, hml, hown, hw⟩ (mX3_can l D cT n ad A hD G hn th 1 0 1 (by decide) (by decide) (by decide) hC.1) (cwV 3 hw (gWV wm_X3_63 wi_X3_can wse_X3_can wini_X3 wc_X3_can) rfl rfl rfl (by decide +kernel) ⟨Nat.le_of_ble_eq_true rfl, Nat.le_of_ble_eq_true rfl⟩) hK hE hA hP hS (k := 69) (by omega) hC.1 rfl rfl hl.1 (lv_room (Nat.le_of_ble_eq_true rfl)) dX3_fold_57 ⟨Nat.le_of_ble_eq_true rfl, Nat.le_of_ble_eq_true rfl⟩ (fun v_259 G_258 H locs hp hP hS => ?_)
                obtain ⟨rfl, hg_G_258, ho_G_258⟩ := hp
                have hc_260 : G_258 69 = .inr (5, [.ref (ad 70), .ref (ad 86), .ref (ad 90), .ref (ad 97), .ref (ad 98), .ref (ad 99), .ref (ad 106), .ref (ad 113), .int (nI 2)]) := hg_G_258
                have hc_261 : G_258 70 = aQ (cT 10) 3 (q3 ad) := (ho_G_258 _ (by omega)).trans hC.2.1
                have hc_262 : G_258 86 = aQ (cT 8) 3 (qS ad) := (ho_G_258 _ (by omega)).trans hC.2.2.2.2.1
                have hc_263 : G_258 90 = aQ (cT 7) 6 (qP ad) := (ho_G_258 _ (by omega)).trans hC.2.2.2.2.2.2.1
                have hc_264 : G_258 97 = aI cT 6 zf := (ho_G_258 _ (by omega)).trans hC.2.2.2.2.2.2.2.2.1
                have hc_265 : G_258 98 = aZ cT 6 xf := (ho_G_258 _ (by omega)).trans hC.2.2.2.2.2.2.2.2.2.1
                have hc_266 : G_258 99 = aQ (cT 9) 6 (qK ad) := (ho_G_258 _ (by omega)).trans hC.2.2.2.2.2.2.2.2.2.2.1
                have hc_267 : G_258 106 = aQ (cT 8) 6 (qL ad) := (ho_G_258 _ (by omega)).trans hC.2.2.2.2.2.2.2.2.2.2.2.2.1
                have hc_268 : G_258 113 = aI cT 6 mf := (ho_G_258 _ (by omega)).trans hC.2.2.2.2.2.2.2.2.2.2.2.2.2.2.1
                have hfr_269 : ∀ j, (j ≠ 69) → G_258 j = G j := fun j hj => (ho_G_258 j (by omega)).trans (rfl)
                refine t_eqi (nI 0) rfl ?_
                refine t_if_ne (tgt := 65) hx hb dX3_fold_60 (by decide) (by omega) (fun c_270 => absurd c_270 (by omega)) (fun c_270 => ?_)
                refine lv_lconst (v := 0) hx hb dX3_fold_63 (by decide) ?_
                refine g_retl hQ hx hb hr hlocks hP hS (⟨⟨⟨_, rfl⟩, by rw [show cd [xIA, xIO] xIO = 2 from by decide +kernel]; exact MW.same hC hMA hc_260 (fun j9 _ _ hj9 => hfr_269 j9 hj9)⟩, fun j hj => hfr_269 j (by omega)⟩) (Nat.le_of_ble_eq_true rfl) (Nat.le_of_ble_eq_true rfl) dX3_fold_64

set_option maxHeartbeats 4000000 in
set_option maxRecDepth 100000 in
theorem mX3_pieces_no (l : Launch) (D : va_G) (cT : Nat → ClassId) (n : Nat) (ad : Nat → Nat) (A : Nat → Prop) (hD : ∀ G, va_D A (gw n ad G)) (G : Nat → va_E) (hn : 114 ≤ n) (σ : TY) (hI : YI σ) (th : Nat) (hM : MW cT ad G σ th) (ch : Nat) (hch : ch < 65536) (x y : Int32) (E : String) (hpx : (mBad y ∧ E = xIA) ∨ (∃ mo, 1 ≤ mo ∧ mo ≤ 48 ∧ y = nI mo ∧ pxRow ch x E)) : Met l yX3_pieces (wA yX3_pieces cX3_pieces 8 (some .int)) ({ frames := 1, cells := 0, slots := 0, locals := 23 } : Room) (PG D cT n ad A G [.ref (ad 69), .int (nI ch), .int x, .int y]) (QG D n ad A (fun v G1 => ((∃ z, v = some (.int z)) ∧ MW cT ad G1 σ (cd [xIA, xIO] E)) ∧ ∀ j, (j < 69 ∨ 114 ≤ j) → G1 j = G j)) 0 0 A := by
  refine Met.ofG (cc := cX3_pieces) (maxL := 8) (ret := (some .int)) (by decide) (Nat.le_of_ble_eq_true rfl) ?_
  intro p e s m args below meth c Q hQ hx hb hr hml hlocks hown hw hP hK hE hA hS ls hl
  have hl : lv_has ls 8 [(0, .ref (ad 69)), (1, .int (nI ch)), (2, .int x), (3, .int y)] := hl
  obtain ⟨rf, sf, pf, zf, xf, kf, lf, mf, hC, hMA⟩ := hM
  rcases hpx with ⟨hyb, rfl⟩ | ⟨mo, hmo1, hmo2, rfl, hpx⟩
  · skip
    rcases Decidable.em (kdx ch = 3) with hkd | hkd
    · skip
      rcases ix_cases x (N := 4) (by decide) with hrb | ⟨ro, hro, rfl⟩
      · skip
        refine lv_iload_n hx hb dX3_pieces_0 rfl (lv_at hl 1 rfl) ?_
        refine g_callS (As := [.int (nI ch)]) (rest := []) ⟨hx, hb, hml, hown, hw⟩ (mX3_kind l D cT n ad A hD G ch (by omega)) (va_cwS 1 hw (gWS wm_X3_51 wst_X3_kind wini_X3 wc_X3_kind) rfl rfl rfl (by decide +kernel) ⟨Nat.le_of_ble_eq_true rfl, Nat.le_of_ble_eq_true rfl⟩) hK hE hA hP hS rfl hl.1 (lv_room (Nat.le_of_ble_eq_true rfl)) dX3_pieces_1 ⟨Nat.le_of_ble_eq_true rfl, Nat.le_of_ble_eq_true rfl⟩ (fun v_2 G_1 H locs hp hP hS => ?_)
        obtain ⟨hv9, hg9⟩ := hp
        subst hv9
        rw [hg9] at hP
        refine t_eqi (-1) (if_pos hkd) ?_
        refine lv_istore (lv' := [(4, .int (-1)), (0, .ref (ad 69)), (1, .int (nI ch)), (2, .int x), (3, .int y)]) hx hb dX3_pieces_4 hl (by decide) rfl (fun ls hl => ?_)
        refine lv_aload_n hx hb dX3_pieces_6 rfl (lv_at hl 1 rfl) ?_
        refine lv_iload hx hb dX3_pieces_7 (lv_at hl 0 rfl) ?_
        refine lv_if_lt (tgt := 23) hx hb dX3_pieces_9 (by decide) (fun h9 => ?_) (fun h9 => absurd (by decide) h9)
        refine lv_iconst (v := nI 0) hx hb dX3_pieces_23 (by decide) ?_
        refine lv_iload_n hx hb dX3_pieces_24 rfl (lv_at hl 3 rfl) ?_
        refine g_callS (As := [.int x]) (rest := [.int (nI 0), .ref (ad 69)]) ⟨hx, hb, hml, hown, hw⟩ (mX3_isRow l D cT n ad A hD G x) (va_cwS 1 hw (gWS wm_X3_59 wst_X3_isRow wini_X3 wc_X3_isRow) rfl rfl rfl (by decide +kernel) ⟨Nat.le_of_ble_eq_true rfl, Nat.le_of_ble_eq_true rfl⟩) hK hE hA hP hS rfl hl.1 (lv_room (Nat.le_of_ble_eq_true rfl)) dX3_pieces_25 ⟨Nat.le_of_ble_eq_true rfl, Nat.le_of_ble_eq_true rfl⟩ (fun v_4 G_3 H locs hp hP hS => ?_)
        obtain ⟨hv9, hg9⟩ := hp
        subst hv9
        rw [hg9] at hP
        refine t_eqi (nI 0) (congrArg nI (if_pos hrb)) ?_
        refine lv_iconst (v := nI 1) hx hb dX3_pieces_28 (by decide) ?_
        refine g_callV (As := [.int (nI 0), .int (nI 0), .int (nI 1)]) (rest := []) ⟨hx, hb, hml, hown, hw⟩ (mX3_can l D cT n ad A hD G hn th 0 0 1 (by decide) (by decide) (by decide) hC.1) (cwV 3 hw (gWV wm_X3_63 wi_X3_can wse_X3_can wini_X3 wc_X3_can) rfl rfl rfl (by decide +kernel) ⟨Nat.le_of_ble_eq_true rfl, Nat.le_of_ble_eq_true rfl⟩) hK hE hA hP hS (k := 69) (by omega) hC.1 rfl rfl hl.1 (lv_room (Nat.le_of_ble_eq_true rfl)) dX3_pieces_29 ⟨Nat.le_of_ble_eq_true rfl, Nat.le_of_ble_eq_true rfl⟩ (fun v_6 G_5 H locs hp hP hS => ?_)
        obtain ⟨rfl, hg_G_5, ho_G_5⟩ := hp
        have hc_7 : G_5 69 = .inr (5, [.ref (ad 70), .ref (ad 86), .ref (ad 90), .ref (ad 97), .ref (ad 98), .ref (ad 99), .ref (ad 106), .ref (ad 113), .int (nI 1)]) := hg_G_5
        have hc_8 : G_5 70 = aQ (cT 10) 3 (q3 ad) := (ho_G_5 _ (by omega)).trans hC.2.1
        have hc_9 : G_5 86 = aQ (cT 8) 3 (qS ad) := (ho_G_5 _ (by omega)).trans hC.2.2.2.2.1
        have hc_10 : G_5 90 = aQ (cT 7) 6 (qP ad) := (ho_G_5 _ (by omega)).trans hC.2.2.2.2.2.2.1
        have hc_11 : G_5 97 = aI cT 6 zf := (ho_G_5 _ (by omega)).trans hC.2.2.2.2.2.2.2.2.1
        have hc_12 : G_5 98 = aZ cT 6 xf := (ho_G_5 _ (by omega)).trans hC.2.2.2.2.2.2.2.2.2.1
        have hc_13 : G_5 99 = aQ (cT 9) 6 (qK ad) := (ho_G_5 _ (by omega)).trans hC.2.2.2.2.2.2.2.2.2.2.1
        have hc_14 : G_5 106 = aQ (cT 8) 6 (qL ad) := (ho_G_5 _ (by omega)).trans hC.2.2.2.2.2.2.2.2.2.2.2.2.1
        have hc_15 : G_5 113 = aI cT 6 mf := (ho_G_5 _ (by omega)).trans hC.2.2.2.2.2.2.2.2.2.2.2.2.2.2.1
        have hfr_16 : ∀ j, (j ≠ 69) → G_5 j = G j := fun j hj => (ho_G_5 j (by omega)).trans (rfl)
        refine t_eqi (nI 0) rfl ?_
        refine t_if_ne (tgt := 37) hx hb dX3_pieces_32 (by decide) (by omega) (fun c_17 => absurd c_17 (by omega)) (fun c_17 => ?_)
        refine lv_iconst (v := nI 0) hx hb dX3_pieces_35 (by decide) ?_
        refine g_ret hQ hx hb hr hlocks rfl hP hS (⟨⟨⟨_, rfl⟩, by rw [show cd [xIA, xIO] xIA = 1 from by decide +kernel]; exact MW.same hC hMA hc_7 (fun j9 _ _ hj9 => hfr_16 j9 hj9)⟩, fun j hj => hfr_16 j (by omega)⟩) (Nat.le_of_ble_eq_true rfl) (Nat.le_of_ble_eq_true rfl) dX3_pieces_36
      · skip
        refine lv_iload_n hx hb dX3_pieces_0 rfl (lv_at hl 1 rfl) ?_
        refine g_callS (As := [.int (nI ch)]) (rest := []) ⟨hx, hb, hml, hown, hw⟩ (mX3_kind l D cT n ad A hD G ch (by omega)) (va_cwS 1 hw (gWS wm_X3_51 wst_X3_kind wini_X3 wc_X3_kind) rfl rfl rfl (by decide +kernel) ⟨Nat.le_of_ble_eq_true rfl, Nat.le_of_ble_eq_true rfl⟩) hK hE hA hP hS rfl hl.1 (lv_room (Nat.le_of_ble_eq_true rfl)) dX3_pieces_1 ⟨Nat.le_of_ble_eq_true rfl, Nat.le_of_ble_eq_true rfl⟩ (fun v_19 G_18 H locs hp hP hS => ?_)
        obtain ⟨hv9, hg9⟩ := hp
        subst hv9
        rw [hg9] at hP
        refine t_eqi (-1) (if_pos hkd) ?_
        refine lv_istore (lv' := [(4, .int (-1)), (0, .ref (ad 69)), (1, .int (nI ch)), (2, .int (nI ro)), (3, .int y)]) hx hb dX3_pieces_4 hl (by decide) rfl (fun ls hl => ?_)
        refine lv_aload_n hx hb dX3_pieces_6 rfl (lv_at hl 1 rfl) ?_
        refine lv_iload hx hb dX3_pieces_7 (lv_at hl 0 rfl) ?_
        refine lv_if_lt (tgt := 23) hx hb dX3_pieces_9 (by decide) (fun h9 => ?_) (fun h9 => absurd (by decide) h9)
        refine lv_iconst (v := nI 0) hx hb dX3_pieces_23 (by decide) ?_
        refine lv_iload_n hx hb dX3_pieces_24 rfl (lv_at hl 3 rfl) ?_
        refine g_callS (As := [.int (nI ro)]) (rest := [.int (nI 0), .ref (ad 69)]) ⟨hx, hb, hml, hown, hw⟩ (mX3_isRow l D cT n ad A hD G (nI ro)) (va_cwS 1 hw (gWS wm_X3_59 wst_X3_isRow wini_X3 wc_X3_isRow) rfl rfl rfl (by decide +kernel) ⟨Nat.le_of_ble_eq_true rfl, Nat.le_of_ble_eq_true rfl⟩) hK hE hA hP hS rfl hl.1 (lv_room (Nat.le_of_ble_eq_true rfl)) dX3_pieces_25 ⟨Nat.le_of_ble_eq_true rfl, Nat.le_of_ble_eq_true rfl⟩ (fun v_21 G_20 H locs hp hP hS => ?_)
        obtain ⟨hv9, hg9⟩ := hp
        subst hv9
        rw [hg9] at hP
        refine t_eqi (nI 1) (congrArg nI (if_neg (ix_ok (by omega) (by decide)))) ?_
        refine lv_iconst (v := nI 1) hx hb dX3_pieces_28 (by decide) ?_
        refine g_callV (As := [.int (nI 0), .int (nI 1), .int (nI 1)]) (rest := []) ⟨hx, hb, hml, hown, hw⟩ (mX3_can l D cT n ad A hD G hn th 0 1 1 (by decide) (by decide) (by decide) hC.1) (cwV 3 hw (gWV wm_X3_63 wi_X3_can wse_X3_can wini_X3 wc_X3_can) rfl rfl rfl (by decide +kernel) ⟨Nat.le_of_ble_eq_true rfl, Nat.le_of_ble_eq_true rfl⟩) hK hE hA hP hS (k := 69) (by omega) hC.1 rfl rfl hl.1 (lv_room (Nat.le_of_ble_eq_true rfl)) dX3_pieces_29 ⟨Nat.le_of_ble_eq_true rfl, Nat.le_of_ble_eq_true rfl⟩ (fun v_23 G_22 H locs hp hP hS => ?_)
        obtain ⟨rfl, hg_G_22, ho_G_22⟩ := hp
        have hc_24 : G_22 69 = .inr (5, [.ref (ad 70), .ref (ad 86), .ref (ad 90), .ref (ad 97), .ref (ad 98), .ref (ad 99), .ref (ad 106), .ref (ad 113), .int (nI 1)]) := hg_G_22
        have hc_25 : G_22 70 = aQ (cT 10) 3 (q3 ad) := (ho_G_22 _ (by omega)).trans hC.2.1
        have hc_26 : G_22 86 = aQ (cT 8) 3 (qS ad) := (ho_G_22 _ (by omega)).trans hC.2.2.2.2.1
        have hc_27 : G_22 90 = aQ (cT 7) 6 (qP ad) := (ho_G_22 _ (by omega)).trans hC.2.2.2.2.2.2.1
        have hc_28 : G_22 97 = aI cT 6 zf := (ho_G_22 _ (by omega)).trans hC.2.2.2.2.2.2.2.2.1
        have hc_29 : G_22 98 = aZ cT 6 xf := (ho_G_22 _ (by omega)).trans hC.2.2.2.2.2.2.2.2.2.1
        have hc_30 : G_22 99 = aQ (cT 9) 6 (qK ad) := (ho_G_22 _ (by omega)).trans hC.2.2.2.2.2.2.2.2.2.2.1
        have hc_31 : G_22 106 = aQ (cT 8) 6 (qL ad) := (ho_G_22 _ (by omega)).trans hC.2.2.2.2.2.2.2.2.2.2.2.2.1
        have hc_32 : G_22 113 = aI cT 6 mf := (ho_G_22 _ (by omega)).trans hC.2.2.2.2.2.2.2.2.2.2.2.2.2.2.1
        have hfr_33 : ∀ j, (j ≠ 69) → G_22 j = G j := fun j hj => (ho_G_22 j (by omega)).trans (rfl)
        refine t_eqi (nI 0) rfl ?_
        refine t_if_ne (tgt := 37) hx hb dX3_pieces_32 (by decide) (by omega) (fun c_34 => absurd c_34 (by omega)) (fun c_34 => ?_)
        refine lv_iconst (v := nI 0) hx hb dX3_pieces_35 (by decide) ?_
        refine g_ret hQ hx hb hr hlocks rfl hP hS (⟨⟨⟨_, rfl⟩, by rw [show cd [xIA, xIO] xIA = 1 from by decide +kernel]; exact MW.same hC hMA hc_24 (fun j9 _ _ hj9 => hfr_33 j9 hj9)⟩, fun j hj => hfr_33 j (by omega)⟩) (Nat.le_of_ble_eq_true rfl) (Nat.le_of_ble_eq_true rfl) dX3_pieces_36
    · skip
      obtain ⟨q, hkq⟩ : ∃ q, kdx ch = q := ⟨_, rfl⟩
      have hkl9 := kdx_le ch
      have hq : q < 3 := by omega
      rcases ix_cases x (N := 4) (by decide) with hrb | ⟨ro, hro, rfl⟩
      · skip
        refine lv_iload_n hx hb dX3_pieces_0 rfl (lv_at hl 1 rfl) ?_
        refine g_callS (As := [.int (nI ch)]) (rest := []) ⟨hx, hb, hml, hown, hw⟩ (mX3_kind l D cT n ad A hD G ch (by omega)) (va_cwS 1 hw (gWS wm_X3_51 wst_X3_kind wini_X3 wc_X3_kind) rfl rfl rfl (by decide +kernel) ⟨Nat.le_of_ble_eq_true rfl, Nat.le_of_ble_eq_true rfl⟩) hK hE hA hP hS rfl hl.1 (lv_room (Nat.le_of_ble_eq_true rfl)) dX3_pieces_1 ⟨Nat.le_of_ble_eq_true rfl, Nat.le_of_ble_eq_true rfl⟩ (fun v_36 G_35 H locs hp hP hS => ?_)
        obtain ⟨hv9, hg9⟩ := hp
        subst hv9
        rw [hg9] at hP
        refine t_eqi (nI q) ((if_neg (by omega)).trans (congrArg nI hkq)) ?_
        refine lv_istore (lv' := [(4, .int (nI q)), (0, .ref (ad 69)), (1, .int (nI ch)), (2, .int x), (3, .int y)]) hx hb dX3_pieces_4 hl (by decide) rfl (fun ls hl => ?_)
        refine lv_aload_n hx hb dX3_pieces_6 rfl (lv_at hl 1 rfl) ?_
        refine lv_iload hx hb dX3_pieces_7 (lv_at hl 0 rfl) ?_
        refine t_if_lt (tgt := 23) hx hb dX3_pieces_9 (by decide) (by omega) ?_
        refine lv_iload_n hx hb dX3_pieces_12 rfl (lv_at hl 4 rfl) ?_
        refine g_callS (As := [.int y]) (rest := [.ref (ad 69)]) ⟨hx, hb, hml, hown, hw⟩ (mX3_isMost l D cT n ad A hD G y) (va_cwS 1 hw (gWS wm_X3_93 wst_X3_isMost wini_X3 wc_X3_isMost) rfl rfl rfl (by decide +kernel) ⟨Nat.le_of_ble_eq_true rfl, Nat.le_of_ble_eq_true rfl⟩) hK hE hA hP hS rfl hl.1 (lv_room (Nat.le_of_ble_eq_true rfl)) dX3_pieces_13 ⟨Nat.le_of_ble_eq_true rfl, Nat.le_of_ble_eq_true rfl⟩ (fun v_39 G_38 H locs hp hP hS => ?_)
        obtain ⟨hv9, hg9⟩ := hp
        subst hv9
        rw [hg9] at hP
        refine t_eqi (nI 0) (congrArg nI (if_pos hyb)) ?_
        refine t_if_eq (tgt := 23) hx hb dX3_pieces_16 (by decide) (by omega) (fun c_40 => ?_) (fun c_40 => absurd c_40 (by omega))
        refine lv_iconst (v := nI 0) hx hb dX3_pieces_23 (by decide) ?_
        refine lv_iload_n hx hb dX3_pieces_24 rfl (lv_at hl 3 rfl) ?_
        refine g_callS (As := [.int x]) (rest := [.int (nI 0), .ref (ad 69)]) ⟨hx, hb, hml, hown, hw⟩ (mX3_isRow l D cT n ad A hD G x) (va_cwS 1 hw (gWS wm_X3_59 wst_X3_isRow wini_X3 wc_X3_isRow) rfl rfl rfl (by decide +kernel) ⟨Nat.le_of_ble_eq_true rfl, Nat.le_of_ble_eq_true rfl⟩) hK hE hA hP hS rfl hl.1 (lv_room (Nat.le_of_ble_eq_true rfl)) dX3_pieces_25 ⟨Nat.le_of_ble_eq_true rfl, Nat.le_of_ble_eq_true rfl⟩ (fun v_42 G_41 H locs hp hP hS => ?_)
        obtain ⟨hv9, hg9⟩ := hp
        subst hv9
        rw [hg9] at hP
        refine t_eqi (nI 0) (congrArg nI (if_pos hrb)) ?_
        refine lv_iconst (v := nI 1) hx hb dX3_pieces_28 (by decide) ?_
        refine g_callV (As := [.int (nI 0), .int (nI 0), .int (nI 1)]) (rest := []) ⟨hx, hb, hml, hown, hw⟩ (mX3_can l D cT n ad A hD G hn th 0 0 1 (by decide) (by decide) (by decide) hC.1) (cwV 3 hw (gWV wm_X3_63 wi_X3_can wse_X3_can wini_X3 wc_X3_can) rfl rfl rfl (by decide +kernel) ⟨Nat.le_of_ble_eq_true rfl, Nat.le_of_ble_eq_true rfl⟩) hK hE hA hP hS (k := 69) (by omega) hC.1 rfl rfl hl.1 (lv_room (Nat.le_of_ble_eq_true rfl)) dX3_pieces_29 ⟨Nat.le_of_ble_eq_true rfl, Nat.le_of_ble_eq_true rfl⟩ (fun v_44 G_43 H locs hp hP hS => ?_)
        obtain ⟨rfl, hg_G_43, ho_G_43⟩ := hp
        have hc_45 : G_43 69 = .inr (5, [.ref (ad 70), .ref (ad 86), .ref (ad 90), .ref (ad 97), .ref (ad 98), .ref (ad 99), .ref (ad 106), .ref (ad 113), .int (nI 1)]) := hg_G_43
        have hc_46 : G_43 70 = aQ (cT 10) 3 (q3 ad) := (ho_G_43 _ (by omega)).trans hC.2.1
        have hc_47 : G_43 86 = aQ (cT 8) 3 (qS ad) := (ho_G_43 _ (by omega)).trans hC.2.2.2.2.1
        have hc_48 : G_43 90 = aQ (cT 7) 6 (qP ad) := (ho_G_43 _ (by omega)).trans hC.2.2.2.2.2.2.1
        have hc_49 : G_43 97 = aI cT 6 zf := (ho_G_43 _ (by omega)).trans hC.2.2.2.2.2.2.2.2.1
        have hc_50 : G_43 98 = aZ cT 6 xf := (ho_G_43 _ (by omega)).trans hC.2.2.2.2.2.2.2.2.2.1
        have hc_51 : G_43 99 = aQ (cT 9) 6 (qK ad) := (ho_G_43 _ (by omega)).trans hC.2.2.2.2.2.2.2.2.2.2.1
        have hc_52 : G_43 106 = aQ (cT 8) 6 (qL ad) := (ho_G_43 _ (by omega)).trans hC.2.2.2.2.2.2.2.2.2.2.2.2.1
        have hc_53 : G_43 113 = aI cT 6 mf := (ho_G_43 _ (by omega)).trans hC.2.2.2.2.2.2.2.2.2.2.2.2.2.2.1
        have hfr_54 : ∀ j, (j ≠ 69) → G_43 j = G j := fun j hj => (ho_G_43 j (by omega)).trans (rfl)
        refine t_eqi (nI 0) rfl ?_
        refine t_if_ne (tgt := 37) hx hb dX3_pieces_32 (by decide) (by omega) (fun c_55 => absurd c_55 (by omega)) (fun c_55 => ?_)
        refine lv_iconst (v := nI 0) hx hb dX3_pieces_35 (by decide) ?_
        refine g_ret hQ hx hb hr hlocks rfl hP hS (⟨⟨⟨_, rfl⟩, by rw [show cd [xIA, xIO] xIA = 1 from by decide +kernel]; exact MW.same hC hMA hc_45 (fun j9 _ _ hj9 => hfr_54 j9 hj9)⟩, fun j hj => hfr_54 j (by omega)⟩) (Nat.le_of_ble_eq_true rfl) (Nat.le_of_ble_eq_true rfl) dX3_pieces_36
      · skip
        obtain ⟨hsz, hrv⟩ := hMA.1 q (by omega) ro (by omega)
        have hrc := hI.1 (4 * q + ro) (by omega)
        refine lv_iload_n hx hb dX3_pieces_0 rfl (lv_at hl 1 rfl) ?_
        refine g_callS (As := [.int (nI ch)]) (rest := []) ⟨hx, hb, hml, hown, hw⟩ (mX3_kind l D cT n ad A hD G ch (by omega)) (va_cwS 1 hw (gWS wm_X3_51 wst_X3_kind wini_X3 wc_X3_kind) rfl rfl rfl (by decide +kernel) ⟨Nat.le_of_ble_eq_true rfl, Nat.le_of_ble_eq_true rfl⟩) hK hE hA hP hS rfl hl.1 (lv_room (Nat.le_of_ble_eq_true rfl)) dX3_pieces_1 ⟨Nat.le_of_ble_eq_true rfl, Nat.le_of_ble_eq_true rfl⟩ (fun v_57 G_56 H locs hp hP hS => ?_)
        obtain ⟨hv9, hg9⟩ := hp
        subst hv9
        rw [hg9] at hP
        refine t_eqi (nI q) ((if_neg (by omega)).trans (congrArg nI hkq)) ?_
        refine lv_istore (lv' := [(4, .int (nI q)), (0, .ref (ad 69)), (1, .int (nI ch)), (2, .int (nI ro)), (3, .int y)]) hx hb dX3_pieces_4 hl (by decide) rfl (fun ls hl => ?_)
        refine lv_aload_n hx hb dX3_pieces_6 rfl (lv_at hl 1 rfl) ?_
        refine lv_iload hx hb dX3_pieces_7 (lv_at hl 0 rfl) ?_
        refine t_if_lt (tgt := 23) hx hb dX3_pieces_9 (by decide) (by omega) ?_
        refine lv_iload_n hx hb dX3_pieces_12 rfl (lv_at hl 4 rfl) ?_
        refine g_callS (As := [.int y]) (rest := [.ref (ad 69)]) ⟨hx, hb, hml, hown, hw⟩ (mX3_isMost l D cT n ad A hD G y) (va_cwS 1 hw (gWS wm_X3_93 wst_X3_isMost wini_X3 wc_X3_isMost) rfl rfl rfl (by decide +kernel) ⟨Nat.le_of_ble_eq_true rfl, Nat.le_of_ble_eq_true rfl⟩) hK hE hA hP hS rfl hl.1 (lv_room (Nat.le_of_ble_eq_true rfl)) dX3_pieces_13 ⟨Nat.le_of_ble_eq_true rfl, Nat.le_of_ble_eq_true rfl⟩ (fun v_60 G_59 H locs hp hP hS => ?_)
        obtain ⟨hv9, hg9⟩ := hp
        subst hv9
        rw [hg9] at hP
        refine t_eqi (nI 0) (congrArg nI (if_pos hyb)) ?_
        refine t_if_eq (tgt := 23) hx hb dX3_pieces_16 (by decide) (by omega) (fun c_61 => ?_) (fun c_61 => absurd c_61 (by omega))
        refine lv_iconst (v := nI 0) hx hb dX3_pieces_23 (by decide) ?_
        refine lv_iload_n hx hb dX3_pieces_24 rfl (lv_at hl 3 rfl) ?_
        refine g_callS (As := [.int (nI ro)]) (rest := [.int (nI 0), .ref (ad 69)]) ⟨hx, hb, hml, hown, hw⟩ (mX3_isRow l D cT n ad A hD G (nI ro)) (va_cwS 1 hw (gWS wm_X3_59 wst_X3_isRow wini_X3 wc_X3_isRow) rfl rfl rfl (by decide +kernel) ⟨Nat.le_of_ble_eq_true rfl, Nat.le_of_ble_eq_true rfl⟩) hK hE hA hP hS rfl hl.1 (lv_room (Nat.le_of_ble_eq_true rfl)) dX3_pieces_25 ⟨Nat.le_of_ble_eq_true rfl, Nat.le_of_ble_eq_true rfl⟩ (fun v_63 G_62 H locs hp hP hS => ?_)
        obtain ⟨hv9, hg9⟩ := hp
        subst hv9
        rw [hg9] at hP
        refine t_eqi (nI 1) (congrArg nI (if_neg (ix_ok (by omega) (by decide)))) ?_
        refine lv_iconst (v := nI 1) hx hb dX3_pieces_28 (by decide) ?_
        refine g_callV (As := [.int (nI 0), .int (nI 1), .int (nI 1)]) (rest := []) ⟨hx, hb, hml, hown, hw⟩ (mX3_can l D cT n ad A hD G hn th 0 1 1 (by decide) (by decide) (by decide) hC.1) (cwV 3 hw (gWV wm_X3_63 wi_X3_can wse_X3_can wini_X3 wc_X3_can) rfl rfl rfl (by decide +kernel) ⟨Nat.le_of_ble_eq_true rfl, Nat.le_of_ble_eq_true rfl⟩) hK hE hA hP hS (k := 69) (by omega) hC.1 rfl rfl hl.1 (lv_room (Nat.le_of_ble_eq_true rfl)) dX3_pieces_29 ⟨Nat.le_of_ble_eq_true rfl, Nat.le_of_ble_eq_true rfl⟩ (fun v_65 G_64 H locs hp hP hS => ?_)
        obtain ⟨rfl, hg_G_64, ho_G_64⟩ := hp
        have hc_66 : G_64 69 = .inr (5, [.ref (ad 70), .ref (ad 86), .ref (ad 90), .ref (ad 97), .ref (ad 98), .ref (ad 99), .ref (ad 106), .ref (ad 113), .int (nI 1)]) := hg_G_64
        have hc_67 : G_64 70 = aQ (cT 10) 3 (q3 ad) := (ho_G_64 _ (by omega)).trans hC.2.1
        have hc_68 : G_64 86 = aQ (cT 8) 3 (qS ad) := (ho_G_64 _ (by omega)).trans hC.2.2.2.2.1
        have hc_69 : G_64 90 = aQ (cT 7) 6 (qP ad) := (ho_G_64 _ (by omega)).trans hC.2.2.2.2.2.2.1
        have hc_70 : G_64 97 = aI cT 6 zf := (ho_G_64 _ (by omega)).trans hC.2.2.2.2.2.2.2.2.1
        have hc_71 : G_64 98 = aZ cT 6 xf := (ho_G_64 _ (by omega)).trans hC.2.2.2.2.2.2.2.2.2.1
        have hc_72 : G_64 99 = aQ (cT 9) 6 (qK ad) := (ho_G_64 _ (by omega)).trans hC.2.2.2.2.2.2.2.2.2.2.1
        have hc_73 : G_64 106 = aQ (cT 8) 6 (qL ad) := (ho_G_64 _ (by omega)).trans hC.2.2.2.2.2.2.2.2.2.2.2.2.1
        have hc_74 : G_64 113 = aI cT 6 mf := (ho_G_64 _ (by omega)).trans hC.2.2.2.2.2.2.2.2.2.2.2.2.2.2.1
        have hc_75 : G_64 (71 + 5 * q) = aQ (cT 7) 4 (q4 ad q) := (ho_G_64 _ (by omega)).trans (hC.2.2.1 q (by omega))
        have hc_76 : G_64 (87 + q) = aI cT 4 (sf q) := (ho_G_64 _ (by omega)).trans (hC.2.2.2.2.2.1 q (by omega))
        have hc_77 : G_64 (72 + 5 * q + ro) = aJ cT 48 (rf q ro) := (ho_G_64 _ (by omega)).trans (hC.2.2.2.1 q (by omega) ro (by omega))
        have hfr_78 : ∀ j, (j ≠ 69) → G_64 j = G j := fun j hj => (ho_G_64 j (by omega)).trans (rfl)
        refine t_eqi (nI 0) rfl ?_
        refine t_if_ne (tgt := 37) hx hb dX3_pieces_32 (by decide) (by omega) (fun c_79 => absurd c_79 (by omega)) (fun c_79 => ?_)
        refine lv_iconst (v := nI 0) hx hb dX3_pieces_35 (by decide) ?_
        refine g_ret hQ hx hb hr hlocks rfl hP hS (⟨⟨⟨_, rfl⟩, by rw [show cd [xIA, xIO] xIA = 1 from by decide +kernel]; exact MW.same hC hMA hc_66 (fun j9 _ _ hj9 => hfr_78 j9 hj9)⟩, fun j hj => hfr_78 j (by omega)⟩) (Nat.le_of_ble_eq_true rfl) (Nat.le_of_ble_eq_true rfl) dX3_pieces_36
  · skip
    rcases hpx with ⟨hkd, rfl⟩ | ⟨hk3, hrb, rfl⟩
    · skip
      rcases ix_cases x (N := 4) (by decide) with hrb | ⟨ro, hro, rfl⟩
      · skip
        refine lv_iload_n hx hb dX3_pieces_0 rfl (lv_at hl 1 rfl) ?_
        refine g_callS (As := [.int (nI ch)]) (rest := []) ⟨hx, hb, hml, hown, hw⟩ (mX3_kind l D cT n ad A hD G ch (by omega)) (va_cwS 1 hw (gWS wm_X3_51 wst_X3_kind wini_X3 wc_X3_kind) rfl rfl rfl (by decide +kernel) ⟨Nat.le_of_ble_eq_true rfl, Nat.le_of_ble_eq_true rfl⟩) hK hE hA hP hS rfl hl.1 (lv_room (Nat.le_of_ble_eq_true rfl)) dX3_pieces_1 ⟨Nat.le_of_ble_eq_true rfl, Nat.le_of_ble_eq_true rfl⟩ (fun v_81 G_80 H locs hp hP hS => ?_)
        obtain ⟨hv9, hg9⟩ := hp
        subst hv9
        rw [hg9] at hP
        refine t_eqi (-1) (if_pos hkd) ?_
        refine lv_istore (lv' := [(4, .int (-1)), (0, .ref (ad 69)), (1, .int (nI ch)), (2, .int x), (3, .int (nI mo))]) hx hb dX3_pieces_4 hl (by decide) rfl (fun ls hl => ?_)
        refine lv_aload_n hx hb dX3_pieces_6 rfl (lv_at hl 1 rfl) ?_
        refine lv_iload hx hb dX3_pieces_7 (lv_at hl 0 rfl) ?_
        refine lv_if_lt (tgt := 23) hx hb dX3_pieces_9 (by decide) (fun h9 => ?_) (fun h9 => absurd (by decide) h9)
        refine lv_iconst (v := nI 0) hx hb dX3_pieces_23 (by decide) ?_
        refine lv_iload_n hx hb dX3_pieces_24 rfl (lv_at hl 3 rfl) ?_
        refine g_callS (As := [.int x]) (rest := [.int (nI 0), .ref (ad 69)]) ⟨hx, hb, hml, hown, hw⟩ (mX3_isRow l D cT n ad A hD G x) (va_cwS 1 hw (gWS wm_X3_59 wst_X3_isRow wini_X3 wc_X3_isRow) rfl rfl rfl (by decide +kernel) ⟨Nat.le_of_ble_eq_true rfl, Nat.le_of_ble_eq_true rfl⟩) hK hE hA hP hS rfl hl.1 (lv_room (Nat.le_of_ble_eq_true rfl)) dX3_pieces_25 ⟨Nat.le_of_ble_eq_true rfl, Nat.le_of_ble_eq_true rfl⟩ (fun v_83 G_82 H locs hp hP hS => ?_)
        obtain ⟨hv9, hg9⟩ := hp
        subst hv9
        rw [hg9] at hP
        refine t_eqi (nI 0) (congrArg nI (if_pos hrb)) ?_
        refine lv_iconst (v := nI 1) hx hb dX3_pieces_28 (by decide) ?_
        refine g_callV (As := [.int (nI 0), .int (nI 0), .int (nI 1)]) (rest := []) ⟨hx, hb, hml, hown, hw⟩ (mX3_can l D cT n ad A hD G hn th 0 0 1 (by decide) (by decide) (by decide) hC.1) (cwV 3 hw (gWV wm_X3_63 wi_X3_can wse_X3_can wini_X3 wc_X3_can) rfl rfl rfl (by decide +kernel) ⟨Nat.le_of_ble_eq_true rfl, Nat.le_of_ble_eq_true rfl⟩) hK hE hA hP hS (k := 69) (by omega) hC.1 rfl rfl hl.1 (lv_room (Nat.le_of_ble_eq_true rfl)) dX3_pieces_29 ⟨Nat.le_of_ble_eq_true rfl, Nat.le_of_ble_eq_true rfl⟩ (fun v_85 G_84 H locs hp hP hS => ?_)
        obtain ⟨rfl, hg_G_84, ho_G_84⟩ := hp
        have hc_86 : G_84 69 = .inr (5, [.ref (ad 70), .ref (ad 86), .ref (ad 90), .ref (ad 97), .ref (ad 98), .ref (ad 99), .ref (ad 106), .ref (ad 113), .int (nI 1)]) := hg_G_84
        have hc_87 : G_84 70 = aQ (cT 10) 3 (q3 ad) := (ho_G_84 _ (by omega)).trans hC.2.1
        have hc_88 : G_84 86 = aQ (cT 8) 3 (qS ad) := (ho_G_84 _ (by omega)).trans hC.2.2.2.2.1
        have hc_89 : G_84 90 = aQ (cT 7) 6 (qP ad) := (ho_G_84 _ (by omega)).trans hC.2.2.2.2.2.2.1
        have hc_90 : G_84 97 = aI cT 6 zf := (ho_G_84 _ (by omega)).trans hC.2.2.2.2.2.2.2.2.1
        have hc_91 : G_84 98 = aZ cT 6 xf := (ho_G_84 _ (by omega)).trans hC.2.2.2.2.2.2.2.2.2.1
        have hc_92 : G_84 99 = aQ (cT 9) 6 (qK ad) := (ho_G_84 _ (by omega)).trans hC.2.2.2.2.2.2.2.2.2.2.1
        have hc_93 : G_84 106 = aQ (cT 8) 6 (qL ad) := (ho_G_84 _ (by omega)).trans hC.2.2.2.2.2.2.2.2.2.2.2.2.1
        have hc_94 : G_84 113 = aI cT 6 mf := (ho_G_84 _ (by omega)).trans hC.2.2.2.2.2.2.2.2.2.2.2.2.2.2.1
        have hfr_95 : ∀ j, (j ≠ 69) → G_84 j = G j := fun j hj => (ho_G_84 j (by omega)).trans (rfl)
        refine t_eqi (nI 0) rfl ?_
        refine t_if_ne (tgt := 37) hx hb dX3_pieces_32 (by decide) (by omega) (fun c_96 => absurd c_96 (by omega)) (fun c_96 => ?_)
        refine lv_iconst (v := nI 0) hx hb dX3_pieces_35 (by decide) ?_
        refine g_ret hQ hx hb hr hlocks rfl hP hS (⟨⟨⟨_, rfl⟩, by rw [show cd [xIA, xIO] xIA = 1 from by decide +kernel]; exact MW.same hC hMA hc_86 (fun j9 _ _ hj9 => hfr_95 j9 hj9)⟩, fun j hj => hfr_95 j (by omega)⟩) (Nat.le_of_ble_eq_true rfl) (Nat.le_of_ble_eq_true rfl) dX3_pieces_36
      · skip
        refine lv_iload_n hx hb dX3_pieces_0 rfl (lv_at hl 1 rfl) ?_
        refine g_callS (As := [.int (nI ch)]) (rest := []) ⟨hx, hb, hml, hown, hw⟩ (mX3_kind l D cT n ad A hD G ch (by omega)) (va_cwS 1 hw (gWS wm_X3_51 wst_X3_kind wini_X3 wc_X3_kind) rfl rfl rfl (by decide +kernel) ⟨Nat.le_of_ble_eq_true rfl, Nat.le_of_ble_eq_true rfl⟩) hK hE hA hP hS rfl hl.1 (lv_room (Nat.le_of_ble_eq_true rfl)) dX3_pieces_1 ⟨Nat.le_of_ble_eq_true rfl, Nat.le_of_ble_eq_true rfl⟩ (fun v_98 G_97 H locs hp hP hS => ?_)
        obtain ⟨hv9, hg9⟩ := hp
        subst hv9
        rw [hg9] at hP
        refine t_eqi (-1) (if_pos hkd) ?_
        refine lv_istore (lv' := [(4, .int (-1)), (0, .ref (ad 69)), (1, .int (nI ch)), (2, .int (nI ro)), (3, .int (nI mo))]) hx hb dX3_pieces_4 hl (by decide) rfl (fun ls hl => ?_)
        refine lv_aload_n hx hb dX3_pieces_6 rfl (lv_at hl 1 rfl) ?_
        refine lv_iload hx hb dX3_pieces_7 (lv_at hl 0 rfl) ?_
        refine lv_if_lt (tgt := 23) hx hb dX3_pieces_9 (by decide) (fun h9 => ?_) (fun h9 => absurd (by decide) h9)
        refine lv_iconst (v := nI 0) hx hb dX3_pieces_23 (by decide) ?_
        refine lv_iload_n hx hb dX3_pieces_24 rfl (lv_at hl 3 rfl) ?_
        refine g_callS (As := [.int (nI ro)]) (rest := [.int (nI 0), .ref (ad 69)]) ⟨hx, hb, hml, hown, hw⟩ (mX3_isRow l D cT n ad A hD G (nI ro)) (va_cwS 1 hw (gWS wm_X3_59 wst_X3_isRow wini_X3 wc_X3_isRow) rfl rfl rfl (by decide +kernel) ⟨Nat.le_of_ble_eq_true rfl, Nat.le_of_ble_eq_true rfl⟩) hK hE hA hP hS rfl hl.1 (lv_room (Nat.le_of_ble_eq_true rfl)) dX3_pieces_25 ⟨Nat.le_of_ble_eq_true rfl, Nat.le_of_ble_eq_true rfl⟩ (fun v_100 G_99 H locs hp hP hS => ?_)
        obtain ⟨hv9, hg9⟩ := hp
        subst hv9
        rw [hg9] at hP
        refine t_eqi (nI 1) (congrArg nI (if_neg (ix_ok (by omega) (by decide)))) ?_
        refine lv_iconst (v := nI 1) hx hb dX3_pieces_28 (by decide) ?_
        refine g_callV (As := [.int (nI 0), .int (nI 1), .int (nI 1)]) (rest := []) ⟨hx, hb, hml, hown, hw⟩ (mX3_can l D cT n ad A hD G hn th 0 1 1 (by decide) (by decide) (by decide) hC.1) (cwV 3 hw (gWV wm_X3_63 wi_X3_can wse_X3_can wini_X3 wc_X3_can) rfl rfl rfl (by decide +kernel) ⟨Nat.le_of_ble_eq_true rfl, Nat.le_of_ble_eq_true rfl⟩) hK hE hA hP hS (k := 69) (by omega) hC.1 rfl rfl hl.1 (lv_room (Nat.le_of_ble_eq_true rfl)) dX3_pieces_29 ⟨Nat.le_of_ble_eq_true rfl, Nat.le_of_ble_eq_true rfl⟩ (fun v_102 G_101 H locs hp hP hS => ?_)
        obtain ⟨rfl, hg_G_101, ho_G_101⟩ := hp
        have hc_103 : G_101 69 = .inr (5, [.ref (ad 70), .ref (ad 86), .ref (ad 90), .ref (ad 97), .ref (ad 98), .ref (ad 99), .ref (ad 106), .ref (ad 113), .int (nI 1)]) := hg_G_101
        have hc_104 : G_101 70 = aQ (cT 10) 3 (q3 ad) := (ho_G_101 _ (by omega)).trans hC.2.1
        have hc_105 : G_101 86 = aQ (cT 8) 3 (qS ad) := (ho_G_101 _ (by omega)).trans hC.2.2.2.2.1
        have hc_106 : G_101 90 = aQ (cT 7) 6 (qP ad) := (ho_G_101 _ (by omega)).trans hC.2.2.2.2.2.2.1
        have hc_107 : G_101 97 = aI cT 6 zf := (ho_G_101 _ (by omega)).trans hC.2.2.2.2.2.2.2.2.1
        have hc_108 : G_101 98 = aZ cT 6 xf := (ho_G_101 _ (by omega)).trans hC.2.2.2.2.2.2.2.2.2.1
        have hc_109 : G_101 99 = aQ (cT 9) 6 (qK ad) := (ho_G_101 _ (by omega)).trans hC.2.2.2.2.2.2.2.2.2.2.1
        have hc_110 : G_101 106 = aQ (cT 8) 6 (qL ad) := (ho_G_101 _ (by omega)).trans hC.2.2.2.2.2.2.2.2.2.2.2.2.1
        have hc_111 : G_101 113 = aI cT 6 mf := (ho_G_101 _ (by omega)).trans hC.2.2.2.2.2.2.2.2.2.2.2.2.2.2.1
        have hfr_112 : ∀ j, (j ≠ 69) → G_101 j = G j := fun j hj => (ho_G_101 j (by omega)).trans (rfl)
        refine t_eqi (nI 0) rfl ?_
        refine t_if_ne (tgt := 37) hx hb dX3_pieces_32 (by decide) (by omega) (fun c_113 => absurd c_113 (by omega)) (fun c_113 => ?_)
        refine lv_iconst (v := nI 0) hx hb dX3_pieces_35 (by decide) ?_
        refine g_ret hQ hx hb hr hlocks rfl hP hS (⟨⟨⟨_, rfl⟩, by rw [show cd [xIA, xIO] xIA = 1 from by decide +kernel]; exact MW.same hC hMA hc_103 (fun j9 _ _ hj9 => hfr_112 j9 hj9)⟩, fun j hj => hfr_112 j (by omega)⟩) (Nat.le_of_ble_eq_true rfl) (Nat.le_of_ble_eq_true rfl) dX3_pieces_36
    · skip
      obtain ⟨q, hkq⟩ : ∃ q, kdx ch = q := ⟨_, rfl⟩
      have hkl9 := kdx_le ch
      have hq : q < 3 := by omega
      refine lv_iload_n hx hb dX3_pieces_0 rfl (lv_at hl 1 rfl) ?_
      refine g_callS (As := [.int (nI ch)]) (rest := []) ⟨hx, hb, hml, hown, hw⟩ (mX3_kind l D cT n ad A hD G ch (by omega)) (va_cwS 1 hw (gWS wm_X3_51 wst_X3_kind wini_X3 wc_X3_kind) rfl rfl rfl (by decide +kernel) ⟨Nat.le_of_ble_eq_true rfl, Nat.le_of_ble_eq_true rfl⟩) hK hE hA hP hS rfl hl.1 (lv_room (Nat.le_of_ble_eq_true rfl)) dX3_pieces_1 ⟨Nat.le_of_ble_eq_true rfl, Nat.le_of_ble_eq_true rfl⟩ (fun v_115 G_114 H locs hp hP hS => ?_)
      obtain ⟨hv9, hg9⟩ := hp
      subst hv9
      rw [hg9] at hP
      refine t_eqi (nI q) ((if_neg (by omega)).trans (congrArg nI hkq)) ?_
      refine lv_istore (lv' := [(4, .int (nI q)), (0, .ref (ad 69)), (1, .int (nI ch)), (2, .int x), (3, .int (nI mo))]) hx hb dX3_pieces_4 hl (by decide) rfl (fun ls hl => ?_)
      refine lv_aload_n hx hb dX3_pieces_6 rfl (lv_at hl 1 rfl) ?_
      refine lv_iload hx hb dX3_pieces_7 (lv_at hl 0 rfl) ?_
      refine t_if_lt (tgt := 23) hx hb dX3_pieces_9 (by decide) (by omega) ?_
      refine lv_iload_n hx hb dX3_pieces_12 rfl (lv_at hl 4 rfl) ?_
      refine g_callS (As := [.int (nI mo)]) (rest := [.ref (ad 69)]) ⟨hx, hb, hml, hown, hw⟩ (mX3_isMost l D cT n ad A hD G (nI mo)) (va_cwS 1 hw (gWS wm_X3_93 wst_X3_isMost wini_X3 wc_X3_isMost) rfl rfl rfl (by decide +kernel) ⟨Nat.le_of_ble_eq_true rfl, Nat.le_of_ble_eq_true rfl⟩) hK hE hA hP hS rfl hl.1 (lv_room (Nat.le_of_ble_eq_true rfl)) dX3_pieces_13 ⟨Nat.le_of_ble_eq_true rfl, Nat.le_of_ble_eq_true rfl⟩ (fun v_118 G_117 H locs hp hP hS => ?_)
      obtain ⟨hv9, hg9⟩ := hp
      subst hv9
      rw [hg9] at hP
      refine t_eqi (nI 1) (congrArg nI (if_neg (mo_ok (by omega) (by omega)))) ?_
      refine t_if_eq (tgt := 23) hx hb dX3_pieces_16 (by decide) (by omega) (fun c_119 => absurd c_119 (by omega)) (fun c_119 => ?_)
      refine lv_iconst (v := nI 1) hx hb dX3_pieces_19 (by decide) ?_
      refine lv_goto (tgt := 24) hx hb dX3_pieces_20 (by decide) ?_
      refine lv_iload_n hx hb dX3_pieces_24 rfl (lv_at hl 3 rfl) ?_
      refine g_callS (As := [.int x]) (rest := [.int (nI 1), .ref (ad 69)]) ⟨hx, hb, hml, hown, hw⟩ (mX3_isRow l D cT n ad A hD G x) (va_cwS 1 hw (gWS wm_X3_59 wst_X3_isRow wini_X3 wc_X3_isRow) rfl rfl rfl (by decide +kernel) ⟨Nat.le_of_ble_eq_true rfl, Nat.le_of_ble_eq_true rfl⟩) hK hE hA hP hS rfl hl.1 (lv_room (Nat.le_of_ble_eq_true rfl)) dX3_pieces_25 ⟨Nat.le_of_ble_eq_true rfl, Nat.le_of_ble_eq_true rfl⟩ (fun v_121 G_120 H locs hp hP hS => ?_)
      obtain ⟨hv9, hg9⟩ := hp
      subst hv9
      rw [hg9] at hP
      refine t_eqi (nI 0) (congrArg nI (if_pos hrb)) ?_
      refine lv_iconst (v := nI 1) hx hb dX3_pieces_28 (by decide) ?_
      refine g_callV (As := [.int (nI 1), .int (nI 0), .int (nI 1)]) (rest := []) ⟨hx, hb, hml, hown, hw⟩ (mX3_can l D cT n ad A hD G hn th 1 0 1 (by decide) (by decide) (by decide) hC.1) (cwV 3 hw (gWV wm_X3_63 wi_X3_can wse_X3_can wini_X3 wc_X3_can) rfl rfl rfl (by decide +kernel) ⟨Nat.le_of_ble_eq_true rfl, Nat.le_of_ble_eq_true rfl⟩) hK hE hA hP hS (k := 69) (by omega) hC.1 rfl rfl hl.1 (lv_room (Nat.le_of_ble_eq_true rfl)) dX3_pieces_29 ⟨Nat.le_of_ble_eq_true rfl, Nat.le_of_ble_eq_true rfl⟩ (fun v_123 G_122 H locs hp hP hS => ?_)
      obtain ⟨rfl, hg_G_122, ho_G_122⟩ := hp
      have hc_124 : G_122 69 = .inr (5, [.ref (ad 70), .ref (ad 86), .ref (ad 90), .ref (ad 97), .ref (ad 98), .ref (ad 99), .ref (ad 106), .ref (ad 113), .int (nI 2)]) := hg_G_122
      have hc_125 : G_122 70 = aQ (cT 10) 3 (q3 ad) := (ho_G_122 _ (by omega)).trans hC.2.1
      have hc_126 : G_122 86 = aQ (cT 8) 3 (qS ad) := (ho_G_122 _ (by omega)).trans hC.2.2.2.2.1
      have hc_127 : G_122 90 = aQ (cT 7) 6 (qP ad) := (ho_G_122 _ (by omega)).trans hC.2.2.2.2.2.2.1
      have hc_128 : G_122 97 = aI cT 6 zf := (ho_G_122 _ (by omega)).trans hC.2.2.2.2.2.2.2.2.1
      have hc_129 : G_122 98 = aZ cT 6 xf := (ho_G_122 _ (by omega)).trans hC.2.2.2.2.2.2.2.2.2.1
      have hc_130 : G_122 99 = aQ (cT 9) 6 (qK ad) := (ho_G_122 _ (by omega)).trans hC.2.2.2.2.2.2.2.2.2.2.1
      have hc_131 : G_122 106 = aQ (cT 8) 6 (qL ad) := (ho_G_122 _ (by omega)).trans hC.2.2.2.2.2.2.2.2.2.2.2.2.1
      have hc_132 : G_122 113 = aI cT 6 mf := (ho_G_122 _ (by omega)).trans hC.2.2.2.2.2.2.2.2.2.2.2.2.2.2.1
      have hfr_133 : ∀ j, (j ≠ 69) → G_122 j = G j := fun j hj => (ho_G_122 j (by omega)).trans (rfl)
      refine t_eqi (nI 0) rfl ?_
      refine t_if_ne (tgt := 37) hx hb dX3_pieces_32 (by decide) (by omega) (fun c_134 => absurd c_134 (by omega)) (fun c_134 => ?_)
      refine lv_iconst (v := nI 0) hx hb dX3_pieces_35 (by decide) ?_
      refine g_ret hQ hx hb hr hlocks rfl hP hS (⟨⟨⟨_, rfl⟩, by rw [show cd [xIA, xIO] xIO = 2 from by decide +kernel]; exact MW.same hC hMA hc_124 (fun j9 _ _ hj9 => hfr_133 j9 hj9)⟩, fun j hj => hfr_133 j (by omega)⟩) (Nat.le_of_ble_eq_true rfl) (Nat.le_of_ble_eq_true rfl) dX3_pieces_36

set_option maxHeartbeats 4000000 in
set_option maxRecDepth 100000 in
theorem mX3_turn_no (l : Launch) (D : va_G) (cT : Nat → ClassId) (n : Nat) (ad : Nat → Nat) (A : Nat → Prop) (hD : ∀ G, va_D A (gw n ad G)) (G : Nat → va_E) (hn : 114 ≤ n) (σ : TY) (hI : YI σ) (th : Nat) (hM : MW cT ad G σ th) (ch : Nat) (hch : ch < 65536) (x : Int32) (E : String) (hpx : pxRow ch x E) : Met l yX3_turn (wA yX3_turn cX3_turn 7 (some .int)) ({ frames := 1, cells := 0, slots := 0, locals := 23 } : Room) (PG D cT n ad A G [.ref (ad 69), .int (nI ch), .int x]) (QG D n ad A (fun v G1 => ((∃ z, v = some (.int z)) ∧ MW cT ad G1 σ (cd [xIA, xIO] E)) ∧ ∀ j, (j < 69 ∨ 114 ≤ j) → G1 j = G j)) 0 0 A := by
  refine Met.ofG (cc := cX3_turn) (maxL := 7) (ret := (some .int)) (by decide) (Nat.le_of_ble_eq_true rfl) ?_
  intro p e s m args below meth c Q hQ hx hb hr hml hlocks hown hw hP hK hE hA hS ls hl
  have hl : lv_has ls 7 [(0, .ref (ad 69)), (1, .int (nI ch)), (2, .int x)] := hl
  obtain ⟨rf, sf, pf, zf, xf, kf, lf, mf, hC, hMA⟩ := hM
  rcases hpx with ⟨hkd, rfl⟩ | ⟨hk3, hrb, rfl⟩
  · skip
    rcases ix_cases x (N := 4) (by decide) with hrb | ⟨ro, hro, rfl⟩
    · skip
      refine lv_iload_n hx hb dX3_turn_0 rfl (lv_at hl 1 rfl) ?_
      refine g_callS (As := [.int (nI ch)]) (rest := []) ⟨hx, hb, hml, hown, hw⟩ (mX3_kind l D cT n ad A hD G ch (by omega)) (va_cwS 1 hw (gWS wm_X3_51 wst_X3_kind wini_X3 wc_X3_kind) rfl rfl rfl (by decide +kernel) ⟨Nat.le_of_ble_eq_true rfl, Nat.le_of_ble_eq_true rfl⟩) hK hE hA hP hS rfl hl.1 (lv_room (Nat.le_of_ble_eq_true rfl)) dX3_turn_1 ⟨Nat.le_of_ble_eq_true rfl, Nat.le_of_ble_eq_true rfl⟩ (fun v_2 G_1 H locs hp hP hS => ?_)
      obtain ⟨hv9, hg9⟩ := hp
      subst hv9
      rw [hg9] at hP
      refine t_eqi (-1) (if_pos hkd) ?_
      refine lv_istore_n (lv' := [(3, .int (-1)), (0, .ref (ad 69)), (1, .int (nI ch)), (2, .int x)]) hx hb dX3_turn_4 rfl hl (by decide) rfl (fun ls hl => ?_)
      refine lv_aload_n hx hb dX3_turn_5 rfl (lv_at hl 1 rfl) ?_
      refine lv_iload_n hx hb dX3_turn_6 rfl (lv_at hl 0 rfl) ?_
      refine lv_if_lt (tgt := 14) hx hb dX3_turn_7 (by decide) (fun h9 => ?_) (fun h9 => absurd (by decide) h9)
      refine lv_iconst (v := nI 0) hx hb dX3_turn_14 (by decide) ?_
      refine lv_iload_n hx hb dX3_turn_15 rfl (lv_at hl 3 rfl) ?_
      refine g_callS (As := [.int x]) (rest := [.int (nI 0), .ref (ad 69)]) ⟨hx, hb, hml, hown, hw⟩ (mX3_isRow l D cT n ad A hD G x) (va_cwS 1 hw (gWS wm_X3_59 wst_X3_isRow wini_X3 wc_X3_isRow) rfl rfl rfl (by decide +kernel) ⟨Nat.le_of_ble_eq_true rfl, Nat.le_of_ble_eq_true rfl⟩) hK hE hA hP hS rfl hl.1 (lv_room (Nat.le_of_ble_eq_true rfl)) dX3_turn_16 ⟨Nat.le_of_ble_eq_true rfl, Nat.le_of_ble_eq_true rfl⟩ (fun v_4 G_3 H locs hp hP hS => ?_)
      obtain ⟨hv9, hg9⟩ := hp
      subst hv9
      rw [hg9] at hP
      refine t_eqi (nI 0) (congrArg nI (if_pos hrb)) ?_
      refine lv_iconst (v := nI 1) hx hb dX3_turn_19 (by decide) ?_
      refine g_callV (As := [.int (nI 0), .int (nI 0), .int (nI 1)]) (rest := []) ⟨hx, hb, hml, hown, hw⟩ (mX3_can l D cT n ad A hD G hn th 0 0 1 (by decide) (by decide) (by decide) hC.1) (cwV 3 hw (gWV wm_X3_63 wi_X3_can wse_X3_can wini_X3 wc_X3_can) rfl rfl rfl (by decide +kernel) ⟨Nat.le_of_ble_eq_true rfl, Nat.le_of_ble_eq_true rfl⟩) hK hE hA hP hS (k := 69) (by omega) hC.1 rfl rfl hl.1 (lv_room (Nat.le_of_ble_eq_true rfl)) dX3_turn_20 ⟨Nat.le_of_ble_eq_true rfl, Nat.le_of_ble_eq_true rfl⟩ (fun v_6 G_5 H locs hp hP hS => ?_)
      obtain ⟨rfl, hg_G_5, ho_G_5⟩ := hp
      have hc_7 : G_5 69 = .inr (5, [.ref (ad 70), .ref (ad 86), .ref (ad 90), .ref (ad 97), .ref (ad 98), .ref (ad 99), .ref (ad 106), .ref (ad 113), .int (nI 1)]) := hg_G_5
      have hc_8 : G_5 70 = aQ (cT 10) 3 (q3 ad) := (ho_G_5 _ (by omega)).trans hC.2.1
      have hc_9 : G_5 86 = aQ (cT 8) 3 (qS ad) := (ho_G_5 _ (by omega)).trans hC.2.2.2.2.1
      have hc_10 : G_5 90 = aQ (cT 7) 6 (qP ad) := (ho_G_5 _ (by omega)).trans hC.2.2.2.2.2.2.1
      have hc_11 : G_5 97 = aI cT 6 zf := (ho_G_5 _ (by omega)).trans hC.2.2.2.2.2.2.2.2.1
      have hc_12 : G_5 98 = aZ cT 6 xf := (ho_G_5 _ (by omega)).trans hC.2.2.2.2.2.2.2.2.2.1
      have hc_13 : G_5 99 = aQ (cT 9) 6 (qK ad) := (ho_G_5 _ (by omega)).trans hC.2.2.2.2.2.2.2.2.2.2.1
      have hc_14 : G_5 106 = aQ (cT 8) 6 (qL ad) := (ho_G_5 _ (by omega)).trans hC.2.2.2.2.2.2.2.2.2.2.2.2.1
      have hc_15 : G_5 113 = aI cT 6 mf := (ho_G_5 _ (by omega)).trans hC.2.2.2.2.2.2.2.2.2.2.2.2.2.2.1
      have hfr_16 : ∀ j, (j ≠ 69) → G_5 j = G j := fun j hj => (ho_G_5 j (by omega)).trans (rfl)
      refine t_eqi (nI 0) rfl ?_
      refine t_if_ne (tgt := 28) hx hb dX3_turn_23 (by decide) (by omega) (fun c_17 => absurd c_17 (by omega)) (fun c_17 => ?_)
      refine lv_iconst (v := nI 0) hx hb dX3_turn_26 (by decide) ?_
      refine g_ret hQ hx hb hr hlocks rfl hP hS (⟨⟨⟨_, rfl⟩, by rw [show cd [xIA, xIO] xIA = 1 from by decide +kernel]; exact MW.same hC hMA hc_7 (fun j9 _ _ hj9 => hfr_16 j9 hj9)⟩, fun j hj => hfr_16 j (by omega)⟩) (Nat.le_of_ble_eq_true rfl) (Nat.le_of_ble_eq_true rfl) dX3_turn_27
    · skip
      refine lv_iload_n hx hb dX3_turn_0 rfl (lv_at hl 1 rfl) ?_
      refine g_callS (As := [.int (nI ch)]) (rest := []) ⟨hx, hb, hml, hown, hw⟩ (mX3_kind l D cT n ad A hD G ch (by omega)) (va_cwS 1 hw (gWS wm_X3_51 wst_X3_kind wini_X3 wc_X3_kind) rfl rfl rfl (by decide +kernel) ⟨Nat.le_of_ble_eq_true rfl, Nat.le_of_ble_eq_true rfl⟩) hK hE hA hP hS rfl hl.1 (lv_room (Nat.le_of_ble_eq_true rfl)) dX3_turn_1 ⟨Nat.le_of_ble_eq_true rfl, Nat.le_of_ble_eq_true rfl⟩ (fun v_19 G_18 H locs hp hP hS => ?_)
      obtain ⟨hv9, hg9⟩ := hp
      subst hv9
      rw [hg9] at hP
      refine t_eqi (-1) (if_pos hkd) ?_
      refine lv_istore_n (lv' := [(3, .int (-1)), (0, .ref (ad 69)), (1, .int (nI ch)), (2, .int (nI ro))]) hx hb dX3_turn_4 rfl hl (by decide) rfl (fun ls hl => ?_)
      refine lv_aload_n hx hb dX3_turn_5 rfl (lv_at hl 1 rfl) ?_
      refine lv_iload_n hx hb dX3_turn_6 rfl (lv_at hl 0 rfl) ?_
      refine lv_if_lt (tgt := 14) hx hb dX3_turn_7 (by decide) (fun h9 => ?_) (fun h9 => absurd (by decide) h9)
      refine lv_iconst (v := nI 0) hx hb dX3_turn_14 (by decide) ?_
      refine lv_iload_n hx hb dX3_turn_15 rfl (lv_at hl 3 rfl) ?_
      refine g_callS (As := [.int (nI ro)]) (rest := [.int (nI 0), .ref (ad 69)]) ⟨hx, hb, hml, hown, hw⟩ (mX3_isRow l D cT n ad A hD G (nI ro)) (va_cwS 1 hw (gWS wm_X3_59 wst_X3_isRow wini_X3 wc_X3_isRow) rfl rfl rfl (by decide +kernel) ⟨Nat.le_of_ble_eq_true rfl, Nat.le_of_ble_eq_true rfl⟩) hK hE hA hP hS rfl hl.1 (lv_room (Nat.le_of_ble_eq_true rfl)) dX3_turn_16 ⟨Nat.le_of_ble_eq_true rfl, Nat.le_of_ble_eq_true rfl⟩ (fun v_21 G_20 H locs hp hP hS => ?_)
      obtain ⟨hv9, hg9⟩ := hp
      subst hv9
      rw [hg9] at hP
      refine t_eqi (nI 1) (congrArg nI (if_neg (ix_ok (by omega) (by decide)))) ?_
      refine lv_iconst (v := nI 1) hx hb dX3_turn_19 (by decide) ?_
      refine g_callV (As := [.int (nI 0), .int (nI 1), .int (nI 1)]) (rest := []) ⟨hx, hb, hml, hown, hw⟩ (mX3_can l D cT n ad A hD G hn th 0 1 1 (by decide) (by decide) (by decide) hC.1) (cwV 3 hw (gWV wm_X3_63 wi_X3_can wse_X3_can wini_X3 wc_X3_can) rfl rfl rfl (by decide +kernel) ⟨Nat.le_of_ble_eq_true rfl, Nat.le_of_ble_eq_true rfl⟩) hK hE hA hP hS (k := 69) (by omega) hC.1 rfl rfl hl.1 (lv_room (Nat.le_of_ble_eq_true rfl)) dX3_turn_20 ⟨Nat.le_of_ble_eq_true rfl, Nat.le_of_ble_eq_true rfl⟩ (fun v_23 G_22 H locs hp hP hS => ?_)
      obtain ⟨rfl, hg_G_22, ho_G_22⟩ := hp
      have hc_24 : G_22 69 = .inr (5, [.ref (ad 70), .ref (ad 86), .ref (ad 90), .ref (ad 97), .ref (ad 98), .ref (ad 99), .ref (ad 106), .ref (ad 113), .int (nI 1)]) := hg_G_22
      have hc_25 : G_22 70 = aQ (cT 10) 3 (q3 ad) := (ho_G_22 _ (by omega)).trans hC.2.1
      have hc_26 : G_22 86 = aQ (cT 8) 3 (qS ad) := (ho_G_22 _ (by omega)).trans hC.2.2.2.2.1
      have hc_27 : G_22 90 = aQ (cT 7) 6 (qP ad) := (ho_G_22 _ (by omega)).trans hC.2.2.2.2.2.2.1
      have hc_28 : G_22 97 = aI cT 6 zf := (ho_G_22 _ (by omega)).trans hC.2.2.2.2.2.2.2.2.1
      have hc_29 : G_22 98 = aZ cT 6 xf := (ho_G_22 _ (by omega)).trans hC.2.2.2.2.2.2.2.2.2.1
      have hc_30 : G_22 99 = aQ (cT 9) 6 (qK ad) := (ho_G_22 _ (by omega)).trans hC.2.2.2.2.2.2.2.2.2.2.1
      have hc_31 : G_22 106 = aQ (cT 8) 6 (qL ad) := (ho_G_22 _ (by omega)).trans hC.2.2.2.2.2.2.2.2.2.2.2.2.1
      have hc_32 : G_22 113 = aI cT 6 mf := (ho_G_22 _ (by omega)).trans hC.2.2.2.2.2.2.2.2.2.2.2.2.2.2.1
      have hfr_33 : ∀ j, (j ≠ 69) → G_22 j = G j := fun j hj => (ho_G_22 j (by omega)).trans (rfl)
      refine t_eqi (nI 0) rfl ?_
      refine t_if_ne (tgt := 28) hx hb dX3_turn_23 (by decide) (by omega) (fun c_34 => absurd c_34 (by omega)) (fun c_34 => ?_)
      refine lv_iconst (v := nI 0) hx hb dX3_turn_26 (by decide) ?_
      refine g_ret hQ hx hb hr hlocks rfl hP hS (⟨⟨⟨_, rfl⟩, by rw [show cd [xIA, xIO] xIA = 1 from by decide +kernel]; exact MW.same hC hMA hc_24 (fun j9 _ _ hj9 => hfr_33 j9 hj9)⟩, fun j hj => hfr_33 j (by omega)⟩) (Nat.le_of_ble_eq_true rfl) (Nat.le_of_ble_eq_true rfl) dX3_turn_27
  · skip
    obtain ⟨q, hkq⟩ : ∃ q, kdx ch = q := ⟨_, rfl⟩
    have hkl9 := kdx_le ch
    have hq : q < 3 := by omega
    refine lv_iload_n hx hb dX3_turn_0 rfl (lv_at hl 1 rfl) ?_
    refine g_callS (As := [.int (nI ch)]) (rest := []) ⟨hx, hb, hml, hown, hw⟩ (mX3_kind l D cT n ad A hD G ch (by omega)) (va_cwS 1 hw (gWS wm_X3_51 wst_X3_kind wini_X3 wc_X3_kind) rfl rfl rfl (by decide +kernel) ⟨Nat.le_of_ble_eq_true rfl, Nat.le_of_ble_eq_true rfl⟩) hK hE hA hP hS rfl hl.1 (lv_room (Nat.le_of_ble_eq_true rfl)) dX3_turn_1 ⟨Nat.le_of_ble_eq_true rfl, Nat.le_of_ble_eq_true rfl⟩ (fun v_36 G_35 H locs hp hP hS => ?_)
    obtain ⟨hv9, hg9⟩ := hp
    subst hv9
    rw [hg9] at hP
    refine t_eqi (nI q) ((if_neg (by omega)).trans (congrArg nI hkq)) ?_
    refine lv_istore_n (lv' := [(3, .int (nI q)), (0, .ref (ad 69)), (1, .int (nI ch)), (2, .int x)]) hx hb dX3_turn_4 rfl hl (by decide) rfl (fun ls hl => ?_)
    refine lv_aload_n hx hb dX3_turn_5 rfl (lv_at hl 1 rfl) ?_
    refine lv_iload_n hx hb dX3_turn_6 rfl (lv_at hl 0 rfl) ?_
    refine t_if_lt (tgt := 14) hx hb dX3_turn_7 (by decide) (by omega) ?_
    refine lv_iconst (v := nI 1) hx hb dX3_turn_10 (by decide) ?_
    refine lv_goto (tgt := 15) hx hb dX3_turn_11 (by decide) ?_
    refine lv_iload_n hx hb dX3_turn_15 rfl (lv_at hl 3 rfl) ?_
    refine g_callS (As := [.int x]) (rest := [.int (nI 1), .ref (ad 69)]) ⟨hx, hb, hml, hown, hw⟩ (mX3_isRow l D cT n ad A hD G x) (va_cwS 1 hw (gWS wm_X3_59 wst_X3_isRow wini_X3 wc_X3_isRow) rfl rfl rfl (by decide +kernel) ⟨Nat.le_of_ble_eq_true rfl, Nat.le_of_ble_eq_true rfl⟩) hK hE hA hP hS rfl hl.1 (lv_room (Nat.le_of_ble_eq_true rfl)) dX3_turn_16 ⟨Nat.le_of_ble_eq_true rfl, Nat.le_of_ble_eq_true rfl⟩ (fun v_39 G_38 H locs hp hP hS => ?_)
    obtain ⟨hv9, hg9⟩ := hp
    subst hv9
    rw [hg9] at hP
    refine t_eqi (nI 0) (congrArg nI (if_pos hrb)) ?_
    refine lv_iconst (v := nI 1) hx hb dX3_turn_19 (by decide) ?_
    refine g_callV (As := [.int (nI 1), .int (nI 0), .int (nI 1)]) (rest := []) ⟨hx, hb, hml, hown, hw⟩ (mX3_can l D cT n ad A hD G hn th 1 0 1 (by decide) (by decide) (by decide) hC.1) (cwV 3 hw (gWV wm_X3_63 wi_X3_can wse_X3_can wini_X3 wc_X3_can) rfl rfl rfl (by decide +kernel) ⟨Nat.le_of_ble_eq_true rfl, Nat.le_of_ble_eq_true rfl⟩) hK hE hA hP hS (k := 69) (by omega) hC.1 rfl rfl hl.1 (lv_room (Nat.le_of_ble_eq_true rfl)) dX3_turn_20 ⟨Nat.le_of_ble_eq_true rfl, Nat.le_of_ble_eq_true rfl⟩ (fun v_41 G_40 H locs hp hP hS => ?_)
    obtain ⟨rfl, hg_G_40, ho_G_40⟩ := hp
    have hc_42 : G_40 69 = .inr (5, [.ref (ad 70), .ref (ad 86), .ref (ad 90), .ref (ad 97), .ref (ad 98), .ref (ad 99), .ref (ad 106), .ref (ad 113), .int (nI 2)]) := hg_G_40
    have hc_43 : G_40 70 = aQ (cT 10) 3 (q3 ad) := (ho_G_40 _ (by omega)).trans hC.2.1
    have hc_44 : G_40 86 = aQ (cT 8) 3 (qS ad) := (ho_G_40 _ (by omega)).trans hC.2.2.2.2.1
    have hc_45 : G_40 90 = aQ (cT 7) 6 (qP ad) := (ho_G_40 _ (by omega)).trans hC.2.2.2.2.2.2.1
    have hc_46 : G_40 97 = aI cT 6 zf := (ho_G_40 _ (by omega)).trans hC.2.2.2.2.2.2.2.2.1
    have hc_47 : G_40 98 = aZ cT 6 xf := (ho_G_40 _ (by omega)).trans hC.2.2.2.2.2.2.2.2.2.1
    have hc_48 : G_40 99 = aQ (cT 9) 6 (qK ad) := (ho_G_40 _ (by omega)).trans hC.2.2.2.2.2.2.2.2.2.2.1
    have hc_49 : G_40 106 = aQ (cT 8) 6 (qL ad) := (ho_G_40 _ (by omega)).trans hC.2.2.2.2.2.2.2.2.2.2.2.2.1
    have hc_50 : G_40 113 = aI cT 6 mf := (ho_G_40 _ (by omega)).trans hC.2.2.2.2.2.2.2.2.2.2.2.2.2.2.1
    have hfr_51 : ∀ j, (j ≠ 69) → G_40 j = G j := fun j hj => (ho_G_40 j (by omega)).trans (rfl)
    refine t_eqi (nI 0) rfl ?_
    refine t_if_ne (tgt := 28) hx hb dX3_turn_23 (by decide) (by omega) (fun c_52 => absurd c_52 (by omega)) (fun c_52 => ?_)
    refine lv_iconst (v := nI 0) hx hb dX3_turn_26 (by decide) ?_
    refine g_ret hQ hx hb hr hlocks rfl hP hS (⟨⟨⟨_, rfl⟩, by rw [show cd [xIA, xIO] xIO = 2 from by decide +kernel]; exact MW.same hC hMA hc_42 (fun j9 _ _ hj9 => hfr_51 j9 hj9)⟩, fun j hj => hfr_51 j (by omega)⟩) (Nat.le_of_ble_eq_true rfl) (Nat.le_of_ble_eq_true rfl) dX3_turn_27

set_option maxHeartbeats 4000000 in
set_option maxRecDepth 100000 in
theorem mX3_checksum_ok (l : Launch) (D : va_G) (cT : Nat → ClassId) (n : Nat) (ad : Nat → Nat) (A : Nat → Prop) (hD : ∀ G, va_D A (gw n ad G)) (G : Nat → va_E) (hn : 114 ≤ n) (σ : TY) (hI : YI σ) (th : Nat) (hM : MW cT ad G σ th) : Met l yX3_checksum (wA yX3_checksum cX3_checksum 6 (some .long)) ({ frames := 0, cells := 0, slots := 0, locals := 0 } : Room) (PG D cT n ad A G [.ref (ad 69)]) (QG D n ad A (fun v G1 => (v = some (.long (csB σ 6)) ∧ MW cT ad G1 σ 0) ∧ ∀ j, (j < 69 ∨ 114 ≤ j) → G1 j = G j)) 0 0 A := by
  refine Met.ofG (cc := cX3_checksum) (maxL := 6) (ret := (some .long)) (by decide) (Nat.le_of_ble_eq_true rfl) ?_
  intro p e s m args below meth c Q hQ hx hb hr hml hlocks hown hw hP hK hE hA hS ls hl
  have hl : lv_has ls 6 [(0, .ref (ad 69))] := hl
  obtain ⟨rf, sf, pf, zf, xf, kf, lf, mf, hC, hMA⟩ := hM
  refine lv_aload_n hx hb dX3_checksum_0 rfl (lv_at hl 0 rfl) ?_
  refine lv_iconst (v := nI 0) hx hb dX3_checksum_1 (by decide) ?_
  refine g_put (C := RX3) (T := TX3) (N := 9) hx hb hw inX3 tyX3 tyX3_ok nmX3 hown hK hP hD hS (i := 69) (by omega) hC.1 rfl 8 (by decide) (hw _ wf_X3_43) rfl (tyX3_ok 8 (by decide)) rfl rfl (Nat.le_of_ble_eq_true rfl) dX3_checksum_2 (fun G_1 H locs hg_G_1 ho_G_1 hP hS => ?_)
  have hc_2 : G_1 69 = .inr (5, [.ref (ad 70), .ref (ad 86), .ref (ad 90), .ref (ad 97), .ref (ad 98), .ref (ad 99), .ref (ad 106), .ref (ad 113), .int (nI 0)]) := hg_G_1
  have hc_3 : G_1 70 = aQ (cT 10) 3 (q3 ad) := (ho_G_1 _ (by omega)).trans hC.2.1
  have hc_4 : G_1 86 = aQ (cT 8) 3 (qS ad) := (ho_G_1 _ (by omega)).trans hC.2.2.2.2.1
  have hc_5 : G_1 90 = aQ (cT 7) 6 (qP ad) := (ho_G_1 _ (by omega)).trans hC.2.2.2.2.2.2.1
  have hc_6 : G_1 97 = aI cT 6 zf := (ho_G_1 _ (by omega)).trans hC.2.2.2.2.2.2.2.2.1
  have hc_7 : G_1 98 = aZ cT 6 xf := (ho_G_1 _ (by omega)).trans hC.2.2.2.2.2.2.2.2.2.1
  have hc_8 : G_1 99 = aQ (cT 9) 6 (qK ad) := (ho_G_1 _ (by omega)).trans hC.2.2.2.2.2.2.2.2.2.2.1
  have hc_9 : G_1 106 = aQ (cT 8) 6 (qL ad) := (ho_G_1 _ (by omega)).trans hC.2.2.2.2.2.2.2.2.2.2.2.2.1
  have hc_10 : G_1 113 = aI cT 6 mf := (ho_G_1 _ (by omega)).trans hC.2.2.2.2.2.2.2.2.2.2.2.2.2.2.1
  have hfr_11 : ∀ j, (j ≠ 69) → G_1 j = G j := fun j hj => (ho_G_1 j (by omega)).trans (rfl)
  refine lv_ldc2 hx hb hown (hw _ wk_X3_104) dX3_checksum_5 ?_
  refine lv_lstore_n (lv' := [(1, .long 7), (0, .ref (ad 69))]) hx hb dX3_checksum_8 rfl hl (by decide) rfl (fun ls hl => ?_)
  refine lv_iconst (v := nI 0) hx hb dX3_checksum_9 (by decide) ?_
  refine lv_istore_n (lv' := [(3, .int (nI 0)), (1, .long 7), (0, .ref (ad 69))]) hx hb dX3_checksum_10 rfl hl (by decide) rfl (fun ls hl => ?_)
  have hl : lv_has ls 6 [(3, .int (nI 0)), (1, .long (csR σ (4 * 0))), (0, .ref (ad 69))] := hl
  have key_12 : ∀ (fu : Nat) (q : Nat), (q ≤ 3) → (3 - q) < fu → ∀ (H : Heap) (locs : List Loc), va_P D vwCl (gw n ad G_1) H → va_S A s.heap H locs → ∀ ls : Array Slot, lv_has ls 6 [(3, .int (nI q)), (1, .long (csR σ (4 * q))), (0, .ref (ad 69))] → W p l e ({ frames := 0, cells := 0, slots := 0, locals := 0 } : Room) s m args below meth c H locs 0 0 Q (F0 m 11 ls []) := by
    intro fu_13
    induction fu_13 with
    | zero => intros; exfalso; omega
    | succ fu_13 ih_14 =>
      intro q hq hfu_15 H locs hP hS ls hl
      refine lv_iload_n hx hb dX3_checksum_11 rfl (lv_at hl 0 rfl) ?_
      refine lv_iconst (v := nI 3) hx hb dX3_checksum_12 (by decide) ?_
      refine t_icmp_ge (tgt := 96) hx hb dX3_checksum_13 (by decide) (by omega) (by omega) (fun c_16 => ?_) (fun c_16 => ?_)
      · skip
        obtain rfl : q = 3 := by omega
        have hl : lv_has ls 6 [(1, .long (csB σ 0)), (0, .ref (ad 69))] := lv_sub hl [1, 2] rfl
        refine lv_iconst (v := nI 0) hx hb dX3_checksum_96 (by decide) ?_
        refine lv_istore_n (lv' := [(3, .int (nI 0)), (1, .long (csB σ 0)), (0, .ref (ad 69))]) hx hb dX3_checksum_97 rfl hl (by decide) rfl (fun ls hl => ?_)
        have key_17 : ∀ (fu : Nat) (b : Nat), (b ≤ 6) → (6 - b) < fu → ∀ (H : Heap) (locs : List Loc), va_P D vwCl (gw n ad G_1) H → va_S A s.heap H locs → ∀ ls : Array Slot, lv_has ls 6 [(3, .int (nI b)), (1, .long (csB σ b)), (0, .ref (ad 69))] → W p l e ({ frames := 0, cells := 0, slots := 0, locals := 0 } : Room) s m args below meth c H locs 0 0 Q (F0 m 98 ls []) := by
          intro fu_18
          induction fu_18 with
          | zero => intros; exfalso; omega
          | succ fu_18 ih_19 =>
            intro b hb7 hfu_20 H locs hP hS ls hl
            refine lv_iload_n hx hb dX3_checksum_98 rfl (lv_at hl 0 rfl) ?_
            refine lv_bipush (v := nI 6) hx hb dX3_checksum_99 (by decide) ?_
            refine t_icmp_ge (tgt := 221) hx hb dX3_checksum_101 (by decide) (by omega) (by omega) (fun c_21 => ?_) (fun c_21 => ?_)
            · skip
              refine lv_lload_n hx hb dX3_checksum_221 rfl (lv_at hl 1 rfl) ?_
              refine g_retl hQ hx hb hr hlocks hP hS (⟨⟨by rw [show b = 6 by omega], MW.same hC hMA hc_2 (fun j9 _ _ hj9 => hfr_11 j9 hj9)⟩, fun j hj => hfr_11 j (by omega)⟩) (Nat.le_of_ble_eq_true rfl) (Nat.le_of_ble_eq_true rfl) dX3_checksum_222
            · skip
              have hb6 : b < 6 := by omega
              have hc_22 : G_1 (91 + b) = aJ cT 48 (pf b) := (hfr_11 _ (by omega)).trans (hC.2.2.2.2.2.2.2.1 b (by omega))
              have hc_23 : G_1 (100 + b) = aC cT 128 (kf b) := (hfr_11 _ (by omega)).trans (hC.2.2.2.2.2.2.2.2.2.2.2.1 b (by omega))
              have hc_24 : G_1 (107 + b) = aI cT 128 (lf b) := (hfr_11 _ (by omega)).trans (hC.2.2.2.2.2.2.2.2.2.2.2.2.2.1 b (by omega))
              obtain ⟨hz, hm, hxx, hpp, hkl⟩ := hMA.2 b (by omega)
              obtain ⟨hit, hbx⟩ := hI.2 b (by omega)
              have hcap := BI_cap hit
              have h48 := hit.1
              refine lv_ldc2 hx hb hown (hw _ wk_X3_102) dX3_checksum_104 ?_
              refine lv_lload_n hx hb dX3_checksum_107 rfl (lv_at hl 1 rfl) ?_
              refine lv_lmul hx hb dX3_checksum_108 ?_
              refine lv_aload_n hx hb dX3_checksum_109 rfl (lv_at hl 2 rfl) ?_
              refine g_get (C := RX3) (T := TX3) (N := 9) hx hb hw inX3 hown hK hP (i := 69) (by omega) hc_2 rfl 7 (by decide) (hw _ wf_X3_40) rfl dX3_checksum_110 ?_
              refine lv_iload_n hx hb dX3_checksum_113 rfl (lv_at hl 0 rfl) ?_
              refine g_iald hx hb hK hP (i := 113) (by omega) hc_10 (by omega) (by omega) dX3_checksum_114 ?_
              refine lv_i2l hx hb dX3_checksum_115 rfl ?_
              refine t_eql (lN (mf b)) (nI_l (by omega)) ?_
              refine lv_ladd hx hb dX3_checksum_116 ?_
              refine t_eql (31 * csB σ b + lN (σ.2 b).2.1) (by rw [hm]) ?_
              refine lv_lstore_n (lv' := [(1, .long (31 * csB σ b + lN (σ.2 b).2.1)), (3, .int (nI b)), (0, .ref (ad 69))]) hx hb dX3_checksum_117 rfl hl (by decide) rfl (fun ls hl => ?_)
              refine lv_iconst (v := nI 0) hx hb dX3_checksum_118 (by decide) ?_
              refine lv_istore (lv' := [(4, .int (nI 0)), (1, .long (31 * csB σ b + lN (σ.2 b).2.1)), (3, .int (nI b)), (0, .ref (ad 69))]) hx hb dX3_checksum_119 hl (by decide) rfl (fun ls hl => ?_)
              refine lv_iconst (v := nI 0) hx hb dX3_checksum_121 (by decide) ?_
              refine lv_istore (lv' := [(5, .int (nI 0)), (4, .int (nI 0)), (1, .long (31 * csB σ b + lN (σ.2 b).2.1)), (3, .int (nI b)), (0, .ref (ad 69))]) hx hb dX3_checksum_122 hl (by decide) rfl (fun ls hl => ?_)
              have hl : lv_has ls 6 [(5, .int (nI 0)), (4, .int (nI (ps (σ.2 b).2.2.2.2.2 0))), (1, .long (bsum (σ.2 b).2.2.2.2.1 (σ.2 b).2.2.2.2.2 (σ.2 b).2.2.2.1 (31 * csB σ b + lN (σ.2 b).2.1) 0)), (3, .int (nI b)), (0, .ref (ad 69))] := lv_sub hl [0, 1, 2, 3, 4] rfl
              have key_25 : ∀ (fu : Nat) (u : Nat), (u ≤ (σ.2 b).2.1) → ((σ.2 b).2.1 - u) < fu → ∀ (H : Heap) (locs : List Loc), va_P D vwCl (gw n ad G_1) H → va_S A s.heap H locs → ∀ ls : Array Slot, lv_has ls 6 [(5, .int (nI u)), (4, .int (nI (ps (σ.2 b).2.2.2.2.2 u))), (1, .long (bsum (σ.2 b).2.2.2.2.1 (σ.2 b).2.2.2.2.2 (σ.2 b).2.2.2.1 (31 * csB σ b + lN (σ.2 b).2.1) u)), (3, .int (nI b)), (0, .ref (ad 69))] → W p l e ({ frames := 0, cells := 0, slots := 0, locals := 0 } : Room) s m args below meth c H locs 0 0 Q (F0 m 124 ls []) := by
                intro fu_26
                induction fu_26 with
                | zero => intros; exfalso; omega
                | succ fu_26 ih_27 =>
                  intro u hu hfu_28 H locs hP hS ls hl
                  refine lv_iload hx hb dX3_checksum_124 (lv_at hl 0 rfl) ?_
                  refine lv_aload_n hx hb dX3_checksum_126 rfl (lv_at hl 4 rfl) ?_
                  refine g_get (C := RX3) (T := TX3) (N := 9) hx hb hw inX3 hown hK hP (i := 69) (by omega) hc_2 rfl 7 (by decide) (hw _ wf_X3_40) rfl dX3_checksum_127 ?_
                  refine lv_iload_n hx hb dX3_checksum_130 rfl (lv_at hl 3 rfl) ?_
                  refine g_iald hx hb hK hP (i := 113) (by omega) hc_10 (by omega) (by omega) dX3_checksum_131 ?_
                  refine t_icmp_ge (tgt := 215) hx hb dX3_checksum_132 (by decide) (by omega) (by omega) (fun c_29 => ?_) (fun c_29 => ?_)
                  · skip
                    obtain rfl : u = (σ.2 b).2.1 := by omega
                    have hl : lv_has ls 6 [(1, .long (csB σ (b + 1))), (3, .int (nI b)), (0, .ref (ad 69))] := lv_sub hl [2, 3, 4] rfl
                    refine lv_iinc (v := nI (b + 1)) (lv' := [(3, .int (nI (b + 1))), (1, .long (csB σ (b + 1))), (0, .ref (ad 69))]) hx hb dX3_checksum_215 hl (k := 1) rfl (by exact nI_add b 1) (by decide) rfl (fun ls hl => ?_)
                    refine lv_goto (tgt := 98) hx hb dX3_checksum_218 (by decide) ?_
                    exact ih_19 (b + 1) (by omega) (by omega) _ _ hP hS ls (lv_sub hl [0, 1, 2] rfl)
                  · skip
                    obtain ⟨hki, hli⟩ := hkl u (by omega)
                    have hik := (hit.2.2.1 u (by omega)).1
                    have hL1 := (hit.2.2.1 u (by omega)).2
                    have hpl := ps_step (σ.2 b).2.2.2.2.2 (show u < (σ.2 b).2.1 by omega)
                    have hpz := hit.2.1
                    have hk16 := hC.2.2.2.2.2.2.2.2.2.2.2.2.2.2.2.1 b hb6 u
                    have hl16 := hC.2.2.2.2.2.2.2.2.2.2.2.2.2.2.2.2 b hb6 u
                    refine lv_ldc2 hx hb hown (hw _ wk_X3_102) dX3_checksum_135 ?_
                    refine lv_lload_n hx hb dX3_checksum_138 rfl (lv_at hl 2 rfl) ?_
                    refine lv_lmul hx hb dX3_checksum_139 ?_
                    refine lv_aload_n hx hb dX3_checksum_140 rfl (lv_at hl 4 rfl) ?_
                    refine g_get (C := RX3) (T := TX3) (N := 9) hx hb hw inX3 hown hK hP (i := 69) (by omega) hc_2 rfl 5 (by decide) (hw _ wf_X3_34) rfl dX3_checksum_141 ?_
                    refine lv_iload_n hx hb dX3_checksum_144 rfl (lv_at hl 3 rfl) ?_
                    refine g_aald hx hb hK hP 9 (i := 99) (by omega) hc_8 rfl rfl (k := (ad (100 + b))) (by omega) (by omega) (qK_at (by omega)) dX3_checksum_145 ?_
                    refine lv_iload hx hb dX3_checksum_146 (lv_at hl 0 rfl) ?_
                    refine g_cald hx hb hK hP (i := (100 + b)) (by omega) hc_23 (by omega) (by omega) dX3_checksum_148 ?_
                    refine t_eqi (nI ((σ.2 b).2.2.2.2.1 u)) (congrArg nI hki) ?_
                    refine lv_i2l hx hb dX3_checksum_149 rfl ?_
                    refine t_eql (lN ((σ.2 b).2.2.2.2.1 u)) (nI_l (by omega)) ?_
                    refine lv_ladd hx hb dX3_checksum_150 ?_
                    refine lv_lstore_n (lv' := [(1, .long ((31 * (bsum (σ.2 b).2.2.2.2.1 (σ.2 b).2.2.2.2.2 (σ.2 b).2.2.2.1 (31 * csB σ b + lN (σ.2 b).2.1) u)) + (lN ((σ.2 b).2.2.2.2.1 u)))), (5, .int (nI u)), (4, .int (nI (ps (σ.2 b).2.2.2.2.2 u))), (3, .int (nI b)), (0, .ref (ad 69))]) hx hb dX3_checksum_151 rfl hl (by decide) rfl (fun ls hl => ?_)
                    refine lv_ldc2 hx hb hown (hw _ wk_X3_102) dX3_checksum_152 ?_
                    refine lv_lload_n hx hb dX3_checksum_155 rfl (lv_at hl 0 rfl) ?_
                    refine lv_lmul hx hb dX3_checksum_156 ?_
                    refine lv_aload_n hx hb dX3_checksum_157 rfl (lv_at hl 4 rfl) ?_
                    refine g_get (C := RX3) (T := TX3) (N := 9) hx hb hw inX3 hown hK hP (i := 69) (by omega) hc_2 rfl 5 (by decide) (hw _ wf_X3_34) rfl dX3_checksum_158 ?_
                    refine lv_iload_n hx hb dX3_checksum_161 rfl (lv_at hl 3 rfl) ?_
                    refine g_aald hx hb hK hP 9 (i := 99) (by omega) hc_8 rfl rfl (k := (ad (100 + b))) (by omega) (by omega) (qK_at (by omega)) dX3_checksum_162 ?_
                    refine lv_iload hx hb dX3_checksum_163 (lv_at hl 1 rfl) ?_
                    refine g_cald hx hb hK hP (i := (100 + b)) (by omega) hc_23 (by omega) (by omega) dX3_checksum_165 ?_
                    refine t_eqi (nI ((σ.2 b).2.2.2.2.1 u)) (congrArg nI hki) ?_
                    refine lv_bipush (v := nI 110) hx hb dX3_checksum_166 (by decide) ?_
                    refine t_icmp_ne (tgt := 183) hx hb dX3_checksum_168 (by decide) (by omega) (by omega) (fun c_30 => ?_) (fun c_30 => ?_)
                    · skip
                      refine lv_aload_n hx hb dX3_checksum_183 rfl (lv_at hl 4 rfl) ?_
                      refine g_get (C := RX3) (T := TX3) (N := 9) hx hb hw inX3 hown hK hP (i := 69) (by omega) hc_2 rfl 6 (by decide) (hw _ wf_X3_37) rfl dX3_checksum_184 ?_
                      refine lv_iload_n hx hb dX3_checksum_187 rfl (lv_at hl 3 rfl) ?_
                      refine g_aald hx hb hK hP 8 (i := 106) (by omega) hc_9 rfl rfl (k := (ad (107 + b))) (by omega) (by omega) (qL_at (by omega)) dX3_checksum_188 ?_
                      refine lv_iload hx hb dX3_checksum_189 (lv_at hl 1 rfl) ?_
                      refine g_iald hx hb hK hP (i := (107 + b)) (by omega) hc_24 (by omega) (by omega) dX3_checksum_191 ?_
                      refine t_eqi (nI ((σ.2 b).2.2.2.2.2 u)) (congrArg nI hli) ?_
                      refine lv_i2l hx hb dX3_checksum_192 rfl ?_
                      refine t_eql (lN ((σ.2 b).2.2.2.2.2 u)) (nI_l (by omega)) ?_
                      refine lv_ladd hx hb dX3_checksum_193 ?_
                      refine lv_lstore_n (lv' := [(1, .long ((31 * ((31 * (bsum (σ.2 b).2.2.2.2.1 (σ.2 b).2.2.2.2.2 (σ.2 b).2.2.2.1 (31 * csB σ b + lN (σ.2 b).2.1) u)) + (lN ((σ.2 b).2.2.2.2.1 u)))) + (lN ((σ.2 b).2.2.2.2.2 u)))), (5, .int (nI u)), (4, .int (nI (ps (σ.2 b).2.2.2.2.2 u))), (3, .int (nI b)), (0, .ref (ad 69))]) hx hb dX3_checksum_194 rfl hl (by decide) rfl (fun ls hl => ?_)
                      refine lv_iload hx hb dX3_checksum_195 (lv_at hl 2 rfl) ?_
                      refine lv_aload_n hx hb dX3_checksum_197 rfl (lv_at hl 4 rfl) ?_
                      refine g_get (C := RX3) (T := TX3) (N := 9) hx hb hw inX3 hown hK hP (i := 69) (by omega) hc_2 rfl 6 (by decide) (hw _ wf_X3_37) rfl dX3_checksum_198 ?_
                      refine lv_iload_n hx hb dX3_checksum_201 rfl (lv_at hl 3 rfl) ?_
                      refine g_aald hx hb hK hP 8 (i := 106) (by omega) hc_9 rfl rfl (k := (ad (107 + b))) (by omega) (by omega) (qL_at (by omega)) dX3_checksum_202 ?_
                      refine lv_iload hx hb dX3_checksum_203 (lv_at hl 1 rfl) ?_
                      refine g_iald hx hb hK hP (i := (107 + b)) (by omega) hc_24 (by omega) (by omega) dX3_checksum_205 ?_
                      refine t_eqi (nI ((σ.2 b).2.2.2.2.2 u)) (congrArg nI hli) ?_
                      refine lv_iadd hx hb dX3_checksum_206 ?_
                      refine t_eqi (nI ((ps (σ.2 b).2.2.2.2.2 u) + ((σ.2 b).2.2.2.2.2 u))) (nI_add (ps (σ.2 b).2.2.2.2.2 u) ((σ.2 b).2.2.2.2.2 u)) ?_
                      refine lv_istore (lv' := [(4, .int (nI ((ps (σ.2 b).2.2.2.2.2 u) + ((σ.2 b).2.2.2.2.2 u)))), (1, .long ((31 * ((31 * (bsum (σ.2 b).2.2.2.2.1 (σ.2 b).2.2.2.2.2 (σ.2 b).2.2.2.1 (31 * csB σ b + lN (σ.2 b).2.1) u)) + (lN ((σ.2 b).2.2.2.2.1 u)))) + (lN ((σ.2 b).2.2.2.2.2 u)))), (5, .int (nI u)), (3, .int (nI b)), (0, .ref (ad 69))]) hx hb dX3_checksum_207 hl (by decide) rfl (fun ls hl => ?_)
                      refine lv_iinc (v := nI (u + 1)) (lv' := [(5, .int (nI (u + 1))), (4, .int (nI ((ps (σ.2 b).2.2.2.2.2 u) + ((σ.2 b).2.2.2.2.2 u)))), (1, .long ((31 * ((31 * (bsum (σ.2 b).2.2.2.2.1 (σ.2 b).2.2.2.2.2 (σ.2 b).2.2.2.1 (31 * csB σ b + lN (σ.2 b).2.1) u)) + (lN ((σ.2 b).2.2.2.2.1 u)))) + (lN ((σ.2 b).2.2.2.2.2 u)))), (3, .int (nI b)), (0, .ref (ad 69))]) hx hb dX3_checksum_209 hl (k := 2) rfl (by exact nI_add u 1) (by decide) rfl (fun ls hl => ?_)
                      refine lv_goto (tgt := 124) hx hb dX3_checksum_212 (by decide) ?_
                      have hz8 : (31 * ((31 * (bsum (σ.2 b).2.2.2.2.1 (σ.2 b).2.2.2.2.2 (σ.2 b).2.2.2.1 (31 * csB σ b + lN (σ.2 b).2.1) u)) + (lN ((σ.2 b).2.2.2.2.1 u)))) + (lN ((σ.2 b).2.2.2.2.2 u)) = bsum (σ.2 b).2.2.2.2.1 (σ.2 b).2.2.2.2.2 (σ.2 b).2.2.2.1 (31 * csB σ b + lN (σ.2 b).2.1) (u + 1) := by show _ = 31 * (31 * bsum (σ.2 b).2.2.2.2.1 (σ.2 b).2.2.2.2.2 (σ.2 b).2.2.2.1 (31 * csB σ b + lN (σ.2 b).2.1) u + lN ((σ.2 b).2.2.2.2.1 u)) + (if (σ.2 b).2.2.2.2.1 u = 110 then (σ.2 b).2.2.2.1 (ps (σ.2 b).2.2.2.2.2 u) else lN ((σ.2 b).2.2.2.2.2 u)); rw [if_neg (by omega)]
                      have hz9 : (ps (σ.2 b).2.2.2.2.2 u) + ((σ.2 b).2.2.2.2.2 u) = ps (σ.2 b).2.2.2.2.2 (u + 1) := rfl
                      have hl := hl
                      rw [hz8, hz9] at hl
                      exact ih_27 (u + 1) (by omega) (by omega) _ _ hP hS ls (lv_sub hl [0, 1, 2, 3, 4] rfl)
                    · skip
                      refine lv_aload_n hx hb dX3_checksum_171 rfl (lv_at hl 4 rfl) ?_
                      refine g_get (C := RX3) (T := TX3) (N := 9) hx hb hw inX3 hown hK hP (i := 69) (by omega) hc_2 rfl 2 (by decide) (hw _ wf_X3_21) rfl dX3_checksum_172 ?_
                      refine lv_iload_n hx hb dX3_checksum_175 rfl (lv_at hl 3 rfl) ?_
                      refine g_aald hx hb hK hP 7 (i := 90) (by omega) hc_5 rfl rfl (k := (ad (91 + b))) (by omega) (by omega) (qP_at (by omega)) dX3_checksum_176 ?_
                      refine lv_iload hx hb dX3_checksum_177 (lv_at hl 2 rfl) ?_
                      refine g_lald hx hb hK hP (i := (91 + b)) (by omega) hc_22 (by omega) (by omega) dX3_checksum_179 ?_
                      refine t_eql ((σ.2 b).2.2.2.1 (ps (σ.2 b).2.2.2.2.2 u)) (hpp _ (by omega)) ?_
                      refine lv_goto (tgt := 193) hx hb dX3_checksum_180 (by decide) ?_
                      refine lv_ladd hx hb dX3_checksum_193 ?_
                      refine lv_lstore_n (lv' := [(1, .long ((31 * ((31 * (bsum (σ.2 b).2.2.2.2.1 (σ.2 b).2.2.2.2.2 (σ.2 b).2.2.2.1 (31 * csB σ b + lN (σ.2 b).2.1) u)) + (lN ((σ.2 b).2.2.2.2.1 u)))) + ((σ.2 b).2.2.2.1 (ps (σ.2 b).2.2.2.2.2 u)))), (5, .int (nI u)), (4, .int (nI (ps (σ.2 b).2.2.2.2.2 u))), (3, .int (nI b)), (0, .ref (ad 69))]) hx hb dX3_checksum_194 rfl hl (by decide) rfl (fun ls hl => ?_)
                      refine lv_iload hx hb dX3_checksum_195 (lv_at hl 2 rfl) ?_
                      refine lv_aload_n hx hb dX3_checksum_197 rfl (lv_at hl 4 rfl) ?_
                      refine g_get (C := RX3) (T := TX3) (N := 9) hx hb hw inX3 hown hK hP (i := 69) (by omega) hc_2 rfl 6 (by decide) (hw _ wf_X3_37) rfl dX3_checksum_198 ?_
                      refine lv_iload_n hx hb dX3_checksum_201 rfl (lv_at hl 3 rfl) ?_
                      refine g_aald hx hb hK hP 8 (i := 106) (by omega) hc_9 rfl rfl (k := (ad (107 + b))) (by omega) (by omega) (qL_at (by omega)) dX3_checksum_202 ?_
                      refine lv_iload hx hb dX3_checksum_203 (lv_at hl 1 rfl) ?_
                      refine g_iald hx hb hK hP (i := (107 + b)) (by omega) hc_24 (by omega) (by omega) dX3_checksum_205 ?_
                      refine t_eqi (nI ((σ.2 b).2.2.2.2.2 u)) (congrArg nI hli) ?_
                      refine lv_iadd hx hb dX3_checksum_206 ?_
                      refine t_eqi (nI ((ps (σ.2 b).2.2.2.2.2 u) + ((σ.2 b).2.2.2.2.2 u))) (nI_add (ps (σ.2 b).2.2.2.2.2 u) ((σ.2 b).2.2.2.2.2 u)) ?_
                      refine lv_istore (lv' := [(4, .int (nI ((ps (σ.2 b).2.2.2.2.2 u) + ((σ.2 b).2.2.2.2.2 u)))), (1, .long ((31 * ((31 * (bsum (σ.2 b).2.2.2.2.1 (σ.2 b).2.2.2.2.2 (σ.2 b).2.2.2.1 (31 * csB σ b + lN (σ.2 b).2.1) u)) + (lN ((σ.2 b).2.2.2.2.1 u)))) + ((σ.2 b).2.2.2.1 (ps (σ.2 b).2.2.2.2.2 u)))), (5, .int (nI u)), (3, .int (nI b)), (0, .ref (ad 69))]) hx hb dX3_checksum_207 hl (by decide) rfl (fun ls hl => ?_)
                      refine lv_iinc (v := nI (u + 1)) (lv' := [(5, .int (nI (u + 1))), (4, .int (nI ((ps (σ.2 b).2.2.2.2.2 u) + ((σ.2 b).2.2.2.2.2 u)))), (1, .long ((31 * ((31 * (bsum (σ.2 b).2.2.2.2.1 (σ.2 b).2.2.2.2.2 (σ.2 b).2.2.2.1 (31 * csB σ b + lN (σ.2 b).2.1) u)) + (lN ((σ.2 b).2.2.2.2.1 u)))) + ((σ.2 b).2.2.2.1 (ps (σ.2 b).2.2.2.2.2 u)))), (3, .int (nI b)), (0, .ref (ad 69))]) hx hb dX3_checksum_209 hl (k := 2) rfl (by exact nI_add u 1) (by decide) rfl (fun ls hl => ?_)
                      refine lv_goto (tgt := 124) hx hb dX3_checksum_212 (by decide) ?_
                      have hz8 : (31 * ((31 * (bsum (σ.2 b).2.2.2.2.1 (σ.2 b).2.2.2.2.2 (σ.2 b).2.2.2.1 (31 * csB σ b + lN (σ.2 b).2.1) u)) + (lN ((σ.2 b).2.2.2.2.1 u)))) + ((σ.2 b).2.2.2.1 (ps (σ.2 b).2.2.2.2.2 u)) = bsum (σ.2 b).2.2.2.2.1 (σ.2 b).2.2.2.2.2 (σ.2 b).2.2.2.1 (31 * csB σ b + lN (σ.2 b).2.1) (u + 1) := by show _ = 31 * (31 * bsum (σ.2 b).2.2.2.2.1 (σ.2 b).2.2.2.2.2 (σ.2 b).2.2.2.1 (31 * csB σ b + lN (σ.2 b).2.1) u + lN ((σ.2 b).2.2.2.2.1 u)) + (if (σ.2 b).2.2.2.2.1 u = 110 then (σ.2 b).2.2.2.1 (ps (σ.2 b).2.2.2.2.2 u) else lN ((σ.2 b).2.2.2.2.2 u)); rw [if_pos (by omega)]
                      have hz9 : (ps (σ.2 b).2.2.2.2.2 u) + ((σ.2 b).2.2.2.2.2 u) = ps (σ.2 b).2.2.2.2.2 (u + 1) := rfl
                      have hl := hl
                      rw [hz8, hz9] at hl
                      exact ih_27 (u + 1) (by omega) (by omega) _ _ hP hS ls (lv_sub hl [0, 1, 2, 3, 4] rfl)
              exact key_25 _ 0 (by omega) (Nat.lt_succ_self _) _ _ hP hS ls (lv_sub hl [0, 1, 2, 3, 4] rfl)
        exact key_17 _ 0 (by omega) (Nat.lt_succ_self _) _ _ hP hS ls (lv_sub hl [0, 1, 2] rfl)
      · skip
        refine lv_iconst (v := nI 0) hx hb dX3_checksum_16 (by decide) ?_
        refine lv_istore (lv' := [(4, .int (nI 0)), (3, .int (nI q)), (1, .long (csR σ (4 * q))), (0, .ref (ad 69))]) hx hb dX3_checksum_17 hl (by decide) rfl (fun ls hl => ?_)
        have hl : lv_has ls 6 [(4, .int (nI 0)), (3, .int (nI q)), (1, .long (csR σ (4 * q + 0))), (0, .ref (ad 69))] := lv_sub hl [0, 1, 2, 3] rfl
        have key_31 : ∀ (fu : Nat) (ro : Nat), (ro ≤ 4) → (4 - ro) < fu → ∀ (H : Heap) (locs : List Loc), va_P D vwCl (gw n ad G_1) H → va_S A s.heap H locs → ∀ ls : Array Slot, lv_has ls 6 [(4, .int (nI ro)), (3, .int (nI q)), (1, .long (csR σ (4 * q + ro))), (0, .ref (ad 69))] → W p l e ({ frames := 0, cells := 0, slots := 0, locals := 0 } : Room) s m args below meth c H locs 0 0 Q (F0 m 19 ls []) := by
          intro fu_32
          induction fu_32 with
          | zero => intros; exfalso; omega
          | succ fu_32 ih_33 =>
            intro ro hro hfu_34 H locs hP hS ls hl
            refine lv_iload hx hb dX3_checksum_19 (lv_at hl 0 rfl) ?_
            refine lv_iconst (v := nI 4) hx hb dX3_checksum_21 (by decide) ?_
            refine t_icmp_ge (tgt := 90) hx hb dX3_checksum_22 (by decide) (by omega) (by omega) (fun c_35 => ?_) (fun c_35 => ?_)
            · skip
              obtain rfl : ro = 4 := by omega
              have hl : lv_has ls 6 [(3, .int (nI q)), (1, .long (csR σ (4 * (q + 1)))), (0, .ref (ad 69))] := lv_sub hl [1, 2, 3] rfl
              refine lv_iinc (v := nI (q + 1)) (lv' := [(3, .int (nI (q + 1))), (1, .long (csR σ (4 * (q + 1)))), (0, .ref (ad 69))]) hx hb dX3_checksum_90 hl (k := 0) rfl (by exact nI_add q 1) (by decide) rfl (fun ls hl => ?_)
              refine lv_goto (tgt := 11) hx hb dX3_checksum_93 (by decide) ?_
              exact ih_14 (q + 1) (by omega) (by omega) _ _ hP hS ls (lv_sub hl [0, 1, 2] rfl)
            · skip
              have hc_36 : G_1 (71 + 5 * q) = aQ (cT 7) 4 (q4 ad q) := (hfr_11 _ (by omega)).trans (hC.2.2.1 q (by omega))
              have hc_37 : G_1 (87 + q) = aI cT 4 (sf q) := (hfr_11 _ (by omega)).trans (hC.2.2.2.2.2.1 q (by omega))
              have hc_38 : G_1 (72 + 5 * q + ro) = aJ cT 48 (rf q ro) := (hfr_11 _ (by omega)).trans (hC.2.2.2.1 q (by omega) ro (by omega))
              obtain ⟨hsz, hrv⟩ := hMA.1 q (by omega) ro (by omega)
              have hrc := hI.1 (4 * q + ro) (by omega)
              refine lv_ldc2 hx hb hown (hw _ wk_X3_102) dX3_checksum_25 ?_
              refine lv_lload_n hx hb dX3_checksum_28 rfl (lv_at hl 2 rfl) ?_
              refine lv_lmul hx hb dX3_checksum_29 ?_
              refine lv_aload_n hx hb dX3_checksum_30 rfl (lv_at hl 3 rfl) ?_
              refine g_get (C := RX3) (T := TX3) (N := 9) hx hb hw inX3 hown hK hP (i := 69) (by omega) hc_2 rfl 1 (by decide) (hw _ wf_X3_16) rfl dX3_checksum_31 ?_
              refine lv_iload_n hx hb dX3_checksum_34 rfl (lv_at hl 1 rfl) ?_
              refine g_aald hx hb hK hP 8 (i := 86) (by omega) hc_4 rfl rfl (k := (ad (87 + q))) (by omega) (by omega) (qS_at (by omega)) dX3_checksum_35 ?_
              refine lv_iload hx hb dX3_checksum_36 (lv_at hl 0 rfl) ?_
              refine g_iald hx hb hK hP (i := (87 + q)) (by omega) hc_37 (by omega) (by omega) dX3_checksum_38 ?_
              refine lv_i2l hx hb dX3_checksum_39 rfl ?_
              refine t_eql (lN ((sf q) ro)) (nI_l (by omega)) ?_
              refine lv_ladd hx hb dX3_checksum_40 ?_
              have hz7 : (31 * (csR σ (4 * q + ro))) + (lN ((sf q) ro)) = 31 * csR σ (4 * q + ro) + lN (σ.1 (4 * q + ro)).1 := by rw [hsz]
              refine t_eql (31 * csR σ (4 * q + ro) + lN (σ.1 (4 * q + ro)).1) hz7 ?_
              refine lv_lstore_n (lv' := [(1, .long (31 * csR σ (4 * q + ro) + lN (σ.1 (4 * q + ro)).1)), (4, .int (nI ro)), (3, .int (nI q)), (0, .ref (ad 69))]) hx hb dX3_checksum_41 rfl hl (by decide) rfl (fun ls hl => ?_)
              refine lv_iconst (v := nI 0) hx hb dX3_checksum_42 (by decide) ?_
              refine lv_istore (lv' := [(5, .int (nI 0)), (1, .long (31 * csR σ (4 * q + ro) + lN (σ.1 (4 * q + ro)).1)), (4, .int (nI ro)), (3, .int (nI q)), (0, .ref (ad 69))]) hx hb dX3_checksum_43 hl (by decide) rfl (fun ls hl => ?_)
              have hl : lv_has ls 6 [(5, .int (nI 0)), (1, .long (rsum (σ.1 (4 * q + ro)).2 (31 * csR σ (4 * q + ro) + lN (σ.1 (4 * q + ro)).1) 0)), (4, .int (nI ro)), (3, .int (nI q)), (0, .ref (ad 69))] := lv_sub hl [0, 1, 2, 3, 4] rfl
              have key_39 : ∀ (fu : Nat) (u : Nat), (u ≤ (σ.1 (4 * q + ro)).1) → ((σ.1 (4 * q + ro)).1 - u) < fu → ∀ (H : Heap) (locs : List Loc), va_P D vwCl (gw n ad G_1) H → va_S A s.heap H locs → ∀ ls : Array Slot, lv_has ls 6 [(5, .int (nI u)), (1, .long (rsum (σ.1 (4 * q + ro)).2 (31 * csR σ (4 * q + ro) + lN (σ.1 (4 * q + ro)).1) u)), (4, .int (nI ro)), (3, .int (nI q)), (0, .ref (ad 69))] → W p l e ({ frames := 0, cells := 0, slots := 0, locals := 0 } : Room) s m args below meth c H locs 0 0 Q (F0 m 45 ls []) := by
                intro fu_40
                induction fu_40 with
                | zero => intros; exfalso; omega
                | succ fu_40 ih_41 =>
                  intro u hu hfu_42 H locs hP hS ls hl
                  refine lv_iload hx hb dX3_checksum_45 (lv_at hl 0 rfl) ?_
                  refine lv_aload_n hx hb dX3_checksum_47 rfl (lv_at hl 4 rfl) ?_
                  refine g_get (C := RX3) (T := TX3) (N := 9) hx hb hw inX3 hown hK hP (i := 69) (by omega) hc_2 rfl 1 (by decide) (hw _ wf_X3_16) rfl dX3_checksum_48 ?_
                  refine lv_iload_n hx hb dX3_checksum_51 rfl (lv_at hl 3 rfl) ?_
                  refine g_aald hx hb hK hP 8 (i := 86) (by omega) hc_4 rfl rfl (k := (ad (87 + q))) (by omega) (by omega) (qS_at (by omega)) dX3_checksum_52 ?_
                  refine lv_iload hx hb dX3_checksum_53 (lv_at hl 2 rfl) ?_
                  refine g_iald hx hb hK hP (i := (87 + q)) (by omega) hc_37 (by omega) (by omega) dX3_checksum_55 ?_
                  refine t_icmp_ge (tgt := 84) hx hb dX3_checksum_56 (by decide) (by omega) (by omega) (fun c_43 => ?_) (fun c_43 => ?_)
                  · skip
                    obtain rfl : u = (σ.1 (4 * q + ro)).1 := by omega
                    have hl : lv_has ls 6 [(1, .long (csR σ (4 * q + (ro + 1)))), (4, .int (nI ro)), (3, .int (nI q)), (0, .ref (ad 69))] := lv_sub hl [1, 2, 3, 4] rfl
                    refine lv_iinc (v := nI (ro + 1)) (lv' := [(4, .int (nI (ro + 1))), (1, .long (csR σ (4 * q + (ro + 1)))), (3, .int (nI q)), (0, .ref (ad 69))]) hx hb dX3_checksum_84 hl (k := 1) rfl (by exact nI_add ro 1) (by decide) rfl (fun ls hl => ?_)
                    refine lv_goto (tgt := 19) hx hb dX3_checksum_87 (by decide) ?_
                    exact ih_33 (ro + 1) (by omega) (by omega) _ _ hP hS ls (lv_sub hl [0, 2, 1, 3] rfl)
                  · skip
                    refine lv_ldc2 hx hb hown (hw _ wk_X3_102) dX3_checksum_59 ?_
                    refine lv_lload_n hx hb dX3_checksum_62 rfl (lv_at hl 1 rfl) ?_
                    refine lv_lmul hx hb dX3_checksum_63 ?_
                    refine lv_aload_n hx hb dX3_checksum_64 rfl (lv_at hl 4 rfl) ?_
                    refine g_get (C := RX3) (T := TX3) (N := 9) hx hb hw inX3 hown hK hP (i := 69) (by omega) hc_2 rfl 0 (by decide) (hw _ wf_X3_11) rfl dX3_checksum_65 ?_
                    refine lv_iload_n hx hb dX3_checksum_68 rfl (lv_at hl 3 rfl) ?_
                    refine g_aald hx hb hK hP 10 (i := 70) (by omega) hc_3 rfl rfl (k := (ad (71 + 5 * q))) (by omega) (by omega) (q3_at (by omega)) dX3_checksum_69 ?_
                    refine lv_iload hx hb dX3_checksum_70 (lv_at hl 2 rfl) ?_
                    refine g_aald hx hb hK hP 7 (i := (71 + 5 * q)) (by omega) hc_36 rfl rfl (k := (ad (72 + 5 * q + ro))) (by omega) (by omega) (q4_at (by omega)) dX3_checksum_72 ?_
                    refine lv_iload hx hb dX3_checksum_73 (lv_at hl 0 rfl) ?_
                    refine g_lald hx hb hK hP (i := (72 + 5 * q + ro)) (by omega) hc_38 (by omega) (by omega) dX3_checksum_75 ?_
                    refine t_eql ((σ.1 (4 * q + ro)).2 u) (hrv u (by omega)) ?_
                    refine lv_ladd hx hb dX3_checksum_76 ?_
                    refine t_eql (rsum (σ.1 (4 * q + ro)).2 (31 * csR σ (4 * q + ro) + lN (σ.1 (4 * q + ro)).1) (u + 1)) rfl ?_
                    refine lv_lstore_n (lv' := [(1, .long (rsum (σ.1 (4 * q + ro)).2 (31 * csR σ (4 * q + ro) + lN (σ.1 (4 * q + ro)).1) (u + 1))), (5, .int (nI u)), (4, .int (nI ro)), (3, .int (nI q)), (0, .ref (ad 69))]) hx hb dX3_checksum_77 rfl hl (by decide) rfl (fun ls hl => ?_)
                    refine lv_iinc (v := nI (u + 1)) (lv' := [(5, .int (nI (u + 1))), (1, .long (rsum (σ.1 (4 * q + ro)).2 (31 * csR σ (4 * q + ro) + lN (σ.1 (4 * q + ro)).1) (u + 1))), (4, .int (nI ro)), (3, .int (nI q)), (0, .ref (ad 69))]) hx hb dX3_checksum_78 hl (k := 1) rfl (by exact nI_add u 1) (by decide) rfl (fun ls hl => ?_)
                    refine lv_goto (tgt := 45) hx hb dX3_checksum_81 (by decide) ?_
                    exact ih_41 (u + 1) (by omega) (by omega) _ _ hP hS ls (lv_sub hl [0, 1, 2, 3, 4] rfl)
              exact key_39 _ 0 (by omega) (Nat.lt_succ_self _) _ _ hP hS ls (lv_sub hl [0, 1, 2, 3, 4] rfl)
        exact key_31 _ 0 (by omega) (Nat.lt_succ_self _) _ _ hP hS ls (lv_sub hl [0, 1, 2, 3] rfl)
  exact key_12 _ 0 (by omega) (Nat.lt_succ_self _) _ _ hP hS ls (lv_sub hl [0, 1, 2] rfl)
