section GZ
variable {p : Program} {l : Launch} {e : Env} {R : Room} {s : State} {m : MethodId} {args : Array Value} {below : List Frame} {meth : Method} {c : Code} {H : Heap} {locs : List Loc} {cells slots : Nat} {Q : State → Prop}
variable {cc : ByteArray} {pc : Nat} {ls : Array Slot} {rest : List Value} {D : va_G} {cT : Nat → ClassId} {n : Nat} {ad : Nat → Nat} {A : Nat → Prop} {G : Nat → va_E}
theorem g_zast (hx : p.tables.exec = Jvm.exec) (hb : c.code = cc) (hK : va_K D vwCl (tysC cT) s) (hP : va_P D vwCl (gw n ad G) H) (hD : ∀ G, va_D A (gw n ad G)) (hS : va_S A s.heap H locs) {i N : Nat} (hi : i < n) {f : Nat → Nat} (hG : G i = aZ cT N f) {j : Nat} {x : Nat} (hx16 : x ≤ 1) (hj : j < N) (hN : N < 2 ^ 31) (hdg : decode cc pc = .ok (.bastore, 1))
    (kk : ∀ (G1 : Nat → va_E) (H1 : Heap) (locs1 : List Loc), G1 i = aZ cT N (va_up f j x) → (∀ k, k ≠ i → G1 k = G k) → va_P D vwCl (gw n ad G1) H1 → va_S A s.heap H1 locs1 → W p l e R s m args below meth c H1 locs1 cells slots Q (F0 m (pc + 1) ls rest)) : W p l e R s m args below meth c H locs cells slots Q (F0 m pc ls (.int (nI x) :: .int (nI j) :: .ref (ad i) :: rest)) := by
  refine va_zast hx hb hK hP (hD G) hS i 3 (gw_get hi hG) rfl (vp_in_nI hj hN) hdg (fun H1 locs1 h1 _ h3 => ?_)
  rw [nI_clamp (Nat.lt_trans hj hN), gw_set _ hi] at h1
  refine kk _ H1 locs1 ?_ (fun k hk => va_up_ne _ _ hk) h1 h3
  rw [va_up_self]
  have e9 : vp_nar .boolean (nI x) = nI x := by (unfold vp_nar; rw [(nar_bool hx16).1])
  rw [e9, upd_nI]; rfl
end GZ

set_option maxHeartbeats 4000000 in
set_option maxRecDepth 100000 in
theorem mX3_opened (l : Launch) (D : va_G) (cT : Nat → ClassId) (n : Nat) (ad : Nat → Nat) (A : Nat → Prop) (hD : ∀ G, va_D A (gw n ad G)) (G : Nat → va_E) (hn : 114 ≤ n) (σ : TY) (hI : YI σ) (th : Nat) (hM : MW cT ad G σ th) (b q ro a t : Nat) (hb6 : b < 6) (hq : q < 3) (hro : ro < 4) (hat : a ≤ t) (htc : t ≤ (σ.1 (4 * q + ro)).1) : Met l yX3_opened (wA yX3_opened cX3_opened 7 (some .int)) ({ frames := 0, cells := 0, slots := 0, locals := 0 } : Room) (PG D cT n ad A G [.ref (ad 69), .int (nI b), .int (nI q), .int (nI ro), .int (nI a), .int (nI t)]) (QG D n ad A (fun v G1 => (v = some (.int (nI (t - a))) ∧ MW cT ad G1 (setB σ b (openB (σ.1 (4 * q + ro)).2 a t (if q = 2 then 1 else 0))) th) ∧ ∀ j, (j < 69 ∨ 114 ≤ j) → G1 j = G j)) 0 0 A := by
  refine Met.ofG (cc := cX3_opened) (maxL := 7) (ret := (some .int)) (by decide) (Nat.le_of_ble_eq_true rfl) ?_
  intro p e s m args below meth c Q hQ hx hb hr hml hlocks hown hw hP hK hE hA hS ls hl
  have hl : lv_has ls 7 [(0, .ref (ad 69)), (1, .int (nI b)), (2, .int (nI q)), (3, .int (nI ro)), (4, .int (nI a)), (5, .int (nI t))] := hl
  obtain ⟨rf, sf, pf, zf, xf, kf, lf, mf, hC, hMA⟩ := hM
  obtain ⟨hsz, hrv⟩ := hMA.1 q (by omega) ro (by omega)
  have hrc := hI.1 (4 * q + ro) (by omega)
  obtain ⟨hz, hm, hxx, hpp, hkl⟩ := hMA.2 b (by omega)
  obtain ⟨hit, hbx⟩ := hI.2 b (by omega)
  have hcap := BI_cap hit
  have h48 := hit.1
  refine lv_aload_n hx hb dX3_opened_0 rfl (lv_at hl 0 rfl) ?_
  refine g_get (C := RX3) (T := TX3) (N := 9) hx hb hw inX3 hown hK hP (i := 69) (by omega) hC.1 rfl 3 (by decide) (hw _ wf_X3_24) rfl dX3_opened_1 ?_
  refine lv_iload_n hx hb dX3_opened_4 rfl (lv_at hl 1 rfl) ?_
  refine lv_iload hx hb dX3_opened_5 (lv_at hl 5 rfl) ?_
  refine lv_iload hx hb dX3_opened_7 (lv_at hl 4 rfl) ?_
  refine lv_isub hx hb dX3_opened_9 ?_
  refine t_eqi (nI (t - a)) (pk_sub (by omega)) ?_
  refine g_iast hx hb hK hP hD hS (i := 97) (by omega) hC.2.2.2.2.2.2.2.2.1 (by omega) (by omega) dX3_opened_10 (fun G_1 H locs hg_G_1 ho_G_1 hP hS => ?_)
  have hc_2 : G_1 69 = .inr (5, [.ref (ad 70), .ref (ad 86), .ref (ad 90), .ref (ad 97), .ref (ad 98), .ref (ad 99), .ref (ad 106), .ref (ad 113), .int (nI th)]) := (ho_G_1 _ (by omega)).trans hC.1
  have hc_3 : G_1 70 = aQ (cT 10) 3 (q3 ad) := (ho_G_1 _ (by omega)).trans hC.2.1
  have hc_4 : G_1 86 = aQ (cT 8) 3 (qS ad) := (ho_G_1 _ (by omega)).trans hC.2.2.2.2.1
  have hc_5 : G_1 90 = aQ (cT 7) 6 (qP ad) := (ho_G_1 _ (by omega)).trans hC.2.2.2.2.2.2.1
  have hc_6 : G_1 97 = aI cT 6 (va_up zf b (t - a)) := hg_G_1
  have hc_7 : G_1 98 = aZ cT 6 xf := (ho_G_1 _ (by omega)).trans hC.2.2.2.2.2.2.2.2.2.1
  have hc_8 : G_1 99 = aQ (cT 9) 6 (qK ad) := (ho_G_1 _ (by omega)).trans hC.2.2.2.2.2.2.2.2.2.2.1
  have hc_9 : G_1 106 = aQ (cT 8) 6 (qL ad) := (ho_G_1 _ (by omega)).trans hC.2.2.2.2.2.2.2.2.2.2.2.2.1
  have hc_10 : G_1 113 = aI cT 6 mf := (ho_G_1 _ (by omega)).trans hC.2.2.2.2.2.2.2.2.2.2.2.2.2.2.1
  have hc_11 : G_1 (71 + 5 * q) = aQ (cT 7) 4 (q4 ad q) := (ho_G_1 _ (by omega)).trans (hC.2.2.1 q (by omega))
  have hc_12 : G_1 (87 + q) = aI cT 4 (sf q) := (ho_G_1 _ (by omega)).trans (hC.2.2.2.2.2.1 q (by omega))
  have hc_13 : G_1 (72 + 5 * q + ro) = aJ cT 48 (rf q ro) := (ho_G_1 _ (by omega)).trans (hC.2.2.2.1 q (by omega) ro (by omega))
  have hc_14 : G_1 (91 + b) = aJ cT 48 (pf b) := (ho_G_1 _ (by omega)).trans (hC.2.2.2.2.2.2.2.1 b (by omega))
  have hc_15 : G_1 (100 + b) = aC cT 128 (kf b) := (ho_G_1 _ (by omega)).trans (hC.2.2.2.2.2.2.2.2.2.2.2.1 b (by omega))
  have hc_16 : G_1 (107 + b) = aI cT 128 (lf b) := (ho_G_1 _ (by omega)).trans (hC.2.2.2.2.2.2.2.2.2.2.2.2.2.1 b (by omega))
  have hfr_17 : ∀ j, (j ≠ 69 ∧ j ≠ 91 + b ∧ j ≠ 97 ∧ j ≠ 98 ∧ j ≠ 100 + b ∧ j ≠ 107 + b ∧ j ≠ 113) → G_1 j = G j := fun j hj => (ho_G_1 j (by omega)).trans (rfl)
  refine lv_iload hx hb dX3_opened_11 (lv_at hl 4 rfl) ?_
  refine lv_istore (lv' := [(6, .int (nI a)), (0, .ref (ad 69)), (1, .int (nI b)), (2, .int (nI q)), (3, .int (nI ro)), (4, .int (nI a)), (5, .int (nI t))]) hx hb dX3_opened_13 hl (by decide) rfl (fun ls hl => ?_)
  have hg0 := gvF_0 (pf b) 0 (fun j => rf q ro (a + j))
  have key_18 : ∀ (fu : Nat) (u : Nat), (a + u ≤ t) → (t - (a + u)) < fu → ∀ (Gl : Nat → va_E) (H : Heap) (locs : List Loc), (∀ j, j ≠ 91 + b → Gl j = G_1 j) → (Gl (91 + b) = aJ cT 48 (gvF (pf b) 0 u (fun j => rf q ro (a + j)))) → va_P D vwCl (gw n ad Gl) H → va_S A s.heap H locs → ∀ ls : Array Slot, lv_has ls 7 [(6, .int (nI (a + u))), (5, .int (nI t)), (4, .int (nI a)), (3, .int (nI ro)), (2, .int (nI q)), (1, .int (nI b)), (0, .ref (ad 69))] → W p l e ({ frames := 0, cells := 0, slots := 0, locals := 0 } : Room) s m args below meth c H locs 0 0 Q (F0 m 15 ls []) := by
    intro fu_19
    induction fu_19 with
    | zero => intros; exfalso; omega
    | succ fu_19 ih_20 =>
      intro u hu hfu_21 Gl H locs hfL hRL hP hS ls hl
      have hc_22 : Gl 69 = .inr (5, [.ref (ad 70), .ref (ad 86), .ref (ad 90), .ref (ad 97), .ref (ad 98), .ref (ad 99), .ref (ad 106), .ref (ad 113), .int (nI th)]) := (hfL _ (by omega)).trans (hc_2)
      have hc_23 : Gl 70 = aQ (cT 10) 3 (q3 ad) := (hfL _ (by omega)).trans (hc_3)
      have hc_24 : Gl 86 = aQ (cT 8) 3 (qS ad) := (hfL _ (by omega)).trans (hc_4)
      have hc_25 : Gl 90 = aQ (cT 7) 6 (qP ad) := (hfL _ (by omega)).trans (hc_5)
      have hc_26 : Gl 97 = aI cT 6 (va_up zf b (t - a)) := (hfL _ (by omega)).trans (hc_6)
      have hc_27 : Gl 98 = aZ cT 6 xf := (hfL _ (by omega)).trans (hc_7)
      have hc_28 : Gl 99 = aQ (cT 9) 6 (qK ad) := (hfL _ (by omega)).trans (hc_8)
      have hc_29 : Gl 106 = aQ (cT 8) 6 (qL ad) := (hfL _ (by omega)).trans (hc_9)
      have hc_30 : Gl 113 = aI cT 6 mf := (hfL _ (by omega)).trans (hc_10)
      have hc_31 : Gl (71 + 5 * q) = aQ (cT 7) 4 (q4 ad q) := (hfL _ (by omega)).trans (hc_11)
      have hc_32 : Gl (87 + q) = aI cT 4 (sf q) := (hfL _ (by omega)).trans (hc_12)
      have hc_33 : Gl (72 + 5 * q + ro) = aJ cT 48 (rf q ro) := (hfL _ (by omega)).trans (hc_13)
      have hc_34 : Gl (100 + b) = aC cT 128 (kf b) := (hfL _ (by omega)).trans (hc_15)
      have hc_35 : Gl (107 + b) = aI cT 128 (lf b) := (hfL _ (by omega)).trans (hc_16)
      have hfM_36 : ∀ j, (j ≠ 69 ∧ j ≠ 91 + b ∧ j ≠ 97 ∧ j ≠ 98 ∧ j ≠ 100 + b ∧ j ≠ 107 + b ∧ j ≠ 113) → Gl j = G j := fun j hj => (hfL j (by omega)).trans (hfr_17 j hj)
      refine lv_iload hx hb dX3_opened_15 (lv_at hl 0 rfl) ?_
      refine lv_iload hx hb dX3_opened_17 (lv_at hl 1 rfl) ?_
      refine t_icmp_ge (tgt := 51) hx hb dX3_opened_19 (by decide) (by omega) (by omega) (fun c_37 => ?_) (fun c_37 => ?_)
      · skip
        obtain rfl : t = a + u := by omega
        refine lv_aload_n hx hb dX3_opened_51 rfl (lv_at hl 6 rfl) ?_
        refine g_get (C := RX3) (T := TX3) (N := 9) hx hb hw inX3 hown hK hP (i := 69) (by omega) hc_22 rfl 4 (by decide) (hw _ wf_X3_28) rfl dX3_opened_52 ?_
        refine lv_iload_n hx hb dX3_opened_55 rfl (lv_at hl 5 rfl) ?_
        refine lv_iload_n hx hb dX3_opened_56 rfl (lv_at hl 4 rfl) ?_
        refine lv_iconst (v := nI 2) hx hb dX3_opened_57 (by decide) ?_
        refine t_icmp_ne (tgt := 65) hx hb dX3_opened_58 (by decide) (by omega) (by omega) (fun c_38 => ?_) (fun c_38 => ?_)
        · skip
          refine lv_iconst (v := nI 0) hx hb dX3_opened_65 (by decide) ?_
          refine g_zast hx hb hK hP hD hS (i := 98) (by omega) hc_27 (x := 0) (by omega) (by omega) (by omega) dX3_opened_66 (fun G_39 H locs hg_G_39 ho_G_39 hP hS => ?_)
          have hc_40 : G_39 69 = .inr (5, [.ref (ad 70), .ref (ad 86), .ref (ad 90), .ref (ad 97), .ref (ad 98), .ref (ad 99), .ref (ad 106), .ref (ad 113), .int (nI th)]) := (ho_G_39 _ (by omega)).trans hc_22
          have hc_41 : G_39 70 = aQ (cT 10) 3 (q3 ad) := (ho_G_39 _ (by omega)).trans hc_23
          have hc_42 : G_39 86 = aQ (cT 8) 3 (qS ad) := (ho_G_39 _ (by omega)).trans hc_24
          have hc_43 : G_39 90 = aQ (cT 7) 6 (qP ad) := (ho_G_39 _ (by omega)).trans hc_25
          have hc_44 : G_39 97 = aI cT 6 (va_up zf b ((a + u) - a)) := (ho_G_39 _ (by omega)).trans hc_26
          have hc_45 : G_39 98 = aZ cT 6 (va_up xf b 0) := hg_G_39
          have hc_46 : G_39 99 = aQ (cT 9) 6 (qK ad) := (ho_G_39 _ (by omega)).trans hc_28
          have hc_47 : G_39 106 = aQ (cT 8) 6 (qL ad) := (ho_G_39 _ (by omega)).trans hc_29
          have hc_48 : G_39 113 = aI cT 6 mf := (ho_G_39 _ (by omega)).trans hc_30
          have hc_49 : G_39 (71 + 5 * q) = aQ (cT 7) 4 (q4 ad q) := (ho_G_39 _ (by omega)).trans hc_31
          have hc_50 : G_39 (87 + q) = aI cT 4 (sf q) := (ho_G_39 _ (by omega)).trans hc_32
          have hc_51 : G_39 (72 + 5 * q + ro) = aJ cT 48 (rf q ro) := (ho_G_39 _ (by omega)).trans hc_33
          have hc_52 : G_39 (91 + b) = aJ cT 48 (gvF (pf b) 0 u (fun j => rf q ro (a + j))) := (ho_G_39 _ (by omega)).trans hRL
          have hc_53 : G_39 (100 + b) = aC cT 128 (kf b) := (ho_G_39 _ (by omega)).trans hc_34
          have hc_54 : G_39 (107 + b) = aI cT 128 (lf b) := (ho_G_39 _ (by omega)).trans hc_35
          have hfr_55 : ∀ j, (j ≠ 69 ∧ j ≠ 91 + b ∧ j ≠ 97 ∧ j ≠ 98 ∧ j ≠ 100 + b ∧ j ≠ 107 + b ∧ j ≠ 113) → G_39 j = G j := fun j hj => (ho_G_39 j (by omega)).trans (hfM_36 j hj)
          refine lv_aload_n hx hb dX3_opened_67 rfl (lv_at hl 6 rfl) ?_
          refine g_get (C := RX3) (T := TX3) (N := 9) hx hb hw inX3 hown hK hP (i := 69) (by omega) hc_40 rfl 5 (by decide) (hw _ wf_X3_34) rfl dX3_opened_68 ?_
          refine lv_iload_n hx hb dX3_opened_71 rfl (lv_at hl 5 rfl) ?_
          refine g_aald hx hb hK hP 9 (i := 99) (by omega) hc_46 rfl rfl (k := (ad (100 + b))) (by omega) (by omega) (qK_at (by omega)) dX3_opened_72 ?_
          refine lv_iconst (v := nI 0) hx hb dX3_opened_73 (by decide) ?_
          refine lv_bipush (v := nI 112) hx hb dX3_opened_74 (by decide) ?_
          refine g_cast hx hb hK hP hD hS (i := (100 + b)) (by omega) hc_53 (x := 112) (by omega) (by omega) (by omega) dX3_opened_76 (fun G_56 H locs hg_G_56 ho_G_56 hP hS => ?_)
          have hc_57 : G_56 69 = .inr (5, [.ref (ad 70), .ref (ad 86), .ref (ad 90), .ref (ad 97), .ref (ad 98), .ref (ad 99), .ref (ad 106), .ref (ad 113), .int (nI th)]) := (ho_G_56 _ (by omega)).trans hc_40
          have hc_58 : G_56 70 = aQ (cT 10) 3 (q3 ad) := (ho_G_56 _ (by omega)).trans hc_41
          have hc_59 : G_56 86 = aQ (cT 8) 3 (qS ad) := (ho_G_56 _ (by omega)).trans hc_42
          have hc_60 : G_56 90 = aQ (cT 7) 6 (qP ad) := (ho_G_56 _ (by omega)).trans hc_43
          have hc_61 : G_56 97 = aI cT 6 (va_up zf b ((a + u) - a)) := (ho_G_56 _ (by omega)).trans hc_44
          have hc_62 : G_56 98 = aZ cT 6 (va_up xf b 0) := (ho_G_56 _ (by omega)).trans hc_45
          have hc_63 : G_56 99 = aQ (cT 9) 6 (qK ad) := (ho_G_56 _ (by omega)).trans hc_46
          have hc_64 : G_56 106 = aQ (cT 8) 6 (qL ad) := (ho_G_56 _ (by omega)).trans hc_47
          have hc_65 : G_56 113 = aI cT 6 mf := (ho_G_56 _ (by omega)).trans hc_48
          have hc_66 : G_56 (71 + 5 * q) = aQ (cT 7) 4 (q4 ad q) := (ho_G_56 _ (by omega)).trans hc_49
          have hc_67 : G_56 (87 + q) = aI cT 4 (sf q) := (ho_G_56 _ (by omega)).trans hc_50
          have hc_68 : G_56 (72 + 5 * q + ro) = aJ cT 48 (rf q ro) := (ho_G_56 _ (by omega)).trans hc_51
          have hc_69 : G_56 (91 + b) = aJ cT 48 (gvF (pf b) 0 u (fun j => rf q ro (a + j))) := (ho_G_56 _ (by omega)).trans hc_52
          have hc_70 : G_56 (100 + b) = aC cT 128 (va_up (kf b) 0 112) := hg_G_56
          have hc_71 : G_56 (107 + b) = aI cT 128 (lf b) := (ho_G_56 _ (by omega)).trans hc_54
          have hfr_72 : ∀ j, (j ≠ 69 ∧ j ≠ 91 + b ∧ j ≠ 97 ∧ j ≠ 98 ∧ j ≠ 100 + b ∧ j ≠ 107 + b ∧ j ≠ 113) → G_56 j = G j := fun j hj => (ho_G_56 j (by omega)).trans (hfr_55 j hj)
          refine lv_aload_n hx hb dX3_opened_77 rfl (lv_at hl 6 rfl) ?_
          refine g_get (C := RX3) (T := TX3) (N := 9) hx hb hw inX3 hown hK hP (i := 69) (by omega) hc_57 rfl 6 (by decide) (hw _ wf_X3_37) rfl dX3_opened_78 ?_
          refine lv_iload_n hx hb dX3_opened_81 rfl (lv_at hl 5 rfl) ?_
          refine g_aald hx hb hK hP 8 (i := 106) (by omega) hc_64 rfl rfl (k := (ad (107 + b))) (by omega) (by omega) (qL_at (by omega)) dX3_opened_82 ?_
          refine lv_iconst (v := nI 0) hx hb dX3_opened_83 (by decide) ?_
          refine lv_iload hx hb dX3_opened_84 (lv_at hl 1 rfl) ?_
          refine lv_iload hx hb dX3_opened_86 (lv_at hl 2 rfl) ?_
          refine lv_isub hx hb dX3_opened_88 ?_
          refine t_eqi (nI ((a + u) - a)) (pk_sub (by omega)) ?_
          refine g_iast hx hb hK hP hD hS (i := (107 + b)) (by omega) hc_71 (by omega) (by omega) dX3_opened_89 (fun G_73 H locs hg_G_73 ho_G_73 hP hS => ?_)
          have hc_74 : G_73 69 = .inr (5, [.ref (ad 70), .ref (ad 86), .ref (ad 90), .ref (ad 97), .ref (ad 98), .ref (ad 99), .ref (ad 106), .ref (ad 113), .int (nI th)]) := (ho_G_73 _ (by omega)).trans hc_57
          have hc_75 : G_73 70 = aQ (cT 10) 3 (q3 ad) := (ho_G_73 _ (by omega)).trans hc_58
          have hc_76 : G_73 86 = aQ (cT 8) 3 (qS ad) := (ho_G_73 _ (by omega)).trans hc_59
          have hc_77 : G_73 90 = aQ (cT 7) 6 (qP ad) := (ho_G_73 _ (by omega)).trans hc_60
          have hc_78 : G_73 97 = aI cT 6 (va_up zf b ((a + u) - a)) := (ho_G_73 _ (by omega)).trans hc_61
          have hc_79 : G_73 98 = aZ cT 6 (va_up xf b 0) := (ho_G_73 _ (by omega)).trans hc_62
          have hc_80 : G_73 99 = aQ (cT 9) 6 (qK ad) := (ho_G_73 _ (by omega)).trans hc_63
          have hc_81 : G_73 106 = aQ (cT 8) 6 (qL ad) := (ho_G_73 _ (by omega)).trans hc_64
          have hc_82 : G_73 113 = aI cT 6 mf := (ho_G_73 _ (by omega)).trans hc_65
          have hc_83 : G_73 (71 + 5 * q) = aQ (cT 7) 4 (q4 ad q) := (ho_G_73 _ (by omega)).trans hc_66
          have hc_84 : G_73 (87 + q) = aI cT 4 (sf q) := (ho_G_73 _ (by omega)).trans hc_67
          have hc_85 : G_73 (72 + 5 * q + ro) = aJ cT 48 (rf q ro) := (ho_G_73 _ (by omega)).trans hc_68
          have hc_86 : G_73 (91 + b) = aJ cT 48 (gvF (pf b) 0 u (fun j => rf q ro (a + j))) := (ho_G_73 _ (by omega)).trans hc_69
          have hc_87 : G_73 (100 + b) = aC cT 128 (va_up (kf b) 0 112) := (ho_G_73 _ (by omega)).trans hc_70
          have hc_88 : G_73 (107 + b) = aI cT 128 (va_up (lf b) 0 ((a + u) - a)) := hg_G_73
          have hfr_89 : ∀ j, (j ≠ 69 ∧ j ≠ 91 + b ∧ j ≠ 97 ∧ j ≠ 98 ∧ j ≠ 100 + b ∧ j ≠ 107 + b ∧ j ≠ 113) → G_73 j = G j := fun j hj => (ho_G_73 j (by omega)).trans (hfr_72 j hj)
          refine lv_aload_n hx hb dX3_opened_90 rfl (lv_at hl 6 rfl) ?_
          refine g_get (C := RX3) (T := TX3) (N := 9) hx hb hw inX3 hown hK hP (i := 69) (by omega) hc_74 rfl 7 (by decide) (hw _ wf_X3_40) rfl dX3_opened_91 ?_
          refine lv_iload_n hx hb dX3_opened_94 rfl (lv_at hl 5 rfl) ?_
          refine lv_iconst (v := nI 1) hx hb dX3_opened_95 (by decide) ?_
          refine g_iast hx hb hK hP hD hS (i := 113) (by omega) hc_82 (by omega) (by omega) dX3_opened_96 (fun G_90 H locs hg_G_90 ho_G_90 hP hS => ?_)
          have hc_91 : G_90 69 = .inr (5, [.ref (ad 70), .ref (ad 86), .ref (ad 90), .ref (ad 97), .ref (ad 98), .ref (ad 99), .ref (ad 106), .ref (ad 113), .int (nI th)]) := (ho_G_90 _ (by omega)).trans hc_74
          have hc_92 : G_90 70 = aQ (cT 10) 3 (q3 ad) := (ho_G_90 _ (by omega)).trans hc_75
          have hc_93 : G_90 86 = aQ (cT 8) 3 (qS ad) := (ho_G_90 _ (by omega)).trans hc_76
          have hc_94 : G_90 90 = aQ (cT 7) 6 (qP ad) := (ho_G_90 _ (by omega)).trans hc_77
          have hc_95 : G_90 97 = aI cT 6 (va_up zf b ((a + u) - a)) := (ho_G_90 _ (by omega)).trans hc_78
          have hc_96 : G_90 98 = aZ cT 6 (va_up xf b 0) := (ho_G_90 _ (by omega)).trans hc_79
          have hc_97 : G_90 99 = aQ (cT 9) 6 (qK ad) := (ho_G_90 _ (by omega)).trans hc_80
          have hc_98 : G_90 106 = aQ (cT 8) 6 (qL ad) := (ho_G_90 _ (by omega)).trans hc_81
          have hc_99 : G_90 113 = aI cT 6 (va_up mf b 1) := hg_G_90
          have hc_100 : G_90 (71 + 5 * q) = aQ (cT 7) 4 (q4 ad q) := (ho_G_90 _ (by omega)).trans hc_83
          have hc_101 : G_90 (87 + q) = aI cT 4 (sf q) := (ho_G_90 _ (by omega)).trans hc_84
          have hc_102 : G_90 (72 + 5 * q + ro) = aJ cT 48 (rf q ro) := (ho_G_90 _ (by omega)).trans hc_85
          have hc_103 : G_90 (91 + b) = aJ cT 48 (gvF (pf b) 0 u (fun j => rf q ro (a + j))) := (ho_G_90 _ (by omega)).trans hc_86
          have hc_104 : G_90 (100 + b) = aC cT 128 (va_up (kf b) 0 112) := (ho_G_90 _ (by omega)).trans hc_87
          have hc_105 : G_90 (107 + b) = aI cT 128 (va_up (lf b) 0 ((a + u) - a)) := (ho_G_90 _ (by omega)).trans hc_88
          have hfr_106 : ∀ j, (j ≠ 69 ∧ j ≠ 91 + b ∧ j ≠ 97 ∧ j ≠ 98 ∧ j ≠ 100 + b ∧ j ≠ 107 + b ∧ j ≠ 113) → G_90 j = G j := fun j hj => (ho_G_90 j (by omega)).trans (hfr_89 j hj)
          refine lv_iload hx hb dX3_opened_97 (lv_at hl 1 rfl) ?_
          refine lv_iload hx hb dX3_opened_99 (lv_at hl 2 rfl) ?_
          refine lv_isub hx hb dX3_opened_101 ?_
          refine t_eqi (nI ((a + u) - a)) (pk_sub (by omega)) ?_
          refine g_ret hQ hx hb hr hlocks rfl hP hS (⟨⟨rfl, MW.bench hC hMA hb6 hc_91 hc_103 hc_95 hc_96 hc_104 hc_105 hc_99 (up_lt (hC.2.2.2.2.2.2.2.2.2.2.2.2.2.2.2.1 b hb6) (by omega)) (up_lt (hC.2.2.2.2.2.2.2.2.2.2.2.2.2.2.2.2 b hb6) (by omega)) (fun j a1 a2 a3 a4 a5 a6 a7 a8 a9 => hfr_106 j ⟨a3, a4, a5, a6, a7, a8, a9⟩) (va_up_self _ _ _) (va_up_self _ _ _) (by rw [va_up_self]; show _ = (if q = 2 then 1 else 0); rw [if_neg (by omega)]) (fun k hk => (gvF_in (Nat.zero_le _) (by have hk9 : k < a + u - a := hk; omega)).trans (hrv (a + (k - 0)) (by have hk9 : k < a + u - a := hk; omega))) (fun k hk => by have hk9 : k < 1 := hk; rw [show k = 0 by omega, va_up_self, va_up_self]; exact ⟨rfl, rfl⟩) (fun c hc => ⟨va_up_ne _ _ hc, va_up_ne _ _ hc, va_up_ne _ _ hc⟩)⟩, fun j hj => hfr_106 j (by omega)⟩) (Nat.le_of_ble_eq_true rfl) (Nat.le_of_ble_eq_true rfl) dX3_opened_102
        · skip
          refine lv_iconst (v := nI 1) hx hb dX3_opened_61 (by decide) ?_
          refine lv_goto (tgt := 66) hx hb dX3_opened_62 (by decide) ?_
          refine g_zast hx hb hK hP hD hS (i := 98) (by omega) hc_27 (x := 1) (by omega) (by omega) (by omega) dX3_opened_66 (fun G_107 H locs hg_G_107 ho_G_107 hP hS => ?_)
          have hc_108 : G_107 69 = .inr (5, [.ref (ad 70), .ref (ad 86), .ref (ad 90), .ref (ad 97), .ref (ad 98), .ref (ad 99), .ref (ad 106), .ref (ad 113), .int (nI th)]) := (ho_G_107 _ (by omega)).trans hc_22
          have hc_109 : G_107 70 = aQ (cT 10) 3 (q3 ad) := (ho_G_107 _ (by omega)).trans hc_23
          have hc_110 : G_107 86 = aQ (cT 8) 3 (qS ad) := (ho_G_107 _ (by omega)).trans hc_24
          have hc_111 : G_107 90 = aQ (cT 7) 6 (qP ad) := (ho_G_107 _ (by omega)).trans hc_25
          have hc_112 : G_107 97 = aI cT 6 (va_up zf b ((a + u) - a)) := (ho_G_107 _ (by omega)).trans hc_26
          have hc_113 : G_107 98 = aZ cT 6 (va_up xf b 1) := hg_G_107
          have hc_114 : G_107 99 = aQ (cT 9) 6 (qK ad) := (ho_G_107 _ (by omega)).trans hc_28
          have hc_115 : G_107 106 = aQ (cT 8) 6 (qL ad) := (ho_G_107 _ (by omega)).trans hc_29
          have hc_116 : G_107 113 = aI cT 6 mf := (ho_G_107 _ (by omega)).trans hc_30
          have hc_117 : G_107 (71 + 5 * q) = aQ (cT 7) 4 (q4 ad q) := (ho_G_107 _ (by omega)).trans hc_31
          have hc_118 : G_107 (87 + q) = aI cT 4 (sf q) := (ho_G_107 _ (by omega)).trans hc_32
          have hc_119 : G_107 (72 + 5 * q + ro) = aJ cT 48 (rf q ro) := (ho_G_107 _ (by omega)).trans hc_33
          have hc_120 : G_107 (91 + b) = aJ cT 48 (gvF (pf b) 0 u (fun j => rf q ro (a + j))) := (ho_G_107 _ (by omega)).trans hRL
          have hc_121 : G_107 (100 + b) = aC cT 128 (kf b) := (ho_G_107 _ (by omega)).trans hc_34
          have hc_122 : G_107 (107 + b) = aI cT 128 (lf b) := (ho_G_107 _ (by omega)).trans hc_35
          have hfr_123 : ∀ j, (j ≠ 69 ∧ j ≠ 91 + b ∧ j ≠ 97 ∧ j ≠ 98 ∧ j ≠ 100 + b ∧ j ≠ 107 + b ∧ j ≠ 113) → G_107 j = G j := fun j hj => (ho_G_107 j (by omega)).trans (hfM_36 j hj)
          refine lv_aload_n hx hb dX3_opened_67 rfl (lv_at hl 6 rfl) ?_
          refine g_get (C := RX3) (T := TX3) (N := 9) hx hb hw inX3 hown hK hP (i := 69) (by omega) hc_108 rfl 5 (by decide) (hw _ wf_X3_34) rfl dX3_opened_68 ?_
          refine lv_iload_n hx hb dX3_opened_71 rfl (lv_at hl 5 rfl) ?_
          refine g_aald hx hb hK hP 9 (i := 99) (by omega) hc_114 rfl rfl (k := (ad (100 + b))) (by omega) (by omega) (qK_at (by omega)) dX3_opened_72 ?_
          refine lv_iconst (v := nI 0) hx hb dX3_opened_73 (by decide) ?_
          refine lv_bipush (v := nI 112) hx hb dX3_opened_74 (by decide) ?_
          refine g_cast hx hb hK hP hD hS (i := (100 + b)) (by omega) hc_121 (x := 112) (by omega) (by omega) (by omega) dX3_opened_76 (fun G_124 H locs hg_G_124 ho_G_124 hP hS => ?_)
          have hc_125 : G_124 69 = .inr (5, [.ref (ad 70), .ref (ad 86), .ref (ad 90), .ref (ad 97), .ref (ad 98), .ref (ad 99), .ref (ad 106), .ref (ad 113), .int (nI th)]) := (ho_G_124 _ (by omega)).trans hc_108
          have hc_126 : G_124 70 = aQ (cT 10) 3 (q3 ad) := (ho_G_124 _ (by omega)).trans hc_109
          have hc_127 : G_124 86 = aQ (cT 8) 3 (qS ad) := (ho_G_124 _ (by omega)).trans hc_110
          have hc_128 : G_124 90 = aQ (cT 7) 6 (qP ad) := (ho_G_124 _ (by omega)).trans hc_111
          have hc_129 : G_124 97 = aI cT 6 (va_up zf b ((a + u) - a)) := (ho_G_124 _ (by omega)).trans hc_112
          have hc_130 : G_124 98 = aZ cT 6 (va_up xf b 1) := (ho_G_124 _ (by omega)).trans hc_113
          have hc_131 : G_124 99 = aQ (cT 9) 6 (qK ad) := (ho_G_124 _ (by omega)).trans hc_114
          have hc_132 : G_124 106 = aQ (cT 8) 6 (qL ad) := (ho_G_124 _ (by omega)).trans hc_115
          have hc_133 : G_124 113 = aI cT 6 mf := (ho_G_124 _ (by omega)).trans hc_116
          have hc_134 : G_124 (71 + 5 * q) = aQ (cT 7) 4 (q4 ad q) := (ho_G_124 _ (by omega)).trans hc_117
          have hc_135 : G_124 (87 + q) = aI cT 4 (sf q) := (ho_G_124 _ (by omega)).trans hc_118
          have hc_136 : G_124 (72 + 5 * q + ro) = aJ cT 48 (rf q ro) := (ho_G_124 _ (by omega)).trans hc_119
          have hc_137 : G_124 (91 + b) = aJ cT 48 (gvF (pf b) 0 u (fun j => rf q ro (a + j))) := (ho_G_124 _ (by omega)).trans hc_120
          have hc_138 : G_124 (100 + b) = aC cT 128 (va_up (kf b) 0 112) := hg_G_124
          have hc_139 : G_124 (107 + b) = aI cT 128 (lf b) := (ho_G_124 _ (by omega)).trans hc_122
          have hfr_140 : ∀ j, (j ≠ 69 ∧ j ≠ 91 + b ∧ j ≠ 97 ∧ j ≠ 98 ∧ j ≠ 100 + b ∧ j ≠ 107 + b ∧ j ≠ 113) → G_124 j = G j := fun j hj => (ho_G_124 j (by omega)).trans (hfr_123 j hj)
          refine lv_aload_n hx hb dX3_opened_77 rfl (lv_at hl 6 rfl) ?_
          refine g_get (C := RX3) (T := TX3) (N := 9) hx hb hw inX3 hown hK hP (i := 69) (by omega) hc_125 rfl 6 (by decide) (hw _ wf_X3_37) rfl dX3_opened_78 ?_
          refine lv_iload_n hx hb dX3_opened_81 rfl (lv_at hl 5 rfl) ?_
          refine g_aald hx hb hK hP 8 (i := 106) (by omega) hc_132 rfl rfl (k := (ad (107 + b))) (by omega) (by omega) (qL_at (by omega)) dX3_opened_82 ?_
          refine lv_iconst (v := nI 0) hx hb dX3_opened_83 (by decide) ?_
          refine lv_iload hx hb dX3_opened_84 (lv_at hl 1 rfl) ?_
          refine lv_iload hx hb dX3_opened_86 (lv_at hl 2 rfl) ?_
          refine lv_isub hx hb dX3_opened_88 ?_
          refine t_eqi (nI ((a + u) - a)) (pk_sub (by omega)) ?_
          refine g_iast hx hb hK hP hD hS (i := (107 + b)) (by omega) hc_139 (by omega) (by omega) dX3_opened_89 (fun G_141 H locs hg_G_141 ho_G_141 hP hS => ?_)
          have hc_142 : G_141 69 = .inr (5, [.ref (ad 70), .ref (ad 86), .ref (ad 90), .ref (ad 97), .ref (ad 98), .ref (ad 99), .ref (ad 106), .ref (ad 113), .int (nI th)]) := (ho_G_141 _ (by omega)).trans hc_125
          have hc_143 : G_141 70 = aQ (cT 10) 3 (q3 ad) := (ho_G_141 _ (by omega)).trans hc_126
          have hc_144 : G_141 86 = aQ (cT 8) 3 (qS ad) := (ho_G_141 _ (by omega)).trans hc_127
          have hc_145 : G_141 90 = aQ (cT 7) 6 (qP ad) := (ho_G_141 _ (by omega)).trans hc_128
          have hc_146 : G_141 97 = aI cT 6 (va_up zf b ((a + u) - a)) := (ho_G_141 _ (by omega)).trans hc_129
          have hc_147 : G_141 98 = aZ cT 6 (va_up xf b 1) := (ho_G_141 _ (by omega)).trans hc_130
          have hc_148 : G_141 99 = aQ (cT 9) 6 (qK ad) := (ho_G_141 _ (by omega)).trans hc_131
          have hc_149 : G_141 106 = aQ (cT 8) 6 (qL ad) := (ho_G_141 _ (by omega)).trans hc_132
          have hc_150 : G_141 113 = aI cT 6 mf := (ho_G_141 _ (by omega)).trans hc_133
          have hc_151 : G_141 (71 + 5 * q) = aQ (cT 7) 4 (q4 ad q) := (ho_G_141 _ (by omega)).trans hc_134
          have hc_152 : G_141 (87 + q) = aI cT 4 (sf q) := (ho_G_141 _ (by omega)).trans hc_135
          have hc_153 : G_141 (72 + 5 * q + ro) = aJ cT 48 (rf q ro) := (ho_G_141 _ (by omega)).trans hc_136
          have hc_154 : G_141 (91 + b) = aJ cT 48 (gvF (pf b) 0 u (fun j => rf q ro (a + j))) := (ho_G_141 _ (by omega)).trans hc_137
          have hc_155 : G_141 (100 + b) = aC cT 128 (va_up (kf b) 0 112) := (ho_G_141 _ (by omega)).trans hc_138
          have hc_156 : G_141 (107 + b) = aI cT 128 (va_up (lf b) 0 ((a + u) - a)) := hg_G_141
          have hfr_157 : ∀ j, (j ≠ 69 ∧ j ≠ 91 + b ∧ j ≠ 97 ∧ j ≠ 98 ∧ j ≠ 100 + b ∧ j ≠ 107 + b ∧ j ≠ 113) → G_141 j = G j := fun j hj => (ho_G_141 j (by omega)).trans (hfr_140 j hj)
          refine lv_aload_n hx hb dX3_opened_90 rfl (lv_at hl 6 rfl) ?_
          refine g_get (C := RX3) (T := TX3) (N := 9) hx hb hw inX3 hown hK hP (i := 69) (by omega) hc_142 rfl 7 (by decide) (hw _ wf_X3_40) rfl dX3_opened_91 ?_
          refine lv_iload_n hx hb dX3_opened_94 rfl (lv_at hl 5 rfl) ?_
          refine lv_iconst (v := nI 1) hx hb dX3_opened_95 (by decide) ?_
          refine g_iast hx hb hK hP hD hS (i := 113) (by omega) hc_150 (by omega) (by omega) dX3_opened_96 (fun G_158 H locs hg_G_158 ho_G_158 hP hS => ?_)
          have hc_159 : G_158 69 = .inr (5, [.ref (ad 70), .ref (ad 86), .ref (ad 90), .ref (ad 97), .ref (ad 98), .ref (ad 99), .ref (ad 106), .ref (ad 113), .int (nI th)]) := (ho_G_158 _ (by omega)).trans hc_142
          have hc_160 : G_158 70 = aQ (cT 10) 3 (q3 ad) := (ho_G_158 _ (by omega)).trans hc_143
          have hc_161 : G_158 86 = aQ (cT 8) 3 (qS ad) := (ho_G_158 _ (by omega)).trans hc_144
          have hc_162 : G_158 90 = aQ (cT 7) 6 (qP ad) := (ho_G_158 _ (by omega)).trans hc_145
          have hc_163 : G_158 97 = aI cT 6 (va_up zf b ((a + u) - a)) := (ho_G_158 _ (by omega)).trans hc_146
          have hc_164 : G_158 98 = aZ cT 6 (va_up xf b 1) := (ho_G_158 _ (by omega)).trans hc_147
          have hc_165 : G_158 99 = aQ (cT 9) 6 (qK ad) := (ho_G_158 _ (by omega)).trans hc_148
          have hc_166 : G_158 106 = aQ (cT 8) 6 (qL ad) := (ho_G_158 _ (by omega)).trans hc_149
          have hc_167 : G_158 113 = aI cT 6 (va_up mf b 1) := hg_G_158
          have hc_168 : G_158 (71 + 5 * q) = aQ (cT 7) 4 (q4 ad q) := (ho_G_158 _ (by omega)).trans hc_151
          have hc_169 : G_158 (87 + q) = aI cT 4 (sf q) := (ho_G_158 _ (by omega)).trans hc_152
          have hc_170 : G_158 (72 + 5 * q + ro) = aJ cT 48 (rf q ro) := (ho_G_158 _ (by omega)).trans hc_153
          have hc_171 : G_158 (91 + b) = aJ cT 48 (gvF (pf b) 0 u (fun j => rf q ro (a + j))) := (ho_G_158 _ (by omega)).trans hc_154
          have hc_172 : G_158 (100 + b) = aC cT 128 (va_up (kf b) 0 112) := (ho_G_158 _ (by omega)).trans hc_155
          have hc_173 : G_158 (107 + b) = aI cT 128 (va_up (lf b) 0 ((a + u) - a)) := (ho_G_158 _ (by omega)).trans hc_156
          have hfr_174 : ∀ j, (j ≠ 69 ∧ j ≠ 91 + b ∧ j ≠ 97 ∧ j ≠ 98 ∧ j ≠ 100 + b ∧ j ≠ 107 + b ∧ j ≠ 113) → G_158 j = G j := fun j hj => (ho_G_158 j (by omega)).trans (hfr_157 j hj)
          refine lv_iload hx hb dX3_opened_97 (lv_at hl 1 rfl) ?_
          refine lv_iload hx hb dX3_opened_99 (lv_at hl 2 rfl) ?_
          refine lv_isub hx hb dX3_opened_101 ?_
          refine t_eqi (nI ((a + u) - a)) (pk_sub (by omega)) ?_
          refine g_ret hQ hx hb hr hlocks rfl hP hS (⟨⟨rfl, MW.bench hC hMA hb6 hc_159 hc_171 hc_163 hc_164 hc_172 hc_173 hc_167 (up_lt (hC.2.2.2.2.2.2.2.2.2.2.2.2.2.2.2.1 b hb6) (by omega)) (up_lt (hC.2.2.2.2.2.2.2.2.2.2.2.2.2.2.2.2 b hb6) (by omega)) (fun j a1 a2 a3 a4 a5 a6 a7 a8 a9 => hfr_174 j ⟨a3, a4, a5, a6, a7, a8, a9⟩) (va_up_self _ _ _) (va_up_self _ _ _) (by rw [va_up_self]; show _ = (if q = 2 then 1 else 0); rw [if_pos (by omega)]) (fun k hk => (gvF_in (Nat.zero_le _) (by have hk9 : k < a + u - a := hk; omega)).trans (hrv (a + (k - 0)) (by have hk9 : k < a + u - a := hk; omega))) (fun k hk => by have hk9 : k < 1 := hk; rw [show k = 0 by omega, va_up_self, va_up_self]; exact ⟨rfl, rfl⟩) (fun c hc => ⟨va_up_ne _ _ hc, va_up_ne _ _ hc, va_up_ne _ _ hc⟩)⟩, fun j hj => hfr_174 j (by omega)⟩) (Nat.le_of_ble_eq_true rfl) (Nat.le_of_ble_eq_true rfl) dX3_opened_102
      · skip
        refine lv_aload_n hx hb dX3_opened_22 rfl (lv_at hl 6 rfl) ?_
        refine g_get (C := RX3) (T := TX3) (N := 9) hx hb hw inX3 hown hK hP (i := 69) (by omega) hc_22 rfl 2 (by decide) (hw _ wf_X3_21) rfl dX3_opened_23 ?_
        refine lv_iload_n hx hb dX3_opened_26 rfl (lv_at hl 5 rfl) ?_
        refine g_aald hx hb hK hP 7 (i := 90) (by omega) hc_25 rfl rfl (k := (ad (91 + b))) (by omega) (by omega) (qP_at (by omega)) dX3_opened_27 ?_
        refine lv_iload hx hb dX3_opened_28 (lv_at hl 0 rfl) ?_
        refine lv_iload hx hb dX3_opened_30 (lv_at hl 2 rfl) ?_
        refine lv_isub hx hb dX3_opened_32 ?_
        refine t_eqi (nI ((a + u) - a)) (pk_sub (by omega)) ?_
        refine lv_aload_n hx hb dX3_opened_33 rfl (lv_at hl 6 rfl) ?_
        refine g_get (C := RX3) (T := TX3) (N := 9) hx hb hw inX3 hown hK hP (i := 69) (by omega) hc_22 rfl 0 (by decide) (hw _ wf_X3_11) rfl dX3_opened_34 ?_
        refine lv_iload_n hx hb dX3_opened_37 rfl (lv_at hl 4 rfl) ?_
        refine g_aald hx hb hK hP 10 (i := 70) (by omega) hc_23 rfl rfl (k := (ad (71 + 5 * q))) (by omega) (by omega) (q3_at (by omega)) dX3_opened_38 ?_
        refine lv_iload_n hx hb dX3_opened_39 rfl (lv_at hl 3 rfl) ?_
        refine g_aald hx hb hK hP 7 (i := (71 + 5 * q)) (by omega) hc_31 rfl rfl (k := (ad (72 + 5 * q + ro))) (by omega) (by omega) (q4_at (by omega)) dX3_opened_40 ?_
        refine lv_iload hx hb dX3_opened_41 (lv_at hl 0 rfl) ?_
        refine g_lald hx hb hK hP (i := (72 + 5 * q + ro)) (by omega) hc_33 (by omega) (by omega) dX3_opened_43 ?_
        refine g_last hx hb hK hP hD hS (i := (91 + b)) (by omega) hRL (by omega) (by omega) dX3_opened_44 (fun G_175 H locs hg_G_175 ho_G_175 hP hS => ?_)
        have hc_176 : G_175 69 = .inr (5, [.ref (ad 70), .ref (ad 86), .ref (ad 90), .ref (ad 97), .ref (ad 98), .ref (ad 99), .ref (ad 106), .ref (ad 113), .int (nI th)]) := (ho_G_175 _ (by omega)).trans hc_22
        have hc_177 : G_175 70 = aQ (cT 10) 3 (q3 ad) := (ho_G_175 _ (by omega)).trans hc_23
        have hc_178 : G_175 86 = aQ (cT 8) 3 (qS ad) := (ho_G_175 _ (by omega)).trans hc_24
        have hc_179 : G_175 90 = aQ (cT 7) 6 (qP ad) := (ho_G_175 _ (by omega)).trans hc_25
        have hc_180 : G_175 97 = aI cT 6 (va_up zf b (t - a)) := (ho_G_175 _ (by omega)).trans hc_26
        have hc_181 : G_175 98 = aZ cT 6 xf := (ho_G_175 _ (by omega)).trans hc_27
        have hc_182 : G_175 99 = aQ (cT 9) 6 (qK ad) := (ho_G_175 _ (by omega)).trans hc_28
        have hc_183 : G_175 106 = aQ (cT 8) 6 (qL ad) := (ho_G_175 _ (by omega)).trans hc_29
        have hc_184 : G_175 113 = aI cT 6 mf := (ho_G_175 _ (by omega)).trans hc_30
        have hc_185 : G_175 (71 + 5 * q) = aQ (cT 7) 4 (q4 ad q) := (ho_G_175 _ (by omega)).trans hc_31
        have hc_186 : G_175 (87 + q) = aI cT 4 (sf q) := (ho_G_175 _ (by omega)).trans hc_32
        have hc_187 : G_175 (72 + 5 * q + ro) = aJ cT 48 (rf q ro) := (ho_G_175 _ (by omega)).trans hc_33
        have hc_188 : G_175 (91 + b) = aJ cT 48 (va_up (gvF (pf b) 0 u (fun j => rf q ro (a + j))) ((a + u) - a) ((rf q ro) (a + u))) := hg_G_175
        have hc_189 : G_175 (100 + b) = aC cT 128 (kf b) := (ho_G_175 _ (by omega)).trans hc_34
        have hc_190 : G_175 (107 + b) = aI cT 128 (lf b) := (ho_G_175 _ (by omega)).trans hc_35
        have hfr_191 : ∀ j, (j ≠ 69 ∧ j ≠ 91 + b ∧ j ≠ 97 ∧ j ≠ 98 ∧ j ≠ 100 + b ∧ j ≠ 107 + b ∧ j ≠ 113) → G_175 j = G j := fun j hj => (ho_G_175 j (by omega)).trans (hfM_36 j hj)
        refine lv_iinc (v := nI (a + u + 1)) (lv' := [(6, .int (nI (a + u + 1))), (5, .int (nI t)), (4, .int (nI a)), (3, .int (nI ro)), (2, .int (nI q)), (1, .int (nI b)), (0, .ref (ad 69))]) hx hb dX3_opened_45 hl (k := 0) rfl (by exact nI_add (a + u) 1) (by decide) rfl (fun ls hl => ?_)
        refine lv_goto (tgt := 15) hx hb dX3_opened_48 (by decide) ?_
        have hfn_192 : ∀ j, j ≠ 91 + b → G_175 j = G_1 j := fun j hj => (ho_G_175 j hj).trans (hfL j hj)
        exact ih_20 (u + 1) (by omega) (by omega) _ _ _ (hfn_192) (hc_188.trans (congrArg (aJ cT 48) (by have hgs := gvF_step (pf b) 0 u (fun j => rf q ro (a + j)); rw [Nat.zero_add] at hgs; rw [← hgs, show a + u - a = u by omega]))) hP hS ls (lv_sub hl [0, 1, 2, 3, 4, 5, 6] rfl)
  exact key_18 _ 0 (by omega) (Nat.lt_succ_self _) _ _ _ (fun _ _ => rfl) (by rw [hg0]; exact hc_14) hP hS ls (lv_sub hl [0, 6, 5, 4, 3, 2, 1] rfl)

set_option maxHeartbeats 4000000 in
set_option maxRecDepth 100000 in
theorem mX3_open_ok (l : Launch) (D : va_G) (cT : Nat → ClassId) (n : Nat) (ad : Nat → Nat) (A : Nat → Prop) (hD : ∀ G, va_D A (gw n ad G)) (G : Nat → va_E) (hn : 114 ≤ n) (σ : TY) (hI : YI σ) (th : Nat) (hM : MW cT ad G σ th) (ch : Nat) (hch : ch < 65536) (b : Nat) (hb6 : b < 6) (q ro : Nat) (hq : q < 3) (hro : ro < 4) (hkq : kdx ch = q) (a t : Nat) (hat : a ≤ t) (htc : t ≤ (σ.1 (4 * q + ro)).1) : Met l yX3_open (wA yX3_open cX3_open 7 (some .int)) ({ frames := 1, cells := 0, slots := 0, locals := 26 } : Room) (PG D cT n ad A G [.ref (ad 69), .int (nI b), .int (nI ch), .int (nI ro), .int (nI a), .int (nI t)]) (QG D n ad A (fun v G1 => (v = some (.int (nI (t - a))) ∧ MW cT ad G1 (setB σ b (openB (σ.1 (4 * q + ro)).2 a t (isO ch))) 0) ∧ ∀ j, (j < 69 ∨ 114 ≤ j) → G1 j = G j)) 0 0 A := by
  refine Met.ofG (cc := cX3_open) (maxL := 7) (ret := (some .int)) (by decide) (Nat.le_of_ble_eq_true rfl) ?_
  intro p e s m args below meth c Q hQ hx hb hr hml hlocks hown hw hP hK hE hA hS ls hl
  have hl : lv_has ls 7 [(0, .ref (ad 69)), (1, .int (nI b)), (2, .int (nI ch)), (3, .int (nI ro)), (4, .int (nI a)), (5, .int (nI t))] := hl
  obtain ⟨rf, sf, pf, zf, xf, kf, lf, mf, hC, hMA⟩ := hM
  obtain ⟨hsz, hrv⟩ := hMA.1 q (by omega) ro (by omega)
  have hrc := hI.1 (4 * q + ro) (by omega)
  refine lv_iload_n hx hb dX3_open_0 rfl (lv_at hl 2 rfl) ?_
  refine g_callS (As := [.int (nI ch)]) (rest := []) ⟨hx, hb, hml, hown, hw⟩ (mX3_kind l D cT n ad A hD G ch (by omega)) (va_cwS 1 hw (gWS wm_X3_51 wst_X3_kind wini_X3 wc_X3_kind) rfl rfl rfl (by decide +kernel) ⟨Nat.le_of_ble_eq_true rfl, Nat.le_of_ble_eq_true rfl⟩) hK hE hA hP hS rfl hl.1 (lv_room (Nat.le_of_ble_eq_true rfl)) dX3_open_1 ⟨Nat.le_of_ble_eq_true rfl, Nat.le_of_ble_eq_true rfl⟩ (fun v_2 G_1 H locs hp hP hS => ?_)
  obtain ⟨hv9, hg9⟩ := hp
  subst hv9
  rw [hg9] at hP
  refine t_eqi (nI q) ((if_neg (by omega)).trans (congrArg nI hkq)) ?_
  refine lv_istore (lv' := [(6, .int (nI q)), (0, .ref (ad 69)), (1, .int (nI b)), (2, .int (nI ch)), (3, .int (nI ro)), (4, .int (nI a)), (5, .int (nI t))]) hx hb dX3_open_4 hl (by decide) rfl (fun ls hl => ?_)
  refine lv_aload_n hx hb dX3_open_6 rfl (lv_at hl 1 rfl) ?_
  refine lv_iload hx hb dX3_open_7 (lv_at hl 0 rfl) ?_
  refine t_if_lt (tgt := 16) hx hb dX3_open_9 (by decide) (by omega) ?_
  refine lv_iconst (v := nI 1) hx hb dX3_open_12 (by decide) ?_
  refine lv_goto (tgt := 17) hx hb dX3_open_13 (by decide) ?_
  refine lv_iload_n hx hb dX3_open_17 rfl (lv_at hl 2 rfl) ?_
  refine g_callS (As := [.int (nI b)]) (rest := [.int (nI 1), .ref (ad 69)]) ⟨hx, hb, hml, hown, hw⟩ (mX3_isBench l D cT n ad A hD G (nI b)) (va_cwS 1 hw (gWS wm_X3_67 wst_X3_isBench wini_X3 wc_X3_isBench) rfl rfl rfl (by decide +kernel) ⟨Nat.le_of_ble_eq_true rfl, Nat.le_of_ble_eq_true rfl⟩) hK hE hA hP hS rfl hl.1 (lv_room (Nat.le_of_ble_eq_true rfl)) dX3_open_18 ⟨Nat.le_of_ble_eq_true rfl, Nat.le_of_ble_eq_true rfl⟩ (fun v_5 G_4 H locs hp hP hS => ?_)
  obtain ⟨hv9, hg9⟩ := hp
  subst hv9
  rw [hg9] at hP
  refine t_eqi (nI 1) (congrArg nI (if_neg (ix_ok (by omega) (by decide)))) ?_
  refine t_if_eq (tgt := 47) hx hb dX3_open_21 (by decide) (by omega) (fun c_6 => absurd c_6 (by omega)) (fun c_6 => ?_)
  refine lv_iload_n hx hb dX3_open_24 rfl (lv_at hl 4 rfl) ?_
  refine g_callS (As := [.int (nI ro)]) (rest := [.int (nI 1), .ref (ad 69)]) ⟨hx, hb, hml, hown, hw⟩ (mX3_isRow l D cT n ad A hD G (nI ro)) (va_cwS 1 hw (gWS wm_X3_59 wst_X3_isRow wini_X3 wc_X3_isRow) rfl rfl rfl (by decide +kernel) ⟨Nat.le_of_ble_eq_true rfl, Nat.le_of_ble_eq_true rfl⟩) hK hE hA hP hS rfl hl.1 (lv_room (Nat.le_of_ble_eq_true rfl)) dX3_open_25 ⟨Nat.le_of_ble_eq_true rfl, Nat.le_of_ble_eq_true rfl⟩ (fun v_8 G_7 H locs hp hP hS => ?_)
  obtain ⟨hv9, hg9⟩ := hp
  subst hv9
  rw [hg9] at hP
  refine t_eqi (nI 1) (congrArg nI (if_neg (ix_ok (by omega) (by decide)))) ?_
  refine t_if_eq (tgt := 47) hx hb dX3_open_28 (by decide) (by omega) (fun c_9 => absurd c_9 (by omega)) (fun c_9 => ?_)
  refine lv_iload hx hb dX3_open_31 (lv_at hl 5 rfl) ?_
  refine t_if_lt (tgt := 47) hx hb dX3_open_33 (by decide) (by omega) ?_
  refine lv_iload hx hb dX3_open_36 (lv_at hl 5 rfl) ?_
  refine lv_iload hx hb dX3_open_38 (lv_at hl 6 rfl) ?_
  refine t_icmp_gt (tgt := 47) hx hb dX3_open_40 (by decide) (by omega) (by omega) (fun c_11 => ?_) (fun c_11 => ?_)
  · exfalso; omega
  · skip
    refine lv_iconst (v := nI 1) hx hb dX3_open_43 (by decide) ?_
    refine lv_goto (tgt := 48) hx hb dX3_open_44 (by decide) ?_
    refine lv_iconst (v := nI 1) hx hb dX3_open_48 (by decide) ?_
    refine g_callV (As := [.int (nI 1), .int (nI 1), .int (nI 1)]) (rest := []) ⟨hx, hb, hml, hown, hw⟩ (mX3_can l D cT n ad A hD G hn th 1 1 1 (by decide) (by decide) (by decide) hC.1) (cwV 3 hw (gWV wm_X3_63 wi_X3_can wse_X3_can wini_X3 wc_X3_can) rfl rfl rfl (by decide +kernel) ⟨Nat.le_of_ble_eq_true rfl, Nat.le_of_ble_eq_true rfl⟩) hK hE hA hP hS (k := 69) (by omega) hC.1 rfl rfl hl.1 (lv_room (Nat.le_of_ble_eq_true rfl)) dX3_open_49 ⟨Nat.le_of_ble_eq_true rfl, Nat.le_of_ble_eq_true rfl⟩ (fun v_13 G_12 H locs hp hP hS => ?_)
    obtain ⟨rfl, hg_G_12, ho_G_12⟩ := hp
    have hc_14 : G_12 69 = .inr (5, [.ref (ad 70), .ref (ad 86), .ref (ad 90), .ref (ad 97), .ref (ad 98), .ref (ad 99), .ref (ad 106), .ref (ad 113), .int (nI 0)]) := hg_G_12
    have hc_15 : G_12 70 = aQ (cT 10) 3 (q3 ad) := (ho_G_12 _ (by omega)).trans hC.2.1
    have hc_16 : G_12 86 = aQ (cT 8) 3 (qS ad) := (ho_G_12 _ (by omega)).trans hC.2.2.2.2.1
    have hc_17 : G_12 90 = aQ (cT 7) 6 (qP ad) := (ho_G_12 _ (by omega)).trans hC.2.2.2.2.2.2.1
    have hc_18 : G_12 97 = aI cT 6 zf := (ho_G_12 _ (by omega)).trans hC.2.2.2.2.2.2.2.2.1
    have hc_19 : G_12 98 = aZ cT 6 xf := (ho_G_12 _ (by omega)).trans hC.2.2.2.2.2.2.2.2.2.1
    have hc_20 : G_12 99 = aQ (cT 9) 6 (qK ad) := (ho_G_12 _ (by omega)).trans hC.2.2.2.2.2.2.2.2.2.2.1
    have hc_21 : G_12 106 = aQ (cT 8) 6 (qL ad) := (ho_G_12 _ (by omega)).trans hC.2.2.2.2.2.2.2.2.2.2.2.2.1
    have hc_22 : G_12 113 = aI cT 6 mf := (ho_G_12 _ (by omega)).trans hC.2.2.2.2.2.2.2.2.2.2.2.2.2.2.1
    have hc_23 : G_12 (71 + 5 * q) = aQ (cT 7) 4 (q4 ad q) := (ho_G_12 _ (by omega)).trans (hC.2.2.1 q (by omega))
    have hc_24 : G_12 (87 + q) = aI cT 4 (sf q) := (ho_G_12 _ (by omega)).trans (hC.2.2.2.2.2.1 q (by omega))
    have hc_25 : G_12 (72 + 5 * q + ro) = aJ cT 48 (rf q ro) := (ho_G_12 _ (by omega)).trans (hC.2.2.2.1 q (by omega) ro (by omega))
    have hfr_26 : ∀ j, (j ≠ 69) → G_12 j = G j := fun j hj => (ho_G_12 j (by omega)).trans (rfl)
    refine t_eqi (nI 1) rfl ?_
    refine t_if_eq (tgt := 83) hx hb dX3_open_52 (by decide) (by omega) (fun c_27 => absurd c_27 (by omega)) (fun c_27 => ?_)
    refine lv_aload_n hx hb dX3_open_55 rfl (lv_at hl 1 rfl) ?_
    refine lv_iconst (v := nI 1) hx hb dX3_open_56 (by decide) ?_
    refine lv_iload hx hb dX3_open_57 (lv_at hl 6 rfl) ?_
    refine lv_aload_n hx hb dX3_open_59 rfl (lv_at hl 1 rfl) ?_
    refine g_get (C := RX3) (T := TX3) (N := 9) hx hb hw inX3 hown hK hP (i := 69) (by omega) hc_14 rfl 1 (by decide) (hw _ wf_X3_16) rfl dX3_open_60 ?_
    refine lv_iload hx hb dX3_open_63 (lv_at hl 0 rfl) ?_
    refine g_aald hx hb hK hP 8 (i := 86) (by omega) hc_16 rfl rfl (k := (ad (87 + q))) (by omega) (by omega) (qS_at (by omega)) dX3_open_65 ?_
    refine lv_iload_n hx hb dX3_open_66 rfl (lv_at hl 4 rfl) ?_
    refine g_iald hx hb hK hP (i := (87 + q)) (by omega) hc_24 (by omega) (by omega) dX3_open_67 ?_
    refine t_icmp_gt (tgt := 75) hx hb dX3_open_68 (by decide) (by omega) (by omega) (fun c_28 => ?_) (fun c_28 => ?_)
    · exfalso; omega
    · skip
      refine lv_iconst (v := nI 1) hx hb dX3_open_71 (by decide) ?_
      refine lv_goto (tgt := 76) hx hb dX3_open_72 (by decide) ?_
      refine lv_iconst (v := nI 1) hx hb dX3_open_76 (by decide) ?_
      refine g_callV (As := [.int (nI 1), .int (nI 1), .int (nI 1)]) (rest := []) ⟨hx, hb, hml, hown, hw⟩ (mX3_can l D cT n ad A hD G_12 hn 0 1 1 1 (by decide) (by decide) (by decide) hc_14) (cwV 3 hw (gWV wm_X3_63 wi_X3_can wse_X3_can wini_X3 wc_X3_can) rfl rfl rfl (by decide +kernel) ⟨Nat.le_of_ble_eq_true rfl, Nat.le_of_ble_eq_true rfl⟩) hK hE hA hP hS (k := 69) (by omega) hc_14 rfl rfl hl.1 (lv_room (Nat.le_of_ble_eq_true rfl)) dX3_open_77 ⟨Nat.le_of_ble_eq_true rfl, Nat.le_of_ble_eq_true rfl⟩ (fun v_30 G_29 H locs hp hP hS => ?_)
      obtain ⟨rfl, hg_G_29, ho_G_29⟩ := hp
      have hc_31 : G_29 69 = .inr (5, [.ref (ad 70), .ref (ad 86), .ref (ad 90), .ref (ad 97), .ref (ad 98), .ref (ad 99), .ref (ad 106), .ref (ad 113), .int (nI 0)]) := hg_G_29
      have hc_32 : G_29 70 = aQ (cT 10) 3 (q3 ad) := (ho_G_29 _ (by omega)).trans hc_15
      have hc_33 : G_29 86 = aQ (cT 8) 3 (qS ad) := (ho_G_29 _ (by omega)).trans hc_16
      have hc_34 : G_29 90 = aQ (cT 7) 6 (qP ad) := (ho_G_29 _ (by omega)).trans hc_17
      have hc_35 : G_29 97 = aI cT 6 zf := (ho_G_29 _ (by omega)).trans hc_18
      have hc_36 : G_29 98 = aZ cT 6 xf := (ho_G_29 _ (by omega)).trans hc_19
      have hc_37 : G_29 99 = aQ (cT 9) 6 (qK ad) := (ho_G_29 _ (by omega)).trans hc_20
      have hc_38 : G_29 106 = aQ (cT 8) 6 (qL ad) := (ho_G_29 _ (by omega)).trans hc_21
      have hc_39 : G_29 113 = aI cT 6 mf := (ho_G_29 _ (by omega)).trans hc_22
      have hc_40 : G_29 (71 + 5 * q) = aQ (cT 7) 4 (q4 ad q) := (ho_G_29 _ (by omega)).trans hc_23
      have hc_41 : G_29 (87 + q) = aI cT 4 (sf q) := (ho_G_29 _ (by omega)).trans hc_24
      have hc_42 : G_29 (72 + 5 * q + ro) = aJ cT 48 (rf q ro) := (ho_G_29 _ (by omega)).trans hc_25
      have hfr_43 : ∀ j, (j ≠ 69) → G_29 j = G j := fun j hj => (ho_G_29 j (by omega)).trans (hfr_26 j hj)
      refine t_eqi (nI 1) rfl ?_
      refine t_if_ne (tgt := 85) hx hb dX3_open_80 (by decide) (by omega) (fun c_44 => ?_) (fun c_44 => absurd c_44 (by omega))
      refine lv_aload_n hx hb dX3_open_85 rfl (lv_at hl 1 rfl) ?_
      refine lv_iload_n hx hb dX3_open_86 rfl (lv_at hl 2 rfl) ?_
      refine lv_iload hx hb dX3_open_87 (lv_at hl 0 rfl) ?_
      refine lv_iload_n hx hb dX3_open_89 rfl (lv_at hl 4 rfl) ?_
      refine lv_iload hx hb dX3_open_90 (lv_at hl 5 rfl) ?_
      refine lv_iload hx hb dX3_open_92 (lv_at hl 6 rfl) ?_
      have hM9_45 : MW cT ad G_29 σ 0 := MW.same hC hMA hc_31 (fun j9 _ _ hj9 => hfr_43 j9 hj9)
      refine g_callV (As := [.int (nI b), .int (nI q), .int (nI ro), .int (nI a), .int (nI t)]) (rest := []) ⟨hx, hb, hml, hown, hw⟩ (mX3_opened l D cT n ad A hD G_29 hn σ hI 0 hM9_45 b q ro a t (by omega) (by omega) (by omega) (by omega) (by omega)) (cwV 5 hw (gWV wm_X3_70 wi_X3_opened wse_X3_opened wini_X3 wc_X3_opened) rfl rfl rfl (by decide +kernel) ⟨Nat.le_of_ble_eq_true rfl, Nat.le_of_ble_eq_true rfl⟩) hK hE hA hP hS (k := 69) (by omega) hc_31 rfl rfl hl.1 (lv_room (Nat.le_of_ble_eq_true rfl)) dX3_open_94 ⟨Nat.le_of_ble_eq_true rfl, Nat.le_of_ble_eq_true rfl⟩ (fun v_47 G_46 H locs hp hP hS => ?_)
      obtain ⟨⟨hv9, hM_G_46⟩, hfo_G_46⟩ := hp
      subst hv9
      refine g_ret hQ hx hb hr hlocks rfl hP hS (⟨⟨rfl, by rw [isO_q hkq hq]; exact hM_G_46⟩, fun j hj => (hfo_G_46 j hj).trans (hfr_43 j (by omega))⟩) (Nat.le_of_ble_eq_true rfl) (Nat.le_of_ble_eq_true rfl) dX3_open_97

set_option maxHeartbeats 4000000 in
set_option maxRecDepth 100000 in
theorem mX3_openAll_ok (l : Launch) (D : va_G) (cT : Nat → ClassId) (n : Nat) (ad : Nat → Nat) (A : Nat → Prop) (hD : ∀ G, va_D A (gw n ad G)) (G : Nat → va_E) (hn : 114 ≤ n) (σ : TY) (hI : YI σ) (th : Nat) (hM : MW cT ad G σ th) (ch : Nat) (hch : ch < 65536) (b : Nat) (hb6 : b < 6) (q ro : Nat) (hq : q < 3) (hro : ro < 4) (hkq : kdx ch = q) : Met l yX3_openAll (wA yX3_openAll cX3_openAll 5 (some .int)) ({ frames := 1, cells := 0, slots := 0, locals := 26 } : Room) (PG D cT n ad A G [.ref (ad 69), .int (nI b), .int (nI ch), .int (nI ro)]) (QG D n ad A (fun v G1 => (v = some (.int (nI ((σ.1 (4 * q + ro)).1 - 0))) ∧ MW cT ad G1 (setB σ b (openB (σ.1 (4 * q + ro)).2 0 (σ.1 (4 * q + ro)).1 (isO ch))) 0) ∧ ∀ j, (j < 69 ∨ 114 ≤ j) → G1 j = G j)) 0 0 A := by
  refine Met.ofG (cc := cX3_openAll) (maxL := 5) (ret := (some .int)) (by decide) (Nat.le_of_ble_eq_true rfl) ?_
  intro p e s m args below meth c Q hQ hx hb hr hml hlocks hown hw hP hK hE hA hS ls hl
  have hl : lv_has ls 5 [(0, .ref (ad 69)), (1, .int (nI b)), (2, .int (nI ch)), (3, .int (nI ro))] := hl
  obtain ⟨rf, sf, pf, zf, xf, kf, lf, mf, hC, hMA⟩ := hM
  obtain ⟨hsz, hrv⟩ := hMA.1 q (by omega) ro (by omega)
  have hrc := hI.1 (4 * q + ro) (by omega)
  refine lv_iload_n hx hb dX3_openAll_0 rfl (lv_at hl 2 rfl) ?_
  refine g_callS (As := [.int (nI ch)]) (rest := []) ⟨hx, hb, hml, hown, hw⟩ (mX3_kind l D cT n ad A hD G ch (by omega)) (va_cwS 1 hw (gWS wm_X3_51 wst_X3_kind wini_X3 wc_X3_kind) rfl rfl rfl (by decide +kernel) ⟨Nat.le_of_ble_eq_true rfl, Nat.le_of_ble_eq_true rfl⟩) hK hE hA hP hS rfl hl.1 (lv_room (Nat.le_of_ble_eq_true rfl)) dX3_openAll_1 ⟨Nat.le_of_ble_eq_true rfl, Nat.le_of_ble_eq_true rfl⟩ (fun v_2 G_1 H locs hp hP hS => ?_)
  obtain ⟨hv9, hg9⟩ := hp
  subst hv9
  rw [hg9] at hP
  refine t_eqi (nI q) ((if_neg (by omega)).trans (congrArg nI hkq)) ?_
  refine lv_istore (lv' := [(4, .int (nI q)), (0, .ref (ad 69)), (1, .int (nI b)), (2, .int (nI ch)), (3, .int (nI ro))]) hx hb dX3_openAll_4 hl (by decide) rfl (fun ls hl => ?_)
  refine lv_aload_n hx hb dX3_openAll_6 rfl (lv_at hl 1 rfl) ?_
  refine lv_iload hx hb dX3_openAll_7 (lv_at hl 0 rfl) ?_
  refine t_if_lt (tgt := 16) hx hb dX3_openAll_9 (by decide) (by omega) ?_
  refine lv_iconst (v := nI 1) hx hb dX3_openAll_12 (by decide) ?_
  refine lv_goto (tgt := 17) hx hb dX3_openAll_13 (by decide) ?_
  refine lv_iload_n hx hb dX3_openAll_17 rfl (lv_at hl 2 rfl) ?_
  refine g_callS (As := [.int (nI b)]) (rest := [.int (nI 1), .ref (ad 69)]) ⟨hx, hb, hml, hown, hw⟩ (mX3_isBench l D cT n ad A hD G (nI b)) (va_cwS 1 hw (gWS wm_X3_67 wst_X3_isBench wini_X3 wc_X3_isBench) rfl rfl rfl (by decide +kernel) ⟨Nat.le_of_ble_eq_true rfl, Nat.le_of_ble_eq_true rfl⟩) hK hE hA hP hS rfl hl.1 (lv_room (Nat.le_of_ble_eq_true rfl)) dX3_openAll_18 ⟨Nat.le_of_ble_eq_true rfl, Nat.le_of_ble_eq_true rfl⟩ (fun v_5 G_4 H locs hp hP hS => ?_)
  obtain ⟨hv9, hg9⟩ := hp
  subst hv9
  rw [hg9] at hP
  refine t_eqi (nI 1) (congrArg nI (if_neg (ix_ok (by omega) (by decide)))) ?_
  refine t_if_eq (tgt := 35) hx hb dX3_openAll_21 (by decide) (by omega) (fun c_6 => absurd c_6 (by omega)) (fun c_6 => ?_)
  refine lv_iload_n hx hb dX3_openAll_24 rfl (lv_at hl 4 rfl) ?_
  refine g_callS (As := [.int (nI ro)]) (rest := [.int (nI 1), .ref (ad 69)]) ⟨hx, hb, hml, hown, hw⟩ (mX3_isRow l D cT n ad A hD G (nI ro)) (va_cwS 1 hw (gWS wm_X3_59 wst_X3_isRow wini_X3 wc_X3_isRow) rfl rfl rfl (by decide +kernel) ⟨Nat.le_of_ble_eq_true rfl, Nat.le_of_ble_eq_true rfl⟩) hK hE hA hP hS rfl hl.1 (lv_room (Nat.le_of_ble_eq_true rfl)) dX3_openAll_25 ⟨Nat.le_of_ble_eq_true rfl, Nat.le_of_ble_eq_true rfl⟩ (fun v_8 G_7 H locs hp hP hS => ?_)
  obtain ⟨hv9, hg9⟩ := hp
  subst hv9
  rw [hg9] at hP
  refine t_eqi (nI 1) (congrArg nI (if_neg (ix_ok (by omega) (by decide)))) ?_
  refine t_if_eq (tgt := 35) hx hb dX3_openAll_28 (by decide) (by omega) (fun c_9 => absurd c_9 (by omega)) (fun c_9 => ?_)
  refine lv_iconst (v := nI 1) hx hb dX3_openAll_31 (by decide) ?_
  refine lv_goto (tgt := 36) hx hb dX3_openAll_32 (by decide) ?_
  refine lv_iconst (v := nI 1) hx hb dX3_openAll_36 (by decide) ?_
  refine g_callV (As := [.int (nI 1), .int (nI 1), .int (nI 1)]) (rest := []) ⟨hx, hb, hml, hown, hw⟩ (mX3_can l D cT n ad A hD G hn th 1 1 1 (by decide) (by decide) (by decide) hC.1) (cwV 3 hw (gWV wm_X3_63 wi_X3_can wse_X3_can wini_X3 wc_X3_can) rfl rfl rfl (by decide +kernel) ⟨Nat.le_of_ble_eq_true rfl, Nat.le_of_ble_eq_true rfl⟩) hK hE hA hP hS (k := 69) (by omega) hC.1 rfl rfl hl.1 (lv_room (Nat.le_of_ble_eq_true rfl)) dX3_openAll_37 ⟨Nat.le_of_ble_eq_true rfl, Nat.le_of_ble_eq_true rfl⟩ (fun v_11 G_10 H locs hp hP hS => ?_)
  obtain ⟨rfl, hg_G_10, ho_G_10⟩ := hp
  have hc_12 : G_10 69 = .inr (5, [.ref (ad 70), .ref (ad 86), .ref (ad 90), .ref (ad 97), .ref (ad 98), .ref (ad 99), .ref (ad 106), .ref (ad 113), .int (nI 0)]) := hg_G_10
  have hc_13 : G_10 70 = aQ (cT 10) 3 (q3 ad) := (ho_G_10 _ (by omega)).trans hC.2.1
  have hc_14 : G_10 86 = aQ (cT 8) 3 (qS ad) := (ho_G_10 _ (by omega)).trans hC.2.2.2.2.1
  have hc_15 : G_10 90 = aQ (cT 7) 6 (qP ad) := (ho_G_10 _ (by omega)).trans hC.2.2.2.2.2.2.1
  have hc_16 : G_10 97 = aI cT 6 zf := (ho_G_10 _ (by omega)).trans hC.2.2.2.2.2.2.2.2.1
  have hc_17 : G_10 98 = aZ cT 6 xf := (ho_G_10 _ (by omega)).trans hC.2.2.2.2.2.2.2.2.2.1
  have hc_18 : G_10 99 = aQ (cT 9) 6 (qK ad) := (ho_G_10 _ (by omega)).trans hC.2.2.2.2.2.2.2.2.2.2.1
  have hc_19 : G_10 106 = aQ (cT 8) 6 (qL ad) := (ho_G_10 _ (by omega)).trans hC.2.2.2.2.2.2.2.2.2.2.2.2.1
  have hc_20 : G_10 113 = aI cT 6 mf := (ho_G_10 _ (by omega)).trans hC.2.2.2.2.2.2.2.2.2.2.2.2.2.2.1
  have hc_21 : G_10 (71 + 5 * q) = aQ (cT 7) 4 (q4 ad q) := (ho_G_10 _ (by omega)).trans (hC.2.2.1 q (by omega))
  have hc_22 : G_10 (87 + q) = aI cT 4 (sf q) := (ho_G_10 _ (by omega)).trans (hC.2.2.2.2.2.1 q (by omega))
  have hc_23 : G_10 (72 + 5 * q + ro) = aJ cT 48 (rf q ro) := (ho_G_10 _ (by omega)).trans (hC.2.2.2.1 q (by omega) ro (by omega))
  have hfr_24 : ∀ j, (j ≠ 69) → G_10 j = G j := fun j hj => (ho_G_10 j (by omega)).trans (rfl)
  refine t_eqi (nI 1) rfl ?_
  refine t_if_eq (tgt := 64) hx hb dX3_openAll_40 (by decide) (by omega) (fun c_25 => absurd c_25 (by omega)) (fun c_25 => ?_)
  refine lv_aload_n hx hb dX3_openAll_43 rfl (lv_at hl 1 rfl) ?_
  refine lv_iload_n hx hb dX3_openAll_44 rfl (lv_at hl 2 rfl) ?_
  refine lv_iload hx hb dX3_openAll_45 (lv_at hl 0 rfl) ?_
  refine lv_iload_n hx hb dX3_openAll_47 rfl (lv_at hl 4 rfl) ?_
  refine lv_iconst (v := nI 0) hx hb dX3_openAll_48 (by decide) ?_
  refine lv_aload_n hx hb dX3_openAll_49 rfl (lv_at hl 1 rfl) ?_
  refine g_get (C := RX3) (T := TX3) (N := 9) hx hb hw inX3 hown hK hP (i := 69) (by omega) hc_12 rfl 1 (by decide) (hw _ wf_X3_16) rfl dX3_openAll_50 ?_
  refine lv_iload hx hb dX3_openAll_53 (lv_at hl 0 rfl) ?_
  refine g_aald hx hb hK hP 8 (i := 86) (by omega) hc_14 rfl rfl (k := (ad (87 + q))) (by omega) (by omega) (qS_at (by omega)) dX3_openAll_55 ?_
  refine lv_iload_n hx hb dX3_openAll_56 rfl (lv_at hl 4 rfl) ?_
  refine g_iald hx hb hK hP (i := (87 + q)) (by omega) hc_22 (by omega) (by omega) dX3_openAll_57 ?_
  have hM9_26 : MW cT ad G_10 σ 0 := MW.same hC hMA hc_12 (fun j9 _ _ hj9 => hfr_24 j9 hj9)
  refine g_callV (As := [.int (nI b), .int (nI q), .int (nI ro), .int (nI 0), .int (nI ((sf q) ro))]) (rest := []) ⟨hx, hb, hml, hown, hw⟩ (mX3_opened l D cT n ad A hD G_10 hn σ hI 0 hM9_26 b q ro 0 ((sf q) ro) (by omega) (by omega) (by omega) (by omega) (by omega)) (cwV 5 hw (gWV wm_X3_70 wi_X3_opened wse_X3_opened wini_X3 wc_X3_opened) rfl rfl rfl (by decide +kernel) ⟨Nat.le_of_ble_eq_true rfl, Nat.le_of_ble_eq_true rfl⟩) hK hE hA hP hS (k := 69) (by omega) hc_12 rfl rfl hl.1 (lv_room (Nat.le_of_ble_eq_true rfl)) dX3_openAll_58 ⟨Nat.le_of_ble_eq_true rfl, Nat.le_of_ble_eq_true rfl⟩ (fun v_28 G_27 H locs hp hP hS => ?_)
  obtain ⟨⟨hv9, hM_G_27⟩, hfo_G_27⟩ := hp
  subst hv9
  refine lv_goto (tgt := 65) hx hb dX3_openAll_61 (by decide) ?_
  refine g_ret hQ hx hb hr hlocks rfl hP hS (⟨⟨by rw [hsz], by rw [isO_q hkq hq]; rw [hsz] at hM_G_27; exact hM_G_27⟩, fun j hj => (hfo_G_27 j hj).trans (hfr_24 j (by omega))⟩) (Nat.le_of_ble_eq_true rfl) (Nat.le_of_ble_eq_true rfl) dX3_openAll_65

set_option maxHeartbeats 4000000 in
set_option maxRecDepth 100000 in
theorem mX3_open_no (l : Launch) (D : va_G) (cT : Nat → ClassId) (n : Nat) (ad : Nat → Nat) (A : Nat → Prop) (hD : ∀ G, va_D A (gw n ad G)) (G : Nat → va_E) (hn : 114 ≤ n) (σ : TY) (hI : YI σ) (th : Nat) (hM : MW cT ad G σ th) (x : Int32) (ch : Nat) (hch : ch < 65536) (y u z : Int32) (E : String) (hpx : pxOpen σ x ch y u z E) : Met l yX3_open (wA yX3_open cX3_open 7 (some .int)) ({ frames := 1, cells := 0, slots := 0, locals := 23 } : Room) (PG D cT n ad A G [.ref (ad 69), .int x, .int (nI ch), .int y, .int u, .int z]) (QG D n ad A (fun v G1 => ((∃ z, v = some (.int z)) ∧ MW cT ad G1 σ (cd [xIA, xIO] E)) ∧ ∀ j, (j < 69 ∨ 114 ≤ j) → G1 j = G j)) 0 0 A := by
  refine Met.ofG (cc := cX3_open) (maxL := 7) (ret := (some .int)) (by decide) (Nat.le_of_ble_eq_true rfl) ?_
  intro p e s m args below meth c Q hQ hx hb hr hml hlocks hown hw hP hK hE hA hS ls hl
  have hl : lv_has ls 7 [(0, .ref (ad 69)), (1, .int x), (2, .int (nI ch)), (3, .int y), (4, .int u), (5, .int z)] := hl
  obtain ⟨rf, sf, pf, zf, xf, kf, lf, mf, hC, hMA⟩ := hM
  rcases hpx with ⟨hkd, rfl⟩ | ⟨hk3, rfl, hpx⟩
  · skip
    rcases ix_cases x (N := 6) (by decide) with hbb | ⟨b, hb6, rfl⟩
    · skip
      rcases ix_cases y (N := 4) (by decide) with hrb | ⟨ro, hro, rfl⟩
      · skip
        refine lv_iload_n hx hb dX3_open_0 rfl (lv_at hl 2 rfl) ?_
        refine g_callS (As := [.int (nI ch)]) (rest := []) ⟨hx, hb, hml, hown, hw⟩ (mX3_kind l D cT n ad A hD G ch (by omega)) (va_cwS 1 hw (gWS wm_X3_51 wst_X3_kind wini_X3 wc_X3_kind) rfl rfl rfl (by decide +kernel) ⟨Nat.le_of_ble_eq_true rfl, Nat.le_of_ble_eq_true rfl⟩) hK hE hA hP hS rfl hl.1 (lv_room (Nat.le_of_ble_eq_true rfl)) dX3_open_1 ⟨Nat.le_of_ble_eq_true rfl, Nat.le_of_ble_eq_true rfl⟩ (fun v_2 G_1 H locs hp hP hS => ?_)
        obtain ⟨hv9, hg9⟩ := hp
        subst hv9
        rw [hg9] at hP
        refine t_eqi (-1) (if_pos hkd) ?_
        refine lv_istore (lv' := [(6, .int (-1)), (0, .ref (ad 69)), (1, .int x), (2, .int (nI ch)), (3, .int y), (4, .int u), (5, .int z)]) hx hb dX3_open_4 hl (by decide) rfl (fun ls hl => ?_)
        refine lv_aload_n hx hb dX3_open_6 rfl (lv_at hl 1 rfl) ?_
        refine lv_iload hx hb dX3_open_7 (lv_at hl 0 rfl) ?_
        refine lv_if_lt (tgt := 16) hx hb dX3_open_9 (by decide) (fun h9 => ?_) (fun h9 => absurd (by decide) h9)
        refine lv_iconst (v := nI 0) hx hb dX3_open_16 (by decide) ?_
        refine lv_iload_n hx hb dX3_open_17 rfl (lv_at hl 2 rfl) ?_
        refine g_callS (As := [.int x]) (rest := [.int (nI 0), .ref (ad 69)]) ⟨hx, hb, hml, hown, hw⟩ (mX3_isBench l D cT n ad A hD G x) (va_cwS 1 hw (gWS wm_X3_67 wst_X3_isBench wini_X3 wc_X3_isBench) rfl rfl rfl (by decide +kernel) ⟨Nat.le_of_ble_eq_true rfl, Nat.le_of_ble_eq_true rfl⟩) hK hE hA hP hS rfl hl.1 (lv_room (Nat.le_of_ble_eq_true rfl)) dX3_open_18 ⟨Nat.le_of_ble_eq_true rfl, Nat.le_of_ble_eq_true rfl⟩ (fun v_4 G_3 H locs hp hP hS => ?_)
        obtain ⟨hv9, hg9⟩ := hp
        subst hv9
        rw [hg9] at hP
        refine t_eqi (nI 0) (congrArg nI (if_pos hbb)) ?_
        refine t_if_eq (tgt := 47) hx hb dX3_open_21 (by decide) (by omega) (fun c_5 => ?_) (fun c_5 => absurd c_5 (by omega))
        refine lv_iconst (v := nI 0) hx hb dX3_open_47 (by decide) ?_
        refine lv_iconst (v := nI 1) hx hb dX3_open_48 (by decide) ?_
        refine g_callV (As := [.int (nI 0), .int (nI 0), .int (nI 1)]) (rest := []) ⟨hx, hb, hml, hown, hw⟩ (mX3_can l D cT n ad A hD G hn th 0 0 1 (by decide) (by decide) (by decide) hC.1) (cwV 3 hw (gWV wm_X3_63 wi_X3_can wse_X3_can wini_X3 wc_X3_can) rfl rfl rfl (by decide +kernel) ⟨Nat.le_of_ble_eq_true rfl, Nat.le_of_ble_eq_true rfl⟩) hK hE hA hP hS (k := 69) (by omega) hC.1 rfl rfl hl.1 (lv_room (Nat.le_of_ble_eq_true rfl)) dX3_open_49 ⟨Nat.le_of_ble_eq_true rfl, Nat.le_of_ble_eq_true rfl⟩ (fun v_7 G_6 H locs hp hP hS => ?_)
        obtain ⟨rfl, hg_G_6, ho_G_6⟩ := hp
        have hc_8 : G_6 69 = .inr (5, [.ref (ad 70), .ref (ad 86), .ref (ad 90), .ref (ad 97), .ref (ad 98), .ref (ad 99), .ref (ad 106), .ref (ad 113), .int (nI 1)]) := hg_G_6
        have hc_9 : G_6 70 = aQ (cT 10) 3 (q3 ad) := (ho_G_6 _ (by omega)).trans hC.2.1
        have hc_10 : G_6 86 = aQ (cT 8) 3 (qS ad) := (ho_G_6 _ (by omega)).trans hC.2.2.2.2.1
        have hc_11 : G_6 90 = aQ (cT 7) 6 (qP ad) := (ho_G_6 _ (by omega)).trans hC.2.2.2.2.2.2.1
        have hc_12 : G_6 97 = aI cT 6 zf := (ho_G_6 _ (by omega)).trans hC.2.2.2.2.2.2.2.2.1
        have hc_13 : G_6 98 = aZ cT 6 xf := (ho_G_6 _ (by omega)).trans hC.2.2.2.2.2.2.2.2.2.1
        have hc_14 : G_6 99 = aQ (cT 9) 6 (qK ad) := (ho_G_6 _ (by omega)).trans hC.2.2.2.2.2.2.2.2.2.2.1
        have hc_15 : G_6 106 = aQ (cT 8) 6 (qL ad) := (ho_G_6 _ (by omega)).trans hC.2.2.2.2.2.2.2.2.2.2.2.2.1
        have hc_16 : G_6 113 = aI cT 6 mf := (ho_G_6 _ (by omega)).trans hC.2.2.2.2.2.2.2.2.2.2.2.2.2.2.1
        have hfr_17 : ∀ j, (j ≠ 69) → G_6 j = G j := fun j hj => (ho_G_6 j (by omega)).trans (rfl)
        refine t_eqi (nI 0) rfl ?_
        refine t_if_eq (tgt := 83) hx hb dX3_open_52 (by decide) (by omega) (fun c_18 => ?_) (fun c_18 => absurd c_18 (by omega))
        refine lv_iconst (v := nI 0) hx hb dX3_open_83 (by decide) ?_
        refine g_ret hQ hx hb hr hlocks rfl hP hS (⟨⟨⟨_, rfl⟩, by rw [show cd [xIA, xIO] xIA = 1 from by decide +kernel]; exact MW.same hC hMA hc_8 (fun j9 _ _ hj9 => hfr_17 j9 hj9)⟩, fun j hj => hfr_17 j (by omega)⟩) (Nat.le_of_ble_eq_true rfl) (Nat.le_of_ble_eq_true rfl) dX3_open_84
      · skip
        refine lv_iload_n hx hb dX3_open_0 rfl (lv_at hl 2 rfl) ?_
        refine g_callS (As := [.int (nI ch)]) (rest := []) ⟨hx, hb, hml, hown, hw⟩ (mX3_kind l D cT n ad A hD G ch (by omega)) (va_cwS 1 hw (gWS wm_X3_51 wst_X3_kind wini_X3 wc_X3_kind) rfl rfl rfl (by decide +kernel) ⟨Nat.le_of_ble_eq_true rfl, Nat.le_of_ble_eq_true rfl⟩) hK hE hA hP hS rfl hl.1 (lv_room (Nat.le_of_ble_eq_true rfl)) dX3_open_1 ⟨Nat.le_of_ble_eq_true rfl, Nat.le_of_ble_eq_true rfl⟩ (fun v_20 G_19 H locs hp hP hS => ?_)
        obtain ⟨hv9, hg9⟩ := hp
        subst hv9
        rw [hg9] at hP
        refine t_eqi (-1) (if_pos hkd) ?_
        refine lv_istore (lv' := [(6, .int (-1)), (0, .ref (ad 69)), (1, .int x), (2, .int (nI ch)), (3, .int (nI ro)), (4, .int u), (5, .int z)]) hx hb dX3_open_4 hl (by decide) rfl (fun ls hl => ?_)
        refine lv_aload_n hx hb dX3_open_6 rfl (lv_at hl 1 rfl) ?_
        refine lv_iload hx hb dX3_open_7 (lv_at hl 0 rfl) ?_
        refine lv_if_lt (tgt := 16) hx hb dX3_open_9 (by decide) (fun h9 => ?_) (fun h9 => absurd (by decide) h9)
        refine lv_iconst (v := nI 0) hx hb dX3_open_16 (by decide) ?_
        refine lv_iload_n hx hb dX3_open_17 rfl (lv_at hl 2 rfl) ?_
        refine g_callS (As := [.int x]) (rest := [.int (nI 0), .ref (ad 69)]) ⟨hx, hb, hml, hown, hw⟩ (mX3_isBench l D cT n ad A hD G x) (va_cwS 1 hw (gWS wm_X3_67 wst_X3_isBench wini_X3 wc_X3_isBench) rfl rfl rfl (by decide +kernel) ⟨Nat.le_of_ble_eq_true rfl, Nat.le_of_ble_eq_true rfl⟩) hK hE hA hP hS rfl hl.1 (lv_room (Nat.le_of_ble_eq_true rfl)) dX3_open_18 ⟨Nat.le_of_ble_eq_true rfl, Nat.le_of_ble_eq_true rfl⟩ (fun v_22 G_21 H locs hp hP hS => ?_)
        obtain ⟨hv9, hg9⟩ := hp
        subst hv9
        rw [hg9] at hP
        refine t_eqi (nI 0) (congrArg nI (if_pos hbb)) ?_
        refine t_if_eq (tgt := 47) hx hb dX3_open_21 (by decide) (by omega) (fun c_23 => ?_) (fun c_23 => absurd c_23 (by omega))
        refine lv_iconst (v := nI 0) hx hb dX3_open_47 (by decide) ?_
        refine lv_iconst (v := nI 1) hx hb dX3_open_48 (by decide) ?_
        refine g_callV (As := [.int (nI 0), .int (nI 0), .int (nI 1)]) (rest := []) ⟨hx, hb, hml, hown, hw⟩ (mX3_can l D cT n ad A hD G hn th 0 0 1 (by decide) (by decide) (by decide) hC.1) (cwV 3 hw (gWV wm_X3_63 wi_X3_can wse_X3_can wini_X3 wc_X3_can) rfl rfl rfl (by decide +kernel) ⟨Nat.le_of_ble_eq_true rfl, Nat.le_of_ble_eq_true rfl⟩) hK hE hA hP hS (k := 69) (by omega) hC.1 rfl rfl hl.1 (lv_room (Nat.le_of_ble_eq_true rfl)) dX3_open_49 ⟨Nat.le_of_ble_eq_true rfl, Nat.le_of_ble_eq_true rfl⟩ (fun v_25 G_24 H locs hp hP hS => ?_)
        obtain ⟨rfl, hg_G_24, ho_G_24⟩ := hp
        have hc_26 : G_24 69 = .inr (5, [.ref (ad 70), .ref (ad 86), .ref (ad 90), .ref (ad 97), .ref (ad 98), .ref (ad 99), .ref (ad 106), .ref (ad 113), .int (nI 1)]) := hg_G_24
        have hc_27 : G_24 70 = aQ (cT 10) 3 (q3 ad) := (ho_G_24 _ (by omega)).trans hC.2.1
        have hc_28 : G_24 86 = aQ (cT 8) 3 (qS ad) := (ho_G_24 _ (by omega)).trans hC.2.2.2.2.1
        have hc_29 : G_24 90 = aQ (cT 7) 6 (qP ad) := (ho_G_24 _ (by omega)).trans hC.2.2.2.2.2.2.1
        have hc_30 : G_24 97 = aI cT 6 zf := (ho_G_24 _ (by omega)).trans hC.2.2.2.2.2.2.2.2.1
        have hc_31 : G_24 98 = aZ cT 6 xf := (ho_G_24 _ (by omega)).trans hC.2.2.2.2.2.2.2.2.2.1
        have hc_32 : G_24 99 = aQ (cT 9) 6 (qK ad) := (ho_G_24 _ (by omega)).trans hC.2.2.2.2.2.2.2.2.2.2.1
        have hc_33 : G_24 106 = aQ (cT 8) 6 (qL ad) := (ho_G_24 _ (by omega)).trans hC.2.2.2.2.2.2.2.2.2.2.2.2.1
        have hc_34 : G_24 113 = aI cT 6 mf := (ho_G_24 _ (by omega)).trans hC.2.2.2.2.2.2.2.2.2.2.2.2.2.2.1
        have hfr_35 : ∀ j, (j ≠ 69) → G_24 j = G j := fun j hj => (ho_G_24 j (by omega)).trans (rfl)
        refine t_eqi (nI 0) rfl ?_
        refine t_if_eq (tgt := 83) hx hb dX3_open_52 (by decide) (by omega) (fun c_36 => ?_) (fun c_36 => absurd c_36 (by omega))
        refine lv_iconst (v := nI 0) hx hb dX3_open_83 (by decide) ?_
        refine g_ret hQ hx hb hr hlocks rfl hP hS (⟨⟨⟨_, rfl⟩, by rw [show cd [xIA, xIO] xIA = 1 from by decide +kernel]; exact MW.same hC hMA hc_26 (fun j9 _ _ hj9 => hfr_35 j9 hj9)⟩, fun j hj => hfr_35 j (by omega)⟩) (Nat.le_of_ble_eq_true rfl) (Nat.le_of_ble_eq_true rfl) dX3_open_84
    · skip
      obtain ⟨hz, hm, hxx, hpp, hkl⟩ := hMA.2 b (by omega)
      obtain ⟨hit, hbx⟩ := hI.2 b (by omega)
      have hcap := BI_cap hit
      have h48 := hit.1
      rcases ix_cases y (N := 4) (by decide) with hrb | ⟨ro, hro, rfl⟩
      · skip
        refine lv_iload_n hx hb dX3_open_0 rfl (lv_at hl 2 rfl) ?_
        refine g_callS (As := [.int (nI ch)]) (rest := []) ⟨hx, hb, hml, hown, hw⟩ (mX3_kind l D cT n ad A hD G ch (by omega)) (va_cwS 1 hw (gWS wm_X3_51 wst_X3_kind wini_X3 wc_X3_kind) rfl rfl rfl (by decide +kernel) ⟨Nat.le_of_ble_eq_true rfl, Nat.le_of_ble_eq_true rfl⟩) hK hE hA hP hS rfl hl.1 (lv_room (Nat.le_of_ble_eq_true rfl)) dX3_open_1 ⟨Nat.le_of_ble_eq_true rfl, Nat.le_of_ble_eq_true rfl⟩ (fun v_38 G_37 H locs hp hP hS => ?_)
        obtain ⟨hv9, hg9⟩ := hp
        subst hv9
        rw [hg9] at hP
        refine t_eqi (-1) (if_pos hkd) ?_
        refine lv_istore (lv' := [(6, .int (-1)), (0, .ref (ad 69)), (1, .int (nI b)), (2, .int (nI ch)), (3, .int y), (4, .int u), (5, .int z)]) hx hb dX3_open_4 hl (by decide) rfl (fun ls hl => ?_)
        refine lv_aload_n hx hb dX3_open_6 rfl (lv_at hl 1 rfl) ?_
        refine lv_iload hx hb dX3_open_7 (lv_at hl 0 rfl) ?_
        refine lv_if_lt (tgt := 16) hx hb dX3_open_9 (by decide) (fun h9 => ?_) (fun h9 => absurd (by decide) h9)
        refine lv_iconst (v := nI 0) hx hb dX3_open_16 (by decide) ?_
        refine lv_iload_n hx hb dX3_open_17 rfl (lv_at hl 2 rfl) ?_
        refine g_callS (As := [.int (nI b)]) (rest := [.int (nI 0), .ref (ad 69)]) ⟨hx, hb, hml, hown, hw⟩ (mX3_isBench l D cT n ad A hD G (nI b)) (va_cwS 1 hw (gWS wm_X3_67 wst_X3_isBench wini_X3 wc_X3_isBench) rfl rfl rfl (by decide +kernel) ⟨Nat.le_of_ble_eq_true rfl, Nat.le_of_ble_eq_true rfl⟩) hK hE hA hP hS rfl hl.1 (lv_room (Nat.le_of_ble_eq_true rfl)) dX3_open_18 ⟨Nat.le_of_ble_eq_true rfl, Nat.le_of_ble_eq_true rfl⟩ (fun v_40 G_39 H locs hp hP hS => ?_)
        obtain ⟨hv9, hg9⟩ := hp
        subst hv9
        rw [hg9] at hP
        refine t_eqi (nI 1) (congrArg nI (if_neg (ix_ok (by omega) (by decide)))) ?_
        refine t_if_eq (tgt := 47) hx hb dX3_open_21 (by decide) (by omega) (fun c_41 => absurd c_41 (by omega)) (fun c_41 => ?_)
        refine lv_iload_n hx hb dX3_open_24 rfl (lv_at hl 4 rfl) ?_
        refine g_callS (As := [.int y]) (rest := [.int (nI 0), .ref (ad 69)]) ⟨hx, hb, hml, hown, hw⟩ (mX3_isRow l D cT n ad A hD G y) (va_cwS 1 hw (gWS wm_X3_59 wst_X3_isRow wini_X3 wc_X3_isRow) rfl rfl rfl (by decide +kernel) ⟨Nat.le_of_ble_eq_true rfl, Nat.le_of_ble_eq_true rfl⟩) hK hE hA hP hS rfl hl.1 (lv_room (Nat.le_of_ble_eq_true rfl)) dX3_open_25 ⟨Nat.le_of_ble_eq_true rfl, Nat.le_of_ble_eq_true rfl⟩ (fun v_43 G_42 H locs hp hP hS => ?_)
        obtain ⟨hv9, hg9⟩ := hp
        subst hv9
        rw [hg9] at hP
        refine t_eqi (nI 0) (congrArg nI (if_pos hrb)) ?_
        refine t_if_eq (tgt := 47) hx hb dX3_open_28 (by decide) (by omega) (fun c_44 => ?_) (fun c_44 => absurd c_44 (by omega))
        refine lv_iconst (v := nI 0) hx hb dX3_open_47 (by decide) ?_
        refine lv_iconst (v := nI 1) hx hb dX3_open_48 (by decide) ?_
        refine g_callV (As := [.int (nI 0), .int (nI 0), .int (nI 1)]) (rest := []) ⟨hx, hb, hml, hown, hw⟩ (mX3_can l D cT n ad A hD G hn th 0 0 1 (by decide) (by decide) (by decide) hC.1) (cwV 3 hw (gWV wm_X3_63 wi_X3_can wse_X3_can wini_X3 wc_X3_can) rfl rfl rfl (by decide +kernel) ⟨Nat.le_of_ble_eq_true rfl, Nat.le_of_ble_eq_true rfl⟩) hK hE hA hP hS (k := 69) (by omega) hC.1 rfl rfl hl.1 (lv_room (Nat.le_of_ble_eq_true rfl)) dX3_open_49 ⟨Nat.le_of_ble_eq_true rfl, Nat.le_of_ble_eq_true rfl⟩ (fun v_46 G_45 H locs hp hP hS => ?_)
        obtain ⟨rfl, hg_G_45, ho_G_45⟩ := hp
        have hc_47 : G_45 69 = .inr (5, [.ref (ad 70), .ref (ad 86), .ref (ad 90), .ref (ad 97), .ref (ad 98), .ref (ad 99), .ref (ad 106), .ref (ad 113), .int (nI 1)]) := hg_G_45
        have hc_48 : G_45 70 = aQ (cT 10) 3 (q3 ad) := (ho_G_45 _ (by omega)).trans hC.2.1
        have hc_49 : G_45 86 = aQ (cT 8) 3 (qS ad) := (ho_G_45 _ (by omega)).trans hC.2.2.2.2.1
        have hc_50 : G_45 90 = aQ (cT 7) 6 (qP ad) := (ho_G_45 _ (by omega)).trans hC.2.2.2.2.2.2.1
        have hc_51 : G_45 97 = aI cT 6 zf := (ho_G_45 _ (by omega)).trans hC.2.2.2.2.2.2.2.2.1
        have hc_52 : G_45 98 = aZ cT 6 xf := (ho_G_45 _ (by omega)).trans hC.2.2.2.2.2.2.2.2.2.1
        have hc_53 : G_45 99 = aQ (cT 9) 6 (qK ad) := (ho_G_45 _ (by omega)).trans hC.2.2.2.2.2.2.2.2.2.2.1
        have hc_54 : G_45 106 = aQ (cT 8) 6 (qL ad) := (ho_G_45 _ (by omega)).trans hC.2.2.2.2.2.2.2.2.2.2.2.2.1
        have hc_55 : G_45 113 = aI cT 6 mf := (ho_G_45 _ (by omega)).trans hC.2.2.2.2.2.2.2.2.2.2.2.2.2.2.1
        have hc_56 : G_45 (91 + b) = aJ cT 48 (pf b) := (ho_G_45 _ (by omega)).trans (hC.2.2.2.2.2.2.2.1 b (by omega))
        have hc_57 : G_45 (100 + b) = aC cT 128 (kf b) := (ho_G_45 _ (by omega)).trans (hC.2.2.2.2.2.2.2.2.2.2.2.1 b (by omega))
        have hc_58 : G_45 (107 + b) = aI cT 128 (lf b) := (ho_G_45 _ (by omega)).trans (hC.2.2.2.2.2.2.2.2.2.2.2.2.2.1 b (by omega))
        have hfr_59 : ∀ j, (j ≠ 69) → G_45 j = G j := fun j hj => (ho_G_45 j (by omega)).trans (rfl)
        refine t_eqi (nI 0) rfl ?_
        refine t_if_eq (tgt := 83) hx hb dX3_open_52 (by decide) (by omega) (fun c_60 => ?_) (fun c_60 => absurd c_60 (by omega))
        refine lv_iconst (v := nI 0) hx hb dX3_open_83 (by decide) ?_
        refine g_ret hQ hx hb hr hlocks rfl hP hS (⟨⟨⟨_, rfl⟩, by rw [show cd [xIA, xIO] xIA = 1 from by decide +kernel]; exact MW.same hC hMA hc_47 (fun j9 _ _ hj9 => hfr_59 j9 hj9)⟩, fun j hj => hfr_59 j (by omega)⟩) (Nat.le_of_ble_eq_true rfl) (Nat.le_of_ble_eq_true rfl) dX3_open_84
      · skip
        refine lv_iload_n hx hb dX3_open_0 rfl (lv_at hl 2 rfl) ?_
        refine g_callS (As := [.int (nI ch)]) (rest := []) ⟨hx, hb, hml, hown, hw⟩ (mX3_kind l D cT n ad A hD G ch (by omega)) (va_cwS 1 hw (gWS wm_X3_51 wst_X3_kind wini_X3 wc_X3_kind) rfl rfl rfl (by decide +kernel) ⟨Nat.le_of_ble_eq_true rfl, Nat.le_of_ble_eq_true rfl⟩) hK hE hA hP hS rfl hl.1 (lv_room (Nat.le_of_ble_eq_true rfl)) dX3_open_1 ⟨Nat.le_of_ble_eq_true rfl, Nat.le_of_ble_eq_true rfl⟩ (fun v_62 G_61 H locs hp hP hS => ?_)
        obtain ⟨hv9, hg9⟩ := hp
        subst hv9
        rw [hg9] at hP
        refine t_eqi (-1) (if_pos hkd) ?_
        refine lv_istore (lv' := [(6, .int (-1)), (0, .ref (ad 69)), (1, .int (nI b)), (2, .int (nI ch)), (3, .int (nI ro)), (4, .int u), (5, .int z)]) hx hb dX3_open_4 hl (by decide) rfl (fun ls hl => ?_)
        refine lv_aload_n hx hb dX3_open_6 rfl (lv_at hl 1 rfl) ?_
        refine lv_iload hx hb dX3_open_7 (lv_at hl 0 rfl) ?_
        refine lv_if_lt (tgt := 16) hx hb dX3_open_9 (by decide) (fun h9 => ?_) (fun h9 => absurd (by decide) h9)
        refine lv_iconst (v := nI 0) hx hb dX3_open_16 (by decide) ?_
        refine lv_iload_n hx hb dX3_open_17 rfl (lv_at hl 2 rfl) ?_
        refine g_callS (As := [.int (nI b)]) (rest := [.int (nI 0), .ref (ad 69)]) ⟨hx, hb, hml, hown, hw⟩ (mX3_isBench l D cT n ad A hD G (nI b)) (va_cwS 1 hw (gWS wm_X3_67 wst_X3_isBench wini_X3 wc_X3_isBench) rfl rfl rfl (by decide +kernel) ⟨Nat.le_of_ble_eq_true rfl, Nat.le_of_ble_eq_true rfl⟩) hK hE hA hP hS rfl hl.1 (lv_room (Nat.le_of_ble_eq_true rfl)) dX3_open_18 ⟨Nat.le_of_ble_eq_true rfl, Nat.le_of_ble_eq_true rfl⟩ (fun v_64 G_63 H locs hp hP hS => ?_)
        obtain ⟨hv9, hg9⟩ := hp
        subst hv9
        rw [hg9] at hP
        refine t_eqi (nI 1) (congrArg nI (if_neg (ix_ok (by omega) (by decide)))) ?_
        refine t_if_eq (tgt := 47) hx hb dX3_open_21 (by decide) (by omega) (fun c_65 => absurd c_65 (by omega)) (fun c_65 => ?_)
        refine lv_iload_n hx hb dX3_open_24 rfl (lv_at hl 4 rfl) ?_
        refine g_callS (As := [.int (nI ro)]) (rest := [.int (nI 0), .ref (ad 69)]) ⟨hx, hb, hml, hown, hw⟩ (mX3_isRow l D cT n ad A hD G (nI ro)) (va_cwS 1 hw (gWS wm_X3_59 wst_X3_isRow wini_X3 wc_X3_isRow) rfl rfl rfl (by decide +kernel) ⟨Nat.le_of_ble_eq_true rfl, Nat.le_of_ble_eq_true rfl⟩) hK hE hA hP hS rfl hl.1 (lv_room (Nat.le_of_ble_eq_true rfl)) dX3_open_25 ⟨Nat.le_of_ble_eq_true rfl, Nat.le_of_ble_eq_true rfl⟩ (fun v_67 G_66 H locs hp hP hS => ?_)
        obtain ⟨hv9, hg9⟩ := hp
        subst hv9
        rw [hg9] at hP
        refine t_eqi (nI 1) (congrArg nI (if_neg (ix_ok (by omega) (by decide)))) ?_
        refine t_if_eq (tgt := 47) hx hb dX3_open_28 (by decide) (by omega) (fun c_68 => absurd c_68 (by omega)) (fun c_68 => ?_)
        refine lv_iload hx hb dX3_open_31 (lv_at hl 5 rfl) ?_
        refine lv_if_lt (tgt := 47) hx hb dX3_open_33 (by decide) (fun c_69 => ?_) (fun c_69 => ?_)
        · skip
          refine lv_iconst (v := nI 0) hx hb dX3_open_47 (by decide) ?_
          refine lv_iconst (v := nI 1) hx hb dX3_open_48 (by decide) ?_
          refine g_callV (As := [.int (nI 0), .int (nI 0), .int (nI 1)]) (rest := []) ⟨hx, hb, hml, hown, hw⟩ (mX3_can l D cT n ad A hD G hn th 0 0 1 (by decide) (by decide) (by decide) hC.1) (cwV 3 hw (gWV wm_X3_63 wi_X3_can wse_X3_can wini_X3 wc_X3_can) rfl rfl rfl (by decide +kernel) ⟨Nat.le_of_ble_eq_true rfl, Nat.le_of_ble_eq_true rfl⟩) hK hE hA hP hS (k := 69) (by omega) hC.1 rfl rfl hl.1 (lv_room (Nat.le_of_ble_eq_true rfl)) dX3_open_49 ⟨Nat.le_of_ble_eq_true rfl, Nat.le_of_ble_eq_true rfl⟩ (fun v_71 G_70 H locs hp hP hS => ?_)
          obtain ⟨rfl, hg_G_70, ho_G_70⟩ := hp
          have hc_72 : G_70 69 = .inr (5, [.ref (ad 70), .ref (ad 86), .ref (ad 90), .ref (ad 97), .ref (ad 98), .ref (ad 99), .ref (ad 106), .ref (ad 113), .int (nI 1)]) := hg_G_70
          have hc_73 : G_70 70 = aQ (cT 10) 3 (q3 ad) := (ho_G_70 _ (by omega)).trans hC.2.1
          have hc_74 : G_70 86 = aQ (cT 8) 3 (qS ad) := (ho_G_70 _ (by omega)).trans hC.2.2.2.2.1
          have hc_75 : G_70 90 = aQ (cT 7) 6 (qP ad) := (ho_G_70 _ (by omega)).trans hC.2.2.2.2.2.2.1
          have hc_76 : G_70 97 = aI cT 6 zf := (ho_G_70 _ (by omega)).trans hC.2.2.2.2.2.2.2.2.1
          have hc_77 : G_70 98 = aZ cT 6 xf := (ho_G_70 _ (by omega)).trans hC.2.2.2.2.2.2.2.2.2.1
          have hc_78 : G_70 99 = aQ (cT 9) 6 (qK ad) := (ho_G_70 _ (by omega)).trans hC.2.2.2.2.2.2.2.2.2.2.1
          have hc_79 : G_70 106 = aQ (cT 8) 6 (qL ad) := (ho_G_70 _ (by omega)).trans hC.2.2.2.2.2.2.2.2.2.2.2.2.1
          have hc_80 : G_70 113 = aI cT 6 mf := (ho_G_70 _ (by omega)).trans hC.2.2.2.2.2.2.2.2.2.2.2.2.2.2.1
          have hc_81 : G_70 (91 + b) = aJ cT 48 (pf b) := (ho_G_70 _ (by omega)).trans (hC.2.2.2.2.2.2.2.1 b (by omega))
          have hc_82 : G_70 (100 + b) = aC cT 128 (kf b) := (ho_G_70 _ (by omega)).trans (hC.2.2.2.2.2.2.2.2.2.2.2.1 b (by omega))
          have hc_83 : G_70 (107 + b) = aI cT 128 (lf b) := (ho_G_70 _ (by omega)).trans (hC.2.2.2.2.2.2.2.2.2.2.2.2.2.1 b (by omega))
          have hfr_84 : ∀ j, (j ≠ 69) → G_70 j = G j := fun j hj => (ho_G_70 j (by omega)).trans (rfl)
          refine t_eqi (nI 0) rfl ?_
          refine t_if_eq (tgt := 83) hx hb dX3_open_52 (by decide) (by omega) (fun c_85 => ?_) (fun c_85 => absurd c_85 (by omega))
          refine lv_iconst (v := nI 0) hx hb dX3_open_83 (by decide) ?_
          refine g_ret hQ hx hb hr hlocks rfl hP hS (⟨⟨⟨_, rfl⟩, by rw [show cd [xIA, xIO] xIA = 1 from by decide +kernel]; exact MW.same hC hMA hc_72 (fun j9 _ _ hj9 => hfr_84 j9 hj9)⟩, fun j hj => hfr_84 j (by omega)⟩) (Nat.le_of_ble_eq_true rfl) (Nat.le_of_ble_eq_true rfl) dX3_open_84
        · skip
          refine lv_iload hx hb dX3_open_36 (lv_at hl 5 rfl) ?_
          refine lv_iload hx hb dX3_open_38 (lv_at hl 6 rfl) ?_
          refine lv_icmp_gt (tgt := 47) hx hb dX3_open_40 (by decide) (fun c_86 => ?_) (fun c_86 => ?_)
          · skip
            refine lv_iconst (v := nI 0) hx hb dX3_open_47 (by decide) ?_
            refine lv_iconst (v := nI 1) hx hb dX3_open_48 (by decide) ?_
            refine g_callV (As := [.int (nI 0), .int (nI 0), .int (nI 1)]) (rest := []) ⟨hx, hb, hml, hown, hw⟩ (mX3_can l D cT n ad A hD G hn th 0 0 1 (by decide) (by decide) (by decide) hC.1) (cwV 3 hw (gWV wm_X3_63 wi_X3_can wse_X3_can wini_X3 wc_X3_can) rfl rfl rfl (by decide +kernel) ⟨Nat.le_of_ble_eq_true rfl, Nat.le_of_ble_eq_true rfl⟩) hK hE hA hP hS (k := 69) (by omega) hC.1 rfl rfl hl.1 (lv_room (Nat.le_of_ble_eq_true rfl)) dX3_open_49 ⟨Nat.le_of_ble_eq_true rfl, Nat.le_of_ble_eq_true rfl⟩ (fun v_88 G_87 H locs hp hP hS => ?_)
            obtain ⟨rfl, hg_G_87, ho_G_87⟩ := hp
            have hc_89 : G_87 69 = .inr (5, [.ref (ad 70), .ref (ad 86), .ref (ad 90), .ref (ad 97), .ref (ad 98), .ref (ad 99), .ref (ad 106), .ref (ad 113), .int (nI 1)]) := hg_G_87
            have hc_90 : G_87 70 = aQ (cT 10) 3 (q3 ad) := (ho_G_87 _ (by omega)).trans hC.2.1
            have hc_91 : G_87 86 = aQ (cT 8) 3 (qS ad) := (ho_G_87 _ (by omega)).trans hC.2.2.2.2.1
            have hc_92 : G_87 90 = aQ (cT 7) 6 (qP ad) := (ho_G_87 _ (by omega)).trans hC.2.2.2.2.2.2.1
            have hc_93 : G_87 97 = aI cT 6 zf := (ho_G_87 _ (by omega)).trans hC.2.2.2.2.2.2.2.2.1
            have hc_94 : G_87 98 = aZ cT 6 xf := (ho_G_87 _ (by omega)).trans hC.2.2.2.2.2.2.2.2.2.1
            have hc_95 : G_87 99 = aQ (cT 9) 6 (qK ad) := (ho_G_87 _ (by omega)).trans hC.2.2.2.2.2.2.2.2.2.2.1
            have hc_96 : G_87 106 = aQ (cT 8) 6 (qL ad) := (ho_G_87 _ (by omega)).trans hC.2.2.2.2.2.2.2.2.2.2.2.2.1
            have hc_97 : G_87 113 = aI cT 6 mf := (ho_G_87 _ (by omega)).trans hC.2.2.2.2.2.2.2.2.2.2.2.2.2.2.1
            have hc_98 : G_87 (91 + b) = aJ cT 48 (pf b) := (ho_G_87 _ (by omega)).trans (hC.2.2.2.2.2.2.2.1 b (by omega))
            have hc_99 : G_87 (100 + b) = aC cT 128 (kf b) := (ho_G_87 _ (by omega)).trans (hC.2.2.2.2.2.2.2.2.2.2.2.1 b (by omega))
            have hc_100 : G_87 (107 + b) = aI cT 128 (lf b) := (ho_G_87 _ (by omega)).trans (hC.2.2.2.2.2.2.2.2.2.2.2.2.2.1 b (by omega))
            have hfr_101 : ∀ j, (j ≠ 69) → G_87 j = G j := fun j hj => (ho_G_87 j (by omega)).trans (rfl)
            refine t_eqi (nI 0) rfl ?_
            refine t_if_eq (tgt := 83) hx hb dX3_open_52 (by decide) (by omega) (fun c_102 => ?_) (fun c_102 => absurd c_102 (by omega))
            refine lv_iconst (v := nI 0) hx hb dX3_open_83 (by decide) ?_
            refine g_ret hQ hx hb hr hlocks rfl hP hS (⟨⟨⟨_, rfl⟩, by rw [show cd [xIA, xIO] xIA = 1 from by decide +kernel]; exact MW.same hC hMA hc_89 (fun j9 _ _ hj9 => hfr_101 j9 hj9)⟩, fun j hj => hfr_101 j (by omega)⟩) (Nat.le_of_ble_eq_true rfl) (Nat.le_of_ble_eq_true rfl) dX3_open_84
          · skip
            refine lv_iconst (v := nI 1) hx hb dX3_open_43 (by decide) ?_
            refine lv_goto (tgt := 48) hx hb dX3_open_44 (by decide) ?_
            refine lv_iconst (v := nI 1) hx hb dX3_open_48 (by decide) ?_
            refine g_callV (As := [.int (nI 0), .int (nI 1), .int (nI 1)]) (rest := []) ⟨hx, hb, hml, hown, hw⟩ (mX3_can l D cT n ad A hD G hn th 0 1 1 (by decide) (by decide) (by decide) hC.1) (cwV 3 hw (gWV wm_X3_63 wi_X3_can wse_X3_can wini_X3 wc_X3_can) rfl rfl rfl (by decide +kernel) ⟨Nat.le_of_ble_eq_true rfl, Nat.le_of_ble_eq_true rfl⟩) hK hE hA hP hS (k := 69) (by omega) hC.1 rfl rfl hl.1 (lv_room (Nat.le_of_ble_eq_true rfl)) dX3_open_49 ⟨Nat.le_of_ble_eq_true rfl, Nat.le_of_ble_eq_true rfl⟩ (fun v_104 G_103 H locs hp hP hS => ?_)
            obtain ⟨rfl, hg_G_103, ho_G_103⟩ := hp
            have hc_105 : G_103 69 = .inr (5, [.ref (ad 70), .ref (ad 86), .ref (ad 90), .ref (ad 97), .ref (ad 98), .ref (ad 99), .ref (ad 106), .ref (ad 113), .int (nI 1)]) := hg_G_103
            have hc_106 : G_103 70 = aQ (cT 10) 3 (q3 ad) := (ho_G_103 _ (by omega)).trans hC.2.1
            have hc_107 : G_103 86 = aQ (cT 8) 3 (qS ad) := (ho_G_103 _ (by omega)).trans hC.2.2.2.2.1
            have hc_108 : G_103 90 = aQ (cT 7) 6 (qP ad) := (ho_G_103 _ (by omega)).trans hC.2.2.2.2.2.2.1
            have hc_109 : G_103 97 = aI cT 6 zf := (ho_G_103 _ (by omega)).trans hC.2.2.2.2.2.2.2.2.1
            have hc_110 : G_103 98 = aZ cT 6 xf := (ho_G_103 _ (by omega)).trans hC.2.2.2.2.2.2.2.2.2.1
            have hc_111 : G_103 99 = aQ (cT 9) 6 (qK ad) := (ho_G_103 _ (by omega)).trans hC.2.2.2.2.2.2.2.2.2.2.1
            have hc_112 : G_103 106 = aQ (cT 8) 6 (qL ad) := (ho_G_103 _ (by omega)).trans hC.2.2.2.2.2.2.2.2.2.2.2.2.1
            have hc_113 : G_103 113 = aI cT 6 mf := (ho_G_103 _ (by omega)).trans hC.2.2.2.2.2.2.2.2.2.2.2.2.2.2.1
            have hc_114 : G_103 (91 + b) = aJ cT 48 (pf b) := (ho_G_103 _ (by omega)).trans (hC.2.2.2.2.2.2.2.1 b (by omega))
            have hc_115 : G_103 (100 + b) = aC cT 128 (kf b) := (ho_G_103 _ (by omega)).trans (hC.2.2.2.2.2.2.2.2.2.2.2.1 b (by omega))
            have hc_116 : G_103 (107 + b) = aI cT 128 (lf b) := (ho_G_103 _ (by omega)).trans (hC.2.2.2.2.2.2.2.2.2.2.2.2.2.1 b (by omega))
            have hfr_117 : ∀ j, (j ≠ 69) → G_103 j = G j := fun j hj => (ho_G_103 j (by omega)).trans (rfl)
            refine t_eqi (nI 0) rfl ?_
            refine t_if_eq (tgt := 83) hx hb dX3_open_52 (by decide) (by omega) (fun c_118 => ?_) (fun c_118 => absurd c_118 (by omega))
            refine lv_iconst (v := nI 0) hx hb dX3_open_83 (by decide) ?_
            refine g_ret hQ hx hb hr hlocks rfl hP hS (⟨⟨⟨_, rfl⟩, by rw [show cd [xIA, xIO] xIA = 1 from by decide +kernel]; exact MW.same hC hMA hc_105 (fun j9 _ _ hj9 => hfr_117 j9 hj9)⟩, fun j hj => hfr_117 j (by omega)⟩) (Nat.le_of_ble_eq_true rfl) (Nat.le_of_ble_eq_true rfl) dX3_open_84
  · skip
    obtain ⟨q, hkq⟩ : ∃ q, kdx ch = q := ⟨_, rfl⟩
    have hkl9 := kdx_le ch
    have hq : q < 3 := by omega
    rcases hpx with hrb | hpx
    · skip
      rcases ix_cases x (N := 6) (by decide) with hbb | ⟨b, hb6, rfl⟩
      · skip
        refine lv_iload_n hx hb dX3_open_0 rfl (lv_at hl 2 rfl) ?_
        refine g_callS (As := [.int (nI ch)]) (rest := []) ⟨hx, hb, hml, hown, hw⟩ (mX3_kind l D cT n ad A hD G ch (by omega)) (va_cwS 1 hw (gWS wm_X3_51 wst_X3_kind wini_X3 wc_X3_kind) rfl rfl rfl (by decide +kernel) ⟨Nat.le_of_ble_eq_true rfl, Nat.le_of_ble_eq_true rfl⟩) hK hE hA hP hS rfl hl.1 (lv_room (Nat.le_of_ble_eq_true rfl)) dX3_open_1 ⟨Nat.le_of_ble_eq_true rfl, Nat.le_of_ble_eq_true rfl⟩ (fun v_120 G_119 H locs hp hP hS => ?_)
        obtain ⟨hv9, hg9⟩ := hp
        subst hv9
        rw [hg9] at hP
        refine t_eqi (nI q) ((if_neg (by omega)).trans (congrArg nI hkq)) ?_
        refine lv_istore (lv' := [(6, .int (nI q)), (0, .ref (ad 69)), (1, .int x), (2, .int (nI ch)), (3, .int y), (4, .int u), (5, .int z)]) hx hb dX3_open_4 hl (by decide) rfl (fun ls hl => ?_)
        refine lv_aload_n hx hb dX3_open_6 rfl (lv_at hl 1 rfl) ?_
        refine lv_iload hx hb dX3_open_7 (lv_at hl 0 rfl) ?_
        refine t_if_lt (tgt := 16) hx hb dX3_open_9 (by decide) (by omega) ?_
        refine lv_iconst (v := nI 1) hx hb dX3_open_12 (by decide) ?_
        refine lv_goto (tgt := 17) hx hb dX3_open_13 (by decide) ?_
        refine lv_iload_n hx hb dX3_open_17 rfl (lv_at hl 2 rfl) ?_
        refine g_callS (As := [.int x]) (rest := [.int (nI 1), .ref (ad 69)]) ⟨hx, hb, hml, hown, hw⟩ (mX3_isBench l D cT n ad A hD G x) (va_cwS 1 hw (gWS wm_X3_67 wst_X3_isBench wini_X3 wc_X3_isBench) rfl rfl rfl (by decide +kernel) ⟨Nat.le_of_ble_eq_true rfl, Nat.le_of_ble_eq_true rfl⟩) hK hE hA hP hS rfl hl.1 (lv_room (Nat.le_of_ble_eq_true rfl)) dX3_open_18 ⟨Nat.le_of_ble_eq_true rfl, Nat.le_of_ble_eq_true rfl⟩ (fun v_123 G_122 H locs hp hP hS => ?_)
        obtain ⟨hv9, hg9⟩ := hp
        subst hv9
        rw [hg9] at hP
        refine t_eqi (nI 0) (congrArg nI (if_pos hbb)) ?_
        refine t_if_eq (tgt := 47) hx hb dX3_open_21 (by decide) (by omega) (fun c_124 => ?_) (fun c_124 => absurd c_124 (by omega))
        refine lv_iconst (v := nI 0) hx hb dX3_open_47 (by decide) ?_
        refine lv_iconst (v := nI 1) hx hb dX3_open_48 (by decide) ?_
        refine g_callV (As := [.int (nI 1), .int (nI 0), .int (nI 1)]) (rest := []) ⟨hx, hb, hml, hown, hw⟩ (mX3_can l D cT n ad A hD G hn th 1 0 1 (by decide) (by decide) (by decide) hC.1) (cwV 3 hw (gWV wm_X3_63 wi_X3_can wse_X3_can wini_X3 wc_X3_can) rfl rfl rfl (by decide +kernel) ⟨Nat.le_of_ble_eq_true rfl, Nat.le_of_ble_eq_true rfl⟩) hK hE hA hP hS (k := 69) (by omega) hC.1 rfl rfl hl.1 (lv_room (Nat.le_of_ble_eq_true rfl)) dX3_open_49 ⟨Nat.le_of_ble_eq_true rfl, Nat.le_of_ble_eq_true rfl⟩ (fun v_126 G_125 H locs hp hP hS => ?_)
        obtain ⟨rfl, hg_G_125, ho_G_125⟩ := hp
        have hc_127 : G_125 69 = .inr (5, [.ref (ad 70), .ref (ad 86), .ref (ad 90), .ref (ad 97), .ref (ad 98), .ref (ad 99), .ref (ad 106), .ref (ad 113), .int (nI 2)]) := hg_G_125
        have hc_128 : G_125 70 = aQ (cT 10) 3 (q3 ad) := (ho_G_125 _ (by omega)).trans hC.2.1
        have hc_129 : G_125 86 = aQ (cT 8) 3 (qS ad) := (ho_G_125 _ (by omega)).trans hC.2.2.2.2.1
        have hc_130 : G_125 90 = aQ (cT 7) 6 (qP ad) := (ho_G_125 _ (by omega)).trans hC.2.2.2.2.2.2.1
        have hc_131 : G_125 97 = aI cT 6 zf := (ho_G_125 _ (by omega)).trans hC.2.2.2.2.2.2.2.2.1
        have hc_132 : G_125 98 = aZ cT 6 xf := (ho_G_125 _ (by omega)).trans hC.2.2.2.2.2.2.2.2.2.1
        have hc_133 : G_125 99 = aQ (cT 9) 6 (qK ad) := (ho_G_125 _ (by omega)).trans hC.2.2.2.2.2.2.2.2.2.2.1
        have hc_134 : G_125 106 = aQ (cT 8) 6 (qL ad) := (ho_G_125 _ (by omega)).trans hC.2.2.2.2.2.2.2.2.2.2.2.2.1
        have hc_135 : G_125 113 = aI cT 6 mf := (ho_G_125 _ (by omega)).trans hC.2.2.2.2.2.2.2.2.2.2.2.2.2.2.1
        have hfr_136 : ∀ j, (j ≠ 69) → G_125 j = G j := fun j hj => (ho_G_125 j (by omega)).trans (rfl)
        refine t_eqi (nI 0) rfl ?_
        refine t_if_eq (tgt := 83) hx hb dX3_open_52 (by decide) (by omega) (fun c_137 => ?_) (fun c_137 => absurd c_137 (by omega))
        refine lv_iconst (v := nI 0) hx hb dX3_open_83 (by decide) ?_
        refine g_ret hQ hx hb hr hlocks rfl hP hS (⟨⟨⟨_, rfl⟩, by rw [show cd [xIA, xIO] xIO = 2 from by decide +kernel]; exact MW.same hC hMA hc_127 (fun j9 _ _ hj9 => hfr_136 j9 hj9)⟩, fun j hj => hfr_136 j (by omega)⟩) (Nat.le_of_ble_eq_true rfl) (Nat.le_of_ble_eq_true rfl) dX3_open_84
      · skip
        obtain ⟨hz, hm, hxx, hpp, hkl⟩ := hMA.2 b (by omega)
        obtain ⟨hit, hbx⟩ := hI.2 b (by omega)
        have hcap := BI_cap hit
        have h48 := hit.1
        refine lv_iload_n hx hb dX3_open_0 rfl (lv_at hl 2 rfl) ?_
        refine g_callS (As := [.int (nI ch)]) (rest := []) ⟨hx, hb, hml, hown, hw⟩ (mX3_kind l D cT n ad A hD G ch (by omega)) (va_cwS 1 hw (gWS wm_X3_51 wst_X3_kind wini_X3 wc_X3_kind) rfl rfl rfl (by decide +kernel) ⟨Nat.le_of_ble_eq_true rfl, Nat.le_of_ble_eq_true rfl⟩) hK hE hA hP hS rfl hl.1 (lv_room (Nat.le_of_ble_eq_true rfl)) dX3_open_1 ⟨Nat.le_of_ble_eq_true rfl, Nat.le_of_ble_eq_true rfl⟩ (fun v_139 G_138 H locs hp hP hS => ?_)
        obtain ⟨hv9, hg9⟩ := hp
        subst hv9
        rw [hg9] at hP
        refine t_eqi (nI q) ((if_neg (by omega)).trans (congrArg nI hkq)) ?_
        refine lv_istore (lv' := [(6, .int (nI q)), (0, .ref (ad 69)), (1, .int (nI b)), (2, .int (nI ch)), (3, .int y), (4, .int u), (5, .int z)]) hx hb dX3_open_4 hl (by decide) rfl (fun ls hl => ?_)
        refine lv_aload_n hx hb dX3_open_6 rfl (lv_at hl 1 rfl) ?_
        refine lv_iload hx hb dX3_open_7 (lv_at hl 0 rfl) ?_
        refine t_if_lt (tgt := 16) hx hb dX3_open_9 (by decide) (by omega) ?_
        refine lv_iconst (v := nI 1) hx hb dX3_open_12 (by decide) ?_
        refine lv_goto (tgt := 17) hx hb dX3_open_13 (by decide) ?_
        refine lv_iload_n hx hb dX3_open_17 rfl (lv_at hl 2 rfl) ?_
        refine g_callS (As := [.int (nI b)]) (rest := [.int (nI 1), .ref (ad 69)]) ⟨hx, hb, hml, hown, hw⟩ (mX3_isBench l D cT n ad A hD G (nI b)) (va_cwS 1 hw (gWS wm_X3_67 wst_X3_isBench wini_X3 wc_X3_isBench) rfl rfl rfl (by decide +kernel) ⟨Nat.le_of_ble_eq_true rfl, Nat.le_of_ble_eq_true rfl⟩) hK hE hA hP hS rfl hl.1 (lv_room (Nat.le_of_ble_eq_true rfl)) dX3_open_18 ⟨Nat.le_of_ble_eq_true rfl, Nat.le_of_ble_eq_true rfl⟩ (fun v_142 G_141 H locs hp hP hS => ?_)
        obtain ⟨hv9, hg9⟩ := hp
        subst hv9
        rw [hg9] at hP
        refine t_eqi (nI 1) (congrArg nI (if_neg (ix_ok (by omega) (by decide)))) ?_
        refine t_if_eq (tgt := 47) hx hb dX3_open_21 (by decide) (by omega) (fun c_143 => absurd c_143 (by omega)) (fun c_143 => ?_)
        refine lv_iload_n hx hb dX3_open_24 rfl (lv_at hl 4 rfl) ?_
        refine g_callS (As := [.int y]) (rest := [.int (nI 1), .ref (ad 69)]) ⟨hx, hb, hml, hown, hw⟩ (mX3_isRow l D cT n ad A hD G y) (va_cwS 1 hw (gWS wm_X3_59 wst_X3_isRow wini_X3 wc_X3_isRow) rfl rfl rfl (by decide +kernel) ⟨Nat.le_of_ble_eq_true rfl, Nat.le_of_ble_eq_true rfl⟩) hK hE hA hP hS rfl hl.1 (lv_room (Nat.le_of_ble_eq_true rfl)) dX3_open_25 ⟨Nat.le_of_ble_eq_true rfl, Nat.le_of_ble_eq_true rfl⟩ (fun v_145 G_144 H locs hp hP hS => ?_)
        obtain ⟨hv9, hg9⟩ := hp
        subst hv9
        rw [hg9] at hP
        refine t_eqi (nI 0) (congrArg nI (if_pos hrb)) ?_
        refine t_if_eq (tgt := 47) hx hb dX3_open_28 (by decide) (by omega) (fun c_146 => ?_) (fun c_146 => absurd c_146 (by omega))
        refine lv_iconst (v := nI 0) hx hb dX3_open_47 (by decide) ?_
        refine lv_iconst (v := nI 1) hx hb dX3_open_48 (by decide) ?_
        refine g_callV (As := [.int (nI 1), .int (nI 0), .int (nI 1)]) (rest := []) ⟨hx, hb, hml, hown, hw⟩ (mX3_can l D cT n ad A hD G hn th 1 0 1 (by decide) (by decide) (by decide) hC.1) (cwV 3 hw (gWV wm_X3_63 wi_X3_can wse_X3_can wini_X3 wc_X3_can) rfl rfl rfl (by decide +kernel) ⟨Nat.le_of_ble_eq_true rfl, Nat.le_of_ble_eq_true rfl⟩) hK hE hA hP hS (k := 69) (by omega) hC.1 rfl rfl hl.1 (lv_room (Nat.le_of_ble_eq_true rfl)) dX3_open_49 ⟨Nat.le_of_ble_eq_true rfl, Nat.le_of_ble_eq_true rfl⟩ (fun v_148 G_147 H locs hp hP hS => ?_)
        obtain ⟨rfl, hg_G_147, ho_G_147⟩ := hp
        have hc_149 : G_147 69 = .inr (5, [.ref (ad 70), .ref (ad 86), .ref (ad 90), .ref (ad 97), .ref (ad 98), .ref (ad 99), .ref (ad 106), .ref (ad 113), .int (nI 2)]) := hg_G_147
        have hc_150 : G_147 70 = aQ (cT 10) 3 (q3 ad) := (ho_G_147 _ (by omega)).trans hC.2.1
        have hc_151 : G_147 86 = aQ (cT 8) 3 (qS ad) := (ho_G_147 _ (by omega)).trans hC.2.2.2.2.1
        have hc_152 : G_147 90 = aQ (cT 7) 6 (qP ad) := (ho_G_147 _ (by omega)).trans hC.2.2.2.2.2.2.1
        have hc_153 : G_147 97 = aI cT 6 zf := (ho_G_147 _ (by omega)).trans hC.2.2.2.2.2.2.2.2.1
        have hc_154 : G_147 98 = aZ cT 6 xf := (ho_G_147 _ (by omega)).trans hC.2.2.2.2.2.2.2.2.2.1
        have hc_155 : G_147 99 = aQ (cT 9) 6 (qK ad) := (ho_G_147 _ (by omega)).trans hC.2.2.2.2.2.2.2.2.2.2.1
        have hc_156 : G_147 106 = aQ (cT 8) 6 (qL ad) := (ho_G_147 _ (by omega)).trans hC.2.2.2.2.2.2.2.2.2.2.2.2.1
        have hc_157 : G_147 113 = aI cT 6 mf := (ho_G_147 _ (by omega)).trans hC.2.2.2.2.2.2.2.2.2.2.2.2.2.2.1
        have hc_158 : G_147 (91 + b) = aJ cT 48 (pf b) := (ho_G_147 _ (by omega)).trans (hC.2.2.2.2.2.2.2.1 b (by omega))
        have hc_159 : G_147 (100 + b) = aC cT 128 (kf b) := (ho_G_147 _ (by omega)).trans (hC.2.2.2.2.2.2.2.2.2.2.2.1 b (by omega))
        have hc_160 : G_147 (107 + b) = aI cT 128 (lf b) := (ho_G_147 _ (by omega)).trans (hC.2.2.2.2.2.2.2.2.2.2.2.2.2.1 b (by omega))
        have hfr_161 : ∀ j, (j ≠ 69) → G_147 j = G j := fun j hj => (ho_G_147 j (by omega)).trans (rfl)
        refine t_eqi (nI 0) rfl ?_
        refine t_if_eq (tgt := 83) hx hb dX3_open_52 (by decide) (by omega) (fun c_162 => ?_) (fun c_162 => absurd c_162 (by omega))
        refine lv_iconst (v := nI 0) hx hb dX3_open_83 (by decide) ?_
        refine g_ret hQ hx hb hr hlocks rfl hP hS (⟨⟨⟨_, rfl⟩, by rw [show cd [xIA, xIO] xIO = 2 from by decide +kernel]; exact MW.same hC hMA hc_149 (fun j9 _ _ hj9 => hfr_161 j9 hj9)⟩, fun j hj => hfr_161 j (by omega)⟩) (Nat.le_of_ble_eq_true rfl) (Nat.le_of_ble_eq_true rfl) dX3_open_84
    · skip
      rcases hpx with hbb | ⟨q9, ro, hq9, hro, hkq9, rfl, huz⟩
      · skip
        rcases ix_cases y (N := 4) (by decide) with hrb | ⟨ro, hro, rfl⟩
        · skip
          refine lv_iload_n hx hb dX3_open_0 rfl (lv_at hl 2 rfl) ?_
          refine g_callS (As := [.int (nI ch)]) (rest := []) ⟨hx, hb, hml, hown, hw⟩ (mX3_kind l D cT n ad A hD G ch (by omega)) (va_cwS 1 hw (gWS wm_X3_51 wst_X3_kind wini_X3 wc_X3_kind) rfl rfl rfl (by decide +kernel) ⟨Nat.le_of_ble_eq_true rfl, Nat.le_of_ble_eq_true rfl⟩) hK hE hA hP hS rfl hl.1 (lv_room (Nat.le_of_ble_eq_true rfl)) dX3_open_1 ⟨Nat.le_of_ble_eq_true rfl, Nat.le_of_ble_eq_true rfl⟩ (fun v_164 G_163 H locs hp hP hS => ?_)
          obtain ⟨hv9, hg9⟩ := hp
          subst hv9
          rw [hg9] at hP
          refine t_eqi (nI q) ((if_neg (by omega)).trans (congrArg nI hkq)) ?_
          refine lv_istore (lv' := [(6, .int (nI q)), (0, .ref (ad 69)), (1, .int x), (2, .int (nI ch)), (3, .int y), (4, .int u), (5, .int z)]) hx hb dX3_open_4 hl (by decide) rfl (fun ls hl => ?_)
          refine lv_aload_n hx hb dX3_open_6 rfl (lv_at hl 1 rfl) ?_
          refine lv_iload hx hb dX3_open_7 (lv_at hl 0 rfl) ?_
          refine t_if_lt (tgt := 16) hx hb dX3_open_9 (by decide) (by omega) ?_
          refine lv_iconst (v := nI 1) hx hb dX3_open_12 (by decide) ?_
          refine lv_goto (tgt := 17) hx hb dX3_open_13 (by decide) ?_
          refine lv_iload_n hx hb dX3_open_17 rfl (lv_at hl 2 rfl) ?_
          refine g_callS (As := [.int x]) (rest := [.int (nI 1), .ref (ad 69)]) ⟨hx, hb, hml, hown, hw⟩ (mX3_isBench l D cT n ad A hD G x) (va_cwS 1 hw (gWS wm_X3_67 wst_X3_isBench wini_X3 wc_X3_isBench) rfl rfl rfl (by decide +kernel) ⟨Nat.le_of_ble_eq_true rfl, Nat.le_of_ble_eq_true rfl⟩) hK hE hA hP hS rfl hl.1 (lv_room (Nat.le_of_ble_eq_true rfl)) dX3_open_18 ⟨Nat.le_of_ble_eq_true rfl, Nat.le_of_ble_eq_true rfl⟩ (fun v_167 G_166 H locs hp hP hS => ?_)
          obtain ⟨hv9, hg9⟩ := hp
          subst hv9
          rw [hg9] at hP
          refine t_eqi (nI 0) (congrArg nI (if_pos hbb)) ?_
          refine t_if_eq (tgt := 47) hx hb dX3_open_21 (by decide) (by omega) (fun c_168 => ?_) (fun c_168 => absurd c_168 (by omega))
          refine lv_iconst (v := nI 0) hx hb dX3_open_47 (by decide) ?_
          refine lv_iconst (v := nI 1) hx hb dX3_open_48 (by decide) ?_
          refine g_callV (As := [.int (nI 1), .int (nI 0), .int (nI 1)]) (rest := []) ⟨hx, hb, hml, hown, hw⟩ (mX3_can l D cT n ad A hD G hn th 1 0 1 (by decide) (by decide) (by decide) hC.1) (cwV 3 hw (gWV wm_X3_63 wi_X3_can wse_X3_can wini_X3 wc_X3_can) rfl rfl rfl (by decide +kernel) ⟨Nat.le_of_ble_eq_true rfl, Nat.le_of_ble_eq_true rfl⟩) hK hE hA hP hS (k := 69) (by omega) hC.1 rfl rfl hl.1 (lv_room (Nat.le_of_ble_eq_true rfl)) dX3_open_49 ⟨Nat.le_of_ble_eq_true rfl, Nat.le_of_ble_eq_true rfl⟩ (fun v_170 G_169 H locs hp hP hS => ?_)
          obtain ⟨rfl, hg_G_169, ho_G_169⟩ := hp
          have hc_171 : G_169 69 = .inr (5, [.ref (ad 70), .ref (ad 86), .ref (ad 90), .ref (ad 97), .ref (ad 98), .ref (ad 99), .ref (ad 106), .ref (ad 113), .int (nI 2)]) := hg_G_169
          have hc_172 : G_169 70 = aQ (cT 10) 3 (q3 ad) := (ho_G_169 _ (by omega)).trans hC.2.1
          have hc_173 : G_169 86 = aQ (cT 8) 3 (qS ad) := (ho_G_169 _ (by omega)).trans hC.2.2.2.2.1
          have hc_174 : G_169 90 = aQ (cT 7) 6 (qP ad) := (ho_G_169 _ (by omega)).trans hC.2.2.2.2.2.2.1
          have hc_175 : G_169 97 = aI cT 6 zf := (ho_G_169 _ (by omega)).trans hC.2.2.2.2.2.2.2.2.1
          have hc_176 : G_169 98 = aZ cT 6 xf := (ho_G_169 _ (by omega)).trans hC.2.2.2.2.2.2.2.2.2.1
          have hc_177 : G_169 99 = aQ (cT 9) 6 (qK ad) := (ho_G_169 _ (by omega)).trans hC.2.2.2.2.2.2.2.2.2.2.1
          have hc_178 : G_169 106 = aQ (cT 8) 6 (qL ad) := (ho_G_169 _ (by omega)).trans hC.2.2.2.2.2.2.2.2.2.2.2.2.1
          have hc_179 : G_169 113 = aI cT 6 mf := (ho_G_169 _ (by omega)).trans hC.2.2.2.2.2.2.2.2.2.2.2.2.2.2.1
          have hfr_180 : ∀ j, (j ≠ 69) → G_169 j = G j := fun j hj => (ho_G_169 j (by omega)).trans (rfl)
          refine t_eqi (nI 0) rfl ?_
          refine t_if_eq (tgt := 83) hx hb dX3_open_52 (by decide) (by omega) (fun c_181 => ?_) (fun c_181 => absurd c_181 (by omega))
          refine lv_iconst (v := nI 0) hx hb dX3_open_83 (by decide) ?_
          refine g_ret hQ hx hb hr hlocks rfl hP hS (⟨⟨⟨_, rfl⟩, by rw [show cd [xIA, xIO] xIO = 2 from by decide +kernel]; exact MW.same hC hMA hc_171 (fun j9 _ _ hj9 => hfr_180 j9 hj9)⟩, fun j hj => hfr_180 j (by omega)⟩) (Nat.le_of_ble_eq_true rfl) (Nat.le_of_ble_eq_true rfl) dX3_open_84
        · skip
          obtain ⟨hsz, hrv⟩ := hMA.1 q (by omega) ro (by omega)
          have hrc := hI.1 (4 * q + ro) (by omega)
          refine lv_iload_n hx hb dX3_open_0 rfl (lv_at hl 2 rfl) ?_
          refine g_callS (As := [.int (nI ch)]) (rest := []) ⟨hx, hb, hml, hown, hw⟩ (mX3_kind l D cT n ad A hD G ch (by omega)) (va_cwS 1 hw (gWS wm_X3_51 wst_X3_kind wini_X3 wc_X3_kind) rfl rfl rfl (by decide +kernel) ⟨Nat.le_of_ble_eq_true rfl, Nat.le_of_ble_eq_true rfl⟩) hK hE hA hP hS rfl hl.1 (lv_room (Nat.le_of_ble_eq_true rfl)) dX3_open_1 ⟨Nat.le_of_ble_eq_true rfl, Nat.le_of_ble_eq_true rfl⟩ (fun v_183 G_182 H locs hp hP hS => ?_)
          obtain ⟨hv9, hg9⟩ := hp
          subst hv9
          rw [hg9] at hP
          refine t_eqi (nI q) ((if_neg (by omega)).trans (congrArg nI hkq)) ?_
          refine lv_istore (lv' := [(6, .int (nI q)), (0, .ref (ad 69)), (1, .int x), (2, .int (nI ch)), (3, .int (nI ro)), (4, .int u), (5, .int z)]) hx hb dX3_open_4 hl (by decide) rfl (fun ls hl => ?_)
          refine lv_aload_n hx hb dX3_open_6 rfl (lv_at hl 1 rfl) ?_
          refine lv_iload hx hb dX3_open_7 (lv_at hl 0 rfl) ?_
          refine t_if_lt (tgt := 16) hx hb dX3_open_9 (by decide) (by omega) ?_
          refine lv_iconst (v := nI 1) hx hb dX3_open_12 (by decide) ?_
          refine lv_goto (tgt := 17) hx hb dX3_open_13 (by decide) ?_
          refine lv_iload_n hx hb dX3_open_17 rfl (lv_at hl 2 rfl) ?_
          refine g_callS (As := [.int x]) (rest := [.int (nI 1), .ref (ad 69)]) ⟨hx, hb, hml, hown, hw⟩ (mX3_isBench l D cT n ad A hD G x) (va_cwS 1 hw (gWS wm_X3_67 wst_X3_isBench wini_X3 wc_X3_isBench) rfl rfl rfl (by decide +kernel) ⟨Nat.le_of_ble_eq_true rfl, Nat.le_of_ble_eq_true rfl⟩) hK hE hA hP hS rfl hl.1 (lv_room (Nat.le_of_ble_eq_true rfl)) dX3_open_18 ⟨Nat.le_of_ble_eq_true rfl, Nat.le_of_ble_eq_true rfl⟩ (fun v_186 G_185 H locs hp hP hS => ?_)
          obtain ⟨hv9, hg9⟩ := hp
          subst hv9
          rw [hg9] at hP
          refine t_eqi (nI 0) (congrArg nI (if_pos hbb)) ?_
          refine t_if_eq (tgt := 47) hx hb dX3_open_21 (by decide) (by omega) (fun c_187 => ?_) (fun c_187 => absurd c_187 (by omega))
          refine lv_iconst (v := nI 0) hx hb dX3_open_47 (by decide) ?_
          refine lv_iconst (v := nI 1) hx hb dX3_open_48 (by decide) ?_
          refine g_callV (As := [.int (nI 1), .int (nI 0), .int (nI 1)]) (rest := []) ⟨hx, hb, hml, hown, hw⟩ (mX3_can l D cT n ad A hD G hn th 1 0 1 (by decide) (by decide) (by decide) hC.1) (cwV 3 hw (gWV wm_X3_63 wi_X3_can wse_X3_can wini_X3 wc_X3_can) rfl rfl rfl (by decide +kernel) ⟨Nat.le_of_ble_eq_true rfl, Nat.le_of_ble_eq_true rfl⟩) hK hE hA hP hS (k := 69) (by omega) hC.1 rfl rfl hl.1 (lv_room (Nat.le_of_ble_eq_true rfl)) dX3_open_49 ⟨Nat.le_of_ble_eq_true rfl, Nat.le_of_ble_eq_true rfl⟩ (fun v_189 G_188 H locs hp hP hS => ?_)
          obtain ⟨rfl, hg_G_188, ho_G_188⟩ := hp
          have hc_190 : G_188 69 = .inr (5, [.ref (ad 70), .ref (ad 86), .ref (ad 90), .ref (ad 97), .ref (ad 98), .ref (ad 99), .ref (ad 106), .ref (ad 113), .int (nI 2)]) := hg_G_188
          have hc_191 : G_188 70 = aQ (cT 10) 3 (q3 ad) := (ho_G_188 _ (by omega)).trans hC.2.1
          have hc_192 : G_188 86 = aQ (cT 8) 3 (qS ad) := (ho_G_188 _ (by omega)).trans hC.2.2.2.2.1
          have hc_193 : G_188 90 = aQ (cT 7) 6 (qP ad) := (ho_G_188 _ (by omega)).trans hC.2.2.2.2.2.2.1
          have hc_194 : G_188 97 = aI cT 6 zf := (ho_G_188 _ (by omega)).trans hC.2.2.2.2.2.2.2.2.1
          have hc_195 : G_188 98 = aZ cT 6 xf := (ho_G_188 _ (by omega)).trans hC.2.2.2.2.2.2.2.2.2.1
          have hc_196 : G_188 99 = aQ (cT 9) 6 (qK ad) := (ho_G_188 _ (by omega)).trans hC.2.2.2.2.2.2.2.2.2.2.1
          have hc_197 : G_188 106 = aQ (cT 8) 6 (qL ad) := (ho_G_188 _ (by omega)).trans hC.2.2.2.2.2.2.2.2.2.2.2.2.1
          have hc_198 : G_188 113 = aI cT 6 mf := (ho_G_188 _ (by omega)).trans hC.2.2.2.2.2.2.2.2.2.2.2.2.2.2.1
          have hc_199 : G_188 (71 + 5 * q) = aQ (cT 7) 4 (q4 ad q) := (ho_G_188 _ (by omega)).trans (hC.2.2.1 q (by omega))
          have hc_200 : G_188 (87 + q) = aI cT 4 (sf q) := (ho_G_188 _ (by omega)).trans (hC.2.2.2.2.2.1 q (by omega))
          have hc_201 : G_188 (72 + 5 * q + ro) = aJ cT 48 (rf q ro) := (ho_G_188 _ (by omega)).trans (hC.2.2.2.1 q (by omega) ro (by omega))
          have hfr_202 : ∀ j, (j ≠ 69) → G_188 j = G j := fun j hj => (ho_G_188 j (by omega)).trans (rfl)
          refine t_eqi (nI 0) rfl ?_
          refine t_if_eq (tgt := 83) hx hb dX3_open_52 (by decide) (by omega) (fun c_203 => ?_) (fun c_203 => absurd c_203 (by omega))
          refine lv_iconst (v := nI 0) hx hb dX3_open_83 (by decide) ?_
          refine g_ret hQ hx hb hr hlocks rfl hP hS (⟨⟨⟨_, rfl⟩, by rw [show cd [xIA, xIO] xIO = 2 from by decide +kernel]; exact MW.same hC hMA hc_190 (fun j9 _ _ hj9 => hfr_202 j9 hj9)⟩, fun j hj => hfr_202 j (by omega)⟩) (Nat.le_of_ble_eq_true rfl) (Nat.le_of_ble_eq_true rfl) dX3_open_84
      · skip
        have e9 : q9 = q := by omega
        subst e9
        obtain ⟨hsz, hrv⟩ := hMA.1 q9 (by omega) ro (by omega)
        have hrc := hI.1 (4 * q9 + ro) (by omega)
        rcases ix_cases x (N := 6) (by decide) with hbb | ⟨b, hb6, rfl⟩
        · skip
          refine lv_iload_n hx hb dX3_open_0 rfl (lv_at hl 2 rfl) ?_
          refine g_callS (As := [.int (nI ch)]) (rest := []) ⟨hx, hb, hml, hown, hw⟩ (mX3_kind l D cT n ad A hD G ch (by omega)) (va_cwS 1 hw (gWS wm_X3_51 wst_X3_kind wini_X3 wc_X3_kind) rfl rfl rfl (by decide +kernel) ⟨Nat.le_of_ble_eq_true rfl, Nat.le_of_ble_eq_true rfl⟩) hK hE hA hP hS rfl hl.1 (lv_room (Nat.le_of_ble_eq_true rfl)) dX3_open_1 ⟨Nat.le_of_ble_eq_true rfl, Nat.le_of_ble_eq_true rfl⟩ (fun v_205 G_204 H locs hp hP hS => ?_)
          obtain ⟨hv9, hg9⟩ := hp
          subst hv9
          rw [hg9] at hP
          refine t_eqi (nI q9) ((if_neg (by omega)).trans (congrArg nI hkq)) ?_
          refine lv_istore (lv' := [(6, .int (nI q9)), (0, .ref (ad 69)), (1, .int x), (2, .int (nI ch)), (3, .int (nI ro)), (4, .int u), (5, .int z)]) hx hb dX3_open_4 hl (by decide) rfl (fun ls hl => ?_)
          refine lv_aload_n hx hb dX3_open_6 rfl (lv_at hl 1 rfl) ?_
          refine lv_iload hx hb dX3_open_7 (lv_at hl 0 rfl) ?_
          refine t_if_lt (tgt := 16) hx hb dX3_open_9 (by decide) (by omega) ?_
          refine lv_iconst (v := nI 1) hx hb dX3_open_12 (by decide) ?_
          refine lv_goto (tgt := 17) hx hb dX3_open_13 (by decide) ?_
          refine lv_iload_n hx hb dX3_open_17 rfl (lv_at hl 2 rfl) ?_
          refine g_callS (As := [.int x]) (rest := [.int (nI 1), .ref (ad 69)]) ⟨hx, hb, hml, hown, hw⟩ (mX3_isBench l D cT n ad A hD G x) (va_cwS 1 hw (gWS wm_X3_67 wst_X3_isBench wini_X3 wc_X3_isBench) rfl rfl rfl (by decide +kernel) ⟨Nat.le_of_ble_eq_true rfl, Nat.le_of_ble_eq_true rfl⟩) hK hE hA hP hS rfl hl.1 (lv_room (Nat.le_of_ble_eq_true rfl)) dX3_open_18 ⟨Nat.le_of_ble_eq_true rfl, Nat.le_of_ble_eq_true rfl⟩ (fun v_208 G_207 H locs hp hP hS => ?_)
          obtain ⟨hv9, hg9⟩ := hp
          subst hv9
          rw [hg9] at hP
          refine t_eqi (nI 0) (congrArg nI (if_pos hbb)) ?_
          refine t_if_eq (tgt := 47) hx hb dX3_open_21 (by decide) (by omega) (fun c_209 => ?_) (fun c_209 => absurd c_209 (by omega))
          refine lv_iconst (v := nI 0) hx hb dX3_open_47 (by decide) ?_
          refine lv_iconst (v := nI 1) hx hb dX3_open_48 (by decide) ?_
          refine g_callV (As := [.int (nI 1), .int (nI 0), .int (nI 1)]) (rest := []) ⟨hx, hb, hml, hown, hw⟩ (mX3_can l D cT n ad A hD G hn th 1 0 1 (by decide) (by decide) (by decide) hC.1) (cwV 3 hw (gWV wm_X3_63 wi_X3_can wse_X3_can wini_X3 wc_X3_can) rfl rfl rfl (by decide +kernel) ⟨Nat.le_of_ble_eq_true rfl, Nat.le_of_ble_eq_true rfl⟩) hK hE hA hP hS (k := 69) (by omega) hC.1 rfl rfl hl.1 (lv_room (Nat.le_of_ble_eq_true rfl)) dX3_open_49 ⟨Nat.le_of_ble_eq_true rfl, Nat.le_of_ble_eq_true rfl⟩ (fun v_211 G_210 H locs hp hP hS => ?_)
          obtain ⟨rfl, hg_G_210, ho_G_210⟩ := hp
          have hc_212 : G_210 69 = .inr (5, [.ref (ad 70), .ref (ad 86), .ref (ad 90), .ref (ad 97), .ref (ad 98), .ref (ad 99), .ref (ad 106), .ref (ad 113), .int (nI 2)]) := hg_G_210
          have hc_213 : G_210 70 = aQ (cT 10) 3 (q3 ad) := (ho_G_210 _ (by omega)).trans hC.2.1
          have hc_214 : G_210 86 = aQ (cT 8) 3 (qS ad) := (ho_G_210 _ (by omega)).trans hC.2.2.2.2.1
          have hc_215 : G_210 90 = aQ (cT 7) 6 (qP ad) := (ho_G_210 _ (by omega)).trans hC.2.2.2.2.2.2.1
          have hc_216 : G_210 97 = aI cT 6 zf := (ho_G_210 _ (by omega)).trans hC.2.2.2.2.2.2.2.2.1
          have hc_217 : G_210 98 = aZ cT 6 xf := (ho_G_210 _ (by omega)).trans hC.2.2.2.2.2.2.2.2.2.1
          have hc_218 : G_210 99 = aQ (cT 9) 6 (qK ad) := (ho_G_210 _ (by omega)).trans hC.2.2.2.2.2.2.2.2.2.2.1
          have hc_219 : G_210 106 = aQ (cT 8) 6 (qL ad) := (ho_G_210 _ (by omega)).trans hC.2.2.2.2.2.2.2.2.2.2.2.2.1
          have hc_220 : G_210 113 = aI cT 6 mf := (ho_G_210 _ (by omega)).trans hC.2.2.2.2.2.2.2.2.2.2.2.2.2.2.1
          have hc_221 : G_210 (71 + 5 * q9) = aQ (cT 7) 4 (q4 ad q9) := (ho_G_210 _ (by omega)).trans (hC.2.2.1 q9 (by omega))
          have hc_222 : G_210 (87 + q9) = aI cT 4 (sf q9) := (ho_G_210 _ (by omega)).trans (hC.2.2.2.2.2.1 q9 (by omega))
          have hc_223 : G_210 (72 + 5 * q9 + ro) = aJ cT 48 (rf q9 ro) := (ho_G_210 _ (by omega)).trans (hC.2.2.2.1 q9 (by omega) ro (by omega))
          have hfr_224 : ∀ j, (j ≠ 69) → G_210 j = G j := fun j hj => (ho_G_210 j (by omega)).trans (rfl)
          refine t_eqi (nI 0) rfl ?_
          refine t_if_eq (tgt := 83) hx hb dX3_open_52 (by decide) (by omega) (fun c_225 => ?_) (fun c_225 => absurd c_225 (by omega))
          refine lv_iconst (v := nI 0) hx hb dX3_open_83 (by decide) ?_
          refine g_ret hQ hx hb hr hlocks rfl hP hS (⟨⟨⟨_, rfl⟩, by rw [show cd [xIA, xIO] xIO = 2 from by decide +kernel]; exact MW.same hC hMA hc_212 (fun j9 _ _ hj9 => hfr_224 j9 hj9)⟩, fun j hj => hfr_224 j (by omega)⟩) (Nat.le_of_ble_eq_true rfl) (Nat.le_of_ble_eq_true rfl) dX3_open_84
        · skip
          obtain ⟨hz, hm, hxx, hpp, hkl⟩ := hMA.2 b (by omega)
          obtain ⟨hit, hbx⟩ := hI.2 b (by omega)
          have hcap := BI_cap hit
          have h48 := hit.1
          refine lv_iload_n hx hb dX3_open_0 rfl (lv_at hl 2 rfl) ?_
          refine g_callS (As := [.int (nI ch)]) (rest := []) ⟨hx, hb, hml, hown, hw⟩ (mX3_kind l D cT n ad A hD G ch (by omega)) (va_cwS 1 hw (gWS wm_X3_51 wst_X3_kind wini_X3 wc_X3_kind) rfl rfl rfl (by decide +kernel) ⟨Nat.le_of_ble_eq_true rfl, Nat.le_of_ble_eq_true rfl⟩) hK hE hA hP hS rfl hl.1 (lv_room (Nat.le_of_ble_eq_true rfl)) dX3_open_1 ⟨Nat.le_of_ble_eq_true rfl, Nat.le_of_ble_eq_true rfl⟩ (fun v_227 G_226 H locs hp hP hS => ?_)
          obtain ⟨hv9, hg9⟩ := hp
          subst hv9
          rw [hg9] at hP
          refine t_eqi (nI q9) ((if_neg (by omega)).trans (congrArg nI hkq)) ?_
          refine lv_istore (lv' := [(6, .int (nI q9)), (0, .ref (ad 69)), (1, .int (nI b)), (2, .int (nI ch)), (3, .int (nI ro)), (4, .int u), (5, .int z)]) hx hb dX3_open_4 hl (by decide) rfl (fun ls hl => ?_)
          refine lv_aload_n hx hb dX3_open_6 rfl (lv_at hl 1 rfl) ?_
          refine lv_iload hx hb dX3_open_7 (lv_at hl 0 rfl) ?_
          refine t_if_lt (tgt := 16) hx hb dX3_open_9 (by decide) (by omega) ?_
          refine lv_iconst (v := nI 1) hx hb dX3_open_12 (by decide) ?_
          refine lv_goto (tgt := 17) hx hb dX3_open_13 (by decide) ?_
          refine lv_iload_n hx hb dX3_open_17 rfl (lv_at hl 2 rfl) ?_
          refine g_callS (As := [.int (nI b)]) (rest := [.int (nI 1), .ref (ad 69)]) ⟨hx, hb, hml, hown, hw⟩ (mX3_isBench l D cT n ad A hD G (nI b)) (va_cwS 1 hw (gWS wm_X3_67 wst_X3_isBench wini_X3 wc_X3_isBench) rfl rfl rfl (by decide +kernel) ⟨Nat.le_of_ble_eq_true rfl, Nat.le_of_ble_eq_true rfl⟩) hK hE hA hP hS rfl hl.1 (lv_room (Nat.le_of_ble_eq_true rfl)) dX3_open_18 ⟨Nat.le_of_ble_eq_true rfl, Nat.le_of_ble_eq_true rfl⟩ (fun v_230 G_229 H locs hp hP hS => ?_)
          obtain ⟨hv9, hg9⟩ := hp
          subst hv9
          rw [hg9] at hP
          refine t_eqi (nI 1) (congrArg nI (if_neg (ix_ok (by omega) (by decide)))) ?_
          refine t_if_eq (tgt := 47) hx hb dX3_open_21 (by decide) (by omega) (fun c_231 => absurd c_231 (by omega)) (fun c_231 => ?_)
          refine lv_iload_n hx hb dX3_open_24 rfl (lv_at hl 4 rfl) ?_
          refine g_callS (As := [.int (nI ro)]) (rest := [.int (nI 1), .ref (ad 69)]) ⟨hx, hb, hml, hown, hw⟩ (mX3_isRow l D cT n ad A hD G (nI ro)) (va_cwS 1 hw (gWS wm_X3_59 wst_X3_isRow wini_X3 wc_X3_isRow) rfl rfl rfl (by decide +kernel) ⟨Nat.le_of_ble_eq_true rfl, Nat.le_of_ble_eq_true rfl⟩) hK hE hA hP hS rfl hl.1 (lv_room (Nat.le_of_ble_eq_true rfl)) dX3_open_25 ⟨Nat.le_of_ble_eq_true rfl, Nat.le_of_ble_eq_true rfl⟩ (fun v_233 G_232 H locs hp hP hS => ?_)
          obtain ⟨hv9, hg9⟩ := hp
          subst hv9
          rw [hg9] at hP
          refine t_eqi (nI 1) (congrArg nI (if_neg (ix_ok (by omega) (by decide)))) ?_
          refine t_if_eq (tgt := 47) hx hb dX3_open_28 (by decide) (by omega) (fun c_234 => absurd c_234 (by omega)) (fun c_234 => ?_)
          refine lv_iload hx hb dX3_open_31 (lv_at hl 5 rfl) ?_
          refine lv_if_lt (tgt := 47) hx hb dX3_open_33 (by decide) (fun c_235 => ?_) (fun c_235 => ?_)
          · skip
            refine lv_iconst (v := nI 0) hx hb dX3_open_47 (by decide) ?_
            refine lv_iconst (v := nI 1) hx hb dX3_open_48 (by decide) ?_
            refine g_callV (As := [.int (nI 1), .int (nI 0), .int (nI 1)]) (rest := []) ⟨hx, hb, hml, hown, hw⟩ (mX3_can l D cT n ad A hD G hn th 1 0 1 (by decide) (by decide) (by decide) hC.1) (cwV 3 hw (gWV wm_X3_63 wi_X3_can wse_X3_can wini_X3 wc_X3_can) rfl rfl rfl (by decide +kernel) ⟨Nat.le_of_ble_eq_true rfl, Nat.le_of_ble_eq_true rfl⟩) hK hE hA hP hS (k := 69) (by omega) hC.1 rfl rfl hl.1 (lv_room (Nat.le_of_ble_eq_true rfl)) dX3_open_49 ⟨Nat.le_of_ble_eq_true rfl, Nat.le_of_ble_eq_true rfl⟩ (fun v_237 G_236 H locs hp hP hS => ?_)
            obtain ⟨rfl, hg_G_236, ho_G_236⟩ := hp
            have hc_238 : G_236 69 = .inr (5, [.ref (ad 70), .ref (ad 86), .ref (ad 90), .ref (ad 97), .ref (ad 98), .ref (ad 99), .ref (ad 106), .ref (ad 113), .int (nI 2)]) := hg_G_236
            have hc_239 : G_236 70 = aQ (cT 10) 3 (q3 ad) := (ho_G_236 _ (by omega)).trans hC.2.1
            have hc_240 : G_236 86 = aQ (cT 8) 3 (qS ad) := (ho_G_236 _ (by omega)).trans hC.2.2.2.2.1
            have hc_241 : G_236 90 = aQ (cT 7) 6 (qP ad) := (ho_G_236 _ (by omega)).trans hC.2.2.2.2.2.2.1
            have hc_242 : G_236 97 = aI cT 6 zf := (ho_G_236 _ (by omega)).trans hC.2.2.2.2.2.2.2.2.1
            have hc_243 : G_236 98 = aZ cT 6 xf := (ho_G_236 _ (by omega)).trans hC.2.2.2.2.2.2.2.2.2.1
            have hc_244 : G_236 99 = aQ (cT 9) 6 (qK ad) := (ho_G_236 _ (by omega)).trans hC.2.2.2.2.2.2.2.2.2.2.1
            have hc_245 : G_236 106 = aQ (cT 8) 6 (qL ad) := (ho_G_236 _ (by omega)).trans hC.2.2.2.2.2.2.2.2.2.2.2.2.1
            have hc_246 : G_236 113 = aI cT 6 mf := (ho_G_236 _ (by omega)).trans hC.2.2.2.2.2.2.2.2.2.2.2.2.2.2.1
            have hc_247 : G_236 (71 + 5 * q9) = aQ (cT 7) 4 (q4 ad q9) := (ho_G_236 _ (by omega)).trans (hC.2.2.1 q9 (by omega))
            have hc_248 : G_236 (87 + q9) = aI cT 4 (sf q9) := (ho_G_236 _ (by omega)).trans (hC.2.2.2.2.2.1 q9 (by omega))
            have hc_249 : G_236 (72 + 5 * q9 + ro) = aJ cT 48 (rf q9 ro) := (ho_G_236 _ (by omega)).trans (hC.2.2.2.1 q9 (by omega) ro (by omega))
            have hc_250 : G_236 (91 + b) = aJ cT 48 (pf b) := (ho_G_236 _ (by omega)).trans (hC.2.2.2.2.2.2.2.1 b (by omega))
            have hc_251 : G_236 (100 + b) = aC cT 128 (kf b) := (ho_G_236 _ (by omega)).trans (hC.2.2.2.2.2.2.2.2.2.2.2.1 b (by omega))
            have hc_252 : G_236 (107 + b) = aI cT 128 (lf b) := (ho_G_236 _ (by omega)).trans (hC.2.2.2.2.2.2.2.2.2.2.2.2.2.1 b (by omega))
            have hfr_253 : ∀ j, (j ≠ 69) → G_236 j = G j := fun j hj => (ho_G_236 j (by omega)).trans (rfl)
            refine t_eqi (nI 0) rfl ?_
            refine t_if_eq (tgt := 83) hx hb dX3_open_52 (by decide) (by omega) (fun c_254 => ?_) (fun c_254 => absurd c_254 (by omega))
            refine lv_iconst (v := nI 0) hx hb dX3_open_83 (by decide) ?_
            refine g_ret hQ hx hb hr hlocks rfl hP hS (⟨⟨⟨_, rfl⟩, by rw [show cd [xIA, xIO] xIO = 2 from by decide +kernel]; exact MW.same hC hMA hc_238 (fun j9 _ _ hj9 => hfr_253 j9 hj9)⟩, fun j hj => hfr_253 j (by omega)⟩) (Nat.le_of_ble_eq_true rfl) (Nat.le_of_ble_eq_true rfl) dX3_open_84
          · skip
            refine lv_iload hx hb dX3_open_36 (lv_at hl 5 rfl) ?_
            refine lv_iload hx hb dX3_open_38 (lv_at hl 6 rfl) ?_
            refine lv_icmp_gt (tgt := 47) hx hb dX3_open_40 (by decide) (fun c_255 => ?_) (fun c_255 => ?_)
            · skip
              refine lv_iconst (v := nI 0) hx hb dX3_open_47 (by decide) ?_
              refine lv_iconst (v := nI 1) hx hb dX3_open_48 (by decide) ?_
              refine g_callV (As := [.int (nI 1), .int (nI 0), .int (nI 1)]) (rest := []) ⟨hx, hb, hml, hown, hw⟩ (mX3_can l D cT n ad A hD G hn th 1 0 1 (by decide) (by decide) (by decide) hC.1) (cwV 3 hw (gWV wm_X3_63 wi_X3_can wse_X3_can wini_X3 wc_X3_can) rfl rfl rfl (by decide +kernel) ⟨Nat.le_of_ble_eq_true rfl, Nat.le_of_ble_eq_true rfl⟩) hK hE hA hP hS (k := 69) (by omega) hC.1 rfl rfl hl.1 (lv_room (Nat.le_of_ble_eq_true rfl)) dX3_open_49 ⟨Nat.le_of_ble_eq_true rfl, Nat.le_of_ble_eq_true rfl⟩ (fun v_257 G_256 H locs hp hP hS => ?_)
              obtain ⟨rfl, hg_G_256, ho_G_256⟩ := hp
              have hc_258 : G_256 69 = .inr (5, [.ref (ad 70), .ref (ad 86), .ref (ad 90), .ref (ad 97), .ref (ad 98), .ref (ad 99), .ref (ad 106), .ref (ad 113), .int (nI 2)]) := hg_G_256
              have hc_259 : G_256 70 = aQ (cT 10) 3 (q3 ad) := (ho_G_256 _ (by omega)).trans hC.2.1
              have hc_260 : G_256 86 = aQ (cT 8) 3 (qS ad) := (ho_G_256 _ (by omega)).trans hC.2.2.2.2.1
              have hc_261 : G_256 90 = aQ (cT 7) 6 (qP ad) := (ho_G_256 _ (by omega)).trans hC.2.2.2.2.2.2.1
              have hc_262 : G_256 97 = aI cT 6 zf := (ho_G_256 _ (by omega)).trans hC.2.2.2.2.2.2.2.2.1
              have hc_263 : G_256 98 = aZ cT 6 xf := (ho_G_256 _ (by omega)).trans hC.2.2.2.2.2.2.2.2.2.1
              have hc_264 : G_256 99 = aQ (cT 9) 6 (qK ad) := (ho_G_256 _ (by omega)).trans hC.2.2.2.2.2.2.2.2.2.2.1
              have hc_265 : G_256 106 = aQ (cT 8) 6 (qL ad) := (ho_G_256 _ (by omega)).trans hC.2.2.2.2.2.2.2.2.2.2.2.2.1
              have hc_266 : G_256 113 = aI cT 6 mf := (ho_G_256 _ (by omega)).trans hC.2.2.2.2.2.2.2.2.2.2.2.2.2.2.1
              have hc_267 : G_256 (71 + 5 * q9) = aQ (cT 7) 4 (q4 ad q9) := (ho_G_256 _ (by omega)).trans (hC.2.2.1 q9 (by omega))
              have hc_268 : G_256 (87 + q9) = aI cT 4 (sf q9) := (ho_G_256 _ (by omega)).trans (hC.2.2.2.2.2.1 q9 (by omega))
              have hc_269 : G_256 (72 + 5 * q9 + ro) = aJ cT 48 (rf q9 ro) := (ho_G_256 _ (by omega)).trans (hC.2.2.2.1 q9 (by omega) ro (by omega))
              have hc_270 : G_256 (91 + b) = aJ cT 48 (pf b) := (ho_G_256 _ (by omega)).trans (hC.2.2.2.2.2.2.2.1 b (by omega))
              have hc_271 : G_256 (100 + b) = aC cT 128 (kf b) := (ho_G_256 _ (by omega)).trans (hC.2.2.2.2.2.2.2.2.2.2.2.1 b (by omega))
              have hc_272 : G_256 (107 + b) = aI cT 128 (lf b) := (ho_G_256 _ (by omega)).trans (hC.2.2.2.2.2.2.2.2.2.2.2.2.2.1 b (by omega))
              have hfr_273 : ∀ j, (j ≠ 69) → G_256 j = G j := fun j hj => (ho_G_256 j (by omega)).trans (rfl)
              refine t_eqi (nI 0) rfl ?_
              refine t_if_eq (tgt := 83) hx hb dX3_open_52 (by decide) (by omega) (fun c_274 => ?_) (fun c_274 => absurd c_274 (by omega))
              refine lv_iconst (v := nI 0) hx hb dX3_open_83 (by decide) ?_
              refine g_ret hQ hx hb hr hlocks rfl hP hS (⟨⟨⟨_, rfl⟩, by rw [show cd [xIA, xIO] xIO = 2 from by decide +kernel]; exact MW.same hC hMA hc_258 (fun j9 _ _ hj9 => hfr_273 j9 hj9)⟩, fun j hj => hfr_273 j (by omega)⟩) (Nat.le_of_ble_eq_true rfl) (Nat.le_of_ble_eq_true rfl) dX3_open_84
            · skip
              refine lv_iconst (v := nI 1) hx hb dX3_open_43 (by decide) ?_
              refine lv_goto (tgt := 48) hx hb dX3_open_44 (by decide) ?_
              refine lv_iconst (v := nI 1) hx hb dX3_open_48 (by decide) ?_
              refine g_callV (As := [.int (nI 1), .int (nI 1), .int (nI 1)]) (rest := []) ⟨hx, hb, hml, hown, hw⟩ (mX3_can l D cT n ad A hD G hn th 1 1 1 (by decide) (by decide) (by decide) hC.1) (cwV 3 hw (gWV wm_X3_63 wi_X3_can wse_X3_can wini_X3 wc_X3_can) rfl rfl rfl (by decide +kernel) ⟨Nat.le_of_ble_eq_true rfl, Nat.le_of_ble_eq_true rfl⟩) hK hE hA hP hS (k := 69) (by omega) hC.1 rfl rfl hl.1 (lv_room (Nat.le_of_ble_eq_true rfl)) dX3_open_49 ⟨Nat.le_of_ble_eq_true rfl, Nat.le_of_ble_eq_true rfl⟩ (fun v_276 G_275 H locs hp hP hS => ?_)
              obtain ⟨rfl, hg_G_275, ho_G_275⟩ := hp
              have hc_277 : G_275 69 = .inr (5, [.ref (ad 70), .ref (ad 86), .ref (ad 90), .ref (ad 97), .ref (ad 98), .ref (ad 99), .ref (ad 106), .ref (ad 113), .int (nI 0)]) := hg_G_275
              have hc_278 : G_275 70 = aQ (cT 10) 3 (q3 ad) := (ho_G_275 _ (by omega)).trans hC.2.1
              have hc_279 : G_275 86 = aQ (cT 8) 3 (qS ad) := (ho_G_275 _ (by omega)).trans hC.2.2.2.2.1
              have hc_280 : G_275 90 = aQ (cT 7) 6 (qP ad) := (ho_G_275 _ (by omega)).trans hC.2.2.2.2.2.2.1
              have hc_281 : G_275 97 = aI cT 6 zf := (ho_G_275 _ (by omega)).trans hC.2.2.2.2.2.2.2.2.1
              have hc_282 : G_275 98 = aZ cT 6 xf := (ho_G_275 _ (by omega)).trans hC.2.2.2.2.2.2.2.2.2.1
              have hc_283 : G_275 99 = aQ (cT 9) 6 (qK ad) := (ho_G_275 _ (by omega)).trans hC.2.2.2.2.2.2.2.2.2.2.1
              have hc_284 : G_275 106 = aQ (cT 8) 6 (qL ad) := (ho_G_275 _ (by omega)).trans hC.2.2.2.2.2.2.2.2.2.2.2.2.1
              have hc_285 : G_275 113 = aI cT 6 mf := (ho_G_275 _ (by omega)).trans hC.2.2.2.2.2.2.2.2.2.2.2.2.2.2.1
              have hc_286 : G_275 (71 + 5 * q9) = aQ (cT 7) 4 (q4 ad q9) := (ho_G_275 _ (by omega)).trans (hC.2.2.1 q9 (by omega))
              have hc_287 : G_275 (87 + q9) = aI cT 4 (sf q9) := (ho_G_275 _ (by omega)).trans (hC.2.2.2.2.2.1 q9 (by omega))
              have hc_288 : G_275 (72 + 5 * q9 + ro) = aJ cT 48 (rf q9 ro) := (ho_G_275 _ (by omega)).trans (hC.2.2.2.1 q9 (by omega) ro (by omega))
              have hc_289 : G_275 (91 + b) = aJ cT 48 (pf b) := (ho_G_275 _ (by omega)).trans (hC.2.2.2.2.2.2.2.1 b (by omega))
              have hc_290 : G_275 (100 + b) = aC cT 128 (kf b) := (ho_G_275 _ (by omega)).trans (hC.2.2.2.2.2.2.2.2.2.2.2.1 b (by omega))
              have hc_291 : G_275 (107 + b) = aI cT 128 (lf b) := (ho_G_275 _ (by omega)).trans (hC.2.2.2.2.2.2.2.2.2.2.2.2.2.1 b (by omega))
              have hfr_292 : ∀ j, (j ≠ 69) → G_275 j = G j := fun j hj => (ho_G_275 j (by omega)).trans (rfl)
              refine t_eqi (nI 1) rfl ?_
              refine t_if_eq (tgt := 83) hx hb dX3_open_52 (by decide) (by omega) (fun c_293 => absurd c_293 (by omega)) (fun c_293 => ?_)
              refine lv_aload_n hx hb dX3_open_55 rfl (lv_at hl 1 rfl) ?_
              refine lv_iconst (v := nI 1) hx hb dX3_open_56 (by decide) ?_
              refine lv_iload hx hb dX3_open_57 (lv_at hl 6 rfl) ?_
              refine lv_aload_n hx hb dX3_open_59 rfl (lv_at hl 1 rfl) ?_
              refine g_get (C := RX3) (T := TX3) (N := 9) hx hb hw inX3 hown hK hP (i := 69) (by omega) hc_277 rfl 1 (by decide) (hw _ wf_X3_16) rfl dX3_open_60 ?_
              refine lv_iload hx hb dX3_open_63 (lv_at hl 0 rfl) ?_
              refine g_aald hx hb hK hP 8 (i := 86) (by omega) hc_279 rfl rfl (k := (ad (87 + q9))) (by omega) (by omega) (qS_at (by omega)) dX3_open_65 ?_
              refine lv_iload_n hx hb dX3_open_66 rfl (lv_at hl 4 rfl) ?_
              refine g_iald hx hb hK hP (i := (87 + q9)) (by omega) hc_287 (by omega) (by omega) dX3_open_67 ?_
              refine lv_icmp_gt (tgt := 75) hx hb dX3_open_68 (by decide) (fun c_294 => ?_) (fun c_294 => ?_)
              · skip
                refine lv_iconst (v := nI 0) hx hb dX3_open_75 (by decide) ?_
                refine lv_iconst (v := nI 1) hx hb dX3_open_76 (by decide) ?_
                refine g_callV (As := [.int (nI 1), .int (nI 0), .int (nI 1)]) (rest := []) ⟨hx, hb, hml, hown, hw⟩ (mX3_can l D cT n ad A hD G_275 hn 0 1 0 1 (by decide) (by decide) (by decide) hc_277) (cwV 3 hw (gWV wm_X3_63 wi_X3_can wse_X3_can wini_X3 wc_X3_can) rfl rfl rfl (by decide +kernel) ⟨Nat.le_of_ble_eq_true rfl, Nat.le_of_ble_eq_true rfl⟩) hK hE hA hP hS (k := 69) (by omega) hc_277 rfl rfl hl.1 (lv_room (Nat.le_of_ble_eq_true rfl)) dX3_open_77 ⟨Nat.le_of_ble_eq_true rfl, Nat.le_of_ble_eq_true rfl⟩ (fun v_296 G_295 H locs hp hP hS => ?_)
                obtain ⟨rfl, hg_G_295, ho_G_295⟩ := hp
                have hc_297 : G_295 69 = .inr (5, [.ref (ad 70), .ref (ad 86), .ref (ad 90), .ref (ad 97), .ref (ad 98), .ref (ad 99), .ref (ad 106), .ref (ad 113), .int (nI 2)]) := hg_G_295
                have hc_298 : G_295 70 = aQ (cT 10) 3 (q3 ad) := (ho_G_295 _ (by omega)).trans hc_278
                have hc_299 : G_295 86 = aQ (cT 8) 3 (qS ad) := (ho_G_295 _ (by omega)).trans hc_279
                have hc_300 : G_295 90 = aQ (cT 7) 6 (qP ad) := (ho_G_295 _ (by omega)).trans hc_280
                have hc_301 : G_295 97 = aI cT 6 zf := (ho_G_295 _ (by omega)).trans hc_281
                have hc_302 : G_295 98 = aZ cT 6 xf := (ho_G_295 _ (by omega)).trans hc_282
                have hc_303 : G_295 99 = aQ (cT 9) 6 (qK ad) := (ho_G_295 _ (by omega)).trans hc_283
                have hc_304 : G_295 106 = aQ (cT 8) 6 (qL ad) := (ho_G_295 _ (by omega)).trans hc_284
                have hc_305 : G_295 113 = aI cT 6 mf := (ho_G_295 _ (by omega)).trans hc_285
                have hc_306 : G_295 (71 + 5 * q9) = aQ (cT 7) 4 (q4 ad q9) := (ho_G_295 _ (by omega)).trans hc_286
                have hc_307 : G_295 (87 + q9) = aI cT 4 (sf q9) := (ho_G_295 _ (by omega)).trans hc_287
                have hc_308 : G_295 (72 + 5 * q9 + ro) = aJ cT 48 (rf q9 ro) := (ho_G_295 _ (by omega)).trans hc_288
                have hc_309 : G_295 (91 + b) = aJ cT 48 (pf b) := (ho_G_295 _ (by omega)).trans hc_289
                have hc_310 : G_295 (100 + b) = aC cT 128 (kf b) := (ho_G_295 _ (by omega)).trans hc_290
                have hc_311 : G_295 (107 + b) = aI cT 128 (lf b) := (ho_G_295 _ (by omega)).trans hc_291
                have hfr_312 : ∀ j, (j ≠ 69) → G_295 j = G j := fun j hj => (ho_G_295 j (by omega)).trans (hfr_292 j hj)
                refine t_eqi (nI 0) rfl ?_
                refine t_if_ne (tgt := 85) hx hb dX3_open_80 (by decide) (by omega) (fun c_313 => absurd c_313 (by omega)) (fun c_313 => ?_)
                refine lv_iconst (v := nI 0) hx hb dX3_open_83 (by decide) ?_
                refine g_ret hQ hx hb hr hlocks rfl hP hS (⟨⟨⟨_, rfl⟩, by rw [show cd [xIA, xIO] xIO = 2 from by decide +kernel]; exact MW.same hC hMA hc_297 (fun j9 _ _ hj9 => hfr_312 j9 hj9)⟩, fun j hj => hfr_312 j (by omega)⟩) (Nat.le_of_ble_eq_true rfl) (Nat.le_of_ble_eq_true rfl) dX3_open_84
              · skip
                exact absurd huz (fun q9 => q9.elim c_235 (fun q8 => q8.elim c_255 (by rw [← hsz]; exact c_294)))

set_option maxHeartbeats 4000000 in
set_option maxRecDepth 100000 in
theorem mX3_openAll_no (l : Launch) (D : va_G) (cT : Nat → ClassId) (n : Nat) (ad : Nat → Nat) (A : Nat → Prop) (hD : ∀ G, va_D A (gw n ad G)) (G : Nat → va_E) (hn : 114 ≤ n) (σ : TY) (hI : YI σ) (th : Nat) (hM : MW cT ad G σ th) (x : Int32) (ch : Nat) (hch : ch < 65536) (y : Int32) (E : String) (hpx : pxOpenA x ch y E) : Met l yX3_openAll (wA yX3_openAll cX3_openAll 5 (some .int)) ({ frames := 1, cells := 0, slots := 0, locals := 23 } : Room) (PG D cT n ad A G [.ref (ad 69), .int x, .int (nI ch), .int y]) (QG D n ad A (fun v G1 => ((∃ z, v = some (.int z)) ∧ MW cT ad G1 σ (cd [xIA, xIO] E)) ∧ ∀ j, (j < 69 ∨ 114 ≤ j) → G1 j = G j)) 0 0 A := by
  refine Met.ofG (cc := cX3_openAll) (maxL := 5) (ret := (some .int)) (by decide) (Nat.le_of_ble_eq_true rfl) ?_
  intro p e s m args below meth c Q hQ hx hb hr hml hlocks hown hw hP hK hE hA hS ls hl
  have hl : lv_has ls 5 [(0, .ref (ad 69)), (1, .int x), (2, .int (nI ch)), (3, .int y)] := hl
  obtain ⟨rf, sf, pf, zf, xf, kf, lf, mf, hC, hMA⟩ := hM
  rcases hpx with ⟨hkd, rfl⟩ | ⟨hk3, rfl, hpx⟩
  · skip
    rcases ix_cases x (N := 6) (by decide) with hbb | ⟨b, hb6, rfl⟩
    · skip
      rcases ix_cases y (N := 4) (by decide) with hrb | ⟨ro, hro, rfl⟩
      · skip
        refine lv_iload_n hx hb dX3_openAll_0 rfl (lv_at hl 2 rfl) ?_
        refine g_callS (As := [.int (nI ch)]) (rest := []) ⟨hx, hb, hml, hown, hw⟩ (mX3_kind l D cT n ad A hD G ch (by omega)) (va_cwS 1 hw (gWS wm_X3_51 wst_X3_kind wini_X3 wc_X3_kind) rfl rfl rfl (by decide +kernel) ⟨Nat.le_of_ble_eq_true rfl, Nat.le_of_ble_eq_true rfl⟩) hK hE hA hP hS rfl hl.1 (lv_room (Nat.le_of_ble_eq_true rfl)) dX3_openAll_1 ⟨Nat.le_of_ble_eq_true rfl, Nat.le_of_ble_eq_true rfl⟩ (fun v_2 G_1 H locs hp hP hS => ?_)
        obtain ⟨hv9, hg9⟩ := hp
        subst hv9
        rw [hg9] at hP
        refine t_eqi (-1) (if_pos hkd) ?_
        refine lv_istore (lv' := [(4, .int (-1)), (0, .ref (ad 69)), (1, .int x), (2, .int (nI ch)), (3, .int y)]) hx hb dX3_openAll_4 hl (by decide) rfl (fun ls hl => ?_)
        refine lv_aload_n hx hb dX3_openAll_6 rfl (lv_at hl 1 rfl) ?_
        refine lv_iload hx hb dX3_openAll_7 (lv_at hl 0 rfl) ?_
        refine lv_if_lt (tgt := 16) hx hb dX3_openAll_9 (by decide) (fun h9 => ?_) (fun h9 => absurd (by decide) h9)
        refine lv_iconst (v := nI 0) hx hb dX3_openAll_16 (by decide) ?_
        refine lv_iload_n hx hb dX3_openAll_17 rfl (lv_at hl 2 rfl) ?_
        refine g_callS (As := [.int x]) (rest := [.int (nI 0), .ref (ad 69)]) ⟨hx, hb, hml, hown, hw⟩ (mX3_isBench l D cT n ad A hD G x) (va_cwS 1 hw (gWS wm_X3_67 wst_X3_isBench wini_X3 wc_X3_isBench) rfl rfl rfl (by decide +kernel) ⟨Nat.le_of_ble_eq_true rfl, Nat.le_of_ble_eq_true rfl⟩) hK hE hA hP hS rfl hl.1 (lv_room (Nat.le_of_ble_eq_true rfl)) dX3_openAll_18 ⟨Nat.le_of_ble_eq_true rfl, Nat.le_of_ble_eq_true rfl⟩ (fun v_4 G_3 H locs hp hP hS => ?_)
        obtain ⟨hv9, hg9⟩ := hp
        subst hv9
        rw [hg9] at hP
        refine t_eqi (nI 0) (congrArg nI (if_pos hbb)) ?_
        refine t_if_eq (tgt := 35) hx hb dX3_openAll_21 (by decide) (by omega) (fun c_5 => ?_) (fun c_5 => absurd c_5 (by omega))
        refine lv_iconst (v := nI 0) hx hb dX3_openAll_35 (by decide) ?_
        refine lv_iconst (v := nI 1) hx hb dX3_openAll_36 (by decide) ?_
        refine g_callV (As := [.int (nI 0), .int (nI 0), .int (nI 1)]) (rest := []) ⟨hx, hb, hml, hown, hw⟩ (mX3_can l D cT n ad A hD G hn th 0 0 1 (by decide) (by decide) (by decide) hC.1) (cwV 3 hw (gWV wm_X3_63 wi_X3_can wse_X3_can wini_X3 wc_X3_can) rfl rfl rfl (by decide +kernel) ⟨Nat.le_of_ble_eq_true rfl, Nat.le_of_ble_eq_true rfl⟩) hK hE hA hP hS (k := 69) (by omega) hC.1 rfl rfl hl.1 (lv_room (Nat.le_of_ble_eq_true rfl)) dX3_openAll_37 ⟨Nat.le_of_ble_eq_true rfl, Nat.le_of_ble_eq_true rfl⟩ (fun v_7 G_6 H locs hp hP hS => ?_)
        obtain ⟨rfl, hg_G_6, ho_G_6⟩ := hp
        have hc_8 : G_6 69 = .inr (5, [.ref (ad 70), .ref (ad 86), .ref (ad 90), .ref (ad 97), .ref (ad 98), .ref (ad 99), .ref (ad 106), .ref (ad 113), .int (nI 1)]) := hg_G_6
        have hc_9 : G_6 70 = aQ (cT 10) 3 (q3 ad) := (ho_G_6 _ (by omega)).trans hC.2.1
        have hc_10 : G_6 86 = aQ (cT 8) 3 (qS ad) := (ho_G_6 _ (by omega)).trans hC.2.2.2.2.1
        have hc_11 : G_6 90 = aQ (cT 7) 6 (qP ad) := (ho_G_6 _ (by omega)).trans hC.2.2.2.2.2.2.1
        have hc_12 : G_6 97 = aI cT 6 zf := (ho_G_6 _ (by omega)).trans hC.2.2.2.2.2.2.2.2.1
        have hc_13 : G_6 98 = aZ cT 6 xf := (ho_G_6 _ (by omega)).trans hC.2.2.2.2.2.2.2.2.2.1
        have hc_14 : G_6 99 = aQ (cT 9) 6 (qK ad) := (ho_G_6 _ (by omega)).trans hC.2.2.2.2.2.2.2.2.2.2.1
        have hc_15 : G_6 106 = aQ (cT 8) 6 (qL ad) := (ho_G_6 _ (by omega)).trans hC.2.2.2.2.2.2.2.2.2.2.2.2.1
        have hc_16 : G_6 113 = aI cT 6 mf := (ho_G_6 _ (by omega)).trans hC.2.2.2.2.2.2.2.2.2.2.2.2.2.2.1
        have hfr_17 : ∀ j, (j ≠ 69) → G_6 j = G j := fun j hj => (ho_G_6 j (by omega)).trans (rfl)
        refine t_eqi (nI 0) rfl ?_
        refine t_if_eq (tgt := 64) hx hb dX3_openAll_40 (by decide) (by omega) (fun c_18 => ?_) (fun c_18 => absurd c_18 (by omega))
        refine lv_iconst (v := nI 0) hx hb dX3_openAll_64 (by decide) ?_
        refine g_ret hQ hx hb hr hlocks rfl hP hS (⟨⟨⟨_, rfl⟩, by rw [show cd [xIA, xIO] xIA = 1 from by decide +kernel]; exact MW.same hC hMA hc_8 (fun j9 _ _ hj9 => hfr_17 j9 hj9)⟩, fun j hj => hfr_17 j (by omega)⟩) (Nat.le_of_ble_eq_true rfl) (Nat.le_of_ble_eq_true rfl) dX3_openAll_65
      · skip
        refine lv_iload_n hx hb dX3_openAll_0 rfl (lv_at hl 2 rfl) ?_
        refine g_callS (As := [.int (nI ch)]) (rest := []) ⟨hx, hb, hml, hown, hw⟩ (mX3_kind l D cT n ad A hD G ch (by omega)) (va_cwS 1 hw (gWS wm_X3_51 wst_X3_kind wini_X3 wc_X3_kind) rfl rfl rfl (by decide +kernel) ⟨Nat.le_of_ble_eq_true rfl, Nat.le_of_ble_eq_true rfl⟩) hK hE hA hP hS rfl hl.1 (lv_room (Nat.le_of_ble_eq_true rfl)) dX3_openAll_1 ⟨Nat.le_of_ble_eq_true rfl, Nat.le_of_ble_eq_true rfl⟩ (fun v_20 G_19 H locs hp hP hS => ?_)
        obtain ⟨hv9, hg9⟩ := hp
        subst hv9
        rw [hg9] at hP
        refine t_eqi (-1) (if_pos hkd) ?_
        refine lv_istore (lv' := [(4, .int (-1)), (0, .ref (ad 69)), (1, .int x), (2, .int (nI ch)), (3, .int (nI ro))]) hx hb dX3_openAll_4 hl (by decide) rfl (fun ls hl => ?_)
        refine lv_aload_n hx hb dX3_openAll_6 rfl (lv_at hl 1 rfl) ?_
        refine lv_iload hx hb dX3_openAll_7 (lv_at hl 0 rfl) ?_
        refine lv_if_lt (tgt := 16) hx hb dX3_openAll_9 (by decide) (fun h9 => ?_) (fun h9 => absurd (by decide) h9)
        refine lv_iconst (v := nI 0) hx hb dX3_openAll_16 (by decide) ?_
        refine lv_iload_n hx hb dX3_openAll_17 rfl (lv_at hl 2 rfl) ?_
        refine g_callS (As := [.int x]) (rest := [.int (nI 0), .ref (ad 69)]) ⟨hx, hb, hml, hown, hw⟩ (mX3_isBench l D cT n ad A hD G x) (va_cwS 1 hw (gWS wm_X3_67 wst_X3_isBench wini_X3 wc_X3_isBench) rfl rfl rfl (by decide +kernel) ⟨Nat.le_of_ble_eq_true rfl, Nat.le_of_ble_eq_true rfl⟩) hK hE hA hP hS rfl hl.1 (lv_room (Nat.le_of_ble_eq_true rfl)) dX3_openAll_18 ⟨Nat.le_of_ble_eq_true rfl, Nat.le_of_ble_eq_true rfl⟩ (fun v_22 G_21 H locs hp hP hS => ?_)
        obtain ⟨hv9, hg9⟩ := hp
        subst hv9
        rw [hg9] at hP
        refine t_eqi (nI 0) (congrArg nI (if_pos hbb)) ?_
        refine t_if_eq (tgt := 35) hx hb dX3_openAll_21 (by decide) (by omega) (fun c_23 => ?_) (fun c_23 => absurd c_23 (by omega))
        refine lv_iconst (v := nI 0) hx hb dX3_openAll_35 (by decide) ?_
        refine lv_iconst (v := nI 1) hx hb dX3_openAll_36 (by decide) ?_
        refine g_callV (As := [.int (nI 0), .int (nI 0), .int (nI 1)]) (rest := []) ⟨hx, hb, hml, hown, hw⟩ (mX3_can l D cT n ad A hD G hn th 0 0 1 (by decide) (by decide) (by decide) hC.1) (cwV 3 hw (gWV wm_X3_63 wi_X3_can wse_X3_can wini_X3 wc_X3_can) rfl rfl rfl (by decide +kernel) ⟨Nat.le_of_ble_eq_true rfl, Nat.le_of_ble_eq_true rfl⟩) hK hE hA hP hS (k := 69) (by omega) hC.1 rfl rfl hl.1 (lv_room (Nat.le_of_ble_eq_true rfl)) dX3_openAll_37 ⟨Nat.le_of_ble_eq_true rfl, Nat.le_of_ble_eq_true rfl⟩ (fun v_25 G_24 H locs hp hP hS => ?_)
        obtain ⟨rfl, hg_G_24, ho_G_24⟩ := hp
        have hc_26 : G_24 69 = .inr (5, [.ref (ad 70), .ref (ad 86), .ref (ad 90), .ref (ad 97), .ref (ad 98), .ref (ad 99), .ref (ad 106), .ref (ad 113), .int (nI 1)]) := hg_G_24
        have hc_27 : G_24 70 = aQ (cT 10) 3 (q3 ad) := (ho_G_24 _ (by omega)).trans hC.2.1
        have hc_28 : G_24 86 = aQ (cT 8) 3 (qS ad) := (ho_G_24 _ (by omega)).trans hC.2.2.2.2.1
        have hc_29 : G_24 90 = aQ (cT 7) 6 (qP ad) := (ho_G_24 _ (by omega)).trans hC.2.2.2.2.2.2.1
        have hc_30 : G_24 97 = aI cT 6 zf := (ho_G_24 _ (by omega)).trans hC.2.2.2.2.2.2.2.2.1
        have hc_31 : G_24 98 = aZ cT 6 xf := (ho_G_24 _ (by omega)).trans hC.2.2.2.2.2.2.2.2.2.1
        have hc_32 : G_24 99 = aQ (cT 9) 6 (qK ad) := (ho_G_24 _ (by omega)).trans hC.2.2.2.2.2.2.2.2.2.2.1
        have hc_33 : G_24 106 = aQ (cT 8) 6 (qL ad) := (ho_G_24 _ (by omega)).trans hC.2.2.2.2.2.2.2.2.2.2.2.2.1
        have hc_34 : G_24 113 = aI cT 6 mf := (ho_G_24 _ (by omega)).trans hC.2.2.2.2.2.2.2.2.2.2.2.2.2.2.1
        have hfr_35 : ∀ j, (j ≠ 69) → G_24 j = G j := fun j hj => (ho_G_24 j (by omega)).trans (rfl)
        refine t_eqi (nI 0) rfl ?_
        refine t_if_eq (tgt := 64) hx hb dX3_openAll_40 (by decide) (by omega) (fun c_36 => ?_) (fun c_36 => absurd c_36 (by omega))
        refine lv_iconst (v := nI 0) hx hb dX3_openAll_64 (by decide) ?_
        refine g_ret hQ hx hb hr hlocks rfl hP hS (⟨⟨⟨_, rfl⟩, by rw [show cd [xIA, xIO] xIA = 1 from by decide +kernel]; exact MW.same hC hMA hc_26 (fun j9 _ _ hj9 => hfr_35 j9 hj9)⟩, fun j hj => hfr_35 j (by omega)⟩) (Nat.le_of_ble_eq_true rfl) (Nat.le_of_ble_eq_true rfl) dX3_openAll_65
    · skip
      obtain ⟨hz, hm, hxx, hpp, hkl⟩ := hMA.2 b (by omega)
      obtain ⟨hit, hbx⟩ := hI.2 b (by omega)
      have hcap := BI_cap hit
      have h48 := hit.1
      rcases ix_cases y (N := 4) (by decide) with hrb | ⟨ro, hro, rfl⟩
      · skip
        refine lv_iload_n hx hb dX3_openAll_0 rfl (lv_at hl 2 rfl) ?_
        refine g_callS (As := [.int (nI ch)]) (rest := []) ⟨hx, hb, hml, hown, hw⟩ (mX3_kind l D cT n ad A hD G ch (by omega)) (va_cwS 1 hw (gWS wm_X3_51 wst_X3_kind wini_X3 wc_X3_kind) rfl rfl rfl (by decide +kernel) ⟨Nat.le_of_ble_eq_true rfl, Nat.le_of_ble_eq_true rfl⟩) hK hE hA hP hS rfl hl.1 (lv_room (Nat.le_of_ble_eq_true rfl)) dX3_openAll_1 ⟨Nat.le_of_ble_eq_true rfl, Nat.le_of_ble_eq_true rfl⟩ (fun v_38 G_37 H locs hp hP hS => ?_)
        obtain ⟨hv9, hg9⟩ := hp
        subst hv9
        rw [hg9] at hP
        refine t_eqi (-1) (if_pos hkd) ?_
        refine lv_istore (lv' := [(4, .int (-1)), (0, .ref (ad 69)), (1, .int (nI b)), (2, .int (nI ch)), (3, .int y)]) hx hb dX3_openAll_4 hl (by decide) rfl (fun ls hl => ?_)
        refine lv_aload_n hx hb dX3_openAll_6 rfl (lv_at hl 1 rfl) ?_
        refine lv_iload hx hb dX3_openAll_7 (lv_at hl 0 rfl) ?_
        refine lv_if_lt (tgt := 16) hx hb dX3_openAll_9 (by decide) (fun h9 => ?_) (fun h9 => absurd (by decide) h9)
        refine lv_iconst (v := nI 0) hx hb dX3_openAll_16 (by decide) ?_
        refine lv_iload_n hx hb dX3_openAll_17 rfl (lv_at hl 2 rfl) ?_
        refine g_callS (As := [.int (nI b)]) (rest := [.int (nI 0), .ref (ad 69)]) ⟨hx, hb, hml, hown, hw⟩ (mX3_isBench l D cT n ad A hD G (nI b)) (va_cwS 1 hw (gWS wm_X3_67 wst_X3_isBench wini_X3 wc_X3_isBench) rfl rfl rfl (by decide +kernel) ⟨Nat.le_of_ble_eq_true rfl, Nat.le_of_ble_eq_true rfl⟩) hK hE hA hP hS rfl hl.1 (lv_room (Nat.le_of_ble_eq_true rfl)) dX3_openAll_18 ⟨Nat.le_of_ble_eq_true rfl, Nat.le_of_ble_eq_true rfl⟩ (fun v_40 G_39 H locs hp hP hS => ?_)
        obtain ⟨hv9, hg9⟩ := hp
        subst hv9
        rw [hg9] at hP
        refine t_eqi (nI 1) (congrArg nI (if_neg (ix_ok (by omega) (by decide)))) ?_
        refine t_if_eq (tgt := 35) hx hb dX3_openAll_21 (by decide) (by omega) (fun c_41 => absurd c_41 (by omega)) (fun c_41 => ?_)
        refine lv_iload_n hx hb dX3_openAll_24 rfl (lv_at hl 4 rfl) ?_
        refine g_callS (As := [.int y]) (rest := [.int (nI 0), .ref (ad 69)]) ⟨hx, hb, hml, hown, hw⟩ (mX3_isRow l D cT n ad A hD G y) (va_cwS 1 hw (gWS wm_X3_59 wst_X3_isRow wini_X3 wc_X3_isRow) rfl rfl rfl (by decide +kernel) ⟨Nat.le_of_ble_eq_true rfl, Nat.le_of_ble_eq_true rfl⟩) hK hE hA hP hS rfl hl.1 (lv_room (Nat.le_of_ble_eq_true rfl)) dX3_openAll_25 ⟨Nat.le_of_ble_eq_true rfl, Nat.le_of_ble_eq_true rfl⟩ (fun v_43 G_42 H locs hp hP hS => ?_)
        obtain ⟨hv9, hg9⟩ := hp
        subst hv9
        rw [hg9] at hP
        refine t_eqi (nI 0) (congrArg nI (if_pos hrb)) ?_
        refine t_if_eq (tgt := 35) hx hb dX3_openAll_28 (by decide) (by omega) (fun c_44 => ?_) (fun c_44 => absurd c_44 (by omega))
        refine lv_iconst (v := nI 0) hx hb dX3_openAll_35 (by decide) ?_
        refine lv_iconst (v := nI 1) hx hb dX3_openAll_36 (by decide) ?_
        refine g_callV (As := [.int (nI 0), .int (nI 0), .int (nI 1)]) (rest := []) ⟨hx, hb, hml, hown, hw⟩ (mX3_can l D cT n ad A hD G hn th 0 0 1 (by decide) (by decide) (by decide) hC.1) (cwV 3 hw (gWV wm_X3_63 wi_X3_can wse_X3_can wini_X3 wc_X3_can) rfl rfl rfl (by decide +kernel) ⟨Nat.le_of_ble_eq_true rfl, Nat.le_of_ble_eq_true rfl⟩) hK hE hA hP hS (k := 69) (by omega) hC.1 rfl rfl hl.1 (lv_room (Nat.le_of_ble_eq_true rfl)) dX3_openAll_37 ⟨Nat.le_of_ble_eq_true rfl, Nat.le_of_ble_eq_true rfl⟩ (fun v_46 G_45 H locs hp hP hS => ?_)
        obtain ⟨rfl, hg_G_45, ho_G_45⟩ := hp
        have hc_47 : G_45 69 = .inr (5, [.ref (ad 70), .ref (ad 86), .ref (ad 90), .ref (ad 97), .ref (ad 98), .ref (ad 99), .ref (ad 106), .ref (ad 113), .int (nI 1)]) := hg_G_45
        have hc_48 : G_45 70 = aQ (cT 10) 3 (q3 ad) := (ho_G_45 _ (by omega)).trans hC.2.1
        have hc_49 : G_45 86 = aQ (cT 8) 3 (qS ad) := (ho_G_45 _ (by omega)).trans hC.2.2.2.2.1
        have hc_50 : G_45 90 = aQ (cT 7) 6 (qP ad) := (ho_G_45 _ (by omega)).trans hC.2.2.2.2.2.2.1
        have hc_51 : G_45 97 = aI cT 6 zf := (ho_G_45 _ (by omega)).trans hC.2.2.2.2.2.2.2.2.1
        have hc_52 : G_45 98 = aZ cT 6 xf := (ho_G_45 _ (by omega)).trans hC.2.2.2.2.2.2.2.2.2.1
        have hc_53 : G_45 99 = aQ (cT 9) 6 (qK ad) := (ho_G_45 _ (by omega)).trans hC.2.2.2.2.2.2.2.2.2.2.1
        have hc_54 : G_45 106 = aQ (cT 8) 6 (qL ad) := (ho_G_45 _ (by omega)).trans hC.2.2.2.2.2.2.2.2.2.2.2.2.1
        have hc_55 : G_45 113 = aI cT 6 mf := (ho_G_45 _ (by omega)).trans hC.2.2.2.2.2.2.2.2.2.2.2.2.2.2.1
        have hc_56 : G_45 (91 + b) = aJ cT 48 (pf b) := (ho_G_45 _ (by omega)).trans (hC.2.2.2.2.2.2.2.1 b (by omega))
        have hc_57 : G_45 (100 + b) = aC cT 128 (kf b) := (ho_G_45 _ (by omega)).trans (hC.2.2.2.2.2.2.2.2.2.2.2.1 b (by omega))
        have hc_58 : G_45 (107 + b) = aI cT 128 (lf b) := (ho_G_45 _ (by omega)).trans (hC.2.2.2.2.2.2.2.2.2.2.2.2.2.1 b (by omega))
        have hfr_59 : ∀ j, (j ≠ 69) → G_45 j = G j := fun j hj => (ho_G_45 j (by omega)).trans (rfl)
        refine t_eqi (nI 0) rfl ?_
        refine t_if_eq (tgt := 64) hx hb dX3_openAll_40 (by decide) (by omega) (fun c_60 => ?_) (fun c_60 => absurd c_60 (by omega))
        refine lv_iconst (v := nI 0) hx hb dX3_openAll_64 (by decide) ?_
        refine g_ret hQ hx hb hr hlocks rfl hP hS (⟨⟨⟨_, rfl⟩, by rw [show cd [xIA, xIO] xIA = 1 from by decide +kernel]; exact MW.same hC hMA hc_47 (fun j9 _ _ hj9 => hfr_59 j9 hj9)⟩, fun j hj => hfr_59 j (by omega)⟩) (Nat.le_of_ble_eq_true rfl) (Nat.le_of_ble_eq_true rfl) dX3_openAll_65
      · skip
        refine lv_iload_n hx hb dX3_openAll_0 rfl (lv_at hl 2 rfl) ?_
        refine g_callS (As := [.int (nI ch)]) (rest := []) ⟨hx, hb, hml, hown, hw⟩ (mX3_kind l D cT n ad A hD G ch (by omega)) (va_cwS 1 hw (gWS wm_X3_51 wst_X3_kind wini_X3 wc_X3_kind) rfl rfl rfl (by decide +kernel) ⟨Nat.le_of_ble_eq_true rfl, Nat.le_of_ble_eq_true rfl⟩) hK hE hA hP hS rfl hl.1 (lv_room (Nat.le_of_ble_eq_true rfl)) dX3_openAll_1 ⟨Nat.le_of_ble_eq_true rfl, Nat.le_of_ble_eq_true rfl⟩ (fun v_62 G_61 H locs hp hP hS => ?_)
        obtain ⟨hv9, hg9⟩ := hp
        subst hv9
        rw [hg9] at hP
        refine t_eqi (-1) (if_pos hkd) ?_
        refine lv_istore (lv' := [(4, .int (-1)), (0, .ref (ad 69)), (1, .int (nI b)), (2, .int (nI ch)), (3, .int (nI ro))]) hx hb dX3_openAll_4 hl (by decide) rfl (fun ls hl => ?_)
        refine lv_aload_n hx hb dX3_openAll_6 rfl (lv_at hl 1 rfl) ?_
        refine lv_iload hx hb dX3_openAll_7 (lv_at hl 0 rfl) ?_
        refine lv_if_lt (tgt := 16) hx hb dX3_openAll_9 (by decide) (fun h9 => ?_) (fun h9 => absurd (by decide) h9)
        refine lv_iconst (v := nI 0) hx hb dX3_openAll_16 (by decide) ?_
        refine lv_iload_n hx hb dX3_openAll_17 rfl (lv_at hl 2 rfl) ?_
        refine g_callS (As := [.int (nI b)]) (rest := [.int (nI 0), .ref (ad 69)]) ⟨hx, hb, hml, hown, hw⟩ (mX3_isBench l D cT n ad A hD G (nI b)) (va_cwS 1 hw (gWS wm_X3_67 wst_X3_isBench wini_X3 wc_X3_isBench) rfl rfl rfl (by decide +kernel) ⟨Nat.le_of_ble_eq_true rfl, Nat.le_of_ble_eq_true rfl⟩) hK hE hA hP hS rfl hl.1 (lv_room (Nat.le_of_ble_eq_true rfl)) dX3_openAll_18 ⟨Nat.le_of_ble_eq_true rfl, Nat.le_of_ble_eq_true rfl⟩ (fun v_64 G_63 H locs hp hP hS => ?_)
        obtain ⟨hv9, hg9⟩ := hp
        subst hv9
        rw [hg9] at hP
        refine t_eqi (nI 1) (congrArg nI (if_neg (ix_ok (by omega) (by decide)))) ?_
        refine t_if_eq (tgt := 35) hx hb dX3_openAll_21 (by decide) (by omega) (fun c_65 => absurd c_65 (by omega)) (fun c_65 => ?_)
        refine lv_iload_n hx hb dX3_openAll_24 rfl (lv_at hl 4 rfl) ?_
        refine g_callS (As := [.int (nI ro)]) (rest := [.int (nI 0), .ref (ad 69)]) ⟨hx, hb, hml, hown, hw⟩ (mX3_isRow l D cT n ad A hD G (nI ro)) (va_cwS 1 hw (gWS wm_X3_59 wst_X3_isRow wini_X3 wc_X3_isRow) rfl rfl rfl (by decide +kernel) ⟨Nat.le_of_ble_eq_true rfl, Nat.le_of_ble_eq_true rfl⟩) hK hE hA hP hS rfl hl.1 (lv_room (Nat.le_of_ble_eq_true rfl)) dX3_openAll_25 ⟨Nat.le_of_ble_eq_true rfl, Nat.le_of_ble_eq_true rfl⟩ (fun v_67 G_66 H locs hp hP hS => ?_)
        obtain ⟨hv9, hg9⟩ := hp
        subst hv9
        rw [hg9] at hP
        refine t_eqi (nI 1) (congrArg nI (if_neg (ix_ok (by omega) (by decide)))) ?_
        refine t_if_eq (tgt := 35) hx hb dX3_openAll_28 (by decide) (by omega) (fun c_68 => absurd c_68 (by omega)) (fun c_68 => ?_)
        refine lv_iconst (v := nI 1) hx hb dX3_openAll_31 (by decide) ?_
        refine lv_goto (tgt := 36) hx hb dX3_openAll_32 (by decide) ?_
        refine lv_iconst (v := nI 1) hx hb dX3_openAll_36 (by decide) ?_
        refine g_callV (As := [.int (nI 0), .int (nI 1), .int (nI 1)]) (rest := []) ⟨hx, hb, hml, hown, hw⟩ (mX3_can l D cT n ad A hD G hn th 0 1 1 (by decide) (by decide) (by decide) hC.1) (cwV 3 hw (gWV wm_X3_63 wi_X3_can wse_X3_can wini_X3 wc_X3_can) rfl rfl rfl (by decide +kernel) ⟨Nat.le_of_ble_eq_true rfl, Nat.le_of_ble_eq_true rfl⟩) hK hE hA hP hS (k := 69) (by omega) hC.1 rfl rfl hl.1 (lv_room (Nat.le_of_ble_eq_true rfl)) dX3_openAll_37 ⟨Nat.le_of_ble_eq_true rfl, Nat.le_of_ble_eq_true rfl⟩ (fun v_70 G_69 H locs hp hP hS => ?_)
        obtain ⟨rfl, hg_G_69, ho_G_69⟩ := hp
        have hc_71 : G_69 69 = .inr (5, [.ref (ad 70), .ref (ad 86), .ref (ad 90), .ref (ad 97), .ref (ad 98), .ref (ad 99), .ref (ad 106), .ref (ad 113), .int (nI 1)]) := hg_G_69
        have hc_72 : G_69 70 = aQ (cT 10) 3 (q3 ad) := (ho_G_69 _ (by omega)).trans hC.2.1
        have hc_73 : G_69 86 = aQ (cT 8) 3 (qS ad) := (ho_G_69 _ (by omega)).trans hC.2.2.2.2.1
        have hc_74 : G_69 90 = aQ (cT 7) 6 (qP ad) := (ho_G_69 _ (by omega)).trans hC.2.2.2.2.2.2.1
        have hc_75 : G_69 97 = aI cT 6 zf := (ho_G_69 _ (by omega)).trans hC.2.2.2.2.2.2.2.2.1
        have hc_76 : G_69 98 = aZ cT 6 xf := (ho_G_69 _ (by omega)).trans hC.2.2.2.2.2.2.2.2.2.1
        have hc_77 : G_69 99 = aQ (cT 9) 6 (qK ad) := (ho_G_69 _ (by omega)).trans hC.2.2.2.2.2.2.2.2.2.2.1
        have hc_78 : G_69 106 = aQ (cT 8) 6 (qL ad) := (ho_G_69 _ (by omega)).trans hC.2.2.2.2.2.2.2.2.2.2.2.2.1
        have hc_79 : G_69 113 = aI cT 6 mf := (ho_G_69 _ (by omega)).trans hC.2.2.2.2.2.2.2.2.2.2.2.2.2.2.1
        have hc_80 : G_69 (91 + b) = aJ cT 48 (pf b) := (ho_G_69 _ (by omega)).trans (hC.2.2.2.2.2.2.2.1 b (by omega))
        have hc_81 : G_69 (100 + b) = aC cT 128 (kf b) := (ho_G_69 _ (by omega)).trans (hC.2.2.2.2.2.2.2.2.2.2.2.1 b (by omega))
        have hc_82 : G_69 (107 + b) = aI cT 128 (lf b) := (ho_G_69 _ (by omega)).trans (hC.2.2.2.2.2.2.2.2.2.2.2.2.2.1 b (by omega))
        have hfr_83 : ∀ j, (j ≠ 69) → G_69 j = G j := fun j hj => (ho_G_69 j (by omega)).trans (rfl)
        refine t_eqi (nI 0) rfl ?_
        refine t_if_eq (tgt := 64) hx hb dX3_openAll_40 (by decide) (by omega) (fun c_84 => ?_) (fun c_84 => absurd c_84 (by omega))
        refine lv_iconst (v := nI 0) hx hb dX3_openAll_64 (by decide) ?_
        refine g_ret hQ hx hb hr hlocks rfl hP hS (⟨⟨⟨_, rfl⟩, by rw [show cd [xIA, xIO] xIA = 1 from by decide +kernel]; exact MW.same hC hMA hc_71 (fun j9 _ _ hj9 => hfr_83 j9 hj9)⟩, fun j hj => hfr_83 j (by omega)⟩) (Nat.le_of_ble_eq_true rfl) (Nat.le_of_ble_eq_true rfl) dX3_openAll_65
  · skip
    obtain ⟨q, hkq⟩ : ∃ q, kdx ch = q := ⟨_, rfl⟩
    have hkl9 := kdx_le ch
    have hq : q < 3 := by omega
    rcases hpx with hrb | hbb
    · skip
      rcases ix_cases x (N := 6) (by decide) with hbb | ⟨b, hb6, rfl⟩
      · skip
        refine lv_iload_n hx hb dX3_openAll_0 rfl (lv_at hl 2 rfl) ?_
        refine g_callS (As := [.int (nI ch)]) (rest := []) ⟨hx, hb, hml, hown, hw⟩ (mX3_kind l D cT n ad A hD G ch (by omega)) (va_cwS 1 hw (gWS wm_X3_51 wst_X3_kind wini_X3 wc_X3_kind) rfl rfl rfl (by decide +kernel) ⟨Nat.le_of_ble_eq_true rfl, Nat.le_of_ble_eq_true rfl⟩) hK hE hA hP hS rfl hl.1 (lv_room (Nat.le_of_ble_eq_true rfl)) dX3_openAll_1 ⟨Nat.le_of_ble_eq_true rfl, Nat.le_of_ble_eq_true rfl⟩ (fun v_86 G_85 H locs hp hP hS => ?_)
        obtain ⟨hv9, hg9⟩ := hp
        subst hv9
        rw [hg9] at hP
        refine t_eqi (nI q) ((if_neg (by omega)).trans (congrArg nI hkq)) ?_
        refine lv_istore (lv' := [(4, .int (nI q)), (0, .ref (ad 69)), (1, .int x), (2, .int (nI ch)), (3, .int y)]) hx hb dX3_openAll_4 hl (by decide) rfl (fun ls hl => ?_)
        refine lv_aload_n hx hb dX3_openAll_6 rfl (lv_at hl 1 rfl) ?_
        refine lv_iload hx hb dX3_openAll_7 (lv_at hl 0 rfl) ?_
        refine t_if_lt (tgt := 16) hx hb dX3_openAll_9 (by decide) (by omega) ?_
        refine lv_iconst (v := nI 1) hx hb dX3_openAll_12 (by decide) ?_
        refine lv_goto (tgt := 17) hx hb dX3_openAll_13 (by decide) ?_
        refine lv_iload_n hx hb dX3_openAll_17 rfl (lv_at hl 2 rfl) ?_
        refine g_callS (As := [.int x]) (rest := [.int (nI 1), .ref (ad 69)]) ⟨hx, hb, hml, hown, hw⟩ (mX3_isBench l D cT n ad A hD G x) (va_cwS 1 hw (gWS wm_X3_67 wst_X3_isBench wini_X3 wc_X3_isBench) rfl rfl rfl (by decide +kernel) ⟨Nat.le_of_ble_eq_true rfl, Nat.le_of_ble_eq_true rfl⟩) hK hE hA hP hS rfl hl.1 (lv_room (Nat.le_of_ble_eq_true rfl)) dX3_openAll_18 ⟨Nat.le_of_ble_eq_true rfl, Nat.le_of_ble_eq_true rfl⟩ (fun v_89 G_88 H locs hp hP hS => ?_)
        obtain ⟨hv9, hg9⟩ := hp
        subst hv9
        rw [hg9] at hP
        refine t_eqi (nI 0) (congrArg nI (if_pos hbb)) ?_
        refine t_if_eq (tgt := 35) hx hb dX3_openAll_21 (by decide) (by omega) (fun c_90 => ?_) (fun c_90 => absurd c_90 (by omega))
        refine lv_iconst (v := nI 0) hx hb dX3_openAll_35 (by decide) ?_
        refine lv_iconst (v := nI 1) hx hb dX3_openAll_36 (by decide) ?_
        refine g_callV (As := [.int (nI 1), .int (nI 0), .int (nI 1)]) (rest := []) ⟨hx, hb, hml, hown, hw⟩ (mX3_can l D cT n ad A hD G hn th 1 0 1 (by decide) (by decide) (by decide) hC.1) (cwV 3 hw (gWV wm_X3_63 wi_X3_can wse_X3_can wini_X3 wc_X3_can) rfl rfl rfl (by decide +kernel) ⟨Nat.le_of_ble_eq_true rfl, Nat.le_of_ble_eq_true rfl⟩) hK hE hA hP hS (k := 69) (by omega) hC.1 rfl rfl hl.1 (lv_room (Nat.le_of_ble_eq_true rfl)) dX3_openAll_37 ⟨Nat.le_of_ble_eq_true rfl, Nat.le_of_ble_eq_true rfl⟩ (fun v_92 G_91 H locs hp hP hS => ?_)
        obtain ⟨rfl, hg_G_91, ho_G_91⟩ := hp
        have hc_93 : G_91 69 = .inr (5, [.ref (ad 70), .ref (ad 86), .ref (ad 90), .ref (ad 97), .ref (ad 98), .ref (ad 99), .ref (ad 106), .ref (ad 113), .int (nI 2)]) := hg_G_91
        have hc_94 : G_91 70 = aQ (cT 10) 3 (q3 ad) := (ho_G_91 _ (by omega)).trans hC.2.1
        have hc_95 : G_91 86 = aQ (cT 8) 3 (qS ad) := (ho_G_91 _ (by omega)).trans hC.2.2.2.2.1
        have hc_96 : G_91 90 = aQ (cT 7) 6 (qP ad) := (ho_G_91 _ (by omega)).trans hC.2.2.2.2.2.2.1
        have hc_97 : G_91 97 = aI cT 6 zf := (ho_G_91 _ (by omega)).trans hC.2.2.2.2.2.2.2.2.1
        have hc_98 : G_91 98 = aZ cT 6 xf := (ho_G_91 _ (by omega)).trans hC.2.2.2.2.2.2.2.2.2.1
        have hc_99 : G_91 99 = aQ (cT 9) 6 (qK ad) := (ho_G_91 _ (by omega)).trans hC.2.2.2.2.2.2.2.2.2.2.1
        have hc_100 : G_91 106 = aQ (cT 8) 6 (qL ad) := (ho_G_91 _ (by omega)).trans hC.2.2.2.2.2.2.2.2.2.2.2.2.1
        have hc_101 : G_91 113 = aI cT 6 mf := (ho_G_91 _ (by omega)).trans hC.2.2.2.2.2.2.2.2.2.2.2.2.2.2.1
        have hfr_102 : ∀ j, (j ≠ 69) → G_91 j = G j := fun j hj => (ho_G_91 j (by omega)).trans (rfl)
        refine t_eqi (nI 0) rfl ?_
        refine t_if_eq (tgt := 64) hx hb dX3_openAll_40 (by decide) (by omega) (fun c_103 => ?_) (fun c_103 => absurd c_103 (by omega))
        refine lv_iconst (v := nI 0) hx hb dX3_openAll_64 (by decide) ?_
        refine g_ret hQ hx hb hr hlocks rfl hP hS (⟨⟨⟨_, rfl⟩, by rw [show cd [xIA, xIO] xIO = 2 from by decide +kernel]; exact MW.same hC hMA hc_93 (fun j9 _ _ hj9 => hfr_102 j9 hj9)⟩, fun j hj => hfr_102 j (by omega)⟩) (Nat.le_of_ble_eq_true rfl) (Nat.le_of_ble_eq_true rfl) dX3_openAll_65
      · skip
        obtain ⟨hz, hm, hxx, hpp, hkl⟩ := hMA.2 b (by omega)
        obtain ⟨hit, hbx⟩ := hI.2 b (by omega)
        have hcap := BI_cap hit
        have h48 := hit.1
        refine lv_iload_n hx hb dX3_openAll_0 rfl (lv_at hl 2 rfl) ?_
        refine g_callS (As := [.int (nI ch)]) (rest := []) ⟨hx, hb, hml, hown, hw⟩ (mX3_kind l D cT n ad A hD G ch (by omega)) (va_cwS 1 hw (gWS wm_X3_51 wst_X3_kind wini_X3 wc_X3_kind) rfl rfl rfl (by decide +kernel) ⟨Nat.le_of_ble_eq_true rfl, Nat.le_of_ble_eq_true rfl⟩) hK hE hA hP hS rfl hl.1 (lv_room (Nat.le_of_ble_eq_true rfl)) dX3_openAll_1 ⟨Nat.le_of_ble_eq_true rfl, Nat.le_of_ble_eq_true rfl⟩ (fun v_105 G_104 H locs hp hP hS => ?_)
        obtain ⟨hv9, hg9⟩ := hp
        subst hv9
        rw [hg9] at hP
        refine t_eqi (nI q) ((if_neg (by omega)).trans (congrArg nI hkq)) ?_
        refine lv_istore (lv' := [(4, .int (nI q)), (0, .ref (ad 69)), (1, .int (nI b)), (2, .int (nI ch)), (3, .int y)]) hx hb dX3_openAll_4 hl (by decide) rfl (fun ls hl => ?_)
        refine lv_aload_n hx hb dX3_openAll_6 rfl (lv_at hl 1 rfl) ?_
        refine lv_iload hx hb dX3_openAll_7 (lv_at hl 0 rfl) ?_
        refine t_if_lt (tgt := 16) hx hb dX3_openAll_9 (by decide) (by omega) ?_
        refine lv_iconst (v := nI 1) hx hb dX3_openAll_12 (by decide) ?_
        refine lv_goto (tgt := 17) hx hb dX3_openAll_13 (by decide) ?_
        refine lv_iload_n hx hb dX3_openAll_17 rfl (lv_at hl 2 rfl) ?_
        refine g_callS (As := [.int (nI b)]) (rest := [.int (nI 1), .ref (ad 69)]) ⟨hx, hb, hml, hown, hw⟩ (mX3_isBench l D cT n ad A hD G (nI b)) (va_cwS 1 hw (gWS wm_X3_67 wst_X3_isBench wini_X3 wc_X3_isBench) rfl rfl rfl (by decide +kernel) ⟨Nat.le_of_ble_eq_true rfl, Nat.le_of_ble_eq_true rfl⟩) hK hE hA hP hS rfl hl.1 (lv_room (Nat.le_of_ble_eq_true rfl)) dX3_openAll_18 ⟨Nat.le_of_ble_eq_true rfl, Nat.le_of_ble_eq_true rfl⟩ (fun v_108 G_107 H locs hp hP hS => ?_)
        obtain ⟨hv9, hg9⟩ := hp
        subst hv9
        rw [hg9] at hP
        refine t_eqi (nI 1) (congrArg nI (if_neg (ix_ok (by omega) (by decide)))) ?_
        refine t_if_eq (tgt := 35) hx hb dX3_openAll_21 (by decide) (by omega) (fun c_109 => absurd c_109 (by omega)) (fun c_109 => ?_)
        refine lv_iload_n hx hb dX3_openAll_24 rfl (lv_at hl 4 rfl) ?_
        refine g_callS (As := [.int y]) (rest := [.int (nI 1), .ref (ad 69)]) ⟨hx, hb, hml, hown, hw⟩ (mX3_isRow l D cT n ad A hD G y) (va_cwS 1 hw (gWS wm_X3_59 wst_X3_isRow wini_X3 wc_X3_isRow) rfl rfl rfl (by decide +kernel) ⟨Nat.le_of_ble_eq_true rfl, Nat.le_of_ble_eq_true rfl⟩) hK hE hA hP hS rfl hl.1 (lv_room (Nat.le_of_ble_eq_true rfl)) dX3_openAll_25 ⟨Nat.le_of_ble_eq_true rfl, Nat.le_of_ble_eq_true rfl⟩ (fun v_111 G_110 H locs hp hP hS => ?_)
        obtain ⟨hv9, hg9⟩ := hp
        subst hv9
        rw [hg9] at hP
        refine t_eqi (nI 0) (congrArg nI (if_pos hrb)) ?_
        refine t_if_eq (tgt := 35) hx hb dX3_openAll_28 (by decide) (by omega) (fun c_112 => ?_) (fun c_112 => absurd c_112 (by omega))
        refine lv_iconst (v := nI 0) hx hb dX3_openAll_35 (by decide) ?_
        refine lv_iconst (v := nI 1) hx hb dX3_openAll_36 (by decide) ?_
        refine g_callV (As := [.int (nI 1), .int (nI 0), .int (nI 1)]) (rest := []) ⟨hx, hb, hml, hown, hw⟩ (mX3_can l D cT n ad A hD G hn th 1 0 1 (by decide) (by decide) (by decide) hC.1) (cwV 3 hw (gWV wm_X3_63 wi_X3_can wse_X3_can wini_X3 wc_X3_can) rfl rfl rfl (by decide +kernel) ⟨Nat.le_of_ble_eq_true rfl, Nat.le_of_ble_eq_true rfl⟩) hK hE hA hP hS (k := 69) (by omega) hC.1 rfl rfl hl.1 (lv_room (Nat.le_of_ble_eq_true rfl)) dX3_openAll_37 ⟨Nat.le_of_ble_eq_true rfl, Nat.le_of_ble_eq_true rfl⟩ (fun v_114 G_113 H locs hp hP hS => ?_)
        obtain ⟨rfl, hg_G_113, ho_G_113⟩ := hp
        have hc_115 : G_113 69 = .inr (5, [.ref (ad 70), .ref (ad 86), .ref (ad 90), .ref (ad 97), .ref (ad 98), .ref (ad 99), .ref (ad 106), .ref (ad 113), .int (nI 2)]) := hg_G_113
        have hc_116 : G_113 70 = aQ (cT 10) 3 (q3 ad) := (ho_G_113 _ (by omega)).trans hC.2.1
        have hc_117 : G_113 86 = aQ (cT 8) 3 (qS ad) := (ho_G_113 _ (by omega)).trans hC.2.2.2.2.1
        have hc_118 : G_113 90 = aQ (cT 7) 6 (qP ad) := (ho_G_113 _ (by omega)).trans hC.2.2.2.2.2.2.1
        have hc_119 : G_113 97 = aI cT 6 zf := (ho_G_113 _ (by omega)).trans hC.2.2.2.2.2.2.2.2.1
        have hc_120 : G_113 98 = aZ cT 6 xf := (ho_G_113 _ (by omega)).trans hC.2.2.2.2.2.2.2.2.2.1
        have hc_121 : G_113 99 = aQ (cT 9) 6 (qK ad) := (ho_G_113 _ (by omega)).trans hC.2.2.2.2.2.2.2.2.2.2.1
        have hc_122 : G_113 106 = aQ (cT 8) 6 (qL ad) := (ho_G_113 _ (by omega)).trans hC.2.2.2.2.2.2.2.2.2.2.2.2.1
        have hc_123 : G_113 113 = aI cT 6 mf := (ho_G_113 _ (by omega)).trans hC.2.2.2.2.2.2.2.2.2.2.2.2.2.2.1
        have hc_124 : G_113 (91 + b) = aJ cT 48 (pf b) := (ho_G_113 _ (by omega)).trans (hC.2.2.2.2.2.2.2.1 b (by omega))
        have hc_125 : G_113 (100 + b) = aC cT 128 (kf b) := (ho_G_113 _ (by omega)).trans (hC.2.2.2.2.2.2.2.2.2.2.2.1 b (by omega))
        have hc_126 : G_113 (107 + b) = aI cT 128 (lf b) := (ho_G_113 _ (by omega)).trans (hC.2.2.2.2.2.2.2.2.2.2.2.2.2.1 b (by omega))
        have hfr_127 : ∀ j, (j ≠ 69) → G_113 j = G j := fun j hj => (ho_G_113 j (by omega)).trans (rfl)
        refine t_eqi (nI 0) rfl ?_
        refine t_if_eq (tgt := 64) hx hb dX3_openAll_40 (by decide) (by omega) (fun c_128 => ?_) (fun c_128 => absurd c_128 (by omega))
        refine lv_iconst (v := nI 0) hx hb dX3_openAll_64 (by decide) ?_
        refine g_ret hQ hx hb hr hlocks rfl hP hS (⟨⟨⟨_, rfl⟩, by rw [show cd [xIA, xIO] xIO = 2 from by decide +kernel]; exact MW.same hC hMA hc_115 (fun j9 _ _ hj9 => hfr_127 j9 hj9)⟩, fun j hj => hfr_127 j (by omega)⟩) (Nat.le_of_ble_eq_true rfl) (Nat.le_of_ble_eq_true rfl) dX3_openAll_65
    · skip
      rcases ix_cases y (N := 4) (by decide) with hrb | ⟨ro, hro, rfl⟩
      · skip
        refine lv_iload_n hx hb dX3_openAll_0 rfl (lv_at hl 2 rfl) ?_
        refine g_callS (As := [.int (nI ch)]) (rest := []) ⟨hx, hb, hml, hown, hw⟩ (mX3_kind l D cT n ad A hD G ch (by omega)) (va_cwS 1 hw (gWS wm_X3_51 wst_X3_kind wini_X3 wc_X3_kind) rfl rfl rfl (by decide +kernel) ⟨Nat.le_of_ble_eq_true rfl, Nat.le_of_ble_eq_true rfl⟩) hK hE hA hP hS rfl hl.1 (lv_room (Nat.le_of_ble_eq_true rfl)) dX3_openAll_1 ⟨Nat.le_of_ble_eq_true rfl, Nat.le_of_ble_eq_true rfl⟩ (fun v_130 G_129 H locs hp hP hS => ?_)
        obtain ⟨hv9, hg9⟩ := hp
        subst hv9
        rw [hg9] at hP
        refine t_eqi (nI q) ((if_neg (by omega)).trans (congrArg nI hkq)) ?_
        refine lv_istore (lv' := [(4, .int (nI q)), (0, .ref (ad 69)), (1, .int x), (2, .int (nI ch)), (3, .int y)]) hx hb dX3_openAll_4 hl (by decide) rfl (fun ls hl => ?_)
        refine lv_aload_n hx hb dX3_openAll_6 rfl (lv_at hl 1 rfl) ?_
        refine lv_iload hx hb dX3_openAll_7 (lv_at hl 0 rfl) ?_
        refine t_if_lt (tgt := 16) hx hb dX3_openAll_9 (by decide) (by omega) ?_
        refine lv_iconst (v := nI 1) hx hb dX3_openAll_12 (by decide) ?_
        refine lv_goto (tgt := 17) hx hb dX3_openAll_13 (by decide) ?_
        refine lv_iload_n hx hb dX3_openAll_17 rfl (lv_at hl 2 rfl) ?_
        refine g_callS (As := [.int x]) (rest := [.int (nI 1), .ref (ad 69)]) ⟨hx, hb, hml, hown, hw⟩ (mX3_isBench l D cT n ad A hD G x) (va_cwS 1 hw (gWS wm_X3_67 wst_X3_isBench wini_X3 wc_X3_isBench) rfl rfl rfl (by decide +kernel) ⟨Nat.le_of_ble_eq_true rfl, Nat.le_of_ble_eq_true rfl⟩) hK hE hA hP hS rfl hl.1 (lv_room (Nat.le_of_ble_eq_true rfl)) dX3_openAll_18 ⟨Nat.le_of_ble_eq_true rfl, Nat.le_of_ble_eq_true rfl⟩ (fun v_133 G_132 H locs hp hP hS => ?_)
        obtain ⟨hv9, hg9⟩ := hp
        subst hv9
        rw [hg9] at hP
        refine t_eqi (nI 0) (congrArg nI (if_pos hbb)) ?_
        refine t_if_eq (tgt := 35) hx hb dX3_openAll_21 (by decide) (by omega) (fun c_134 => ?_) (fun c_134 => absurd c_134 (by omega))
        refine lv_iconst (v := nI 0) hx hb dX3_openAll_35 (by decide) ?_
        refine lv_iconst (v := nI 1) hx hb dX3_openAll_36 (by decide) ?_
        refine g_callV (As := [.int (nI 1), .int (nI 0), .int (nI 1)]) (rest := []) ⟨hx, hb, hml, hown, hw⟩ (mX3_can l D cT n ad A hD G hn th 1 0 1 (by decide) (by decide) (by decide) hC.1) (cwV 3 hw (gWV wm_X3_63 wi_X3_can wse_X3_can wini_X3 wc_X3_can) rfl rfl rfl (by decide +kernel) ⟨Nat.le_of_ble_eq_true rfl, Nat.le_of_ble_eq_true rfl⟩) hK hE hA hP hS (k := 69) (by omega) hC.1 rfl rfl hl.1 (lv_room (Nat.le_of_ble_eq_true rfl)) dX3_openAll_37 ⟨Nat.le_of_ble_eq_true rfl, Nat.le_of_ble_eq_true rfl⟩ (fun v_136 G_135 H locs hp hP hS => ?_)
        obtain ⟨rfl, hg_G_135, ho_G_135⟩ := hp
        have hc_137 : G_135 69 = .inr (5, [.ref (ad 70), .ref (ad 86), .ref (ad 90), .ref (ad 97), .ref (ad 98), .ref (ad 99), .ref (ad 106), .ref (ad 113), .int (nI 2)]) := hg_G_135
        have hc_138 : G_135 70 = aQ (cT 10) 3 (q3 ad) := (ho_G_135 _ (by omega)).trans hC.2.1
        have hc_139 : G_135 86 = aQ (cT 8) 3 (qS ad) := (ho_G_135 _ (by omega)).trans hC.2.2.2.2.1
        have hc_140 : G_135 90 = aQ (cT 7) 6 (qP ad) := (ho_G_135 _ (by omega)).trans hC.2.2.2.2.2.2.1
        have hc_141 : G_135 97 = aI cT 6 zf := (ho_G_135 _ (by omega)).trans hC.2.2.2.2.2.2.2.2.1
        have hc_142 : G_135 98 = aZ cT 6 xf := (ho_G_135 _ (by omega)).trans hC.2.2.2.2.2.2.2.2.2.1
        have hc_143 : G_135 99 = aQ (cT 9) 6 (qK ad) := (ho_G_135 _ (by omega)).trans hC.2.2.2.2.2.2.2.2.2.2.1
        have hc_144 : G_135 106 = aQ (cT 8) 6 (qL ad) := (ho_G_135 _ (by omega)).trans hC.2.2.2.2.2.2.2.2.2.2.2.2.1
        have hc_145 : G_135 113 = aI cT 6 mf := (ho_G_135 _ (by omega)).trans hC.2.2.2.2.2.2.2.2.2.2.2.2.2.2.1
        have hfr_146 : ∀ j, (j ≠ 69) → G_135 j = G j := fun j hj => (ho_G_135 j (by omega)).trans (rfl)
        refine t_eqi (nI 0) rfl ?_
        refine t_if_eq (tgt := 64) hx hb dX3_openAll_40 (by decide) (by omega) (fun c_147 => ?_) (fun c_147 => absurd c_147 (by omega))
        refine lv_iconst (v := nI 0) hx hb dX3_openAll_64 (by decide) ?_
        refine g_ret hQ hx hb hr hlocks rfl hP hS (⟨⟨⟨_, rfl⟩, by rw [show cd [xIA, xIO] xIO = 2 from by decide +kernel]; exact MW.same hC hMA hc_137 (fun j9 _ _ hj9 => hfr_146 j9 hj9)⟩, fun j hj => hfr_146 j (by omega)⟩) (Nat.le_of_ble_eq_true rfl) (Nat.le_of_ble_eq_true rfl) dX3_openAll_65
      · skip
        obtain ⟨hsz, hrv⟩ := hMA.1 q (by omega) ro (by omega)
        have hrc := hI.1 (4 * q + ro) (by omega)
        refine lv_iload_n hx hb dX3_openAll_0 rfl (lv_at hl 2 rfl) ?_
        refine g_callS (As := [.int (nI ch)]) (rest := []) ⟨hx, hb, hml, hown, hw⟩ (mX3_kind l D cT n ad A hD G ch (by omega)) (va_cwS 1 hw (gWS wm_X3_51 wst_X3_kind wini_X3 wc_X3_kind) rfl rfl rfl (by decide +kernel) ⟨Nat.le_of_ble_eq_true rfl, Nat.le_of_ble_eq_true rfl⟩) hK hE hA hP hS rfl hl.1 (lv_room (Nat.le_of_ble_eq_true rfl)) dX3_openAll_1 ⟨Nat.le_of_ble_eq_true rfl, Nat.le_of_ble_eq_true rfl⟩ (fun v_149 G_148 H locs hp hP hS => ?_)
        obtain ⟨hv9, hg9⟩ := hp
        subst hv9
        rw [hg9] at hP
        refine t_eqi (nI q) ((if_neg (by omega)).trans (congrArg nI hkq)) ?_
        refine lv_istore (lv' := [(4, .int (nI q)), (0, .ref (ad 69)), (1, .int x), (2, .int (nI ch)), (3, .int (nI ro))]) hx hb dX3_openAll_4 hl (by decide) rfl (fun ls hl => ?_)
        refine lv_aload_n hx hb dX3_openAll_6 rfl (lv_at hl 1 rfl) ?_
        refine lv_iload hx hb dX3_openAll_7 (lv_at hl 0 rfl) ?_
        refine t_if_lt (tgt := 16) hx hb dX3_openAll_9 (by decide) (by omega) ?_
        refine lv_iconst (v := nI 1) hx hb dX3_openAll_12 (by decide) ?_
        refine lv_goto (tgt := 17) hx hb dX3_openAll_13 (by decide) ?_
        refine lv_iload_n hx hb dX3_openAll_17 rfl (lv_at hl 2 rfl) ?_
        refine g_callS (As := [.int x]) (rest := [.int (nI 1), .ref (ad 69)]) ⟨hx, hb, hml, hown, hw⟩ (mX3_isBench l D cT n ad A hD G x) (va_cwS 1 hw (gWS wm_X3_67 wst_X3_isBench wini_X3 wc_X3_isBench) rfl rfl rfl (by decide +kernel) ⟨Nat.le_of_ble_eq_true rfl, Nat.le_of_ble_eq_true rfl⟩) hK hE hA hP hS rfl hl.1 (lv_room (Nat.le_of_ble_eq_true rfl)) dX3_openAll_18 ⟨Nat.le_of_ble_eq_true rfl, Nat.le_of_ble_eq_true rfl⟩ (fun v_152 G_151 H locs hp hP hS => ?_)
        obtain ⟨hv9, hg9⟩ := hp
        subst hv9
        rw [hg9] at hP
        refine t_eqi (nI 0) (congrArg nI (if_pos hbb)) ?_
        refine t_if_eq (tgt := 35) hx hb dX3_openAll_21 (by decide) (by omega) (fun c_153 => ?_) (fun c_153 => absurd c_153 (by omega))
        refine lv_iconst (v := nI 0) hx hb dX3_openAll_35 (by decide) ?_
        refine lv_iconst (v := nI 1) hx hb dX3_openAll_36 (by decide) ?_
        refine g_callV (As := [.int (nI 1), .int (nI 0), .int (nI 1)]) (rest := []) ⟨hx, hb, hml, hown, hw⟩ (mX3_can l D cT n ad A hD G hn th 1 0 1 (by decide) (by decide) (by decide) hC.1) (cwV 3 hw (gWV wm_X3_63 wi_X3_can wse_X3_can wini_X3 wc_X3_can) rfl rfl rfl (by decide +kernel) ⟨Nat.le_of_ble_eq_true rfl, Nat.le_of_ble_eq_true rfl⟩) hK hE hA hP hS (k := 69) (by omega) hC.1 rfl rfl hl.1 (lv_room (Nat.le_of_ble_eq_true rfl)) dX3_openAll_37 ⟨Nat.le_of_ble_eq_true rfl, Nat.le_of_ble_eq_true rfl⟩ (fun v_155 G_154 H locs hp hP hS => ?_)
        obtain ⟨rfl, hg_G_154, ho_G_154⟩ := hp
        have hc_156 : G_154 69 = .inr (5, [.ref (ad 70), .ref (ad 86), .ref (ad 90), .ref (ad 97), .ref (ad 98), .ref (ad 99), .ref (ad 106), .ref (ad 113), .int (nI 2)]) := hg_G_154
        have hc_157 : G_154 70 = aQ (cT 10) 3 (q3 ad) := (ho_G_154 _ (by omega)).trans hC.2.1
        have hc_158 : G_154 86 = aQ (cT 8) 3 (qS ad) := (ho_G_154 _ (by omega)).trans hC.2.2.2.2.1
        have hc_159 : G_154 90 = aQ (cT 7) 6 (qP ad) := (ho_G_154 _ (by omega)).trans hC.2.2.2.2.2.2.1
        have hc_160 : G_154 97 = aI cT 6 zf := (ho_G_154 _ (by omega)).trans hC.2.2.2.2.2.2.2.2.1
        have hc_161 : G_154 98 = aZ cT 6 xf := (ho_G_154 _ (by omega)).trans hC.2.2.2.2.2.2.2.2.2.1
        have hc_162 : G_154 99 = aQ (cT 9) 6 (qK ad) := (ho_G_154 _ (by omega)).trans hC.2.2.2.2.2.2.2.2.2.2.1
        have hc_163 : G_154 106 = aQ (cT 8) 6 (qL ad) := (ho_G_154 _ (by omega)).trans hC.2.2.2.2.2.2.2.2.2.2.2.2.1
        have hc_164 : G_154 113 = aI cT 6 mf := (ho_G_154 _ (by omega)).trans hC.2.2.2.2.2.2.2.2.2.2.2.2.2.2.1
        have hc_165 : G_154 (71 + 5 * q) = aQ (cT 7) 4 (q4 ad q) := (ho_G_154 _ (by omega)).trans (hC.2.2.1 q (by omega))
        have hc_166 : G_154 (87 + q) = aI cT 4 (sf q) := (ho_G_154 _ (by omega)).trans (hC.2.2.2.2.2.1 q (by omega))
        have hc_167 : G_154 (72 + 5 * q + ro) = aJ cT 48 (rf q ro) := (ho_G_154 _ (by omega)).trans (hC.2.2.2.1 q (by omega) ro (by omega))
        have hfr_168 : ∀ j, (j ≠ 69) → G_154 j = G j := fun j hj => (ho_G_154 j (by omega)).trans (rfl)
        refine t_eqi (nI 0) rfl ?_
        refine t_if_eq (tgt := 64) hx hb dX3_openAll_40 (by decide) (by omega) (fun c_169 => ?_) (fun c_169 => absurd c_169 (by omega))
        refine lv_iconst (v := nI 0) hx hb dX3_openAll_64 (by decide) ?_
        refine g_ret hQ hx hb hr hlocks rfl hP hS (⟨⟨⟨_, rfl⟩, by rw [show cd [xIA, xIO] xIO = 2 from by decide +kernel]; exact MW.same hC hMA hc_156 (fun j9 _ _ hj9 => hfr_168 j9 hj9)⟩, fun j hj => hfr_168 j (by omega)⟩) (Nat.le_of_ble_eq_true rfl) (Nat.le_of_ble_eq_true rfl) dX3_openAll_65
