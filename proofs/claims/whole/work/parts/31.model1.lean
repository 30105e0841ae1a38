set_option maxHeartbeats 4000000 in
set_option maxRecDepth 100000 in
theorem mX3_isRow (l : Launch) (D : va_G) (cT : Nat → ClassId) (n : Nat) (ad : Nat → Nat) (A : Nat → Prop) (hD : ∀ G, va_D A (gw n ad G)) (G : Nat → va_E) (x : Int32) : Met l yX3_isRow (wA yX3_isRow cX3_isRow 1 (some .boolean)) ({ frames := 0, cells := 0, slots := 0, locals := 0 } : Room) (PG D cT n ad A G [.int x]) (QG D n ad A (fun v G1 => v = some (.int (nI (if x < 0 ∨ nI 4 ≤ x then 0 else 1))) ∧ G1 = G)) 0 0 A := by
  refine Met.ofG (cc := cX3_isRow) (maxL := 1) (ret := (some .boolean)) (by decide) (Nat.le_of_ble_eq_true rfl) ?_
  intro p e s m args below meth c Q hQ hx hb hr hml hlocks hown hw hP hK hE hA hS ls hl
  have hl : lv_has ls 1 [(0, .int x)] := hl
  refine lv_iload_n hx hb dX3_isRow_0 rfl (lv_at hl 0 rfl) ?_
  refine lv_if_lt (tgt := 13) hx hb dX3_isRow_1 (by decide) (fun c_1 => ?_) (fun c_1 => ?_)
  · skip
    refine lv_iconst (v := nI 0) hx hb dX3_isRow_13 (by decide) ?_
    refine g_ret hQ hx hb hr hlocks rfl hP hS (⟨by rw [if_pos (Or.inl c_1)], rfl⟩) (Nat.le_of_ble_eq_true rfl) (Nat.le_of_ble_eq_true rfl) dX3_isRow_14
  · skip
    refine lv_iload_n hx hb dX3_isRow_4 rfl (lv_at hl 0 rfl) ?_
    refine lv_iconst (v := nI 4) hx hb dX3_isRow_5 (by decide) ?_
    refine lv_icmp_ge (tgt := 13) hx hb dX3_isRow_6 (by decide) (fun c_2 => ?_) (fun c_2 => ?_)
    · skip
      refine lv_iconst (v := nI 0) hx hb dX3_isRow_13 (by decide) ?_
      refine g_ret hQ hx hb hr hlocks rfl hP hS (⟨by rw [if_pos (Or.inr c_2)], rfl⟩) (Nat.le_of_ble_eq_true rfl) (Nat.le_of_ble_eq_true rfl) dX3_isRow_14
    · skip
      refine lv_iconst (v := nI 1) hx hb dX3_isRow_9 (by decide) ?_
      refine lv_goto (tgt := 14) hx hb dX3_isRow_10 (by decide) ?_
      refine g_ret hQ hx hb hr hlocks rfl hP hS (⟨by rw [if_neg (fun q9 => q9.elim c_1 c_2)], rfl⟩) (Nat.le_of_ble_eq_true rfl) (Nat.le_of_ble_eq_true rfl) dX3_isRow_14

set_option maxHeartbeats 4000000 in
set_option maxRecDepth 100000 in
theorem mX3_isBench (l : Launch) (D : va_G) (cT : Nat → ClassId) (n : Nat) (ad : Nat → Nat) (A : Nat → Prop) (hD : ∀ G, va_D A (gw n ad G)) (G : Nat → va_E) (x : Int32) : Met l yX3_isBench (wA yX3_isBench cX3_isBench 1 (some .boolean)) ({ frames := 0, cells := 0, slots := 0, locals := 0 } : Room) (PG D cT n ad A G [.int x]) (QG D n ad A (fun v G1 => v = some (.int (nI (if x < 0 ∨ nI 6 ≤ x then 0 else 1))) ∧ G1 = G)) 0 0 A := by
  refine Met.ofG (cc := cX3_isBench) (maxL := 1) (ret := (some .boolean)) (by decide) (Nat.le_of_ble_eq_true rfl) ?_
  intro p e s m args below meth c Q hQ hx hb hr hml hlocks hown hw hP hK hE hA hS ls hl
  have hl : lv_has ls 1 [(0, .int x)] := hl
  refine lv_iload_n hx hb dX3_isBench_0 rfl (lv_at hl 0 rfl) ?_
  refine lv_if_lt (tgt := 14) hx hb dX3_isBench_1 (by decide) (fun c_1 => ?_) (fun c_1 => ?_)
  · skip
    refine lv_iconst (v := nI 0) hx hb dX3_isBench_14 (by decide) ?_
    refine g_ret hQ hx hb hr hlocks rfl hP hS (⟨by rw [if_pos (Or.inl c_1)], rfl⟩) (Nat.le_of_ble_eq_true rfl) (Nat.le_of_ble_eq_true rfl) dX3_isBench_15
  · skip
    refine lv_iload_n hx hb dX3_isBench_4 rfl (lv_at hl 0 rfl) ?_
    refine lv_bipush (v := nI 6) hx hb dX3_isBench_5 (by decide) ?_
    refine lv_icmp_ge (tgt := 14) hx hb dX3_isBench_7 (by decide) (fun c_2 => ?_) (fun c_2 => ?_)
    · skip
      refine lv_iconst (v := nI 0) hx hb dX3_isBench_14 (by decide) ?_
      refine g_ret hQ hx hb hr hlocks rfl hP hS (⟨by rw [if_pos (Or.inr c_2)], rfl⟩) (Nat.le_of_ble_eq_true rfl) (Nat.le_of_ble_eq_true rfl) dX3_isBench_15
    · skip
      refine lv_iconst (v := nI 1) hx hb dX3_isBench_10 (by decide) ?_
      refine lv_goto (tgt := 15) hx hb dX3_isBench_11 (by decide) ?_
      refine g_ret hQ hx hb hr hlocks rfl hP hS (⟨by rw [if_neg (fun q9 => q9.elim c_1 c_2)], rfl⟩) (Nat.le_of_ble_eq_true rfl) (Nat.le_of_ble_eq_true rfl) dX3_isBench_15

set_option maxHeartbeats 4000000 in
set_option maxRecDepth 100000 in
theorem mX3_isMost (l : Launch) (D : va_G) (cT : Nat → ClassId) (n : Nat) (ad : Nat → Nat) (A : Nat → Prop) (hD : ∀ G, va_D A (gw n ad G)) (G : Nat → va_E) (x : Int32) : Met l yX3_isMost (wA yX3_isMost cX3_isMost 1 (some .boolean)) ({ frames := 0, cells := 0, slots := 0, locals := 0 } : Room) (PG D cT n ad A G [.int x]) (QG D n ad A (fun v G1 => v = some (.int (nI (if x < nI 1 ∨ nI 48 < x then 0 else 1))) ∧ G1 = G)) 0 0 A := by
  refine Met.ofG (cc := cX3_isMost) (maxL := 1) (ret := (some .boolean)) (by decide) (Nat.le_of_ble_eq_true rfl) ?_
  intro p e s m args below meth c Q hQ hx hb hr hml hlocks hown hw hP hK hE hA hS ls hl
  have hl : lv_has ls 1 [(0, .int x)] := hl
  refine lv_iload_n hx hb dX3_isMost_0 rfl (lv_at hl 0 rfl) ?_
  refine lv_iconst (v := nI 1) hx hb dX3_isMost_1 (by decide) ?_
  refine lv_icmp_lt (tgt := 15) hx hb dX3_isMost_2 (by decide) (fun c_1 => ?_) (fun c_1 => ?_)
  · skip
    refine lv_iconst (v := nI 0) hx hb dX3_isMost_15 (by decide) ?_
    refine g_ret hQ hx hb hr hlocks rfl hP hS (⟨by rw [if_pos (Or.inl c_1)], rfl⟩) (Nat.le_of_ble_eq_true rfl) (Nat.le_of_ble_eq_true rfl) dX3_isMost_16
  · skip
    refine lv_iload_n hx hb dX3_isMost_5 rfl (lv_at hl 0 rfl) ?_
    refine lv_bipush (v := nI 48) hx hb dX3_isMost_6 (by decide) ?_
    refine lv_icmp_gt (tgt := 15) hx hb dX3_isMost_8 (by decide) (fun c_2 => ?_) (fun c_2 => ?_)
    · skip
      refine lv_iconst (v := nI 0) hx hb dX3_isMost_15 (by decide) ?_
      refine g_ret hQ hx hb hr hlocks rfl hP hS (⟨by rw [if_pos (Or.inr c_2)], rfl⟩) (Nat.le_of_ble_eq_true rfl) (Nat.le_of_ble_eq_true rfl) dX3_isMost_16
    · skip
      refine lv_iconst (v := nI 1) hx hb dX3_isMost_11 (by decide) ?_
      refine lv_goto (tgt := 16) hx hb dX3_isMost_12 (by decide) ?_
      refine g_ret hQ hx hb hr hlocks rfl hP hS (⟨by rw [if_neg (fun q9 => q9.elim c_1 c_2)], rfl⟩) (Nat.le_of_ble_eq_true rfl) (Nat.le_of_ble_eq_true rfl) dX3_isMost_16

set_option maxHeartbeats 4000000 in
set_option maxRecDepth 100000 in
theorem mX3_kind (l : Launch) (D : va_G) (cT : Nat → ClassId) (n : Nat) (ad : Nat → Nat) (A : Nat → Prop) (hD : ∀ G, va_D A (gw n ad G)) (G : Nat → va_E) (ch : Nat) (hch : ch < 65536) : Met l yX3_kind (wA yX3_kind cX3_kind 1 (some .int)) ({ frames := 0, cells := 0, slots := 0, locals := 0 } : Room) (PG D cT n ad A G [.int (nI ch)]) (QG D n ad A (fun v G1 => v = some (.int (if kdx ch = 3 then -1 else nI (kdx ch))) ∧ G1 = G)) 0 0 A := by
  refine Met.ofG (cc := cX3_kind) (maxL := 1) (ret := (some .int)) (by decide) (Nat.le_of_ble_eq_true rfl) ?_
  intro p e s m args below meth c Q hQ hx hb hr hml hlocks hown hw hP hK hE hA hS ls hl
  have hl : lv_has ls 1 [(0, .int (nI ch))] := hl
  refine lv_iload_n hx hb dX3_kind_0 rfl (lv_at hl 0 rfl) ?_
  refine lv_bipush (v := nI 105) hx hb dX3_kind_1 (by decide) ?_
  refine t_icmp_ne (tgt := 10) hx hb dX3_kind_3 (by decide) (by omega) (by omega) (fun c_1 => ?_) (fun c_1 => ?_)
  · skip
    refine lv_iload_n hx hb dX3_kind_10 rfl (lv_at hl 0 rfl) ?_
    refine lv_bipush (v := nI 108) hx hb dX3_kind_11 (by decide) ?_
    refine t_icmp_ne (tgt := 20) hx hb dX3_kind_13 (by decide) (by omega) (by omega) (fun c_2 => ?_) (fun c_2 => ?_)
    · skip
      refine lv_iload_n hx hb dX3_kind_20 rfl (lv_at hl 0 rfl) ?_
      refine lv_bipush (v := nI 111) hx hb dX3_kind_21 (by decide) ?_
      refine t_icmp_ne (tgt := 30) hx hb dX3_kind_23 (by decide) (by omega) (by omega) (fun c_3 => ?_) (fun c_3 => ?_)
      · skip
        refine lv_iconst (v := (-1)) hx hb dX3_kind_30 (by decide) ?_
        refine g_ret hQ hx hb hr hlocks rfl hP hS (⟨by rw [kdx_3 c_1 c_2 c_3]; rfl, rfl⟩) (Nat.le_of_ble_eq_true rfl) (Nat.le_of_ble_eq_true rfl) dX3_kind_31
      · skip
        refine lv_iconst (v := nI 2) hx hb dX3_kind_26 (by decide) ?_
        refine lv_goto (tgt := 31) hx hb dX3_kind_27 (by decide) ?_
        refine g_ret hQ hx hb hr hlocks rfl hP hS (⟨by rw [kdx_2 (by omega)]; rfl, rfl⟩) (Nat.le_of_ble_eq_true rfl) (Nat.le_of_ble_eq_true rfl) dX3_kind_31
    · skip
      refine lv_iconst (v := nI 1) hx hb dX3_kind_16 (by decide) ?_
      refine lv_goto (tgt := 31) hx hb dX3_kind_17 (by decide) ?_
      refine g_ret hQ hx hb hr hlocks rfl hP hS (⟨by rw [kdx_1 (by omega)]; rfl, rfl⟩) (Nat.le_of_ble_eq_true rfl) (Nat.le_of_ble_eq_true rfl) dX3_kind_31
  · skip
    refine lv_iconst (v := nI 0) hx hb dX3_kind_6 (by decide) ?_
    refine lv_goto (tgt := 31) hx hb dX3_kind_7 (by decide) ?_
    refine g_ret hQ hx hb hr hlocks rfl hP hS (⟨by rw [kdx_0 (by omega)]; rfl, rfl⟩) (Nat.le_of_ble_eq_true rfl) (Nat.le_of_ble_eq_true rfl) dX3_kind_31

set_option maxHeartbeats 4000000 in
set_option maxRecDepth 100000 in
theorem mX3_isNumber (l : Launch) (D : va_G) (cT : Nat → ClassId) (n : Nat) (ad : Nat → Nat) (A : Nat → Prop) (hD : ∀ G, va_D A (gw n ad G)) (G : Nat → va_E) (q : Nat) (hq : q < 3) (z : Int64) : Met l yX3_isNumber (wA yX3_isNumber cX3_isNumber 3 (some .boolean)) ({ frames := 0, cells := 0, slots := 0, locals := 0 } : Room) (PG D cT n ad A G [.int (nI q), .long z]) (QG D n ad A (fun v G1 => v = some (.int (nI (if q = 1 ∨ z = z.toInt32.toInt64 then 1 else 0))) ∧ G1 = G)) 0 0 A := by
  refine Met.ofG (cc := cX3_isNumber) (maxL := 3) (ret := (some .boolean)) (by decide) (Nat.le_of_ble_eq_true rfl) ?_
  intro p e s m args below meth c Q hQ hx hb hr hml hlocks hown hw hP hK hE hA hS ls hl
  have hl : lv_has ls 3 [(0, .int (nI q)), (1, .long z)] := hl
  refine lv_iload_n hx hb dX3_isNumber_0 rfl (lv_at hl 0 rfl) ?_
  refine lv_iconst (v := nI 1) hx hb dX3_isNumber_1 (by decide) ?_
  refine t_icmp_eq (tgt := 21) hx hb dX3_isNumber_2 (by decide) (by omega) (by omega) (fun c_1 => ?_) (fun c_1 => ?_)
  · skip
    refine lv_iconst (v := nI 1) hx hb dX3_isNumber_21 (by decide) ?_
    refine lv_goto (tgt := 26) hx hb dX3_isNumber_22 (by decide) ?_
    refine g_ret hQ hx hb hr hlocks rfl hP hS (⟨by rw [if_pos (Or.inl (by omega))], rfl⟩) (Nat.le_of_ble_eq_true rfl) (Nat.le_of_ble_eq_true rfl) dX3_isNumber_26
  · skip
    refine lv_lload_n hx hb dX3_isNumber_5 rfl (lv_at hl 1 rfl) ?_
    refine lv_ldc2 hx hb hown (hw _ wk_X3_47) dX3_isNumber_6 ?_
    refine W.lcmp hx hb dX3_isNumber_9 ?_
    refine lv_if_lt (tgt := 25) hx hb dX3_isNumber_10 (by decide) (fun c_2 => ?_) (fun c_2 => ?_)
    · skip
      refine lv_iconst (v := nI 0) hx hb dX3_isNumber_25 (by decide) ?_
      refine g_ret hQ hx hb hr hlocks rfl hP hS (⟨by rw [if_neg (fun q9 => q9.elim (by omega) (fun q8 => absurd ((is_int z).mpr q8).1 (Int64.not_le.mpr ((lg_cmp_lt _ _).mp c_2))))], rfl⟩) (Nat.le_of_ble_eq_true rfl) (Nat.le_of_ble_eq_true rfl) dX3_isNumber_26
    · skip
      refine lv_lload_n hx hb dX3_isNumber_13 rfl (lv_at hl 1 rfl) ?_
      refine lv_ldc2 hx hb hown (hw _ wk_X3_49) dX3_isNumber_14 ?_
      refine W.lcmp hx hb dX3_isNumber_17 ?_
      refine lv_if_gt (tgt := 25) hx hb dX3_isNumber_18 (by decide) (fun c_3 => ?_) (fun c_3 => ?_)
      · skip
        refine lv_iconst (v := nI 0) hx hb dX3_isNumber_25 (by decide) ?_
        refine g_ret hQ hx hb hr hlocks rfl hP hS (⟨by rw [if_neg (fun q9 => q9.elim (by omega) (fun q8 => absurd ((is_int z).mpr q8).2 (Int64.not_le.mpr ((lg_cmp_gt _ _).mp c_3))))], rfl⟩) (Nat.le_of_ble_eq_true rfl) (Nat.le_of_ble_eq_true rfl) dX3_isNumber_26
      · skip
        refine lv_iconst (v := nI 1) hx hb dX3_isNumber_21 (by decide) ?_
        refine lv_goto (tgt := 26) hx hb dX3_isNumber_22 (by decide) ?_
        refine g_ret hQ hx hb hr hlocks rfl hP hS (⟨by rw [if_pos (Or.inr ((is_int z).mp ⟨Int64.not_lt.mp (fun q8 => c_2 ((lg_cmp_lt _ _).mpr q8)), Int64.not_lt.mp (fun q8 => c_3 ((lg_cmp_gt _ _).mpr q8))⟩))], rfl⟩) (Nat.le_of_ble_eq_true rfl) (Nat.le_of_ble_eq_true rfl) dX3_isNumber_26

set_option maxHeartbeats 4000000 in
set_option maxRecDepth 100000 in
theorem mX3_can (l : Launch) (D : va_G) (cT : Nat → ClassId) (n : Nat) (ad : Nat → Nat) (A : Nat → Prop) (hD : ∀ G, va_D A (gw n ad G)) (G : Nat → va_E) (hn : 114 ≤ n) (th a1 a2 a3 : Nat) (h1 : a1 ≤ 1) (h2 : a2 ≤ 1) (h3 : a3 ≤ 1) (hO : G 69 = mO ad th) : Met l yX3_can (wA yX3_can cX3_can 4 (some .boolean)) ({ frames := 0, cells := 0, slots := 0, locals := 0 } : Room) (PG D cT n ad A G [.ref (ad 69), .int (nI a1), .int (nI a2), .int (nI a3)]) (QG D n ad A (fun v G1 => v = some (.int (nI (canR a1 a2 a3))) ∧ G1 69 = mO ad (canT a1 a2 a3) ∧ ∀ j, j ≠ 69 → G1 j = G j)) 0 0 A := by
  refine Met.ofG (cc := cX3_can) (maxL := 4) (ret := (some .boolean)) (by decide) (Nat.le_of_ble_eq_true rfl) ?_
  intro p e s m args below meth c Q hQ hx hb hr hml hlocks hown hw hP hK hE hA hS ls hl
  have hl : lv_has ls 4 [(0, .ref (ad 69)), (1, .int (nI a1)), (2, .int (nI a2)), (3, .int (nI a3))] := hl
  refine lv_aload_n hx hb dX3_can_0 rfl (lv_at hl 0 rfl) ?_
  refine lv_iload_n hx hb dX3_can_1 rfl (lv_at hl 1 rfl) ?_
  refine t_if_ne (tgt := 9) hx hb dX3_can_2 (by decide) (by omega) (fun c_1 => ?_) (fun c_1 => ?_)
  · skip
    refine lv_iload_n hx hb dX3_can_9 rfl (lv_at hl 2 rfl) ?_
    refine t_if_ne (tgt := 17) hx hb dX3_can_10 (by decide) (by omega) (fun c_2 => ?_) (fun c_2 => ?_)
    · skip
      refine lv_iload_n hx hb dX3_can_17 rfl (lv_at hl 3 rfl) ?_
      refine t_if_ne (tgt := 25) hx hb dX3_can_18 (by decide) (by omega) (fun c_3 => ?_) (fun c_3 => ?_)
      · skip
        refine lv_iconst (v := nI 0) hx hb dX3_can_25 (by decide) ?_
        refine g_put (C := RX3) (T := TX3) (N := 9) hx hb hw inX3 tyX3 tyX3_ok nmX3 hown hK hP hD hS (i := 69) (by omega) hO rfl 8 (by decide) (hw _ wf_X3_43) rfl (tyX3_ok 8 (by decide)) rfl rfl (Nat.le_of_ble_eq_true rfl) dX3_can_26 (fun G_4 H locs hg_G_4 ho_G_4 hP hS => ?_)
        have hc_5 : G_4 69 = .inr (5, [.ref (ad 70), .ref (ad 86), .ref (ad 90), .ref (ad 97), .ref (ad 98), .ref (ad 99), .ref (ad 106), .ref (ad 113), .int (nI 0)]) := hg_G_4
        have hfr_6 : ∀ j, (j ≠ 69) → G_4 j = G j := fun j hj => (ho_G_4 j (by omega)).trans (rfl)
        refine lv_aload_n hx hb dX3_can_29 rfl (lv_at hl 0 rfl) ?_
        refine g_get (C := RX3) (T := TX3) (N := 9) hx hb hw inX3 hown hK hP (i := 69) (by omega) hc_5 rfl 8 (by decide) (hw _ wf_X3_43) rfl dX3_can_30 ?_
        refine t_if_ne (tgt := 40) hx hb dX3_can_33 (by decide) (by omega) (fun c_7 => absurd c_7 (by omega)) (fun c_7 => ?_)
        refine lv_iconst (v := nI 1) hx hb dX3_can_36 (by decide) ?_
        refine lv_goto (tgt := 41) hx hb dX3_can_37 (by decide) ?_
        refine g_ret hQ hx hb hr hlocks rfl hP hS (⟨by unfold canR; rw [(show canT a1 a2 a3 = 0 from (if_neg (by omega)).trans ((if_neg (by omega)).trans (if_neg (by omega))))]; rfl, hc_5.trans (by rw [(show canT a1 a2 a3 = 0 from (if_neg (by omega)).trans ((if_neg (by omega)).trans (if_neg (by omega))))]; rfl), fun j hj => hfr_6 j hj⟩) (Nat.le_of_ble_eq_true rfl) (Nat.le_of_ble_eq_true rfl) dX3_can_41
      · skip
        refine lv_iconst (v := nI 3) hx hb dX3_can_21 (by decide) ?_
        refine lv_goto (tgt := 26) hx hb dX3_can_22 (by decide) ?_
        refine g_put (C := RX3) (T := TX3) (N := 9) hx hb hw inX3 tyX3 tyX3_ok nmX3 hown hK hP hD hS (i := 69) (by omega) hO rfl 8 (by decide) (hw _ wf_X3_43) rfl (tyX3_ok 8 (by decide)) rfl rfl (Nat.le_of_ble_eq_true rfl) dX3_can_26 (fun G_8 H locs hg_G_8 ho_G_8 hP hS => ?_)
        have hc_9 : G_8 69 = .inr (5, [.ref (ad 70), .ref (ad 86), .ref (ad 90), .ref (ad 97), .ref (ad 98), .ref (ad 99), .ref (ad 106), .ref (ad 113), .int (nI 3)]) := hg_G_8
        have hfr_10 : ∀ j, (j ≠ 69) → G_8 j = G j := fun j hj => (ho_G_8 j (by omega)).trans (rfl)
        refine lv_aload_n hx hb dX3_can_29 rfl (lv_at hl 0 rfl) ?_
        refine g_get (C := RX3) (T := TX3) (N := 9) hx hb hw inX3 hown hK hP (i := 69) (by omega) hc_9 rfl 8 (by decide) (hw _ wf_X3_43) rfl dX3_can_30 ?_
        refine t_if_ne (tgt := 40) hx hb dX3_can_33 (by decide) (by omega) (fun c_11 => ?_) (fun c_11 => absurd c_11 (by omega))
        refine lv_iconst (v := nI 0) hx hb dX3_can_40 (by decide) ?_
        refine g_ret hQ hx hb hr hlocks rfl hP hS (⟨by unfold canR; rw [(show canT a1 a2 a3 = 3 from (if_neg (by omega)).trans ((if_neg (by omega)).trans (if_pos (by omega))))]; rfl, hc_9.trans (by rw [(show canT a1 a2 a3 = 3 from (if_neg (by omega)).trans ((if_neg (by omega)).trans (if_pos (by omega))))]; rfl), fun j hj => hfr_10 j hj⟩) (Nat.le_of_ble_eq_true rfl) (Nat.le_of_ble_eq_true rfl) dX3_can_41
    · skip
      refine lv_iconst (v := nI 2) hx hb dX3_can_13 (by decide) ?_
      refine lv_goto (tgt := 26) hx hb dX3_can_14 (by decide) ?_
      refine g_put (C := RX3) (T := TX3) (N := 9) hx hb hw inX3 tyX3 tyX3_ok nmX3 hown hK hP hD hS (i := 69) (by omega) hO rfl 8 (by decide) (hw _ wf_X3_43) rfl (tyX3_ok 8 (by decide)) rfl rfl (Nat.le_of_ble_eq_true rfl) dX3_can_26 (fun G_12 H locs hg_G_12 ho_G_12 hP hS => ?_)
      have hc_13 : G_12 69 = .inr (5, [.ref (ad 70), .ref (ad 86), .ref (ad 90), .ref (ad 97), .ref (ad 98), .ref (ad 99), .ref (ad 106), .ref (ad 113), .int (nI 2)]) := hg_G_12
      have hfr_14 : ∀ j, (j ≠ 69) → G_12 j = G j := fun j hj => (ho_G_12 j (by omega)).trans (rfl)
      refine lv_aload_n hx hb dX3_can_29 rfl (lv_at hl 0 rfl) ?_
      refine g_get (C := RX3) (T := TX3) (N := 9) hx hb hw inX3 hown hK hP (i := 69) (by omega) hc_13 rfl 8 (by decide) (hw _ wf_X3_43) rfl dX3_can_30 ?_
      refine t_if_ne (tgt := 40) hx hb dX3_can_33 (by decide) (by omega) (fun c_15 => ?_) (fun c_15 => absurd c_15 (by omega))
      refine lv_iconst (v := nI 0) hx hb dX3_can_40 (by decide) ?_
      refine g_ret hQ hx hb hr hlocks rfl hP hS (⟨by unfold canR; rw [(show canT a1 a2 a3 = 2 from (if_neg (by omega)).trans (if_pos (by omega)))]; rfl, hc_13.trans (by rw [(show canT a1 a2 a3 = 2 from (if_neg (by omega)).trans (if_pos (by omega)))]; rfl), fun j hj => hfr_14 j hj⟩) (Nat.le_of_ble_eq_true rfl) (Nat.le_of_ble_eq_true rfl) dX3_can_41
  · skip
    refine lv_iconst (v := nI 1) hx hb dX3_can_5 (by decide) ?_
    refine lv_goto (tgt := 26) hx hb dX3_can_6 (by decide) ?_
    refine g_put (C := RX3) (T := TX3) (N := 9) hx hb hw inX3 tyX3 tyX3_ok nmX3 hown hK hP hD hS (i := 69) (by omega) hO rfl 8 (by decide) (hw _ wf_X3_43) rfl (tyX3_ok 8 (by decide)) rfl rfl (Nat.le_of_ble_eq_true rfl) dX3_can_26 (fun G_16 H locs hg_G_16 ho_G_16 hP hS => ?_)
    have hc_17 : G_16 69 = .inr (5, [.ref (ad 70), .ref (ad 86), .ref (ad 90), .ref (ad 97), .ref (ad 98), .ref (ad 99), .ref (ad 106), .ref (ad 113), .int (nI 1)]) := hg_G_16
    have hfr_18 : ∀ j, (j ≠ 69) → G_16 j = G j := fun j hj => (ho_G_16 j (by omega)).trans (rfl)
    refine lv_aload_n hx hb dX3_can_29 rfl (lv_at hl 0 rfl) ?_
    refine g_get (C := RX3) (T := TX3) (N := 9) hx hb hw inX3 hown hK hP (i := 69) (by omega) hc_17 rfl 8 (by decide) (hw _ wf_X3_43) rfl dX3_can_30 ?_
    refine t_if_ne (tgt := 40) hx hb dX3_can_33 (by decide) (by omega) (fun c_19 => ?_) (fun c_19 => absurd c_19 (by omega))
    refine lv_iconst (v := nI 0) hx hb dX3_can_40 (by decide) ?_
    refine g_ret hQ hx hb hr hlocks rfl hP hS (⟨by unfold canR; rw [(show canT a1 a2 a3 = 1 from if_pos (by omega))]; rfl, hc_17.trans (by rw [(show canT a1 a2 a3 = 1 from if_pos (by omega))]; rfl), fun j hj => hfr_18 j hj⟩) (Nat.le_of_ble_eq_true rfl) (Nat.le_of_ble_eq_true rfl) dX3_can_41

set_option maxHeartbeats 4000000 in
set_option maxRecDepth 100000 in
theorem mX3_thrown (l : Launch) (D : va_G) (cT : Nat → ClassId) (n : Nat) (ad : Nat → Nat) (A : Nat → Prop) (hD : ∀ G, va_D A (gw n ad G)) (G : Nat → va_E) (hn : 114 ≤ n) (th : Nat) (hO : G 69 = mO ad th) : Met l yX3_thrown (wA yX3_thrown cX3_thrown 1 (some .int)) ({ frames := 0, cells := 0, slots := 0, locals := 0 } : Room) (PG D cT n ad A G [.ref (ad 69)]) (QG D n ad A (fun v G1 => v = some (.int (nI th)) ∧ G1 = G)) 0 0 A := by
  refine Met.ofG (cc := cX3_thrown) (maxL := 1) (ret := (some .int)) (by decide) (Nat.le_of_ble_eq_true rfl) ?_
  intro p e s m args below meth c Q hQ hx hb hr hml hlocks hown hw hP hK hE hA hS ls hl
  have hl : lv_has ls 1 [(0, .ref (ad 69))] := hl
  refine lv_aload_n hx hb dX3_thrown_0 rfl (lv_at hl 0 rfl) ?_
  refine g_get (C := RX3) (T := TX3) (N := 9) hx hb hw inX3 hown hK hP (i := 69) (by omega) hO rfl 8 (by decide) (hw _ wf_X3_43) rfl dX3_thrown_1 ?_
  refine g_ret hQ hx hb hr hlocks rfl hP hS (⟨rfl, rfl⟩) (Nat.le_of_ble_eq_true rfl) (Nat.le_of_ble_eq_true rfl) dX3_thrown_4

set_option maxHeartbeats 4000000 in
set_option maxRecDepth 100000 in
theorem mX3_isItem (l : Launch) (D : va_G) (cT : Nat → ClassId) (n : Nat) (ad : Nat → Nat) (A : Nat → Prop) (hD : ∀ G, va_D A (gw n ad G)) (G : Nat → va_E) (hn : 114 ≤ n) (σ : TY) (hI : YI σ) (th : Nat) (rf : Nat → Nat → Nat → Int64) (sf : Nat → Nat → Nat) (pf : Nat → Nat → Int64) (zf xf : Nat → Nat) (kf lf : Nat → Nat → Nat) (mf : Nat → Nat) (hC : MC cT ad G th rf sf pf zf xf kf lf mf) (hMA : MA σ rf sf pf zf xf kf lf mf) (x y : Int32) : Met l yX3_isItem (wA yX3_isItem cX3_isItem 3 (some .boolean)) ({ frames := 1, cells := 0, slots := 0, locals := 20 } : Room) (PG D cT n ad A G [.ref (ad 69), .int x, .int y]) (QG D n ad A (fun v G1 => (itmBad σ x y → v = some (.int (nI 0))) ∧ ((∃ b, b < 6 ∧ x = nI b ∧ ∃ i, i < (σ.2 b).2.1 ∧ y = nI i) → v = some (.int (nI 1))) ∧ G1 = G)) 0 0 A := by
  refine Met.ofG (cc := cX3_isItem) (maxL := 3) (ret := (some .boolean)) (by decide) (Nat.le_of_ble_eq_true rfl) ?_
  intro p e s m args below meth c Q hQ hx hb hr hml hlocks hown hw hP hK hE hA hS ls hl
  have hl : lv_has ls 3 [(0, .ref (ad 69)), (1, .int x), (2, .int y)] := hl
  rcases ix_cases x (N := 6) (by decide) with hbb | ⟨b, hb6, rfl⟩
  · skip
    refine lv_iload_n hx hb dX3_isItem_0 rfl (lv_at hl 1 rfl) ?_
    refine g_callS (As := [.int x]) (rest := []) ⟨hx, hb, hml, hown, hw⟩ (mX3_isBench l D cT n ad A hD G x) (va_cwS 1 hw (gWS wm_X3_67 wst_X3_isBench wini_X3 wc_X3_isBench) rfl rfl rfl (by decide +kernel) ⟨Nat.le_of_ble_eq_true rfl, Nat.le_of_ble_eq_true rfl⟩) hK hE hA hP hS rfl hl.1 (lv_room (Nat.le_of_ble_eq_true rfl)) dX3_isItem_1 ⟨Nat.le_of_ble_eq_true rfl, Nat.le_of_ble_eq_true rfl⟩ (fun v_2 G_1 H locs hp hP hS => ?_)
    obtain ⟨hv9, hg9⟩ := hp
    subst hv9
    rw [hg9] at hP
    refine t_eqi (nI 0) (congrArg nI (if_pos hbb)) ?_
    refine t_if_eq (tgt := 25) hx hb dX3_isItem_4 (by decide) (by omega) (fun c_3 => ?_) (fun c_3 => absurd c_3 (by omega))
    refine lv_iconst (v := nI 0) hx hb dX3_isItem_25 (by decide) ?_
    refine g_ret hQ hx hb hr hlocks rfl hP hS (⟨fun _ => rfl, fun ⟨b9, hb9, e9, _⟩ => absurd (e9 ▸ hbb) (ix_ok hb9 (by decide)), rfl⟩) (Nat.le_of_ble_eq_true rfl) (Nat.le_of_ble_eq_true rfl) dX3_isItem_26
  · skip
    obtain ⟨hz, hm, hxx, hpp, hkl⟩ := hMA.2 b (by omega)
    obtain ⟨hit, hbx⟩ := hI.2 b (by omega)
    have hcap := BI_cap hit
    have h48 := hit.1
    refine lv_iload_n hx hb dX3_isItem_0 rfl (lv_at hl 1 rfl) ?_
    refine g_callS (As := [.int (nI b)]) (rest := []) ⟨hx, hb, hml, hown, hw⟩ (mX3_isBench l D cT n ad A hD G (nI b)) (va_cwS 1 hw (gWS wm_X3_67 wst_X3_isBench wini_X3 wc_X3_isBench) rfl rfl rfl (by decide +kernel) ⟨Nat.le_of_ble_eq_true rfl, Nat.le_of_ble_eq_true rfl⟩) hK hE hA hP hS rfl hl.1 (lv_room (Nat.le_of_ble_eq_true rfl)) dX3_isItem_1 ⟨Nat.le_of_ble_eq_true rfl, Nat.le_of_ble_eq_true rfl⟩ (fun v_5 G_4 H locs hp hP hS => ?_)
    obtain ⟨hv9, hg9⟩ := hp
    subst hv9
    rw [hg9] at hP
    refine t_eqi (nI 1) (congrArg nI (if_neg (ix_ok (by omega) (by decide)))) ?_
    refine t_if_eq (tgt := 25) hx hb dX3_isItem_4 (by decide) (by omega) (fun c_6 => absurd c_6 (by omega)) (fun c_6 => ?_)
    refine lv_iload_n hx hb dX3_isItem_7 rfl (lv_at hl 2 rfl) ?_
    refine lv_if_lt (tgt := 25) hx hb dX3_isItem_8 (by decide) (fun c_7 => ?_) (fun c_7 => ?_)
    · skip
      refine lv_iconst (v := nI 0) hx hb dX3_isItem_25 (by decide) ?_
      refine g_ret hQ hx hb hr hlocks rfl hP hS (⟨fun _ => rfl, fun q9 => (itm_ok hI (Or.inr ⟨b, hb6, rfl, Or.inl c_7⟩) q9).elim, rfl⟩) (Nat.le_of_ble_eq_true rfl) (Nat.le_of_ble_eq_true rfl) dX3_isItem_26
    · skip
      refine lv_iload_n hx hb dX3_isItem_11 rfl (lv_at hl 2 rfl) ?_
      refine lv_aload_n hx hb dX3_isItem_12 rfl (lv_at hl 0 rfl) ?_
      refine g_get (C := RX3) (T := TX3) (N := 9) hx hb hw inX3 hown hK hP (i := 69) (by omega) hC.1 rfl 7 (by decide) (hw _ wf_X3_40) rfl dX3_isItem_13 ?_
      refine lv_iload_n hx hb dX3_isItem_16 rfl (lv_at hl 1 rfl) ?_
      refine g_iald hx hb hK hP (i := 113) (by omega) hC.2.2.2.2.2.2.2.2.2.2.2.2.2.2.1 (by omega) (by omega) dX3_isItem_17 ?_
      refine lv_icmp_ge (tgt := 25) hx hb dX3_isItem_18 (by decide) (fun c_8 => ?_) (fun c_8 => ?_)
      · skip
        refine lv_iconst (v := nI 0) hx hb dX3_isItem_25 (by decide) ?_
        refine g_ret hQ hx hb hr hlocks rfl hP hS (⟨fun _ => rfl, fun q9 => (itm_ok hI (Or.inr ⟨b, hb6, rfl, Or.inr (hm ▸ c_8)⟩) q9).elim, rfl⟩) (Nat.le_of_ble_eq_true rfl) (Nat.le_of_ble_eq_true rfl) dX3_isItem_26
      · skip
        refine lv_iconst (v := nI 1) hx hb dX3_isItem_21 (by decide) ?_
        refine lv_goto (tgt := 26) hx hb dX3_isItem_22 (by decide) ?_
        refine g_ret hQ hx hb hr hlocks rfl hP hS (⟨fun q9 => (itm_ok hI q9 ⟨b, hb6, rfl, lt_ix (by omega) c_7 (hm ▸ Int32.not_le.mp c_8)⟩).elim, fun _ => rfl, rfl⟩) (Nat.le_of_ble_eq_true rfl) (Nat.le_of_ble_eq_true rfl) dX3_isItem_26

set_option maxHeartbeats 4000000 in
set_option maxRecDepth 100000 in
theorem mX3_isOf_bad (l : Launch) (D : va_G) (cT : Nat → ClassId) (n : Nat) (ad : Nat → Nat) (A : Nat → Prop) (hD : ∀ G, va_D A (gw n ad G)) (G : Nat → va_E) (hn : 114 ≤ n) (σ : TY) (hI : YI σ) (th : Nat) (rf : Nat → Nat → Nat → Int64) (sf : Nat → Nat → Nat) (pf : Nat → Nat → Int64) (zf xf : Nat → Nat) (kf lf : Nat → Nat → Nat) (mf : Nat → Nat) (hC : MC cT ad G th rf sf pf zf xf kf lf mf) (hMA : MA σ rf sf pf zf xf kf lf mf) (x y : Int32) (hib : itmBad σ x y) (c1 c2 : Nat) (hc1 : c1 < 65536) (hc2 : c2 < 65536) : Met l yX3_isOf (wA yX3_isOf cX3_isOf 5 (some .boolean)) ({ frames := 2, cells := 0, slots := 0, locals := 42 } : Room) (PG D cT n ad A G [.ref (ad 69), .int x, .int y, .int (nI c1), .int (nI c2)]) (QG D n ad A (fun v G1 => v = some (.int (nI 0)) ∧ G1 69 = mO ad 1 ∧ ∀ j, j ≠ 69 → G1 j = G j)) 0 0 A := by
  refine Met.ofG (cc := cX3_isOf) (maxL := 5) (ret := (some .boolean)) (by decide) (Nat.le_of_ble_eq_true rfl) ?_
  intro p e s m args below meth c Q hQ hx hb hr hml hlocks hown hw hP hK hE hA hS ls hl
  have hl : lv_has ls 5 [(0, .ref (ad 69)), (1, .int x), (2, .int y), (3, .int (nI c1)), (4, .int (nI c2))] := hl
  refine lv_aload_n hx hb dX3_isOf_0 rfl (lv_at hl 0 rfl) ?_
  refine lv_aload_n hx hb dX3_isOf_1 rfl (lv_at hl 0 rfl) ?_
  refine lv_iload_n hx hb dX3_isOf_2 rfl (lv_at hl 1 rfl) ?_
  refine lv_iload_n hx hb dX3_isOf_3 rfl (lv_at hl 2 rfl) ?_
  refine g_callV (As := [.int x, .int y]) (rest := [.ref (ad 69)]) ⟨hx, hb, hml, hown, hw⟩ (mX3_isItem l D cT n ad A hD G hn σ hI th rf sf pf zf xf kf lf mf hC hMA x y) (cwV 2 hw (gWV wm_X3_74 wi_X3_isItem wse_X3_isItem wini_X3 wc_X3_isItem) rfl rfl rfl (by decide +kernel) ⟨Nat.le_of_ble_eq_true rfl, Nat.le_of_ble_eq_true rfl⟩) hK hE hA hP hS (k := 69) (by omega) hC.1 rfl rfl hl.1 (lv_room (Nat.le_of_ble_eq_true rfl)) dX3_isOf_4 ⟨Nat.le_of_ble_eq_true rfl, Nat.le_of_ble_eq_true rfl⟩ (fun v_2 G_1 H locs hp hP hS => ?_)
  obtain ⟨hv1, hv2, hg9⟩ := hp
  rw [hg9] at hP
  have hv := hv1 hib
  subst hv
  refine lv_iconst (v := nI 1) hx hb dX3_isOf_7 (by decide) ?_
  refine lv_iconst (v := nI 1) hx hb dX3_isOf_8 (by decide) ?_
  refine g_callV (As := [.int (nI 0), .int (nI 1), .int (nI 1)]) (rest := []) ⟨hx, hb, hml, hown, hw⟩ (mX3_can l D cT n ad A hD G hn th 0 1 1 (by decide) (by decide) (by decide) hC.1) (cwV 3 hw (gWV wm_X3_63 wi_X3_can wse_X3_can wini_X3 wc_X3_can) rfl rfl rfl (by decide +kernel) ⟨Nat.le_of_ble_eq_true rfl, Nat.le_of_ble_eq_true rfl⟩) hK hE hA hP hS (k := 69) (by omega) hC.1 rfl rfl hl.1 (lv_room (Nat.le_of_ble_eq_true rfl)) dX3_isOf_9 ⟨Nat.le_of_ble_eq_true rfl, Nat.le_of_ble_eq_true rfl⟩ (fun v_4 G_3 H locs hp hP hS => ?_)
  obtain ⟨rfl, hg_G_3, ho_G_3⟩ := hp
  have hc_5 : G_3 69 = .inr (5, [.ref (ad 70), .ref (ad 86), .ref (ad 90), .ref (ad 97), .ref (ad 98), .ref (ad 99), .ref (ad 106), .ref (ad 113), .int (nI 1)]) := hg_G_3
  have hc_6 : G_3 70 = aQ (cT 10) 3 (q3 ad) := (ho_G_3 _ (by omega)).trans hC.2.1
  have hc_7 : G_3 86 = aQ (cT 8) 3 (qS ad) := (ho_G_3 _ (by omega)).trans hC.2.2.2.2.1
  have hc_8 : G_3 90 = aQ (cT 7) 6 (qP ad) := (ho_G_3 _ (by omega)).trans hC.2.2.2.2.2.2.1
  have hc_9 : G_3 97 = aI cT 6 zf := (ho_G_3 _ (by omega)).trans hC.2.2.2.2.2.2.2.2.1
  have hc_10 : G_3 98 = aZ cT 6 xf := (ho_G_3 _ (by omega)).trans hC.2.2.2.2.2.2.2.2.2.1
  have hc_11 : G_3 99 = aQ (cT 9) 6 (qK ad) := (ho_G_3 _ (by omega)).trans hC.2.2.2.2.2.2.2.2.2.2.1
  have hc_12 : G_3 106 = aQ (cT 8) 6 (qL ad) := (ho_G_3 _ (by omega)).trans hC.2.2.2.2.2.2.2.2.2.2.2.2.1
  have hc_13 : G_3 113 = aI cT 6 mf := (ho_G_3 _ (by omega)).trans hC.2.2.2.2.2.2.2.2.2.2.2.2.2.2.1
  have hfr_14 : ∀ j, (j ≠ 69) → G_3 j = G j := fun j hj => (ho_G_3 j (by omega)).trans (rfl)
  refine t_eqi (nI 0) rfl ?_
  refine t_if_ne (tgt := 17) hx hb dX3_isOf_12 (by decide) (by omega) (fun c_15 => absurd c_15 (by omega)) (fun c_15 => ?_)
  refine lv_iconst (v := nI 0) hx hb dX3_isOf_15 (by decide) ?_
  refine g_ret hQ hx hb hr hlocks rfl hP hS (⟨rfl, hc_5, fun j hj => hfr_14 j hj⟩) (Nat.le_of_ble_eq_true rfl) (Nat.le_of_ble_eq_true rfl) dX3_isOf_16

set_option maxHeartbeats 4000000 in
set_option maxRecDepth 100000 in
theorem mX3_isOf_ok (l : Launch) (D : va_G) (cT : Nat → ClassId) (n : Nat) (ad : Nat → Nat) (A : Nat → Prop) (hD : ∀ G, va_D A (gw n ad G)) (G : Nat → va_E) (hn : 114 ≤ n) (σ : TY) (hI : YI σ) (th : Nat) (rf : Nat → Nat → Nat → Int64) (sf : Nat → Nat → Nat) (pf : Nat → Nat → Int64) (zf xf : Nat → Nat) (kf lf : Nat → Nat → Nat) (mf : Nat → Nat) (hC : MC cT ad G th rf sf pf zf xf kf lf mf) (hMA : MA σ rf sf pf zf xf kf lf mf) (b i : Nat) (hb6 : b < 6) (hi : i < (σ.2 b).2.1) (c1 c2 : Nat) (hc1 : c1 < 65536) (hc2 : c2 < 65536) : Met l yX3_isOf (wA yX3_isOf cX3_isOf 5 (some .boolean)) ({ frames := 2, cells := 0, slots := 0, locals := 42 } : Room) (PG D cT n ad A G [.ref (ad 69), .int (nI b), .int (nI i), .int (nI c1), .int (nI c2)]) (QG D n ad A (fun v G1 => v = some (.int (nI (if (σ.2 b).2.2.2.2.1 i = c1 ∨ (σ.2 b).2.2.2.2.1 i = c2 then 1 else 0))) ∧ G1 69 = mO ad (if (σ.2 b).2.2.2.2.1 i = c1 ∨ (σ.2 b).2.2.2.2.1 i = c2 then 0 else 2) ∧ ∀ j, j ≠ 69 → G1 j = G j)) 0 0 A := by
  refine Met.ofG (cc := cX3_isOf) (maxL := 5) (ret := (some .boolean)) (by decide) (Nat.le_of_ble_eq_true rfl) ?_
  intro p e s m args below meth c Q hQ hx hb hr hml hlocks hown hw hP hK hE hA hS ls hl
  have hl : lv_has ls 5 [(0, .ref (ad 69)), (1, .int (nI b)), (2, .int (nI i)), (3, .int (nI c1)), (4, .int (nI c2))] := hl
  obtain ⟨hz, hm, hxx, hpp, hkl⟩ := hMA.2 b (by omega)
  obtain ⟨hit, hbx⟩ := hI.2 b (by omega)
  have hcap := BI_cap hit
  have h48 := hit.1
  obtain ⟨hki, hli⟩ := hkl i hi
  have hik := (hit.2.2.1 i hi).1
  refine lv_aload_n hx hb dX3_isOf_0 rfl (lv_at hl 0 rfl) ?_
  refine lv_aload_n hx hb dX3_isOf_1 rfl (lv_at hl 0 rfl) ?_
  refine lv_iload_n hx hb dX3_isOf_2 rfl (lv_at hl 1 rfl) ?_
  refine lv_iload_n hx hb dX3_isOf_3 rfl (lv_at hl 2 rfl) ?_
  refine g_callV (As := [.int (nI b), .int (nI i)]) (rest := [.ref (ad 69)]) ⟨hx, hb, hml, hown, hw⟩ (mX3_isItem l D cT n ad A hD G hn σ hI th rf sf pf zf xf kf lf mf hC hMA (nI b) (nI i)) (cwV 2 hw (gWV wm_X3_74 wi_X3_isItem wse_X3_isItem wini_X3 wc_X3_isItem) rfl rfl rfl (by decide +kernel) ⟨Nat.le_of_ble_eq_true rfl, Nat.le_of_ble_eq_true rfl⟩) hK hE hA hP hS (k := 69) (by omega) hC.1 rfl rfl hl.1 (lv_room (Nat.le_of_ble_eq_true rfl)) dX3_isOf_4 ⟨Nat.le_of_ble_eq_true rfl, Nat.le_of_ble_eq_true rfl⟩ (fun v_2 G_1 H locs hp hP hS => ?_)
  obtain ⟨hv1, hv2, hg9⟩ := hp
  rw [hg9] at hP
  have hv := hv2 ⟨b, hb6, rfl, i, hi, rfl⟩
  subst hv
  refine lv_iconst (v := nI 1) hx hb dX3_isOf_7 (by decide) ?_
  refine lv_iconst (v := nI 1) hx hb dX3_isOf_8 (by decide) ?_
  refine g_callV (As := [.int (nI 1), .int (nI 1), .int (nI 1)]) (rest := []) ⟨hx, hb, hml, hown, hw⟩ (mX3_can l D cT n ad A hD G hn th 1 1 1 (by decide) (by decide) (by decide) hC.1) (cwV 3 hw (gWV wm_X3_63 wi_X3_can wse_X3_can wini_X3 wc_X3_can) rfl rfl rfl (by decide +kernel) ⟨Nat.le_of_ble_eq_true rfl, Nat.le_of_ble_eq_true rfl⟩) hK hE hA hP hS (k := 69) (by omega) hC.1 rfl rfl hl.1 (lv_room (Nat.le_of_ble_eq_true rfl)) dX3_isOf_9 ⟨Nat.le_of_ble_eq_true rfl, Nat.le_of_ble_eq_true rfl⟩ (fun v_4 G_3 H locs hp hP hS => ?_)
  obtain ⟨rfl, hg_G_3, ho_G_3⟩ := hp
  have hc_5 : G_3 69 = .inr (5, [.ref (ad 70), .ref (ad 86), .ref (ad 90), .ref (ad 97), .ref (ad 98), .ref (ad 99), .ref (ad 106), .ref (ad 113), .int (nI 0)]) := hg_G_3
  have hc_6 : G_3 70 = aQ (cT 10) 3 (q3 ad) := (ho_G_3 _ (by omega)).trans hC.2.1
  have hc_7 : G_3 86 = aQ (cT 8) 3 (qS ad) := (ho_G_3 _ (by omega)).trans hC.2.2.2.2.1
  have hc_8 : G_3 90 = aQ (cT 7) 6 (qP ad) := (ho_G_3 _ (by omega)).trans hC.2.2.2.2.2.2.1
  have hc_9 : G_3 97 = aI cT 6 zf := (ho_G_3 _ (by omega)).trans hC.2.2.2.2.2.2.2.2.1
  have hc_10 : G_3 98 = aZ cT 6 xf := (ho_G_3 _ (by omega)).trans hC.2.2.2.2.2.2.2.2.2.1
  have hc_11 : G_3 99 = aQ (cT 9) 6 (qK ad) := (ho_G_3 _ (by omega)).trans hC.2.2.2.2.2.2.2.2.2.2.1
  have hc_12 : G_3 106 = aQ (cT 8) 6 (qL ad) := (ho_G_3 _ (by omega)).trans hC.2.2.2.2.2.2.2.2.2.2.2.2.1
  have hc_13 : G_3 113 = aI cT 6 mf := (ho_G_3 _ (by omega)).trans hC.2.2.2.2.2.2.2.2.2.2.2.2.2.2.1
  have hc_14 : G_3 (91 + b) = aJ cT 48 (pf b) := (ho_G_3 _ (by omega)).trans (hC.2.2.2.2.2.2.2.1 b (by omega))
  have hc_15 : G_3 (100 + b) = aC cT 128 (kf b) := (ho_G_3 _ (by omega)).trans (hC.2.2.2.2.2.2.2.2.2.2.2.1 b (by omega))
  have hc_16 : G_3 (107 + b) = aI cT 128 (lf b) := (ho_G_3 _ (by omega)).trans (hC.2.2.2.2.2.2.2.2.2.2.2.2.2.1 b (by omega))
  have hfr_17 : ∀ j, (j ≠ 69) → G_3 j = G j := fun j hj => (ho_G_3 j (by omega)).trans (rfl)
  refine t_eqi (nI 1) rfl ?_
  refine t_if_ne (tgt := 17) hx hb dX3_isOf_12 (by decide) (by omega) (fun c_18 => ?_) (fun c_18 => absurd c_18 (by omega))
  refine lv_aload_n hx hb dX3_isOf_17 rfl (lv_at hl 0 rfl) ?_
  refine lv_iconst (v := nI 1) hx hb dX3_isOf_18 (by decide) ?_
  refine lv_aload_n hx hb dX3_isOf_19 rfl (lv_at hl 0 rfl) ?_
  refine g_get (C := RX3) (T := TX3) (N := 9) hx hb hw inX3 hown hK hP (i := 69) (by omega) hc_5 rfl 5 (by decide) (hw _ wf_X3_34) rfl dX3_isOf_20 ?_
  refine lv_iload_n hx hb dX3_isOf_23 rfl (lv_at hl 1 rfl) ?_
  refine g_aald hx hb hK hP 9 (i := 99) (by omega) hc_11 rfl rfl (k := (ad (100 + b))) (by omega) (by omega) (qK_at (by omega)) dX3_isOf_24 ?_
  refine lv_iload_n hx hb dX3_isOf_25 rfl (lv_at hl 2 rfl) ?_
  refine g_cald hx hb hK hP (i := (100 + b)) (by omega) hc_15 (by omega) (by omega) dX3_isOf_26 ?_
  refine lv_iload_n hx hb dX3_isOf_27 rfl (lv_at hl 3 rfl) ?_
  refine t_icmp_eq (tgt := 44) hx hb dX3_isOf_28 (by decide) (by omega) (by omega) (fun c_19 => ?_) (fun c_19 => ?_)
  · skip
    refine lv_iconst (v := nI 1) hx hb dX3_isOf_44 (by decide) ?_
    refine lv_goto (tgt := 49) hx hb dX3_isOf_45 (by decide) ?_
    refine lv_iconst (v := nI 1) hx hb dX3_isOf_49 (by decide) ?_
    refine g_callV (As := [.int (nI 1), .int (nI 1), .int (nI 1)]) (rest := []) ⟨hx, hb, hml, hown, hw⟩ (mX3_can l D cT n ad A hD G_3 hn 0 1 1 1 (by decide) (by decide) (by decide) hc_5) (cwV 3 hw (gWV wm_X3_63 wi_X3_can wse_X3_can wini_X3 wc_X3_can) rfl rfl rfl (by decide +kernel) ⟨Nat.le_of_ble_eq_true rfl, Nat.le_of_ble_eq_true rfl⟩) hK hE hA hP hS (k := 69) (by omega) hc_5 rfl rfl hl.1 (lv_room (Nat.le_of_ble_eq_true rfl)) dX3_isOf_50 ⟨Nat.le_of_ble_eq_true rfl, Nat.le_of_ble_eq_true rfl⟩ (fun v_21 G_20 H locs hp hP hS => ?_)
    obtain ⟨rfl, hg_G_20, ho_G_20⟩ := hp
    have hc_22 : G_20 69 = .inr (5, [.ref (ad 70), .ref (ad 86), .ref (ad 90), .ref (ad 97), .ref (ad 98), .ref (ad 99), .ref (ad 106), .ref (ad 113), .int (nI 0)]) := hg_G_20
    have hc_23 : G_20 70 = aQ (cT 10) 3 (q3 ad) := (ho_G_20 _ (by omega)).trans hc_6
    have hc_24 : G_20 86 = aQ (cT 8) 3 (qS ad) := (ho_G_20 _ (by omega)).trans hc_7
    have hc_25 : G_20 90 = aQ (cT 7) 6 (qP ad) := (ho_G_20 _ (by omega)).trans hc_8
    have hc_26 : G_20 97 = aI cT 6 zf := (ho_G_20 _ (by omega)).trans hc_9
    have hc_27 : G_20 98 = aZ cT 6 xf := (ho_G_20 _ (by omega)).trans hc_10
    have hc_28 : G_20 99 = aQ (cT 9) 6 (qK ad) := (ho_G_20 _ (by omega)).trans hc_11
    have hc_29 : G_20 106 = aQ (cT 8) 6 (qL ad) := (ho_G_20 _ (by omega)).trans hc_12
    have hc_30 : G_20 113 = aI cT 6 mf := (ho_G_20 _ (by omega)).trans hc_13
    have hc_31 : G_20 (91 + b) = aJ cT 48 (pf b) := (ho_G_20 _ (by omega)).trans hc_14
    have hc_32 : G_20 (100 + b) = aC cT 128 (kf b) := (ho_G_20 _ (by omega)).trans hc_15
    have hc_33 : G_20 (107 + b) = aI cT 128 (lf b) := (ho_G_20 _ (by omega)).trans hc_16
    have hfr_34 : ∀ j, (j ≠ 69) → G_20 j = G j := fun j hj => (ho_G_20 j (by omega)).trans (hfr_17 j hj)
    refine t_eqi (nI 1) rfl ?_
    refine g_ret hQ hx hb hr hlocks rfl hP hS (⟨by rw [if_pos (by omega)], hc_22.trans (by rw [if_pos (by omega)]; rfl), fun j hj => hfr_34 j hj⟩) (Nat.le_of_ble_eq_true rfl) (Nat.le_of_ble_eq_true rfl) dX3_isOf_53
  · skip
    refine lv_aload_n hx hb dX3_isOf_31 rfl (lv_at hl 0 rfl) ?_
    refine g_get (C := RX3) (T := TX3) (N := 9) hx hb hw inX3 hown hK hP (i := 69) (by omega) hc_5 rfl 5 (by decide) (hw _ wf_X3_34) rfl dX3_isOf_32 ?_
    refine lv_iload_n hx hb dX3_isOf_35 rfl (lv_at hl 1 rfl) ?_
    refine g_aald hx hb hK hP 9 (i := 99) (by omega) hc_11 rfl rfl (k := (ad (100 + b))) (by omega) (by omega) (qK_at (by omega)) dX3_isOf_36 ?_
    refine lv_iload_n hx hb dX3_isOf_37 rfl (lv_at hl 2 rfl) ?_
    refine g_cald hx hb hK hP (i := (100 + b)) (by omega) hc_15 (by omega) (by omega) dX3_isOf_38 ?_
    refine lv_iload hx hb dX3_isOf_39 (lv_at hl 4 rfl) ?_
    refine t_icmp_ne (tgt := 48) hx hb dX3_isOf_41 (by decide) (by omega) (by omega) (fun c_35 => ?_) (fun c_35 => ?_)
    · skip
      refine lv_iconst (v := nI 0) hx hb dX3_isOf_48 (by decide) ?_
      refine lv_iconst (v := nI 1) hx hb dX3_isOf_49 (by decide) ?_
      refine g_callV (As := [.int (nI 1), .int (nI 0), .int (nI 1)]) (rest := []) ⟨hx, hb, hml, hown, hw⟩ (mX3_can l D cT n ad A hD G_3 hn 0 1 0 1 (by decide) (by decide) (by decide) hc_5) (cwV 3 hw (gWV wm_X3_63 wi_X3_can wse_X3_can wini_X3 wc_X3_can) rfl rfl rfl (by decide +kernel) ⟨Nat.le_of_ble_eq_true rfl, Nat.le_of_ble_eq_true rfl⟩) hK hE hA hP hS (k := 69) (by omega) hc_5 rfl rfl hl.1 (lv_room (Nat.le_of_ble_eq_true rfl)) dX3_isOf_50 ⟨Nat.le_of_ble_eq_true rfl, Nat.le_of_ble_eq_true rfl⟩ (fun v_37 G_36 H locs hp hP hS => ?_)
      obtain ⟨rfl, hg_G_36, ho_G_36⟩ := hp
      have hc_38 : G_36 69 = .inr (5, [.ref (ad 70), .ref (ad 86), .ref (ad 90), .ref (ad 97), .ref (ad 98), .ref (ad 99), .ref (ad 106), .ref (ad 113), .int (nI 2)]) := hg_G_36
      have hc_39 : G_36 70 = aQ (cT 10) 3 (q3 ad) := (ho_G_36 _ (by omega)).trans hc_6
      have hc_40 : G_36 86 = aQ (cT 8) 3 (qS ad) := (ho_G_36 _ (by omega)).trans hc_7
      have hc_41 : G_36 90 = aQ (cT 7) 6 (qP ad) := (ho_G_36 _ (by omega)).trans hc_8
      have hc_42 : G_36 97 = aI cT 6 zf := (ho_G_36 _ (by omega)).trans hc_9
      have hc_43 : G_36 98 = aZ cT 6 xf := (ho_G_36 _ (by omega)).trans hc_10
      have hc_44 : G_36 99 = aQ (cT 9) 6 (qK ad) := (ho_G_36 _ (by omega)).trans hc_11
      have hc_45 : G_36 106 = aQ (cT 8) 6 (qL ad) := (ho_G_36 _ (by omega)).trans hc_12
      have hc_46 : G_36 113 = aI cT 6 mf := (ho_G_36 _ (by omega)).trans hc_13
      have hc_47 : G_36 (91 + b) = aJ cT 48 (pf b) := (ho_G_36 _ (by omega)).trans hc_14
      have hc_48 : G_36 (100 + b) = aC cT 128 (kf b) := (ho_G_36 _ (by omega)).trans hc_15
      have hc_49 : G_36 (107 + b) = aI cT 128 (lf b) := (ho_G_36 _ (by omega)).trans hc_16
      have hfr_50 : ∀ j, (j ≠ 69) → G_36 j = G j := fun j hj => (ho_G_36 j (by omega)).trans (hfr_17 j hj)
      refine t_eqi (nI 0) rfl ?_
      refine g_ret hQ hx hb hr hlocks rfl hP hS (⟨by rw [if_neg (by omega)], hc_38.trans (by rw [if_neg (by omega)]; rfl), fun j hj => hfr_50 j hj⟩) (Nat.le_of_ble_eq_true rfl) (Nat.le_of_ble_eq_true rfl) dX3_isOf_53
    · skip
      refine lv_iconst (v := nI 1) hx hb dX3_isOf_44 (by decide) ?_
      refine lv_goto (tgt := 49) hx hb dX3_isOf_45 (by decide) ?_
      refine lv_iconst (v := nI 1) hx hb dX3_isOf_49 (by decide) ?_
      refine g_callV (As := [.int (nI 1), .int (nI 1), .int (nI 1)]) (rest := []) ⟨hx, hb, hml, hown, hw⟩ (mX3_can l D cT n ad A hD G_3 hn 0 1 1 1 (by decide) (by decide) (by decide) hc_5) (cwV 3 hw (gWV wm_X3_63 wi_X3_can wse_X3_can wini_X3 wc_X3_can) rfl rfl rfl (by decide +kernel) ⟨Nat.le_of_ble_eq_true rfl, Nat.le_of_ble_eq_true rfl⟩) hK hE hA hP hS (k := 69) (by omega) hc_5 rfl rfl hl.1 (lv_room (Nat.le_of_ble_eq_true rfl)) dX3_isOf_50 ⟨Nat.le_of_ble_eq_true rfl, Nat.le_of_ble_eq_true rfl⟩ (fun v_52 G_51 H locs hp hP hS => ?_)
      obtain ⟨rfl, hg_G_51, ho_G_51⟩ := hp
      have hc_53 : G_51 69 = .inr (5, [.ref (ad 70), .ref (ad 86), .ref (ad 90), .ref (ad 97), .ref (ad 98), .ref (ad 99), .ref (ad 106), .ref (ad 113), .int (nI 0)]) := hg_G_51
      have hc_54 : G_51 70 = aQ (cT 10) 3 (q3 ad) := (ho_G_51 _ (by omega)).trans hc_6
      have hc_55 : G_51 86 = aQ (cT 8) 3 (qS ad) := (ho_G_51 _ (by omega)).trans hc_7
      have hc_56 : G_51 90 = aQ (cT 7) 6 (qP ad) := (ho_G_51 _ (by omega)).trans hc_8
      have hc_57 : G_51 97 = aI cT 6 zf := (ho_G_51 _ (by omega)).trans hc_9
      have hc_58 : G_51 98 = aZ cT 6 xf := (ho_G_51 _ (by omega)).trans hc_10
      have hc_59 : G_51 99 = aQ (cT 9) 6 (qK ad) := (ho_G_51 _ (by omega)).trans hc_11
      have hc_60 : G_51 106 = aQ (cT 8) 6 (qL ad) := (ho_G_51 _ (by omega)).trans hc_12
      have hc_61 : G_51 113 = aI cT 6 mf := (ho_G_51 _ (by omega)).trans hc_13
      have hc_62 : G_51 (91 + b) = aJ cT 48 (pf b) := (ho_G_51 _ (by omega)).trans hc_14
      have hc_63 : G_51 (100 + b) = aC cT 128 (kf b) := (ho_G_51 _ (by omega)).trans hc_15
      have hc_64 : G_51 (107 + b) = aI cT 128 (lf b) := (ho_G_51 _ (by omega)).trans hc_16
      have hfr_65 : ∀ j, (j ≠ 69) → G_51 j = G j := fun j hj => (ho_G_51 j (by omega)).trans (hfr_17 j hj)
      refine t_eqi (nI 1) rfl ?_
      refine g_ret hQ hx hb hr hlocks rfl hP hS (⟨by rw [if_pos (by omega)], hc_53.trans (by rw [if_pos (by omega)]; rfl), fun j hj => hfr_65 j hj⟩) (Nat.le_of_ble_eq_true rfl) (Nat.le_of_ble_eq_true rfl) dX3_isOf_53

set_option maxHeartbeats 4000000 in
set_option maxRecDepth 100000 in
theorem mX3_before (l : Launch) (D : va_G) (cT : Nat → ClassId) (n : Nat) (ad : Nat → Nat) (A : Nat → Prop) (hD : ∀ G, va_D A (gw n ad G)) (G : Nat → va_E) (hn : 114 ≤ n) (th : Nat) (hO : G 69 = mO ad th) (hL0 : G 106 = aQ (cT 8) 6 (qL ad)) (b i : Nat) (l0 L0 : Nat → Nat) (hb6 : b < 6) (hl0 : G (107 + b) = aI cT 128 l0) (hag : ∀ j, j < i → l0 j = L0 j) (hi : i ≤ 96) (hps : ps L0 i ≤ 48) : Met l yX3_before (wA yX3_before cX3_before 5 (some .int)) ({ frames := 0, cells := 0, slots := 0, locals := 0 } : Room) (PG D cT n ad A G [.ref (ad 69), .int (nI b), .int (nI i)]) (QG D n ad A (fun v G1 => v = some (.int (nI (ps L0 i))) ∧ G1 = G)) 0 0 A := by
  refine Met.ofG (cc := cX3_before) (maxL := 5) (ret := (some .int)) (by decide) (Nat.le_of_ble_eq_true rfl) ?_
  intro p e s m args below meth c Q hQ hx hb hr hml hlocks hown hw hP hK hE hA hS ls hl
  have hl : lv_has ls 5 [(0, .ref (ad 69)), (1, .int (nI b)), (2, .int (nI i))] := hl
  refine lv_iconst (v := nI 0) hx hb dX3_before_0 (by decide) ?_
  refine lv_istore_n (lv' := [(3, .int (nI 0)), (0, .ref (ad 69)), (1, .int (nI b)), (2, .int (nI i))]) hx hb dX3_before_1 rfl hl (by decide) rfl (fun ls hl => ?_)
  refine lv_iconst (v := nI 0) hx hb dX3_before_2 (by decide) ?_
  refine lv_istore (lv' := [(4, .int (nI 0)), (3, .int (nI 0)), (0, .ref (ad 69)), (1, .int (nI b)), (2, .int (nI i))]) hx hb dX3_before_3 hl (by decide) rfl (fun ls hl => ?_)
  have key_1 : ∀ (fu : Nat) (u : Nat), (u ≤ i) → (i - u) < fu → ∀ (H : Heap) (locs : List Loc), va_P D vwCl (gw n ad G) H → va_S A s.heap H locs → ∀ ls : Array Slot, lv_has ls 5 [(4, .int (nI u)), (3, .int (nI (ps L0 u))), (2, .int (nI i)), (1, .int (nI b)), (0, .ref (ad 69))] → W p l e ({ frames := 0, cells := 0, slots := 0, locals := 0 } : Room) s m args below meth c H locs 0 0 Q (F0 m 5 ls []) := by
    intro fu_2
    induction fu_2 with
    | zero => intros; exfalso; omega
    | succ fu_2 ih_3 =>
      intro u hu hfu_4 H locs hP hS ls hl
      have hpu := ps_mono L0 hu
      refine lv_iload hx hb dX3_before_5 (lv_at hl 0 rfl) ?_
      refine lv_iload_n hx hb dX3_before_7 rfl (lv_at hl 2 rfl) ?_
      refine t_icmp_ge (tgt := 29) hx hb dX3_before_8 (by decide) (by omega) (by omega) (fun c_5 => ?_) (fun c_5 => ?_)
      · skip
        refine lv_iload_n hx hb dX3_before_29 rfl (lv_at hl 1 rfl) ?_
        refine g_ret hQ hx hb hr hlocks rfl hP hS (⟨by rw [show u = i by omega], rfl⟩) (Nat.le_of_ble_eq_true rfl) (Nat.le_of_ble_eq_true rfl) dX3_before_30
      · skip
        refine lv_iload_n hx hb dX3_before_11 rfl (lv_at hl 1 rfl) ?_
        refine lv_aload_n hx hb dX3_before_12 rfl (lv_at hl 4 rfl) ?_
        refine g_get (C := RX3) (T := TX3) (N := 9) hx hb hw inX3 hown hK hP (i := 69) (by omega) hO rfl 6 (by decide) (hw _ wf_X3_37) rfl dX3_before_13 ?_
        refine lv_iload_n hx hb dX3_before_16 rfl (lv_at hl 3 rfl) ?_
        refine g_aald hx hb hK hP 8 (i := 106) (by omega) hL0 rfl rfl (k := (ad (107 + b))) (by omega) (by omega) (qL_at (by omega)) dX3_before_17 ?_
        refine lv_iload hx hb dX3_before_18 (lv_at hl 0 rfl) ?_
        refine g_iald hx hb hK hP (i := (107 + b)) (by omega) hl0 (by omega) (by omega) dX3_before_20 ?_
        have hlu := hag u (by omega)
        have hpv := ps_mono L0 (show u + 1 ≤ i by omega)
        rw [show ps L0 (u + 1) = ps L0 u + L0 u from rfl] at hpv
        refine t_eqi (nI (L0 u)) (congrArg nI hlu) ?_
        refine lv_iadd hx hb dX3_before_21 ?_
        refine t_eqi (nI ((ps L0 u) + (L0 u))) (nI_add (ps L0 u) (L0 u)) ?_
        refine lv_istore_n (lv' := [(3, .int (nI ((ps L0 u) + (L0 u)))), (4, .int (nI u)), (2, .int (nI i)), (1, .int (nI b)), (0, .ref (ad 69))]) hx hb dX3_before_22 rfl hl (by decide) rfl (fun ls hl => ?_)
        refine lv_iinc (v := nI (u + 1)) (lv' := [(4, .int (nI (u + 1))), (3, .int (nI ((ps L0 u) + (L0 u)))), (2, .int (nI i)), (1, .int (nI b)), (0, .ref (ad 69))]) hx hb dX3_before_23 hl (k := 1) rfl (by exact nI_add u 1) (by decide) rfl (fun ls hl => ?_)
        refine lv_goto (tgt := 5) hx hb dX3_before_26 (by decide) ?_
        exact ih_3 (u + 1) (by omega) (by omega) _ _ hP hS ls (lv_sub hl [0, 1, 2, 3, 4] rfl)
  exact key_1 _ 0 (by omega) (Nat.lt_succ_self _) _ _ hP hS ls (lv_sub hl [0, 1, 4, 3, 2] rfl)

set_option maxHeartbeats 4000000 in
set_option maxRecDepth 100000 in
theorem mX3_count (l : Launch) (D : va_G) (cT : Nat → ClassId) (n : Nat) (ad : Nat → Nat) (A : Nat → Prop) (hD : ∀ G, va_D A (gw n ad G)) (G : Nat → va_E) (hn : 114 ≤ n) (th : Nat) (hO : G 69 = mO ad th) (hK0 : G 99 = aQ (cT 9) 6 (qK ad)) (b cn : Nat) (k0 K0 m0 : Nat → Nat) (hb6 : b < 6) (hk0 : G (100 + b) = aC cT 128 k0) (hm0 : G 113 = aI cT 6 m0) (hmb : m0 b = cn) (hag : ∀ j, j < cn → k0 j = K0 j) (hK9 : ∀ j, j < cn → K0 j < 65536) (hcn : cn ≤ 96) : Met l yX3_count (wA yX3_count cX3_count 5 (some .int)) ({ frames := 0, cells := 0, slots := 0, locals := 0 } : Room) (PG D cT n ad A G [.ref (ad 69), .int (nI b), .int (nI 110)]) (QG D n ad A (fun v G1 => v = some (.int (nI (cnt K0 cn))) ∧ G1 = G)) 0 0 A := by
  refine Met.ofG (cc := cX3_count) (maxL := 5) (ret := (some .int)) (by decide) (Nat.le_of_ble_eq_true rfl) ?_
  intro p e s m args below meth c Q hQ hx hb hr hml hlocks hown hw hP hK hE hA hS ls hl
  have hl : lv_has ls 5 [(0, .ref (ad 69)), (1, .int (nI b)), (2, .int (nI 110))] := hl
  refine lv_iconst (v := nI 0) hx hb dX3_count_0 (by decide) ?_
  refine lv_istore_n (lv' := [(3, .int (nI 0)), (0, .ref (ad 69)), (1, .int (nI b)), (2, .int (nI 110))]) hx hb dX3_count_1 rfl hl (by decide) rfl (fun ls hl => ?_)
  refine lv_iconst (v := nI 0) hx hb dX3_count_2 (by decide) ?_
  refine lv_istore (lv' := [(4, .int (nI 0)), (3, .int (nI 0)), (0, .ref (ad 69)), (1, .int (nI b)), (2, .int (nI 110))]) hx hb dX3_count_3 hl (by decide) rfl (fun ls hl => ?_)
  have key_1 : ∀ (fu : Nat) (u : Nat), (u ≤ cn) → (cn - u) < fu → ∀ (H : Heap) (locs : List Loc), va_P D vwCl (gw n ad G) H → va_S A s.heap H locs → ∀ ls : Array Slot, lv_has ls 5 [(4, .int (nI u)), (3, .int (nI (cnt K0 u))), (2, .int (nI 110)), (1, .int (nI b)), (0, .ref (ad 69))] → W p l e ({ frames := 0, cells := 0, slots := 0, locals := 0 } : Room) s m args below meth c H locs 0 0 Q (F0 m 5 ls []) := by
    intro fu_2
    induction fu_2 with
    | zero => intros; exfalso; omega
    | succ fu_2 ih_3 =>
      intro u hu hfu_4 H locs hP hS ls hl
      have hcu := cnt_le K0 u
      refine lv_iload hx hb dX3_count_5 (lv_at hl 0 rfl) ?_
      refine lv_aload_n hx hb dX3_count_7 rfl (lv_at hl 4 rfl) ?_
      refine g_get (C := RX3) (T := TX3) (N := 9) hx hb hw inX3 hown hK hP (i := 69) (by omega) hO rfl 7 (by decide) (hw _ wf_X3_40) rfl dX3_count_8 ?_
      refine lv_iload_n hx hb dX3_count_11 rfl (lv_at hl 3 rfl) ?_
      refine g_iald hx hb hK hP (i := 113) (by omega) hm0 (by omega) (by omega) dX3_count_12 ?_
      refine t_icmp_ge (tgt := 43) hx hb dX3_count_13 (by decide) (by omega) (by omega) (fun c_5 => ?_) (fun c_5 => ?_)
      · skip
        refine lv_iload_n hx hb dX3_count_43 rfl (lv_at hl 1 rfl) ?_
        refine g_ret hQ hx hb hr hlocks rfl hP hS (⟨by rw [show u = cn by omega], rfl⟩) (Nat.le_of_ble_eq_true rfl) (Nat.le_of_ble_eq_true rfl) dX3_count_44
      · skip
        refine lv_iload_n hx hb dX3_count_16 rfl (lv_at hl 1 rfl) ?_
        refine lv_aload_n hx hb dX3_count_17 rfl (lv_at hl 4 rfl) ?_
        refine g_get (C := RX3) (T := TX3) (N := 9) hx hb hw inX3 hown hK hP (i := 69) (by omega) hO rfl 5 (by decide) (hw _ wf_X3_34) rfl dX3_count_18 ?_
        refine lv_iload_n hx hb dX3_count_21 rfl (lv_at hl 3 rfl) ?_
        refine g_aald hx hb hK hP 9 (i := 99) (by omega) hK0 rfl rfl (k := (ad (100 + b))) (by omega) (by omega) (qK_at (by omega)) dX3_count_22 ?_
        refine lv_iload hx hb dX3_count_23 (lv_at hl 0 rfl) ?_
        refine g_cald hx hb hK hP (i := (100 + b)) (by omega) hk0 (by omega) (by omega) dX3_count_25 ?_
        have hku := hag u (by omega)
        have hk9 := hK9 u (by omega)
        refine t_eqi (nI (K0 u)) (congrArg nI hku) ?_
        refine lv_iload_n hx hb dX3_count_26 rfl (lv_at hl 2 rfl) ?_
        refine t_icmp_ne (tgt := 34) hx hb dX3_count_27 (by decide) (by omega) (by omega) (fun c_6 => ?_) (fun c_6 => ?_)
        · skip
          refine lv_iconst (v := nI 0) hx hb dX3_count_34 (by decide) ?_
          refine lv_iadd hx hb dX3_count_35 ?_
          refine t_eqi (nI (cnt K0 (u + 1))) ((nI_add _ _).trans (congrArg nI (cnt_0 (by omega)).symm)) ?_
          refine lv_istore_n (lv' := [(3, .int (nI (cnt K0 (u + 1)))), (4, .int (nI u)), (2, .int (nI 110)), (1, .int (nI b)), (0, .ref (ad 69))]) hx hb dX3_count_36 rfl hl (by decide) rfl (fun ls hl => ?_)
          refine lv_iinc (v := nI (u + 1)) (lv' := [(4, .int (nI (u + 1))), (3, .int (nI (cnt K0 (u + 1)))), (2, .int (nI 110)), (1, .int (nI b)), (0, .ref (ad 69))]) hx hb dX3_count_37 hl (k := 1) rfl (by exact nI_add u 1) (by decide) rfl (fun ls hl => ?_)
          refine lv_goto (tgt := 5) hx hb dX3_count_40 (by decide) ?_
          exact ih_3 (u + 1) (by omega) (by omega) _ _ hP hS ls (lv_sub hl [0, 1, 2, 3, 4] rfl)
        · skip
          refine lv_iconst (v := nI 1) hx hb dX3_count_30 (by decide) ?_
          refine lv_goto (tgt := 35) hx hb dX3_count_31 (by decide) ?_
          refine lv_iadd hx hb dX3_count_35 ?_
          refine t_eqi (nI (cnt K0 (u + 1))) ((nI_add _ _).trans (congrArg nI (cnt_1 (by omega)).symm)) ?_
          refine lv_istore_n (lv' := [(3, .int (nI (cnt K0 (u + 1)))), (4, .int (nI u)), (2, .int (nI 110)), (1, .int (nI b)), (0, .ref (ad 69))]) hx hb dX3_count_36 rfl hl (by decide) rfl (fun ls hl => ?_)
          refine lv_iinc (v := nI (u + 1)) (lv' := [(4, .int (nI (u + 1))), (3, .int (nI (cnt K0 (u + 1)))), (2, .int (nI 110)), (1, .int (nI b)), (0, .ref (ad 69))]) hx hb dX3_count_37 hl (k := 1) rfl (by exact nI_add u 1) (by decide) rfl (fun ls hl => ?_)
          refine lv_goto (tgt := 5) hx hb dX3_count_40 (by decide) ?_
          exact ih_3 (u + 1) (by omega) (by omega) _ _ hP hS ls (lv_sub hl [0, 1, 2, 3, 4] rfl)
  exact key_1 _ 0 (by omega) (Nat.lt_succ_self _) _ _ hP hS ls (lv_sub hl [0, 1, 4, 3, 2] rfl)

set_option maxHeartbeats 4000000 in
set_option maxRecDepth 100000 in
theorem mX3_enter (l : Launch) (D : va_G) (cT : Nat → ClassId) (n : Nat) (ad : Nat → Nat) (A : Nat → Prop) (hD : ∀ G, va_D A (gw n ad G)) (G : Nat → va_E) (hn : 114 ≤ n) (th b i kd len : Nat) (k0 l0 m0 : Nat → Nat) (hb6 : b < 6) (hM : MB cT ad G th b k0 l0 m0) (hm0 : m0 b < 127) (hi : i ≤ m0 b) (hkd : kd < 65536) (hlen : len < 2 ^ 31) : Met l yX3_enter (wA yX3_enter cX3_enter 6 none) ({ frames := 0, cells := 0, slots := 0, locals := 0 } : Room) (PG D cT n ad A G [.ref (ad 69), .int (nI b), .int (nI i), .int (nI kd), .int (nI len)]) (QG D n ad A (fun v G1 => v = none ∧ MB cT ad G1 th b (entF k0 i (m0 b) kd) (entF l0 i (m0 b) len) (va_up m0 b (m0 b + 1)) ∧ ∀ j, j ≠ 100 + b → j ≠ 107 + b → j ≠ 113 → G1 j = G j)) 0 0 A := by
  refine Met.ofG (cc := cX3_enter) (maxL := 6) (ret := none) (by decide) (Nat.le_of_ble_eq_true rfl) ?_
  intro p e s m args below meth c Q hQ hx hb hr hml hlocks hown hw hP hK hE hA hS ls hl
  have hl : lv_has ls 6 [(0, .ref (ad 69)), (1, .int (nI b)), (2, .int (nI i)), (3, .int (nI kd)), (4, .int (nI len))] := hl
  obtain ⟨hO, hK0, hL0, hk0, hl0, hm9, hk9, hl9⟩ := hM
  refine lv_aload_n hx hb dX3_enter_0 rfl (lv_at hl 0 rfl) ?_
  refine g_get (C := RX3) (T := TX3) (N := 9) hx hb hw inX3 hown hK hP (i := 69) (by omega) hO rfl 7 (by decide) (hw _ wf_X3_40) rfl dX3_enter_1 ?_
  refine lv_iload_n hx hb dX3_enter_4 rfl (lv_at hl 1 rfl) ?_
  refine g_iald hx hb hK hP (i := 113) (by omega) hm9 (by omega) (by omega) dX3_enter_5 ?_
  refine lv_istore (lv' := [(5, .int (nI (m0 b))), (0, .ref (ad 69)), (1, .int (nI b)), (2, .int (nI i)), (3, .int (nI kd)), (4, .int (nI len))]) hx hb dX3_enter_6 hl (by decide) rfl (fun ls hl => ?_)
  have key_1 : ∀ (fu : Nat) (u : Nat), (i ≤ u) → (u ≤ m0 b) → (u - i) < fu → ∀ (Gl : Nat → va_E) (H : Heap) (locs : List Loc), (∀ j, (j ≠ 100 + b ∧ j ≠ 107 + b ∧ j ≠ 113) → Gl j = G j) → (MB cT ad Gl th b (shR k0 (m0 b) u) (shR l0 (m0 b) u) m0) → va_P D vwCl (gw n ad Gl) H → va_S A s.heap H locs → ∀ ls : Array Slot, lv_has ls 6 [(5, .int (nI u)), (4, .int (nI len)), (3, .int (nI kd)), (2, .int (nI i)), (1, .int (nI b)), (0, .ref (ad 69))] → W p l e ({ frames := 0, cells := 0, slots := 0, locals := 0 } : Room) s m args below meth c H locs 0 0 Q (F0 m 8 ls []) := by
    intro fu_2
    induction fu_2 with
    | zero => intros; exfalso; omega
    | succ fu_2 ih_3 =>
      intro u hu1 hu2 hfu_4 Gl H locs hfL hML hP hS ls hl
      obtain ⟨hO, hK0, hL0, hk0, hl0, hm9, hk8, hl8⟩ := hML
      have hku := hk8 (u - 1)
      have hlu := hl8 (u - 1)
      refine lv_iload hx hb dX3_enter_8 (lv_at hl 0 rfl) ?_
      refine lv_iload_n hx hb dX3_enter_10 rfl (lv_at hl 3 rfl) ?_
      refine t_icmp_le (tgt := 60) hx hb dX3_enter_11 (by decide) (by omega) (by omega) (fun c_5 => ?_) (fun c_5 => ?_)
      · skip
        refine lv_aload_n hx hb dX3_enter_60 rfl (lv_at hl 5 rfl) ?_
        refine g_get (C := RX3) (T := TX3) (N := 9) hx hb hw inX3 hown hK hP (i := 69) (by omega) hO rfl 5 (by decide) (hw _ wf_X3_34) rfl dX3_enter_61 ?_
        refine lv_iload_n hx hb dX3_enter_64 rfl (lv_at hl 4 rfl) ?_
        refine g_aald hx hb hK hP 9 (i := 99) (by omega) hK0 rfl rfl (k := (ad (100 + b))) (by omega) (by omega) (qK_at (by omega)) dX3_enter_65 ?_
        refine lv_iload_n hx hb dX3_enter_66 rfl (lv_at hl 3 rfl) ?_
        refine lv_iload_n hx hb dX3_enter_67 rfl (lv_at hl 2 rfl) ?_
        refine g_cast hx hb hK hP hD hS (i := (100 + b)) (by omega) hk0 (x := kd) (by omega) (by omega) (by omega) dX3_enter_68 (fun G_6 H locs hg_G_6 ho_G_6 hP hS => ?_)
        have hc_7 : G_6 69 = .inr (5, [.ref (ad 70), .ref (ad 86), .ref (ad 90), .ref (ad 97), .ref (ad 98), .ref (ad 99), .ref (ad 106), .ref (ad 113), .int (nI th)]) := (ho_G_6 _ (by omega)).trans hO
        have hc_8 : G_6 99 = aQ (cT 9) 6 (qK ad) := (ho_G_6 _ (by omega)).trans hK0
        have hc_9 : G_6 106 = aQ (cT 8) 6 (qL ad) := (ho_G_6 _ (by omega)).trans hL0
        have hc_10 : G_6 (100 + b) = aC cT 128 (va_up (shR k0 (m0 b) u) i kd) := hg_G_6
        have hc_11 : G_6 (107 + b) = aI cT 128 (shR l0 (m0 b) u) := (ho_G_6 _ (by omega)).trans hl0
        have hc_12 : G_6 113 = aI cT 6 m0 := (ho_G_6 _ (by omega)).trans hm9
        have hfr_13 : ∀ j, (j ≠ 100 + b ∧ j ≠ 107 + b ∧ j ≠ 113) → G_6 j = G j := fun j hj => (ho_G_6 j (by omega)).trans (hfL j hj)
        refine lv_aload_n hx hb dX3_enter_69 rfl (lv_at hl 5 rfl) ?_
        refine g_get (C := RX3) (T := TX3) (N := 9) hx hb hw inX3 hown hK hP (i := 69) (by omega) hc_7 rfl 6 (by decide) (hw _ wf_X3_37) rfl dX3_enter_70 ?_
        refine lv_iload_n hx hb dX3_enter_73 rfl (lv_at hl 4 rfl) ?_
        refine g_aald hx hb hK hP 8 (i := 106) (by omega) hc_9 rfl rfl (k := (ad (107 + b))) (by omega) (by omega) (qL_at (by omega)) dX3_enter_74 ?_
        refine lv_iload_n hx hb dX3_enter_75 rfl (lv_at hl 3 rfl) ?_
        refine lv_iload hx hb dX3_enter_76 (lv_at hl 1 rfl) ?_
        refine g_iast hx hb hK hP hD hS (i := (107 + b)) (by omega) hc_11 (by omega) (by omega) dX3_enter_78 (fun G_14 H locs hg_G_14 ho_G_14 hP hS => ?_)
        have hc_15 : G_14 69 = .inr (5, [.ref (ad 70), .ref (ad 86), .ref (ad 90), .ref (ad 97), .ref (ad 98), .ref (ad 99), .ref (ad 106), .ref (ad 113), .int (nI th)]) := (ho_G_14 _ (by omega)).trans hc_7
        have hc_16 : G_14 99 = aQ (cT 9) 6 (qK ad) := (ho_G_14 _ (by omega)).trans hc_8
        have hc_17 : G_14 106 = aQ (cT 8) 6 (qL ad) := (ho_G_14 _ (by omega)).trans hc_9
        have hc_18 : G_14 (100 + b) = aC cT 128 (va_up (shR k0 (m0 b) u) i kd) := (ho_G_14 _ (by omega)).trans hc_10
        have hc_19 : G_14 (107 + b) = aI cT 128 (va_up (shR l0 (m0 b) u) i len) := hg_G_14
        have hc_20 : G_14 113 = aI cT 6 m0 := (ho_G_14 _ (by omega)).trans hc_12
        have hfr_21 : ∀ j, (j ≠ 100 + b ∧ j ≠ 107 + b ∧ j ≠ 113) → G_14 j = G j := fun j hj => (ho_G_14 j (by omega)).trans (hfr_13 j hj)
        refine lv_aload_n hx hb dX3_enter_79 rfl (lv_at hl 5 rfl) ?_
        refine g_get (C := RX3) (T := TX3) (N := 9) hx hb hw inX3 hown hK hP (i := 69) (by omega) hc_15 rfl 7 (by decide) (hw _ wf_X3_40) rfl dX3_enter_80 ?_
        refine lv_iload_n hx hb dX3_enter_83 rfl (lv_at hl 4 rfl) ?_
        refine lv_dup2_11 hx hb dX3_enter_84 rfl rfl ?_
        refine g_iald hx hb hK hP (i := 113) (by omega) hc_20 (by omega) (by omega) dX3_enter_85 ?_
        refine lv_iconst (v := nI 1) hx hb dX3_enter_86 (by decide) ?_
        refine lv_iadd hx hb dX3_enter_87 ?_
        refine t_eqi (nI ((m0 b) + 1)) (nI_add (m0 b) 1) ?_
        refine g_iast hx hb hK hP hD hS (i := 113) (by omega) hc_20 (by omega) (by omega) dX3_enter_88 (fun G_22 H locs hg_G_22 ho_G_22 hP hS => ?_)
        have hc_23 : G_22 69 = .inr (5, [.ref (ad 70), .ref (ad 86), .ref (ad 90), .ref (ad 97), .ref (ad 98), .ref (ad 99), .ref (ad 106), .ref (ad 113), .int (nI th)]) := (ho_G_22 _ (by omega)).trans hc_15
        have hc_24 : G_22 99 = aQ (cT 9) 6 (qK ad) := (ho_G_22 _ (by omega)).trans hc_16
        have hc_25 : G_22 106 = aQ (cT 8) 6 (qL ad) := (ho_G_22 _ (by omega)).trans hc_17
        have hc_26 : G_22 (100 + b) = aC cT 128 (va_up (shR k0 (m0 b) u) i kd) := (ho_G_22 _ (by omega)).trans hc_18
        have hc_27 : G_22 (107 + b) = aI cT 128 (va_up (shR l0 (m0 b) u) i len) := (ho_G_22 _ (by omega)).trans hc_19
        have hc_28 : G_22 113 = aI cT 6 (va_up m0 b ((m0 b) + 1)) := hg_G_22
        have hfr_29 : ∀ j, (j ≠ 100 + b ∧ j ≠ 107 + b ∧ j ≠ 113) → G_22 j = G j := fun j hj => (ho_G_22 j (by omega)).trans (hfr_21 j hj)
        refine g_retv hQ hx hb hr hlocks hP hS (⟨rfl, ⟨hc_23, hc_24, hc_25, hc_26.trans (by rw [show u = i by omega, shR_ent]), hc_27.trans (by rw [show u = i by omega, shR_ent]), hc_28, entF_lt hk9 (by omega), entF_lt hl9 (by omega)⟩, fun j a b c => hfr_29 j ⟨a, b, c⟩⟩) (Nat.le_of_ble_eq_true rfl) (Nat.le_of_ble_eq_true rfl) dX3_enter_89
      · skip
        refine lv_aload_n hx hb dX3_enter_14 rfl (lv_at hl 5 rfl) ?_
        refine g_get (C := RX3) (T := TX3) (N := 9) hx hb hw inX3 hown hK hP (i := 69) (by omega) hO rfl 5 (by decide) (hw _ wf_X3_34) rfl dX3_enter_15 ?_
        refine lv_iload_n hx hb dX3_enter_18 rfl (lv_at hl 4 rfl) ?_
        refine g_aald hx hb hK hP 9 (i := 99) (by omega) hK0 rfl rfl (k := (ad (100 + b))) (by omega) (by omega) (qK_at (by omega)) dX3_enter_19 ?_
        refine lv_iload hx hb dX3_enter_20 (lv_at hl 0 rfl) ?_
        refine lv_aload_n hx hb dX3_enter_22 rfl (lv_at hl 5 rfl) ?_
        refine g_get (C := RX3) (T := TX3) (N := 9) hx hb hw inX3 hown hK hP (i := 69) (by omega) hO rfl 5 (by decide) (hw _ wf_X3_34) rfl dX3_enter_23 ?_
        refine lv_iload_n hx hb dX3_enter_26 rfl (lv_at hl 4 rfl) ?_
        refine g_aald hx hb hK hP 9 (i := 99) (by omega) hK0 rfl rfl (k := (ad (100 + b))) (by omega) (by omega) (qK_at (by omega)) dX3_enter_27 ?_
        refine lv_iload hx hb dX3_enter_28 (lv_at hl 0 rfl) ?_
        refine lv_iconst (v := nI 1) hx hb dX3_enter_30 (by decide) ?_
        refine lv_isub hx hb dX3_enter_31 ?_
        refine t_eqi (nI (u - 1)) (pk_sub (by omega)) ?_
        refine g_cald hx hb hK hP (i := (100 + b)) (by omega) hk0 (by omega) (by omega) dX3_enter_32 ?_
        refine g_cast hx hb hK hP hD hS (i := (100 + b)) (by omega) hk0 (x := ((shR k0 (m0 b) u) (u - 1))) (by omega) (by omega) (by omega) dX3_enter_33 (fun G_30 H locs hg_G_30 ho_G_30 hP hS => ?_)
        have hc_31 : G_30 69 = .inr (5, [.ref (ad 70), .ref (ad 86), .ref (ad 90), .ref (ad 97), .ref (ad 98), .ref (ad 99), .ref (ad 106), .ref (ad 113), .int (nI th)]) := (ho_G_30 _ (by omega)).trans hO
        have hc_32 : G_30 99 = aQ (cT 9) 6 (qK ad) := (ho_G_30 _ (by omega)).trans hK0
        have hc_33 : G_30 106 = aQ (cT 8) 6 (qL ad) := (ho_G_30 _ (by omega)).trans hL0
        have hc_34 : G_30 (100 + b) = aC cT 128 (va_up (shR k0 (m0 b) u) u ((shR k0 (m0 b) u) (u - 1))) := hg_G_30
        have hc_35 : G_30 (107 + b) = aI cT 128 (shR l0 (m0 b) u) := (ho_G_30 _ (by omega)).trans hl0
        have hc_36 : G_30 113 = aI cT 6 m0 := (ho_G_30 _ (by omega)).trans hm9
        have hfr_37 : ∀ j, (j ≠ 100 + b ∧ j ≠ 107 + b ∧ j ≠ 113) → G_30 j = G j := fun j hj => (ho_G_30 j (by omega)).trans (hfL j hj)
        refine lv_aload_n hx hb dX3_enter_34 rfl (lv_at hl 5 rfl) ?_
        refine g_get (C := RX3) (T := TX3) (N := 9) hx hb hw inX3 hown hK hP (i := 69) (by omega) hc_31 rfl 6 (by decide) (hw _ wf_X3_37) rfl dX3_enter_35 ?_
        refine lv_iload_n hx hb dX3_enter_38 rfl (lv_at hl 4 rfl) ?_
        refine g_aald hx hb hK hP 8 (i := 106) (by omega) hc_33 rfl rfl (k := (ad (107 + b))) (by omega) (by omega) (qL_at (by omega)) dX3_enter_39 ?_
        refine lv_iload hx hb dX3_enter_40 (lv_at hl 0 rfl) ?_
        refine lv_aload_n hx hb dX3_enter_42 rfl (lv_at hl 5 rfl) ?_
        refine g_get (C := RX3) (T := TX3) (N := 9) hx hb hw inX3 hown hK hP (i := 69) (by omega) hc_31 rfl 6 (by decide) (hw _ wf_X3_37) rfl dX3_enter_43 ?_
        refine lv_iload_n hx hb dX3_enter_46 rfl (lv_at hl 4 rfl) ?_
        refine g_aald hx hb hK hP 8 (i := 106) (by omega) hc_33 rfl rfl (k := (ad (107 + b))) (by omega) (by omega) (qL_at (by omega)) dX3_enter_47 ?_
        refine lv_iload hx hb dX3_enter_48 (lv_at hl 0 rfl) ?_
        refine lv_iconst (v := nI 1) hx hb dX3_enter_50 (by decide) ?_
        refine lv_isub hx hb dX3_enter_51 ?_
        refine t_eqi (nI (u - 1)) (pk_sub (by omega)) ?_
        refine g_iald hx hb hK hP (i := (107 + b)) (by omega) hc_35 (by omega) (by omega) dX3_enter_52 ?_
        refine g_iast hx hb hK hP hD hS (i := (107 + b)) (by omega) hc_35 (by omega) (by omega) dX3_enter_53 (fun G_38 H locs hg_G_38 ho_G_38 hP hS => ?_)
        have hc_39 : G_38 69 = .inr (5, [.ref (ad 70), .ref (ad 86), .ref (ad 90), .ref (ad 97), .ref (ad 98), .ref (ad 99), .ref (ad 106), .ref (ad 113), .int (nI th)]) := (ho_G_38 _ (by omega)).trans hc_31
        have hc_40 : G_38 99 = aQ (cT 9) 6 (qK ad) := (ho_G_38 _ (by omega)).trans hc_32
        have hc_41 : G_38 106 = aQ (cT 8) 6 (qL ad) := (ho_G_38 _ (by omega)).trans hc_33
        have hc_42 : G_38 (100 + b) = aC cT 128 (va_up (shR k0 (m0 b) u) u ((shR k0 (m0 b) u) (u - 1))) := (ho_G_38 _ (by omega)).trans hc_34
        have hc_43 : G_38 (107 + b) = aI cT 128 (va_up (shR l0 (m0 b) u) u ((shR l0 (m0 b) u) (u - 1))) := hg_G_38
        have hc_44 : G_38 113 = aI cT 6 m0 := (ho_G_38 _ (by omega)).trans hc_36
        have hfr_45 : ∀ j, (j ≠ 100 + b ∧ j ≠ 107 + b ∧ j ≠ 113) → G_38 j = G j := fun j hj => (ho_G_38 j (by omega)).trans (hfr_37 j hj)
        refine lv_iinc (v := nI (u - 1)) (lv' := [(5, .int (nI (u - 1))), (4, .int (nI len)), (3, .int (nI kd)), (2, .int (nI i)), (1, .int (nI b)), (0, .ref (ad 69))]) hx hb dX3_enter_54 hl (k := 0) rfl (nI_dec1 (by omega)) (by decide) rfl (fun ls hl => ?_)
        refine lv_goto (tgt := 8) hx hb dX3_enter_57 (by decide) ?_
        exact ih_3 (u - 1) (by omega) (by omega) (by omega) _ _ _ (fun j hj => hfr_45 j hj) (⟨hc_39, hc_40, hc_41, hc_42.trans (by rw [shR_step (by omega) (by omega)]), hc_43.trans (by rw [shR_step (by omega) (by omega)]), hc_44, shR_lt hk9, shR_lt hl9⟩) hP hS ls (lv_sub hl [0, 1, 2, 3, 4, 5] rfl)
  exact key_1 _ (m0 b) (by omega) (by omega) (Nat.lt_succ_self _) _ _ _ (fun _ _ => rfl) (⟨hO, hK0, hL0, by rw [shR_0]; exact hk0, by rw [shR_0]; exact hl0, hm9, by rw [shR_0]; exact hk9, by rw [shR_0]; exact hl9⟩) hP hS ls (lv_sub hl [0, 5, 4, 3, 2, 1] rfl)

set_option maxHeartbeats 4000000 in
set_option maxRecDepth 100000 in
theorem mX3_halved (l : Launch) (D : va_G) (cT : Nat → ClassId) (n : Nat) (ad : Nat → Nat) (A : Nat → Prop) (hD : ∀ G, va_D A (gw n ad G)) (G : Nat → va_E) (hn : 114 ≤ n) (th b i : Nat) (k0 l0 m0 : Nat → Nat) (hb6 : b < 6) (hM : MB cT ad G th b k0 l0 m0) (hm0 : m0 b < 127) (hi : i ≤ m0 b) : Met l yX3_halved (wA yX3_halved cX3_halved 4 (some .int)) ({ frames := 1, cells := 0, slots := 0, locals := 25 } : Room) (PG D cT n ad A G [.ref (ad 69), .int (nI b), .int (nI i)]) (QG D n ad A (fun v G1 => v = some (.int (nI (l0 i / 2))) ∧ MB cT ad G1 th b (entF k0 i (m0 b) 112) (entF (va_up l0 i (l0 i - l0 i / 2)) i (m0 b) (l0 i / 2)) (va_up m0 b (m0 b + 1)) ∧ ∀ j, j ≠ 100 + b → j ≠ 107 + b → j ≠ 113 → G1 j = G j)) 0 0 A := by
  refine Met.ofG (cc := cX3_halved) (maxL := 4) (ret := (some .int)) (by decide) (Nat.le_of_ble_eq_true rfl) ?_
  intro p e s m args below meth c Q hQ hx hb hr hml hlocks hown hw hP hK hE hA hS ls hl
  have hl : lv_has ls 4 [(0, .ref (ad 69)), (1, .int (nI b)), (2, .int (nI i))] := hl
  obtain ⟨hO, hK0, hL0, hk0, hl0, hm9, hk9, hl9⟩ := hM
  have hli := hl9 i
  refine lv_aload_n hx hb dX3_halved_0 rfl (lv_at hl 0 rfl) ?_
  refine g_get (C := RX3) (T := TX3) (N := 9) hx hb hw inX3 hown hK hP (i := 69) (by omega) hO rfl 6 (by decide) (hw _ wf_X3_37) rfl dX3_halved_1 ?_
  refine lv_iload_n hx hb dX3_halved_4 rfl (lv_at hl 1 rfl) ?_
  refine g_aald hx hb hK hP 8 (i := 106) (by omega) hL0 rfl rfl (k := (ad (107 + b))) (by omega) (by omega) (qL_at (by omega)) dX3_halved_5 ?_
  refine lv_iload_n hx hb dX3_halved_6 rfl (lv_at hl 2 rfl) ?_
  refine g_iald hx hb hK hP (i := (107 + b)) (by omega) hl0 (by omega) (by omega) dX3_halved_7 ?_
  refine lv_iconst (v := nI 2) hx hb dX3_halved_8 (by decide) ?_
  refine lv_idiv hx hb dX3_halved_9 (nI_ne0 (by omega) (by omega)) ?_
  refine t_eqi (nI ((l0 i) / 2)) (pk_div (by omega) (by omega) (by omega)) ?_
  refine lv_istore_n (lv' := [(3, .int (nI ((l0 i) / 2))), (0, .ref (ad 69)), (1, .int (nI b)), (2, .int (nI i))]) hx hb dX3_halved_10 rfl hl (by decide) rfl (fun ls hl => ?_)
  refine lv_aload_n hx hb dX3_halved_11 rfl (lv_at hl 1 rfl) ?_
  refine g_get (C := RX3) (T := TX3) (N := 9) hx hb hw inX3 hown hK hP (i := 69) (by omega) hO rfl 6 (by decide) (hw _ wf_X3_37) rfl dX3_halved_12 ?_
  refine lv_iload_n hx hb dX3_halved_15 rfl (lv_at hl 2 rfl) ?_
  refine g_aald hx hb hK hP 8 (i := 106) (by omega) hL0 rfl rfl (k := (ad (107 + b))) (by omega) (by omega) (qL_at (by omega)) dX3_halved_16 ?_
  refine lv_iload_n hx hb dX3_halved_17 rfl (lv_at hl 3 rfl) ?_
  refine lv_dup2_11 hx hb dX3_halved_18 rfl rfl ?_
  refine g_iald hx hb hK hP (i := (107 + b)) (by omega) hl0 (by omega) (by omega) dX3_halved_19 ?_
  refine lv_iload_n hx hb dX3_halved_20 rfl (lv_at hl 0 rfl) ?_
  refine lv_isub hx hb dX3_halved_21 ?_
  refine t_eqi (nI ((l0 i) - ((l0 i) / 2))) (pk_sub (by omega)) ?_
  refine g_iast hx hb hK hP hD hS (i := (107 + b)) (by omega) hl0 (by omega) (by omega) dX3_halved_22 (fun G_1 H locs hg_G_1 ho_G_1 hP hS => ?_)
  have hc_2 : G_1 69 = .inr (5, [.ref (ad 70), .ref (ad 86), .ref (ad 90), .ref (ad 97), .ref (ad 98), .ref (ad 99), .ref (ad 106), .ref (ad 113), .int (nI th)]) := (ho_G_1 _ (by omega)).trans hO
  have hc_3 : G_1 99 = aQ (cT 9) 6 (qK ad) := (ho_G_1 _ (by omega)).trans hK0
  have hc_4 : G_1 106 = aQ (cT 8) 6 (qL ad) := (ho_G_1 _ (by omega)).trans hL0
  have hc_5 : G_1 (100 + b) = aC cT 128 k0 := (ho_G_1 _ (by omega)).trans hk0
  have hc_6 : G_1 (107 + b) = aI cT 128 (va_up l0 i ((l0 i) - ((l0 i) / 2))) := hg_G_1
  have hc_7 : G_1 113 = aI cT 6 m0 := (ho_G_1 _ (by omega)).trans hm9
  have hfr_8 : ∀ j, (j ≠ 100 + b ∧ j ≠ 107 + b ∧ j ≠ 113) → G_1 j = G j := fun j hj => (ho_G_1 j (by omega)).trans (rfl)
  refine lv_aload_n hx hb dX3_halved_23 rfl (lv_at hl 1 rfl) ?_
  refine lv_iload_n hx hb dX3_halved_24 rfl (lv_at hl 2 rfl) ?_
  refine lv_iload_n hx hb dX3_halved_25 rfl (lv_at hl 3 rfl) ?_
  refine lv_bipush (v := nI 112) hx hb dX3_halved_26 (by decide) ?_
  refine lv_iload_n hx hb dX3_halved_28 rfl (lv_at hl 0 rfl) ?_
  have hl8 := up_lt hl9 (i := i) (v := l0 i - l0 i / 2) (by omega)
  refine g_callV (As := [.int (nI b), .int (nI i), .int (nI 112), .int (nI ((l0 i) / 2))]) (rest := []) ⟨hx, hb, hml, hown, hw⟩ (mX3_enter l D cT n ad A hD G_1 hn th b i 112 ((l0 i) / 2) k0 (va_up l0 i ((l0 i) - ((l0 i) / 2))) m0 hb6 ⟨hc_2, hc_3, hc_4, hc_5, hc_6, hc_7, hk9, hl8⟩ (by omega) (by omega) (by omega) (by omega)) (cwV 4 hw (gWV wm_X3_86 wi_X3_enter wse_X3_enter wini_X3 wc_X3_enter) rfl rfl rfl (by decide +kernel) ⟨Nat.le_of_ble_eq_true rfl, Nat.le_of_ble_eq_true rfl⟩) hK hE hA hP hS (k := 69) (by omega) hc_2 rfl rfl hl.1 (lv_room (Nat.le_of_ble_eq_true rfl)) dX3_halved_29 ⟨Nat.le_of_ble_eq_true rfl, Nat.le_of_ble_eq_true rfl⟩ (fun v_10 G_9 H locs hp hP hS => ?_)
  obtain ⟨rfl, hMB_11, hf_12⟩ := hp
  obtain ⟨hO_G_9, hK0_G_9, hL0_G_9, hk0_G_9, hl0_G_9, hm9_G_9, hk9_G_9, hl9_G_9⟩ := id hMB_11
  have hfr_13 : ∀ j, (j ≠ 100 + b ∧ j ≠ 107 + b ∧ j ≠ 113) → G_9 j = G j := fun j hj => (hf_12 j (by omega) (by omega) (by omega)).trans (hfr_8 j hj)
  refine lv_iload_n hx hb dX3_halved_32 rfl (lv_at hl 0 rfl) ?_
  refine g_ret hQ hx hb hr hlocks rfl hP hS (⟨rfl, hMB_11, fun j a b c => hfr_13 j ⟨a, b, c⟩⟩) (Nat.le_of_ble_eq_true rfl) (Nat.le_of_ble_eq_true rfl) dX3_halved_33
