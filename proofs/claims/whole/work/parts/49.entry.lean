set_option maxRecDepth 100000 in
theorem inJ0 : ∀ w ∈ u_ws RJ0 TJ0 2, w ∈ lw_tbl := by decide +kernel
set_option maxRecDepth 100000 in
theorem inJx : ∀ w ∈ u_ws RJx00060 TJx00060 6, w ∈ lw_tbl := by decide +kernel
theorem AOT_of_arr {ty : FieldType} {args : Array Value} {s : State} (h : (Cond.arrayOver (.array ty)).before args s = true) : AOT (.array ty) s := by
  unfold Cond.before at h
  simp only [Cond.holds, Cond.value, beq_iff_eq] at h
  cases hc : s.vm.findClass (FieldType.array ty).toString with
  | none => simp [hc] at h
  | some comp =>
    simp only [hc, Option.bind_some, Option.bind_eq_some_iff, Option.map_eq_some_iff] at h
    obtain ⟨c, hi, k, hk, hb⟩ := h
    obtain ⟨hlt, hp, -⟩ := Array.findIdx?_eq_some_iff_getElem.mp hi
    have hkk : s.vm.classes[c] = k := (Array.getElem?_eq_some_iff.mp hk).2
    rw [hkk] at hp
    cases hkind : k.kind with
    | array component ty9 =>
      rw [hkind] at hb hp
      simp at hb hp
      exact ⟨comp, c, k, hc, hi, hk, by rw [hkind, hp, hb.1], hb.2⟩
    | _ => rw [hkind] at hb; simp at hb
theorem AOT_of_obj {C : String} {args : Array Value} {s : State} (h : (Cond.arrayOver (.object C)).before args s = true) : AOT (.object C) s := by
  obtain ⟨comp, c, k, h1, h2, h3, h4, h5⟩ := Cond.arrayOver_spec h
  exact ⟨comp, c, k, h1, h2, h3, h4, h5⟩
theorem arr_prim {ty : FieldType} {args : Array Value} {s : State} (h : (Cond.arrayClass ty).before args s = true) : ∃ c : ClassId, s.vm.findClass ("[" ++ ty.toString) = some c ∧ ArrOfT s c ty := by
  obtain ⟨c, k, comp, h1, h2, h3⟩ := Cond.arrayClass_spec h
  exact ⟨c, h1, fun N z => ⟨(fun k h => by cases h), k, h2, comp, h3⟩⟩
theorem arr_aot {ty : FieldType} {s : State} (h : AOT ty s) : ∃ c : ClassId, s.vm.findClass ("[" ++ ty.toString) = some c ∧ ArrOfT s c ty ∧ (∃ (kA : Class) (comp : ClassId), s.vm.classes[c]? = some kA ∧ kA.kind = .array comp ty ∧ s.vm.findClass (cmN ty) = some comp) := by
  obtain ⟨comp, c, k, h1, h2, h3, h4, h5⟩ := h
  exact ⟨c, h5, fun N z => ⟨(fun k h => by cases h), k, h3, comp, h4⟩, k, comp, h3, h4, h1⟩
set_option maxRecDepth 100000 in
theorem nc_mem : ∀ x ∈ xcL, ∀ y ∈ xcL, x ≠ y → Cond.not (Cond.castable x y) ∈ flatC (Jvm.Cond.and given_1 narrow_1) := by decide +kernel
set_option maxHeartbeats 4000000 in
set_option maxRecDepth 100000 in
theorem ex_start {b : Nat} {s : State} {cur : ClassId} {A : Nat → Prop} (hts : ∀ w ∈ lw_tbl, w.before #[Value.ref b] s = true) (hgv : (Jvm.Cond.and given_1 narrow_1).before #[Value.ref b] s = true) (hcur : s.vm.findClass RX2 = some cur) (hA : ∀ a : Nat, a < s.heap.size → ¬ A a) : EX A s := by
  have hn := flat_of_before _ hgv
  have mk : ∀ (k : Nat) (tx : String), Cond.stringRef RX2 k tx ∈ lw_tbl → ∃ sa, vk_R RX2 k tx sa s := fun k tx h => by
    obtain ⟨_, _, _, a, -, -, -, -, -, he⟩ := Cond.stringRef_spec hcur (hts _ h)
    exact ⟨a, vk_R.of (hts _ h) he⟩
  obtain ⟨tKI, hKI1, hKI2⟩ := va_Tof (tm := .static "Splityard" "KINDS" "[C") (ty := .char) (N := 3) (f := fKI) (A := A) (by decide) (hn _ (List.mem_of_getElem? (i := 5) (by decide +kernel))) (va_eqt (hn _ (List.mem_of_getElem? (i := 6) (by decide +kernel)))) (fun j hj => by
    rcases (show j = 0 ∨ j = 1 ∨ j = 2 by omega) with rfl | rfl | rfl
    · exact va_eqt (z := 105) (hn _ (List.mem_of_getElem? (i := 7) (by decide +kernel)))
    · exact va_eqt (z := 108) (hn _ (List.mem_of_getElem? (i := 8) (by decide +kernel)))
    · exact va_eqt (z := 111) (hn _ (List.mem_of_getElem? (i := 9) (by decide +kernel)))
  ) hA
  obtain ⟨tHO, hHO1, hHO2⟩ := va_Tof (tm := .static "Splityard" "HOWS" "[C") (ty := .char) (N := 4) (f := fHO) (A := A) (by decide) (hn _ (List.mem_of_getElem? (i := 11) (by decide +kernel))) (va_eqt (hn _ (List.mem_of_getElem? (i := 12) (by decide +kernel)))) (fun j hj => by
    rcases (show j = 0 ∨ j = 1 ∨ j = 2 ∨ j = 3 by omega) with rfl | rfl | rfl | rfl
    · exact va_eqt (z := 115) (hn _ (List.mem_of_getElem? (i := 13) (by decide +kernel)))
    · exact va_eqt (z := 120) (hn _ (List.mem_of_getElem? (i := 14) (by decide +kernel)))
    · exact va_eqt (z := 104) (hn _ (List.mem_of_getElem? (i := 15) (by decide +kernel)))
    · exact va_eqt (z := 102) (hn _ (List.mem_of_getElem? (i := 16) (by decide +kernel)))
  ) hA
  obtain ⟨tSI, hSI1, hSI2⟩ := va_Tof (tm := .static "Splityard" "SIZES_TO_CHECK" "[I") (ty := .int) (N := 4) (f := fSZ) (A := A) (by decide) (hn _ (List.mem_of_getElem? (i := 18) (by decide +kernel))) (va_eqt (hn _ (List.mem_of_getElem? (i := 19) (by decide +kernel)))) (fun j hj => by
    rcases (show j = 0 ∨ j = 1 ∨ j = 2 ∨ j = 3 by omega) with rfl | rfl | rfl | rfl
    · exact va_eqt (z := 1) (hn _ (List.mem_of_getElem? (i := 20) (by decide +kernel)))
    · exact va_eqt (z := 2) (hn _ (List.mem_of_getElem? (i := 21) (by decide +kernel)))
    · exact va_eqt (z := 3) (hn _ (List.mem_of_getElem? (i := 22) (by decide +kernel)))
    · exact va_eqt (z := 7) (hn _ (List.mem_of_getElem? (i := 23) (by decide +kernel)))
  ) hA
  refine ⟨⟨vx_Zqof (hts _ wo_laysStatic_t1_229) (hts _ (WA_tbl wini_java_lang_Throwable)) (hn _ (List.mem_of_getElem? (i := 24) (by decide +kernel))) hA, vx_Zqof (hts _ wo_laysStatic_t1_231) (hts _ (WA_tbl wini_java_lang_Throwable)) (hn _ (List.mem_of_getElem? (i := 25) (by decide +kernel))) hA, ⟨_, va_Zref (hts _ wo_laysStatic_t1_26) (hts _ (WA_tbl wini_X2)) hKI1 hA, hKI2⟩, ⟨_, va_Zref (hts _ wo_laysStatic_t1_138) (hts _ (WA_tbl wini_X2)) hHO1 hA, hHO2⟩, ⟨_, va_Zref (hts _ wo_laysStatic_t1_152) (hts _ (WA_tbl wini_X2)) hSI1 hA, hSI2⟩⟩, ?_, ?_, ?_, ?_, fun x hx y hy hne => va_Nc.of (hn _ (nc_mem x hx y hy hne)), ?_⟩
  · exact List.forall_mem_cons.mpr ⟨mk _ _ wstr_X2_37, List.forall_mem_cons.mpr ⟨mk _ _ wstr_X2_213, List.forall_mem_cons.mpr ⟨mk _ _ wstr_X2_215, List.forall_mem_cons.mpr ⟨mk _ _ wstr_X2_52, List.forall_mem_cons.mpr ⟨mk _ _ wstr_X2_59, List.forall_mem_cons.mpr ⟨mk _ _ wstr_X2_69, List.forall_mem_cons.mpr ⟨mk _ _ wstr_X2_217, List.forall_mem_cons.mpr ⟨mk _ _ wstr_X2_80, List.forall_mem_cons.mpr ⟨mk _ _ wstr_X2_219, List.forall_mem_cons.mpr ⟨mk _ _ wstr_X2_102, List.forall_mem_cons.mpr ⟨mk _ _ wstr_X2_221, List.forall_mem_cons.mpr ⟨mk _ _ wstr_X2_223, List.forall_mem_cons.mpr ⟨mk _ _ wstr_X2_125, List.forall_mem_cons.mpr ⟨mk _ _ wstr_X2_144, List.forall_mem_cons.mpr ⟨mk _ _ wstr_X2_147, List.forall_mem_cons.mpr ⟨mk _ _ wstr_X2_211, List.forall_mem_cons.mpr ⟨mk _ _ wstr_X2_171, List.forall_mem_cons.mpr ⟨mk _ _ wstr_X2_183, List.forall_mem_cons.mpr ⟨mk _ _ wstr_X2_189, fun _ h => absurd h List.not_mem_nil⟩⟩⟩⟩⟩⟩⟩⟩⟩⟩⟩⟩⟩⟩⟩⟩⟩⟩⟩
  · exact List.forall_mem_cons.mpr ⟨va_Nw.of rfl (hts _ wfn_X2_86), List.forall_mem_cons.mpr ⟨va_Nw.of rfl (hts _ wfn_X2_138), List.forall_mem_cons.mpr ⟨va_Nw.of rfl (hts _ wfn_X2_94), List.forall_mem_cons.mpr ⟨va_Nw.of rfl (hts _ wfn_X2_104), List.forall_mem_cons.mpr ⟨va_Nw.of rfl (hts _ wfn_X2_89), List.forall_mem_cons.mpr ⟨va_Nw.of rfl (hts _ wfn_X2_55), fun _ h => absurd h List.not_mem_nil⟩⟩⟩⟩⟩⟩
  · exact List.forall_mem_cons.mpr ⟨va_Nw.of rfl (hts _ wmn_X2_25), List.forall_mem_cons.mpr ⟨va_Nw.of rfl (hts _ wmn_X2_30), fun _ h => absurd h List.not_mem_nil⟩⟩
  · exact List.forall_mem_cons.mpr ⟨va_Nw.of rfl (hts _ wo_castable_t2_60), List.forall_mem_cons.mpr ⟨va_Nw.of rfl (hts _ wo_castable_t2_84), List.forall_mem_cons.mpr ⟨va_Nw.of rfl (hts _ wo_castable_t2_101), List.forall_mem_cons.mpr ⟨va_Nw.of rfl (hts _ wo_castable_t3_56), List.forall_mem_cons.mpr ⟨va_Nw.of rfl (hts _ wo_castable_t3_150), fun _ h => absurd h List.not_mem_nil⟩⟩⟩⟩⟩
  · exact List.forall_mem_cons.mpr ⟨va_Nw.of rfl (hts _ wo_declares_t2_29), List.forall_mem_cons.mpr ⟨va_Nw.of rfl (hts _ wo_declares_t2_31), List.forall_mem_cons.mpr ⟨va_Nw.of rfl (hts _ wo_declares_t2_33), fun _ h => absurd h List.not_mem_nil⟩⟩⟩
