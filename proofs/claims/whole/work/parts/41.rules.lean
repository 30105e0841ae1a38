section MKX
variable {p : Program} {l : Launch} {e : Env} {R : Room} {s : State} {m : MethodId} {args : Array Value} {below : List Frame} {meth : Method} {c : Code} {T : State} {locs : List Loc} {cells slots : Nat}
theorem mk_step2 {F : State → State} {tot ns : Nat} {PF : Heap → Nat → Prop} (X : Stand p l e R s m args below meth c T locs cells slots) (hexec : p.tables.exec = Jvm.exec) {own nm : String} {index : Nat}
    (hown : s.vm.findClass own = some m.cls) (hclink : (Cond.classLink own index nm).before args s = true) {cA : ClassId} (hcA : s.vm.findClass nm = some cA) {g : JFrame} (hg : g.method = m) (hdg : decode c.code g.pc = .ok (.multianewarray index 2, 4)) {n k : Int32} {rest : List Value} (hstack : g.stack = .int k :: .int n :: rest)
    (hF : MkF F tot ns PF) (hS : MkS F tot ns) (hW : ∀ vm₁ : Vm, s.vm.Alike vm₁ → MkW F vm₁ cA [n, k] tot ns) (hcells : cells + tot ≤ R.cells) (hslots : slots + ns ≤ R.slots) :
    ∃ (vm₁ : Vm) (L : List Loc), (∀ x ∈ L, T.heap.size ≤ x.base) ∧ Stand p l e R s m args below meth c (F (T.setVm vm₁)) (locs ++ L) (cells + tot) (slots + ns) ∧
      ∀ target, Steps p.tables e below ((F (T.setVm vm₁)).setTop { g with pc := g.pc + 4, stack := .ref T.heap.size :: rest }) target → Steps p.tables e below (T.setTop g) target := by
  subst hg
  have hpl : e.platform.magicAccessors = ({} : Platform).magicAccessors := by rw [X.admits.platform]
  obtain ⟨c0, hfc0, hcl⟩ := Cond.classLink_spec hown hclink e.platform hpl
  cases hcA.symm.trans hfc0
  obtain ⟨hg₁, hwarm₁, hready₁⟩ := State.classEntry (e := e) X.warmed hcl
  generalize T.vm.noted g.method.cls index (.cls cA) = vm₁ at hg₁ hwarm₁ hready₁
  have X₁ := X.noted hwarm₁
  obtain ⟨L, hL, XF⟩ := hS X₁
  obtain ⟨hr1, hr2⟩ := X.roomAbove hcells hslots
  refine ⟨vm₁, L, hL, XF, fun target hrest => ?_⟩
  have hl1 : 1000000 ≤ e.platform.arrayLengthLimit := by rw [Launch.admits_arrayLengthLimit X.admits]; omega
  have hh1 : 1000000 ≤ e.platform.maxHeapBytes := by rw [Launch.admits_maxHeapBytes X.admits]; omega
  jvm_step X.here [hexec, hdg]
  simp only [multianewarray.sem, wp_bind', W.resolveClassAt_links (State.method?_setTop g X.here.top) hg₁]
  rw [W.popN, if_neg (by decide)]
  refine ⟨g, State.topJava?_setTop' (s := T.setVm vm₁) g X.here.top, [.int n, .int k], rest, rfl, hstack, ?_⟩
  simp only [List.mapM_cons, List.mapM_nil, wp_bind', wp_pure']
  refine hW vm₁ hwarm₁.alike _ _ _ _ _ _ rfl hl1 hh1 hr1 hr2 (fun d' acts' => ?_)
  have eS : ((T.setTop g).setVm vm₁).setTop { g with stack := rest } = (T.setVm vm₁).setTop { g with stack := rest } := by
    show ((T.setVm vm₁).setTop g).setTop _ = _
    rw [State.setTop_setTop]
  rw [eS, (hF (T.setVm vm₁)).2.2.2.2.2]
  simp only [wp_bind', W.mark, W.pushRef, State.topJava?_setTop' _ XF.here.top, Option.some.injEq, exists_eq_left', State.setTop_setTop, State.heap_setTop]
  intro acts
  simp [jvm, XF.here.top]
  exact hrest
theorem mk_step3 {F : State → State} {tot ns : Nat} {PF : Heap → Nat → Prop} (X : Stand p l e R s m args below meth c T locs cells slots) (hexec : p.tables.exec = Jvm.exec) {own nm : String} {index : Nat}
    (hown : s.vm.findClass own = some m.cls) (hclink : (Cond.classLink own index nm).before args s = true) {cA : ClassId} (hcA : s.vm.findClass nm = some cA) {g : JFrame} (hg : g.method = m) (hdg : decode c.code g.pc = .ok (.multianewarray index 3, 4)) {n k j : Int32} {rest : List Value} (hstack : g.stack = .int j :: .int k :: .int n :: rest)
    (hF : MkF F tot ns PF) (hS : MkS F tot ns) (hW : ∀ vm₁ : Vm, s.vm.Alike vm₁ → MkW F vm₁ cA [n, k, j] tot ns) (hcells : cells + tot ≤ R.cells) (hslots : slots + ns ≤ R.slots) :
    ∃ (vm₁ : Vm) (L : List Loc), (∀ x ∈ L, T.heap.size ≤ x.base) ∧ Stand p l e R s m args below meth c (F (T.setVm vm₁)) (locs ++ L) (cells + tot) (slots + ns) ∧
      ∀ target, Steps p.tables e below ((F (T.setVm vm₁)).setTop { g with pc := g.pc + 4, stack := .ref T.heap.size :: rest }) target → Steps p.tables e below (T.setTop g) target := by
  subst hg
  have hpl : e.platform.magicAccessors = ({} : Platform).magicAccessors := by rw [X.admits.platform]
  obtain ⟨c0, hfc0, hcl⟩ := Cond.classLink_spec hown hclink e.platform hpl
  cases hcA.symm.trans hfc0
  obtain ⟨hg₁, hwarm₁, hready₁⟩ := State.classEntry (e := e) X.warmed hcl
  generalize T.vm.noted g.method.cls index (.cls cA) = vm₁ at hg₁ hwarm₁ hready₁
  have X₁ := X.noted hwarm₁
  obtain ⟨L, hL, XF⟩ := hS X₁
  obtain ⟨hr1, hr2⟩ := X.roomAbove hcells hslots
  refine ⟨vm₁, L, hL, XF, fun target hrest => ?_⟩
  have hl1 : 1000000 ≤ e.platform.arrayLengthLimit := by rw [Launch.admits_arrayLengthLimit X.admits]; omega
  have hh1 : 1000000 ≤ e.platform.maxHeapBytes := by rw [Launch.admits_maxHeapBytes X.admits]; omega
  jvm_step X.here [hexec, hdg]
  simp only [multianewarray.sem, wp_bind', W.resolveClassAt_links (State.method?_setTop g X.here.top) hg₁]
  rw [W.popN, if_neg (by decide)]
  refine ⟨g, State.topJava?_setTop' (s := T.setVm vm₁) g X.here.top, [.int n, .int k, .int j], rest, rfl, hstack, ?_⟩
  simp only [List.mapM_cons, List.mapM_nil, wp_bind', wp_pure']
  refine hW vm₁ hwarm₁.alike _ _ _ _ _ _ rfl hl1 hh1 hr1 hr2 (fun d' acts' => ?_)
  have eS : ((T.setTop g).setVm vm₁).setTop { g with stack := rest } = (T.setVm vm₁).setTop { g with stack := rest } := by
    show ((T.setVm vm₁).setTop g).setTop _ = _
    rw [State.setTop_setTop]
  rw [eS, (hF (T.setVm vm₁)).2.2.2.2.2]
  simp only [wp_bind', W.mark, W.pushRef, State.topJava?_setTop' _ XF.here.top, Option.some.injEq, exists_eq_left', State.setTop_setTop, State.heap_setTop]
  intro acts
  simp [jvm, XF.here.top]
  exact hrest
end MKX
section GR
variable {p : Program} {l : Launch} {e : Env} {R : Room} {s : State} {m : MethodId} {args : Array Value} {below : List Frame} {meth : Method} {c : Code} {H : Heap} {locs : List Loc} {cells slots : Nat} {Q : State → Prop}
variable {cc : ByteArray} {pc : Nat} {ls : Array Slot} {rest st0 : List Value} {D : va_G} {cT : Nat → ClassId} {n : Nat} {ad : Nat → Nat} {A : Nat → Prop} {G : Nat → va_E} {mc ms : Nat}
def adB (n : Nat) (ad : Nat → Nat) (h : Nat) : Nat → Nat := fun k => if k < n then ad k else h + (k - n)
def GB (n : Nat) (G : Nat → va_E) (E : Nat → va_E) : Nat → va_E := fun k => if k < n then G k else E (k - n)
theorem gw_block {tot : Nat} {E : Nat → va_E} {H1 : Heap} {L : List Loc} (hP : va_P D vwCl (gw n ad G) H) (hD : ∀ G, va_D A (gw n ad G)) (hS : va_S A s.heap H locs) (hA : ∀ q, s.heap.size ≤ q → A q) (hold : ∀ a : Nat, a < H.size → H1[a]? = H[a]?) (hsz : H1.size = H.size + tot) (hE : ∀ i, i < tot → va_at D vwCl (H.size + i, E i) H1) (hL : ∀ x ∈ L, H.size ≤ x.base) :
    (∀ G, va_D A (gw (n + tot) (adB n ad H.size) G)) ∧ va_P D vwCl (gw (n + tot) (adB n ad H.size) (GB n G E)) H1 ∧ va_S A s.heap H1 (locs ++ L) := by
  have hlt : ∀ k, k < n → ad k < H.size := fun k hk => (hP k _ (gw_get hk rfl)).lt
  obtain ⟨d1, d2⟩ := gw_dis (hD G)
  have e1 : ∀ k, k < n → adB n ad H.size k = ad k := fun k hk => if_pos hk
  have e2 : ∀ k, ¬ k < n → adB n ad H.size k = H.size + (k - n) := fun k hk => if_neg hk
  refine ⟨gw_of_dis (fun i j hi hj hij => ?_) (fun i hi => ?_), fun k q hk => ?_, Nat.le_trans hS.1 (by omega), fun x h1 h2 => (hold x (Nat.lt_of_lt_of_le h1 hS.1)).trans (hS.2.1 x h1 h2), fun x hx => ?_⟩
  · by_cases a1 : i < n <;> by_cases a2 : j < n
    · rw [e1 i a1, e1 j a2] at hij
      exact d1 i j a1 a2 hij
    · rw [e1 i a1, e2 j a2] at hij
      have := hlt i a1
      omega
    · rw [e2 i a1, e1 j a2] at hij
      have := hlt j a2
      omega
    · rw [e2 i a1, e2 j a2] at hij
      omega
  · by_cases a1 : i < n
    · rw [e1 i a1]
      exact d2 i a1
    · rw [e2 i a1]
      exact hA _ (by have := hS.1; omega)
  · have hl : k < n + tot := by
      have := (List.getElem?_eq_some_iff.mp hk).1
      simpa [gw] using this
    rw [gw_get hl rfl] at hk
    obtain rfl := Option.some.inj hk
    by_cases a1 : k < n
    · have h := hP k _ (gw_get a1 rfl)
      rw [e1 k a1, show GB n G E k = G k from if_pos a1]
      exact h.kept (hold _ (hlt k a1))
    · rw [e2 k a1, show GB n G E k = E (k - n) from if_neg a1]
      exact hE _ (by omega)
  · rcases List.mem_append.mp hx with h | h
    · exact hS.2.2 x h
    · exact hA _ (Nat.le_trans hS.1 (hL x h))
theorem kind_of_K {t0 : Nat} {ty : FieldType} {vm₁ : Vm} (hK : va_K D vwCl (tysC cT) s) (ht : (tysC cT)[t0]? = some (cT t0, ty)) (hal : s.vm.Alike vm₁) : ∃ (k : Class) (comp : ClassId), vm₁.classes[cT t0]? = some k ∧ k.kind = .array comp ty := by
  obtain ⟨-, k, hk, comp, hkind⟩ := (hK.2 t0 _ ht).1 0 (fun _ => .null)
  obtain ⟨k1, hk1, he⟩ := hal.2.2 _ _ hk
  exact ⟨k1, comp, hk1, by rw [he]; exact hkind⟩
theorem kind_of_AOT {ty : FieldType} {c0 c1 : ClassId} {vm₁ : Vm} (h : AOT ty s) (h0 : s.vm.findClass (cmN ty) = some c0) (h1 : s.vm.findClass ("[" ++ ty.toString) = some c1) (hal : s.vm.Alike vm₁) : ∃ k : Class, vm₁.classes[c1]? = some k ∧ k.kind = .array c0 ty := by
  obtain ⟨comp, c, k, a1, a2, a3, a4, a5⟩ := h
  obtain rfl := Option.some.inj (a1.symm.trans h0)
  obtain rfl := Option.some.inj (a5.symm.trans h1)
  obtain ⟨k1, hk1, he⟩ := hal.2.2 _ _ a3
  exact ⟨k1, hk1, by rw [he]; exact a4⟩
theorem g_multi2 {own nm : String} {index : Nat} {ty : FieldType} {t0 t1 N M : Nat} {z : vp_A} (hx : p.tables.exec = Jvm.exec) (hb : c.code = cc) (hown : s.vm.findClass own = some m.cls) (hclink : (Cond.classLink own index nm).before args s = true) (hAO : AOT (.array ty) s) (h0 : s.vm.findClass (cmN (.array ty)) = some (cT t0)) (h1 : s.vm.findClass ("[" ++ (FieldType.array ty).toString) = some (cT t1)) (h2 : "[" ++ (FieldType.array ty).toString = nm)
    (hK : va_K D vwCl (tysC cT) s) (ht : (tysC cT)[t0]? = some (cT t0, ty)) (hP : va_P D vwCl (gw n ad G) H) (hD : ∀ G, va_D A (gw n ad G)) (hS : va_S A s.heap H locs) (hA : ∀ q, s.heap.size ≤ q → A q) (hN : N < 10000) (hM : M < 10000) (hcb : componentBytes ty ≤ 8) (hdf : fits ty (defaultValue ty) = true) (hdd : (defaultValue ty).isDefault = true) (hz : ∀ c : ClassId, vp_cell c z = arrV c M (fun _ => defaultValue ty))
    (hcells : cells + (1 + N * 1) ≤ R.cells) (hslots : slots + (N + N * M) ≤ R.slots) (hdg : decode cc pc = .ok (.multianewarray index 2, 4))
    (kk : ∀ (ad2 : Nat → Nat) (G2 : Nat → va_E) (H1 : Heap) (locs1 : List Loc), (∀ k, k < n → ad2 k = ad k) → (∀ k, k < n → G2 k = G k) → G2 n = aQ (cT t1) N (fun j => if j < N then some (ad2 (n + 1 + j)) else none) → (∀ j, j < N → G2 (n + 1 + j) = .inl (cT t0, z)) → (∀ G, va_D A (gw (n + (1 + N * 1)) ad2 G)) → va_P D vwCl (gw (n + (1 + N * 1)) ad2 G2) H1 → va_S A s.heap H1 locs1 → W p l e R s m args below meth c H1 locs1 (cells + (1 + N * 1)) (slots + (N + N * M)) Q (F0 m (pc + 4) ls (.ref (ad2 n) :: rest))) : W p l e R s m args below meth c H locs cells slots Q (F0 m pc ls (.int (nI M) :: .int (nI N) :: rest)) := by
  subst h2
  have eN : (nI N).toNatClampNeg = N := nI_clamp (by omega)
  have eM : (nI M).toNatClampNeg = M := nI_clamp (by omega)
  have hF := mkF_node (mkF_leaf (cT t0) M (defaultValue ty)) (mkL_leaf (cT t0) M (defaultValue ty)) (cT t1) N
  have hS9 := mkS_node (mkF_leaf (cT t0) M (defaultValue ty)) (mkL_leaf (cT t0) M (defaultValue ty)) (mkS_leaf (cT t0) M (defaultValue ty)) (cT t1) N
  intro T hT X
  obtain ⟨vm₁, L, hL, XF, st⟩ := mk_step2 X hx hown hclink h1 (g := F0 m pc ls (.int (nI M) :: .int (nI N) :: rest)) rfl (by rw [hb]; exact hdg) rfl hF hS9 (fun vm₁ hal => by
    obtain ⟨k1, cc1, hk1, hd1⟩ := kind_of_K hK ht hal
    obtain ⟨k2, hk2, hd2⟩ := kind_of_AOT hAO h0 h1 hal
    have w1 := mkW_leaf (m := nI M) hk1 hd1 (nI_pos (by omega)) (by rw [eM]; omega) hcb hdf hdd
    rw [eM] at w1
    have w2 := mkW_node (n := nI N) (mkF_leaf (cT t0) M (defaultValue ty)) (mkL_leaf (cT t0) M (defaultValue ty)) w1 hk2 hd2 rfl (nI_pos (by omega)) (by rw [eN]; omega) (by show 4 ≤ 8; omega) (by simp [List.find?, nI_pos (show M < 2 ^ 31 by omega)])
    rw [eN] at w2
    exact w2) hcells hslots
  have hTh : T.heap = H := hT
  have hTv : (T.setVm vm₁).heap = H := hT
  obtain ⟨f1, f2, f3, -⟩ := hF (T.setVm vm₁)
  rw [hTv] at f1 f2 f3
  rw [hTh] at st hL
  obtain ⟨r1, r2, r3⟩ := gw_block (E := fun i => if i = 0 then aQ (cT t1) N (fun j => if j < N then some (H.size + 1 + j) else none) else .inl (cT t0, z)) hP hD hS hA f2 f1 (fun i hi => by
    by_cases e : i = 0
    · subst e
      show _ = some (vp_cell _ _)
      rw [if_pos rfl]
      have h := f3.1
      simp only [Nat.mul_one] at h
      exact h
    · rw [if_neg e]
      show _ = some (vp_cell _ _)
      rw [hz]
      have h := f3.2 (i - 1) (by omega)
      rw [show H.size + 1 + (i - 1) * 1 = H.size + i by omega] at h
      exact h) hL
  have ea : ∀ k, ¬ k < n → adB n ad H.size k = H.size + (k - n) := fun k hk => if_neg hk
  obtain ⟨t, a1, b1⟩ := kk (adB n ad H.size) (GB n G _) _ (locs ++ L) (fun k hk => if_pos hk) (fun k hk => if_pos hk) (by
    show (if n < n then _ else _) = _
    rw [if_neg (Nat.lt_irrefl _)]
    show (if n - n = 0 then _ else _) = _
    rw [if_pos (Nat.sub_self n)]
    refine congrArg (aQ (cT t1) N) (funext fun j => ?_)
    split
    · rw [ea _ (by omega)]
      exact congrArg some (by omega)
    · rfl) (fun j hj => by
    show (if n + 1 + j < n then _ else _) = _
    rw [if_neg (by omega)]
    exact if_neg (by omega)) r1 r2 r3 (fillG (fun s => s.pushCell (arrV (cT t0) M (fun _ => defaultValue ty))) (cT t1) N 1 (T.setVm vm₁) N) rfl XF
  refine ⟨t, st t ?_, b1⟩
  rw [ea n (Nat.lt_irrefl _), show H.size + (n - n) = H.size by omega] at a1
  exact a1
def E3 (cT : Nat → ClassId) (h : Nat) (z : vp_A) : Nat → va_E := fun i => if i = 0 then aQ (cT 10) 3 (fun j => if j < 3 then some (h + 1 + j * 5) else none) else if (i - 1) % 5 = 0 then aQ (cT 7) 4 (fun j => if j < 4 then some (h + i + 1 + j) else none) else .inl (cT 0, z)
theorem g_multi3 {own : String} {index : Nat} (hx : p.tables.exec = Jvm.exec) (hb : c.code = cc) (hown : s.vm.findClass own = some m.cls) (hclink : (Cond.classLink own index "[[[J").before args s = true) (hAO : AOT (.array .long) s) (hAO2 : AOT (.array (.array .long)) s) (h0 : s.vm.findClass "[J" = some (cT 0)) (h1 : s.vm.findClass "[[J" = some (cT 7)) (h2 : s.vm.findClass "[[[J" = some (cT 10))
    (hK : va_K D vwCl (tysC cT) s) (hP : va_P D vwCl (gw n ad G) H) (hD : ∀ G, va_D A (gw n ad G)) (hS : va_S A s.heap H locs) (hA : ∀ q, s.heap.size ≤ q → A q)
    (hcells : cells + 16 ≤ R.cells) (hslots : slots + 591 ≤ R.slots) (hdg : decode cc pc = .ok (.multianewarray index 3, 4))
    (kk : ∀ (ad2 : Nat → Nat) (G2 : Nat → va_E) (H1 : Heap) (locs1 : List Loc), (∀ k, k < n → ad2 k = ad k) → (∀ k, k < n → G2 k = G k) → G2 n = aQ (cT 10) 3 (fun j => if j < 3 then some (ad2 (n + 1 + 5 * j)) else none) → (∀ q, q < 3 → G2 (n + 1 + 5 * q) = aQ (cT 7) 4 (fun j => if j < 4 then some (ad2 (n + 2 + 5 * q + j)) else none)) → (∀ q, q < 3 → ∀ r, r < 4 → G2 (n + 2 + 5 * q + r) = aJ cT 48 (fun _ => 0)) → (∀ G, va_D A (gw (n + 16) ad2 G)) → va_P D vwCl (gw (n + 16) ad2 G2) H1 → va_S A s.heap H1 locs1 → W p l e R s m args below meth c H1 locs1 (cells + 16) (slots + 591) Q (F0 m (pc + 4) ls (.ref (ad2 n) :: rest))) : W p l e R s m args below meth c H locs cells slots Q (F0 m pc ls (.int (nI 48) :: .int (nI 4) :: .int (nI 3) :: rest)) := by
  have e3 : (nI 3).toNatClampNeg = 3 := nI_clamp (by omega)
  have e4 : (nI 4).toNatClampNeg = 4 := nI_clamp (by omega)
  have e48 : (nI 48).toNatClampNeg = 48 := nI_clamp (by omega)
  have hF1 := mkF_leaf (cT 0) 48 (defaultValue .long)
  have hL1 := mkL_leaf (cT 0) 48 (defaultValue .long)
  have hF2 := mkF_node hF1 hL1 (cT 7) 4
  have hL2 := mkL_node hL1 (cT 7) 4
  have hF := mkF_node hF2 hL2 (cT 10) 3
  have hS9 := mkS_node hF2 hL2 (mkS_node hF1 hL1 (mkS_leaf (cT 0) 48 (defaultValue .long)) (cT 7) 4) (cT 10) 3
  intro T hT X
  obtain ⟨vm₁, L, hL, XF, st⟩ := mk_step3 X hx hown hclink h2 (g := F0 m pc ls (.int (nI 48) :: .int (nI 4) :: .int (nI 3) :: rest)) rfl (by rw [hb]; exact hdg) rfl hF hS9 (fun vm₁ hal => by
    obtain ⟨k1, cc1, hk1, hd1⟩ := kind_of_K (t0 := 0) hK rfl hal
    obtain ⟨k2, hk2, hd2⟩ := kind_of_AOT hAO h0 h1 hal
    obtain ⟨k3, hk3, hd3⟩ := kind_of_AOT hAO2 h1 h2 hal
    have w1 := mkW_leaf (m := nI 48) hk1 hd1 (nI_pos (by omega)) (by rw [e48]; omega) (by show 8 ≤ 8; omega) rfl rfl
    rw [e48] at w1
    have w2 := mkW_node (n := nI 4) hF1 hL1 w1 hk2 hd2 rfl (nI_pos (by omega)) (by rw [e4]; omega) (by show 4 ≤ 8; omega) (by decide)
    rw [e4] at w2
    have w3 := mkW_node (n := nI 3) hF2 hL2 w2 hk3 hd3 rfl (nI_pos (by omega)) (by rw [e3]; omega) (by show 4 ≤ 8; omega) (by decide)
    rw [e3] at w3
    exact w3) hcells hslots
  have hTh : T.heap = H := hT
  have hTv : (T.setVm vm₁).heap = H := hT
  obtain ⟨f1, f2, f3, -⟩ := hF (T.setVm vm₁)
  rw [hTv] at f1 f2 f3
  rw [hTh] at st hL
  obtain ⟨r1, r2, r3⟩ := gw_block (E := E3 cT H.size (48, .inr (.inl (fun _ => 0)))) hP hD hS hA f2 f1 (fun i hi => by
    by_cases e : i = 0
    · subst e
      rw [show E3 cT H.size (48, .inr (.inl (fun _ => 0))) 0 = aQ (cT 10) 3 (fun j => if j < 3 then some (H.size + 1 + j * 5) else none) from if_pos rfl]
      show _ = some (vp_cell _ _)
      exact f3.1
    · by_cases e2 : (i - 1) % 5 = 0
      · rw [show E3 cT H.size (48, .inr (.inl (fun _ => 0))) i = aQ (cT 7) 4 (fun j => if j < 4 then some (H.size + i + 1 + j) else none) from (if_neg e).trans (if_pos e2)]
        show _ = some (vp_cell _ _)
        have h := (f3.2 ((i - 1) / 5) (by omega)).1
        rw [show H.size + 1 + (i - 1) / 5 * (1 + 4 * 1) = H.size + i by omega] at h
        simp only [Nat.mul_one] at h
        exact h
      · rw [show E3 cT H.size (48, .inr (.inl (fun _ => 0))) i = .inl (cT 0, 48, .inr (.inl (fun _ => 0))) from (if_neg e).trans (if_neg e2)]
        show _ = some (vp_cell _ _)
        have h := (f3.2 ((i - 1) / 5) (by omega)).2 ((i - 1) % 5 - 1) (by omega)
        rw [show H.size + 1 + (i - 1) / 5 * (1 + 4 * 1) + 1 + ((i - 1) % 5 - 1) * 1 = H.size + i by omega] at h
        exact h) hL
  have ea : ∀ k, ¬ k < n → adB n ad H.size k = H.size + (k - n) := fun k hk => if_neg hk
  have eg : ∀ k, ¬ k < n → GB n G (E3 cT H.size (48, .inr (.inl (fun _ => 0)))) k = E3 cT H.size (48, .inr (.inl (fun _ => 0))) (k - n) := fun k hk => if_neg hk
  obtain ⟨t, a1, b1⟩ := kk (adB n ad H.size) (GB n G _) _ (locs ++ L) (fun k hk => if_pos hk) (fun k hk => if_pos hk) (by
    rw [eg n (Nat.lt_irrefl _), Nat.sub_self]
    refine (if_pos rfl).trans (congrArg (aQ (cT 10) 3) (funext fun j => ?_))
    split
    · rw [ea _ (by omega)]
      exact congrArg some (by omega)
    · rfl) (fun q hq => by
    rw [eg _ (by omega)]
    refine ((if_neg (by omega)).trans (if_pos (by omega))).trans (congrArg (aQ (cT 7) 4) (funext fun j => ?_))
    split
    · rw [ea _ (by omega)]
      exact congrArg some (by omega)
    · rfl) (fun q hq r hr => by
    rw [eg _ (by omega)]
    exact (if_neg (by omega)).trans (if_neg (by omega))) r1 r2 r3 _ rfl XF
  refine ⟨t, st t ?_, b1⟩
  rw [ea n (Nat.lt_irrefl _), show H.size + (n - n) = H.size by omega] at a1
  exact a1
def QC (D : va_G) (n m : Nat) (ad : Nat → Nat) (A : Nat → Prop) (post : (Nat → Nat) → (Nat → va_E) → Prop) : Array Value → State → Outcome → State → Prop := fun _ st oc t => (∃ (ad2 : Nat → Nat) (G2 : Nat → va_E), oc = .returned none ∧ (∀ k, k < n → ad2 k = ad k) ∧ (∀ G, va_D A (gw m ad2 G)) ∧ post ad2 G2 ∧ va_P D vwCl (gw m ad2 G2) t.heap) ∧ va_F A st t
theorem g_retC {k0 k1 : Nat} {ad2 : Nat → Nat} {G2 : Nat → va_E} {postC : (Nat → Nat) → (Nat → va_E) → Prop} (hQ : ∀ t, MQ below (QC D k0 k1 ad A postC) args s mc ms A t → Q t) (hx : p.tables.exec = Jvm.exec) (hb : c.code = cc) (hr : meth.sig.returnType = none) (hlocks : meth.locks = false) (h1 : ∀ k, k < k0 → ad2 k = ad k) (hD2 : ∀ G, va_D A (gw k1 ad2 G)) (hP : va_P D vwCl (gw k1 ad2 G2) H) (hS : va_S A s.heap H locs) (hp : postC ad2 G2) (hc : cells ≤ mc) (hs : slots ≤ ms) (hdg : decode cc pc = .ok (.return_, 1)) :
    W p l e R s m args below meth c H locs cells slots Q (F0 m pc ls []) :=
  W.toQ hQ (W.widen hc hs (W.vret hx hb hr (fun t ht _ => ⟨⟨ad2, G2, rfl, h1, hD2, hp, by rw [ht]; exact hP⟩, hS.F ht⟩) hS.2.2 hdg hlocks))
theorem g_putF (hx : p.tables.exec = Jvm.exec) (hb : c.code = cc) {own C : String} {T : u_T} {N ci index : Nat} {Ts : List Cond} (hts : ∀ w ∈ Ts, w.before args s = true) (hin : ∀ w ∈ u_ws C T N, w ∈ Ts) (ty0 : Nat → FieldType) (hty : ∀ k, k < N → parseFieldDescriptor (T k).2.2.1 = some (ty0 k)) (hnm : ∀ a, a < N → ∀ b, b < N → a ≠ b → (T a).2.1 ≠ (T b).2.1) (hown : s.vm.findClass own = some m.cls) (hK : va_K D vwCl (tysC cT) s) (hP : va_P D vwCl (gw n ad G) H) (hD : ∀ G, va_D A (gw n ad G)) (hS : va_S A s.heap H locs) {i : Nat} (hi : i < n) {fs : List Value} (hG : G i = .inr (ci, fs)) (hc : vwCl[ci]? = some (C, T, N)) (k : Nat) (hk : k < N) (hlink : (Cond.fieldLink own index (T k).1 (T k).2.1 (T k).2.2.1).before args s = true) (hfin : (T k).2.2.2 = true) (hname : meth.name = "<init>") (hdecl : (T k).1 = own) {ty : FieldType} {v : Value} (hd : parseFieldDescriptor (T k).2.2.1 = some ty) (hn : narrow ty v = v) (hfit : fits ty v = true) (hl : k < fs.length) (hdg : decode cc pc = .ok (.putfield index, 3))
    (kk : ∀ (G1 : Nat → va_E) (H1 : Heap) (locs1 : List Loc), G1 i = .inr (ci, fs.set k v) → (∀ j, j ≠ i → G1 j = G j) → va_P D vwCl (gw n ad G1) H1 → va_S A s.heap H1 locs1 → W p l e R s m args below meth c H1 locs1 cells slots Q (F0 m (pc + 3) ls rest)) : W p l e R s m args below meth c H locs cells slots Q (F0 m pc ls (v :: .ref (ad i) :: rest)) :=
  va_putF hx hb hts hin ty0 hty hnm hown hK hP (hD G) hS i (gw_get hi hG) hc k hk hlink (fun _ h => h) hfin hname hdecl hd hn hfit hl hdg (fun H1 locs1 h1 _ h3 => kk (va_up G i (.inr (ci, fs.set k v))) H1 locs1 (va_up_self _ _ _) (fun j hj => va_up_ne _ _ hj) (by rw [← gw_set _ hi]; exact h1) h3)
theorem g_newO {own C : String} {T : u_T} {N ci index : Nat} {Ts : List Cond} {fs : List Value} (hx : p.tables.exec = Jvm.exec) (hb : c.code = cc) (hts : ∀ w ∈ Ts, w.before args s = true) (hin : ∀ w ∈ u_ws C T N, w ∈ Ts) (ty : Nat → FieldType) (hty : ∀ k, k < N → parseFieldDescriptor (T k).2.2.1 = some (ty k)) (hown : s.vm.findClass own = some m.cls) (hcl : (Cond.classLink own index C).before args s = true) (hinst : (Cond.instantiable C N).before args s = true) (hini : (Cond.initialized C).before args s = true)
    (hK : va_K D vwCl (tysC cT) s) (hP : va_P D vwCl (gw n ad G) H) (hD : ∀ G, va_D A (gw n ad G)) (hS : va_S A s.heap H locs) (hA : ∀ q, s.heap.size ≤ q → A q) (hc : vwCl[ci]? = some (C, T, N)) (hfs : ∀ j, j < N → defaultValue (ty j) = vp_V fs j) (hcells : cells + 1 ≤ R.cells) (hslots : slots + N ≤ R.slots) (hdg : decode cc pc = .ok (.new index, 3))
    (kk : ∀ (ad2 : Nat → Nat) (G2 : Nat → va_E) (H1 : Heap), (∀ k, k < n → ad2 k = ad k) → G2 n = .inr (ci, fs) → (∀ k, k ≠ n → G2 k = G k) → (∀ G, va_D A (gw (n + 1) ad2 G)) → va_P D vwCl (gw (n + 1) ad2 G2) H1 → va_S A s.heap H1 locs → W p l e R s m args below meth c H1 locs (cells + 1) (slots + N) Q (F0 m (pc + 3) ls (.ref (ad2 n) :: rest))) : W p l e R s m args below meth c H locs cells slots Q (F0 m pc ls rest) :=
  va_new hx hb hts hin ty hty hown hcl hinst hini hK hP (hD G) hS hA hc hfs hcells hslots hdg (fun q H1 h1 h2 h3 => by
    obtain ⟨ad2, G2, g1, g2, g3, g4, g5, g6⟩ := gw_grow h2 h1
    rw [← g2]
    exact kk ad2 G2 H1 g1 g3 g4 g5 g6 h3)
theorem g_newq {own C : String} {index t0 N : Nat} (hx : p.tables.exec = Jvm.exec) (hb : c.code = cc) (hown : s.vm.findClass own = some m.cls) (hcl : (Cond.classLink own index C).before args s = true) (hAO : AOT (.object C) s) (hnm : s.vm.findClass ("[" ++ (FieldType.object C).toString) = some (cT t0))
    (hP : va_P D vwCl (gw n ad G) H) (hD : ∀ G, va_D A (gw n ad G)) (hS : va_S A s.heap H locs) (hA : ∀ q, s.heap.size ≤ q → A q) (hN : N < 10000) (hcells : cells + 1 ≤ R.cells) (hslots : slots + N ≤ R.slots) (hdg : decode cc pc = .ok (.anewarray index, 3))
    (kk : ∀ (ad2 : Nat → Nat) (G2 : Nat → va_E) (H1 : Heap), (∀ k, k < n → ad2 k = ad k) → G2 n = aQ (cT t0) N (fun _ => none) → (∀ k, k ≠ n → G2 k = G k) → (∀ G, va_D A (gw (n + 1) ad2 G)) → va_P D vwCl (gw (n + 1) ad2 G2) H1 → va_S A s.heap H1 locs → W p l e R s m args below meth c H1 locs (cells + 1) (slots + N) Q (F0 m (pc + 3) ls (.ref (ad2 n) :: rest))) : W p l e R s m args below meth c H locs cells slots Q (F0 m pc ls (.int (nI N) :: rest)) := by
  have eN : (nI N).toNatClampNeg = N := nI_clamp (by omega)
  have hover : (Cond.arrayOver (.object C)).before args s = true := by
    obtain ⟨comp, c1, k, a1, a2, a3, a4, a5⟩ := hAO
    unfold Cond.before Cond.holds
    simp only [Cond.value]
    rw [show s.vm.findClass C = some comp from a1, Option.bind_some]
    refine (congrArg (fun o : Option Nat => (o.bind (fun c => (s.vm.classes[c]?).map fun (k : Class) => match k.kind with | .array _ ty => decide (ty = FieldType.object C) && decide (s.vm.findClass ("[" ++ (FieldType.object C).toString) = some c) | _ => false) == some true)) a2).trans ?_
    simp [a3, a4, a5]
  refine W.anew hx hb hown hcl hover rfl hdg rfl (nI_pos (by omega)) (by rw [eN]; omega) hcells (by rw [eN]; exact hslots) fun cA kA comp f1 f2 f3 f4 => ?_
  rw [eN]
  obtain rfl := Option.some.inj (hnm.symm.trans f1)
  generalize hH1 : H.push ({ cls := cT t0, slots := Array.replicate N .null, vm := .none } : Cell) = H1
  have z1 : H1.size = H.size + 1 := by rw [← hH1, Array.size_push]
  have e1 : H1[H.size]? = some (arrV (cT t0) N (fun _ => .null)) := by rw [← hH1, Array.getElem?_push_size, ← arrV_new]
  have o1 : ∀ q : Nat, q < H.size → H1[q]? = H[q]? := fun q hq => by rw [← hH1, Array.getElem?_push, if_neg (Nat.ne_of_lt hq)]
  have hP1 : va_P D vwCl (gw n ad G ++ [(H.size, aQ (cT t0) N (fun _ => none))]) H1 := (hP.kept (fun k x hx9 => o1 x.1 ((hP k x hx9).lt))).app (fun k x hx9 => by
    have h0 : k < 1 := (List.getElem?_eq_some_iff.mp hx9).1
    rw [show k = 0 by omega] at hx9
    cases hx9
    show H1[H.size]? = some (vp_cell _ _)
    rw [vp_cell_q]
    exact e1)
  obtain ⟨ad2, G2, g1, g2, g3, g4, g5, g6⟩ := gw_grow ((hD G).push (e := aQ (cT t0) N (fun _ => none)) hP rfl (hA _ hS.1)) hP1
  rw [show (Value.ref H.size) = Value.ref (ad2 n) from by rw [g2]]
  exact kk ad2 G2 H1 g1 g3 g4 g5 g6 ⟨Nat.le_trans hS.1 (by omega), fun x h1 h2 => (o1 x (Nat.lt_of_lt_of_le h1 hS.1)).trans (hS.2.1 x h1 h2), hS.2.2⟩
theorem g_aastq (hx : p.tables.exec = Jvm.exec) (hb : c.code = cc) (hK : va_K D vwCl (tysC cT) s) (hP : va_P D vwCl (gw n ad G) H) (hD : ∀ G, va_D A (gw n ad G)) (hS : va_S A s.heap H locs) (t0 ci : Nat) {cA : ClassId} {r : vw_C} {i k N : Nat} {fs : List Value} {f : Nat → Option Nat} (hi : i < n) (hG : G i = aQ cA N f) (ht : (tysC cT)[t0]? = some (cA, .object r.1)) (hk : k < n) (hGk : G k = .inr (ci, fs)) (hc : vwCl[ci]? = some r) {j : Nat} (hj : j < N) (hN : N < 2 ^ 31) (hdg : decode cc pc = .ok (.aastore, 1))
    (kk : ∀ (G1 : Nat → va_E) (H1 : Heap) (locs1 : List Loc), G1 i = aQ cA N (va_up f j (some (ad k))) → (∀ j, j ≠ i → G1 j = G j) → va_P D vwCl (gw n ad G1) H1 → va_S A s.heap H1 locs1 → W p l e R s m args below meth c H1 locs1 cells slots Q (F0 m (pc + 1) ls rest)) : W p l e R s m args below meth c H locs cells slots Q (F0 m pc ls (.ref (ad k) :: .int (nI j) :: .ref (ad i) :: rest)) :=
  va_astq hx hb hK hP (hD G) hS i t0 k ci (gw_get hi hG) ht (gw_get hk hGk) hc (vp_in_nI hj hN) hdg (fun H1 locs1 h1 _ h3 => by
    rw [nI_clamp (Nat.lt_trans hj hN), gw_set _ hi] at h1
    exact kk _ H1 locs1 (va_up_self _ _ _) (fun j hj => va_up_ne _ _ hj) h1 h3)
theorem g_callC {a : Array Value} {k0 k1 : Nat} {postC : (Nat → Nat) → (Nat → va_E) → Prop} (hr : va_Run p l e R s m args below meth c H locs cells slots mc ms (F0 m pc ls st0) rest (QC D k0 k1 ad A postC a) A) (hS : va_S A s.heap H locs)
    (kk : ∀ (ad2 : Nat → Nat) (G1 : Nat → va_E) (H1 : Heap) (locs1 : List Loc), (∀ k, k < k0 → ad2 k = ad k) → (∀ G, va_D A (gw k1 ad2 G)) → postC ad2 G1 → va_P D vwCl (gw k1 ad2 G1) H1 → va_S A s.heap H1 locs1 → W p l e R s m args below meth c H1 locs1 (cells + mc) (slots + ms) Q (F0 m (pc + 3) ls rest)) : W p l e R s m args below meth c H locs cells slots Q (F0 m pc ls st0) := by
  intro T hT X
  obtain ⟨v, st₀, t, T', L, h0, X', hL, e1, e2, ⟨⟨ad2, G1, hv, g1, g2, hp, hb⟩, hz, hk⟩, st⟩ := hr T hT X
  cases hv
  rw [h0] at hz hk
  obtain ⟨t2, a1, b1⟩ := kk ad2 G1 T'.heap (locs ++ L) g1 g2 hp (by rw [e1]; exact hb)
    ⟨Nat.le_trans hS.1 (by rw [e1]; exact hz), fun q h1 h2 => by rw [e1, hk q (Nat.lt_of_lt_of_le h1 hS.1) h2]; exact hS.2.1 q h1 h2, fun q hq => by
      rcases List.mem_append.mp hq with h | h
      · exact hS.2.2 q h
      · exact hL q h⟩ T' rfl X'
  exact ⟨t2, st t2 a1, b1⟩
end GR
