def mkOut (c : ClassId) (N : Nat) (f : Nat → Nat) (i : Nat) : Cell := arrV c N (fun j => va_rf (if j < i then some (f j) else none))
theorem mkOut_set (c : ClassId) (N : Nat) (f : Nat → Nat) (i : Nat) : (mkOut c N f i).setSlot i (.ref (f i)) = mkOut c N f (i + 1) := by
  unfold mkOut
  rw [arrV_store]
  congr 1
  funext j
  unfold updV
  by_cases e : j = i
  · subst e
    rw [if_pos rfl, if_pos (by omega)]
    rfl
  · rw [if_neg e]
    show va_rf (if j < i then some (f j) else none) = va_rf (if j < i + 1 then some (f j) else none)
    by_cases h : j < i
    · rw [if_pos h, if_pos (by omega)]
    · rw [if_neg h, if_neg (by omega)]
def MkF (F : State → State) (tot ns : Nat) (PF : Heap → Nat → Prop) : Prop := ∀ s : State, (F s).heap.size = s.heap.size + tot ∧ (∀ a : Nat, a < s.heap.size → (F s).heap[a]? = s.heap[a]?) ∧ PF (F s).heap s.heap.size ∧ (F s).vm = s.vm ∧ (F s).slotsUsed = s.slotsUsed + ns ∧ ∀ f, F (s.setTop f) = (F s).setTop f
def MkL (tot : Nat) (PF : Heap → Nat → Prop) : Prop := ∀ (h h' : Heap) (b : Nat), (∀ i : Nat, i < tot → h'[b + i]? = h[b + i]?) → PF h b → PF h' b
def MkS (F : State → State) (tot ns : Nat) : Prop := ∀ ⦃p : Program⦄ ⦃l : Launch⦄ ⦃e : Env⦄ ⦃R : Room⦄ ⦃s : State⦄ ⦃m : MethodId⦄ ⦃args : Array Value⦄ ⦃below : List Frame⦄ ⦃meth : Method⦄ ⦃c : Code⦄ ⦃T : State⦄ ⦃locs : List Loc⦄ ⦃cells slots : Nat⦄, Stand p l e R s m args below meth c T locs cells slots → ∃ L : List Loc, (∀ x ∈ L, T.heap.size ≤ x.base) ∧ Stand p l e R s m args below meth c (F T) (locs ++ L) (cells + tot) (slots + ns)
def MkW (F : State → State) (vm : Vm) (comp : ClassId) (counts : List Int32) (tot ns : Nat) : Prop := ∀ (E : CtlPost) (e : Env) (d : Bool) (acts : List Action) (s : State) (Q : Addr → Pre), s.vm = vm → 1000000 ≤ e.platform.arrayLengthLimit → 1000000 ≤ e.platform.maxHeapBytes → s.heap.size + tot ≤ e.platform.maxCells → s.slotsUsed + ns ≤ e.platform.maxSlots → (∀ d' acts', Q s.heap.size d' acts' (F s)) → wp (multianewarray.make comp counts) Q E e d acts s
def fillG (F : State → State) (c : ClassId) (N tot : Nat) (s : State) : Nat → State
  | 0 => s.pushCell (mkOut c N (fun j => s.heap.size + 1 + j * tot) 0)
  | i + 1 => (F (fillG F c N tot s i)).setCell s.heap.size (mkOut c N (fun j => s.heap.size + 1 + j * tot) (i + 1))
def PFn (PF : Heap → Nat → Prop) (c : ClassId) (N tot : Nat) : Heap → Nat → Prop := fun h b => h[b]? = some (mkOut c N (fun j => b + 1 + j * tot) N) ∧ ∀ j, j < N → PF h (b + 1 + j * tot)
theorem mul_lt_blk {i j tot t : Nat} (h : j < i) (ht : t < tot) : j * tot + t < i * tot := by
  have h1 := Nat.mul_le_mul_right tot (show j + 1 ≤ i from h)
  rw [Nat.succ_mul] at h1
  omega
theorem fillG_facts {F : State → State} {tot ns : Nat} {PF : Heap → Nat → Prop} (hF : MkF F tot ns PF) (hL : MkL tot PF) (c : ClassId) (N : Nat) (s : State) : ∀ i, (fillG F c N tot s i).heap.size = s.heap.size + 1 + i * tot ∧ (∀ a : Nat, a < s.heap.size → (fillG F c N tot s i).heap[a]? = s.heap[a]?) ∧ (fillG F c N tot s i).heap[s.heap.size]? = some (mkOut c N (fun j => s.heap.size + 1 + j * tot) i) ∧ (∀ j, j < i → PF (fillG F c N tot s i).heap (s.heap.size + 1 + j * tot)) ∧ (fillG F c N tot s i).vm = s.vm ∧ (fillG F c N tot s i).slotsUsed = s.slotsUsed + N + i * ns
  | 0 => ⟨by simp [fillG], fun a ha => State.heap_pushCell_of_lt _ _ ha, by simp [fillG], fun j hj => absurd hj (Nat.not_lt_zero _), rfl, by simp [fillG, mkOut, arrV_size]⟩
  | i + 1 => by
    obtain ⟨a1, a2, a3, a4, a5, a6⟩ := fillG_facts hF hL c N s i
    obtain ⟨b1, b2, b3, b4, b5, -⟩ := hF (fillG F c N tot s i)
    have hlt : s.heap.size < (fillG F c N tot s i).heap.size := by omega
    have hself : (F (fillG F c N tot s i)).heap[s.heap.size]? = some (mkOut c N (fun j => s.heap.size + 1 + j * tot) i) := (b2 _ hlt).trans a3
    refine ⟨?_, fun a ha => ?_, ?_, fun j hj => ?_, ?_, ?_⟩
    · show ((F (fillG F c N tot s i)).setCell _ _).heap.size = _
      rw [show ((F (fillG F c N tot s i)).setCell s.heap.size (mkOut c N (fun j => s.heap.size + 1 + j * tot) (i + 1))).heap.size = (F (fillG F c N tot s i)).heap.size from by simp [State.setCell], b1, a1, Nat.succ_mul]
      omega
    · show ((F (fillG F c N tot s i)).setCell _ _).heap[a]? = _
      rw [State.heap_setCell_other (Nat.ne_of_gt ha), b2 a (by omega)]
      exact a2 a ha
    · exact State.heap_setCell_self hself
    · refine hL (F (fillG F c N tot s i)).heap _ _ (fun t ht => ?_) ?_
      · show ((F (fillG F c N tot s i)).setCell _ _).heap[_]? = _
        exact State.heap_setCell_other (show s.heap.size ≠ s.heap.size + 1 + j * tot + t by omega)
      · by_cases e : j = i
        · subst e
          rw [← a1]
          exact b3
        · refine hL (fillG F c N tot s i).heap _ _ (fun t ht => b2 _ ?_) (a4 j (by omega))
          have := mul_lt_blk (show j < i by omega) ht
          rw [a1]
          omega
    · show ((F (fillG F c N tot s i)).setCell _ _).vm = _
      exact b4.trans a5
    · show ((F (fillG F c N tot s i)).setCell _ _).slotsUsed = _
      rw [show ((F (fillG F c N tot s i)).setCell s.heap.size (mkOut c N (fun j => s.heap.size + 1 + j * tot) (i + 1))).slotsUsed = (F (fillG F c N tot s i)).slotsUsed from by simp [State.setCell, State.slotsUsed], b5, a6, Nat.succ_mul]
      omega
theorem fillG_top {F : State → State} {tot ns : Nat} {PF : Heap → Nat → Prop} (hF : MkF F tot ns PF) (c : ClassId) (N : Nat) (s : State) (f : JFrame) : ∀ i, fillG F c N tot (s.setTop f) i = (fillG F c N tot s i).setTop f
  | 0 => rfl
  | i + 1 => by
    show (F (fillG F c N tot (s.setTop f) i)).setCell _ _ = _
    rw [fillG_top hF c N s f i, (hF (fillG F c N tot s i)).2.2.2.2.2 f]
    rfl
theorem mkF_node {F : State → State} {tot ns : Nat} {PF : Heap → Nat → Prop} (hF : MkF F tot ns PF) (hL : MkL tot PF) (c : ClassId) (N : Nat) : MkF (fun s => fillG F c N tot s N) (1 + N * tot) (N + N * ns) (PFn PF c N tot) := fun s => by
  obtain ⟨a1, a2, a3, a4, a5, a6⟩ := fillG_facts hF hL c N s N
  exact ⟨by rw [a1]; omega, a2, ⟨a3, a4⟩, a5, by rw [a6]; omega, fun f => fillG_top hF c N s f N⟩
theorem mkL_node {tot : Nat} {PF : Heap → Nat → Prop} (hL : MkL tot PF) (c : ClassId) (N : Nat) : MkL (1 + N * tot) (PFn PF c N tot) := fun h h' b hq hp => by
  refine ⟨?_, fun j hj => ?_⟩
  · have h0 := hq 0 (by omega)
    exact h0.trans hp.1
  · refine hL h h' _ (fun t ht => ?_) (hp.2 j hj)
    have h1 := mul_lt_blk hj ht
    have h0 := hq (1 + (j * tot + t)) (by omega)
    rw [show b + (1 + (j * tot + t)) = b + 1 + j * tot + t by omega] at h0
    exact h0
theorem fillG_stand {F : State → State} {tot ns : Nat} {PF : Heap → Nat → Prop} (hF : MkF F tot ns PF) (hL : MkL tot PF) (hS : MkS F tot ns) (cA : ClassId) (N : Nat) {p : Program} {l : Launch} {e : Env} {R : Room} {s : State} {m : MethodId} {args : Array Value} {below : List Frame} {meth : Method} {c : Code} {T : State} {locs : List Loc} {cells slots : Nat} (X : Stand p l e R s m args below meth c T locs cells slots) : ∀ i, ∃ L : List Loc, (∀ x ∈ L, T.heap.size ≤ x.base) ∧ Stand p l e R s m args below meth c (fillG F cA N tot T i) (locs ++ L) (cells + (1 + i * tot)) (slots + (N + i * ns))
  | 0 => ⟨[], fun x h => absurd h List.not_mem_nil, by
    have h := X.pushed (mkOut cA N (fun j => T.heap.size + 1 + j * tot) 0)
    rw [show (mkOut cA N (fun j => T.heap.size + 1 + j * tot) 0).slots.size = N from arrV_size _ _ _] at h
    rw [List.append_nil, Nat.zero_mul, Nat.zero_mul]
    exact h⟩
  | i + 1 => by
    obtain ⟨L, hL1, X1⟩ := fillG_stand hF hL hS cA N X i
    obtain ⟨a1, a2, a3, a4, a5, a6⟩ := fillG_facts hF hL cA N T i
    obtain ⟨L2, hL2, X2⟩ := hS X1
    obtain ⟨b1, b2, -⟩ := hF (fillG F cA N tot T i)
    have hself : (F (fillG F cA N tot T i)).heap[T.heap.size]? = some (mkOut cA N (fun j => T.heap.size + 1 + j * tot) i) := (b2 _ (by omega)).trans a3
    have h := X2.stored hself i (.ref (T.heap.size + 1 + i * tot))
    have he : (mkOut cA N (fun j => T.heap.size + 1 + j * tot) i).setSlot i (.ref (T.heap.size + 1 + i * tot)) = mkOut cA N (fun j => T.heap.size + 1 + j * tot) (i + 1) := mkOut_set cA N (fun j => T.heap.size + 1 + j * tot) i
    rw [he] at h
    refine ⟨L ++ L2 ++ [⟨T.heap.size, i⟩], fun x hx => ?_, ?_⟩
    · rcases List.mem_append.mp hx with hx | hx
      · rcases List.mem_append.mp hx with hx | hx
        · exact hL1 x hx
        · exact Nat.le_trans (by rw [a1]; omega) (hL2 x hx)
      · rw [List.mem_singleton.mp hx]
        exact Nat.le_refl _
    · rw [Nat.succ_mul, Nat.succ_mul, show locs ++ (L ++ L2 ++ [(⟨T.heap.size, i⟩ : Loc)]) = locs ++ L ++ L2 ++ [⟨T.heap.size, i⟩] from by simp [List.append_assoc], show cells + (1 + (i * tot + tot)) = cells + (1 + i * tot) + tot by omega, show slots + (N + (i * ns + ns)) = slots + (N + i * ns) + ns by omega]
      exact h
theorem mkS_node {F : State → State} {tot ns : Nat} {PF : Heap → Nat → Prop} (hF : MkF F tot ns PF) (hL : MkL tot PF) (hS : MkS F tot ns) (cA : ClassId) (N : Nat) : MkS (fun s => fillG F cA N tot s N) (1 + N * tot) (N + N * ns) := @fun _ _ _ _ _ _ _ _ _ _ _ _ _ _ X => fillG_stand hF hL hS cA N X N
def PF1 (comp : ClassId) (N : Nat) (v : Value) : Heap → Nat → Prop := fun h b => h[b]? = some (arrV comp N (fun _ => v))
theorem mkF_leaf (comp : ClassId) (N : Nat) (v : Value) : MkF (fun s => s.pushCell (arrV comp N (fun _ => v))) 1 N (PF1 comp N v) := fun s => ⟨by simp, fun a ha => State.heap_pushCell_of_lt _ _ ha, State.heap_pushCell_size _ _, rfl, by simp [arrV_size], fun f => rfl⟩
theorem mkL_leaf (comp : ClassId) (N : Nat) (v : Value) : MkL 1 (PF1 comp N v) := fun h h' b hq hp => (hq 0 (by omega)).trans hp
theorem mkS_leaf (comp : ClassId) (N : Nat) (v : Value) : MkS (fun s => s.pushCell (arrV comp N (fun _ => v))) 1 N := @fun _ _ _ _ _ _ _ _ _ _ _ locs _ _ X => ⟨[], fun x h => absurd h List.not_mem_nil, by
  have h := X.pushed (arrV comp N (fun _ => v))
  rw [arrV_size] at h
  rw [List.append_nil]
  exact h⟩
section MKW
variable {E : CtlPost} {e : Env} {d : Bool} {acts : List Action} {s : State}
theorem mk_newArray {c comp : ClassId} {k : Class} {type : FieldType} {len : Nat} {init : Value} {Q : Addr → Pre} (hk : s.vm.classes[c]? = some k) (hkind : k.kind = .array comp type) (hfit : fits type init = true) (hdef : init.isDefault = true)
    (hl : 1000000 ≤ e.platform.arrayLengthLimit) (hh : 1000000 ≤ e.platform.maxHeapBytes) (hn : len * 8 ≤ 1000000) (hcb : componentBytes type ≤ 8) (h1 : s.heap.size + 1 ≤ e.platform.maxCells) (h2 : s.slotsUsed + len ≤ e.platform.maxSlots)
    (hq : ∀ acts', Q s.heap.size d acts' (s.pushCell (arrV c len (fun _ => init)))) : wp (Jvm.newArray c len init) Q E e d acts s := by
  have hx1 : ¬ len > e.platform.arrayLengthLimit := by omega
  have hx2 : ¬ len * componentBytes type > e.platform.maxHeapBytes := by
    have := Nat.mul_le_mul_left len hcb
    omega
  have hslot : ∀ (i : Nat) (v : Value), (Array.replicate len init)[i]? = some v → s.fitsSlot c .none i v = true := fun i v hv => by
    rw [Array.getElem?_replicate] at hv
    by_cases hi : i < len
    · rw [if_pos hi] at hv
      obtain rfl := Option.some.inj hv
      simp [State.fitsSlot, State.slotType?, hk, hkind, hfit]
    · rw [if_neg hi] at hv
      cases hv
  simp only [Jvm.newArray, Jvm.arrayFits, wp_bind', W.ask, W.ite, hx1, if_false, wp_pure', W.theClass, hk, hkind, hx2, W.alloc, W.stop, Option.some.injEq, exists_eq_left', Array.size_replicate]
  rw [if_neg (by omega)]
  refine ⟨by omega, h2, hslot, ?_⟩
  rw [arrV_new]
  exact hq _
theorem mkW_leaf {vm : Vm} {comp cc : ClassId} {kc : Class} {type : FieldType} {m : Int32} (hkc : vm.classes[comp]? = some kc) (hkind : kc.kind = .array cc type) (hm : ¬ m < 0) (hn : m.toNatClampNeg * 8 ≤ 1000000) (hcb : componentBytes type ≤ 8) (hdf : fits type (defaultValue type) = true) (hdd : (defaultValue type).isDefault = true) : MkW (fun s => s.pushCell (arrV comp m.toNatClampNeg (fun _ => defaultValue type))) vm comp [m] 1 m.toNatClampNeg := fun E e d acts s Q hvm hl hh h1 h2 hq => by
  subst hvm
  rw [multianewarray.make]
  simp only [wp_bind', W.ite, hm, if_false, wp_pure', W.theClass, hkc, hkind, Option.some.injEq, exists_eq_left']
  exact mk_newArray hkc hkind hdf hdd hl hh hn hcb h1 h2 (fun _ => hq _ _)
theorem ref_fits {t : FieldType} (h : t.isReference = true) (v : Value) (hv : v = .null ∨ ∃ a, v = .ref a) : fits t v = true := by
  rcases hv with rfl | ⟨a, rfl⟩ <;> cases t <;> simp [FieldType.isReference] at h <;> rfl
theorem mkW_node {F : State → State} {tot ns : Nat} {PF : Heap → Nat → Prop} {vm : Vm} {cA comp : ClassId} {k : Class} {t0 : FieldType} {n c2 : Int32} {rest : List Int32} (hF : MkF F tot ns PF) (hL : MkL tot PF) (hW : MkW F vm comp (c2 :: rest) tot ns) (hk : vm.classes[cA]? = some k) (hkind : k.kind = .array comp t0) (href : t0.isReference = true) (hn : ¬ n < 0) (hn8 : n.toNatClampNeg * 8 ≤ 1000000) (hcb : componentBytes t0 ≤ 8) (hneg : (c2 :: rest).find? (· < 0) = none) : MkW (fun s => fillG F cA n.toNatClampNeg tot s n.toNatClampNeg) vm cA (n :: c2 :: rest) (1 + n.toNatClampNeg * tot) (n.toNatClampNeg + n.toNatClampNeg * ns) := fun E e d acts s Q hvm hl hh h1 h2 hq => by
  subst hvm
  rw [multianewarray.make]
  simp only [wp_bind', W.ite, hn, if_false, wp_pure', W.theClass, hk, hkind, Option.some.injEq, exists_eq_left']
  refine mk_newArray hk hkind (ref_fits href _ (Or.inl rfl)) rfl hl hh hn8 hcb (by omega) (by omega) (fun acts0 => ?_)
  simp only [hneg]
  rw [ite_self, wp_bind', Std.Legacy.Range.forIn_eq_forIn_range']
  have hsz : ([:n.toNatClampNeg] : Std.Legacy.Range).size = n.toNatClampNeg := by simp [Std.Legacy.Range.size]
  rw [hsz]
  show wp (forIn (List.range' 0 n.toNatClampNeg 1) PUnit.unit _) _ E e d acts0 _
  have h0 : s.pushCell (arrV cA n.toNatClampNeg (fun _ => Value.null)) = fillG F cA n.toNatClampNeg tot s 0 := by
    show _ = s.pushCell (mkOut cA n.toNatClampNeg _ 0)
    congr 1
  refine wp_forIn_inv (fun rest' s' => ∃ i, i ≤ n.toNatClampNeg ∧ rest' = List.range' i (n.toNatClampNeg - i) ∧ s' = fillG F cA n.toNatClampNeg tot s i) _ _ ⟨0, Nat.zero_le _, rfl, h0⟩ ?_ ?_
  · rintro x rest' s' d' acts' Q' ⟨i, hi, hl9, rfl⟩ hnext
    have hlt : i < n.toNatClampNeg := by
      rcases Nat.lt_or_ge i n.toNatClampNeg with h | h
      · exact h
      · rw [show n.toNatClampNeg - i = 0 from by omega] at hl9
        cases hl9
    obtain ⟨rfl, hrest⟩ : x = i ∧ rest' = List.range' (i + 1) (n.toNatClampNeg - (i + 1)) := by
      rw [show n.toNatClampNeg - i = (n.toNatClampNeg - (i + 1)) + 1 from by omega, List.range'_succ] at hl9
      exact ⟨(List.cons.inj hl9).1, (List.cons.inj hl9).2⟩
    obtain ⟨a1, a2, a3, a4, a5, a6⟩ := fillG_facts hF hL cA n.toNatClampNeg s x
    obtain ⟨b1, b2, b3, b4, b5, -⟩ := hF (fillG F cA n.toNatClampNeg tot s x)
    have m1 := Nat.mul_le_mul_right tot (show x + 1 ≤ n.toNatClampNeg from hlt)
    have m2 := Nat.mul_le_mul_right ns (show x + 1 ≤ n.toNatClampNeg from hlt)
    rw [Nat.succ_mul] at m1 m2
    simp only [wp_bind']
    refine hW _ _ _ _ _ _ a5 hl hh (by rw [a1]; omega) (by rw [a6]; omega) (fun d2 acts2 => ?_)
    have hself : (F (fillG F cA n.toNatClampNeg tot s x)).heap[s.heap.size]? = some (mkOut cA n.toNatClampNeg (fun j => s.heap.size + 1 + j * tot) x) := (b2 _ (by omega)).trans a3
    simp only [wp_bind', W.writeLoc, wp_pure']
    refine ⟨_, hself, by simp [mkOut, arrV], by rw [show (mkOut cA n.toNatClampNeg (fun j => s.heap.size + 1 + j * tot) x).slots.size = n.toNatClampNeg from arrV_size _ _ _]; exact hlt, ?_, hnext _ _ _ ⟨x + 1, hlt, hrest, ?_⟩⟩
    · show State.fitsSlot _ cA .none _ _ = true
      simp [State.fitsSlot, State.slotType?, b4, a5, hk, hkind, ref_fits href _ (Or.inr ⟨_, rfl⟩)]
    · rw [a1]
      show _ = (F (fillG F cA n.toNatClampNeg tot s x)).setCell s.heap.size (mkOut cA n.toNatClampNeg (fun j => s.heap.size + 1 + j * tot) (x + 1))
      rw [← mkOut_set]
  · rintro s' d' acts' ⟨i, hi, hl9, rfl⟩
    have hiN : i = n.toNatClampNeg := by
      rcases Nat.lt_or_ge i n.toNatClampNeg with h | h
      · rw [show n.toNatClampNeg - i = (n.toNatClampNeg - (i + 1)) + 1 from by omega, List.range'_succ] at hl9
        cases hl9
      · omega
    subst hiN
    simp only [wp_pure']
    exact hq _ _
end MKW
