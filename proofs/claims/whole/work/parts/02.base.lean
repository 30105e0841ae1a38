def gw (n : Nat) (ad : Nat → Nat) (G : Nat → va_E) : va_W := (List.range n).map (fun i => (ad i, G i))
theorem gw_get {n : Nat} {ad : Nat → Nat} {G : Nat → va_E} {i : Nat} (h : i < n) {e : va_E} (hG : G i = e) : (gw n ad G)[i]? = some (ad i, e) := by
  unfold gw
  rw [List.getElem?_map, List.getElem?_range h, ← hG]
  rfl
theorem gw_set {n : Nat} {ad : Nat → Nat} {G : Nat → va_E} {i : Nat} (e : va_E) (h : i < n) : (gw n ad G).set i (ad i, e) = gw n ad (va_up G i e) := by
  unfold gw
  apply List.ext_getElem?
  intro j
  by_cases hj : j = i
  · subst hj
    rw [List.getElem?_set_self (by rw [List.length_map, List.length_range]; exact h), List.getElem?_map, List.getElem?_range h]
    simp [va_up]
  · rw [List.getElem?_set_ne (Ne.symm hj), List.getElem?_map, List.getElem?_map]
    by_cases hn : j < n
    · rw [List.getElem?_range hn]
      simp [va_up, hj]
    · rw [List.getElem?_eq_none (by rw [List.length_range]; omega)]
      rfl
theorem gw_push {n : Nat} {ad : Nat → Nat} {G : Nat → va_E} (q : Nat) (e : va_E) : gw n ad G ++ [(q, e)] = gw (n + 1) (va_up ad n q) (va_up G n e) := by
  unfold gw
  rw [List.range_succ, List.map_append]
  congr 1
  · apply List.map_congr_left
    intro i hi
    have h := List.mem_range.mp hi
    rw [va_up_ne _ _ (by omega), va_up_ne _ _ (by omega)]
  · simp [va_up]
theorem gw_pre {D : va_G} {cl : List vw_C} {n m : Nat} {ad : Nat → Nat} {G : Nat → va_E} {H : Heap} (hm : m ≤ n) (h : va_P D cl (gw n ad G) H) : va_P D cl (gw m ad G) H := by
  intro k q hk
  have hl : k < m := by
    have := (List.getElem?_eq_some_iff.mp hk).1
    simpa [gw] using this
  rw [gw_get hl rfl] at hk
  exact h k q (by rw [gw_get (by omega) rfl]; exact hk)
theorem gw_dis {A : Nat → Prop} {n : Nat} {ad : Nat → Nat} {G : Nat → va_E} (h : va_D A (gw n ad G)) : (∀ i j, i < n → j < n → ad i = ad j → i = j) ∧ ∀ i, i < n → A (ad i) := by
  refine ⟨fun i j hi hj e => h.1 i j (ad i, G i) (ad j, G j) (gw_get hi rfl) (gw_get hj rfl) e, fun i hi => h.2 i (ad i, G i) (gw_get hi rfl)⟩
theorem gw_of_dis {A : Nat → Prop} {n : Nat} {ad : Nat → Nat} (h1 : ∀ i j, i < n → j < n → ad i = ad j → i = j) (h2 : ∀ i, i < n → A (ad i)) (G : Nat → va_E) : va_D A (gw n ad G) := by
  have key : ∀ (i : Nat) (p : Nat × va_E), (gw n ad G)[i]? = some p → i < n ∧ p = (ad i, G i) := by
    intro i p hp
    have hl : i < n := by
      have := (List.getElem?_eq_some_iff.mp hp).1
      simpa [gw] using this
    rw [gw_get hl rfl] at hp
    exact ⟨hl, (Option.some.inj hp).symm⟩
  refine ⟨fun i j p q hi hj e => ?_, fun k q hk => ?_⟩
  · obtain ⟨a1, rfl⟩ := key i p hi
    obtain ⟨a2, rfl⟩ := key j q hj
    exact h1 i j a1 a2 e
  · obtain ⟨a1, rfl⟩ := key k q hk
    exact h2 k a1
def tysC (cT : Nat → ClassId) : List (ClassId × FieldType) := [(cT 0, .long), (cT 1, .int), (cT 2, .char), (cT 3, .boolean), (cT 4, .double), (cT 5, .object RX1), (cT 6, .object RX0), (cT 7, .array .long), (cT 8, .array .int), (cT 9, .array .char), (cT 10, .array (.array .long))]
def strL : List (Nat × String) := [(37, "no number of this kind"), (213, "no such kind"), (215, "no such row"), (52, "the row is full"), (59, "no such length of a row"), (69, "no such place"), (217, "no such bench"), (80, "no such part"), (219, "no such item"), (102, "the item is a piece"), (221, "the item is a number"), (223, "the item is a number or an iterator"), (125, "no such characteristic"), (144, "no iterator over a piece of a row of Integer"), (147, "the item is no iterator"), (211, "no such size of a piece"), (171, "nothing such to reckon"), (183, "the part is empty"), (189, "the bench has no piece")]
def nstF : List (Nat × String × String × String) := [(86, "Splityard$Bench", "size", "I"), (138, "Splityard$Bench", "ofInteger", "Z"), (94, "Splityard$Bench", "whats", "[I"), (104, "Splityard$Bench", "numbers", "[J"), (89, "Splityard$Bench", "count", "I"), (55, "Splityard$Row", "count", "I")]
def nstM : List (Nat × MethodName) := [(25, yX0_init), (30, yX1_init)]
def xIA : String := "java/lang/IllegalArgumentException"
def xIO : String := "java/lang/IndexOutOfBoundsException"
def xIS : String := "java/lang/IllegalStateException"
def xUO : String := "java/lang/UnsupportedOperationException"
def xAR : String := "java/lang/ArithmeticException"
def xcL : List String := [xIA, xIO, xIS, xUO, xAR]
def dcL : List String := ["java/lang/RuntimeException", "java/lang/Exception", "java/lang/Throwable"]
def fKI : Nat → Value := fun j => .int (nI (if j = 0 then 105 else if j = 1 then 108 else 111))
def fHO : Nat → Value := fun j => .int (nI (if j = 0 then 115 else if j = 1 then 120 else if j = 2 then 104 else 102))
def fSZ : Nat → Value := fun j => .int (nI (if j = 0 then 1 else if j = 1 then 2 else if j = 2 then 3 else 7))
def EXa (A : Nat → Prop) (U : State) (H : Heap) : Prop := vx_Zq Bundle.tN "UNASSIGNED_STACK" Bundle.steD A U H ∧ vx_Zq Bundle.tN "SUPPRESSED_SENTINEL" Bundle.listD A U H ∧ (∃ t : Nat, va_Z "Splityard" "KINDS" "[C" (.ref t) A U H ∧ va_T .char t 3 fKI A U H) ∧ (∃ t : Nat, va_Z "Splityard" "HOWS" "[C" (.ref t) A U H ∧ va_T .char t 4 fHO A U H) ∧ (∃ t : Nat, va_Z "Splityard" "SIZES_TO_CHECK" "[I" (.ref t) A U H ∧ va_T .int t 4 fSZ A U H)
def EXb (U : State) : Prop := (∀ q ∈ strL, ∃ sa, vk_R RX2 q.1 q.2 sa U) ∧ (∀ q ∈ nstF, va_Nw (.fieldLinkNest RX2 q.1 q.2.1 q.2.2.1 q.2.2.2 "Splityard") U) ∧ (∀ q ∈ nstM, va_Nw (.methodLinkNest RX2 q.1 q.2 "Splityard") U) ∧ (∀ x ∈ xcL, va_Nw (.castable x x) U) ∧ (∀ x ∈ xcL, ∀ y ∈ xcL, x ≠ y → va_Nc x y U) ∧ (∀ x ∈ dcL, va_Nw (.declares ⟨x, "<init>", "(Ljava/lang/String;)V"⟩) U)
def EX (A : Nat → Prop) (U : State) : Prop := EXa A U U.heap ∧ EXb U
theorem EXa.moved {A : Nat → Prop} {s U : State} {H H1 : Heap} (h : EXa A s H) (hvm : s.vm.Alike U.vm) (hq : ∀ a : Nat, a < H.size → ¬ A a → H1[a]? = H[a]?) : EXa A U H1 := by
  obtain ⟨h1, h2, ⟨t3, h3, h3'⟩, ⟨t4, h4, h4'⟩, ⟨t5, h5, h5'⟩⟩ := h
  exact ⟨vx_Zq.moved hvm (h1.kept hq), vx_Zq.moved hvm (h2.kept hq), ⟨t3, va_Z.moved hvm (h3.kept hq), va_T.moved hvm (h3'.kept hq)⟩, ⟨t4, va_Z.moved hvm (h4.kept hq), va_T.moved hvm (h4'.kept hq)⟩, ⟨t5, va_Z.moved hvm (h5.kept hq), va_T.moved hvm (h5'.kept hq)⟩⟩
theorem EXb.warm {s U : State} (h : EXb s) (hW : s.WarmedH U.vm) : EXb U := by
  obtain ⟨h1, h2, h3, h4, h5, h6⟩ := h
  exact ⟨fun q hq => by obtain ⟨sa, h⟩ := h1 q hq; exact ⟨sa, vk_R.warm hW h⟩, fun q hq => va_Nw.warmF hW (h2 q hq), fun q hq => va_Nw.warmM hW (h3 q hq), fun x hx => va_Nw.warmC hW (h4 x hx), fun x hx y hy hn => va_Nc.moved hW.alike (h5 x hx y hy hn), fun x hx => va_Nw.warmD hW (h6 x hx)⟩
theorem EXb.same {s U : State} (h : EXb s) (hv : U.vm = s.vm) : EXb U := by
  obtain ⟨h1, h2, h3, h4, h5, h6⟩ := h
  exact ⟨fun q hq => by obtain ⟨sa, h⟩ := h1 q hq; exact ⟨sa, vk_R.same hv h⟩, fun q hq => va_Nw.same rfl hv.symm (h2 q hq), fun q hq => va_Nw.same rfl hv.symm (h3 q hq), fun x hx => va_Nw.same rfl hv.symm (h4 x hx), fun x hx y hy hn => va_Nc.moved (by rw [hv]; exact Vm.Alike.refl _) (h5 x hx y hy hn), fun x hx => va_Nw.same rfl hv.symm (h6 x hx)⟩
def QG (D : va_G) (n : Nat) (ad : Nat → Nat) (A : Nat → Prop) (post : Option Value → (Nat → va_E) → Prop) : Array Value → State → Outcome → State → Prop := fun _ st oc t => (∃ (v : Option Value) (G : Nat → va_E), oc = .returned v ∧ post v G ∧ va_P D vwCl (gw n ad G) t.heap) ∧ va_F A st t
def PG (D : va_G) (cT : Nat → ClassId) (n : Nat) (ad : Nat → Nat) (A : Nat → Prop) (G : Nat → va_E) (as : List Value) : Array Value → State → Prop := va_Pc as (fun U => va_P D vwCl (gw n ad G) U.heap ∧ va_K D vwCl (tysC cT) U ∧ EX A U ∧ ∀ q, U.heap.size ≤ q → A q)
theorem EX.kept {A : Nat → Prop} {s U : State} {H0 : Heap} {locs : List Loc} (h : EX A s) (hW : s.WarmedH U.vm) (hS : va_S A s.heap H0 locs) (hU : U.heap = H0) : EX A U :=
  ⟨h.1.moved hW.alike (fun a h1 h2 => by rw [hU]; exact hS.2.1 a h1 h2), h.2.warm hW⟩
theorem PG_blind {D : va_G} {cT : Nat → ClassId} {n : Nat} {ad : Nat → Nat} {A : Nat → Prop} {G : Nat → va_E} {as : List Value} : FrameBlind (PG D cT n ad A G as) := by
  intro a U g mk h
  obtain ⟨h1, h2, h3, h4, h5⟩ := h
  exact ⟨h1, h2, va_K.moved (u := U) (U := U.calling g mk a) (Vm.Alike.refl U.vm) h3, ⟨EXa.moved (s := U) (U := U.calling g mk a) h4.1 (Vm.Alike.refl U.vm) (fun _ _ _ => rfl), EXb.same (U := U.calling g mk a) h4.2 rfl⟩, h5⟩
section GB
variable {p : Program} {l : Launch} {e : Env} {R : Room} {s : State} {m : MethodId} {args : Array Value} {below : List Frame} {meth : Method} {c : Code} {H : Heap} {locs : List Loc} {cells slots : Nat} {Q : State → Prop}
variable {cc : ByteArray} {pc : Nat} {ls : Array Slot} {rest st0 : List Value} {D : va_G} {cT : Nat → ClassId} {n : Nat} {ad : Nat → Nat} {A : Nat → Prop} {G : Nat → va_E} {post : Option Value → (Nat → va_E) → Prop} {mc ms : Nat}
theorem Met.ofG {y : MethodName} {rm : Room} {maxL : Nat} {ret : Option FieldType} {as : List Value}
    (hy : plainName y.cls = true) (hlen : (lg_sl as).length ≤ maxL)
    (body : ∀ (p : Program) (e : Env) (s : State) (m : MethodId) (args : Array Value) (below : List Frame) (meth : Method) (c : Code) (Q : State → Prop), (∀ t, MQ below (QG D n ad A post) args s mc ms A t → Q t) → p.tables.exec = Jvm.exec → c.code = cc → meth.sig.returnType = ret → c.maxLocals = maxL → meth.locks = false → s.vm.findClass y.cls = some m.cls → (∀ w ∈ WA, w.before args s = true) →
      va_P D vwCl (gw n ad G) s.heap → va_K D vwCl (tysC cT) s → EX A s → (∀ q, s.heap.size ≤ q → A q) → va_S A s.heap s.heap [] → ∀ ls : Array Slot, lv_has ls maxL (lv_args 0 as) →
      W p l e rm s m args below meth c s.heap [] 0 0 Q (F0 m 0 ls [])) : Met l y (wA y cc maxL ret) rm (PG D cT n ad A G as) (QG D n ad A post) mc ms A := by
  refine Met.ofW (cc := cc) (maxL := maxL) (ret := ret) hy rfl ?_
  intro p e s m args below meth c s₁ B hml hv
  obtain ⟨rfl, hP, hK, hE, hA⟩ := hv
  have hl := lv_entry as (n := maxL) hlen
  rw [lg_entry_eq]
  exact body p e s m _ below meth c _ (fun _ h => h) B.exec B.bytes B.returns hml B.notSynchronized (findClass_of_methodNamed B.named) (fun w hw => atoms_spec (ws := wA y cc maxL ret) B.pre w (List.mem_cons_of_mem _ hw)) hP hK hE hA va_S.rf _ hl
theorem W.toQ {Q2 : State → Prop} {g : JFrame} (hQ : ∀ t, Q2 t → Q t) (h : W p l e R s m args below meth c H locs cells slots Q2 g) : W p l e R s m args below meth c H locs cells slots Q g := fun T hT X => by
  obtain ⟨t, a, b⟩ := h T hT X
  exact ⟨t, a, hQ t b⟩
theorem g_ret {ty : FieldType} {x : Int32} (hQ : ∀ t, MQ below (QG D n ad A post) args s mc ms A t → Q t) (hx : p.tables.exec = Jvm.exec) (hb : c.code = cc) (hr : meth.sig.returnType = some ty) (hlocks : meth.locks = false) (hn : narrow ty (.int x) = .int x) (hP : va_P D vwCl (gw n ad G) H) (hS : va_S A s.heap H locs) (hp : post (some (.int x)) G) (hc : cells ≤ mc) (hs : slots ≤ ms) (hdg : decode cc pc = .ok (.ireturn, 1)) :
    W p l e R s m args below meth c H locs cells slots Q (F0 m pc ls [.int x]) :=
  W.toQ hQ (W.widen hc hs (W.zret hx hb hr hn (fun t ht _ => ⟨⟨some (.int x), G, rfl, hp, by rw [ht]; exact hP⟩, hS.F ht⟩) hS.2.2 hdg hlocks))
theorem g_retv (hQ : ∀ t, MQ below (QG D n ad A post) args s mc ms A t → Q t) (hx : p.tables.exec = Jvm.exec) (hb : c.code = cc) (hr : meth.sig.returnType = none) (hlocks : meth.locks = false) (hP : va_P D vwCl (gw n ad G) H) (hS : va_S A s.heap H locs) (hp : post none G) (hc : cells ≤ mc) (hs : slots ≤ ms) (hdg : decode cc pc = .ok (.return_, 1)) :
    W p l e R s m args below meth c H locs cells slots Q (F0 m pc ls []) :=
  W.toQ hQ (W.widen hc hs (W.vret hx hb hr (fun t ht _ => ⟨⟨none, G, rfl, hp, by rw [ht]; exact hP⟩, hS.F ht⟩) hS.2.2 hdg hlocks))
theorem g_retl {x : Int64} (hQ : ∀ t, MQ below (QG D n ad A post) args s mc ms A t → Q t) (hx : p.tables.exec = Jvm.exec) (hb : c.code = cc) (hr : meth.sig.returnType = some .long) (hlocks : meth.locks = false) (hP : va_P D vwCl (gw n ad G) H) (hS : va_S A s.heap H locs) (hp : post (some (.long x)) G) (hc : cells ≤ mc) (hs : slots ≤ ms) (hdg : decode cc pc = .ok (.lreturn, 1)) :
    W p l e R s m args below meth c H locs cells slots Q (F0 m pc ls [.long x]) :=
  W.toQ hQ (W.widen hc hs (W.lret hx hb hr (fun t ht _ => ⟨⟨some (.long x), G, rfl, hp, by rw [ht]; exact hP⟩, hS.F ht⟩) hS.2.2 hdg hlocks))
theorem g_retd {x : UInt64} (hQ : ∀ t, MQ below (QG D n ad A post) args s mc ms A t → Q t) (hx : p.tables.exec = Jvm.exec) (hb : c.code = cc) (hr : meth.sig.returnType = some .double) (hlocks : meth.locks = false) (hP : va_P D vwCl (gw n ad G) H) (hS : va_S A s.heap H locs) (hp : post (some (.double x)) G) (hc : cells ≤ mc) (hs : slots ≤ ms) (hdg : decode cc pc = .ok (.dreturn, 1)) :
    W p l e R s m args below meth c H locs cells slots Q (F0 m pc ls [.double x]) :=
  W.toQ hQ (W.widen hc hs (W.dret hx hb hr (fun t ht _ => ⟨⟨some (.double x), G, rfl, hp, by rw [ht]; exact hP⟩, hS.F ht⟩) hS.2.2 hdg hlocks))
theorem g_retf {x : UInt32} (hQ : ∀ t, MQ below (QG D n ad A post) args s mc ms A t → Q t) (hx : p.tables.exec = Jvm.exec) (hb : c.code = cc) (hr : meth.sig.returnType = some .float) (hlocks : meth.locks = false) (hP : va_P D vwCl (gw n ad G) H) (hS : va_S A s.heap H locs) (hp : post (some (.float x)) G) (hc : cells ≤ mc) (hs : slots ≤ ms) (hdg : decode cc pc = .ok (.freturn, 1)) :
    W p l e R s m args below meth c H locs cells slots Q (F0 m pc ls [.float x]) :=
  W.toQ hQ (W.widen hc hs (W.fret hx hb hr (fun t ht _ => ⟨⟨some (.float x), G, rfl, hp, by rw [ht]; exact hP⟩, hS.F ht⟩) hS.2.2 hdg hlocks))
theorem g_reta {a : Nat} {rt : String} (hQ : ∀ t, MQ below (QG D n ad A post) args s mc ms A t → Q t) (hx : p.tables.exec = Jvm.exec) (hb : c.code = cc) (hr : meth.sig.returnType = some (.object rt)) (hlocks : meth.locks = false) (hP : va_P D vwCl (gw n ad G) H) (hS : va_S A s.heap H locs) (hp : post (some (.ref a)) G) (hc : cells ≤ mc) (hs : slots ≤ ms) (hdg : decode cc pc = .ok (.areturn, 1)) :
    W p l e R s m args below meth c H locs cells slots Q (F0 m pc ls [.ref a]) :=
  W.toQ hQ (W.widen hc hs (W.aret hx hb hr (Or.inl ⟨rt, rfl⟩) (Or.inr ⟨a, rfl⟩) (fun t ht _ => ⟨⟨some (.ref a), G, rfl, hp, by rw [ht]; exact hP⟩, hS.F ht⟩) hS.2.2 hdg hlocks))
theorem g_callR {a : Array Value} (hr : va_Run p l e R s m args below meth c H locs cells slots mc ms (F0 m pc ls st0) rest (QG D n ad A post a) A) (hS : va_S A s.heap H locs)
    (kk : ∀ (v : Option Value) (G1 : Nat → va_E) (H1 : Heap) (locs1 : List Loc), post v G1 → va_P D vwCl (gw n ad G1) H1 → va_S A s.heap H1 locs1 → W p l e R s m args below meth c H1 locs1 (cells + mc) (slots + ms) Q (F0 m (pc + 3) ls (v.toList ++ rest))) : W p l e R s m args below meth c H locs cells slots Q (F0 m pc ls st0) := by
  intro T hT X
  obtain ⟨v, st₀, t, T', L, h0, X', hL, e1, e2, ⟨⟨r, G1, hv, hp, hb⟩, hz, hk⟩, st⟩ := hr T hT X
  cases hv
  rw [h0] at hz hk
  obtain ⟨t2, a1, b1⟩ := kk v G1 T'.heap (locs ++ L) hp (by rw [e1]; exact hb)
    ⟨Nat.le_trans hS.1 (by rw [e1]; exact hz), fun q h1 h2 => by rw [e1, hk q (Nat.lt_of_lt_of_le h1 hS.1) h2]; exact hS.2.1 q h1 h2, fun q hq => by
      rcases List.mem_append.mp hq with h | h
      · exact hS.2.2 q h
      · exact hL q h⟩ T' rfl X'
  exact ⟨t2, st t2 a1, b1⟩
theorem PG_at {as : List Value} (hK : va_K D vwCl (tysC cT) s) (hE : EX A s) (hA : ∀ q, s.heap.size ≤ q → A q) (hP : va_P D vwCl (gw n ad G) H) (hS : va_S A s.heap H locs) : ∀ U : State, U.heap = H → s.WarmedH U.vm → PG D cT n ad A G as as.toArray U := fun U hU hW =>
  ⟨rfl, by rw [hU]; exact hP, va_K.moved hW.alike hK, hE.kept hW hS hU, fun q hq => hA q (Nat.le_trans hS.1 (by rw [← hU]; exact hq))⟩
theorem g_callV {y : MethodName} {bytes : ByteArray} {maxL nL index na : Nat} {ret : Option FieldType} {ws Ts : List Cond} {rm : Room} {own : String} {As : List Value} {k ci : Nat} {fs : List Value} {q : vw_C}
    (S : CallFix p m c cc nL s args Ts own) (hM : Met l y ws rm (PG D cT n ad A G (.ref (ad k) :: As)) (QG D n ad A post) mc ms A) (cw : CallW R s args own q.1 index y bytes maxL ret ws rm mc ms na)
    (hK : va_K D vwCl (tysC cT) s) (hE : EX A s) (hA : ∀ q, s.heap.size ≤ q → A q) (hP : va_P D vwCl (gw n ad G) H) (hS : va_S A s.heap H locs) (hk : k < n) (hG : G k = .inr (ci, fs)) (hc : vwCl[ci]? = some q)
    (hn : As.length = na) (hsize : ls.size = nL) (hW : 2 * (F0 m pc ls (As.reverse ++ .ref (ad k) :: rest)).monitorRoom + (rest.map fun v => v.category).sum ≤ 8) (hdg : decode cc pc = .ok (.invokevirtual index, 3)) (hf : cells + mc ≤ R.cells ∧ slots + ms ≤ R.slots)
    (kk : ∀ (v : Option Value) (G1 : Nat → va_E) (H1 : Heap) (locs1 : List Loc), post v G1 → va_P D vwCl (gw n ad G1) H1 → va_S A s.heap H1 locs1 → W p l e R s m args below meth c H1 locs1 (cells + mc) (slots + ms) Q (F0 m (pc + 3) ls (v.toList ++ rest))) : W p l e R s m args below meth c H locs cells slots Q (F0 m pc ls (As.reverse ++ .ref (ad k) :: rest)) :=
  g_callR (va_runV (As := As) (rest := rest) (g := F0 m pc ls (As.reverse ++ .ref (ad k) :: rest)) S hM cw ⟨PG_blind, va_recv hK hP hc (q0 := k) (gw_get hk hG), PG_at hK hE hA hP hS⟩ rfl hn hsize rfl hW hdg hf) hS kk
theorem g_callS {y : MethodName} {bytes : ByteArray} {maxL nL index na : Nat} {ret : Option FieldType} {ws Ts : List Cond} {rm : Room} {own : String} {As : List Value}
    (S : CallFix p m c cc nL s args Ts own) (hM : Met l y ws rm (PG D cT n ad A G As) (QG D n ad A post) mc ms A) (cw : CallB R s args own index y bytes maxL ret ws rm mc ms na ∧ (Cond.static y).before args s = true)
    (hK : va_K D vwCl (tysC cT) s) (hE : EX A s) (hA : ∀ q, s.heap.size ≤ q → A q) (hP : va_P D vwCl (gw n ad G) H) (hS : va_S A s.heap H locs)
    (hn : As.length = na) (hsize : ls.size = nL) (hW : 2 * (F0 m pc ls (As.reverse ++ rest)).monitorRoom + (rest.map fun v => v.category).sum ≤ 8) (hdg : decode cc pc = .ok (.invokestatic index, 3)) (hf : cells + mc ≤ R.cells ∧ slots + ms ≤ R.slots)
    (kk : ∀ (v : Option Value) (G1 : Nat → va_E) (H1 : Heap) (locs1 : List Loc), post v G1 → va_P D vwCl (gw n ad G1) H1 → va_S A s.heap H1 locs1 → W p l e R s m args below meth c H1 locs1 (cells + mc) (slots + ms) Q (F0 m (pc + 3) ls (v.toList ++ rest))) : W p l e R s m args below meth c H locs cells slots Q (F0 m pc ls (As.reverse ++ rest)) :=
  g_callR (va_runS (As := As) (rest := rest) (g := F0 m pc ls (As.reverse ++ rest)) S hM cw ⟨PG_blind, PG_at hK hE hA hP hS⟩ rfl hn hsize rfl hW hdg hf) hS kk
end GB
