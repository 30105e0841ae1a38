def xnm : List String := ["java/lang/RuntimeException", "java/lang/Exception"]
def atOK (ic : Nat) (X : String) : Prop := (∀ w ∈ vx_atS RX2 ic X xnm, (goodWord w = true ∧ w ∈ lw_tbl) ∨ w = .castable X X ∨ ∃ x ∈ dcL, w = .declares ⟨x, "<init>", "(Ljava/lang/String;)V"⟩) ∧ ∀ w ∈ vx_atS RX2 ic X xnm, vx_ot w = true
theorem atOK_of {ic : Nat} {X : String} (h : (vx_atS RX2 ic X xnm).all (fun w => (goodWord w && decide (w ∈ lw_tbl)) || (decide (w = .castable X X) || dcL.any (fun x => decide (w = .declares ⟨x, "<init>", "(Ljava/lang/String;)V"⟩)))) = true) (h2 : (vx_atS RX2 ic X xnm).all vx_ot = true) : atOK ic X := by
  refine ⟨fun w hw => ?_, fun w hw => List.all_eq_true.mp h2 w hw⟩
  have h1 := List.all_eq_true.mp h w hw
  rcases Bool.or_eq_true _ _ ▸ h1 with g | g
  · rw [Bool.and_eq_true] at g
    exact Or.inl ⟨g.1, of_decide_eq_true g.2⟩
  · rcases Bool.or_eq_true _ _ ▸ g with g | g
    · exact Or.inr (Or.inl (of_decide_eq_true g))
    · obtain ⟨x, hx, hy⟩ := List.any_eq_true.mp g
      exact Or.inr (Or.inr ⟨x, hx, of_decide_eq_true hy⟩)
theorem at_IA : atOK 39 xIA := atOK_of (by decide +kernel) (by decide +kernel)
theorem at_IS : atOK 54 xIS := atOK_of (by decide +kernel) (by decide +kernel)
theorem at_IO : atOK 71 xIO := atOK_of (by decide +kernel) (by decide +kernel)
theorem at_UO : atOK 146 xUO := atOK_of (by decide +kernel) (by decide +kernel)
theorem at_AR : atOK 185 xAR := atOK_of (by decide +kernel) (by decide +kernel)
def XG (D : va_G) (n : Nat) (ad : Nat → Nat) (A : Nat → Prop) (G : Nat → va_E) (px : String → Prop) : String → State → State → Prop := fun E st t => (px E ∧ va_P D vwCl (gw n ad G) t.heap) ∧ va_F A st t
section GX
variable {p : Program} {l : Launch} {e : Env} {R : Room} {s : State} {m : MethodId} {args : Array Value} {below : List Frame} {meth : Method} {c : Code} {H : Heap} {locs : List Loc} {cells slots : Nat} {Q : State → Prop}
variable {cc : ByteArray} {pc : Nat} {ls : Array Slot} {rest st0 : List Value} {D : va_G} {cT : Nat → ClassId} {n : Nat} {ad : Nat → Nat} {A : Nat → Prop} {G G0 : Nat → va_E} {post : Option Value → (Nat → va_E) → Prop} {px pxc : String → Prop} {mc ms mk9 sk9 : Nat}
theorem vx_ofG {y : MethodName} {rm : Room} {maxL : Nat} {ret : Option FieldType} {as : List Value}
    (hy : plainName y.cls = true) (hlen : (lg_sl as).length ≤ maxL)
    (body : ∀ (p : Program) (e : Env) (s : State) (m : MethodId) (args : Array Value) (below : List Frame) (meth : Method) (c : Code) (Q : State → Prop), (∀ t, MQ below (QG D n ad A post) args s mc ms A t → Q t) → (∀ t, vx_MQ below (QG D n ad A post) (XG D n ad A G px) args s mc ms A t → Q t) → (∀ x ∈ c.exceptionTable.toList, False) → p.tables.exec = Jvm.exec → c.code = cc → meth.sig.returnType = ret → c.maxLocals = maxL → meth.locks = false → s.vm.findClass y.cls = some m.cls → (∀ w ∈ WA, w.before args s = true) →
      va_P D vwCl (gw n ad G) s.heap → va_K D vwCl (tysC cT) s → EX A s → (∀ q, s.heap.size ≤ q → A q) → va_S A s.heap s.heap [] → ∀ ls : Array Slot, lv_has ls maxL (lv_args 0 as) →
      W p l e rm s m args below meth c s.heap [] 0 0 Q (F0 m 0 ls [])) : vx_Met l y (wA y cc maxL ret) rm (PG D cT n ad A G as) (QG D n ad A post) (XG D n ad A G px) mc ms A := by
  refine vx_ofW (cc := cc) (maxL := maxL) (ret := ret) hy rfl ?_
  intro p e s m args below meth c s₁ B hml ht hv
  obtain ⟨rfl, hP, hK, hE, hA⟩ := hv
  have hl := lv_entry as (n := maxL) hlen
  rw [lg_entry_eq]
  exact body p e s m _ below meth c _ (fun t h => by obtain ⟨o, b1, b2, b3, b4⟩ := h; exact ⟨o, b1, b2, Or.inl ⟨b3, b4⟩⟩) (fun _ h => h) ht B.exec B.bytes B.returns hml B.notSynchronized (findClass_of_methodNamed B.named) (fun w hw => atoms_spec (ws := wA y cc maxL ret) B.pre w (List.mem_cons_of_mem _ hw)) hP hK hE hA va_S.rf _ hl
theorem vx_W.toQ {Q2 : State → Prop} {g : JFrame} {q : Addr} (hQ : ∀ t, Q2 t → Q t) (h : vx_W p l e R s m args below meth c H locs cells slots Q2 g q) : vx_W p l e R s m args below meth c H locs cells slots Q g q := fun T hT X => by
  obtain ⟨t, a, b⟩ := h T hT X
  exact ⟨t, a, hQ t b⟩
theorem g_throwS {cls text : String} {ik is ic : Nat} (hX : ∀ t, vx_MQ below (QG D n ad A post) (XG D n ad A G px) args s mc ms A t → Q t) (ht : ∀ x ∈ c.exceptionTable.toList, False) (hx : p.tables.exec = Jvm.exec) (hb : c.code = cc) (hl : l.stackTraces = false)
    (hown : s.vm.findClass RX2 = some m.cls) (hlocks : meth.locks = false) (hw : ∀ w ∈ WA, w.before args s = true) (hE : EX A s) (hP : va_P D vwCl (gw n ad G) H) (hS : va_S A s.heap H locs) (hsize : ls.size = c.maxLocals)
    (hcls : Bundle.fit cls = true) (hxc : cls ∈ xcL) (hat : atOK ic cls) (hk : Cond.classLink RX2 ik cls ∈ WA) (hini : Cond.initialized cls ∈ WA) (hstr : (is, text) ∈ strL) (hpx : px cls)
    (d0 : decode cc pc = .ok (.new ik, 3)) (d3 : decode cc (pc + 3) = .ok (.dup, 1)) (d4 : decode cc (pc + 4) = .ok (.ldc is, 2)) (d6 : decode cc (pc + 6) = .ok (.invokespecial ic, 3)) (d9 : decode cc (pc + 9) = .ok (.athrow, 1))
    (hRframes : 5 < R.frames) (hRlocals : (rest.map fun v => v.category).sum + 82 ≤ R.locals) (hRcells : cells + 1 ≤ R.cells) (hRslots : slots + 6 ≤ R.slots) (hc : cells + 1 ≤ mc) (hs : slots + 6 ≤ ms) :
    W p l e R s m args below meth c H locs cells slots Q (F0 m pc ls rest) := by
  obtain ⟨sa, hsa⟩ := hE.2.1 (is, text) hstr
  refine W.toQ hX (vx_throwS (names := xnm) (A := A) hx hb hl hown hcls (by decide +kernel) (hw _ hk) (hw _ hini) hsa ?_ ?_ hE.1.1 hE.1.2.1 hS hsize d0 d3 d4 d6 d9 (fun x hx => (ht x hx).elim) hRframes hRlocals hRcells hRslots hlocks ?_ hS.2.2 hc hs)
  · intro w hw9
    rcases hat.1 w hw9 with ⟨g1, g2⟩ | rfl | ⟨x, hx9, rfl⟩
    · exact hw w (WA_in g2 g1)
    · exact va_Nw.use rfl (hE.2.2.2.2.1 cls hxc)
    · exact va_Nw.use rfl (hE.2.2.2.2.2.2 x hx9)
  · intro w hw9
    rcases List.mem_cons.mp hw9 with rfl | hw9
    · rfl
    rcases List.mem_cons.mp hw9 with rfl | hw9
    · rfl
    exact hat.2 w hw9
  · intro t hvm hz hk9
    refine ⟨⟨hpx, fun k q hq => ?_⟩, Nat.le_trans hS.1 hz, fun q h1 h2 => ?_⟩
    · have h := hP k q hq
      exact h.kept (hk9 q.1 h.lt)
    · rw [hk9 q (Nat.lt_of_lt_of_le h1 hS.1)]
      exact hS.2.1 q h1 h2
theorem g_out {E : String} {ce : Cell} {q : Addr} (hX : ∀ t, vx_MQ below (QG D n ad A post) (XG D n ad A G px) args s mc ms A t → Q t) (ht : ∀ x ∈ c.exceptionTable.toList, False) (hlocks : meth.locks = false) (hP : va_P D vwCl (gw n ad G) H) (hS : va_S A s.heap H locs) (hpx : px E) (hcell : H[q]? = some ce) (hv : ce.vm = .none) (hcl : s.vm.findClass E = some ce.cls) (hc : cells ≤ mc) (hs : slots ≤ ms) :
    vx_W p l e R s m args below meth c H locs cells slots Q (F0 m pc ls rest) q :=
  vx_W.toQ hX (vx_out (fun x hx => (ht x hx).elim) hlocks hcell hv hcl (fun t hH _ => ⟨⟨hpx, by rw [hH]; exact hP⟩, hS.F hH⟩) hS.2.2 hc hs)
theorem g_callRX {a : Array Value} (hr : vx_Run p l e R s m args below meth c H locs cells slots mk9 sk9 (F0 m pc ls st0) rest (QG D n ad A post a) (XG D n ad A G pxc) A) (hS : va_S A s.heap H locs)
    (kx : ∀ (E : String) (ce : Cell) (q : Addr) (H1 : Heap) (locs1 : List Loc), pxc E → va_P D vwCl (gw n ad G) H1 → va_S A s.heap H1 locs1 → H1[q]? = some ce → ce.vm = .none → s.vm.findClass E = some ce.cls → vx_W p l e R s m args below meth c H1 locs1 (cells + mk9) (slots + sk9) Q (F0 m pc ls rest) q)
    (kk : ∀ (v : Option Value) (G1 : Nat → va_E) (H1 : Heap) (locs1 : List Loc), post v G1 → va_P D vwCl (gw n ad G1) H1 → va_S A s.heap H1 locs1 → W p l e R s m args below meth c H1 locs1 (cells + mk9) (slots + sk9) Q (F0 m (pc + 3) ls (v.toList ++ rest))) : W p l e R s m args below meth c H locs cells slots Q (F0 m pc ls st0) := by
  intro T hT X
  rcases hr T hT X with ⟨v, st₀, t, T', L, h0, X', hL, e1, e2, ⟨⟨r, G1, hv, hp, hb⟩, hF⟩, st⟩ | ⟨q, st₀, t, T', L, E, ce, h0, X', hL, e1, e2, ⟨⟨hp, hb⟩, hF⟩, hce, hcv, hcl, st⟩
  · cases hv
    obtain ⟨k1, k2, k3⟩ := vx_keep h0 e1 hS (fun _ _ h => h) (fun _ h => h) hL hF
    obtain ⟨t2, a1, b1⟩ := kk v G1 T'.heap (locs ++ L) hp (by rw [e1]; exact hb) k3 T' rfl X'
    exact ⟨t2, st t2 a1, b1⟩
  · obtain ⟨k1, k2, k3⟩ := vx_keep h0 e1 hS (fun _ _ h => h) (fun _ h => h) hL hF
    obtain ⟨t2, a1, b1⟩ := kx E ce q T'.heap (locs ++ L) hp (by rw [e1]; exact hb) k3 (by rw [e1]; exact hce) hcv hcl T' rfl X'
    exact ⟨t2, st.trans a1, b1⟩
theorem g_callVX {y : MethodName} {bytes : ByteArray} {maxL nL index na : Nat} {ret : Option FieldType} {ws Ts : List Cond} {rm : Room} {own : String} {As : List Value} {k ci : Nat} {fs : List Value} {q : vw_C}
    (S : CallFix p m c cc nL s args Ts own) (hM : vx_Met l y ws rm (PG D cT n ad A G (.ref (ad k) :: As)) (QG D n ad A post) (XG D n ad A G pxc) mk9 sk9 A) (cw : CallW R s args own q.1 index y bytes maxL ret ws rm mk9 sk9 na)
    (hK : va_K D vwCl (tysC cT) s) (hE : EX A s) (hA : ∀ q, s.heap.size ≤ q → A q) (hP : va_P D vwCl (gw n ad G) H) (hS : va_S A s.heap H locs) (hk : k < n) (hG : G k = .inr (ci, fs)) (hc : vwCl[ci]? = some q)
    (hn : As.length = na) (hsize : ls.size = nL) (hW : 2 * (F0 m pc ls (As.reverse ++ .ref (ad k) :: rest)).monitorRoom + (rest.map fun v => v.category).sum ≤ 8) (hdg : decode cc pc = .ok (.invokevirtual index, 3)) (hf : cells + mk9 ≤ R.cells ∧ slots + sk9 ≤ R.slots)
    (kx : ∀ (E : String) (ce : Cell) (q : Addr) (H1 : Heap) (locs1 : List Loc), pxc E → va_P D vwCl (gw n ad G) H1 → va_S A s.heap H1 locs1 → H1[q]? = some ce → ce.vm = .none → s.vm.findClass E = some ce.cls → vx_W p l e R s m args below meth c H1 locs1 (cells + mk9) (slots + sk9) Q (F0 m pc ls rest) q)
    (kk : ∀ (v : Option Value) (G1 : Nat → va_E) (H1 : Heap) (locs1 : List Loc), post v G1 → va_P D vwCl (gw n ad G1) H1 → va_S A s.heap H1 locs1 → W p l e R s m args below meth c H1 locs1 (cells + mk9) (slots + sk9) Q (F0 m (pc + 3) ls (v.toList ++ rest))) : W p l e R s m args below meth c H locs cells slots Q (F0 m pc ls (As.reverse ++ .ref (ad k) :: rest)) :=
  g_callRX (vx_runV (As := As) (rest := rest) (g := F0 m pc ls (As.reverse ++ .ref (ad k) :: rest)) S hM cw ⟨PG_blind, va_recv hK hP hc (q0 := k) (gw_get hk hG), PG_at hK hE hA hP hS⟩ rfl hn hsize rfl hW hdg hf) hS kx kk
theorem g_callSX {y : MethodName} {bytes : ByteArray} {maxL nL index na : Nat} {ret : Option FieldType} {ws Ts : List Cond} {rm : Room} {own : String} {As : List Value}
    (S : CallFix p m c cc nL s args Ts own) (hM : vx_Met l y ws rm (PG D cT n ad A G As) (QG D n ad A post) (XG D n ad A G pxc) mk9 sk9 A) (cw : CallB R s args own index y bytes maxL ret ws rm mk9 sk9 na ∧ (Cond.static y).before args s = true)
    (hK : va_K D vwCl (tysC cT) s) (hE : EX A s) (hA : ∀ q, s.heap.size ≤ q → A q) (hP : va_P D vwCl (gw n ad G) H) (hS : va_S A s.heap H locs)
    (hn : As.length = na) (hsize : ls.size = nL) (hW : 2 * (F0 m pc ls (As.reverse ++ rest)).monitorRoom + (rest.map fun v => v.category).sum ≤ 8) (hdg : decode cc pc = .ok (.invokestatic index, 3)) (hf : cells + mk9 ≤ R.cells ∧ slots + sk9 ≤ R.slots)
    (kx : ∀ (E : String) (ce : Cell) (q : Addr) (H1 : Heap) (locs1 : List Loc), pxc E → va_P D vwCl (gw n ad G) H1 → va_S A s.heap H1 locs1 → H1[q]? = some ce → ce.vm = .none → s.vm.findClass E = some ce.cls → vx_W p l e R s m args below meth c H1 locs1 (cells + mk9) (slots + sk9) Q (F0 m pc ls rest) q)
    (kk : ∀ (v : Option Value) (G1 : Nat → va_E) (H1 : Heap) (locs1 : List Loc), post v G1 → va_P D vwCl (gw n ad G1) H1 → va_S A s.heap H1 locs1 → W p l e R s m args below meth c H1 locs1 (cells + mk9) (slots + sk9) Q (F0 m (pc + 3) ls (v.toList ++ rest))) : W p l e R s m args below meth c H locs cells slots Q (F0 m pc ls (As.reverse ++ rest)) :=
  g_callRX (vx_runS (As := As) (rest := rest) (g := F0 m pc ls (As.reverse ++ rest)) S hM cw ⟨PG_blind, PG_at hK hE hA hP hS⟩ rfl hn hsize rfl hW hdg hf) hS kx kk
theorem g_getN (hx : p.tables.exec = Jvm.exec) (hb : c.code = cc) {own C : String} {T : u_T} {N ci index : Nat} (hw : ∀ w ∈ WA, w.before args s = true) (hin : ∀ w ∈ u_ws C T N, w ∈ WA) (hown : s.vm.findClass own = some m.cls) (hK : va_K D vwCl (tysC cT) s) (hP : va_P D vwCl (gw n ad G) H) {i : Nat} (hi : i < n) {fs : List Value} (hG : G i = .inr (ci, fs)) (hc : vwCl[ci]? = some (C, T, N)) (k : Nat) (hk : k < N) {host : String} (hlink : va_Nw (Cond.fieldLinkNest own index (T k).1 (T k).2.1 (T k).2.2.1 host) s) {v : Value} (hv : fs[k]? = some v) (hdg : decode cc pc = .ok (.getfield index, 3))
    (kk : W p l e R s m args below meth c H locs cells slots Q (F0 m (pc + 3) ls (v :: rest))) : W p l e R s m args below meth c H locs cells slots Q (F0 m pc ls (.ref (ad i) :: rest)) :=
  va_getN hx hb hw hin hown hK hP i (gw_get hi hG) hc k hk (va_Nw.use rfl hlink) (fun _ h => h) hv hdg kk
end GX
