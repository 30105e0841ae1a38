theorem gWSB {own : String} {idx : Nat} {y : MethodName} {bytes : ByteArray} {maxL : Nat} {ret : Option FieldType} {hh : List (Nat × Nat × Nat × Nat)} (h1 : Cond.methodLink own idx y ∈ WA) (h2 : Cond.static y ∈ WA) (h4 : Cond.initialized y.cls ∈ WA) (h5 : Cond.codeWith y bytes maxL ret hh ∈ WA) : GoodIn WA (va_wsS own idx y (wB y bytes maxL ret hh)) := fun w hw => by
  rcases List.mem_append.mp hw with hw | hw
  · rcases List.mem_cons.mp hw with rfl | hw
    · exact goodW1 h1
    rcases List.mem_cons.mp hw with rfl | hw
    · exact goodW1 h2
    rcases List.mem_cons.mp hw with rfl | hw
    · exact goodW1 h4
    · cases hw
  · rcases List.mem_cons.mp hw with rfl | hw
    · exact goodW1 h5
    · exact goodW1 hw
section GH
variable {p : Program} {l : Launch} {e : Env} {R : Room} {s : State} {m : MethodId} {args : Array Value} {below : List Frame} {meth : Method} {c : Code} {H : Heap} {locs : List Loc} {cells slots : Nat} {Q : State → Prop}
variable {cc : ByteArray} {pc : Nat} {ls : Array Slot} {rest st0 : List Value} {D : va_G} {cT : Nat → ClassId} {n : Nat} {ad : Nat → Nat} {A : Nat → Prop} {G : Nat → va_E} {post : Option Value → (Nat → va_E) → Prop} {mc ms : Nat}
theorem Met.ofH {y : MethodName} {rm : Room} {maxL : Nat} {ret : Option FieldType} {as : List Value} {hh : List (Nat × Nat × Nat × Nat)}
    (hy : plainName y.cls = true) (hlen : (lg_sl as).length ≤ maxL)
    (body : ∀ (p : Program) (e : Env) (s : State) (m : MethodId) (args : Array Value) (below : List Frame) (meth : Method) (c : Code) (Q : State → Prop), (∀ t, MQ below (QG D n ad A post) args s mc ms A t → Q t) → c.exceptionTable.toList = tableOf hh → p.tables.exec = Jvm.exec → c.code = cc → meth.sig.returnType = ret → c.maxLocals = maxL → meth.locks = false → s.vm.findClass y.cls = some m.cls → (∀ w ∈ WA, w.before args s = true) →
      va_P D vwCl (gw n ad G) s.heap → va_K D vwCl (tysC cT) s → EX A s → (∀ q, s.heap.size ≤ q → A q) → va_S A s.heap s.heap [] → ∀ ls : Array Slot, lv_has ls maxL (lv_args 0 as) →
      W p l e rm s m args below meth c s.heap [] 0 0 Q (F0 m 0 ls [])) : Met l y (wB y cc maxL ret hh) rm (PG D cT n ad A G as) (QG D n ad A post) mc ms A := by
  refine MetFree.of_bodyS (code := cc) (maxLocals := maxL) (ret := ret) hy ?_ ?_
  · intro args s m h hn
    obtain ⟨m9, meth, c, hn9, h1, h2, h3, h4, -, h5, h6, -⟩ := Cond.codeWith_spec (atoms_spec (ws := wB y cc maxL ret hh) h _ List.mem_cons_self)
    cases hn.symm.trans hn9
    exact ⟨meth, c, h1, h2, h3, h4, h5, h6⟩
  · intro p e s m args below meth c s₁ B hml0 hv _
    have hT : c.exceptionTable.toList = tableOf hh := vx_table (x := y) B (atoms_spec (ws := wB y cc maxL ret hh) B.pre _ List.mem_cons_self)
    have hml : c.maxLocals = maxL := hml0
    have hh0 : s₁.heap = s.heap := by rw [B.state]; rfl
    obtain ⟨rfl, hP, hK, hE, hA⟩ := hv
    have hl := lv_entry as (n := maxL) hlen
    obtain ⟨t, a1, o, b1, b2, b3⟩ := body p e s m _ below meth c _ (fun _ h => h) hT B.exec B.bytes B.returns hml B.notSynchronized (findClass_of_methodNamed B.named) (fun w hw => atoms_spec (ws := wB y cc maxL ret hh) B.pre w (List.mem_cons_of_mem _ hw)) hP hK hE hA va_S.rf _ hl s₁ hh0 (Stand.of_body B)
    rw [← lg_entry_eq] at a1
    exact ⟨t, o, a1, b1, b2, b3⟩
theorem g_catch {E : String} {ce : Cell} {q : Addr} {pre suf : List ExceptionTableEntry} {x : ExceptionTableEntry} (hT : c.exceptionTable.toList = pre ++ x :: suf) (hown : s.vm.findClass RL = some m.cls) (hE : EX A s) (hxc : E ∈ xcL) (hpass : ∀ z ∈ pre, z.catchType ≠ 0 ∧ ∃ y ∈ xcL, E ≠ y ∧ (Cond.classLink RL z.catchType y).before args s = true) (hcov : covers x pc = true) (h0 : x.catchType ≠ 0) (hlink : (Cond.classLink RL x.catchType E).before args s = true)
    (hcell : H[q]? = some ce) (hv : ce.vm = .none) (hcl : s.vm.findClass E = some ce.cls) (kk : W p l e R s m args below meth c H locs cells slots Q (F0 m x.handlerPc ls [.ref q])) : vx_W p l e R s m args below meth c H locs cells slots Q (F0 m pc ls rest) q :=
  vx_catch hown pre x suf hT (fun z hz => by
    obtain ⟨h1, y, hy, hne, hl⟩ := hpass z hz
    exact Or.inr ⟨h1, y, hl, hE.2.2.2.2.2.1 E hxc y hy hne⟩) hcov h0 hlink (va_Nw.use rfl (hE.2.2.2.2.1 E hxc)) hcell hv hcl kk
theorem g_callSH {y : MethodName} {bytes : ByteArray} {maxL nL index na : Nat} {ret : Option FieldType} {hh : List (Nat × Nat × Nat × Nat)} {ws Ts : List Cond} {rm : Room} {own : String} {As : List Value}
    (S : CallFix p m c cc nL s args Ts own) (hM : Met l y ws rm (PG D cT n ad A G As) (QG D n ad A post) mc ms A) (cw : vx_CSW R s args own index y bytes maxL ret hh ws rm mc ms na)
    (hK : va_K D vwCl (tysC cT) s) (hE : EX A s) (hA : ∀ q, s.heap.size ≤ q → A q) (hP : va_P D vwCl (gw n ad G) H) (hS : va_S A s.heap H locs)
    (hn : As.length = na) (hsize : ls.size = nL) (hW : 2 * (F0 m pc ls (As.reverse ++ rest)).monitorRoom + (rest.map fun v => v.category).sum ≤ 8) (hdg : decode cc pc = .ok (.invokestatic index, 3)) (hf : cells + mc ≤ R.cells ∧ slots + ms ≤ R.slots)
    (kk : ∀ (v : Option Value) (G1 : Nat → va_E) (H1 : Heap) (locs1 : List Loc), post v G1 → va_P D vwCl (gw n ad G1) H1 → va_S A s.heap H1 locs1 → W p l e R s m args below meth c H1 locs1 (cells + mc) (slots + ms) Q (F0 m (pc + 3) ls (v.toList ++ rest))) : W p l e R s m args below meth c H locs cells slots Q (F0 m pc ls (As.reverse ++ rest)) :=
  g_callR (vx_runSW (As := As) (rest := rest) (g := F0 m pc ls (As.reverse ++ rest)) S hM cw ⟨PG_blind, PG_at hK hE hA hP hS⟩ rfl hn hsize rfl hW hdg hf) hS kk
end GH
