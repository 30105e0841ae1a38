section
-- ===== PART A: goes FIRST, ahead of the names: the tables' words, and 'selects' of the private methods out of them =====
/-- a private method of a class that the tables say can be made, by its rows of tables_1 -/
def lw_okq (q : MethodName × Nat) : Prop := (q.1.cls ≠ "java/lang/invoke/MethodHandle" ∧ q.1.cls ≠ "java/lang/invoke/VarHandle") ∧ Cond.instantiable q.1.cls q.2 ∈ tables_1 ∧ Cond.privateMethod q.1 ∈ tables_1 ∧ Cond.instanceMethod q.1 ∈ tables_1
theorem lw_p0 : lw_okq (⟨"Splityard$Bench", "standsAt", "(II)Z"⟩, 8) := ⟨⟨by decide +kernel, by decide +kernel⟩, List.mem_of_getElem? (i := 31) (by decide +kernel), List.mem_of_getElem? (i := 123) (by decide +kernel), List.mem_of_getElem? (i := 124) (by decide +kernel)⟩
theorem lw_p1 : lw_okq (⟨"Splityard$Bench", "width", "(I)I"⟩, 8) := ⟨⟨by decide +kernel, by decide +kernel⟩, List.mem_of_getElem? (i := 31) (by decide +kernel), List.mem_of_getElem? (i := 131) (by decide +kernel), List.mem_of_getElem? (i := 132) (by decide +kernel)⟩
theorem lw_p2 : lw_okq (⟨"Splityard", "piecesAgree", "(LSplityard$Row;)Z"⟩, 3) := ⟨⟨by decide +kernel, by decide +kernel⟩, List.mem_of_getElem? (i := 18) (by decide +kernel), List.mem_of_getElem? (i := 169) (by decide +kernel), List.mem_of_getElem? (i := 170) (by decide +kernel)⟩
theorem lw_p3 : lw_okq (⟨"Splityard", "countBySplitting", "(LSplityard$Row;I)I"⟩, 3) := ⟨⟨by decide +kernel, by decide +kernel⟩, List.mem_of_getElem? (i := 18) (by decide +kernel), List.mem_of_getElem? (i := 173) (by decide +kernel), List.mem_of_getElem? (i := 174) (by decide +kernel)⟩
theorem lw_p4 : lw_okq (⟨"Splityard$Bench", "putPiece", "(III)V"⟩, 8) := ⟨⟨by decide +kernel, by decide +kernel⟩, List.mem_of_getElem? (i := 31) (by decide +kernel), List.mem_of_getElem? (i := 182) (by decide +kernel), List.mem_of_getElem? (i := 183) (by decide +kernel)⟩
theorem lw_p5 : lw_okq (⟨"Splityard$Bench", "isTooLong", "(II)Z"⟩, 8) := ⟨⟨by decide +kernel, by decide +kernel⟩, List.mem_of_getElem? (i := 31) (by decide +kernel), List.mem_of_getElem? (i := 190) (by decide +kernel), List.mem_of_getElem? (i := 191) (by decide +kernel)⟩
theorem lw_p6 : lw_okq (⟨"Splityard$Bench", "makeRoom", "(II)Z"⟩, 8) := ⟨⟨by decide +kernel, by decide +kernel⟩, List.mem_of_getElem? (i := 31) (by decide +kernel), List.mem_of_getElem? (i := 198) (by decide +kernel), List.mem_of_getElem? (i := 199) (by decide +kernel)⟩
theorem lw_p7 : lw_okq (⟨"java/lang/Throwable", "fillInStackTrace", "(I)Ljava/lang/Throwable;"⟩, 6) := ⟨⟨by decide +kernel, by decide +kernel⟩, List.mem_of_getElem? (i := 245) (by decide +kernel), List.mem_of_getElem? (i := 243) (by decide +kernel), List.mem_of_getElem? (i := 244) (by decide +kernel)⟩
theorem lw_p8 : lw_okq (⟨"Splityard", "rowOf", "(CI)LSplityard$Row;"⟩, 3) := ⟨⟨by decide +kernel, by decide +kernel⟩, List.mem_of_getElem? (i := 18) (by decide +kernel), List.mem_of_getElem? (i := 315) (by decide +kernel), List.mem_of_getElem? (i := 316) (by decide +kernel)⟩
theorem lw_p9 : lw_okq (⟨"Splityard", "benchAt", "(I)LSplityard$Bench;"⟩, 3) := ⟨⟨by decide +kernel, by decide +kernel⟩, List.mem_of_getElem? (i := 18) (by decide +kernel), List.mem_of_getElem? (i := 401) (by decide +kernel), List.mem_of_getElem? (i := 402) (by decide +kernel)⟩
theorem lw_p10 : lw_okq (⟨"Splityard", "benchWithItem", "(II)LSplityard$Bench;"⟩, 3) := ⟨⟨by decide +kernel, by decide +kernel⟩, List.mem_of_getElem? (i := 18) (by decide +kernel), List.mem_of_getElem? (i := 428) (by decide +kernel), List.mem_of_getElem? (i := 429) (by decide +kernel)⟩
theorem lw_p11 : lw_okq (⟨"Splityard", "benchWithAnyPiece", "(II)LSplityard$Bench;"⟩, 3) := ⟨⟨by decide +kernel, by decide +kernel⟩, List.mem_of_getElem? (i := 18) (by decide +kernel), List.mem_of_getElem? (i := 449) (by decide +kernel), List.mem_of_getElem? (i := 450) (by decide +kernel)⟩
theorem lw_p12 : lw_okq (⟨"Splityard", "benchWithPiece", "(II)LSplityard$Bench;"⟩, 3) := ⟨⟨by decide +kernel, by decide +kernel⟩, List.mem_of_getElem? (i := 18) (by decide +kernel), List.mem_of_getElem? (i := 473) (by decide +kernel), List.mem_of_getElem? (i := 474) (by decide +kernel)⟩
theorem lw_p13 : lw_okq (⟨"Splityard$Bench", "partAt", "(I)J"⟩, 8) := ⟨⟨by decide +kernel, by decide +kernel⟩, List.mem_of_getElem? (i := 31) (by decide +kernel), List.mem_of_getElem? (i := 512) (by decide +kernel), List.mem_of_getElem? (i := 513) (by decide +kernel)⟩
theorem lw_p14 : lw_okq (⟨"Splityard$Bench", "putNumber", "(IJ)V"⟩, 8) := ⟨⟨by decide +kernel, by decide +kernel⟩, List.mem_of_getElem? (i := 31) (by decide +kernel), List.mem_of_getElem? (i := 516) (by decide +kernel), List.mem_of_getElem? (i := 517) (by decide +kernel)⟩
theorem lw_p15 : lw_okq (⟨"Splityard$Bench", "copyItem", "(II)V"⟩, 8) := ⟨⟨by decide +kernel, by decide +kernel⟩, List.mem_of_getElem? (i := 31) (by decide +kernel), List.mem_of_getElem? (i := 581) (by decide +kernel), List.mem_of_getElem? (i := 582) (by decide +kernel)⟩
def lw_privs_1 : List (MethodName × Nat) := [(⟨"Splityard$Bench", "standsAt", "(II)Z"⟩, 8), (⟨"Splityard$Bench", "width", "(I)I"⟩, 8), (⟨"Splityard", "piecesAgree", "(LSplityard$Row;)Z"⟩, 3), (⟨"Splityard", "countBySplitting", "(LSplityard$Row;I)I"⟩, 3), (⟨"Splityard$Bench", "putPiece", "(III)V"⟩, 8), (⟨"Splityard$Bench", "isTooLong", "(II)Z"⟩, 8), (⟨"Splityard$Bench", "makeRoom", "(II)Z"⟩, 8), (⟨"java/lang/Throwable", "fillInStackTrace", "(I)Ljava/lang/Throwable;"⟩, 6), (⟨"Splityard", "rowOf", "(CI)LSplityard$Row;"⟩, 3), (⟨"Splityard", "benchAt", "(I)LSplityard$Bench;"⟩, 3), (⟨"Splityard", "benchWithItem", "(II)LSplityard$Bench;"⟩, 3), (⟨"Splityard", "benchWithAnyPiece", "(II)LSplityard$Bench;"⟩, 3), (⟨"Splityard", "benchWithPiece", "(II)LSplityard$Bench;"⟩, 3), (⟨"Splityard$Bench", "partAt", "(I)J"⟩, 8), (⟨"Splityard$Bench", "putNumber", "(IJ)V"⟩, 8), (⟨"Splityard$Bench", "copyItem", "(II)V"⟩, 8)]
theorem lw_r1 : ∀ q ∈ lw_privs_1, lw_okq q := List.forall_mem_cons.mpr ⟨lw_p0, List.forall_mem_cons.mpr ⟨lw_p1, List.forall_mem_cons.mpr ⟨lw_p2, List.forall_mem_cons.mpr ⟨lw_p3, List.forall_mem_cons.mpr ⟨lw_p4, List.forall_mem_cons.mpr ⟨lw_p5, List.forall_mem_cons.mpr ⟨lw_p6, List.forall_mem_cons.mpr ⟨lw_p7, List.forall_mem_cons.mpr ⟨lw_p8, List.forall_mem_cons.mpr ⟨lw_p9, List.forall_mem_cons.mpr ⟨lw_p10, List.forall_mem_cons.mpr ⟨lw_p11, List.forall_mem_cons.mpr ⟨lw_p12, List.forall_mem_cons.mpr ⟨lw_p13, List.forall_mem_cons.mpr ⟨lw_p14, List.forall_mem_cons.mpr ⟨lw_p15, fun _ h => absurd h List.not_mem_nil⟩⟩⟩⟩⟩⟩⟩⟩⟩⟩⟩⟩⟩⟩⟩⟩
theorem lw_p16 : lw_okq (⟨"SplityardModel", "can", "(ZZZ)Z"⟩, 9) := ⟨⟨by decide +kernel, by decide +kernel⟩, List.mem_of_getElem? (i := 653) (by decide +kernel), List.mem_of_getElem? (i := 716) (by decide +kernel), List.mem_of_getElem? (i := 717) (by decide +kernel)⟩
theorem lw_p17 : lw_okq (⟨"SplityardModel", "opened", "(IIIII)I"⟩, 9) := ⟨⟨by decide +kernel, by decide +kernel⟩, List.mem_of_getElem? (i := 653) (by decide +kernel), List.mem_of_getElem? (i := 743) (by decide +kernel), List.mem_of_getElem? (i := 744) (by decide +kernel)⟩
theorem lw_p18 : lw_okq (⟨"SplityardModel", "isItem", "(II)Z"⟩, 9) := ⟨⟨by decide +kernel, by decide +kernel⟩, List.mem_of_getElem? (i := 653) (by decide +kernel), List.mem_of_getElem? (i := 759) (by decide +kernel), List.mem_of_getElem? (i := 760) (by decide +kernel)⟩
theorem lw_p19 : lw_okq (⟨"SplityardModel", "isOf", "(IICC)Z"⟩, 9) := ⟨⟨by decide +kernel, by decide +kernel⟩, List.mem_of_getElem? (i := 653) (by decide +kernel), List.mem_of_getElem? (i := 767) (by decide +kernel), List.mem_of_getElem? (i := 768) (by decide +kernel)⟩
theorem lw_p20 : lw_okq (⟨"SplityardModel", "before", "(II)I"⟩, 9) := ⟨⟨by decide +kernel, by decide +kernel⟩, List.mem_of_getElem? (i := 653) (by decide +kernel), List.mem_of_getElem? (i := 771) (by decide +kernel), List.mem_of_getElem? (i := 772) (by decide +kernel)⟩
theorem lw_p21 : lw_okq (⟨"SplityardModel", "halved", "(II)I"⟩, 9) := ⟨⟨by decide +kernel, by decide +kernel⟩, List.mem_of_getElem? (i := 653) (by decide +kernel), List.mem_of_getElem? (i := 795) (by decide +kernel), List.mem_of_getElem? (i := 796) (by decide +kernel)⟩
theorem lw_p22 : lw_okq (⟨"SplityardModel", "enter", "(IICI)V"⟩, 9) := ⟨⟨by decide +kernel, by decide +kernel⟩, List.mem_of_getElem? (i := 653) (by decide +kernel), List.mem_of_getElem? (i := 799) (by decide +kernel), List.mem_of_getElem? (i := 800) (by decide +kernel)⟩
theorem lw_p23 : lw_okq (⟨"SplityardModel", "count", "(IC)I"⟩, 9) := ⟨⟨by decide +kernel, by decide +kernel⟩, List.mem_of_getElem? (i := 653) (by decide +kernel), List.mem_of_getElem? (i := 834) (by decide +kernel), List.mem_of_getElem? (i := 835) (by decide +kernel)⟩
def lw_privs_2 : List (MethodName × Nat) := [(⟨"SplityardModel", "can", "(ZZZ)Z"⟩, 9), (⟨"SplityardModel", "opened", "(IIIII)I"⟩, 9), (⟨"SplityardModel", "isItem", "(II)Z"⟩, 9), (⟨"SplityardModel", "isOf", "(IICC)Z"⟩, 9), (⟨"SplityardModel", "before", "(II)I"⟩, 9), (⟨"SplityardModel", "halved", "(II)I"⟩, 9), (⟨"SplityardModel", "enter", "(IICI)V"⟩, 9), (⟨"SplityardModel", "count", "(IC)I"⟩, 9)]
theorem lw_r2 : ∀ q ∈ lw_privs_2, lw_okq q := List.forall_mem_cons.mpr ⟨lw_p16, List.forall_mem_cons.mpr ⟨lw_p17, List.forall_mem_cons.mpr ⟨lw_p18, List.forall_mem_cons.mpr ⟨lw_p19, List.forall_mem_cons.mpr ⟨lw_p20, List.forall_mem_cons.mpr ⟨lw_p21, List.forall_mem_cons.mpr ⟨lw_p22, List.forall_mem_cons.mpr ⟨lw_p23, fun _ h => absurd h List.not_mem_nil⟩⟩⟩⟩⟩⟩⟩⟩
def lw_privs : List (MethodName × Nat) := lw_privs_1 ++ (lw_privs_2)
def lw_tbl : List Cond := k2_sels lw_privs ++ tables_1
theorem lw_privs_ok : ∀ q ∈ lw_privs, lw_okq q := by
  show ∀ q ∈ lw_privs_1 ++ (lw_privs_2), lw_okq q
  exact List.forall_mem_append.mpr ⟨lw_r1, lw_r2⟩
/-- the streams that the claim lets the run draw from -/
abbrev lw_cs : List Choice := [Jvm.Choice.named "NaN.bits"]
theorem lw_bits : nanBits ∈ lw_cs := by first | decide | exact List.mem_cons_self | simp [lw_cs, nanBits]
/-! ===== BEGIN words of one list among another's, by their places ===== -/
theorem goodIn_r {big : List Cond} (ws : List Cond) (ps : List Nat) (hp : ws = ps.filterMap (fun i => big[i]?)) (h : ws.all goodWord = true) : GoodIn big ws := by
  intro w hw
  have h1 := List.all_eq_true.mp h w hw
  rw [hp] at hw
  obtain ⟨i, -, hi⟩ := List.mem_filterMap.mp hw
  have hm : w ∈ big := by first | exact List.mem_of_getElem? hi | exact List.getElem?_mem hi
  exact ⟨hm, good_of_word h1⟩
theorem goodIn_app {big a b : List Cond} (ha : GoodIn big a) (hb : GoodIn big b) : GoodIn big (a ++ b) := fun w h => (List.mem_append.mp h).elim (ha w) (hb w)
theorem goodIn_ca {big a b : List Cond} {c : Cond} (ha : GoodIn big (c :: a)) (hb : GoodIn big b) : GoodIn big (c :: (a ++ b)) := fun w h => (List.mem_cons.mp h).elim (fun e => ha w (List.mem_cons.mpr (Or.inl e))) (fun h => (List.mem_append.mp h).elim (fun h => ha w (List.mem_cons.mpr (Or.inr h))) (hb w))
theorem goodIn_sub {big ws : List Cond} (hm : ∀ w ∈ ws, w ∈ big) (h : ws.all goodWord = true) : GoodIn big ws := fun w hw => ⟨hm w hw, good_of_word (List.all_eq_true.mp h w hw)⟩
/-! ===== END ===== -/

/-! ===== BEGIN exceptions that leave a method, and their catching by the caller (launches without stack traces) ===== -/
section VXA
/-! The laws vx_back, vx_callV, vx_callS, vx_callSW, vx_throw0, vx_throwS follow proofs of the library, with one case more: JvmDerived/Free/Laws.lean (Back.of_free), Shelf42/LK1.lean (callV, callS), Shelf/KitTraced.lean (throwNew0V, throwNewS). -/
/-- where a method has thrown q: the class by its name, the cell, what was written, the world -/
def vx_T (XC : String → State → State → Prop) (st : State) (q : Addr) (t : State) (mc ms : Nat) (free : Addr → Prop) : Prop :=
  ∃ (E : String) (ce : Cell) (L : List Loc), XC E st t ∧ t.heap[q]? = some ce ∧ ce.vm = .none ∧ st.vm.findClass E = some ce.cls ∧ st.WarmedH t.vm ∧ st.sameButNew ({ t with vm := st.vm } : State) L mc ms ∧ ∀ z ∈ L, free z.base
def vx_Q (Qc : Array Value → State → Outcome → State → Prop) (XC : String → State → State → Prop) (mc ms : Nat) (free : Addr → Prop) : Array Value → State → Outcome → State → Prop := fun a st o t =>
  (Qc a st o t ∧ ∃ L, FrameEnd st o t L mc ms ∧ ∀ q ∈ L, free q.base) ∨ ∃ q, o = .threw q ∧ vx_T XC st q t mc ms free
/-- a callee that returns or throws -/
def vx_Met (l : Launch) (y : MethodName) (ws : List Cond) (rm : Room) (Pc : Array Value → State → Prop) (Qc : Array Value → State → Outcome → State → Prop) (XC : String → State → State → Prop) (mc ms : Nat) (free : Addr → Prop) : Prop :=
  MetFree l y (headSpec ws rm) Pc (fun _ _ _ _ _ => True) (vx_Q Qc XC mc ms free)
def vx_Post (XC : String → State → State → Prop) (mc ms : Nat) (free : Addr → Prop) : Pt → Array Value → Addr → Pt → Prop := fun A a q B =>
  ∃ (g : JFrame) (mk : MethodId) (t : State) (L : List Loc) (E : String) (ce : Cell), B.U.heap = t.heap ∧ B.U.vm = t.vm ∧ XC E (A.U.calling g mk a) t ∧ t.heap[q]? = some ce ∧ ce.vm = .none ∧ A.U.vm.findClass E = some ce.cls ∧ B.locs = A.locs ++ L ∧ (∀ z ∈ L, free z.base) ∧ B.cells = A.cells + mc ∧ B.slots = A.slots + ms
def vx_Back (l : Launch) (R : Room) (p : Program) (e : Env) (below : List Frame) (s : State) (sargs : Array Value) (y : MethodName) (len W9 : Nat)
    (Pre : Pt → Array Value → Prop) (Post : Pt → Array Value → Option Value → Pt → Prop) (PostX : Pt → Array Value → Addr → Pt → Prop) : Prop :=
  ∀ (m : MethodId) (meth : Method) (c : Code) (A : Pt) (g : JFrame) (ig : Instr) (mk : MethodId) (a : Array Value),
    Stand p l e R s m sargs below meth c A.U A.locs A.cells A.slots → g.method = m → g.locals.size = c.maxLocals → decode c.code g.pc = .ok (ig, len) →
    2 * g.monitorRoom + (g.stack.map fun v => v.category).sum ≤ W9 → A.U.methodNamed? y = some mk → Pre A a →
    (∃ (v : Option Value) (B : Pt), Stand p l e R s m sargs below meth c B.U B.locs B.cells B.slots ∧ Post A a v B ∧
      Steps p.tables e below (doInvoke e (A.U.setTop g) [] mk a).1 (B.U.setTop { g with pc := g.pc + len, stack := v.toList ++ g.stack })) ∨
    (∃ (q : Addr) (B : Pt), Stand p l e R s m sargs below meth c B.U B.locs B.cells B.slots ∧ PostX A a q B ∧
      Steps p.tables e below (doInvoke e (A.U.setTop g) [] mk a).1 ((B.U.setTop g).pushFrame (.throwing q)))
section Payer
variable {l : Launch} {R : Room} {p : Program} {e : Env} {below : List Frame} {s : State} {sargs : Array Value} {y : MethodName} {len W9 : Nat}
theorem vx_back {ws : List Cond} {rm : Room} {Pc : Array Value → State → Prop} {Qc : Array Value → State → Outcome → State → Prop} {XC : String → State → State → Prop} {mc ms : Nat} {free : Addr → Prop} {bytes : ByteArray} {maxL : Nat} {ret : Option FieldType}
    (hM : vx_Met l y ws rm Pc Qc XC mc ms free) (hblind : FrameBlind Pc) (hrc : rm.cells = mc) (hrs : rm.slots = ms)
    (hframes : rm.frames + 1 ≤ R.frames) (hlocals : W9 + (maxL + 11) + rm.locals ≤ R.locals)
    (hws : ∀ w ∈ ws, ∀ a' U, s.WarmedH U.vm → w.before a' U = true) (hcode : Cond.code y bytes maxL ret ∈ ws) (hinit : ∀ a' U, s.WarmedH U.vm → (Cond.initialized y.cls).before a' U = true) :
    vx_Back l R p e below s sargs y len W9 (PreOf R mc ms Pc) (PostOf Qc mc ms free) (vx_Post XC mc ms free) := by
  intro m meth c A g ig mk a X hg hsize hdg hW hn hp
  have h1 : (headSpec ws rm).pre.before a A.U = true := atoms_intro fun w hw => hws w hw _ _ X.warmed
  have h2 : (Cond.code y bytes maxL ret).before a A.U = true := hws _ hcode _ _ X.warmed
  have h3 : (Cond.initialized y.cls).before a A.U = true := hinit _ _ X.warmed
  have h4 : A.cells + (headSpec ws rm).room.cells ≤ R.cells := by rw [show (headSpec ws rm).room.cells = mc from hrc]; exact hp.1
  have h5 : A.slots + (headSpec ws rm).room.slots ≤ R.slots := by rw [show (headSpec ws rm).room.slots = ms from hrs]; exact hp.2.1
  have hPc : Pc a (A.U.calling g mk a) := hblind _ _ _ _ hp.2.2
  obtain ⟨U, Ls, c0, s0⟩ := A
  dsimp only [Pt.U, Pt.locs, Pt.cells, Pt.slots] at h1 h2 h3 h4 h5 X hn hPc ⊢
  obtain ⟨methY, cY, hmY, hcY, -, hlY, -, -, -, -⟩ := Cond.code_spec hn h2
  obtain ⟨kY, hkY, -⟩ := className_of_methodNamed hn
  have hinitY : kY.init = .initialized := Cond.initialized_spec (findClass_of_methodNamed hn) hkY h3
  have h : At U g.method c below := by rw [hg]; exact X.here
  have hlocals9 : W9 + (maxL + 11) + (headSpec ws rm).room.locals ≤ R.locals := hlocals
  have happ : (headSpec ws rm).appliesLoose y e.platform (U.calling g mk a) = true :=
    Spec.appliesLoose_calling (g := g) h hdg hn hkY hinitY
      (X.room_calling (g := g) (R' := (headSpec ws rm).room) hsize hmY hcY hframes (by rw [hlY]; omega) h4 h5) h1
  obtain ⟨mid, hmid⟩ := h.above
  have hfr : (U.setTop g).frames = (.java g :: mid) ++ below := by rw [State.frames_setTop' g h.top, hmid]; rfl
  obtain ⟨o, s₂, hsteps, -, hend, hq⟩ := Steps.callFree hM p X.admits X.cas X.clock (acts := []) hfr happ hPc trivial
  have hq' : vx_Q Qc XC mc ms free a (U.calling g mk a) o s₂ := hq
  rw [State.frames_setTop' g h.top] at hend
  obtain ⟨g₀, hg0⟩ := Option.isSome_iff_exists.mp h.top
  obtain ⟨r, hr⟩ := State.topJava?_eq_some.mp hg0
  have hr' : (({ U with heap := s₂.heap, slotsUsed := s₂.slotsUsed } : State).setVm s₂.vm).frames = .java g₀ :: r := hr
  rcases hq' with ⟨hqc, L, hfe, hL⟩ | ⟨q, rfl, E, ce, L, hx, hce, hcv, hcl, hW₂, hsm, hL⟩
  · obtain ⟨⟨v, rfl⟩, hW₂, e2, q2, q3, q4, q5, q6⟩ := id hfe
    have e3 : s₂ = ({ (U.calling g mk a).setFrames s₂.frames with heap := s₂.heap, slotsUsed := s₂.slotsUsed } : State).setVm s₂.vm := by
      have : s₂ = ({ s₂ with vm := (U.calling g mk a).vm } : State).setVm s₂.vm := rfl
      rw [e2] at this
      exact this
    obtain ⟨c₂, i₂, len₂, hc₂, hd₂, hf₂⟩ := hend
    have hW' : U.WarmedH s₂.vm := hW₂
    have hcc : c₂ = c := by
      have h1 : s₂.code? g.method = U.code? g.method := by
        rw [State.code?_eq, State.code?_eq, hW'.alike.method?]
      exact Option.some.inj (hc₂.symm.trans (h1.trans h.code))
    subst hcc
    have hlen : len₂ = len := by rw [hdg] at hd₂; cases hd₂; rfl
    subst hlen
    have hs₂ : s₂ = (({ U with heap := s₂.heap, slotsUsed := s₂.slotsUsed } : State).setVm s₂.vm).setTop { g with pc := g.pc + len₂, stack := v.toList ++ g.stack } := by
      refine e3.trans ?_
      rw [hf₂, State.calling_eq h.top, State.setFrames_setFrames, State.setTop_of_frames _ hr', hr]
      rfl
    have hsame : U.sameButNew ({ U with heap := s₂.heap, slotsUsed := s₂.slotsUsed } : State) L mc ms := by
      refine ⟨?_, q2, q3, q4, q5, q6⟩
      obtain ⟨t, ht, -⟩ := State.frames_cons hr
      show ({ U with heap := s₂.heap, slotsUsed := s₂.slotsUsed } : State) = { U.setFrames U.frames with heap := s₂.heap, slotsUsed := s₂.slotsUsed }
      rw [State.setFrames_self ht]
    subst hg
    refine Or.inl ⟨v, ⟨(({ U with heap := s₂.heap, slotsUsed := s₂.slotsUsed } : State).setVm s₂.vm), Ls ++ L, c0 + mc, s0 + ms⟩,
      ⟨X.admits, X.cas, X.clock, X.frames, X.room, X.hears, X.method, X.code, (X.here.setHeapUsed s₂.heap s₂.slotsUsed).setVm hW'.alike, X.tail, State.WarmedH.trans X.warmed hW', X.limits, X.bytes, X.same.trans (hsame.setVm s.vm)⟩,
      ⟨g, mk, s₂, L, rfl, rfl, hqc, rfl, hL, rfl, rfl⟩, ?_⟩
    show Steps p.tables e below _ ((({ U with heap := s₂.heap, slotsUsed := s₂.slotsUsed } : State).setVm s₂.vm).setTop { g with pc := g.pc + len₂, stack := v.toList ++ g.stack })
    rw [← hs₂]
    exact hsteps
  · obtain ⟨e2, q2, q3, q4, q5, q6⟩ := id hsm
    have e3 : s₂ = ({ (U.calling g mk a).setFrames s₂.frames with heap := s₂.heap, slotsUsed := s₂.slotsUsed } : State).setVm s₂.vm := by
      have : s₂ = ({ s₂ with vm := (U.calling g mk a).vm } : State).setVm s₂.vm := rfl
      rw [e2] at this
      exact this
    have hf₂ : s₂.frames = .throwing q :: .java g :: U.frames.tail := hend
    have hW' : U.WarmedH s₂.vm := hW₂
    have hs₂ : s₂ = ((({ U with heap := s₂.heap, slotsUsed := s₂.slotsUsed } : State).setVm s₂.vm).setTop g).pushFrame (.throwing q) := by
      refine e3.trans ?_
      rw [hf₂, State.calling_eq h.top, State.setFrames_setFrames, State.pushFrame, State.frames_setTop _ hr', State.setTop_of_frames _ hr', State.setFrames_setFrames, hr]
      rfl
    have hsame : U.sameButNew ({ U with heap := s₂.heap, slotsUsed := s₂.slotsUsed } : State) L mc ms := by
      refine ⟨?_, q2, q3, q4, q5, q6⟩
      obtain ⟨t, ht, -⟩ := State.frames_cons hr
      show ({ U with heap := s₂.heap, slotsUsed := s₂.slotsUsed } : State) = { U.setFrames U.frames with heap := s₂.heap, slotsUsed := s₂.slotsUsed }
      rw [State.setFrames_self ht]
    subst hg
    refine Or.inr ⟨q, ⟨(({ U with heap := s₂.heap, slotsUsed := s₂.slotsUsed } : State).setVm s₂.vm), Ls ++ L, c0 + mc, s0 + ms⟩,
      ⟨X.admits, X.cas, X.clock, X.frames, X.room, X.hears, X.method, X.code, (X.here.setHeapUsed s₂.heap s₂.slotsUsed).setVm hW'.alike, X.tail, State.WarmedH.trans X.warmed hW', X.limits, X.bytes, X.same.trans (hsame.setVm s.vm)⟩,
      ⟨g, mk, s₂, L, E, ce, rfl, rfl, hx, hce, hcv, hcl, rfl, hL, rfl, rfl⟩, ?_⟩
    show Steps p.tables e below _ (((({ U with heap := s₂.heap, slotsUsed := s₂.slotsUsed } : State).setVm s₂.vm).setTop g).pushFrame (.throwing q))
    rw [← hs₂]
    exact hsteps
end Payer
section Calls
variable {p : Program} {l : Launch} {e : Env} {R : Room} {s : State} {m : MethodId} {args : Array Value} {below : List Frame} {meth : Method} {c : Code} {T : State} {locs : List Loc} {cells slots : Nat}
theorem vx_callV (X : Stand p l e R s m args below meth c T locs cells slots) (hexec : p.tables.exec = Jvm.exec) {own C : String} {index : Nat} {y : MethodName} {bytes : ByteArray} {maxL : Nat} {ret : Option FieldType}
    (hown : s.vm.findClass own = some m.cls) (hlink : (Cond.methodLink own index y).before args s = true) (hinst : (Cond.instanceMethod y).before args s = true) (hsel : (Cond.selects C y y).before args s = true)
    (hcode : (Cond.code y bytes maxL ret).before args s = true) (hy : y.cls ≠ "java/lang/invoke/MethodHandle" ∧ y.cls ≠ "java/lang/invoke/VarHandle")
    {W9 : Nat} {Pre : Pt → Array Value → Prop} {Post : Pt → Array Value → Option Value → Pt → Prop} {PostX : Pt → Array Value → Addr → Pt → Prop} (hK : vx_Back l R p e below s args y 3 W9 Pre Post PostX)
    {b : Addr} {cellB : Cell} (hcell : T.heap[b]? = some cellB) (hobj : cellB.vm.isStatics = false) (hcls : s.vm.findClass C = some cellB.cls)
    {g : JFrame} (hg : g.method = m) (hsize : g.locals.size = c.maxLocals) {argsL rest : List Value} (hlen : ∀ sig, parseMethodDescriptor y.desc = some sig → argsL.length = sig.parameters.length)
    (hstack : g.stack = argsL.reverse ++ .ref b :: rest) (hW : 2 * g.monitorRoom + (rest.map fun v => v.category).sum ≤ W9) (hdg : decode c.code g.pc = .ok (.invokevirtual index, 3))
    (hpre : ∀ vm₁, s.WarmedH vm₁ → Pre ⟨T.setVm vm₁, locs, cells, slots⟩ (Value.ref b :: argsL).toArray) :
    (∃ (v : Option Value) (vm₁ : Vm) (B : Pt), s.WarmedH vm₁ ∧ Stand p l e R s m args below meth c B.U B.locs B.cells B.slots ∧ Post ⟨T.setVm vm₁, locs, cells, slots⟩ (Value.ref b :: argsL).toArray v B ∧
      ∀ target, Steps p.tables e below (B.U.setTop { g with pc := g.pc + 3, stack := v.toList ++ rest }) target → Steps p.tables e below (T.setTop g) target) ∨
    (∃ (q : Addr) (vm₁ : Vm) (B : Pt), s.WarmedH vm₁ ∧ Stand p l e R s m args below meth c B.U B.locs B.cells B.slots ∧ PostX ⟨T.setVm vm₁, locs, cells, slots⟩ (Value.ref b :: argsL).toArray q B ∧
      Steps p.tables e below (T.setTop g) ((B.U.setTop { g with stack := rest }).pushFrame (.throwing q))) := by
  obtain ⟨mk, methM, hnamed, hmethM, hstM, habM⟩ := Cond.instanceMethod_spec hinst
  obtain ⟨methM', cM, hmethM', -, -, -, -, -, -, hsigM⟩ := Cond.code_spec hnamed hcode
  cases hmethM.symm.trans hmethM'
  obtain ⟨c2, r2, m2, q1, q2, q3, q4, kP, hkP, hkPi⟩ := Cond.selects_spec hsel
  cases hcls.symm.trans q1
  cases (State.methodFound?_of_named hnamed hy).symm.trans q2
  cases hnamed.symm.trans q3
  have hselP : selectMethod e.platform s.vm cellB.cls mk = .method mk := by rw [Launch.admits_selectMethod X.admits]; exact q4
  obtain ⟨vm₁, X₁, hstep₁⟩ := X.invokevirtual hexec hown hlink hnamed hmethM hstM hkP hkPi hy (a := b) (cell := cellB) hcell
    (fun z h => by rw [h] at hobj; cases hobj) hselP hmethM habM hkP hkPi (g := g) hg (argsL := argsL) (rest := rest) (hlen _ hsigM) hstack hdg
  rcases hK m meth c ⟨T.setVm vm₁, locs, cells, slots⟩ { g with stack := rest } (.invokevirtual index) mk (Value.ref b :: argsL).toArray X₁ hg hsize hdg hW (X₁.named hnamed) (hpre vm₁ X₁.warmed) with ⟨v, B, X', hpost, hsteps⟩ | ⟨q, B, X', hpost, hsteps⟩
  · exact Or.inl ⟨v, vm₁, B, X₁.warmed, X', hpost, fun target h => hstep₁ _ fun acts => by rw [doInvoke_state]; exact hsteps.trans h⟩
  · exact Or.inr ⟨q, vm₁, B, X₁.warmed, X', hpost, hstep₁ _ fun acts => by rw [doInvoke_state]; exact hsteps⟩
theorem vx_callS (X : Stand p l e R s m args below meth c T locs cells slots) (hexec : p.tables.exec = Jvm.exec) {own : String} {index : Nat} {y : MethodName} {bytes : ByteArray} {maxL : Nat} {ret : Option FieldType}
    (hown : s.vm.findClass own = some m.cls) (hlink : (Cond.methodLink own index y).before args s = true) (hstat : (Cond.static y).before args s = true) (hinit : (Cond.initialized y.cls).before args s = true)
    (hcode : (Cond.code y bytes maxL ret).before args s = true) (hy : y.cls ≠ "java/lang/invoke/MethodHandle" ∧ y.cls ≠ "java/lang/invoke/VarHandle")
    {W9 : Nat} {Pre : Pt → Array Value → Prop} {Post : Pt → Array Value → Option Value → Pt → Prop} {PostX : Pt → Array Value → Addr → Pt → Prop} (hK : vx_Back l R p e below s args y 3 W9 Pre Post PostX)
    {g : JFrame} (hg : g.method = m) (hsize : g.locals.size = c.maxLocals) {argsL rest : List Value} (hlen : ∀ sig, parseMethodDescriptor y.desc = some sig → argsL.length = sig.parameters.length)
    (hstack : g.stack = argsL.reverse ++ rest) (hW : 2 * g.monitorRoom + (rest.map fun v => v.category).sum ≤ W9) (hdg : decode c.code g.pc = .ok (.invokestatic index, 3))
    (hpre : ∀ vm₁, s.WarmedH vm₁ → Pre ⟨T.setVm vm₁, locs, cells, slots⟩ argsL.toArray) :
    (∃ (v : Option Value) (vm₁ : Vm) (B : Pt), s.WarmedH vm₁ ∧ Stand p l e R s m args below meth c B.U B.locs B.cells B.slots ∧ Post ⟨T.setVm vm₁, locs, cells, slots⟩ argsL.toArray v B ∧
      ∀ target, Steps p.tables e below (B.U.setTop { g with pc := g.pc + 3, stack := v.toList ++ rest }) target → Steps p.tables e below (T.setTop g) target) ∨
    (∃ (q : Addr) (vm₁ : Vm) (B : Pt), s.WarmedH vm₁ ∧ Stand p l e R s m args below meth c B.U B.locs B.cells B.slots ∧ PostX ⟨T.setVm vm₁, locs, cells, slots⟩ argsL.toArray q B ∧
      Steps p.tables e below (T.setTop g) ((B.U.setTop { g with stack := rest }).pushFrame (.throwing q))) := by
  obtain ⟨mk, hnamed⟩ := Cond.code_named hcode
  obtain ⟨methM, cM, hmethM, -, -, -, -, -, -, hsigM⟩ := Cond.code_spec hnamed hcode
  have hstatic : methM.isStatic = true := Cond.static_spec hnamed hmethM hstat
  obtain ⟨kP, hkP, -⟩ := className_of_methodNamed hnamed
  have hinitP : kP.init = .initialized := Cond.initialized_spec (findClass_of_methodNamed hnamed) hkP hinit
  obtain ⟨vm₁, X₁, hstep₁⟩ := X.invokestatic hexec hown hlink hnamed hmethM hstatic hkP hinitP hy (g := g) hg (argsL := argsL) (rest := rest) (hlen _ hsigM) hstack hdg
  rcases hK m meth c ⟨T.setVm vm₁, locs, cells, slots⟩ { g with stack := rest } (.invokestatic index) mk argsL.toArray X₁ hg hsize hdg hW (X₁.named hnamed) (hpre vm₁ X₁.warmed) with ⟨v, B, X', hpost, hsteps⟩ | ⟨q, B, X', hpost, hsteps⟩
  · exact Or.inl ⟨v, vm₁, B, X₁.warmed, X', hpost, fun target h => hstep₁ _ fun acts => by rw [doInvoke_state]; exact hsteps.trans h⟩
  · exact Or.inr ⟨q, vm₁, B, X₁.warmed, X', hpost, hstep₁ _ fun acts => by rw [doInvoke_state]; exact hsteps⟩
end Calls
theorem vx_cls {s : State} {T : State} {vm₁ : Vm} {E : String} {k : ClassId} (hW : s.WarmedH vm₁) (h : (T.setVm vm₁).vm.findClass E = some k) : s.vm.findClass E = some k := by
  have h1 : vm₁.findClass E = some k := h
  rw [hW.alike.findClass] at h1
  exact h1
/-- the method's frame g, with q thrown over it -/
def vx_W (p : Program) (l : Launch) (e : Env) (R : Room) (s : State) (m : MethodId) (args : Array Value) (below : List Frame) (meth : Method) (c : Code) (H : Heap) (locs : List Loc) (cells slots : Nat) (Q : State → Prop) (g : JFrame) (q : Addr) : Prop :=
  ∀ T : State, T.heap = H → Stand p l e R s m args below meth c T locs cells slots → ∃ t, Steps p.tables e below ((T.setTop g).pushFrame (.throwing q)) t ∧ Q t
def vx_Run (p : Program) (l : Launch) (e : Env) (R : Room) (s : State) (m : MethodId) (args : Array Value) (below : List Frame) (meth : Method) (c : Code) (H : Heap) (locs : List Loc) (cells slots mc ms : Nat) (g : JFrame) (rest : List Value) (Qa : State → Outcome → State → Prop) (XC : String → State → State → Prop) (free : Addr → Prop) : Prop :=
  ∀ T : State, T.heap = H → Stand p l e R s m args below meth c T locs cells slots →
    (∃ (v : Option Value) (st₀ t T' : State) (L : List Loc), st₀.heap = H ∧ Stand p l e R s m args below meth c T' (locs ++ L) (cells + mc) (slots + ms) ∧ (∀ q ∈ L, free q.base) ∧ T'.heap = t.heap ∧ T'.vm = t.vm ∧ Qa st₀ (.returned v) t ∧
      Goes p e below T g T' { g with pc := g.pc + 3, stack := v.toList ++ rest }) ∨
    (∃ (q : Addr) (st₀ t T' : State) (L : List Loc) (E : String) (ce : Cell), st₀.heap = H ∧ Stand p l e R s m args below meth c T' (locs ++ L) (cells + mc) (slots + ms) ∧ (∀ z ∈ L, free z.base) ∧ T'.heap = t.heap ∧ T'.vm = t.vm ∧ XC E st₀ t ∧ t.heap[q]? = some ce ∧ ce.vm = .none ∧ s.vm.findClass E = some ce.cls ∧
      Steps p.tables e below (T.setTop g) ((T'.setTop { g with stack := rest }).pushFrame (.throwing q)))
def vx_X {S : Type} (px : S → Prop) (B : String → S → State → Prop) (A : Nat → Prop) : String → State → State → Prop := fun E st t => ∃ u : S, px u ∧ B E u t ∧ va_F A st t
section Runs
variable {p : Program} {l : Launch} {e : Env} {R : Room} {s : State} {m : MethodId} {args : Array Value} {below : List Frame} {meth : Method} {c : Code} {H : Heap} {locs : List Loc} {cells slots : Nat}
variable {y : MethodName} {bytes cc : ByteArray} {maxL nL mc ms n index : Nat} {ret : Option FieldType} {ws : List Cond} {rm : Room} {Pc : Array Value → State → Prop} {Qc : Array Value → State → Outcome → State → Prop} {XC : String → State → State → Prop} {free : Addr → Prop} {Ts : List Cond} {own C : String} {b : Addr} {As rest : List Value} {g : JFrame}
theorem vx_callBack (cb : CallB R s args own index y bytes maxL ret ws rm mc ms n) (hM : vx_Met l y ws rm Pc Qc XC mc ms free) (hbl : FrameBlind Pc) : vx_Back l R p e below s args y 3 8 (PreOf R mc ms Pc) (PostOf Qc mc ms free) (vx_Post XC mc ms free) := by
  obtain ⟨hrc, hrs, hfr, hlo, hws, hcw, -, hini, -⟩ := cb
  exact vx_back (bytes := bytes) (maxL := maxL) (ret := ret) hM hbl hrc hrs hfr hlo hws hcw (fun a' U hW => word_at hW (Or.inl (by first | rfl | simp [Cond.onTables, Cond.keeps, Cond.steady])) hini)
theorem vx_runV (S : CallFix p m c cc nL s args Ts own) (hM : vx_Met l y ws rm Pc Qc XC mc ms free) (cw : CallW R s args own C index y bytes maxL ret ws rm mc ms n) (hp : PreV s H C b Pc As)
    (hg : g.method = m) (hn : As.length = n) (hsize : g.locals.size = nL) (hstack : g.stack = As.reverse ++ .ref b :: rest) (hW : 2 * g.monitorRoom + (rest.map fun v => v.category).sum ≤ 8) (hdg : decode cc g.pc = .ok (.invokevirtual index, 3)) (hf : cells + mc ≤ R.cells ∧ slots + ms ≤ R.slots) :
    vx_Run p l e R s m args below meth c H locs cells slots mc ms g rest (Qc (Value.ref b :: As).toArray) XC free := by
  have hK : vx_Back l R p e below s args y 3 8 (PreOf R mc ms Pc) (PostOf Qc mc ms free) (vx_Post XC mc ms free) := vx_callBack cw.1 hM hp.1
  obtain ⟨⟨-, -, -, -, -, -, hcode, -, hy, hlen, hl⟩, hin, hse⟩ := cw
  obtain ⟨hx, hb, hml, ho, -⟩ := S
  obtain ⟨-, ⟨cellB, hcB, hoB, hclB⟩, hPc⟩ := hp
  intro T hT X
  rcases vx_callV X hx (C := C) (bytes := bytes) (maxL := maxL) (ret := ret) ho hl hin hse hcode hy hK (by rw [hT]; exact hcB) hoB hclB hg (hsize.trans hml.symm) (argsL := As) (rest := rest) (fun sig h => hn.trans (hlen sig h)) hstack hW (by rw [hb]; exact hdg)
    (fun vm₁ hW₁ => ⟨hf.1, hf.2, hPc (T.setVm vm₁) hT hW₁⟩) with ⟨v, vm₁, ⟨U', l2, c2, s2⟩, hW₁, X', ⟨g', mk, t, L, e1, e2, hq, h1, hL, h2, h3⟩, st⟩ | ⟨q, vm₁, ⟨U', l2, c2, s2⟩, hW₁, X', ⟨g', mk, t, L, E, ce, e1, e2, hq, hce, hcv, hcl, h1, hL, h2, h3⟩, st⟩
  · dsimp only [Pt.U, Pt.locs, Pt.cells, Pt.slots] at X' e1 e2 h1 h2 h3 st
    subst h1; subst h2; subst h3
    exact Or.inl ⟨v, (T.setVm vm₁).calling g' mk (Value.ref b :: As).toArray, t, U', L, hT, X', hL, e1, e2, hq, st⟩
  · dsimp only [Pt.U, Pt.locs, Pt.cells, Pt.slots] at X' e1 e2 h1 h2 h3 st hcl
    subst h1; subst h2; subst h3
    exact Or.inr ⟨q, (T.setVm vm₁).calling g' mk (Value.ref b :: As).toArray, t, U', L, E, ce, hT, X', hL, e1, e2, hq, hce, hcv, vx_cls hW₁ hcl, st⟩
theorem vx_runS (S : CallFix p m c cc nL s args Ts own) (hM : vx_Met l y ws rm Pc Qc XC mc ms free) (cw : CallB R s args own index y bytes maxL ret ws rm mc ms n ∧ (Cond.static y).before args s = true) (hp : PreS s H Pc As)
    (hg : g.method = m) (hn : As.length = n) (hsize : g.locals.size = nL) (hstack : g.stack = As.reverse ++ rest) (hW : 2 * g.monitorRoom + (rest.map fun v => v.category).sum ≤ 8) (hdg : decode cc g.pc = .ok (.invokestatic index, 3)) (hf : cells + mc ≤ R.cells ∧ slots + ms ≤ R.slots) :
    vx_Run p l e R s m args below meth c H locs cells slots mc ms g rest (Qc As.toArray) XC free := by
  have hK : vx_Back l R p e below s args y 3 8 (PreOf R mc ms Pc) (PostOf Qc mc ms free) (vx_Post XC mc ms free) := vx_callBack cw.1 hM hp.1
  obtain ⟨⟨-, -, -, -, -, -, hcode, hini, hy, hlen, hl⟩, hstt⟩ := cw
  obtain ⟨hx, hb, hml, ho, -⟩ := S
  intro T hT X
  rcases vx_callS X hx (bytes := bytes) (maxL := maxL) (ret := ret) ho hl hstt hini hcode hy hK hg (hsize.trans hml.symm) (argsL := As) (rest := rest) (fun sig h => hn.trans (hlen sig h)) hstack hW (by rw [hb]; exact hdg)
    (fun vm₁ hW₁ => ⟨hf.1, hf.2, hp.2 (T.setVm vm₁) hT hW₁⟩) with ⟨v, vm₁, ⟨U', l2, c2, s2⟩, hW₁, X', ⟨g', mk, t, L, e1, e2, hq, h1, hL, h2, h3⟩, st⟩ | ⟨q, vm₁, ⟨U', l2, c2, s2⟩, hW₁, X', ⟨g', mk, t, L, E, ce, e1, e2, hq, hce, hcv, hcl, h1, hL, h2, h3⟩, st⟩
  · dsimp only [Pt.U, Pt.locs, Pt.cells, Pt.slots] at X' e1 e2 h1 h2 h3 st
    subst h1; subst h2; subst h3
    exact Or.inl ⟨v, (T.setVm vm₁).calling g' mk As.toArray, t, U', L, hT, X', hL, e1, e2, hq, st⟩
  · dsimp only [Pt.U, Pt.locs, Pt.cells, Pt.slots] at X' e1 e2 h1 h2 h3 st hcl
    subst h1; subst h2; subst h3
    exact Or.inr ⟨q, (T.setVm vm₁).calling g' mk As.toArray, t, U', L, E, ce, hT, X', hL, e1, e2, hq, hce, hcv, vx_cls hW₁ hcl, st⟩
end Runs
section Rows
variable {p : Program} {l : Launch} {e : Env} {R : Room} {s : State} {m : MethodId} {args : Array Value} {below : List Frame} {meth : Method} {c : Code} {H : Heap} {locs : List Loc} {cells slots : Nat} {Q : State → Prop}
variable {mc ms : Nat} {free : Addr → Prop} {A0 A1 : Nat → Prop} {H0 : Heap} {a : Array Value} {pc : Nat} {ls : Array Slot} {st0 rest : List Value}
theorem vx_keep {st₀ t T' : State} {L : List Loc} (h0 : st₀.heap = H) (e1 : T'.heap = t.heap) (hS : va_S A0 H0 H locs) (hA : ∀ q, q < H.size → A1 q → A0 q) (hf : ∀ q, free q → A0 q) (hL : ∀ q ∈ L, free q.base) (hF : va_F A1 st₀ t) :
    H.size ≤ T'.heap.size ∧ (∀ q : Nat, q < H.size → ¬ A1 q → T'.heap[q]? = H[q]?) ∧ va_S A0 H0 T'.heap (locs ++ L) := by
  obtain ⟨hz, hk⟩ := hF
  rw [h0] at hz hk
  exact ⟨by rw [e1]; exact hz, fun q h1 h2 => by rw [e1]; exact hk q h1 h2,
    ⟨Nat.le_trans hS.1 (by rw [e1]; exact hz), fun q h1 h2 => by rw [e1, hk q (Nat.lt_of_lt_of_le h1 hS.1) (fun z => h2 (hA q (Nat.lt_of_lt_of_le h1 hS.1) z))]; exact hS.2.1 q h1 h2, fun q hq => by
      rcases List.mem_append.mp hq with h | h
      · exact hS.2.2 q h
      · exact hf _ (hL q h)⟩⟩
theorem vx_calli {S SX : Type} {post : Int32 → S → Prop} {px : SX → Prop} {B : S → State → Prop} {BX : String → SX → State → Prop} {AX : Nat → Prop} (hr : vx_Run p l e R s m args below meth c H locs cells slots mc ms (F0 m pc ls st0) rest (va_Qi post B A1 a) (vx_X px BX AX) free) (hS : va_S A0 H0 H locs) (hA : ∀ q, q < H.size → A1 q → A0 q) (hf : ∀ q, free q → A0 q) (hAX : ∀ q, q < H.size → AX q → A0 q)
    (kx : ∀ (E : String) (ce : Cell) (q9 : Addr) (u : SX) (t : State) (H1 : Heap) (locs1 : List Loc), t.heap = H1 → s.vm.Alike t.vm → px u → BX E u t → H.size ≤ H1.size → (∀ q : Nat, q < H.size → ¬ AX q → H1[q]? = H[q]?) → va_S A0 H0 H1 locs1 → H1[q9]? = some ce → ce.vm = .none → s.vm.findClass E = some ce.cls → vx_W p l e R s m args below meth c H1 locs1 (cells + mc) (slots + ms) Q (F0 m pc ls rest) q9)
    (kk : ∀ (r : Int32) (u : S) (t : State) (H1 : Heap) (locs1 : List Loc), t.heap = H1 → s.vm.Alike t.vm → post r u → B u t → H.size ≤ H1.size → (∀ q : Nat, q < H.size → ¬ A1 q → H1[q]? = H[q]?) → va_S A0 H0 H1 locs1 → W p l e R s m args below meth c H1 locs1 (cells + mc) (slots + ms) Q (F0 m (pc + 3) ls (.int r :: rest))) : W p l e R s m args below meth c H locs cells slots Q (F0 m pc ls st0) := by
  intro T hT X
  rcases hr T hT X with ⟨v, st₀, t, T', L, h0, X', hL, e1, e2, ⟨⟨r, u, hv, hp, hb⟩, hF⟩, st⟩ | ⟨q, st₀, t, T', L, E, ce, h0, X', hL, e1, e2, ⟨u, hp, hb, hF⟩, hce, hcv, hcl, st⟩
  · cases hv
    obtain ⟨k1, k2, k3⟩ := vx_keep h0 e1 hS hA hf hL hF
    obtain ⟨t2, a1, b1⟩ := kk r u t T'.heap (locs ++ L) e1.symm (by rw [← e2]; exact X'.warmed.alike) hp hb k1 k2 k3 T' rfl X'
    exact ⟨t2, st t2 a1, b1⟩
  · obtain ⟨k1, k2, k3⟩ := vx_keep h0 e1 hS hAX hf hL hF
    obtain ⟨t2, a1, b1⟩ := kx E ce q u t T'.heap (locs ++ L) e1.symm (by rw [← e2]; exact X'.warmed.alike) hp hb k1 k2 k3 (by rw [e1]; exact hce) hcv hcl T' rfl X'
    exact ⟨t2, st.trans a1, b1⟩
theorem vx_calll {S SX : Type} {post : Int64 → S → Prop} {px : SX → Prop} {B : S → State → Prop} {BX : String → SX → State → Prop} {AX : Nat → Prop} (hr : vx_Run p l e R s m args below meth c H locs cells slots mc ms (F0 m pc ls st0) rest (va_Ql post B A1 a) (vx_X px BX AX) free) (hS : va_S A0 H0 H locs) (hA : ∀ q, q < H.size → A1 q → A0 q) (hf : ∀ q, free q → A0 q) (hAX : ∀ q, q < H.size → AX q → A0 q)
    (kx : ∀ (E : String) (ce : Cell) (q9 : Addr) (u : SX) (t : State) (H1 : Heap) (locs1 : List Loc), t.heap = H1 → s.vm.Alike t.vm → px u → BX E u t → H.size ≤ H1.size → (∀ q : Nat, q < H.size → ¬ AX q → H1[q]? = H[q]?) → va_S A0 H0 H1 locs1 → H1[q9]? = some ce → ce.vm = .none → s.vm.findClass E = some ce.cls → vx_W p l e R s m args below meth c H1 locs1 (cells + mc) (slots + ms) Q (F0 m pc ls rest) q9)
    (kk : ∀ (r : Int64) (u : S) (t : State) (H1 : Heap) (locs1 : List Loc), t.heap = H1 → s.vm.Alike t.vm → post r u → B u t → H.size ≤ H1.size → (∀ q : Nat, q < H.size → ¬ A1 q → H1[q]? = H[q]?) → va_S A0 H0 H1 locs1 → W p l e R s m args below meth c H1 locs1 (cells + mc) (slots + ms) Q (F0 m (pc + 3) ls (.long r :: rest))) : W p l e R s m args below meth c H locs cells slots Q (F0 m pc ls st0) := by
  intro T hT X
  rcases hr T hT X with ⟨v, st₀, t, T', L, h0, X', hL, e1, e2, ⟨⟨r, u, hv, hp, hb⟩, hF⟩, st⟩ | ⟨q, st₀, t, T', L, E, ce, h0, X', hL, e1, e2, ⟨u, hp, hb, hF⟩, hce, hcv, hcl, st⟩
  · cases hv
    obtain ⟨k1, k2, k3⟩ := vx_keep h0 e1 hS hA hf hL hF
    obtain ⟨t2, a1, b1⟩ := kk r u t T'.heap (locs ++ L) e1.symm (by rw [← e2]; exact X'.warmed.alike) hp hb k1 k2 k3 T' rfl X'
    exact ⟨t2, st t2 a1, b1⟩
  · obtain ⟨k1, k2, k3⟩ := vx_keep h0 e1 hS hAX hf hL hF
    obtain ⟨t2, a1, b1⟩ := kx E ce q u t T'.heap (locs ++ L) e1.symm (by rw [← e2]; exact X'.warmed.alike) hp hb k1 k2 k3 (by rw [e1]; exact hce) hcv hcl T' rfl X'
    exact ⟨t2, st.trans a1, b1⟩
theorem vx_callf {S SX : Type} {post : UInt32 → S → Prop} {px : SX → Prop} {B : S → State → Prop} {BX : String → SX → State → Prop} {AX : Nat → Prop} (hr : vx_Run p l e R s m args below meth c H locs cells slots mc ms (F0 m pc ls st0) rest (va_Qf post B A1 a) (vx_X px BX AX) free) (hS : va_S A0 H0 H locs) (hA : ∀ q, q < H.size → A1 q → A0 q) (hf : ∀ q, free q → A0 q) (hAX : ∀ q, q < H.size → AX q → A0 q)
    (kx : ∀ (E : String) (ce : Cell) (q9 : Addr) (u : SX) (t : State) (H1 : Heap) (locs1 : List Loc), t.heap = H1 → s.vm.Alike t.vm → px u → BX E u t → H.size ≤ H1.size → (∀ q : Nat, q < H.size → ¬ AX q → H1[q]? = H[q]?) → va_S A0 H0 H1 locs1 → H1[q9]? = some ce → ce.vm = .none → s.vm.findClass E = some ce.cls → vx_W p l e R s m args below meth c H1 locs1 (cells + mc) (slots + ms) Q (F0 m pc ls rest) q9)
    (kk : ∀ (r : UInt32) (u : S) (t : State) (H1 : Heap) (locs1 : List Loc), t.heap = H1 → s.vm.Alike t.vm → post r u → B u t → H.size ≤ H1.size → (∀ q : Nat, q < H.size → ¬ A1 q → H1[q]? = H[q]?) → va_S A0 H0 H1 locs1 → W p l e R s m args below meth c H1 locs1 (cells + mc) (slots + ms) Q (F0 m (pc + 3) ls (.float r :: rest))) : W p l e R s m args below meth c H locs cells slots Q (F0 m pc ls st0) := by
  intro T hT X
  rcases hr T hT X with ⟨v, st₀, t, T', L, h0, X', hL, e1, e2, ⟨⟨r, u, hv, hp, hb⟩, hF⟩, st⟩ | ⟨q, st₀, t, T', L, E, ce, h0, X', hL, e1, e2, ⟨u, hp, hb, hF⟩, hce, hcv, hcl, st⟩
  · cases hv
    obtain ⟨k1, k2, k3⟩ := vx_keep h0 e1 hS hA hf hL hF
    obtain ⟨t2, a1, b1⟩ := kk r u t T'.heap (locs ++ L) e1.symm (by rw [← e2]; exact X'.warmed.alike) hp hb k1 k2 k3 T' rfl X'
    exact ⟨t2, st t2 a1, b1⟩
  · obtain ⟨k1, k2, k3⟩ := vx_keep h0 e1 hS hAX hf hL hF
    obtain ⟨t2, a1, b1⟩ := kx E ce q u t T'.heap (locs ++ L) e1.symm (by rw [← e2]; exact X'.warmed.alike) hp hb k1 k2 k3 (by rw [e1]; exact hce) hcv hcl T' rfl X'
    exact ⟨t2, st.trans a1, b1⟩
theorem vx_calld {S SX : Type} {post : UInt64 → S → Prop} {px : SX → Prop} {B : S → State → Prop} {BX : String → SX → State → Prop} {AX : Nat → Prop} (hr : vx_Run p l e R s m args below meth c H locs cells slots mc ms (F0 m pc ls st0) rest (va_Qd post B A1 a) (vx_X px BX AX) free) (hS : va_S A0 H0 H locs) (hA : ∀ q, q < H.size → A1 q → A0 q) (hf : ∀ q, free q → A0 q) (hAX : ∀ q, q < H.size → AX q → A0 q)
    (kx : ∀ (E : String) (ce : Cell) (q9 : Addr) (u : SX) (t : State) (H1 : Heap) (locs1 : List Loc), t.heap = H1 → s.vm.Alike t.vm → px u → BX E u t → H.size ≤ H1.size → (∀ q : Nat, q < H.size → ¬ AX q → H1[q]? = H[q]?) → va_S A0 H0 H1 locs1 → H1[q9]? = some ce → ce.vm = .none → s.vm.findClass E = some ce.cls → vx_W p l e R s m args below meth c H1 locs1 (cells + mc) (slots + ms) Q (F0 m pc ls rest) q9)
    (kk : ∀ (r : UInt64) (u : S) (t : State) (H1 : Heap) (locs1 : List Loc), t.heap = H1 → s.vm.Alike t.vm → post r u → B u t → H.size ≤ H1.size → (∀ q : Nat, q < H.size → ¬ A1 q → H1[q]? = H[q]?) → va_S A0 H0 H1 locs1 → W p l e R s m args below meth c H1 locs1 (cells + mc) (slots + ms) Q (F0 m (pc + 3) ls (.double r :: rest))) : W p l e R s m args below meth c H locs cells slots Q (F0 m pc ls st0) := by
  intro T hT X
  rcases hr T hT X with ⟨v, st₀, t, T', L, h0, X', hL, e1, e2, ⟨⟨r, u, hv, hp, hb⟩, hF⟩, st⟩ | ⟨q, st₀, t, T', L, E, ce, h0, X', hL, e1, e2, ⟨u, hp, hb, hF⟩, hce, hcv, hcl, st⟩
  · cases hv
    obtain ⟨k1, k2, k3⟩ := vx_keep h0 e1 hS hA hf hL hF
    obtain ⟨t2, a1, b1⟩ := kk r u t T'.heap (locs ++ L) e1.symm (by rw [← e2]; exact X'.warmed.alike) hp hb k1 k2 k3 T' rfl X'
    exact ⟨t2, st t2 a1, b1⟩
  · obtain ⟨k1, k2, k3⟩ := vx_keep h0 e1 hS hAX hf hL hF
    obtain ⟨t2, a1, b1⟩ := kx E ce q u t T'.heap (locs ++ L) e1.symm (by rw [← e2]; exact X'.warmed.alike) hp hb k1 k2 k3 (by rw [e1]; exact hce) hcv hcl T' rfl X'
    exact ⟨t2, st.trans a1, b1⟩
theorem vx_callv {S SX : Type} {post : S → Prop} {px : SX → Prop} {B : S → State → Prop} {BX : String → SX → State → Prop} {AX : Nat → Prop} (hr : vx_Run p l e R s m args below meth c H locs cells slots mc ms (F0 m pc ls st0) rest (va_Qv post B A1 a) (vx_X px BX AX) free) (hS : va_S A0 H0 H locs) (hA : ∀ q, q < H.size → A1 q → A0 q) (hf : ∀ q, free q → A0 q) (hAX : ∀ q, q < H.size → AX q → A0 q)
    (kx : ∀ (E : String) (ce : Cell) (q9 : Addr) (u : SX) (t : State) (H1 : Heap) (locs1 : List Loc), t.heap = H1 → s.vm.Alike t.vm → px u → BX E u t → H.size ≤ H1.size → (∀ q : Nat, q < H.size → ¬ AX q → H1[q]? = H[q]?) → va_S A0 H0 H1 locs1 → H1[q9]? = some ce → ce.vm = .none → s.vm.findClass E = some ce.cls → vx_W p l e R s m args below meth c H1 locs1 (cells + mc) (slots + ms) Q (F0 m pc ls rest) q9)
    (kk : ∀ (u : S) (t : State) (H1 : Heap) (locs1 : List Loc), t.heap = H1 → s.vm.Alike t.vm → post u → B u t → H.size ≤ H1.size → (∀ q : Nat, q < H.size → ¬ A1 q → H1[q]? = H[q]?) → va_S A0 H0 H1 locs1 → W p l e R s m args below meth c H1 locs1 (cells + mc) (slots + ms) Q (F0 m (pc + 3) ls (rest))) : W p l e R s m args below meth c H locs cells slots Q (F0 m pc ls st0) := by
  intro T hT X
  rcases hr T hT X with ⟨v, st₀, t, T', L, h0, X', hL, e1, e2, ⟨⟨u, hv, hp, hb⟩, hF⟩, st⟩ | ⟨q, st₀, t, T', L, E, ce, h0, X', hL, e1, e2, ⟨u, hp, hb, hF⟩, hce, hcv, hcl, st⟩
  · cases hv
    obtain ⟨k1, k2, k3⟩ := vx_keep h0 e1 hS hA hf hL hF
    obtain ⟨t2, a1, b1⟩ := kk u t T'.heap (locs ++ L) e1.symm (by rw [← e2]; exact X'.warmed.alike) hp hb k1 k2 k3 T' rfl X'
    exact ⟨t2, st t2 a1, b1⟩
  · obtain ⟨k1, k2, k3⟩ := vx_keep h0 e1 hS hAX hf hL hF
    obtain ⟨t2, a1, b1⟩ := kx E ce q u t T'.heap (locs ++ L) e1.symm (by rw [← e2]; exact X'.warmed.alike) hp hb k1 k2 k3 (by rw [e1]; exact hce) hcv hcl T' rfl X'
    exact ⟨t2, st.trans a1, b1⟩
/-- caught by the row x of this method's table; the rows ahead don't take it -/
theorem vx_catch {own name : String} {E : String} {ce : Cell} {q : Addr} (hown : s.vm.findClass own = some m.cls) (pre : List ExceptionTableEntry) (x : ExceptionTableEntry) (suf : List ExceptionTableEntry) (hsplit : c.exceptionTable.toList = pre ++ x :: suf)
    (hpass : ∀ z ∈ pre, covers z pc = false ∨ (z.catchType ≠ 0 ∧ ∃ nm : String, (Cond.classLink own z.catchType nm).before args s = true ∧ va_Nc E nm s)) (hx : covers x pc = true) (h0 : x.catchType ≠ 0)
    (hlink : (Cond.classLink own x.catchType name).before args s = true) (hcast : (Cond.castable E name).before args s = true) (hcell : H[q]? = some ce) (hv : ce.vm = .none) (hcl : s.vm.findClass E = some ce.cls)
    (kk : W p l e R s m args below meth c H locs cells slots Q (F0 m x.handlerPc ls [.ref q])) : vx_W p l e R s m args below meth c H locs cells slots Q (F0 m pc ls rest) q := by
  intro T hT X
  have hpl : e.platform.magicAccessors = ({} : Platform).magicAccessors := by rw [X.admits.platform]
  obtain ⟨c3, c4, hc3, hc4, hasg⟩ := Cond.castable_spec hcast
  cases Option.some.inj (hc3.symm.trans hcl)
  obtain ⟨c5, hc5, hcl5⟩ := Cond.classLink_spec hown hlink e.platform hpl
  cases Option.some.inj (hc4.symm.trans hc5)
  obtain ⟨vm', X', st⟩ := X.thenCaughtThrough q (g := F0 m pc ls rest) rfl (Steps.refl _) (by rw [hT]; exact hcell) (by rw [hv]; rfl) (by obtain ⟨k9, h9, -⟩ := Vm.findClass_spec hcl; exact ⟨k9, h9⟩) pre x suf hsplit
    (fun z hz => by
      rcases hpass z hz with h | ⟨hz0, nm, hl1, hn1⟩
      · exact Or.inl h
      · obtain ⟨c6, hc6, hcl6⟩ := Cond.classLink_spec hown hl1 e.platform hpl
        obtain ⟨a8, b8, h1, h2, h3⟩ := hn1
        cases Option.some.inj (h1.symm.trans hcl)
        cases Option.some.inj (h2.symm.trans hc6)
        exact Or.inr ⟨hz0, _, hcl6, h3⟩) hx (Or.inr ⟨h0, c4, hcl5, hasg⟩)
  obtain ⟨t, a1, b1⟩ := kk (T.setVm vm') hT X'
  exact ⟨t, st.trans a1, b1⟩
end Rows
section Ends
variable {p : Program} {l : Launch} {e : Env} {R : Room} {s : State} {m : MethodId} {args : Array Value} {below : List Frame} {meth : Method} {c : Code} {H : Heap} {locs : List Loc} {cells slots : Nat} {Q : State → Prop}
variable {mc ms : Nat} {free : Addr → Prop} {A0 A1 : Nat → Prop} {H0 : Heap} {a : Array Value} {ls : Array Slot} {st0 rest : List Value}
variable {Qc : Array Value → State → Outcome → State → Prop} {XC : String → State → State → Prop}
/-- what a body that may throw owes at its end -/
def vx_MQ (below : List Frame) (Qc : Array Value → State → Outcome → State → Prop) (XC : String → State → State → Prop) (a : Array Value) (s : State) (mc ms : Nat) (free : Addr → Prop) : State → Prop := fun t =>
  ∃ o, t.status = .running ∧ Ended t below o ∧ vx_Q Qc XC mc ms free a s o t
theorem vx_ret {g : JFrame} {mc ms : Nat} (k : W p l e R s m args below meth c H locs cells slots (MQ below Qc args s mc ms free) g) : W p l e R s m args below meth c H locs cells slots (vx_MQ below Qc XC args s mc ms free) g := by
  intro T hT X
  obtain ⟨t, a1, o, b1, b2, b3, b4⟩ := k T hT X
  exact ⟨t, a1, o, b1, b2, Or.inl ⟨b3, b4⟩⟩
/-- not caught here: it goes on to the caller -/
theorem vx_widen {g : JFrame} {q : Addr} {k n : Nat} (h1 : cells ≤ k) (h2 : slots ≤ n) (kk : vx_W p l e R s m args below meth c H locs k n Q g q) : vx_W p l e R s m args below meth c H locs cells slots Q g q := fun T hT X => kk T hT (stand_widen X h1 h2)
theorem vx_out {pc : Nat} {E : String} {ce : Cell} {q : Addr} {mc ms : Nat} (hout : ∀ x ∈ c.exceptionTable.toList, covers x pc = false) (hlocks : meth.locks = false) (hcell : H[q]? = some ce) (hv : ce.vm = .none) (hcl : s.vm.findClass E = some ce.cls)
    (hx : ∀ t : State, t.heap = H → s.vm.Alike t.vm → XC E s t) (hf : ∀ z ∈ locs, free z.base) (hc : cells ≤ mc) (hs : slots ≤ ms) :
    vx_W p l e R s m args below meth c H locs cells slots (vx_MQ below Qc XC args s mc ms free) (F0 m pc ls rest) q := by
  intro T hT X
  obtain ⟨st1, hrun, hend, hW, hsm⟩ := X.leaveThrown q (g := F0 m pc ls rest) rfl rfl rfl hout hlocks
  have hcell9 : (T.setFrames (.throwing q :: below)).heap[q]? = some ce := by
    show T.heap[q]? = some ce
    rw [hT]; exact hcell
  exact ⟨_, st1, .threw q, hrun, hend, Or.inr ⟨q, rfl, E, ce, locs, hx _ hT hW.alike, hcell9, hv, hcl, hW, hsm.mono hc hs, hf⟩⟩
theorem vx_frame {U : State} {k n : Nat} (h : s.sameButNew ({ U with vm := s.vm } : State) locs k n) : s.heap.size ≤ U.heap.size ∧ ∀ q : Nat, q < s.heap.size → (∀ z ∈ locs, z.base ≠ q) → U.heap[q]? = s.heap[q]? := by
  obtain ⟨-, h2, -, -, -, h6⟩ := h
  refine ⟨h2, fun q hq hz => ?_⟩
  obtain ⟨c9, e1, e2, e3, e4⟩ := h6 q _ (Array.getElem?_eq_getElem hq)
  have hs : c9.slots = (s.heap[q]).slots := Array.ext_getElem? fun i => e4 i fun hm => hz _ hm rfl
  have h9 : c9 = s.heap[q] := by
    rw [hs] at e2
    exact e2
  have e5 : U.heap[q]? = some c9 := e1
  rw [e5, h9, Array.getElem?_eq_getElem hq]
/-- the words of a throw but the four that speak of the heap -/
def vx_no (w : Cond) : Bool := decide (w ≠ .isRef (.static Bundle.tN "UNASSIGNED_STACK" Bundle.steD)) && decide (w ≠ .isRef (.static Bundle.tN "SUPPRESSED_SENTINEL" Bundle.listD)) && decide (w ≠ .laysStatic Bundle.tN "UNASSIGNED_STACK" Bundle.steD) && decide (w ≠ .laysStatic Bundle.tN "SUPPRESSED_SENTINEL" Bundle.listD)
def vx_at0 (own : String) (ic : Nat) (X : String) (names : List String) : List Cond := (Bundle.ownAtoms0 own ic X names).filter vx_no
def vx_atS (own : String) (ic : Nat) (X : String) (names : List String) : List Cond := (Bundle.ownAtoms own ic X names).filter vx_no
/-- a word that the tables alone decide, or a good one -/
def vx_ot (w : Cond) : Bool := w.onTables || goodWord w
theorem vx_ot_at {args a' : Array Value} {s U : State} {w : Cond} (hW : s.WarmedH U.vm) (hvm : s.vm = U.vm) (hg : vx_ot w = true) (h : w.before args s = true) : w.before a' U = true := by
  simp only [vx_ot, Bool.or_eq_true] at hg
  rcases hg with hg | hg
  · exact va_tabs hg hvm h
  · exact word_at hW (good_of_word hg) h
/-- a list's words: the good ones out of the method's own list, the others by premises of their own -/
theorem vx_hat {args : Array Value} {s : State} {L B : List Cond} (h1 : ∀ w ∈ L.filter goodWord, w.before args s = true) (h2 : ∀ w ∈ L.filter (fun w => !goodWord w), w ∈ B) (h3 : ∀ w ∈ B, w.before args s = true) : ∀ w ∈ L, w.before args s = true := by
  intro w hw
  by_cases g : goodWord w = true
  · exact h1 w (List.mem_filter.mpr ⟨hw, g⟩)
  · refine h3 w (h2 w (List.mem_filter.mpr ⟨hw, ?_⟩))
    show (!goodWord w) = true
    cases hgw : goodWord w
    · rfl
    · exact absurd hgw g
theorem vx_c {args : Array Value} {s : State} {w : Cond} {B : List Cond} (h : w.before args s = true) (t : ∀ w ∈ B, w.before args s = true) : ∀ w' ∈ w :: B, w'.before args s = true := fun w' h' => (List.mem_cons.mp h').elim (fun e => by rw [e]; exact h) (t w')
theorem vx_n {args : Array Value} {s : State} : ∀ w ∈ ([] : List Cond), w.before args s = true := fun _ h => nomatch h
theorem vx_own {args : Array Value} {s : State} {L : List Cond} (h1 : ∀ w ∈ L.filter vx_no, w.before args s = true)
    (hU : (Cond.isRef (.static Bundle.tN "UNASSIGNED_STACK" Bundle.steD)).before args s = true) (hN : (Cond.isRef (.static Bundle.tN "SUPPRESSED_SENTINEL" Bundle.listD)).before args s = true)
    (lU : (Cond.laysStatic Bundle.tN "UNASSIGNED_STACK" Bundle.steD).before args s = true) (lN : (Cond.laysStatic Bundle.tN "SUPPRESSED_SENTINEL" Bundle.listD).before args s = true) : ∀ w ∈ L, w.before args s = true := by
  intro w hw
  by_cases e1 : w = .isRef (.static Bundle.tN "UNASSIGNED_STACK" Bundle.steD)
  · rw [e1]; exact hU
  · by_cases e2 : w = .isRef (.static Bundle.tN "SUPPRESSED_SENTINEL" Bundle.listD)
    · rw [e2]; exact hN
    · by_cases e3 : w = .laysStatic Bundle.tN "UNASSIGNED_STACK" Bundle.steD
      · rw [e3]; exact lU
      · by_cases e4 : w = .laysStatic Bundle.tN "SUPPRESSED_SENTINEL" Bundle.listD
        · rw [e4]; exact lN
        · exact h1 w (List.mem_filter.mpr ⟨hw, by unfold vx_no; rw [decide_eq_true e1, decide_eq_true e2, decide_eq_true e3, decide_eq_true e4]; rfl⟩)
/-- where a static field lies, its class's statics cell in H -/
def vx_L (C n d : String) (A : Nat → Prop) (U : State) (H : Heap) : Prop := ∃ (c : ClassId) (k : Class) (i : Nat) (f : Field) (a : Nat) (cell : Cell), U.vm.findClass C = some c ∧ U.fieldFound? C n d = some (c, k, i, f) ∧ f.isStatic = true ∧ k.statics = some a ∧ H[a]? = some cell ∧ cell.vm.isStatics = true ∧ cell.cls = c ∧ f.slot < cell.slots.size ∧ k.staticTypes[f.slot]? = some f.type ∧ ¬ A a
theorem vx_L.moved {C n d : String} {A : Nat → Prop} {u U : State} {H : Heap} (hvm : u.vm.Alike U.vm) (h : vx_L C n d A u H) : vx_L C n d A U H := by
  obtain ⟨c, k, i, f, a, cell, h1, h2, h3, h4, h5, h6, h7, h8, h9, h10⟩ := h
  obtain ⟨k', hi', he⟩ := State.fieldFound?_setVm hvm h2
  exact ⟨c, k', i, f, a, cell, by rw [hvm.findClass]; exact h1, hi', h3, by rw [he]; exact h4, h5, h6, h7, h8, by rw [he]; exact h9, h10⟩
theorem vx_L.kept {C n d : String} {A : Nat → Prop} {U : State} {H H1 : Heap} (h : vx_L C n d A U H) (hq : ∀ a : Nat, a < H.size → ¬ A a → H1[a]? = H[a]?) : vx_L C n d A U H1 := by
  obtain ⟨c, k, i, f, a, cell, h1, h2, h3, h4, h5, h6, h7, h8, h9, h10⟩ := h
  exact ⟨c, k, i, f, a, cell, h1, h2, h3, h4, by rw [hq a (Array.getElem?_eq_some_iff.mp h5).1 h10]; exact h5, h6, h7, h8, h9, h10⟩
theorem vx_L.narrow {C n d : String} {A B : Nat → Prop} {U : State} {H : Heap} (h : vx_L C n d A U H) (hAB : ∀ q, B q → A q) : vx_L C n d B U H := by
  obtain ⟨c, k, i, f, a, cell, h1, h2, h3, h4, h5, h6, h7, h8, h9, h10⟩ := h
  exact ⟨c, k, i, f, a, cell, h1, h2, h3, h4, h5, h6, h7, h8, h9, fun z => h10 (hAB _ z)⟩
theorem vx_L.word {C n d : String} {A : Nat → Prop} {s : State} {args : Array Value} (h : vx_L C n d A s s.heap) : (Cond.laysStatic C n d).before args s = true := by
  obtain ⟨c, k, i, f, a, cell, h1, h2, h3, h4, h5, h6, h7, h8, h9, -⟩ := h
  show (Cond.laysStatic C n d).holds args s none s [] = true
  exact Cond.laysStatic_of h1 h2 h3 h4 h5 h6 h7 h8 h9
/-- .. and what it holds: null or some reference -/
def vx_Zq (C n d : String) (A : Nat → Prop) (U : State) (H : Heap) : Prop := va_Zq C n d A U H ∧ vx_L C n d A U H
theorem vx_Zq.moved {C n d : String} {A : Nat → Prop} {u U : State} {H : Heap} (hvm : u.vm.Alike U.vm) (h : vx_Zq C n d A u H) : vx_Zq C n d A U H := ⟨va_Zq.moved hvm h.1, vx_L.moved hvm h.2⟩
theorem vx_Zq.kept {C n d : String} {A : Nat → Prop} {U : State} {H H1 : Heap} (h : vx_Zq C n d A U H) (hq : ∀ a : Nat, a < H.size → ¬ A a → H1[a]? = H[a]?) : vx_Zq C n d A U H1 := ⟨va_Zq.kept h.1 hq, vx_L.kept h.2 hq⟩
theorem vx_Zq.narrow {C n d : String} {A B : Nat → Prop} {U : State} {H : Heap} (h : vx_Zq C n d A U H) (hAB : ∀ q, B q → A q) : vx_Zq C n d B U H := ⟨va_Zq.narrow h.1 hAB, vx_L.narrow h.2 hAB⟩
theorem vx_Zqof {args : Array Value} {s : State} {C n d : String} {A : Nat → Prop} (hl : (Cond.laysStatic C n d).before args s = true) (hini : (Cond.initialized C).before args s = true) (h : (Cond.isRef (.static C n d)).before args s = true) (hA : ∀ a : Nat, a < s.heap.size → ¬ A a) : vx_Zq C n d A s s.heap := by
  refine ⟨va_Zqof hl hini h hA, ?_⟩
  obtain ⟨c, k, i, f, a, cell, h1, h2, h3, h4, h5, h6, h7, h8, h9⟩ := Cond.laysStatic_spec hl
  exact ⟨c, k, i, f, a, cell, h1, h2, h3, h4, h5, h6, h7, h8, h9, hA a (Array.getElem?_eq_some_iff.mp h5).1⟩
theorem vx_isRef {C n d : String} {v : Value} {A : Nat → Prop} {s : State} {args : Array Value} (h : va_Z C n d v A s s.heap) (hv : v.isRef = true) : (Cond.isRef (.static C n d)).before args s = true := by
  obtain ⟨cf, kf, fi, f, a, cell, h1, h2, h3, h4, h5, h6, h7, -⟩ := h
  have he : (Term.static C n d).eval args s none [] s = some v := by
    simp [Term.eval, State.fieldNamed?, h1, h2, h4, h5, h6, h7]
  simp only [Cond.before, Cond.holds, Cond.value, he]
  cases v <;> simp_all [Value.isRef]
theorem vx_isRefq {C n d : String} {A : Nat → Prop} {s : State} {args : Array Value} (h : va_Zq C n d A s s.heap) : (Cond.isRef (.static C n d)).before args s = true := by
  rcases h with h | ⟨t, h⟩
  · exact vx_isRef h rfl
  · exact vx_isRef h rfl
/-- the same frame, seen from here: as if the method were called anew in this heap -/
theorem vx_rebase {T : State} (X : Stand p l e R s m args below meth c T locs cells slots) {R' : Room} (hf : R'.frames ≤ R.frames) (hl : R'.locals ≤ R.locals) (hc : cells + R'.cells ≤ R.cells) (hs : slots + R'.slots ≤ R.slots) :
    Stand p l e R' ((T.setVm s.vm).setFrames (.invoking m args :: below)) m args below meth c T [] 0 0 := by
  have htop : (T.setVm s.vm).topJava?.isSome := X.here.top
  have hF : ((T.setVm s.vm).setFrames (.invoking m args :: below)).frames = .invoking m args :: below := State.frames_setFrames _ (State.cur_lt_of_top htop)
  obtain ⟨g₀, hg0⟩ := Option.isSome_iff_exists.mp htop
  obtain ⟨r, hr⟩ := State.topJava?_eq_some.mp hg0
  have hl9 : e.platform.stackLimits (T.setVm s.vm).me = e.platform.stackLimits s.me := X.limits
  have hb9 : (T.setVm s.vm).me.stackBytes = s.me.stackBytes := X.bytes
  refine ⟨X.admits, X.cas, X.clock, hF, ?_, X.hears, X.method, X.code, X.here, X.tail, X.warmed, ?_, ?_, ?_⟩
  · have h := X.room
    have hU : ((T.setVm s.vm).setFrames (.invoking m args :: below)).localsInUse = s.localsInUse := by
      rw [State.localsInUse_invoking hF (meth := meth) (c := c) X.method X.code, State.localsInUse_invoking X.frames X.method X.code]
    simp only [State.hasRoom, Bool.and_eq_true, decide_eq_true_eq] at h ⊢
    obtain ⟨⟨⟨⟨h1, h2, h3, h4, h5, h6⟩, h7⟩, h8⟩, h9⟩ := h
    rw [X.frames, List.length_cons] at h2 h3
    have q1 := X.heapSize
    have q2 := X.used
    simp only [hF, hU, List.length_cons, State.stackLimits_setFrames, State.stackBytes_setFrames, hl9, hb9]
    refine ⟨⟨⟨⟨by omega, by omega, by omega, by omega, by omega, h6⟩, ?_⟩, ?_⟩, X.book⟩
    · show T.heap.size + R'.cells ≤ e.platform.maxCells
      omega
    · show T.slotsUsed + R'.slots ≤ e.platform.maxSlots
      omega
  · rw [State.stackLimits_setFrames]; rfl
  · rw [State.stackBytes_setFrames]; rfl
  · refine ⟨?_, Nat.le_refl _, Nat.le_refl _, ?_, ?_, fun a c9 h9 => ⟨c9, h9, rfl, rfl, fun _ _ => rfl⟩⟩
    · obtain ⟨t, ht, -⟩ := State.frames_cons hr
      show T.setVm s.vm = { ((T.setVm s.vm).setFrames (.invoking m args :: below)).setFrames (T.setVm s.vm).frames with heap := T.heap, slotsUsed := T.slotsUsed }
      rw [State.setFrames_setFrames, State.setFrames_self ht]
      rfl
    · show T.slotsUsed = T.slotsUsed + ((T.heap.toList.drop T.heap.size).map (·.slots.size)).sum
      rw [List.drop_eq_nil_of_le (Nat.le_of_eq Array.length_toList)]
      rfl
    · show ((T.heap.toList.drop T.heap.size).map (·.slots.size)).sum ≤ 0
      rw [List.drop_eq_nil_of_le (Nat.le_of_eq Array.length_toList)]
      exact Nat.le_refl _
/-- 'throw new E()': new; dup; invokespecial; athrow -/
theorem vx_throw0 {cc : ByteArray} {pc : Nat} (hexec : p.tables.exec = Jvm.exec) (hb : c.code = cc) (hl : l.stackTraces = false) {own cls : String} {names : List String} {ik ic mc ms : Nat} {A : Nat → Prop}
    (hown : s.vm.findClass own = some m.cls) (hcls : Bundle.fit cls = true) (hnames : ∀ n ∈ names, Bundle.fit n = true)
    (hk : (Cond.classLink own ik cls).before args s = true) (hini : (Cond.initialized cls).before args s = true) (hat : ∀ w ∈ vx_at0 own ic cls names, w.before args s = true)
    (hgood : ∀ w ∈ Cond.classLink own ik cls :: Cond.initialized cls :: vx_at0 own ic cls names, vx_ot w = true)
    (hU : vx_Zq Bundle.tN "UNASSIGNED_STACK" Bundle.steD A s s.heap) (hN : vx_Zq Bundle.tN "SUPPRESSED_SENTINEL" Bundle.listD A s s.heap) (hS : va_S A s.heap H locs) (hsize : ls.size = c.maxLocals)
    (d0 : decode cc pc = .ok (.new ik, 3)) (d3 : decode cc (pc + 3) = .ok (.dup, 1)) (d4 : decode cc (pc + 4) = .ok (.invokespecial ic, 3)) (d7 : decode cc (pc + 7) = .ok (.athrow, 1))
    (hout : ∀ x ∈ c.exceptionTable.toList, covers x (pc + 7) = false)
    (hRframes : names.length + 3 < R.frames) (hRlocals : (rest.map fun v => v.category).sum + (13 * (names.length + 1) + 42) ≤ R.locals) (hRcells : cells + 1 ≤ R.cells) (hRslots : slots + 6 ≤ R.slots) (hlocks : meth.locks = false)
    (hx : ∀ t : State, s.vm.Alike t.vm → H.size ≤ t.heap.size → (∀ q : Nat, q < H.size → t.heap[q]? = H[q]?) → XC cls s t)
    (hf : ∀ z ∈ locs, free z.base) (hc : cells + 1 ≤ mc) (hs : slots + 6 ≤ ms) :
    W p l e R s m args below meth c H locs cells slots (vx_MQ below Qc XC args s mc ms free) (F0 m pc ls rest) := by
  intro T hT X
  have htr : e.platform.stackTraces = false := (show e.platform.stackTraces = l.stackTraces by rw [X.admits.platform]).trans hl
  have Y := vx_rebase X (R' := { frames := R.frames, locals := R.locals, cells := 1, slots := 6 }) (Nat.le_refl _) (Nat.le_refl _) hRcells hRslots
  obtain ⟨s', hA⟩ : ∃ z, z = (T.setVm s.vm).setFrames (.invoking m args :: below) := ⟨_, rfl⟩
  rw [← hA] at Y
  have hvm : s'.vm = s.vm := by rw [hA]; rfl
  have hhp : s'.heap = H := by rw [hA]; exact hT
  have hW0 : s.WarmedH s'.vm := by rw [hvm]; exact State.WarmedH.refl s
  have hat' : ∀ w ∈ vx_at0 own ic cls names, w.before args s' = true := fun w hw => vx_ot_at hW0 hvm.symm (hgood w (List.mem_cons_of_mem _ (List.mem_cons_of_mem _ hw))) (hat w hw)
  have hk' : (Cond.classLink own ik cls).before args s' = true := vx_ot_at hW0 hvm.symm (hgood _ List.mem_cons_self) hk
  have hini' : (Cond.initialized cls).before args s' = true := vx_ot_at hW0 hvm.symm (hgood _ (List.mem_cons_of_mem _ List.mem_cons_self)) hini
  have hU' : vx_Zq Bundle.tN "UNASSIGNED_STACK" Bundle.steD A s' s'.heap := by rw [hhp]; exact vx_Zq.moved hW0.alike (hU.kept hS.2.1)
  have hN' : vx_Zq Bundle.tN "SUPPRESSED_SENTINEL" Bundle.listD A s' s'.heap := by rw [hhp]; exact vx_Zq.moved hW0.alike (hN.kept hS.2.1)
  have h : ∀ w ∈ Bundle.ownAtoms0 own ic cls names, w.before args s' = true := vx_own hat' (vx_isRefq hU'.1) (vx_isRefq hN'.1) hU'.2.word hN'.2.word
  have hown' : s'.vm.findClass own = some m.cls := by rw [hvm]; exact hown
  have hins : (Cond.instantiable cls 6).before args s' = true := h _ (by simp [Bundle.ownAtoms0])
  obtain ⟨vm₁, cX, kX, hfX, hkX, -, -, X₁, st1⟩ := Y.newCold hexec (own := own) (C := cls) (index := ik) (n := 6) hown' hk' hins hini'
    (g := F0 m pc ls rest) rfl (by rw [hb]; exact d0) (Nat.le_refl _) (Nat.le_refl _)
  generalize hT1 : (T.setVm vm₁).pushCell { cls := cX, slots := kX.instanceTypes.map defaultValue, vm := .none } = T1 at X₁ st1
  have hcat : (Value.ref T.heap.size).category = 1 := rfl
  have hcellA : T1.heap[T.heap.size]? = some (freshCell cX kX) := by rw [← hT1]; exact State.heap_pushCell_size _ _
  have d3' : decode c.code (pc + 3) = .ok (.dup, 1) := by rw [hb]; exact d3
  obtain ⟨U, hsteps, hrun, hend, hW, hsame, ce, hce, hO⟩ := X₁.ctorThrow0 hexec htr (own := own) (cls := cls) (names := names) (ic := ic) hown' hcls hnames h (fun x hx => nomatch hx) hfX hkX hcellA (by rw [hhp, hT]; exact Nat.le_refl _)
    (g := { method := m, pc := pc + 4, locals := ls, stack := .ref T.heap.size :: .ref T.heap.size :: rest, locked := none }) rfl hsize rfl rfl (rest := rest) rfl
    (by rw [hb]; exact d4) (by rw [hb]; exact d7) hout hRframes (by simp only [List.map_cons, List.sum_cons, hcat]; omega) hlocks
  obtain ⟨f1, f2⟩ := vx_frame hsame
  rw [hhp] at f1 f2
  have hWs : s.WarmedH U.vm := State.WarmedH.trans hW0 hW
  have hcl : s.vm.findClass cls = some ce.cls := by
    have h9 := hO.cls
    rw [hvm] at h9
    exact h9
  have hall : s.sameButNew ({ U with vm := s.vm } : State) locs mc ms := by
    subst hA
    obtain ⟨e1, e2⟩ := hsame
    rw [State.setFrames_setFrames] at e1
    have h2 : (T.setVm s.vm).sameButNew ({ U with vm := s.vm } : State) [] (0 + 1) (0 + 6) := ⟨e1, e2⟩
    have h3 := X.same.trans h2
    rw [List.append_nil] at h3
    exact h3.mono hc hs
  refine ⟨U, ?_, .threw T.heap.size, hrun, hend, Or.inr ⟨T.heap.size, rfl, cls, ce, locs, hx U hWs.alike f1 (fun q hq => f2 q hq (fun z hz => nomatch hz)), hce, hO.vm, hcl, hWs, hall, hf⟩⟩
  refine st1 _ ?_
  show Steps p.tables e below (T1.setTop { method := m, pc := pc + 3, locals := ls, stack := .ref T.heap.size :: rest, locked := none }) _
  jvm_step X₁.here [X₁.here.top, hexec, d3', Value.category]
  exact hsteps
/-- 'throw new E("text")': new; dup; ldc; invokespecial; athrow -/
theorem vx_throwS {cc : ByteArray} {pc : Nat} (hexec : p.tables.exec = Jvm.exec) (hb : c.code = cc) (hl : l.stackTraces = false) {own cls text : String} {names : List String} {ik is ic mc ms sa : Nat} {A : Nat → Prop}
    (hown : s.vm.findClass own = some m.cls) (hcls : Bundle.fit cls = true) (hnames : ∀ n ∈ names, Bundle.fit n = true)
    (hk : (Cond.classLink own ik cls).before args s = true) (hini : (Cond.initialized cls).before args s = true) (hstr : vk_R own is text sa s) (hat : ∀ w ∈ vx_atS own ic cls names, w.before args s = true)
    (hgood : ∀ w ∈ Cond.classLink own ik cls :: Cond.initialized cls :: vx_atS own ic cls names, vx_ot w = true)
    (hU : vx_Zq Bundle.tN "UNASSIGNED_STACK" Bundle.steD A s s.heap) (hN : vx_Zq Bundle.tN "SUPPRESSED_SENTINEL" Bundle.listD A s s.heap) (hS : va_S A s.heap H locs) (hsize : ls.size = c.maxLocals)
    (d0 : decode cc pc = .ok (.new ik, 3)) (d3 : decode cc (pc + 3) = .ok (.dup, 1)) (d4 : decode cc (pc + 4) = .ok (.ldc is, 2)) (d6 : decode cc (pc + 6) = .ok (.invokespecial ic, 3)) (d9 : decode cc (pc + 9) = .ok (.athrow, 1))
    (hout : ∀ x ∈ c.exceptionTable.toList, covers x (pc + 9) = false)
    (hRframes : names.length + 3 < R.frames) (hRlocals : (rest.map fun v => v.category).sum + (13 * (names.length + 1) + 43) ≤ R.locals) (hRcells : cells + 1 ≤ R.cells) (hRslots : slots + 6 ≤ R.slots) (hlocks : meth.locks = false)
    (hx : ∀ t : State, s.vm.Alike t.vm → H.size ≤ t.heap.size → (∀ q : Nat, q < H.size → t.heap[q]? = H[q]?) → XC cls s t)
    (hf : ∀ z ∈ locs, free z.base) (hc : cells + 1 ≤ mc) (hs : slots + 6 ≤ ms) :
    W p l e R s m args below meth c H locs cells slots (vx_MQ below Qc XC args s mc ms free) (F0 m pc ls rest) := by
  intro T hT X
  have htr : e.platform.stackTraces = false := (show e.platform.stackTraces = l.stackTraces by rw [X.admits.platform]).trans hl
  have Y := vx_rebase X (R' := { frames := R.frames, locals := R.locals, cells := 1, slots := 6 }) (Nat.le_refl _) (Nat.le_refl _) hRcells hRslots
  obtain ⟨s', hA⟩ : ∃ z, z = (T.setVm s.vm).setFrames (.invoking m args :: below) := ⟨_, rfl⟩
  rw [← hA] at Y
  have hvm : s'.vm = s.vm := by rw [hA]; rfl
  have hhp : s'.heap = H := by rw [hA]; exact hT
  have hW0 : s.WarmedH s'.vm := by rw [hvm]; exact State.WarmedH.refl s
  have hat' : ∀ w ∈ vx_atS own ic cls names, w.before args s' = true := fun w hw => vx_ot_at hW0 hvm.symm (hgood w (List.mem_cons_of_mem _ (List.mem_cons_of_mem _ hw))) (hat w hw)
  have hk' : (Cond.classLink own ik cls).before args s' = true := vx_ot_at hW0 hvm.symm (hgood _ List.mem_cons_self) hk
  have hini' : (Cond.initialized cls).before args s' = true := vx_ot_at hW0 hvm.symm (hgood _ (List.mem_cons_of_mem _ List.mem_cons_self)) hini
  have hU' : vx_Zq Bundle.tN "UNASSIGNED_STACK" Bundle.steD A s' s'.heap := by rw [hhp]; exact vx_Zq.moved hW0.alike (hU.kept hS.2.1)
  have hN' : vx_Zq Bundle.tN "SUPPRESSED_SENTINEL" Bundle.listD A s' s'.heap := by rw [hhp]; exact vx_Zq.moved hW0.alike (hN.kept hS.2.1)
  have h : ∀ w ∈ Bundle.ownAtoms own ic cls names, w.before args s' = true := vx_own hat' (vx_isRefq hU'.1) (vx_isRefq hN'.1) hU'.2.word hN'.2.word
  have hown' : s'.vm.findClass own = some m.cls := by rw [hvm]; exact hown
  have hins : (Cond.instantiable cls 6).before args s' = true := h _ (by simp [Bundle.ownAtoms])
  obtain ⟨vm₁, cX, kX, hfX, hkX, -, -, X₁, st1⟩ := Y.newCold hexec (own := own) (C := cls) (index := ik) (n := 6) hown' hk' hins hini'
    (g := F0 m pc ls rest) rfl (by rw [hb]; exact d0) (Nat.le_refl _) (Nat.le_refl _)
  generalize hT1 : (T.setVm vm₁).pushCell { cls := cX, slots := kX.instanceTypes.map defaultValue, vm := .none } = T1 at X₁ st1
  have hcat : (Value.ref T.heap.size).category = 1 := rfl
  have hcellA : T1.heap[T.heap.size]? = some (freshCell cX kX) := by rw [← hT1]; exact State.heap_pushCell_size _ _
  have d3' : decode c.code (pc + 3) = .ok (.dup, 1) := by rw [hb]; exact d3
  have d4' : decode c.code (pc + 4) = .ok (.ldc is, 2) := by rw [hb]; exact d4
  have hstr' : vk_R own is text sa s' := vk_R.warm hW0 hstr
  obtain ⟨U, hsteps, hrun, hend, hW, hsame, ce, hce, hO⟩ := X₁.ctorThrowS hexec htr (own := own) (cls := cls) (names := names) (ic := ic) hown' hcls hnames h (fun x hx => nomatch hx) hfX hkX hcellA (by rw [hhp, hT]; exact Nat.le_refl _) (msg := .ref sa) rfl
    (g := { method := m, pc := pc + 6, locals := ls, stack := .ref sa :: .ref T.heap.size :: .ref T.heap.size :: rest, locked := none }) rfl hsize rfl rfl (rest := rest) rfl
    (by rw [hb]; exact d6) (by rw [hb]; exact d9) hout hRframes (by simp only [List.map_cons, List.sum_cons, hcat]; omega) hlocks
  obtain ⟨f1, f2⟩ := vx_frame hsame
  rw [hhp] at f1 f2
  have hWs : s.WarmedH U.vm := State.WarmedH.trans hW0 hW
  have hcl : s.vm.findClass cls = some ce.cls := by
    have h9 := hO.cls
    rw [hvm] at h9
    exact h9
  have hall : s.sameButNew ({ U with vm := s.vm } : State) locs mc ms := by
    subst hA
    obtain ⟨e1, e2⟩ := hsame
    rw [State.setFrames_setFrames] at e1
    have h2 : (T.setVm s.vm).sameButNew ({ U with vm := s.vm } : State) [] (0 + 1) (0 + 6) := ⟨e1, e2⟩
    have h3 := X.same.trans h2
    rw [List.append_nil] at h3
    exact h3.mono hc hs
  refine ⟨U, ?_, .threw T.heap.size, hrun, hend, Or.inr ⟨T.heap.size, rfl, cls, ce, locs, hx U hWs.alike f1 (fun q hq => f2 q hq (fun z hz => nomatch hz)), hce, hO.vm, hcl, hWs, hall, hf⟩⟩
  refine st1 _ ?_
  show Steps p.tables e below (T1.setTop { method := m, pc := pc + 3, locals := ls, stack := .ref T.heap.size :: rest, locked := none }) _
  jvm_step X₁.here [X₁.here.top, hexec, d3', Value.category]
  exact X₁.ldcString hexec (own := own) (text := text) (index := is) (a := sa) hown' hstr'.1 hstr'.2
    (g := { method := m, pc := pc + 4, locals := ls, stack := .ref T.heap.size :: .ref T.heap.size :: rest, locked := none }) rfl d4' _ hsteps
/-- 'throw new E("text")', the text by a wide index -/
theorem vx_throwSW {cc : ByteArray} {pc : Nat} (hexec : p.tables.exec = Jvm.exec) (hb : c.code = cc) (hl : l.stackTraces = false) {own cls text : String} {names : List String} {ik is ic mc ms sa : Nat} {A : Nat → Prop}
    (hown : s.vm.findClass own = some m.cls) (hcls : Bundle.fit cls = true) (hnames : ∀ n ∈ names, Bundle.fit n = true)
    (hk : (Cond.classLink own ik cls).before args s = true) (hini : (Cond.initialized cls).before args s = true) (hstr : vk_R own is text sa s) (hat : ∀ w ∈ vx_atS own ic cls names, w.before args s = true)
    (hgood : ∀ w ∈ Cond.classLink own ik cls :: Cond.initialized cls :: vx_atS own ic cls names, vx_ot w = true)
    (hU : vx_Zq Bundle.tN "UNASSIGNED_STACK" Bundle.steD A s s.heap) (hN : vx_Zq Bundle.tN "SUPPRESSED_SENTINEL" Bundle.listD A s s.heap) (hS : va_S A s.heap H locs) (hsize : ls.size = c.maxLocals)
    (d0 : decode cc pc = .ok (.new ik, 3)) (d3 : decode cc (pc + 3) = .ok (.dup, 1)) (d4 : decode cc (pc + 4) = .ok (.ldc_w is, 3)) (d7 : decode cc (pc + 7) = .ok (.invokespecial ic, 3)) (d10 : decode cc (pc + 10) = .ok (.athrow, 1))
    (hout : ∀ x ∈ c.exceptionTable.toList, covers x (pc + 10) = false)
    (hRframes : names.length + 3 < R.frames) (hRlocals : (rest.map fun v => v.category).sum + (13 * (names.length + 1) + 43) ≤ R.locals) (hRcells : cells + 1 ≤ R.cells) (hRslots : slots + 6 ≤ R.slots) (hlocks : meth.locks = false)
    (hx : ∀ t : State, s.vm.Alike t.vm → H.size ≤ t.heap.size → (∀ q : Nat, q < H.size → t.heap[q]? = H[q]?) → XC cls s t)
    (hf : ∀ z ∈ locs, free z.base) (hc : cells + 1 ≤ mc) (hs : slots + 6 ≤ ms) :
    W p l e R s m args below meth c H locs cells slots (vx_MQ below Qc XC args s mc ms free) (F0 m pc ls rest) := by
  intro T hT X
  have htr : e.platform.stackTraces = false := (show e.platform.stackTraces = l.stackTraces by rw [X.admits.platform]).trans hl
  have Y := vx_rebase X (R' := { frames := R.frames, locals := R.locals, cells := 1, slots := 6 }) (Nat.le_refl _) (Nat.le_refl _) hRcells hRslots
  obtain ⟨s', hA⟩ : ∃ z, z = (T.setVm s.vm).setFrames (.invoking m args :: below) := ⟨_, rfl⟩
  rw [← hA] at Y
  have hvm : s'.vm = s.vm := by rw [hA]; rfl
  have hhp : s'.heap = H := by rw [hA]; exact hT
  have hW0 : s.WarmedH s'.vm := by rw [hvm]; exact State.WarmedH.refl s
  have hat' : ∀ w ∈ vx_atS own ic cls names, w.before args s' = true := fun w hw => vx_ot_at hW0 hvm.symm (hgood w (List.mem_cons_of_mem _ (List.mem_cons_of_mem _ hw))) (hat w hw)
  have hk' : (Cond.classLink own ik cls).before args s' = true := vx_ot_at hW0 hvm.symm (hgood _ List.mem_cons_self) hk
  have hini' : (Cond.initialized cls).before args s' = true := vx_ot_at hW0 hvm.symm (hgood _ (List.mem_cons_of_mem _ List.mem_cons_self)) hini
  have hU' : vx_Zq Bundle.tN "UNASSIGNED_STACK" Bundle.steD A s' s'.heap := by rw [hhp]; exact vx_Zq.moved hW0.alike (hU.kept hS.2.1)
  have hN' : vx_Zq Bundle.tN "SUPPRESSED_SENTINEL" Bundle.listD A s' s'.heap := by rw [hhp]; exact vx_Zq.moved hW0.alike (hN.kept hS.2.1)
  have h : ∀ w ∈ Bundle.ownAtoms own ic cls names, w.before args s' = true := vx_own hat' (vx_isRefq hU'.1) (vx_isRefq hN'.1) hU'.2.word hN'.2.word
  have hown' : s'.vm.findClass own = some m.cls := by rw [hvm]; exact hown
  have hins : (Cond.instantiable cls 6).before args s' = true := h _ (by simp [Bundle.ownAtoms])
  obtain ⟨vm₁, cX, kX, hfX, hkX, -, -, X₁, st1⟩ := Y.newCold hexec (own := own) (C := cls) (index := ik) (n := 6) hown' hk' hins hini'
    (g := F0 m pc ls rest) rfl (by rw [hb]; exact d0) (Nat.le_refl _) (Nat.le_refl _)
  generalize hT1 : (T.setVm vm₁).pushCell { cls := cX, slots := kX.instanceTypes.map defaultValue, vm := .none } = T1 at X₁ st1
  have hcat : (Value.ref T.heap.size).category = 1 := rfl
  have hcellA : T1.heap[T.heap.size]? = some (freshCell cX kX) := by rw [← hT1]; exact State.heap_pushCell_size _ _
  have d3' : decode c.code (pc + 3) = .ok (.dup, 1) := by rw [hb]; exact d3
  have d4' : decode c.code (pc + 4) = .ok (.ldc_w is, 3) := by rw [hb]; exact d4
  have hstr' : vk_R own is text sa s' := vk_R.warm hW0 hstr
  obtain ⟨U, hsteps, hrun, hend, hW, hsame, ce, hce, hO⟩ := X₁.ctorThrowS hexec htr (own := own) (cls := cls) (names := names) (ic := ic) hown' hcls hnames h (fun x hx => nomatch hx) hfX hkX hcellA (by rw [hhp, hT]; exact Nat.le_refl _) (msg := .ref sa) rfl
    (g := { method := m, pc := pc + 7, locals := ls, stack := .ref sa :: .ref T.heap.size :: .ref T.heap.size :: rest, locked := none }) rfl hsize rfl rfl (rest := rest) rfl
    (by rw [hb]; exact d7) (by rw [hb]; exact d10) hout hRframes (by simp only [List.map_cons, List.sum_cons, hcat]; omega) hlocks
  obtain ⟨f1, f2⟩ := vx_frame hsame
  rw [hhp] at f1 f2
  have hWs : s.WarmedH U.vm := State.WarmedH.trans hW0 hW
  have hcl : s.vm.findClass cls = some ce.cls := by
    have h9 := hO.cls
    rw [hvm] at h9
    exact h9
  have hall : s.sameButNew ({ U with vm := s.vm } : State) locs mc ms := by
    subst hA
    obtain ⟨e1, e2⟩ := hsame
    rw [State.setFrames_setFrames] at e1
    have h2 : (T.setVm s.vm).sameButNew ({ U with vm := s.vm } : State) [] (0 + 1) (0 + 6) := ⟨e1, e2⟩
    have h3 := X.same.trans h2
    rw [List.append_nil] at h3
    exact h3.mono hc hs
  refine ⟨U, ?_, .threw T.heap.size, hrun, hend, Or.inr ⟨T.heap.size, rfl, cls, ce, locs, hx U hWs.alike f1 (fun q hq => f2 q hq (fun z hz => nomatch hz)), hce, hO.vm, hcl, hWs, hall, hf⟩⟩
  refine st1 _ ?_
  show Steps p.tables e below (T1.setTop { method := m, pc := pc + 3, locals := ls, stack := .ref T.heap.size :: rest, locked := none }) _
  jvm_step X₁.here [X₁.here.top, hexec, d3', Value.category]
  exact X₁.ldcStringW hexec (own := own) (text := text) (index := is) (a := sa) hown' hstr'.1 hstr'.2
    (g := { method := m, pc := pc + 4, locals := ls, stack := .ref T.heap.size :: .ref T.heap.size :: rest, locked := none }) rfl d4' _ hsteps
end Ends
section Bodies
variable {l : Launch}
theorem vx_ofW {y : MethodName} {ws ws' : List Cond} {rm : Room} {Pc : Array Value → State → Prop} {Qc : Array Value → State → Outcome → State → Prop} {XC : String → State → State → Prop} {mc ms : Nat} {free : Addr → Prop} {cc : ByteArray} {maxL : Nat} {ret : Option FieldType}
    (hy : plainName y.cls = true) (hw : ws = Cond.code y cc maxL ret :: ws')
    (body : ∀ p e s m args below meth c s₁, BodyLoose p l y (headSpec ws rm) cc maxL ret e s m args below meth c s₁ → c.maxLocals = maxL → (∀ x ∈ c.exceptionTable.toList, False) → Pc args s →
      W p l e (headSpec ws rm).room s m args below meth c s.heap [] 0 0 (vx_MQ below Qc XC args s mc ms free) (entryFrame m args maxL)) : vx_Met l y ws rm Pc Qc XC mc ms free := by
  refine MetFree.of_bodyS (code := cc) (maxLocals := maxL) (ret := ret) hy ?_ ?_
  · intro args s m h hn
    obtain ⟨meth, c, h1, h2, h3, h4, h5, h6, -, -⟩ := Cond.code_spec hn (atoms_spec (ws := ws) h _ (by rw [hw]; exact List.mem_cons_self))
    exact ⟨meth, c, h1, h2, h3, h4, h5, h6⟩
  · intro p e s m args below meth c s₁ B hml hP _
    have hh0 : s₁.heap = s.heap := by rw [B.state]; rfl
    have ht : ∀ x ∈ c.exceptionTable.toList, False := by
      obtain ⟨meth9, c9, h1, h2, -, -, -, -, h7, -⟩ := Cond.code_spec B.named (atoms_spec (ws := ws) B.pre _ (by rw [hw]; exact List.mem_cons_self))
      cases Option.some.inj (h1.symm.trans B.method)
      cases Option.some.inj (h2.symm.trans (Stand.of_body B).code)
      intro x hx
      rw [Array.isEmpty_iff.mp h7] at hx
      cases hx
    obtain ⟨t, a1, o, b1, b2, b3⟩ := body p e s m args below meth c s₁ B hml ht hP s₁ hh0 (Stand.of_body B)
    exact ⟨t, o, a1, b1, b2, b3⟩
/-- the table of a body with handlers -/
theorem vx_table {p : Program} {x y : MethodName} {S : Spec} {cc bytes : ByteArray} {maxL maxL' : Nat} {ret ret' : Option FieldType} {e : Env} {s s₁ : State} {m : MethodId} {args : Array Value} {below : List Frame} {meth : Method} {c : Code} {hh : List (Nat × Nat × Nat × Nat)}
    (B : BodyLoose p l y S cc maxL ret e s m args below meth c s₁) (h : (Cond.codeWith y bytes maxL' ret' hh).before args s = true) : c.exceptionTable.toList = tableOf hh := by
  obtain ⟨m9, meth9, c9, hn9, h1, h2, -, -, h6, -⟩ := Cond.codeWith_spec h
  cases Option.some.inj (hn9.symm.trans B.named)
  cases Option.some.inj (h1.symm.trans B.method)
  cases Option.some.inj (h2.symm.trans (Stand.of_body B).code)
  rw [← h6, table_eq]
end Bodies
end VXA
/-! ===== END ===== -/
/-! ===== BEGIN a static call of a method with an exception table ===== -/
section VXS
variable {p : Program} {l : Launch} {e : Env} {R : Room} {s : State} {m : MethodId} {args : Array Value} {below : List Frame} {meth : Method} {c : Code} {T : State} {H : Heap} {locs : List Loc} {cells slots : Nat}
abbrev vx_CSW (R : Room) (s : State) (args : Array Value) (own : String) (index : Nat) (y : MethodName) (bytes : ByteArray) (maxL : Nat) (ret : Option FieldType) (hh : List (Nat × Nat × Nat × Nat)) (ws : List Cond) (rm : Room) (mc ms n : Nat) : Prop :=
  (rm.cells = mc ∧ rm.slots = ms ∧ rm.frames + 1 ≤ R.frames ∧ 8 + (maxL + 11) + rm.locals ≤ R.locals ∧ (∀ w ∈ ws, ∀ (a' : Array Value) (U : State), s.WarmedH U.vm → w.before a' U = true) ∧ Cond.codeWith y bytes maxL ret hh ∈ ws) ∧
  (Cond.codeWith y bytes maxL ret hh).before args s = true ∧ (Cond.initialized y.cls).before args s = true ∧ (y.cls ≠ "java/lang/invoke/MethodHandle" ∧ y.cls ≠ "java/lang/invoke/VarHandle") ∧
  (∀ sig, parseMethodDescriptor y.desc = some sig → n = sig.parameters.length) ∧ (Cond.methodLink own index y).before args s = true ∧ (Cond.static y).before args s = true
theorem vx_cwSW {own : String} {index maxL mc ms : Nat} {y : MethodName} {bytes : ByteArray} {ret : Option FieldType} {hh : List (Nat × Nat × Nat × Nat)} {Ts ws ws' : List Cond} {rm : Room} (n : Nat) (ht : ∀ w ∈ Ts, w.before args s = true) (hT : GoodIn Ts (va_wsS own index y ws)) (hw : ws = Cond.codeWith y bytes maxL ret hh :: ws') (hrc : rm.cells = mc) (hrs : rm.slots = ms)
    (hd : y.cls ≠ "java/lang/invoke/MethodHandle" ∧ y.cls ≠ "java/lang/invoke/VarHandle" ∧ (parseMethodDescriptor y.desc).map (fun d => d.parameters.length) = some n) (hR : rm.frames + 1 ≤ R.frames ∧ 8 + (maxL + 11) + rm.locals ≤ R.locals) :
    vx_CSW R s args own index y bytes maxL ret hh ws rm mc ms n := by
  have ok : ∀ w ∈ va_wsS own index y ws, w.before args s = true := fun w h => ht w (hT w h).1
  have hG : GoodIn Ts ws := fun w h => hT w (by unfold va_wsS; exact List.mem_append_right _ h)
  have hc : Cond.codeWith y bytes maxL ret hh ∈ ws := by rw [hw]; exact List.mem_cons_self
  refine ⟨⟨hrc, hrs, hR.1, hR.2, pay_in ht hG, hc⟩, ht _ (hG _ hc).1, ok _ (by simp [va_wsS]), ⟨hd.1, hd.2.1⟩, fun sig h => ?_, ok _ (by simp [va_wsS]), ok _ (by simp [va_wsS])⟩
  have h2 := hd.2.2
  rw [h] at h2
  exact (Option.some.inj h2).symm
theorem vx_callSW (X : Stand p l e R s m args below meth c T locs cells slots) (hexec : p.tables.exec = Jvm.exec) {own : String} {index : Nat} {y : MethodName} {bytes : ByteArray} {maxL : Nat} {ret : Option FieldType} {hh : List (Nat × Nat × Nat × Nat)}
    (hown : s.vm.findClass own = some m.cls) (hlink : (Cond.methodLink own index y).before args s = true) (hstat : (Cond.static y).before args s = true) (hinit : (Cond.initialized y.cls).before args s = true)
    (hcode : (Cond.codeWith y bytes maxL ret hh).before args s = true) (hy : y.cls ≠ "java/lang/invoke/MethodHandle" ∧ y.cls ≠ "java/lang/invoke/VarHandle")
    {W9 : Nat} {Pre : Pt → Array Value → Prop} {Post : Pt → Array Value → Option Value → Pt → Prop} (hK : Back l R p e below s args y 3 W9 Pre Post)
    {g : JFrame} (hg : g.method = m) (hsize : g.locals.size = c.maxLocals) {argsL rest : List Value} (hlen : ∀ sig, parseMethodDescriptor y.desc = some sig → argsL.length = sig.parameters.length)
    (hstack : g.stack = argsL.reverse ++ rest) (hW : 2 * g.monitorRoom + (rest.map fun v => v.category).sum ≤ W9) (hdg : decode c.code g.pc = .ok (.invokestatic index, 3))
    (hpre : ∀ vm₁, s.WarmedH vm₁ → Pre ⟨T.setVm vm₁, locs, cells, slots⟩ argsL.toArray) :
    ∃ (v : Option Value) (vm₁ : Vm) (B : Pt), s.WarmedH vm₁ ∧ Stand p l e R s m args below meth c B.U B.locs B.cells B.slots ∧ Post ⟨T.setVm vm₁, locs, cells, slots⟩ argsL.toArray v B ∧
      ∀ target, Steps p.tables e below (B.U.setTop { g with pc := g.pc + 3, stack := v.toList ++ rest }) target → Steps p.tables e below (T.setTop g) target := by
  obtain ⟨mk, methM, cM, hnamed, hmethM, -, -, -, -, -, -, hsigM⟩ := Cond.codeWith_spec hcode
  have hstatic : methM.isStatic = true := Cond.static_spec hnamed hmethM hstat
  obtain ⟨kP, hkP, -⟩ := className_of_methodNamed hnamed
  have hinitP : kP.init = .initialized := Cond.initialized_spec (findClass_of_methodNamed hnamed) hkP hinit
  obtain ⟨vm₁, X₁, hstep₁⟩ := X.invokestatic hexec hown hlink hnamed hmethM hstatic hkP hinitP hy (g := g) hg (argsL := argsL) (rest := rest) (hlen _ hsigM) hstack hdg
  obtain ⟨v, B, X', hpost, hsteps⟩ := hK m meth c ⟨T.setVm vm₁, locs, cells, slots⟩ { g with stack := rest } (.invokestatic index) mk argsL.toArray X₁ hg hsize hdg hW (X₁.named hnamed) (hpre vm₁ X₁.warmed)
  exact ⟨v, vm₁, B, X₁.warmed, X', hpost, fun target h => hstep₁ _ fun acts => by rw [doInvoke_state]; exact hsteps.trans h⟩
theorem vx_runSW {y : MethodName} {bytes cc : ByteArray} {maxL nL mc ms n index : Nat} {ret : Option FieldType} {hh : List (Nat × Nat × Nat × Nat)} {ws : List Cond} {rm : Room} {Pc : Array Value → State → Prop} {Qc : Array Value → State → Outcome → State → Prop} {free : Addr → Prop} {Ts : List Cond} {own : String} {As rest : List Value} {g : JFrame}
    (S : CallFix p m c cc nL s args Ts own) (hM : Met l y ws rm Pc Qc mc ms free) (cw : vx_CSW R s args own index y bytes maxL ret hh ws rm mc ms n) (hp : PreS s H Pc As)
    (hg : g.method = m) (hn : As.length = n) (hsize : g.locals.size = nL) (hstack : g.stack = As.reverse ++ rest) (hW : 2 * g.monitorRoom + (rest.map fun v => v.category).sum ≤ 8) (hdg : decode cc g.pc = .ok (.invokestatic index, 3)) (hf : cells + mc ≤ R.cells ∧ slots + ms ≤ R.slots) :
    va_Run p l e R s m args below meth c H locs cells slots mc ms g rest (Qc As.toArray) (free) := by
  obtain ⟨⟨hrc, hrs, hfr, hlo, hws, hcw⟩, hcode, hini, hy, hlen, hl, hstt⟩ := cw
  have hK : Back l R p e below s args y 3 8 (PreOf R mc ms Pc) (PostOf Qc mc ms free) := va_backW (hh := hh) (bytes := bytes) (maxL := maxL) (ret := ret) hM hp.1 hrc hrs hfr hlo hws hcw (fun a' U hW => word_at hW (Or.inl (by first | rfl | simp [Cond.onTables, Cond.keeps, Cond.steady])) hini)
  obtain ⟨hx, hb, hml, ho, -⟩ := S
  intro T hT X
  obtain ⟨v, vm₁, ⟨U', l2, c2, s2⟩, hW₁, X', ⟨g', mk, t, L, e1, e2, hq, h1, hL, h2, h3⟩, st⟩ := vx_callSW X hx (hh := hh) (bytes := bytes) (maxL := maxL) (ret := ret) ho hl hstt hini hcode hy hK hg (hsize.trans hml.symm) (argsL := As) (rest := rest) (fun sig h => hn.trans (hlen sig h)) hstack hW (by rw [hb]; exact hdg)
    (fun vm₁ hW₁ => ⟨hf.1, hf.2, hp.2 (T.setVm vm₁) hT hW₁⟩)
  dsimp only [Pt.U, Pt.locs, Pt.cells, Pt.slots] at X' e1 e2 h1 h2 h3 st
  subst h1; subst h2; subst h3
  exact ⟨v, (T.setVm vm₁).calling g' mk As.toArray, t, U', L, hT, X', hL, e1, e2, hq, st⟩
/-- not caught here, past rows that name other classes: it goes on to the caller -/
theorem vx_outP {p : Program} {l : Launch} {e : Env} {R : Room} {s : State} {m : MethodId} {args : Array Value} {below : List Frame} {meth : Method} {c : Code} {H : Heap} {locs : List Loc} {cells slots : Nat} {free : Addr → Prop} {ls : Array Slot} {rest : List Value} {Qc : Array Value → State → Outcome → State → Prop} {XC : String → State → State → Prop}
    {pc : Nat} {own E : String} {ce : Cell} {q : Addr} {mc ms : Nat} (hown : s.vm.findClass own = some m.cls) (hlocks : meth.locks = false)
    (hpass : ∀ z ∈ c.exceptionTable.toList, covers z pc = false ∨ (z.catchType ≠ 0 ∧ ∃ nm : String, (Cond.classLink own z.catchType nm).before args s = true ∧ va_Nc E nm s)) (hcell : H[q]? = some ce) (hv : ce.vm = .none) (hcl : s.vm.findClass E = some ce.cls)
    (hx : ∀ t : State, t.heap = H → s.vm.Alike t.vm → XC E s t) (hf : ∀ z ∈ locs, free z.base) (hc : cells ≤ mc) (hs : slots ≤ ms) :
    vx_W p l e R s m args below meth c H locs cells slots (vx_MQ below Qc XC args s mc ms free) (F0 m pc ls rest) q := by
  intro T hT X
  have hpl : e.platform.magicAccessors = ({} : Platform).magicAccessors := by rw [X.admits.platform]
  obtain ⟨vm', hW', X', st⟩ := X.outThrough hlocks q (g := F0 m pc ls rest) rfl rfl rfl (cell := ce) (by rw [hT]; exact hcell) (by rw [hv]; rfl)
    (by obtain ⟨k9, h9, -⟩ := Vm.findClass_spec hcl; exact ⟨k9, h9⟩) (fun z hz => by
      rcases hpass z hz with h | ⟨hz0, nm, hl1, hn1⟩
      · exact Or.inl h
      · obtain ⟨c6, hc6, hcl6⟩ := Cond.classLink_spec hown hl1 e.platform hpl
        obtain ⟨a8, b8, h1, h2, h3⟩ := hn1
        cases Option.some.inj (h1.symm.trans hcl)
        cases Option.some.inj (h2.symm.trans hc6)
        exact Or.inr ⟨hz0, _, hcl6, h3⟩)
  obtain ⟨g₀, hfr⟩ := X'.frames_eq
  have hcell9 : ((T.setVm vm').setFrames (.throwing q :: below)).heap[q]? = some ce := by
    show T.heap[q]? = some ce
    rw [hT]; exact hcell
  have hend : Ended ((T.setVm vm').setFrames (.throwing q :: below)) below (.threw q) := State.frames_setFrames _ (State.cur_lt_of_frames hfr)
  refine ⟨(T.setVm vm').setFrames (.throwing q :: below), ?_, .threw q, X'.here.running, hend, Or.inr ⟨q, rfl, E, ce, locs, hx _ hT (X'.ends _).1.alike, hcell9, hv, hcl, (X'.ends _).1, (X'.ends _).2.mono hc hs, hf⟩⟩
  rw [X.pushThrowing_eq]
  exact st
/-- a thing of a world lies in the heap -/
theorem vx_lt {D : va_G} {cl : List vw_C} {ws : va_W} {H1 : Heap} (h : va_P D cl ws H1) {k : Nat} {q : Nat × va_E} (hk : ws[k]? = some q) : q.1 < H1.size := (h k q hk).lt
end VXS
/-! ===== END ===== -/
/-! ===== BEGIN methods with a table of their own: called by a name, returning or throwing ===== -/
section VXH
/-! vx_backW, vx_callVX, vx_callSX, vx_callVW, vx_runVW, vx_runVX, vx_runSX, vx_ofWH follow the same proofs as their sisters above (Free/Laws.lean, Shelf42/LK1.lean); vx_outP calls Shelf42/NT130.lean (outThrough). -/
section
variable {l : Launch} {R : Room} {p : Program} {e : Env} {below : List Frame} {s : State} {sargs : Array Value} {y : MethodName} {len W9 : Nat}
theorem vx_backW {ws : List Cond} {rm : Room} {Pc : Array Value → State → Prop} {Qc : Array Value → State → Outcome → State → Prop} {XC : String → State → State → Prop} {mc ms : Nat} {free : Addr → Prop} {bytes : ByteArray} {maxL : Nat} {ret : Option FieldType} {hh : List (Nat × Nat × Nat × Nat)}
    (hM : vx_Met l y ws rm Pc Qc XC mc ms free) (hblind : FrameBlind Pc) (hrc : rm.cells = mc) (hrs : rm.slots = ms)
    (hframes : rm.frames + 1 ≤ R.frames) (hlocals : W9 + (maxL + 11) + rm.locals ≤ R.locals)
    (hws : ∀ w ∈ ws, ∀ a' U, s.WarmedH U.vm → w.before a' U = true) (hcode : Cond.codeWith y bytes maxL ret hh ∈ ws) (hinit : ∀ a' U, s.WarmedH U.vm → (Cond.initialized y.cls).before a' U = true) :
    vx_Back l R p e below s sargs y len W9 (PreOf R mc ms Pc) (PostOf Qc mc ms free) (vx_Post XC mc ms free) := by
  intro m meth c A g ig mk a X hg hsize hdg hW hn hp
  have h1 : (headSpec ws rm).pre.before a A.U = true := atoms_intro fun w hw => hws w hw _ _ X.warmed
  have h2 : (Cond.codeWith y bytes maxL ret hh).before a A.U = true := hws _ hcode _ _ X.warmed
  have h3 : (Cond.initialized y.cls).before a A.U = true := hinit _ _ X.warmed
  have h4 : A.cells + (headSpec ws rm).room.cells ≤ R.cells := by rw [show (headSpec ws rm).room.cells = mc from hrc]; exact hp.1
  have h5 : A.slots + (headSpec ws rm).room.slots ≤ R.slots := by rw [show (headSpec ws rm).room.slots = ms from hrs]; exact hp.2.1
  have hPc : Pc a (A.U.calling g mk a) := hblind _ _ _ _ hp.2.2
  obtain ⟨U, Ls, c0, s0⟩ := A
  dsimp only [Pt.U, Pt.locs, Pt.cells, Pt.slots] at h1 h2 h3 h4 h5 X hn hPc ⊢
  obtain ⟨m9, methY, cY, hn9, hmY, hcY, -, hlY, -⟩ := Cond.codeWith_spec h2
  cases Option.some.inj (hn9.symm.trans hn)
  obtain ⟨kY, hkY, -⟩ := className_of_methodNamed hn
  have hinitY : kY.init = .initialized := Cond.initialized_spec (findClass_of_methodNamed hn) hkY h3
  have h : At U g.method c below := by rw [hg]; exact X.here
  have hlocals9 : W9 + (maxL + 11) + (headSpec ws rm).room.locals ≤ R.locals := hlocals
  have happ : (headSpec ws rm).appliesLoose y e.platform (U.calling g mk a) = true :=
    Spec.appliesLoose_calling (g := g) h hdg hn hkY hinitY
      (X.room_calling (g := g) (R' := (headSpec ws rm).room) hsize hmY hcY hframes (by rw [hlY]; omega) h4 h5) h1
  obtain ⟨mid, hmid⟩ := h.above
  have hfr : (U.setTop g).frames = (.java g :: mid) ++ below := by rw [State.frames_setTop' g h.top, hmid]; rfl
  obtain ⟨o, s₂, hsteps, -, hend, hq⟩ := Steps.callFree hM p X.admits X.cas X.clock (acts := []) hfr happ hPc trivial
  have hq' : vx_Q Qc XC mc ms free a (U.calling g mk a) o s₂ := hq
  rw [State.frames_setTop' g h.top] at hend
  obtain ⟨g₀, hg0⟩ := Option.isSome_iff_exists.mp h.top
  obtain ⟨r, hr⟩ := State.topJava?_eq_some.mp hg0
  have hr' : (({ U with heap := s₂.heap, slotsUsed := s₂.slotsUsed } : State).setVm s₂.vm).frames = .java g₀ :: r := hr
  rcases hq' with ⟨hqc, L, hfe, hL⟩ | ⟨q, rfl, E, ce, L, hx, hce, hcv, hcl, hW₂, hsm, hL⟩
  · obtain ⟨⟨v, rfl⟩, hW₂, e2, q2, q3, q4, q5, q6⟩ := id hfe
    have e3 : s₂ = ({ (U.calling g mk a).setFrames s₂.frames with heap := s₂.heap, slotsUsed := s₂.slotsUsed } : State).setVm s₂.vm := by
      have : s₂ = ({ s₂ with vm := (U.calling g mk a).vm } : State).setVm s₂.vm := rfl
      rw [e2] at this
      exact this
    obtain ⟨c₂, i₂, len₂, hc₂, hd₂, hf₂⟩ := hend
    have hW' : U.WarmedH s₂.vm := hW₂
    have hcc : c₂ = c := by
      have h1 : s₂.code? g.method = U.code? g.method := by
        rw [State.code?_eq, State.code?_eq, hW'.alike.method?]
      exact Option.some.inj (hc₂.symm.trans (h1.trans h.code))
    subst hcc
    have hlen : len₂ = len := by rw [hdg] at hd₂; cases hd₂; rfl
    subst hlen
    have hs₂ : s₂ = (({ U with heap := s₂.heap, slotsUsed := s₂.slotsUsed } : State).setVm s₂.vm).setTop { g with pc := g.pc + len₂, stack := v.toList ++ g.stack } := by
      refine e3.trans ?_
      rw [hf₂, State.calling_eq h.top, State.setFrames_setFrames, State.setTop_of_frames _ hr', hr]
      rfl
    have hsame : U.sameButNew ({ U with heap := s₂.heap, slotsUsed := s₂.slotsUsed } : State) L mc ms := by
      refine ⟨?_, q2, q3, q4, q5, q6⟩
      obtain ⟨t, ht, -⟩ := State.frames_cons hr
      show ({ U with heap := s₂.heap, slotsUsed := s₂.slotsUsed } : State) = { U.setFrames U.frames with heap := s₂.heap, slotsUsed := s₂.slotsUsed }
      rw [State.setFrames_self ht]
    subst hg
    refine Or.inl ⟨v, ⟨(({ U with heap := s₂.heap, slotsUsed := s₂.slotsUsed } : State).setVm s₂.vm), Ls ++ L, c0 + mc, s0 + ms⟩,
      ⟨X.admits, X.cas, X.clock, X.frames, X.room, X.hears, X.method, X.code, (X.here.setHeapUsed s₂.heap s₂.slotsUsed).setVm hW'.alike, X.tail, State.WarmedH.trans X.warmed hW', X.limits, X.bytes, X.same.trans (hsame.setVm s.vm)⟩,
      ⟨g, mk, s₂, L, rfl, rfl, hqc, rfl, hL, rfl, rfl⟩, ?_⟩
    show Steps p.tables e below _ ((({ U with heap := s₂.heap, slotsUsed := s₂.slotsUsed } : State).setVm s₂.vm).setTop { g with pc := g.pc + len₂, stack := v.toList ++ g.stack })
    rw [← hs₂]
    exact hsteps
  · obtain ⟨e2, q2, q3, q4, q5, q6⟩ := id hsm
    have e3 : s₂ = ({ (U.calling g mk a).setFrames s₂.frames with heap := s₂.heap, slotsUsed := s₂.slotsUsed } : State).setVm s₂.vm := by
      have : s₂ = ({ s₂ with vm := (U.calling g mk a).vm } : State).setVm s₂.vm := rfl
      rw [e2] at this
      exact this
    have hf₂ : s₂.frames = .throwing q :: .java g :: U.frames.tail := hend
    have hW' : U.WarmedH s₂.vm := hW₂
    have hs₂ : s₂ = ((({ U with heap := s₂.heap, slotsUsed := s₂.slotsUsed } : State).setVm s₂.vm).setTop g).pushFrame (.throwing q) := by
      refine e3.trans ?_
      rw [hf₂, State.calling_eq h.top, State.setFrames_setFrames, State.pushFrame, State.frames_setTop _ hr', State.setTop_of_frames _ hr', State.setFrames_setFrames, hr]
      rfl
    have hsame : U.sameButNew ({ U with heap := s₂.heap, slotsUsed := s₂.slotsUsed } : State) L mc ms := by
      refine ⟨?_, q2, q3, q4, q5, q6⟩
      obtain ⟨t, ht, -⟩ := State.frames_cons hr
      show ({ U with heap := s₂.heap, slotsUsed := s₂.slotsUsed } : State) = { U.setFrames U.frames with heap := s₂.heap, slotsUsed := s₂.slotsUsed }
      rw [State.setFrames_self ht]
    subst hg
    refine Or.inr ⟨q, ⟨(({ U with heap := s₂.heap, slotsUsed := s₂.slotsUsed } : State).setVm s₂.vm), Ls ++ L, c0 + mc, s0 + ms⟩,
      ⟨X.admits, X.cas, X.clock, X.frames, X.room, X.hears, X.method, X.code, (X.here.setHeapUsed s₂.heap s₂.slotsUsed).setVm hW'.alike, X.tail, State.WarmedH.trans X.warmed hW', X.limits, X.bytes, X.same.trans (hsame.setVm s.vm)⟩,
      ⟨g, mk, s₂, L, E, ce, rfl, rfl, hx, hce, hcv, hcl, rfl, hL, rfl, rfl⟩, ?_⟩
    show Steps p.tables e below _ (((({ U with heap := s₂.heap, slotsUsed := s₂.slotsUsed } : State).setVm s₂.vm).setTop g).pushFrame (.throwing q))
    rw [← hs₂]
    exact hsteps
end
variable {p : Program} {l : Launch} {e : Env} {R : Room} {s : State} {m : MethodId} {args : Array Value} {below : List Frame} {meth : Method} {c : Code} {T : State} {H : Heap} {locs : List Loc} {cells slots : Nat}
theorem vx_callVX (X : Stand p l e R s m args below meth c T locs cells slots) (hexec : p.tables.exec = Jvm.exec) {own C : String} {index : Nat} {y : MethodName} {bytes : ByteArray} {maxL : Nat} {ret : Option FieldType} {hh : List (Nat × Nat × Nat × Nat)}
    (hown : s.vm.findClass own = some m.cls) (hlink : (Cond.methodLink own index y).before args s = true) (hinst : (Cond.instanceMethod y).before args s = true) (hsel : (Cond.selects C y y).before args s = true)
    (hcode : (Cond.codeWith y bytes maxL ret hh).before args s = true) (hy : y.cls ≠ "java/lang/invoke/MethodHandle" ∧ y.cls ≠ "java/lang/invoke/VarHandle")
    {W9 : Nat} {Pre : Pt → Array Value → Prop} {Post : Pt → Array Value → Option Value → Pt → Prop} {PostX : Pt → Array Value → Addr → Pt → Prop} (hK : vx_Back l R p e below s args y 3 W9 Pre Post PostX)
    {b : Addr} {cellB : Cell} (hcell : T.heap[b]? = some cellB) (hobj : cellB.vm.isStatics = false) (hcls : s.vm.findClass C = some cellB.cls)
    {g : JFrame} (hg : g.method = m) (hsize : g.locals.size = c.maxLocals) {argsL rest : List Value} (hlen : ∀ sig, parseMethodDescriptor y.desc = some sig → argsL.length = sig.parameters.length)
    (hstack : g.stack = argsL.reverse ++ .ref b :: rest) (hW : 2 * g.monitorRoom + (rest.map fun v => v.category).sum ≤ W9) (hdg : decode c.code g.pc = .ok (.invokevirtual index, 3))
    (hpre : ∀ vm₁, s.WarmedH vm₁ → Pre ⟨T.setVm vm₁, locs, cells, slots⟩ (Value.ref b :: argsL).toArray) :
    (∃ (v : Option Value) (vm₁ : Vm) (B : Pt), s.WarmedH vm₁ ∧ Stand p l e R s m args below meth c B.U B.locs B.cells B.slots ∧ Post ⟨T.setVm vm₁, locs, cells, slots⟩ (Value.ref b :: argsL).toArray v B ∧
      ∀ target, Steps p.tables e below (B.U.setTop { g with pc := g.pc + 3, stack := v.toList ++ rest }) target → Steps p.tables e below (T.setTop g) target) ∨
    (∃ (q : Addr) (vm₁ : Vm) (B : Pt), s.WarmedH vm₁ ∧ Stand p l e R s m args below meth c B.U B.locs B.cells B.slots ∧ PostX ⟨T.setVm vm₁, locs, cells, slots⟩ (Value.ref b :: argsL).toArray q B ∧
      Steps p.tables e below (T.setTop g) ((B.U.setTop { g with stack := rest }).pushFrame (.throwing q))) := by
  obtain ⟨mk, methM, hnamed, hmethM, hstM, habM⟩ := Cond.instanceMethod_spec hinst
  obtain ⟨m8, methM', cM, hn8, hmethM', -, -, -, -, -, -, hsigM⟩ := Cond.codeWith_spec hcode
  cases Option.some.inj (hn8.symm.trans hnamed)
  cases hmethM.symm.trans hmethM'
  obtain ⟨c2, r2, m2, q1, q2, q3, q4, kP, hkP, hkPi⟩ := Cond.selects_spec hsel
  cases hcls.symm.trans q1
  cases (State.methodFound?_of_named hnamed hy).symm.trans q2
  cases hnamed.symm.trans q3
  have hselP : selectMethod e.platform s.vm cellB.cls mk = .method mk := by rw [Launch.admits_selectMethod X.admits]; exact q4
  obtain ⟨vm₁, X₁, hstep₁⟩ := X.invokevirtual hexec hown hlink hnamed hmethM hstM hkP hkPi hy (a := b) (cell := cellB) hcell
    (fun z h => by rw [h] at hobj; cases hobj) hselP hmethM habM hkP hkPi (g := g) hg (argsL := argsL) (rest := rest) (hlen _ hsigM) hstack hdg
  rcases hK m meth c ⟨T.setVm vm₁, locs, cells, slots⟩ { g with stack := rest } (.invokevirtual index) mk (Value.ref b :: argsL).toArray X₁ hg hsize hdg hW (X₁.named hnamed) (hpre vm₁ X₁.warmed) with ⟨v, B, X', hpost, hsteps⟩ | ⟨q, B, X', hpost, hsteps⟩
  · exact Or.inl ⟨v, vm₁, B, X₁.warmed, X', hpost, fun target h => hstep₁ _ fun acts => by rw [doInvoke_state]; exact hsteps.trans h⟩
  · exact Or.inr ⟨q, vm₁, B, X₁.warmed, X', hpost, hstep₁ _ fun acts => by rw [doInvoke_state]; exact hsteps⟩
theorem vx_callSX (X : Stand p l e R s m args below meth c T locs cells slots) (hexec : p.tables.exec = Jvm.exec) {own : String} {index : Nat} {y : MethodName} {bytes : ByteArray} {maxL : Nat} {ret : Option FieldType} {hh : List (Nat × Nat × Nat × Nat)}
    (hown : s.vm.findClass own = some m.cls) (hlink : (Cond.methodLink own index y).before args s = true) (hstat : (Cond.static y).before args s = true) (hinit : (Cond.initialized y.cls).before args s = true)
    (hcode : (Cond.codeWith y bytes maxL ret hh).before args s = true) (hy : y.cls ≠ "java/lang/invoke/MethodHandle" ∧ y.cls ≠ "java/lang/invoke/VarHandle")
    {W9 : Nat} {Pre : Pt → Array Value → Prop} {Post : Pt → Array Value → Option Value → Pt → Prop} {PostX : Pt → Array Value → Addr → Pt → Prop} (hK : vx_Back l R p e below s args y 3 W9 Pre Post PostX)
    {g : JFrame} (hg : g.method = m) (hsize : g.locals.size = c.maxLocals) {argsL rest : List Value} (hlen : ∀ sig, parseMethodDescriptor y.desc = some sig → argsL.length = sig.parameters.length)
    (hstack : g.stack = argsL.reverse ++ rest) (hW : 2 * g.monitorRoom + (rest.map fun v => v.category).sum ≤ W9) (hdg : decode c.code g.pc = .ok (.invokestatic index, 3))
    (hpre : ∀ vm₁, s.WarmedH vm₁ → Pre ⟨T.setVm vm₁, locs, cells, slots⟩ argsL.toArray) :
    (∃ (v : Option Value) (vm₁ : Vm) (B : Pt), s.WarmedH vm₁ ∧ Stand p l e R s m args below meth c B.U B.locs B.cells B.slots ∧ Post ⟨T.setVm vm₁, locs, cells, slots⟩ argsL.toArray v B ∧
      ∀ target, Steps p.tables e below (B.U.setTop { g with pc := g.pc + 3, stack := v.toList ++ rest }) target → Steps p.tables e below (T.setTop g) target) ∨
    (∃ (q : Addr) (vm₁ : Vm) (B : Pt), s.WarmedH vm₁ ∧ Stand p l e R s m args below meth c B.U B.locs B.cells B.slots ∧ PostX ⟨T.setVm vm₁, locs, cells, slots⟩ argsL.toArray q B ∧
      Steps p.tables e below (T.setTop g) ((B.U.setTop { g with stack := rest }).pushFrame (.throwing q))) := by
  obtain ⟨mk, methM, cM, hnamed, hmethM, -, -, -, -, -, -, hsigM⟩ := Cond.codeWith_spec hcode
  have hstatic : methM.isStatic = true := Cond.static_spec hnamed hmethM hstat
  obtain ⟨kP, hkP, -⟩ := className_of_methodNamed hnamed
  have hinitP : kP.init = .initialized := Cond.initialized_spec (findClass_of_methodNamed hnamed) hkP hinit
  obtain ⟨vm₁, X₁, hstep₁⟩ := X.invokestatic hexec hown hlink hnamed hmethM hstatic hkP hinitP hy (g := g) hg (argsL := argsL) (rest := rest) (hlen _ hsigM) hstack hdg
  rcases hK m meth c ⟨T.setVm vm₁, locs, cells, slots⟩ { g with stack := rest } (.invokestatic index) mk argsL.toArray X₁ hg hsize hdg hW (X₁.named hnamed) (hpre vm₁ X₁.warmed) with ⟨v, B, X', hpost, hsteps⟩ | ⟨q, B, X', hpost, hsteps⟩
  · exact Or.inl ⟨v, vm₁, B, X₁.warmed, X', hpost, fun target h => hstep₁ _ fun acts => by rw [doInvoke_state]; exact hsteps.trans h⟩
  · exact Or.inr ⟨q, vm₁, B, X₁.warmed, X', hpost, hstep₁ _ fun acts => by rw [doInvoke_state]; exact hsteps⟩
theorem vx_callVW (X : Stand p l e R s m args below meth c T locs cells slots) (hexec : p.tables.exec = Jvm.exec) {own C : String} {index : Nat} {y : MethodName} {bytes : ByteArray} {maxL : Nat} {ret : Option FieldType} {hh : List (Nat × Nat × Nat × Nat)}
    (hown : s.vm.findClass own = some m.cls) (hlink : (Cond.methodLink own index y).before args s = true) (hinst : (Cond.instanceMethod y).before args s = true) (hsel : (Cond.selects C y y).before args s = true)
    (hcode : (Cond.codeWith y bytes maxL ret hh).before args s = true) (hy : y.cls ≠ "java/lang/invoke/MethodHandle" ∧ y.cls ≠ "java/lang/invoke/VarHandle")
    {W9 : Nat} {Pre : Pt → Array Value → Prop} {Post : Pt → Array Value → Option Value → Pt → Prop} (hK : Back l R p e below s args y 3 W9 Pre Post)
    {b : Addr} {cellB : Cell} (hcell : T.heap[b]? = some cellB) (hobj : cellB.vm.isStatics = false) (hcls : s.vm.findClass C = some cellB.cls)
    {g : JFrame} (hg : g.method = m) (hsize : g.locals.size = c.maxLocals) {argsL rest : List Value} (hlen : ∀ sig, parseMethodDescriptor y.desc = some sig → argsL.length = sig.parameters.length)
    (hstack : g.stack = argsL.reverse ++ .ref b :: rest) (hW : 2 * g.monitorRoom + (rest.map fun v => v.category).sum ≤ W9) (hdg : decode c.code g.pc = .ok (.invokevirtual index, 3))
    (hpre : ∀ vm₁, s.WarmedH vm₁ → Pre ⟨T.setVm vm₁, locs, cells, slots⟩ (Value.ref b :: argsL).toArray) :
    ∃ (v : Option Value) (vm₁ : Vm) (B : Pt), s.WarmedH vm₁ ∧ Stand p l e R s m args below meth c B.U B.locs B.cells B.slots ∧ Post ⟨T.setVm vm₁, locs, cells, slots⟩ (Value.ref b :: argsL).toArray v B ∧
      ∀ target, Steps p.tables e below (B.U.setTop { g with pc := g.pc + 3, stack := v.toList ++ rest }) target → Steps p.tables e below (T.setTop g) target := by
  obtain ⟨mk, methM, hnamed, hmethM, hstM, habM⟩ := Cond.instanceMethod_spec hinst
  obtain ⟨m8, methM', cM, hn8, hmethM', -, -, -, -, -, -, hsigM⟩ := Cond.codeWith_spec hcode
  cases Option.some.inj (hn8.symm.trans hnamed)
  cases hmethM.symm.trans hmethM'
  obtain ⟨c2, r2, m2, q1, q2, q3, q4, kP, hkP, hkPi⟩ := Cond.selects_spec hsel
  cases hcls.symm.trans q1
  cases (State.methodFound?_of_named hnamed hy).symm.trans q2
  cases hnamed.symm.trans q3
  have hselP : selectMethod e.platform s.vm cellB.cls mk = .method mk := by rw [Launch.admits_selectMethod X.admits]; exact q4
  obtain ⟨vm₁, X₁, hstep₁⟩ := X.invokevirtual hexec hown hlink hnamed hmethM hstM hkP hkPi hy (a := b) (cell := cellB) hcell
    (fun z h => by rw [h] at hobj; cases hobj) hselP hmethM habM hkP hkPi (g := g) hg (argsL := argsL) (rest := rest) (hlen _ hsigM) hstack hdg
  obtain ⟨v, B, X', hpost, hsteps⟩ := hK m meth c ⟨T.setVm vm₁, locs, cells, slots⟩ { g with stack := rest } (.invokevirtual index) mk (Value.ref b :: argsL).toArray X₁ hg hsize hdg hW (X₁.named hnamed) (hpre vm₁ X₁.warmed)
  exact ⟨v, vm₁, B, X₁.warmed, X', hpost, fun target h => hstep₁ _ fun acts => by rw [doInvoke_state]; exact hsteps.trans h⟩
abbrev vx_CVW (R : Room) (s : State) (args : Array Value) (own C : String) (index : Nat) (y : MethodName) (bytes : ByteArray) (maxL : Nat) (ret : Option FieldType) (hh : List (Nat × Nat × Nat × Nat)) (ws : List Cond) (rm : Room) (mc ms n : Nat) : Prop :=
  (rm.cells = mc ∧ rm.slots = ms ∧ rm.frames + 1 ≤ R.frames ∧ 8 + (maxL + 11) + rm.locals ≤ R.locals ∧ (∀ w ∈ ws, ∀ (a' : Array Value) (U : State), s.WarmedH U.vm → w.before a' U = true) ∧ Cond.codeWith y bytes maxL ret hh ∈ ws) ∧
  (Cond.codeWith y bytes maxL ret hh).before args s = true ∧ (Cond.initialized y.cls).before args s = true ∧ (y.cls ≠ "java/lang/invoke/MethodHandle" ∧ y.cls ≠ "java/lang/invoke/VarHandle") ∧
  (∀ sig, parseMethodDescriptor y.desc = some sig → n = sig.parameters.length) ∧ (Cond.methodLink own index y).before args s = true ∧ (Cond.instanceMethod y).before args s = true ∧ (Cond.selects C y y).before args s = true
theorem vx_cwVW {own C : String} {index maxL mc ms : Nat} {y : MethodName} {bytes : ByteArray} {ret : Option FieldType} {hh : List (Nat × Nat × Nat × Nat)} {Ts ws ws' : List Cond} {rm : Room} (n : Nat) (ht : ∀ w ∈ Ts, w.before args s = true) (hT : GoodIn Ts (wsV own index C y ws)) (hw : ws = Cond.codeWith y bytes maxL ret hh :: ws') (hrc : rm.cells = mc) (hrs : rm.slots = ms)
    (hd : y.cls = C ∧ y.cls ≠ "java/lang/invoke/MethodHandle" ∧ y.cls ≠ "java/lang/invoke/VarHandle" ∧ (parseMethodDescriptor y.desc).map (fun d => d.parameters.length) = some n) (hR : rm.frames + 1 ≤ R.frames ∧ 8 + (maxL + 11) + rm.locals ≤ R.locals) :
    vx_CVW R s args own C index y bytes maxL ret hh ws rm mc ms n := by
  obtain ⟨hC, hd⟩ := hd
  subst hC
  have ok : ∀ w ∈ wsV own index y.cls y ws, w.before args s = true := fun w h => ht w (hT w h).1
  have hG : GoodIn Ts ws := fun w h => hT w (by unfold wsV; exact List.mem_append_right _ h)
  have hc : Cond.codeWith y bytes maxL ret hh ∈ ws := by rw [hw]; exact List.mem_cons_self
  refine ⟨⟨hrc, hrs, hR.1, hR.2, pay_in ht hG, hc⟩, ht _ (hG _ hc).1, ok _ (by simp [wsV]), ⟨hd.1, hd.2.1⟩, fun sig h => ?_, ok _ (by simp [wsV]), ok _ (by simp [wsV]), ok _ (by simp [wsV])⟩
  have h2 := hd.2.2
  rw [h] at h2
  exact (Option.some.inj h2).symm
theorem vx_runVW {y : MethodName} {bytes cc : ByteArray} {maxL nL mc ms n index : Nat} {ret : Option FieldType} {hh : List (Nat × Nat × Nat × Nat)} {ws : List Cond} {rm : Room} {Pc : Array Value → State → Prop} {Qc : Array Value → State → Outcome → State → Prop} {free : Addr → Prop} {Ts : List Cond} {own C : String} {b : Addr} {As rest : List Value} {g : JFrame}
    (S : CallFix p m c cc nL s args Ts own) (hM : Met l y ws rm Pc Qc mc ms free) (cw : vx_CVW R s args own C index y bytes maxL ret hh ws rm mc ms n) (hp : PreV s H C b Pc As)
    (hg : g.method = m) (hn : As.length = n) (hsize : g.locals.size = nL) (hstack : g.stack = As.reverse ++ .ref b :: rest) (hW : 2 * g.monitorRoom + (rest.map fun v => v.category).sum ≤ 8) (hdg : decode cc g.pc = .ok (.invokevirtual index, 3)) (hf : cells + mc ≤ R.cells ∧ slots + ms ≤ R.slots) :
    va_Run p l e R s m args below meth c H locs cells slots mc ms g rest (Qc (Value.ref b :: As).toArray) free := by
  obtain ⟨⟨hrc, hrs, hfr, hlo, hws, hcw⟩, hcode, hini, hy, hlen, hl, hin, hse⟩ := cw
  have hK : Back l R p e below s args y 3 8 (PreOf R mc ms Pc) (PostOf Qc mc ms free) := va_backW (hh := hh) (bytes := bytes) (maxL := maxL) (ret := ret) hM hp.1 hrc hrs hfr hlo hws hcw (fun a' U hW => word_at hW (Or.inl (by first | rfl | simp [Cond.onTables, Cond.keeps, Cond.steady])) hini)
  obtain ⟨hx, hb, hml, ho, -⟩ := S
  obtain ⟨-, ⟨cellB, hcB, hoB, hclB⟩, hPc⟩ := hp
  intro T hT X
  obtain ⟨v, vm₁, ⟨U', l2, c2, s2⟩, hW₁, X', ⟨g', mk, t, L, e1, e2, hq, h1, hL, h2, h3⟩, st⟩ := vx_callVW X hx (C := C) (hh := hh) (bytes := bytes) (maxL := maxL) (ret := ret) ho hl hin hse hcode hy hK (by rw [hT]; exact hcB) hoB hclB hg (hsize.trans hml.symm) (argsL := As) (rest := rest) (fun sig h => hn.trans (hlen sig h)) hstack hW (by rw [hb]; exact hdg)
    (fun vm₁ hW₁ => ⟨hf.1, hf.2, hPc (T.setVm vm₁) hT hW₁⟩)
  dsimp only [Pt.U, Pt.locs, Pt.cells, Pt.slots] at X' e1 e2 h1 h2 h3 st
  subst h1; subst h2; subst h3
  exact ⟨v, (T.setVm vm₁).calling g' mk (Value.ref b :: As).toArray, t, U', L, hT, X', hL, e1, e2, hq, st⟩
section
variable {y : MethodName} {bytes cc : ByteArray} {maxL nL mc ms n index : Nat} {ret : Option FieldType} {ws : List Cond} {rm : Room} {Pc : Array Value → State → Prop} {Qc : Array Value → State → Outcome → State → Prop} {XC : String → State → State → Prop} {free : Addr → Prop} {Ts : List Cond} {own C : String} {b : Addr} {As rest : List Value} {g : JFrame}
theorem vx_runVX {hh : List (Nat × Nat × Nat × Nat)} (S : CallFix p m c cc nL s args Ts own) (hM : vx_Met l y ws rm Pc Qc XC mc ms free) (cw : vx_CVW R s args own C index y bytes maxL ret hh ws rm mc ms n) (hp : PreV s H C b Pc As)
    (hg : g.method = m) (hn : As.length = n) (hsize : g.locals.size = nL) (hstack : g.stack = As.reverse ++ .ref b :: rest) (hW : 2 * g.monitorRoom + (rest.map fun v => v.category).sum ≤ 8) (hdg : decode cc g.pc = .ok (.invokevirtual index, 3)) (hf : cells + mc ≤ R.cells ∧ slots + ms ≤ R.slots) :
    vx_Run p l e R s m args below meth c H locs cells slots mc ms g rest (Qc (Value.ref b :: As).toArray) XC free := by
  obtain ⟨⟨hrc, hrs, hfr, hlo, hws, hcw⟩, hcode, hini, hy, hlen, hl, hin, hse⟩ := cw
  have hK : vx_Back l R p e below s args y 3 8 (PreOf R mc ms Pc) (PostOf Qc mc ms free) (vx_Post XC mc ms free) := vx_backW (hh := hh) (bytes := bytes) (maxL := maxL) (ret := ret) hM hp.1 hrc hrs hfr hlo hws hcw (fun a' U hW => word_at hW (Or.inl (by first | rfl | simp [Cond.onTables, Cond.keeps, Cond.steady])) hini)
  obtain ⟨hx, hb, hml, ho, -⟩ := S
  obtain ⟨-, ⟨cellB, hcB, hoB, hclB⟩, hPc⟩ := hp
  intro T hT X
  rcases vx_callVX X hx (C := C) (hh := hh) (bytes := bytes) (maxL := maxL) (ret := ret) ho hl hin hse hcode hy hK (by rw [hT]; exact hcB) hoB hclB hg (hsize.trans hml.symm) (argsL := As) (rest := rest) (fun sig h => hn.trans (hlen sig h)) hstack hW (by rw [hb]; exact hdg)
    (fun vm₁ hW₁ => ⟨hf.1, hf.2, hPc (T.setVm vm₁) hT hW₁⟩) with ⟨v, vm₁, ⟨U', l2, c2, s2⟩, hW₁, X', ⟨g', mk, t, L, e1, e2, hq, h1, hL, h2, h3⟩, st⟩ | ⟨q, vm₁, ⟨U', l2, c2, s2⟩, hW₁, X', ⟨g', mk, t, L, E, ce, e1, e2, hq, hce, hcv, hcl, h1, hL, h2, h3⟩, st⟩
  · dsimp only [Pt.U, Pt.locs, Pt.cells, Pt.slots] at X' e1 e2 h1 h2 h3 st
    subst h1; subst h2; subst h3
    exact Or.inl ⟨v, (T.setVm vm₁).calling g' mk (Value.ref b :: As).toArray, t, U', L, hT, X', hL, e1, e2, hq, st⟩
  · dsimp only [Pt.U, Pt.locs, Pt.cells, Pt.slots] at X' e1 e2 h1 h2 h3 st hcl
    subst h1; subst h2; subst h3
    exact Or.inr ⟨q, (T.setVm vm₁).calling g' mk (Value.ref b :: As).toArray, t, U', L, E, ce, hT, X', hL, e1, e2, hq, hce, hcv, vx_cls hW₁ hcl, st⟩
theorem vx_runSX {hh : List (Nat × Nat × Nat × Nat)} (S : CallFix p m c cc nL s args Ts own) (hM : vx_Met l y ws rm Pc Qc XC mc ms free) (cw : vx_CSW R s args own index y bytes maxL ret hh ws rm mc ms n) (hp : PreS s H Pc As)
    (hg : g.method = m) (hn : As.length = n) (hsize : g.locals.size = nL) (hstack : g.stack = As.reverse ++ rest) (hW : 2 * g.monitorRoom + (rest.map fun v => v.category).sum ≤ 8) (hdg : decode cc g.pc = .ok (.invokestatic index, 3)) (hf : cells + mc ≤ R.cells ∧ slots + ms ≤ R.slots) :
    vx_Run p l e R s m args below meth c H locs cells slots mc ms g rest (Qc As.toArray) XC free := by
  obtain ⟨⟨hrc, hrs, hfr, hlo, hws, hcw⟩, hcode, hini, hy, hlen, hl, hstt⟩ := cw
  have hK : vx_Back l R p e below s args y 3 8 (PreOf R mc ms Pc) (PostOf Qc mc ms free) (vx_Post XC mc ms free) := vx_backW (hh := hh) (bytes := bytes) (maxL := maxL) (ret := ret) hM hp.1 hrc hrs hfr hlo hws hcw (fun a' U hW => word_at hW (Or.inl (by first | rfl | simp [Cond.onTables, Cond.keeps, Cond.steady])) hini)
  obtain ⟨hx, hb, hml, ho, -⟩ := S
  intro T hT X
  rcases vx_callSX X hx (hh := hh) (bytes := bytes) (maxL := maxL) (ret := ret) ho hl hstt hini hcode hy hK hg (hsize.trans hml.symm) (argsL := As) (rest := rest) (fun sig h => hn.trans (hlen sig h)) hstack hW (by rw [hb]; exact hdg)
    (fun vm₁ hW₁ => ⟨hf.1, hf.2, hp.2 (T.setVm vm₁) hT hW₁⟩) with ⟨v, vm₁, ⟨U', l2, c2, s2⟩, hW₁, X', ⟨g', mk, t, L, e1, e2, hq, h1, hL, h2, h3⟩, st⟩ | ⟨q, vm₁, ⟨U', l2, c2, s2⟩, hW₁, X', ⟨g', mk, t, L, E, ce, e1, e2, hq, hce, hcv, hcl, h1, hL, h2, h3⟩, st⟩
  · dsimp only [Pt.U, Pt.locs, Pt.cells, Pt.slots] at X' e1 e2 h1 h2 h3 st
    subst h1; subst h2; subst h3
    exact Or.inl ⟨v, (T.setVm vm₁).calling g' mk As.toArray, t, U', L, hT, X', hL, e1, e2, hq, st⟩
  · dsimp only [Pt.U, Pt.locs, Pt.cells, Pt.slots] at X' e1 e2 h1 h2 h3 st hcl
    subst h1; subst h2; subst h3
    exact Or.inr ⟨q, (T.setVm vm₁).calling g' mk As.toArray, t, U', L, E, ce, hT, X', hL, e1, e2, hq, hce, hcv, vx_cls hW₁ hcl, st⟩
end
end VXH
theorem vx_ofWH {l : Launch} {y : MethodName} {ws ws' : List Cond} {rm : Room} {Pc : Array Value → State → Prop} {Qc : Array Value → State → Outcome → State → Prop} {XC : String → State → State → Prop} {mc ms : Nat} {free : Addr → Prop} {cc : ByteArray} {maxL : Nat} {ret : Option FieldType} {hh : List (Nat × Nat × Nat × Nat)}
    (hy : plainName y.cls = true) (hw : ws = Cond.codeWith y cc maxL ret hh :: ws')
    (body : ∀ p e s m args below meth c s₁, BodyLoose p l y (headSpec ws rm) cc maxL ret e s m args below meth c s₁ → c.maxLocals = maxL → Pc args s →
      W p l e (headSpec ws rm).room s m args below meth c s.heap [] 0 0 (vx_MQ below Qc XC args s mc ms free) (entryFrame m args maxL)) : vx_Met l y ws rm Pc Qc XC mc ms free := by
  refine MetFree.of_bodyS (code := cc) (maxLocals := maxL) (ret := ret) hy ?_ ?_
  · intro args s m h hn
    obtain ⟨m9, meth, c, hn9, h1, h2, h3, h4, -, h5, h6, -⟩ := Cond.codeWith_spec (atoms_spec (ws := ws) h _ (by rw [hw]; exact List.mem_cons_self))
    cases hn.symm.trans hn9
    exact ⟨meth, c, h1, h2, h3, h4, h5, h6⟩
  · intro p e s m args below meth c s₁ B hml hP _
    have hh0 : s₁.heap = s.heap := by rw [B.state]; rfl
    obtain ⟨t, a1, o, b1, b2, b3⟩ := body p e s m args below meth c s₁ B hml hP s₁ hh0 (Stand.of_body B)
    exact ⟨t, o, a1, b1, b2, b3⟩
/-! ===== END ===== -/

/-! ===== BEGIN what the machine throws by itself, no traces kept ===== -/
section VXM
set_option maxHeartbeats 1000000 in
/-- the machine throws cls with the message text, no traces kept: from its note over the frame g to 'throwing' over the same frame (follows the proofs of Stand.vmThrowsMessage, Shelf/KitTracedVmS.lean, and Stand.throwsMessageColdBareV, StandMessageColdV.lean, without the step out of the frame) -/
theorem vx_vmAt {p : Program} {l : Launch} {e : Env} {R : Room} {s : State} {m₀ : MethodId} {args : Array Value} {below : List Frame} {meth : Method} {c : Code} {W : State} {locs : List Loc} {cells slots : Nat}
    (X : Stand p l e R s m₀ args below meth c W locs cells slots) (hexec : p.tables.exec = Jvm.exec) (htr : e.platform.stackTraces = false) {cls : String} {names : List String} {text : String}
    (hcls : Bundle.fit cls = true) (hnames : ∀ n ∈ names, Bundle.fit n = true) (hsoe : (cls == "java/lang/StackOverflowError") = false) (hoom : (cls == "java/lang/OutOfMemoryError") = false)
    (h : ∀ a ∈ Bundle.messageArmAtoms cls names, a.before args s = true)
    (hlocs : ∀ x ∈ locs, ∀ cell, s.heap[x.base]? = some cell → cell.vm.isStatics = false)
    (htext : (text == notModelled) = false) (hlimit : ¬ (stringBytes (stringToUtf16 text)).size > e.platform.arrayLengthLimit) (hheap : ¬ (stringBytes (stringToUtf16 text)).size * componentBytes .byte > e.platform.maxHeapBytes)
    {g : JFrame} (hg : g.method = m₀) (hsize : g.locals.size = c.maxLocals)
    (hRframes : names.length + 4 < R.frames) (hRlocals : 2 * g.monitorRoom + (g.stack.map fun v => v.category).sum + 10240 ≤ R.locals) (hshort : 13 * names.length + 55 ≤ 10240)
    (hRcells : cells + 3 ≤ R.cells) (hRslots : slots + ((stringBytes (stringToUtf16 text)).size + 4 + 6) ≤ R.slots) (hlocks : meth.locks = false) :
    ∃ (S : State) (q : Addr) (ce : Cell), (∀ target, Steps p.tables e below ((S.setTop g).pushFrame (.throwing q)) target → Steps p.tables e below ((W.setTop g).pushFrame (.throwNew cls (some text) none)) target) ∧
      Stand p l e R s m₀ args below meth c S locs (cells + 3) (slots + ((stringBytes (stringToUtf16 text)).size + 4 + 6)) ∧ S.heap[q]? = some ce ∧ s.vm.findClass cls = some ce.cls ∧ ce.vm = .none := by
  have howns : e.platform.frameOwnsMonitors = true := by rw [X.admits.platform]
  have hfin : e.platform.finalization = false := by rw [X.admits.platform]
  have hpl : e.platform.magicAccessors = ({} : Platform).magicAccessors := by rw [X.admits.platform]
  have a : ∀ x, x ∈ Bundle.messageArmAtoms cls names → x.holds args s none s [] = true := fun x hx => h x hx
  obtain ⟨T, Z0, L, -, Y⟩ := ThrowableC.of_atoms (args := args) howns hfin hpl (fun x hx => h x (by simp [Bundle.messageArmAtoms, hx]))
  obtain ⟨Z, M, LZ, LM, hnZ⟩ := Init0T.ofS_atoms (args := args) hpl L Y (fun x hx => h x (by simp [Bundle.messageArmAtoms, hx]))
  obtain ⟨P1, Ps, hlen, L1, hL, hP1m, hlink1, hlink⟩ := Bundle.chainS (args := args) hpl hnZ names cls hcls hnames (fun x hx => h x (by simp [Bundle.messageArmAtoms, hx]))
  obtain ⟨Zs, LZs, hn4, hfitv, hfitc⟩ := StringT.of_atoms (args := args) (fun x hx => h x (by simp [Bundle.messageArmAtoms, hx]))
  have hfound : s.vm.findClass cls = some P1.m.cls := findClass_of_methodNamed hP1m
  obtain ⟨c1, kX, hc1, hk, hord, -, -, hn6⟩ := Cond.instantiable_spec (a (.instantiable cls 6) (by simp [Bundle.messageArmAtoms]))
  cases Option.some.inj (hc1.symm.trans hfound)
  have hinit := Cond.initialized_spec hfound hk (a (.initialized cls) (by simp [Bundle.messageArmAtoms]))
  have hctor : kX.findMethod "<init>" "(Ljava/lang/String;)V" = some P1.m.idx := findMethod_of_methodNamed hP1m hk
  have hsel0 : selectMethod e.platform s.vm P1.m.cls T.fill0 = .method T.fill0 := by
    obtain ⟨c2, r2, m2, q1, q2, q3, q4, -⟩ := Cond.selects_spec (a (.selects cls Bundle.tFill0 Bundle.tFill0) (by simp [Bundle.messageArmAtoms]))
    cases Option.some.inj (q1.symm.trans hfound)
    cases Option.some.inj (q2.symm.trans (State.methodFound?_of_named Y.fill0 (by decide)))
    cases Option.some.inj (q3.symm.trans Y.fill0)
    rw [Launch.admits_selectMethod X.admits]; exact q4
  have hselF : selectMethod e.platform s.vm P1.m.cls T.fill = .method T.fill := by
    obtain ⟨c2, r2, m2, q1, q2, q3, q4, -⟩ := Cond.selects_spec (a (.selects cls Bundle.tFill Bundle.tFill) (by simp [Bundle.messageArmAtoms]))
    cases Option.some.inj (q1.symm.trans hfound)
    cases Option.some.inj (q2.symm.trans (State.methodFound?_of_named Y.fill (by decide)))
    cases Option.some.inj (q3.symm.trans Y.fill)
    rw [Launch.admits_selectMethod X.admits]; exact q4
  obtain ⟨cellS0, hcS0, hiss⟩ := Y.statics
  obtain ⟨u0, hu0⟩ := Cond.staticRefV Y.unassigned L.unassignedStatic L.statics hcS0 hiss (a (.isRef (.static Bundle.tN "UNASSIGNED_STACK" Bundle.steD)) (by simp [Bundle.messageArmAtoms]))
  obtain ⟨sen, hsen⟩ := Cond.staticRefV Y.sentinel L.sentinelStatic L.statics hcS0 hiss (a (.isRef (.static Bundle.tN "SUPPRESSED_SENTINEL" Bundle.listD)) (by simp [Bundle.messageArmAtoms]))
  obtain ⟨ci198, i198, fB, hk198, hg198, ha198, hsB, -, hnB, htB, hffB⟩ := Cond.ownField (t := .object "java/lang/Object") Y.found L.cls (by decide +kernel) (a (.fieldLink Bundle.tN 198 Bundle.tN "backtrace" "Ljava/lang/Object;") (by simp [Bundle.messageArmAtoms])) (a (.lays Bundle.tN Bundle.tN "backtrace" "Ljava/lang/Object;") (by simp [Bundle.messageArmAtoms])) e.platform hpl
  obtain ⟨cellS, hcS', heS, -, hkeep⟩ := X.same.2.2.2.2.2 T.aS cellS0 hcS0
  have hcellS : W.heap[T.aS]? = some cellS := hcS'
  have hout' : ∀ i, (⟨T.aS, i⟩ : Loc) ∉ locs := fun i hmem => by
    have := hlocs _ hmem cellS0 hcS0
    rw [hiss] at this; cases this
  have hknownS : cellS.vm ≠ .unknown := by
    rw [heS]; intro hu
    rw [show cellS0.vm = .unknown from hu] at hiss
    cases hiss
  have hvU : cellS.slots[T.fUnassigned.slot]? = some u0.v := by rw [hkeep _ (hout' _)]; exact hu0
  have hvSen : cellS.slots[T.fSentinel.slot]? = some sen.v := by rw [hkeep _ (hout' _)]; exact hsen
  obtain ⟨iM, hffM⟩ := Y.msg
  obtain ⟨tyC, dC, hdC, hdnC⟩ := Cond.laysAt hfound hk Y.cause (a (.lays cls Bundle.tN "cause" "Ljava/lang/Throwable;") (by simp [Bundle.messageArmAtoms]))
  obtain ⟨tyS, dS, hdS, hdnS⟩ := Cond.laysAt hfound hk Y.stack (a (.lays cls Bundle.tN "stackTrace" Bundle.steD) (by simp [Bundle.messageArmAtoms]))
  obtain ⟨tyP, dP, hdP, hdnP⟩ := Cond.laysAt hfound hk Y.supp (a (.lays cls Bundle.tN "suppressedExceptions" Bundle.listD) (by simp [Bundle.messageArmAtoms]))
  obtain ⟨tyM, dM, hdM, hdnM⟩ := Cond.laysAt hfound hk hffM (a (.lays cls Bundle.tN "detailMessage" "Ljava/lang/String;") (by simp [Bundle.messageArmAtoms]))
  obtain ⟨tyB, dB, hdB, hdnB⟩ := Cond.laysAt hfound hk hffB (a (.lays cls Bundle.tN "backtrace" "Ljava/lang/Object;") (by simp [Bundle.messageArmAtoms]))
  have bC := Cond.laysApart hdB hdC hdnB hdnC (by rw [hnB, Y.causeName]; decide)
  have bS := Cond.laysApart hdB hdS hdnB hdnS (by rw [hnB, Y.stackName]; decide)
  have bP := Cond.laysApart hdB hdP hdnB hdnP (by rw [hnB, Y.suppName]; decide)
  have hbk : ((preparedCellV T.toThrowableT (freshCell P1.m.cls kX) (W.heap.size + 2) u0 sen).withEntry W.cur).slots[fB.slot]? = some .null := by
    have := fresh_default (c := P1.m.cls) tyB
    rw [htB] at this
    simpa [preparedCellV, Cell.setSlot, Cell.withEntry, Array.getElem?_setIfInBounds, bC, bS, bP, bC.symm, bS.symm, bP.symm, defaultValue] using this
  have tkC := Takes.of_laid (v := .ref (W.heap.size + 2)) hk hord tyC (by rw [Y.causeType]; rfl)
  have tkS := Takes.of_laid (v := u0.v) hk hord tyS (by rw [Y.stackType]; exact fits_refV_array _ u0)
  have tkP := Takes.of_laid (v := sen.v) hk hord tyP (by rw [Y.suppType]; exact fits_refV_object _ sen)
  have tkM := Takes.of_laid (v := .ref (W.heap.size + 1)) hk hord tyM (by rw [Y.msgType]; rfl)
  have hskip : SkipFacts T e.platform s (fun u => u) u0 ((preparedCellV T.toThrowableT (freshCell P1.m.cls kX) (W.heap.size + 2) u0 sen).withEntry W.cur) := ⟨{ ci198 := ci198, i198 := i198, fBack := fB }, ⟨hk198, hg198, ha198, hsB⟩, hbk, fun _ _ => rfl⟩
  have h0 : At W g.method c below := by rw [hg]; exact X.here
  obtain ⟨hbeyond, hfreeW⟩ := X.vmMayThrow hsize (.throwNew cls (some text) none) (fun f hf => by cases hf) rfl hRlocals
  have hfr' : W.frames.length + Ps.length + 4 < (e.platform.stackLimits W.me).1 := by have := X.framesAbove hRframes; omega
  have hwd' : (stackUse (.java g :: W.frames.tail)).2 + 13 * Ps.length + 55 ≤ (e.platform.stackLimits W.me).2 := by have := X.stackAbove hsize (K := 13 * Ps.length + 55) (by omega); omega
  have hslots : W.slotsUsed + (stringBytes (stringToUtf16 text)).size + Zs.kS.instanceTypes.size + kX.instanceTypes.size ≤ e.platform.maxSlots := by
    have := X.slotsAbove hRslots
    rw [hn4, hn6]
    omega
  obtain ⟨vm', hW', st⟩ := Steps.vmThrowsMessageColdByV p (s₀ := s) (S := W) (g := g) h0 hexec T L Z LZ M LM X.warmed (t := W.cur) rfl Zs LZs P1 L1 Ps hL hlink1 hlink hsoe hoom hfound hk hinit hord hctor
    (Launch.admits_hotImplicitExceptions X.admits) hbeyond hfreeW htext hlimit hheap (X.cellsAbove hRcells) hslots (hfitv _) (hfitc _)
    (Nn := fun u => u) heapOnly_id (fun _ _ => rfl) (fun _ => rfl) (fun u x y => setCell_twice _ _ _ _) (fun _ => Nat.le_refl _) (cN := ((preparedCellV T.toThrowableT (freshCell P1.m.cls kX) (W.heap.size + 2) u0 sen).withEntry W.cur))
    hsel0 hcellS hknownS hvU tkS (fun _ hu => hu) (fun _ hu => hu) rfl rfl rfl (by simp [preparedCellV, Cell.setSlot, Cell.withEntry]) hskip (fun _ _ hA hW _ hroom _ hrest => L.nativeOff p htr hA hW hroom hrest) hselF hvSen tkC tkP tkM Y.objLocals rfl hfr' hwd'
  rw [plainBareV_eq T.toThrowableT (W.heap.size + 2) u0 sen (.ref (W.heap.size + 1)) W.cur rfl rfl] at st
  obtain ⟨-, -, w3, w4, -, -, -⟩ := withThrown_facts e.platform W Zs text P1.m.cls kX
  have X3 := ((X.pushed (bytesOf Zs.cB (stringToUtf16 text))).pushed (stringAt Zs.cS Zs.kS Zs.fv Zs.fc (stringToUtf16 text) W.heap.size)).pushed (freshCell P1.m.cls kX)
  rw [← withString_eq] at X3
  have X4 := X3.noted hW'
  have ha : (W.heap.size + 2) < ((withThrown W Zs text P1.m.cls kX).setVm vm').heap.size := by show _ < (withThrown W Zs text P1.m.cls kX).heap.size; rw [w3]; omega
  have hcell : ((withThrown W Zs text P1.m.cls kX).setVm vm').heap[(W.heap.size + 2)]? = some (freshCell P1.m.cls kX) := w4
  have X5 := ((((X4.stored hcell T.fCause.slot (.ref (W.heap.size + 2))).storedAgain ha T.fStack.slot u0.v).storedAgain ha T.fSupp.slot sen.v).storedAgain ha T.fStack.slot u0.v).storedAgain ha T.fMsg.slot (.ref (W.heap.size + 1))
  obtain ⟨g₁, hfrM⟩ := X5.frames_eq
  have hU : ((((withThrown W Zs text P1.m.cls kX).setVm vm').setCell (W.heap.size + 2) (plainBareV T.toThrowableT (freshCell P1.m.cls kX) (W.heap.size + 2) u0 sen (.ref (W.heap.size + 1)))).setTop g).pushFrame (.throwing (W.heap.size + 2)) = (((withThrown W Zs text P1.m.cls kX).setVm vm').setCell (W.heap.size + 2) (plainBareV T.toThrowableT (freshCell P1.m.cls kX) (W.heap.size + 2) u0 sen (.ref (W.heap.size + 1)))).setFrames (.throwing (W.heap.size + 2) :: .java g :: below) := by
    rw [State.pushFrame, State.frames_setTop _ hfrM, State.setTop_of_frames _ hfrM, State.setFrames_setFrames]
  have b1 : (bytesOf Zs.cB (stringToUtf16 text)).slots.size = (stringBytes (stringToUtf16 text)).size := by
    rw [(Cell.writeAll_facts _ _).2.2]; simp [bytes0]
  have b2 : (stringAt Zs.cS Zs.kS Zs.fv Zs.fc (stringToUtf16 text) W.heap.size).slots.size = 4 := by simp [string0, Cell.setSlot, hn4]
  have b3 : (freshCell P1.m.cls kX).slots.size = 6 := by simp [hn6]
  rw [b1, b2, b3] at X5
  have e9 : slots + (stringBytes (stringToUtf16 text)).size + 4 + 6 = slots + ((stringBytes (stringToUtf16 text)).size + 4 + 6) := by omega
  rw [e9] at X5
  simp only [List.append_assoc, List.cons_append, List.nil_append] at X5
  refine ⟨((withThrown W Zs text P1.m.cls kX).setVm vm').setCell (W.heap.size + 2) (plainBareV T.toThrowableT (freshCell P1.m.cls kX) (W.heap.size + 2) u0 sen (.ref (W.heap.size + 1))), W.heap.size + 2, _, fun target ht => st _ (by rw [X.tail, ← hU]; exact ht),
    X5.forget (fun y hy => ?_), heapAt_setCell_self _ ha, hfound, rfl⟩
  simp only [List.mem_cons, List.not_mem_nil, or_false] at hy
  have hge : s.heap.size ≤ W.heap.size := X.same.2.1
  rcases hy with rfl | rfl | rfl | rfl | rfl <;> exact Nat.le_trans hge (Nat.le_add_right _ 2)
set_option maxHeartbeats 1000000 in
/-- the machine throws NullPointerException, no traces kept: from its note over the frame g to 'throwing' over the same frame (follows the proof of Stand.vmThrowsNpe, Shelf42/KT2.lean; throwsNpeColdBareVAt, Shelf42/NT91.lean, called) -/
theorem vx_npeAt {p : Program} {l : Launch} {e : Env} {R : Room} {s : State} {m₀ : MethodId} {args : Array Value} {below : List Frame} {meth : Method} {c : Code} {W : State} {locs : List Loc} {cells slots : Nat}
    (X : Stand p l e R s m₀ args below meth c W locs cells slots) (hexec : p.tables.exec = Jvm.exec) (htr : e.platform.stackTraces = false) {n : Nat}
    (h : ∀ a ∈ Bundle.npeArmAtoms n, a.before args s = true)
    (hlocs : ∀ x ∈ locs, ∀ cell, s.heap[x.base]? = some cell → cell.vm.isStatics = false)
    {g : JFrame} (hg : g.method = m₀) (hsize : g.locals.size = c.maxLocals)
    (hRframes : 7 < R.frames) (hRlocals : 2 * g.monitorRoom + (g.stack.map fun v => v.category).sum + 10240 ≤ R.locals)
    (hRcells : cells + 1 ≤ R.cells) (hRslots : slots + n ≤ R.slots) (hlocks : meth.locks = false) :
    ∃ (S : State) (q : Addr) (ce : Cell), (∀ target, Steps p.tables e below ((S.setTop g).pushFrame (.throwing q)) target → Steps p.tables e below ((W.setTop g).pushFrame (.throwNew "java/lang/NullPointerException" none none)) target) ∧
      Stand p l e R s m₀ args below meth c S locs (cells + 1) (slots + n) ∧ S.heap[q]? = some ce ∧ s.vm.findClass "java/lang/NullPointerException" = some ce.cls ∧ ce.vm = .none := by
  have howns : e.platform.frameOwnsMonitors = true := by rw [X.admits.platform]
  have hfin : e.platform.finalization = false := by rw [X.admits.platform]
  have hpl : e.platform.magicAccessors = ({} : Platform).magicAccessors := by rw [X.admits.platform]
  have hpl2 : e.platform.arrayCloneIsPublic = true := by rw [X.admits.platform]
  have a' : ∀ x, x ∈ Bundle.npeArmAtoms n → x.holds args s none s [] = true := fun x hx => h x hx
  obtain ⟨T, Z, L, LZ, Y⟩ := ThrowableC.of_atoms (args := args) howns hfin hpl (fun x hx => h x (by simp [Bundle.npeArmAtoms, hx]))
  obtain ⟨N, LN, hcN, hnNF, hordN, hffS⟩ := NpeC.of_atoms (args := args) hpl hpl2 L Y (fun x hx => h x (by simp [Bundle.npeArmAtoms, hx]))
  obtain ⟨P1, L1, hP1m, hP1s⟩ := PassC.of_atoms (args := args) (s := s) hpl (X := Bundle.nN) (Y := Bundle.rN) (by decide) (by decide) LibCode.NullPointerException.Init0.at_0 LibCode.NullPointerException.Init0.at_1 LibCode.NullPointerException.Init0.at_4 (fun x hx => h x (by simp [Bundle.npeArmAtoms, hx]))
  obtain ⟨PR, LR, hPRm, hPRs⟩ := PassC.of_atoms (args := args) (s := s) hpl (X := Bundle.rN) (Y := Bundle.eN) (by decide) (by decide) LibCode.RuntimeException.Init0.at_0 LibCode.RuntimeException.Init0.at_1 LibCode.RuntimeException.Init0.at_4 (fun x hx => h x (by simp [Bundle.npeArmAtoms, hx]))
  obtain ⟨PE, LEx, hPEm, hPEs⟩ := PassC.of_atoms (args := args) (s := s) hpl (X := Bundle.eN) (Y := Bundle.tN) (by decide) (by decide) LibCode.Exception.Init0.at_0 LibCode.Exception.Init0.at_1 LibCode.Exception.Init0.at_4 (fun x hx => h x (by simp [Bundle.npeArmAtoms, hx]))
  have hfound : s.vm.findClass Bundle.nN = some P1.m.cls := findClass_of_methodNamed hP1m
  have ecls : N.cN = P1.m.cls := Option.some.inj (hcN.symm.trans hfound)
  have hk : s.vm.classes[P1.m.cls]? = some N.kN := by rw [← ecls]; exact LN.cls
  have hinit := Cond.initialized_spec hfound hk (a' (.initialized Bundle.nN) (by simp [Bundle.npeArmAtoms]))
  have hctor : N.kN.findMethod "<init>" "()V" = some P1.m.idx := findMethod_of_methodNamed hP1m hk
  obtain ⟨c1, k1, hc1, hk1, -, -, -, hn⟩ := Cond.instantiable_spec (a' (.instantiable Bundle.nN n) (by simp [Bundle.npeArmAtoms]))
  cases Option.some.inj (hc1.symm.trans hfound)
  cases Option.some.inj (hk1.symm.trans hk)
  have hfsz : (freshCell P1.m.cls N.kN).slots.size = n := by simp [hn]
  have hlink1 : P1.sup = PR.m := Option.some.inj (hP1s.symm.trans hPRm)
  have hlinkR : PR.sup = PE.m := Option.some.inj (hPRs.symm.trans hPEm)
  have hlinkE : PE.sup = Z.m T.toThrowableT := Option.some.inj (hPEs.symm.trans Y.init0)
  have hLs : ∀ P, P ∈ [PR, PE] → P.Links0 e.platform s := fun P hP => by
    simp only [List.mem_cons, List.not_mem_nil, or_false] at hP
    rcases hP with rfl | rfl
    · exact LR
    · exact LEx
  have hsel0 : selectMethod e.platform s.vm P1.m.cls T.fill0 = .method T.fill0 := by
    obtain ⟨c2, r2, m2, q1, q2, q3, q4, -⟩ := Cond.selects_spec (a' (.selects Bundle.nN Bundle.tFill0 Bundle.tFill0) (by simp [Bundle.npeArmAtoms]))
    cases Option.some.inj (q1.symm.trans hfound)
    cases Option.some.inj (q2.symm.trans (State.methodFound?_of_named Y.fill0 (by decide)))
    cases Option.some.inj (q3.symm.trans Y.fill0)
    rw [Launch.admits_selectMethod X.admits]; exact q4
  have hselF : selectMethod e.platform s.vm P1.m.cls T.fill = .method N.fill := by
    obtain ⟨c2, r2, m2, q1, q2, q3, q4, -⟩ := Cond.selects_spec (a' (.selects Bundle.nN Bundle.tFill Bundle.nFill) (by simp [Bundle.npeArmAtoms]))
    cases Option.some.inj (q1.symm.trans hfound)
    cases Option.some.inj (q2.symm.trans (State.methodFound?_of_named Y.fill (by decide)))
    cases Option.some.inj (q3.symm.trans hnNF)
    rw [Launch.admits_selectMethod X.admits]; exact q4
  obtain ⟨cellS0, hcS0, hiss⟩ := Y.statics
  obtain ⟨u0, hu0⟩ := Cond.staticRefV Y.unassigned L.unassignedStatic L.statics hcS0 hiss (a' (.isRef (.static Bundle.tN "UNASSIGNED_STACK" Bundle.steD)) (by simp [Bundle.npeArmAtoms]))
  obtain ⟨sen, hsen⟩ := Cond.staticRefV Y.sentinel L.sentinelStatic L.statics hcS0 hiss (a' (.isRef (.static Bundle.tN "SUPPRESSED_SENTINEL" Bundle.listD)) (by simp [Bundle.npeArmAtoms]))
  obtain ⟨ci198, i198, fB, hk198, hg198, ha198, hsB, -, hnB, htB, hffB⟩ := Cond.ownField (t := .object "java/lang/Object") Y.found L.cls (by decide +kernel) (a' (.fieldLink Bundle.tN 198 Bundle.tN "backtrace" Bundle.objD) (by simp [Bundle.npeArmAtoms])) (a' (.lays Bundle.tN Bundle.tN "backtrace" Bundle.objD) (by simp [Bundle.npeArmAtoms])) e.platform hpl
  obtain ⟨cellS, hcS', heS, -, hkeep⟩ := X.same.2.2.2.2.2 T.aS cellS0 hcS0
  have hcellS : W.heap[T.aS]? = some cellS := hcS'
  have hout' : ∀ i, (⟨T.aS, i⟩ : Loc) ∉ locs := fun i hmem => by
    have := hlocs _ hmem cellS0 hcS0
    rw [hiss] at this; cases this
  have hknownS : cellS.vm ≠ .unknown := by
    rw [heS]; intro hu
    rw [show cellS0.vm = .unknown from hu] at hiss
    cases hiss
  have hvU : cellS.slots[T.fUnassigned.slot]? = some u0.v := by rw [hkeep _ (hout' _)]; exact hu0
  have hvSen : cellS.slots[T.fSentinel.slot]? = some sen.v := by rw [hkeep _ (hout' _)]; exact hsen
  obtain ⟨tyC, dC, hdC, hdnC⟩ := Cond.laysAt hfound hk Y.cause (a' (.lays Bundle.nN Bundle.tN "cause" "Ljava/lang/Throwable;") (by simp [Bundle.npeArmAtoms]))
  obtain ⟨tyS, dS, hdS, hdnS⟩ := Cond.laysAt hfound hk Y.stack (a' (.lays Bundle.nN Bundle.tN "stackTrace" Bundle.steD) (by simp [Bundle.npeArmAtoms]))
  obtain ⟨tyP, dP, hdP, hdnP⟩ := Cond.laysAt hfound hk Y.supp (a' (.lays Bundle.nN Bundle.tN "suppressedExceptions" Bundle.listD) (by simp [Bundle.npeArmAtoms]))
  obtain ⟨tyX, dX, hdX, hdnX⟩ := Cond.laysAt hfound hk hffS (a' (.lays Bundle.nN Bundle.nN "extendedMessageState" "I") (by simp [Bundle.npeArmAtoms, Bundle.npeAtoms]))
  obtain ⟨hnX, htX⟩ := State.fieldFound?_type hffS (t := .int) (by decide +kernel)
  have xC := Cond.laysApart hdC hdX hdnC hdnX (by rw [hnX, Y.causeName]; decide)
  have xS := Cond.laysApart hdS hdX hdnS hdnX (by rw [hnX, Y.stackName]; decide)
  have xP := Cond.laysApart hdP hdX hdnP hdnX (by rw [hnX, Y.suppName]; decide)
  have hv0 : (freshCell P1.m.cls N.kN).slots[N.fState.slot]? = some (.int 0) := by
    have := fresh_default (c := P1.m.cls) tyX
    rw [htX] at this; exact this
  obtain ⟨tyB, dB, hdB, hdnB⟩ := Cond.laysAt hfound hk hffB (a' (.lays Bundle.nN Bundle.tN "backtrace" Bundle.objD) (by simp [Bundle.npeArmAtoms]))
  have bC := Cond.laysApart hdB hdC hdnB hdnC (by rw [hnB, Y.causeName]; decide)
  have bS := Cond.laysApart hdB hdS hdnB hdnS (by rw [hnB, Y.stackName]; decide)
  have bP := Cond.laysApart hdB hdP hdnB hdnP (by rw [hnB, Y.suppName]; decide)
  have bX := Cond.laysApart hdB hdX hdnB hdnX (by rw [hnB, hnX]; decide)
  have hbk : ((npeCell N.toNpeT (preparedCellV T.toThrowableT (freshCell P1.m.cls N.kN) W.heap.size u0 sen) W.cur).withEntry W.cur).slots[fB.slot]? = some .null := by
    have := fresh_default (c := P1.m.cls) tyB
    rw [htB] at this
    simpa [npeCell, preparedCellV, Cell.setSlot, Cell.withEntry, Array.getElem?_setIfInBounds, bC, bS, bP, bX, bC.symm, bS.symm, bP.symm, bX.symm, defaultValue] using this
  have tkC := Takes.of_laid (v := .ref W.heap.size) hk hordN tyC (by rw [Y.causeType]; rfl)
  have tkS := Takes.of_laid (v := u0.v) hk hordN tyS (by rw [Y.stackType]; exact fits_refV_array _ u0)
  have tkP := Takes.of_laid (v := sen.v) hk hordN tyP (by rw [Y.suppType]; exact fits_refV_object _ sen)
  have tkX := Takes.of_laid (v := .int 1) hk hordN tyX (by rw [htX]; rfl)
  have hskip : SkipFacts T e.platform s (fun u => u) u0 ((npeCell N.toNpeT (preparedCellV T.toThrowableT (freshCell P1.m.cls N.kN) W.heap.size u0 sen) W.cur).withEntry W.cur) := ⟨{ ci198 := ci198, i198 := i198, fBack := fB }, ⟨hk198, hg198, ha198, hsB⟩, hbk, fun _ _ => rfl⟩
  obtain ⟨vm', X3, st, -⟩ := X.throwsNpeColdBareVAt hexec hg hsize T L Z LZ N LN P1 L1 [PR, PE] hLs hlink1 ⟨hlinkR, hlinkE, trivial⟩ hfound hk hinit hordN hctor hsel0 hselF hcellS hknownS hvU hvSen
    hv0 xC xS xP tkC tkS tkP tkX Y.objLocals hskip (fun _ _ hA hW _ hroom _ hrest => L.nativeOff p htr hA hW hroom hrest) (by simpa using hRframes) hRlocals (by simp) hRcells (by rw [hn]; exact hRslots)
  have hlt : W.heap.size < ((W.pushCell (freshCell P1.m.cls N.kN)).setVm vm').heap.size := by
    show W.heap.size < (W.pushCell (freshCell P1.m.cls N.kN)).heap.size
    rw [State.heap_size_pushCell]; omega
  rw [hfsz] at X3
  obtain ⟨g₁, hfrM⟩ := X3.frames_eq
  have hU : ((((W.pushCell (freshCell P1.m.cls N.kN)).setVm vm').setCell W.heap.size (npeBareV T.toThrowableT N.toNpeT (freshCell P1.m.cls N.kN) W.heap.size u0 sen)).setTop g).pushFrame (.throwing W.heap.size) = (((W.pushCell (freshCell P1.m.cls N.kN)).setVm vm').setCell W.heap.size (npeBareV T.toThrowableT N.toNpeT (freshCell P1.m.cls N.kN) W.heap.size u0 sen)).setFrames (.throwing W.heap.size :: .java g :: below) := by
    rw [State.pushFrame, State.frames_setTop _ hfrM, State.setTop_of_frames _ hfrM, State.setFrames_setFrames]
  refine ⟨_, W.heap.size, _, fun target ht => st.trans (by rw [← hU]; exact ht), X3.forget (fun y hy => ?_), heapAt_setCell_self _ hlt, hfound, rfl⟩
  simp only [List.mem_cons, List.not_mem_nil, or_false] at hy
  have hge : s.heap.size ≤ W.heap.size := X.same.2.1
  rcases hy with rfl | rfl | rfl | rfl | rfl <;> exact hge
/-- the words of a machine's NullPointerException, but the four that speak of the heap -/
def vx_atN (n : Nat) : List Cond := (Bundle.npeArmAtoms n).filter vx_no
/-- the words of a machine's throw with a message, but the four that speak of the heap -/
def vx_atM (X : String) (names : List String) : List Cond := (Bundle.messageArmAtoms X names).filter vx_no
section
variable {p : Program} {l : Launch} {e : Env} {R : Room} {s : State} {m : MethodId} {args : Array Value} {below : List Frame} {meth : Method} {c : Code} {H : Heap} {locs : List Loc} {cells slots : Nat}
/-- a frame seen from a rebased start, seen from the first start again -/
theorem vx_back9 {T S : State} {R' : Room} {k n : Nat} (X : Stand p l e R s m args below meth c T locs cells slots) (Y : Stand p l e R' ((T.setVm s.vm).setFrames (.invoking m args :: below)) m args below meth c T [] 0 0) (Z : Stand p l e R' ((T.setVm s.vm).setFrames (.invoking m args :: below)) m args below meth c S [] k n) :
    Stand p l e R s m args below meth c S locs (cells + k) (slots + n) := by
  have hW0 : s.WarmedH ((T.setVm s.vm).setFrames (.invoking m args :: below)).vm := State.WarmedH.refl s
  refine { admits := X.admits, cas := X.cas, clock := X.clock, frames := X.frames, room := X.room, hears := X.hears, method := X.method, code := X.code, here := Z.here, tail := Z.tail, warmed := State.WarmedH.trans hW0 Z.warmed, limits := Z.limits.trans (Y.limits.symm.trans X.limits), bytes := Z.bytes.trans (Y.bytes.symm.trans X.bytes), same := ?_ }
  obtain ⟨e1, e2⟩ := Z.same
  rw [State.setFrames_setFrames] at e1
  have h2 : (T.setVm s.vm).sameButNew (S.setVm s.vm) [] k n := ⟨e1, e2⟩
  have h3 := X.same.trans h2
  rw [List.append_nil] at h3
  exact h3
/-- from the machine's note that E is thrown here with this text -/
def vx_Note (p : Program) (l : Launch) (e : Env) (R : Room) (s : State) (m : MethodId) (args : Array Value) (below : List Frame) (meth : Method) (c : Code) (H : Heap) (locs : List Loc) (cells slots : Nat) (Q : State → Prop) (g : JFrame) (E text : String) : Prop :=
  ∀ T : State, T.heap = H → Stand p l e R s m args below meth c T locs cells slots → ∃ t, Steps p.tables e below ((T.setTop g).pushFrame (.throwNew E (some text) none)) t ∧ Q t
theorem vx_vm {pc : Nat} {ls : Array Slot} {rest : List Value} {Q : State → Prop} (hexec : p.tables.exec = Jvm.exec) (hl : l.stackTraces = false) {cls text : String} {names : List String} {nb : Nat} {A : Nat → Prop}
    (hcls : Bundle.fit cls = true) (hnames : ∀ n ∈ names, Bundle.fit n = true) (hsoe : (cls == "java/lang/StackOverflowError") = false) (hoom : (cls == "java/lang/OutOfMemoryError") = false)
    (hat : ∀ w ∈ vx_atM cls names, w.before args s = true) (hgood : ∀ w ∈ vx_atM cls names, vx_ot w = true)
    (hU : vx_Zq Bundle.tN "UNASSIGNED_STACK" Bundle.steD A s s.heap) (hN : vx_Zq Bundle.tN "SUPPRESSED_SENTINEL" Bundle.listD A s s.heap) (hS : va_S A s.heap H locs) (hsize : ls.size = c.maxLocals)
    (htext : (text == notModelled) = false) (hnb : (stringBytes (stringToUtf16 text)).size ≤ nb) (hnb1 : nb ≤ 1000)
    (hRframes : names.length + 4 < R.frames) (hRlocals : (rest.map fun v => v.category).sum + 10240 ≤ R.locals) (hshort : 13 * names.length + 55 ≤ 10240) (hRcells : cells + 3 ≤ R.cells) (hRslots : slots + (nb + 10) ≤ R.slots) (hlocks : meth.locks = false)
    (k : ∀ (H1 : Heap) (q9 : Addr) (ce : Cell), H.size ≤ H1.size → (∀ q : Nat, q < H.size → H1[q]? = H[q]?) → va_S A s.heap H1 locs → H1[q9]? = some ce → ce.vm = .none → s.vm.findClass cls = some ce.cls → vx_W p l e R s m args below meth c H1 locs (cells + 3) (slots + (nb + 10)) Q (F0 m pc ls rest) q9) :
    vx_Note p l e R s m args below meth c H locs cells slots Q (F0 m pc ls rest) cls text := by
  intro T hT X
  have htr : e.platform.stackTraces = false := (show e.platform.stackTraces = l.stackTraces by rw [X.admits.platform]).trans hl
  have Y := vx_rebase X (R' := { frames := R.frames, locals := R.locals, cells := 3, slots := nb + 10 }) (Nat.le_refl _) (Nat.le_refl _) hRcells hRslots
  have hhp : ((T.setVm s.vm).setFrames (.invoking m args :: below)).heap = H := hT
  have hW0 : s.WarmedH ((T.setVm s.vm).setFrames (.invoking m args :: below)).vm := State.WarmedH.refl s
  have hat' : ∀ w ∈ vx_atM cls names, w.before args ((T.setVm s.vm).setFrames (.invoking m args :: below)) = true := fun w hw => vx_ot_at hW0 rfl (hgood w hw) (hat w hw)
  have hU' : vx_Zq Bundle.tN "UNASSIGNED_STACK" Bundle.steD A ((T.setVm s.vm).setFrames (.invoking m args :: below)) ((T.setVm s.vm).setFrames (.invoking m args :: below)).heap := by rw [hhp]; exact vx_Zq.moved hW0.alike (hU.kept hS.2.1)
  have hN' : vx_Zq Bundle.tN "SUPPRESSED_SENTINEL" Bundle.listD A ((T.setVm s.vm).setFrames (.invoking m args :: below)) ((T.setVm s.vm).setFrames (.invoking m args :: below)).heap := by rw [hhp]; exact vx_Zq.moved hW0.alike (hN.kept hS.2.1)
  obtain ⟨S, q, ce, st, Z, hce, hcl', hv⟩ := vx_vmAt Y hexec htr (cls := cls) (names := names) (text := text) hcls hnames hsoe hoom (vx_own hat' (vx_isRefq hU'.1) (vx_isRefq hN'.1) hU'.2.word hN'.2.word) (fun x hx => nomatch hx) htext
    (by rw [Launch.admits_arrayLengthLimit X.admits]; omega) (by rw [Launch.admits_maxHeapBytes X.admits]; simp only [componentBytes]; omega)
    (g := F0 m pc ls rest) rfl hsize hRframes (by show 2 * 0 + (rest.map fun v => v.category).sum + 10240 ≤ R.locals; omega) hshort (by show 0 + 3 ≤ 3; omega) (by show 0 + (_ + 4 + 6) ≤ nb + 10; omega) hlocks
  obtain ⟨f1, f2⟩ := vx_frame Z.same
  have f1' : H.size ≤ S.heap.size := by rw [← hT]; exact f1
  have f2' : ∀ q : Nat, q < H.size → S.heap[q]? = H[q]? := fun q hq => by
    rw [← hT]
    exact f2 q (by rw [← hT] at hq; exact hq) (fun z hz => nomatch hz)
  have X5 := vx_back9 X Y Z
  have X6 : Stand p l e R s m args below meth c S locs (cells + 3) (slots + (nb + 10)) := { X5 with same := X5.same.mono (by omega) (by omega) }
  obtain ⟨t, a1, b1⟩ := k S.heap q ce f1' f2' ⟨Nat.le_trans hS.1 f1', fun q h1 h2 => (f2' q (Nat.lt_of_lt_of_le h1 hS.1)).trans (hS.2.1 q h1 h2), hS.2.2⟩ hce hv hcl' S rfl X6
  exact ⟨t, st t a1, b1⟩
/-- from the machine's note that NullPointerException is thrown here -/
def vx_NoteN (p : Program) (l : Launch) (e : Env) (R : Room) (s : State) (m : MethodId) (args : Array Value) (below : List Frame) (meth : Method) (c : Code) (H : Heap) (locs : List Loc) (cells slots : Nat) (Q : State → Prop) (g : JFrame) : Prop :=
  ∀ T : State, T.heap = H → Stand p l e R s m args below meth c T locs cells slots → ∃ t, Steps p.tables e below ((T.setTop g).pushFrame (.throwNew "java/lang/NullPointerException" none none)) t ∧ Q t
theorem vx_npe {pc : Nat} {ls : Array Slot} {rest : List Value} {Q : State → Prop} (hexec : p.tables.exec = Jvm.exec) (hl : l.stackTraces = false) {nb : Nat} {A : Nat → Prop}
    (hat : ∀ w ∈ vx_atN nb, w.before args s = true) (hgood : ∀ w ∈ vx_atN nb, vx_ot w = true)
    (hU : vx_Zq Bundle.tN "UNASSIGNED_STACK" Bundle.steD A s s.heap) (hN : vx_Zq Bundle.tN "SUPPRESSED_SENTINEL" Bundle.listD A s s.heap) (hS : va_S A s.heap H locs) (hsize : ls.size = c.maxLocals)
    (hRframes : 7 < R.frames) (hRlocals : (rest.map fun v => v.category).sum + 10240 ≤ R.locals) (hRcells : cells + 1 ≤ R.cells) (hRslots : slots + nb ≤ R.slots) (hlocks : meth.locks = false)
    (k : ∀ (H1 : Heap) (q9 : Addr) (ce : Cell), H.size ≤ H1.size → (∀ q : Nat, q < H.size → H1[q]? = H[q]?) → va_S A s.heap H1 locs → H1[q9]? = some ce → ce.vm = .none → s.vm.findClass "java/lang/NullPointerException" = some ce.cls → vx_W p l e R s m args below meth c H1 locs (cells + 1) (slots + nb) Q (F0 m pc ls rest) q9) :
    vx_NoteN p l e R s m args below meth c H locs cells slots Q (F0 m pc ls rest) := by
  intro T hT X
  have htr : e.platform.stackTraces = false := (show e.platform.stackTraces = l.stackTraces by rw [X.admits.platform]).trans hl
  have Y := vx_rebase X (R' := { frames := R.frames, locals := R.locals, cells := 1, slots := nb }) (Nat.le_refl _) (Nat.le_refl _) hRcells hRslots
  have hhp : ((T.setVm s.vm).setFrames (.invoking m args :: below)).heap = H := hT
  have hW0 : s.WarmedH ((T.setVm s.vm).setFrames (.invoking m args :: below)).vm := State.WarmedH.refl s
  have hat' : ∀ w ∈ vx_atN nb, w.before args ((T.setVm s.vm).setFrames (.invoking m args :: below)) = true := fun w hw => vx_ot_at hW0 rfl (hgood w hw) (hat w hw)
  have hU' : vx_Zq Bundle.tN "UNASSIGNED_STACK" Bundle.steD A ((T.setVm s.vm).setFrames (.invoking m args :: below)) ((T.setVm s.vm).setFrames (.invoking m args :: below)).heap := by rw [hhp]; exact vx_Zq.moved hW0.alike (hU.kept hS.2.1)
  have hN' : vx_Zq Bundle.tN "SUPPRESSED_SENTINEL" Bundle.listD A ((T.setVm s.vm).setFrames (.invoking m args :: below)) ((T.setVm s.vm).setFrames (.invoking m args :: below)).heap := by rw [hhp]; exact vx_Zq.moved hW0.alike (hN.kept hS.2.1)
  obtain ⟨S, q, ce, st, Z, hce, hcl', hv⟩ := vx_npeAt Y hexec htr (n := nb) (vx_own hat' (vx_isRefq hU'.1) (vx_isRefq hN'.1) hU'.2.word hN'.2.word) (fun x hx => nomatch hx)
    (g := F0 m pc ls rest) rfl hsize hRframes (by show 2 * 0 + (rest.map fun v => v.category).sum + 10240 ≤ R.locals; omega) (by show 0 + 1 ≤ 1; omega) (by show 0 + nb ≤ nb; omega) hlocks
  obtain ⟨f1, f2⟩ := vx_frame Z.same
  have f1' : H.size ≤ S.heap.size := by rw [← hT]; exact f1
  have f2' : ∀ q : Nat, q < H.size → S.heap[q]? = H[q]? := fun q hq => by
    rw [← hT]
    exact f2 q (by rw [← hT] at hq; exact hq) (fun z hz => nomatch hz)
  have X5 := vx_back9 X Y Z
  have X6 : Stand p l e R s m args below meth c S locs (cells + 1) (slots + nb) := { X5 with same := X5.same.mono (by omega) (by omega) }
  obtain ⟨t, a1, b1⟩ := k S.heap q ce f1' f2' ⟨Nat.le_trans hS.1 f1', fun q h1 h2 => (f2' q (Nat.lt_of_lt_of_le h1 hS.1)).trans (hS.2.1 q h1 h2), hS.2.2⟩ hce hv hcl' S rfl X6
  exact ⟨t, st t a1, b1⟩
variable {Q : State → Prop} {cc : ByteArray} {pc : Nat} {ls : Array Slot} {rest : List Value}
theorem vx_idivZ (hexec : p.tables.exec = Jvm.exec) (hb : c.code = cc) {a b : Int32} (h0 : b = 0) (d : decode cc pc = .ok (.idiv, 1)) (k : vx_Note p l e R s m args below meth c H locs cells slots Q (F0 m pc ls rest) "java/lang/ArithmeticException" "/ by zero") :
    W p l e R s m args below meth c H locs cells slots Q (F0 m pc ls (.int b :: .int a :: rest)) := by
  intro T hT X
  obtain ⟨t, st, q⟩ := k T hT X
  exact ⟨t, X.idivZero hexec (g := F0 m pc ls (.int b :: .int a :: rest)) rfl (a := a) (rest := rest) (by rw [h0]) (by rw [hb]; exact d) t st, q⟩
theorem vx_iremZ (hexec : p.tables.exec = Jvm.exec) (hb : c.code = cc) {a b : Int32} (h0 : b = 0) (d : decode cc pc = .ok (.irem, 1)) (k : vx_Note p l e R s m args below meth c H locs cells slots Q (F0 m pc ls rest) "java/lang/ArithmeticException" "/ by zero") :
    W p l e R s m args below meth c H locs cells slots Q (F0 m pc ls (.int b :: .int a :: rest)) := by
  intro T hT X
  obtain ⟨t, st, q⟩ := k T hT X
  exact ⟨t, X.iremZero hexec (g := F0 m pc ls (.int b :: .int a :: rest)) rfl (a := a) (rest := rest) (by rw [h0]) (by rw [hb]; exact d) t st, q⟩
theorem vx_ldivZ (hexec : p.tables.exec = Jvm.exec) (hb : c.code = cc) {a b : Int64} (h0 : b = 0) (d : decode cc pc = .ok (.ldiv, 1)) (k : vx_Note p l e R s m args below meth c H locs cells slots Q (F0 m pc ls rest) "java/lang/ArithmeticException" "/ by zero") :
    W p l e R s m args below meth c H locs cells slots Q (F0 m pc ls (.long b :: .long a :: rest)) := by
  intro T hT X
  obtain ⟨t, st, q⟩ := k T hT X
  exact ⟨t, X.ldivZero hexec (g := F0 m pc ls (.long b :: .long a :: rest)) rfl (a := a) (rest := rest) (by rw [h0]) (by rw [hb]; exact d) t st, q⟩
theorem vx_lremZ (hexec : p.tables.exec = Jvm.exec) (hb : c.code = cc) {a b : Int64} (h0 : b = 0) (d : decode cc pc = .ok (.lrem, 1)) (k : vx_Note p l e R s m args below meth c H locs cells slots Q (F0 m pc ls rest) "java/lang/ArithmeticException" "/ by zero") :
    W p l e R s m args below meth c H locs cells slots Q (F0 m pc ls (.long b :: .long a :: rest)) := by
  intro T hT X
  obtain ⟨t, st, q⟩ := k T hT X
  exact ⟨t, X.lremZero hexec (g := F0 m pc ls (.long b :: .long a :: rest)) rfl (a := a) (rest := rest) (by rw [h0]) (by rw [hb]; exact d) t st, q⟩
theorem vx_ialdZ {D : va_G} {cl : List vw_C} {ws : va_W} {tys : List (ClassId × FieldType)} {a : Nat} (hexec : p.tables.exec = Jvm.exec) (hb : c.code = cc) (hK : va_K D cl tys s) (hP : va_P D cl ws H) (q0 t0 : Nat) {cA : ClassId} {n : Nat} {f : Nat → Int32} (ha : ws[q0]? = some (a, .inl (cA, n, .inl f))) (ht : tys[t0]? = some (cA, .int)) {i : Int32} (hout : ¬ vp_in i n) (hdg : decode cc pc = .ok (.iaload, 1))
    (k : ∀ tx : String, tx = (toString "Index " ++ toString i ++ toString " out of bounds for length " ++ toString n : String) → vx_Note p l e R s m args below meth c H locs cells slots Q (F0 m pc ls rest) "java/lang/ArrayIndexOutOfBoundsException" tx) : W p l e R s m args below meth c H locs cells slots Q (F0 m pc ls (.int i :: .ref a :: rest)) := by
  intro T hT X
  obtain ⟨t, st, q⟩ := k _ rfl T hT X
  refine ⟨t, ?_, q⟩
  have h1 := X.ialoadOut hexec (by rw [hT]; exact hP q0 _ ha) ((hK.2 t0 _ ht).1 n (fun j => .int (f j))) (j := i) (by show (i < 0 ∨ (arrV _ _ _).slots.size ≤ _); rw [arrV_size]; exact Classical.byContradiction hout) (g := F0 m pc ls (.int i :: .ref a :: rest)) rfl (rest := rest) rfl (by rw [hb]; exact hdg) t
  simp only [arrV_size] at h1
  exact h1 st
theorem vx_iastZ {D : va_G} {cl : List vw_C} {ws : va_W} {tys : List (ClassId × FieldType)} {a : Nat} (hexec : p.tables.exec = Jvm.exec) (hb : c.code = cc) (hK : va_K D cl tys s) (hP : va_P D cl ws H) (q0 t0 : Nat) {cA : ClassId} {n : Nat} {f : Nat → Int32} (ha : ws[q0]? = some (a, .inl (cA, n, .inl f))) (ht : tys[t0]? = some (cA, .int)) {i : Int32} {x : Int32} (hout : ¬ vp_in i n) (hdg : decode cc pc = .ok (.iastore, 1))
    (k : ∀ tx : String, tx = (toString "Index " ++ toString i ++ toString " out of bounds for length " ++ toString n : String) → vx_Note p l e R s m args below meth c H locs cells slots Q (F0 m pc ls rest) "java/lang/ArrayIndexOutOfBoundsException" tx) : W p l e R s m args below meth c H locs cells slots Q (F0 m pc ls (.int x :: .int i :: .ref a :: rest)) := by
  intro T hT X
  obtain ⟨t, st, q⟩ := k _ rfl T hT X
  refine ⟨t, ?_, q⟩
  have h1 := X.iastoreOut hexec (by rw [hT]; exact hP q0 _ ha) ((hK.2 t0 _ ht).1 n (fun j => .int (f j))) (j := i) (by show (i < 0 ∨ (arrV _ _ _).slots.size ≤ _); rw [arrV_size]; exact Classical.byContradiction hout) (g := F0 m pc ls (.int x :: .int i :: .ref a :: rest)) rfl (rest := rest) rfl (by rw [hb]; exact hdg) t
  simp only [arrV_size] at h1
  exact h1 st
theorem vx_baldZ {D : va_G} {cl : List vw_C} {ws : va_W} {tys : List (ClassId × FieldType)} {a : Nat} (hexec : p.tables.exec = Jvm.exec) (hb : c.code = cc) (hK : va_K D cl tys s) (hP : va_P D cl ws H) (q0 t0 : Nat) {cA : ClassId} {n : Nat} {f : Nat → Int32} (ha : ws[q0]? = some (a, .inl (cA, n, .inl f))) (ht : tys[t0]? = some (cA, .byte)) {i : Int32} (hout : ¬ vp_in i n) (hdg : decode cc pc = .ok (.baload, 1))
    (k : ∀ tx : String, tx = (toString "Index " ++ toString i ++ toString " out of bounds for length " ++ toString n : String) → vx_Note p l e R s m args below meth c H locs cells slots Q (F0 m pc ls rest) "java/lang/ArrayIndexOutOfBoundsException" tx) : W p l e R s m args below meth c H locs cells slots Q (F0 m pc ls (.int i :: .ref a :: rest)) := by
  intro T hT X
  obtain ⟨t, st, q⟩ := k _ rfl T hT X
  refine ⟨t, ?_, q⟩
  have h1 := X.baloadOut hexec (by rw [hT]; exact hP q0 _ ha) ((hK.2 t0 _ ht).1 n (fun j => .int (f j))) (j := i) (by show (i < 0 ∨ (arrV _ _ _).slots.size ≤ _); rw [arrV_size]; exact Classical.byContradiction hout) (g := F0 m pc ls (.int i :: .ref a :: rest)) rfl (rest := rest) rfl (by rw [hb]; exact hdg) t
  simp only [arrV_size] at h1
  exact h1 st
theorem vx_bastZ {D : va_G} {cl : List vw_C} {ws : va_W} {tys : List (ClassId × FieldType)} {a : Nat} (hexec : p.tables.exec = Jvm.exec) (hb : c.code = cc) (hK : va_K D cl tys s) (hP : va_P D cl ws H) (q0 t0 : Nat) {cA : ClassId} {n : Nat} {f : Nat → Int32} (ha : ws[q0]? = some (a, .inl (cA, n, .inl f))) (ht : tys[t0]? = some (cA, .byte)) {i : Int32} {x : Int32} (hout : ¬ vp_in i n) (hdg : decode cc pc = .ok (.bastore, 1))
    (k : ∀ tx : String, tx = (toString "Index " ++ toString i ++ toString " out of bounds for length " ++ toString n : String) → vx_Note p l e R s m args below meth c H locs cells slots Q (F0 m pc ls rest) "java/lang/ArrayIndexOutOfBoundsException" tx) : W p l e R s m args below meth c H locs cells slots Q (F0 m pc ls (.int x :: .int i :: .ref a :: rest)) := by
  intro T hT X
  obtain ⟨t, st, q⟩ := k _ rfl T hT X
  refine ⟨t, ?_, q⟩
  have h1 := X.bastoreOut hexec (by rw [hT]; exact hP q0 _ ha) ((hK.2 t0 _ ht).1 n (fun j => .int (f j))) (j := i) (by show (i < 0 ∨ (arrV _ _ _).slots.size ≤ _); rw [arrV_size]; exact Classical.byContradiction hout) (g := F0 m pc ls (.int x :: .int i :: .ref a :: rest)) rfl (rest := rest) rfl (by rw [hb]; exact hdg) t
  simp only [arrV_size] at h1
  exact h1 st
theorem vx_zaldZ {D : va_G} {cl : List vw_C} {ws : va_W} {tys : List (ClassId × FieldType)} {a : Nat} (hexec : p.tables.exec = Jvm.exec) (hb : c.code = cc) (hK : va_K D cl tys s) (hP : va_P D cl ws H) (q0 t0 : Nat) {cA : ClassId} {n : Nat} {f : Nat → Int32} (ha : ws[q0]? = some (a, .inl (cA, n, .inl f))) (ht : tys[t0]? = some (cA, .boolean)) {i : Int32} (hout : ¬ vp_in i n) (hdg : decode cc pc = .ok (.baload, 1))
    (k : ∀ tx : String, tx = (toString "Index " ++ toString i ++ toString " out of bounds for length " ++ toString n : String) → vx_Note p l e R s m args below meth c H locs cells slots Q (F0 m pc ls rest) "java/lang/ArrayIndexOutOfBoundsException" tx) : W p l e R s m args below meth c H locs cells slots Q (F0 m pc ls (.int i :: .ref a :: rest)) := by
  intro T hT X
  obtain ⟨t, st, q⟩ := k _ rfl T hT X
  refine ⟨t, ?_, q⟩
  have h1 := X.baloadOut hexec (by rw [hT]; exact hP q0 _ ha) ((hK.2 t0 _ ht).1 n (fun j => .int (f j))) (j := i) (by show (i < 0 ∨ (arrV _ _ _).slots.size ≤ _); rw [arrV_size]; exact Classical.byContradiction hout) (g := F0 m pc ls (.int i :: .ref a :: rest)) rfl (rest := rest) rfl (by rw [hb]; exact hdg) t
  simp only [arrV_size] at h1
  exact h1 st
theorem vx_zastZ {D : va_G} {cl : List vw_C} {ws : va_W} {tys : List (ClassId × FieldType)} {a : Nat} (hexec : p.tables.exec = Jvm.exec) (hb : c.code = cc) (hK : va_K D cl tys s) (hP : va_P D cl ws H) (q0 t0 : Nat) {cA : ClassId} {n : Nat} {f : Nat → Int32} (ha : ws[q0]? = some (a, .inl (cA, n, .inl f))) (ht : tys[t0]? = some (cA, .boolean)) {i : Int32} {x : Int32} (hout : ¬ vp_in i n) (hdg : decode cc pc = .ok (.bastore, 1))
    (k : ∀ tx : String, tx = (toString "Index " ++ toString i ++ toString " out of bounds for length " ++ toString n : String) → vx_Note p l e R s m args below meth c H locs cells slots Q (F0 m pc ls rest) "java/lang/ArrayIndexOutOfBoundsException" tx) : W p l e R s m args below meth c H locs cells slots Q (F0 m pc ls (.int x :: .int i :: .ref a :: rest)) := by
  intro T hT X
  obtain ⟨t, st, q⟩ := k _ rfl T hT X
  refine ⟨t, ?_, q⟩
  have h1 := X.bastoreOut hexec (by rw [hT]; exact hP q0 _ ha) ((hK.2 t0 _ ht).1 n (fun j => .int (f j))) (j := i) (by show (i < 0 ∨ (arrV _ _ _).slots.size ≤ _); rw [arrV_size]; exact Classical.byContradiction hout) (g := F0 m pc ls (.int x :: .int i :: .ref a :: rest)) rfl (rest := rest) rfl (by rw [hb]; exact hdg) t
  simp only [arrV_size] at h1
  exact h1 st
theorem vx_caldZ {D : va_G} {cl : List vw_C} {ws : va_W} {tys : List (ClassId × FieldType)} {a : Nat} (hexec : p.tables.exec = Jvm.exec) (hb : c.code = cc) (hK : va_K D cl tys s) (hP : va_P D cl ws H) (q0 t0 : Nat) {cA : ClassId} {n : Nat} {f : Nat → Int32} (ha : ws[q0]? = some (a, .inl (cA, n, .inl f))) (ht : tys[t0]? = some (cA, .char)) {i : Int32} (hout : ¬ vp_in i n) (hdg : decode cc pc = .ok (.caload, 1))
    (k : ∀ tx : String, tx = (toString "Index " ++ toString i ++ toString " out of bounds for length " ++ toString n : String) → vx_Note p l e R s m args below meth c H locs cells slots Q (F0 m pc ls rest) "java/lang/ArrayIndexOutOfBoundsException" tx) : W p l e R s m args below meth c H locs cells slots Q (F0 m pc ls (.int i :: .ref a :: rest)) := by
  intro T hT X
  obtain ⟨t, st, q⟩ := k _ rfl T hT X
  refine ⟨t, ?_, q⟩
  have h1 := X.caloadOut hexec (by rw [hT]; exact hP q0 _ ha) ((hK.2 t0 _ ht).1 n (fun j => .int (f j))) (j := i) (by show (i < 0 ∨ (arrV _ _ _).slots.size ≤ _); rw [arrV_size]; exact Classical.byContradiction hout) (g := F0 m pc ls (.int i :: .ref a :: rest)) rfl (rest := rest) rfl (by rw [hb]; exact hdg) t
  simp only [arrV_size] at h1
  exact h1 st
theorem vx_castZ {D : va_G} {cl : List vw_C} {ws : va_W} {tys : List (ClassId × FieldType)} {a : Nat} (hexec : p.tables.exec = Jvm.exec) (hb : c.code = cc) (hK : va_K D cl tys s) (hP : va_P D cl ws H) (q0 t0 : Nat) {cA : ClassId} {n : Nat} {f : Nat → Int32} (ha : ws[q0]? = some (a, .inl (cA, n, .inl f))) (ht : tys[t0]? = some (cA, .char)) {i : Int32} {x : Int32} (hout : ¬ vp_in i n) (hdg : decode cc pc = .ok (.castore, 1))
    (k : ∀ tx : String, tx = (toString "Index " ++ toString i ++ toString " out of bounds for length " ++ toString n : String) → vx_Note p l e R s m args below meth c H locs cells slots Q (F0 m pc ls rest) "java/lang/ArrayIndexOutOfBoundsException" tx) : W p l e R s m args below meth c H locs cells slots Q (F0 m pc ls (.int x :: .int i :: .ref a :: rest)) := by
  intro T hT X
  obtain ⟨t, st, q⟩ := k _ rfl T hT X
  refine ⟨t, ?_, q⟩
  have h1 := X.castoreOut hexec (by rw [hT]; exact hP q0 _ ha) ((hK.2 t0 _ ht).1 n (fun j => .int (f j))) (j := i) (by show (i < 0 ∨ (arrV _ _ _).slots.size ≤ _); rw [arrV_size]; exact Classical.byContradiction hout) (g := F0 m pc ls (.int x :: .int i :: .ref a :: rest)) rfl (rest := rest) rfl (by rw [hb]; exact hdg) t
  simp only [arrV_size] at h1
  exact h1 st
theorem vx_saldZ {D : va_G} {cl : List vw_C} {ws : va_W} {tys : List (ClassId × FieldType)} {a : Nat} (hexec : p.tables.exec = Jvm.exec) (hb : c.code = cc) (hK : va_K D cl tys s) (hP : va_P D cl ws H) (q0 t0 : Nat) {cA : ClassId} {n : Nat} {f : Nat → Int32} (ha : ws[q0]? = some (a, .inl (cA, n, .inl f))) (ht : tys[t0]? = some (cA, .short)) {i : Int32} (hout : ¬ vp_in i n) (hdg : decode cc pc = .ok (.saload, 1))
    (k : ∀ tx : String, tx = (toString "Index " ++ toString i ++ toString " out of bounds for length " ++ toString n : String) → vx_Note p l e R s m args below meth c H locs cells slots Q (F0 m pc ls rest) "java/lang/ArrayIndexOutOfBoundsException" tx) : W p l e R s m args below meth c H locs cells slots Q (F0 m pc ls (.int i :: .ref a :: rest)) := by
  intro T hT X
  obtain ⟨t, st, q⟩ := k _ rfl T hT X
  refine ⟨t, ?_, q⟩
  have h1 := X.saloadOut hexec (by rw [hT]; exact hP q0 _ ha) ((hK.2 t0 _ ht).1 n (fun j => .int (f j))) (j := i) (by show (i < 0 ∨ (arrV _ _ _).slots.size ≤ _); rw [arrV_size]; exact Classical.byContradiction hout) (g := F0 m pc ls (.int i :: .ref a :: rest)) rfl (rest := rest) rfl (by rw [hb]; exact hdg) t
  simp only [arrV_size] at h1
  exact h1 st
theorem vx_sastZ {D : va_G} {cl : List vw_C} {ws : va_W} {tys : List (ClassId × FieldType)} {a : Nat} (hexec : p.tables.exec = Jvm.exec) (hb : c.code = cc) (hK : va_K D cl tys s) (hP : va_P D cl ws H) (q0 t0 : Nat) {cA : ClassId} {n : Nat} {f : Nat → Int32} (ha : ws[q0]? = some (a, .inl (cA, n, .inl f))) (ht : tys[t0]? = some (cA, .short)) {i : Int32} {x : Int32} (hout : ¬ vp_in i n) (hdg : decode cc pc = .ok (.sastore, 1))
    (k : ∀ tx : String, tx = (toString "Index " ++ toString i ++ toString " out of bounds for length " ++ toString n : String) → vx_Note p l e R s m args below meth c H locs cells slots Q (F0 m pc ls rest) "java/lang/ArrayIndexOutOfBoundsException" tx) : W p l e R s m args below meth c H locs cells slots Q (F0 m pc ls (.int x :: .int i :: .ref a :: rest)) := by
  intro T hT X
  obtain ⟨t, st, q⟩ := k _ rfl T hT X
  refine ⟨t, ?_, q⟩
  have h1 := X.sastoreOut hexec (by rw [hT]; exact hP q0 _ ha) ((hK.2 t0 _ ht).1 n (fun j => .int (f j))) (j := i) (by show (i < 0 ∨ (arrV _ _ _).slots.size ≤ _); rw [arrV_size]; exact Classical.byContradiction hout) (g := F0 m pc ls (.int x :: .int i :: .ref a :: rest)) rfl (rest := rest) rfl (by rw [hb]; exact hdg) t
  simp only [arrV_size] at h1
  exact h1 st
theorem vx_laldZ {D : va_G} {cl : List vw_C} {ws : va_W} {tys : List (ClassId × FieldType)} {a : Nat} (hexec : p.tables.exec = Jvm.exec) (hb : c.code = cc) (hK : va_K D cl tys s) (hP : va_P D cl ws H) (q0 t0 : Nat) {cA : ClassId} {n : Nat} {f : Nat → Int64} (ha : ws[q0]? = some (a, .inl (cA, n, .inr (.inl f)))) (ht : tys[t0]? = some (cA, .long)) {i : Int32} (hout : ¬ vp_in i n) (hdg : decode cc pc = .ok (.laload, 1))
    (k : ∀ tx : String, tx = (toString "Index " ++ toString i ++ toString " out of bounds for length " ++ toString n : String) → vx_Note p l e R s m args below meth c H locs cells slots Q (F0 m pc ls rest) "java/lang/ArrayIndexOutOfBoundsException" tx) : W p l e R s m args below meth c H locs cells slots Q (F0 m pc ls (.int i :: .ref a :: rest)) := by
  intro T hT X
  obtain ⟨t, st, q⟩ := k _ rfl T hT X
  refine ⟨t, ?_, q⟩
  have h1 := X.laloadOut hexec (by rw [hT]; exact hP q0 _ ha) ((hK.2 t0 _ ht).1 n (fun j => .long (f j))) (j := i) (by show (i < 0 ∨ (arrV _ _ _).slots.size ≤ _); rw [arrV_size]; exact Classical.byContradiction hout) (g := F0 m pc ls (.int i :: .ref a :: rest)) rfl (rest := rest) rfl (by rw [hb]; exact hdg) t
  simp only [arrV_size] at h1
  exact h1 st
theorem vx_lastZ {D : va_G} {cl : List vw_C} {ws : va_W} {tys : List (ClassId × FieldType)} {a : Nat} (hexec : p.tables.exec = Jvm.exec) (hb : c.code = cc) (hK : va_K D cl tys s) (hP : va_P D cl ws H) (q0 t0 : Nat) {cA : ClassId} {n : Nat} {f : Nat → Int64} (ha : ws[q0]? = some (a, .inl (cA, n, .inr (.inl f)))) (ht : tys[t0]? = some (cA, .long)) {i : Int32} {x : Int64} (hout : ¬ vp_in i n) (hdg : decode cc pc = .ok (.lastore, 1))
    (k : ∀ tx : String, tx = (toString "Index " ++ toString i ++ toString " out of bounds for length " ++ toString n : String) → vx_Note p l e R s m args below meth c H locs cells slots Q (F0 m pc ls rest) "java/lang/ArrayIndexOutOfBoundsException" tx) : W p l e R s m args below meth c H locs cells slots Q (F0 m pc ls (.long x :: .int i :: .ref a :: rest)) := by
  intro T hT X
  obtain ⟨t, st, q⟩ := k _ rfl T hT X
  refine ⟨t, ?_, q⟩
  have h1 := X.lastoreOut hexec (by rw [hT]; exact hP q0 _ ha) ((hK.2 t0 _ ht).1 n (fun j => .long (f j))) (j := i) (by show (i < 0 ∨ (arrV _ _ _).slots.size ≤ _); rw [arrV_size]; exact Classical.byContradiction hout) (g := F0 m pc ls (.long x :: .int i :: .ref a :: rest)) rfl (rest := rest) rfl (by rw [hb]; exact hdg) t
  simp only [arrV_size] at h1
  exact h1 st
theorem vx_faldZ {D : va_G} {cl : List vw_C} {ws : va_W} {tys : List (ClassId × FieldType)} {a : Nat} (hexec : p.tables.exec = Jvm.exec) (hb : c.code = cc) (hK : va_K D cl tys s) (hP : va_P D cl ws H) (q0 t0 : Nat) {cA : ClassId} {n : Nat} {f : Nat → UInt32} (ha : ws[q0]? = some (a, .inl (cA, n, .inr (.inr (.inl f))))) (ht : tys[t0]? = some (cA, .float)) {i : Int32} (hout : ¬ vp_in i n) (hdg : decode cc pc = .ok (.faload, 1))
    (k : ∀ tx : String, tx = (toString "Index " ++ toString i ++ toString " out of bounds for length " ++ toString n : String) → vx_Note p l e R s m args below meth c H locs cells slots Q (F0 m pc ls rest) "java/lang/ArrayIndexOutOfBoundsException" tx) : W p l e R s m args below meth c H locs cells slots Q (F0 m pc ls (.int i :: .ref a :: rest)) := by
  intro T hT X
  obtain ⟨t, st, q⟩ := k _ rfl T hT X
  refine ⟨t, ?_, q⟩
  have h1 := X.faloadOut hexec (by rw [hT]; exact hP q0 _ ha) ((hK.2 t0 _ ht).1 n (fun j => .float (f j))) (j := i) (by show (i < 0 ∨ (arrV _ _ _).slots.size ≤ _); rw [arrV_size]; exact Classical.byContradiction hout) (g := F0 m pc ls (.int i :: .ref a :: rest)) rfl (rest := rest) rfl (by rw [hb]; exact hdg) t
  simp only [arrV_size] at h1
  exact h1 st
theorem vx_fastZ {D : va_G} {cl : List vw_C} {ws : va_W} {tys : List (ClassId × FieldType)} {a : Nat} (hexec : p.tables.exec = Jvm.exec) (hb : c.code = cc) (hK : va_K D cl tys s) (hP : va_P D cl ws H) (q0 t0 : Nat) {cA : ClassId} {n : Nat} {f : Nat → UInt32} (ha : ws[q0]? = some (a, .inl (cA, n, .inr (.inr (.inl f))))) (ht : tys[t0]? = some (cA, .float)) {i : Int32} {x : UInt32} (hout : ¬ vp_in i n) (hdg : decode cc pc = .ok (.fastore, 1))
    (k : ∀ tx : String, tx = (toString "Index " ++ toString i ++ toString " out of bounds for length " ++ toString n : String) → vx_Note p l e R s m args below meth c H locs cells slots Q (F0 m pc ls rest) "java/lang/ArrayIndexOutOfBoundsException" tx) : W p l e R s m args below meth c H locs cells slots Q (F0 m pc ls (.float x :: .int i :: .ref a :: rest)) := by
  intro T hT X
  obtain ⟨t, st, q⟩ := k _ rfl T hT X
  refine ⟨t, ?_, q⟩
  have h1 := X.fastoreOut hexec (by rw [hT]; exact hP q0 _ ha) ((hK.2 t0 _ ht).1 n (fun j => .float (f j))) (j := i) (by show (i < 0 ∨ (arrV _ _ _).slots.size ≤ _); rw [arrV_size]; exact Classical.byContradiction hout) (g := F0 m pc ls (.float x :: .int i :: .ref a :: rest)) rfl (rest := rest) rfl (by rw [hb]; exact hdg) t
  simp only [arrV_size] at h1
  exact h1 st
theorem vx_daldZ {D : va_G} {cl : List vw_C} {ws : va_W} {tys : List (ClassId × FieldType)} {a : Nat} (hexec : p.tables.exec = Jvm.exec) (hb : c.code = cc) (hK : va_K D cl tys s) (hP : va_P D cl ws H) (q0 t0 : Nat) {cA : ClassId} {n : Nat} {f : Nat → UInt64} (ha : ws[q0]? = some (a, .inl (cA, n, .inr (.inr (.inr (.inl f)))))) (ht : tys[t0]? = some (cA, .double)) {i : Int32} (hout : ¬ vp_in i n) (hdg : decode cc pc = .ok (.daload, 1))
    (k : ∀ tx : String, tx = (toString "Index " ++ toString i ++ toString " out of bounds for length " ++ toString n : String) → vx_Note p l e R s m args below meth c H locs cells slots Q (F0 m pc ls rest) "java/lang/ArrayIndexOutOfBoundsException" tx) : W p l e R s m args below meth c H locs cells slots Q (F0 m pc ls (.int i :: .ref a :: rest)) := by
  intro T hT X
  obtain ⟨t, st, q⟩ := k _ rfl T hT X
  refine ⟨t, ?_, q⟩
  have h1 := X.daloadOut hexec (by rw [hT]; exact hP q0 _ ha) ((hK.2 t0 _ ht).1 n (fun j => .double (f j))) (j := i) (by show (i < 0 ∨ (arrV _ _ _).slots.size ≤ _); rw [arrV_size]; exact Classical.byContradiction hout) (g := F0 m pc ls (.int i :: .ref a :: rest)) rfl (rest := rest) rfl (by rw [hb]; exact hdg) t
  simp only [arrV_size] at h1
  exact h1 st
theorem vx_dastZ {D : va_G} {cl : List vw_C} {ws : va_W} {tys : List (ClassId × FieldType)} {a : Nat} (hexec : p.tables.exec = Jvm.exec) (hb : c.code = cc) (hK : va_K D cl tys s) (hP : va_P D cl ws H) (q0 t0 : Nat) {cA : ClassId} {n : Nat} {f : Nat → UInt64} (ha : ws[q0]? = some (a, .inl (cA, n, .inr (.inr (.inr (.inl f)))))) (ht : tys[t0]? = some (cA, .double)) {i : Int32} {x : UInt64} (hout : ¬ vp_in i n) (hdg : decode cc pc = .ok (.dastore, 1))
    (k : ∀ tx : String, tx = (toString "Index " ++ toString i ++ toString " out of bounds for length " ++ toString n : String) → vx_Note p l e R s m args below meth c H locs cells slots Q (F0 m pc ls rest) "java/lang/ArrayIndexOutOfBoundsException" tx) : W p l e R s m args below meth c H locs cells slots Q (F0 m pc ls (.double x :: .int i :: .ref a :: rest)) := by
  intro T hT X
  obtain ⟨t, st, q⟩ := k _ rfl T hT X
  refine ⟨t, ?_, q⟩
  have h1 := X.dastoreOut hexec (by rw [hT]; exact hP q0 _ ha) ((hK.2 t0 _ ht).1 n (fun j => .double (f j))) (j := i) (by show (i < 0 ∨ (arrV _ _ _).slots.size ≤ _); rw [arrV_size]; exact Classical.byContradiction hout) (g := F0 m pc ls (.double x :: .int i :: .ref a :: rest)) rfl (rest := rest) rfl (by rw [hb]; exact hdg) t
  simp only [arrV_size] at h1
  exact h1 st
theorem vx_arraylengthN (hexec : p.tables.exec = Jvm.exec) (hb : c.code = cc) (hdg : decode cc pc = .ok (.arraylength, 1)) (k : vx_NoteN p l e R s m args below meth c H locs cells slots Q (F0 m pc ls rest)) : W p l e R s m args below meth c H locs cells slots Q (F0 m pc ls (.null :: rest)) := by
  intro T hT X
  obtain ⟨t, st, q⟩ := k T hT X
  exact ⟨t, X.arraylengthNull hexec (g := F0 m pc ls (.null :: rest)) rfl (rest := rest) rfl (by rw [hb]; exact hdg) t st, q⟩
theorem vx_ialoadN (hexec : p.tables.exec = Jvm.exec) (hb : c.code = cc) {i : Int32} (hdg : decode cc pc = .ok (.iaload, 1)) (k : vx_NoteN p l e R s m args below meth c H locs cells slots Q (F0 m pc ls rest)) : W p l e R s m args below meth c H locs cells slots Q (F0 m pc ls (.int i :: .null :: rest)) := by
  intro T hT X
  obtain ⟨t, st, q⟩ := k T hT X
  exact ⟨t, X.ialoadNull hexec (g := F0 m pc ls (.int i :: .null :: rest)) rfl (rest := rest) rfl (by rw [hb]; exact hdg) t st, q⟩
theorem vx_laloadN (hexec : p.tables.exec = Jvm.exec) (hb : c.code = cc) {i : Int32} (hdg : decode cc pc = .ok (.laload, 1)) (k : vx_NoteN p l e R s m args below meth c H locs cells slots Q (F0 m pc ls rest)) : W p l e R s m args below meth c H locs cells slots Q (F0 m pc ls (.int i :: .null :: rest)) := by
  intro T hT X
  obtain ⟨t, st, q⟩ := k T hT X
  exact ⟨t, X.laloadNull hexec (g := F0 m pc ls (.int i :: .null :: rest)) rfl (rest := rest) rfl (by rw [hb]; exact hdg) t st, q⟩
theorem vx_faloadN (hexec : p.tables.exec = Jvm.exec) (hb : c.code = cc) {i : Int32} (hdg : decode cc pc = .ok (.faload, 1)) (k : vx_NoteN p l e R s m args below meth c H locs cells slots Q (F0 m pc ls rest)) : W p l e R s m args below meth c H locs cells slots Q (F0 m pc ls (.int i :: .null :: rest)) := by
  intro T hT X
  obtain ⟨t, st, q⟩ := k T hT X
  exact ⟨t, X.faloadNull hexec (g := F0 m pc ls (.int i :: .null :: rest)) rfl (rest := rest) rfl (by rw [hb]; exact hdg) t st, q⟩
theorem vx_daloadN (hexec : p.tables.exec = Jvm.exec) (hb : c.code = cc) {i : Int32} (hdg : decode cc pc = .ok (.daload, 1)) (k : vx_NoteN p l e R s m args below meth c H locs cells slots Q (F0 m pc ls rest)) : W p l e R s m args below meth c H locs cells slots Q (F0 m pc ls (.int i :: .null :: rest)) := by
  intro T hT X
  obtain ⟨t, st, q⟩ := k T hT X
  exact ⟨t, X.daloadNull hexec (g := F0 m pc ls (.int i :: .null :: rest)) rfl (rest := rest) rfl (by rw [hb]; exact hdg) t st, q⟩
theorem vx_aaloadN (hexec : p.tables.exec = Jvm.exec) (hb : c.code = cc) {i : Int32} (hdg : decode cc pc = .ok (.aaload, 1)) (k : vx_NoteN p l e R s m args below meth c H locs cells slots Q (F0 m pc ls rest)) : W p l e R s m args below meth c H locs cells slots Q (F0 m pc ls (.int i :: .null :: rest)) := by
  intro T hT X
  obtain ⟨t, st, q⟩ := k T hT X
  exact ⟨t, X.aaloadNull hexec (g := F0 m pc ls (.int i :: .null :: rest)) rfl (rest := rest) rfl (by rw [hb]; exact hdg) t st, q⟩
theorem vx_baloadN (hexec : p.tables.exec = Jvm.exec) (hb : c.code = cc) {i : Int32} (hdg : decode cc pc = .ok (.baload, 1)) (k : vx_NoteN p l e R s m args below meth c H locs cells slots Q (F0 m pc ls rest)) : W p l e R s m args below meth c H locs cells slots Q (F0 m pc ls (.int i :: .null :: rest)) := by
  intro T hT X
  obtain ⟨t, st, q⟩ := k T hT X
  exact ⟨t, X.baloadNull hexec (g := F0 m pc ls (.int i :: .null :: rest)) rfl (rest := rest) rfl (by rw [hb]; exact hdg) t st, q⟩
theorem vx_caloadN (hexec : p.tables.exec = Jvm.exec) (hb : c.code = cc) {i : Int32} (hdg : decode cc pc = .ok (.caload, 1)) (k : vx_NoteN p l e R s m args below meth c H locs cells slots Q (F0 m pc ls rest)) : W p l e R s m args below meth c H locs cells slots Q (F0 m pc ls (.int i :: .null :: rest)) := by
  intro T hT X
  obtain ⟨t, st, q⟩ := k T hT X
  exact ⟨t, X.caloadNull hexec (g := F0 m pc ls (.int i :: .null :: rest)) rfl (rest := rest) rfl (by rw [hb]; exact hdg) t st, q⟩
theorem vx_saloadN (hexec : p.tables.exec = Jvm.exec) (hb : c.code = cc) {i : Int32} (hdg : decode cc pc = .ok (.saload, 1)) (k : vx_NoteN p l e R s m args below meth c H locs cells slots Q (F0 m pc ls rest)) : W p l e R s m args below meth c H locs cells slots Q (F0 m pc ls (.int i :: .null :: rest)) := by
  intro T hT X
  obtain ⟨t, st, q⟩ := k T hT X
  exact ⟨t, X.saloadNull hexec (g := F0 m pc ls (.int i :: .null :: rest)) rfl (rest := rest) rfl (by rw [hb]; exact hdg) t st, q⟩
theorem vx_iastoreN (hexec : p.tables.exec = Jvm.exec) (hb : c.code = cc) {x : Int32} {i : Int32} (hdg : decode cc pc = .ok (.iastore, 1)) (k : vx_NoteN p l e R s m args below meth c H locs cells slots Q (F0 m pc ls rest)) : W p l e R s m args below meth c H locs cells slots Q (F0 m pc ls (.int x :: .int i :: .null :: rest)) := by
  intro T hT X
  obtain ⟨t, st, q⟩ := k T hT X
  exact ⟨t, X.iastoreNull hexec (g := F0 m pc ls (.int x :: .int i :: .null :: rest)) rfl (rest := rest) rfl (by rw [hb]; exact hdg) t st, q⟩
theorem vx_lastoreN (hexec : p.tables.exec = Jvm.exec) (hb : c.code = cc) {x : Int64} {i : Int32} (hdg : decode cc pc = .ok (.lastore, 1)) (k : vx_NoteN p l e R s m args below meth c H locs cells slots Q (F0 m pc ls rest)) : W p l e R s m args below meth c H locs cells slots Q (F0 m pc ls (.long x :: .int i :: .null :: rest)) := by
  intro T hT X
  obtain ⟨t, st, q⟩ := k T hT X
  exact ⟨t, X.lastoreNull hexec (g := F0 m pc ls (.long x :: .int i :: .null :: rest)) rfl (rest := rest) rfl (by rw [hb]; exact hdg) t st, q⟩
theorem vx_fastoreN (hexec : p.tables.exec = Jvm.exec) (hb : c.code = cc) {x : UInt32} {i : Int32} (hdg : decode cc pc = .ok (.fastore, 1)) (k : vx_NoteN p l e R s m args below meth c H locs cells slots Q (F0 m pc ls rest)) : W p l e R s m args below meth c H locs cells slots Q (F0 m pc ls (.float x :: .int i :: .null :: rest)) := by
  intro T hT X
  obtain ⟨t, st, q⟩ := k T hT X
  exact ⟨t, X.fastoreNull hexec (g := F0 m pc ls (.float x :: .int i :: .null :: rest)) rfl (rest := rest) rfl (by rw [hb]; exact hdg) t st, q⟩
theorem vx_dastoreN (hexec : p.tables.exec = Jvm.exec) (hb : c.code = cc) {x : UInt64} {i : Int32} (hdg : decode cc pc = .ok (.dastore, 1)) (k : vx_NoteN p l e R s m args below meth c H locs cells slots Q (F0 m pc ls rest)) : W p l e R s m args below meth c H locs cells slots Q (F0 m pc ls (.double x :: .int i :: .null :: rest)) := by
  intro T hT X
  obtain ⟨t, st, q⟩ := k T hT X
  exact ⟨t, X.dastoreNull hexec (g := F0 m pc ls (.double x :: .int i :: .null :: rest)) rfl (rest := rest) rfl (by rw [hb]; exact hdg) t st, q⟩
theorem vx_bastoreN (hexec : p.tables.exec = Jvm.exec) (hb : c.code = cc) {x : Int32} {i : Int32} (hdg : decode cc pc = .ok (.bastore, 1)) (k : vx_NoteN p l e R s m args below meth c H locs cells slots Q (F0 m pc ls rest)) : W p l e R s m args below meth c H locs cells slots Q (F0 m pc ls (.int x :: .int i :: .null :: rest)) := by
  intro T hT X
  obtain ⟨t, st, q⟩ := k T hT X
  exact ⟨t, X.bastoreNull hexec (g := F0 m pc ls (.int x :: .int i :: .null :: rest)) rfl (rest := rest) rfl (by rw [hb]; exact hdg) t st, q⟩
theorem vx_castoreN (hexec : p.tables.exec = Jvm.exec) (hb : c.code = cc) {x : Int32} {i : Int32} (hdg : decode cc pc = .ok (.castore, 1)) (k : vx_NoteN p l e R s m args below meth c H locs cells slots Q (F0 m pc ls rest)) : W p l e R s m args below meth c H locs cells slots Q (F0 m pc ls (.int x :: .int i :: .null :: rest)) := by
  intro T hT X
  obtain ⟨t, st, q⟩ := k T hT X
  exact ⟨t, X.castoreNull hexec (g := F0 m pc ls (.int x :: .int i :: .null :: rest)) rfl (rest := rest) rfl (by rw [hb]; exact hdg) t st, q⟩
theorem vx_sastoreN (hexec : p.tables.exec = Jvm.exec) (hb : c.code = cc) {x : Int32} {i : Int32} (hdg : decode cc pc = .ok (.sastore, 1)) (k : vx_NoteN p l e R s m args below meth c H locs cells slots Q (F0 m pc ls rest)) : W p l e R s m args below meth c H locs cells slots Q (F0 m pc ls (.int x :: .int i :: .null :: rest)) := by
  intro T hT X
  obtain ⟨t, st, q⟩ := k T hT X
  exact ⟨t, X.sastoreNull hexec (g := F0 m pc ls (.int x :: .int i :: .null :: rest)) rfl (rest := rest) rfl (by rw [hb]; exact hdg) t st, q⟩
theorem vx_invokeN {own C : String} {index maxL : Nat} {y : MethodName} {bytes : ByteArray} {ret : Option FieldType} (hexec : p.tables.exec = Jvm.exec) (hb : c.code = cc) (hown : s.vm.findClass own = some m.cls) (hlink : (Cond.methodLink own index y).before args s = true) (hinst : (Cond.instanceMethod y).before args s = true) (hcode : (Cond.code y bytes maxL ret).before args s = true) (hsel : (Cond.selects C y y).before args s = true)
    (hx : y.cls ≠ "java/lang/invoke/MethodHandle" ∧ y.cls ≠ "java/lang/invoke/VarHandle") {As : List Value} (hlen : (parseMethodDescriptor y.desc).map (fun d => d.parameters.length) = some As.length) (hdg : decode cc pc = .ok (.invokevirtual index, 3))
    (k : vx_NoteN p l e R s m args below meth c H locs cells slots Q (F0 m pc ls rest)) {st0 : List Value} (hst : st0 = As.reverse ++ .null :: rest) : W p l e R s m args below meth c H locs cells slots Q (F0 m pc ls st0) := by
  intro T hT X
  obtain ⟨r0, r, hn, hrm, hstR, hsigR⟩ := va_Decl.of hinst hcode
  obtain ⟨c2, r2, m2, q1, q2, q3, q4, kP, hkP, hkPi⟩ := Cond.selects_spec hsel
  cases hn.symm.trans q3
  have hl9 : As.length = r.sig.parameters.length := by
    rw [hsigR] at hlen
    exact (Option.some.inj hlen).symm
  obtain ⟨vm', X1, st1⟩ := X.invokevirtualNull hexec hown hlink hn hrm hstR hkP hkPi hx (g := F0 m pc ls st0) rfl (argsL := As) (rest := rest) hl9 hst (by rw [hb]; exact hdg)
  obtain ⟨t, st, q⟩ := k (T.setVm vm') hT X1
  exact ⟨t, st1 t st, q⟩
theorem vx_newarrayZ {atype : ArrayType} (hexec : p.tables.exec = Jvm.exec) (hb : c.code = cc) {n : Int32} (h0 : n < 0) (hdg : decode cc pc = .ok (.newarray atype, 2)) (k : ∀ tx : String, tx = toString n → vx_Note p l e R s m args below meth c H locs cells slots Q (F0 m pc ls rest) "java/lang/NegativeArraySizeException" tx) : W p l e R s m args below meth c H locs cells slots Q (F0 m pc ls (.int n :: rest)) := by
  intro T hT X
  obtain ⟨t, st, q⟩ := k _ rfl T hT X
  exact ⟨t, X.newarrayNegative hexec (g := F0 m pc ls (.int n :: rest)) rfl h0 (rest := rest) rfl (by rw [hb]; exact hdg) t st, q⟩
end
end VXM
/-! ===== END ===== -/
end
section
def RX0 : String := "Splityard$Bench"
def TX0 : u_T := fun k => match k with
  | 0 => ("Splityard$Bench", "part", "[J", true)
  | 1 => ("Splityard$Bench", "size", "I", false)
  | 2 => ("Splityard$Bench", "ofInteger", "Z", false)
  | 3 => ("Splityard$Bench", "whats", "[I", true)
  | 4 => ("Splityard$Bench", "numbers", "[J", true)
  | 5 => ("Splityard$Bench", "nexts", "[I", true)
  | 6 => ("Splityard$Bench", "ends", "[I", true)
  | _ => ("Splityard$Bench", "count", "I", false)
def tyX0 : Nat → FieldType := fun k => match k with
  | 0 => .array .long
  | 1 => .int
  | 2 => .boolean
  | 3 => .array .int
  | 4 => .array .long
  | 5 => .array .int
  | 6 => .array .int
  | _ => .int
abbrev wsX00 : List Cond := u_ws RX0 TX0 8
theorem nmX0 : ∀ a, a < 8 → ∀ b, b < 8 → a ≠ b → (TX0 a).2.1 ≠ (TX0 b).2.1 := by decide +kernel
theorem tyX0_ok : ∀ k, k < 8 → parseFieldDescriptor (TX0 k).2.2.1 = some (tyX0 k) := by decide +kernel
abbrev cX0_init : ByteArray := prog_2_method_1_code
def yX0_init : MethodName := ⟨RX0, "<init>", "()V"⟩
abbrev cX0_start : ByteArray := prog_2_method_2_code
def yX0_start : MethodName := ⟨RX0, "start", "(LSplityard$Row;IIZ)V"⟩
abbrev cX0_isNumber : ByteArray := prog_2_method_3_code
def yX0_isNumber : MethodName := ⟨RX0, "isNumber", "(I)Z"⟩
abbrev cX0_remaining : ByteArray := prog_2_method_4_code
def yX0_remaining : MethodName := ⟨RX0, "remaining", "(I)I"⟩
abbrev cX0_placeOf : ByteArray := prog_2_method_5_code
def yX0_placeOf : MethodName := ⟨RX0, "placeOf", "(I)I"⟩
abbrev cX0_hasAll : ByteArray := prog_2_method_6_code
def yX0_hasAll : MethodName := ⟨RX0, "hasAll", "(II)Z"⟩
abbrev cX0_halve : ByteArray := prog_2_method_7_code
def yX0_halve : MethodName := ⟨RX0, "halve", "(I)I"⟩
abbrev cX0_halveAll : ByteArray := prog_2_method_8_code
def yX0_halveAll : MethodName := ⟨RX0, "halveAll", "(I)I"⟩
abbrev cX0_give : ByteArray := prog_2_method_9_code
def yX0_give : MethodName := ⟨RX0, "give", "(II)I"⟩
abbrev cX0_removeEmpty : ByteArray := prog_2_method_10_code
def yX0_removeEmpty : MethodName := ⟨RX0, "removeEmpty", "()I"⟩
abbrev cX0_isWholePart : ByteArray := prog_2_method_11_code
def yX0_isWholePart : MethodName := ⟨RX0, "isWholePart", "()Z"⟩
abbrev cX0_countNumbers : ByteArray := prog_2_method_12_code
def yX0_countNumbers : MethodName := ⟨RX0, "countNumbers", "()I"⟩
abbrev cX0_countLeft : ByteArray := prog_2_method_13_code
def yX0_countLeft : MethodName := ⟨RX0, "countLeft", "()I"⟩
abbrev cX0_addTo : ByteArray := prog_2_method_14_code
def yX0_addTo : MethodName := ⟨RX0, "addTo", "(J)J"⟩
abbrev cX0_isInOrder : ByteArray := prog_2_method_15_code
def yX0_isInOrder : MethodName := ⟨RX0, "isInOrder", "()Z"⟩
abbrev cX0_standsAt : ByteArray := prog_2_method_16_code
def yX0_standsAt : MethodName := ⟨RX0, "standsAt", "(II)Z"⟩
abbrev cX0_width : ByteArray := prog_2_method_17_code
def yX0_width : MethodName := ⟨RX0, "width", "(I)I"⟩
abbrev cX0_isTooLong : ByteArray := prog_2_method_18_code
def yX0_isTooLong : MethodName := ⟨RX0, "isTooLong", "(II)Z"⟩
abbrev cX0_partAt : ByteArray := prog_2_method_19_code
def yX0_partAt : MethodName := ⟨RX0, "partAt", "(I)J"⟩
abbrev cX0_putPiece : ByteArray := prog_2_method_20_code
def yX0_putPiece : MethodName := ⟨RX0, "putPiece", "(III)V"⟩
abbrev cX0_putNumber : ByteArray := prog_2_method_21_code
def yX0_putNumber : MethodName := ⟨RX0, "putNumber", "(IJ)V"⟩
abbrev cX0_copyItem : ByteArray := prog_2_method_22_code
def yX0_copyItem : MethodName := ⟨RX0, "copyItem", "(II)V"⟩
abbrev cX0_makeRoom : ByteArray := prog_2_method_23_code
def yX0_makeRoom : MethodName := ⟨RX0, "makeRoom", "(II)Z"⟩
def RX1 : String := "Splityard$Row"
def TX1 : u_T := fun k => match k with
  | 0 => ("Splityard$Row", "numbers", "[J", true)
  | _ => ("Splityard$Row", "count", "I", false)
def tyX1 : Nat → FieldType := fun k => match k with
  | 0 => .array .long
  | _ => .int
abbrev wsX10 : List Cond := u_ws RX1 TX1 2
theorem nmX1 : ∀ a, a < 2 → ∀ b, b < 2 → a ≠ b → (TX1 a).2.1 ≠ (TX1 b).2.1 := by decide +kernel
theorem tyX1_ok : ∀ k, k < 2 → parseFieldDescriptor (TX1 k).2.2.1 = some (tyX1 k) := by decide +kernel
abbrev cX1_init : ByteArray := prog_3_method_1_code
def yX1_init : MethodName := ⟨RX1, "<init>", "()V"⟩
abbrev cX1_add : ByteArray := prog_3_method_2_code
def yX1_add : MethodName := ⟨RX1, "add", "(J)Z"⟩
abbrev cX1_clear : ByteArray := prog_3_method_3_code
def yX1_clear : MethodName := ⟨RX1, "clear", "()V"⟩
abbrev cX1_at : ByteArray := prog_3_method_4_code
def yX1_at : MethodName := ⟨RX1, "at", "(I)J"⟩
abbrev cX1_reverse : ByteArray := prog_3_method_5_code
def yX1_reverse : MethodName := ⟨RX1, "reverse", "()V"⟩
abbrev cX1_addTo : ByteArray := prog_3_method_6_code
def yX1_addTo : MethodName := ⟨RX1, "addTo", "(J)J"⟩
def RX2 : String := "Splityard"
def TX2 : u_T := fun k => match k with
  | 0 => ("Splityard", "rows", "[LSplityard$Row;", true)
  | 1 => ("Splityard", "benches", "[LSplityard$Bench;", true)
  | _ => ("Splityard", "spare", "LSplityard$Bench;", true)
def tyX2 : Nat → FieldType := fun k => match k with
  | 0 => .array (.object "Splityard$Row")
  | 1 => .array (.object "Splityard$Bench")
  | _ => .object "Splityard$Bench"
abbrev wsX20 : List Cond := u_ws RX2 TX2 3
theorem nmX2 : ∀ a, a < 3 → ∀ b, b < 3 → a ≠ b → (TX2 a).2.1 ≠ (TX2 b).2.1 := by decide +kernel
theorem tyX2_ok : ∀ k, k < 3 → parseFieldDescriptor (TX2 k).2.2.1 = some (tyX2 k) := by decide +kernel
abbrev cX2_init : ByteArray := prog_1_method_1_code
def yX2_init : MethodName := ⟨RX2, "<init>", "()V"⟩
abbrev cX2_append : ByteArray := prog_1_method_2_code
def yX2_append : MethodName := ⟨RX2, "append", "(CIJ)I"⟩
abbrev cX2_lay : ByteArray := prog_1_method_3_code
def yX2_lay : MethodName := ⟨RX2, "lay", "(CIIJJ)I"⟩
abbrev cX2_turn : ByteArray := prog_1_method_4_code
def yX2_turn : MethodName := ⟨RX2, "turn", "(CI)I"⟩
abbrev cX2_length : ByteArray := prog_1_method_5_code
def yX2_length : MethodName := ⟨RX2, "length", "(CI)I"⟩
abbrev cX2_number : ByteArray := prog_1_method_6_code
def yX2_number : MethodName := ⟨RX2, "number", "(CII)J"⟩
abbrev cX2_open : ByteArray := prog_1_method_7_code
def yX2_open : MethodName := ⟨RX2, "open", "(ICIII)I"⟩
abbrev cX2_openAll : ByteArray := prog_1_method_8_code
def yX2_openAll : MethodName := ⟨RX2, "openAll", "(ICI)I"⟩
abbrev cX2_items : ByteArray := prog_1_method_9_code
def yX2_items : MethodName := ⟨RX2, "items", "(I)I"⟩
abbrev cX2_kindOf : ByteArray := prog_1_method_10_code
def yX2_kindOf : MethodName := ⟨RX2, "kindOf", "(II)C"⟩
abbrev cX2_given : ByteArray := prog_1_method_11_code
def yX2_given : MethodName := ⟨RX2, "given", "(II)J"⟩
abbrev cX2_left : ByteArray := prog_1_method_12_code
def yX2_left : MethodName := ⟨RX2, "left", "(II)I"⟩
abbrev cX2_ahead : ByteArray := prog_1_method_13_code
def yX2_ahead : MethodName := ⟨RX2, "ahead", "(II)I"⟩
abbrev cX2_has : ByteArray := prog_1_method_14_code
def yX2_has : MethodName := ⟨RX2, "has", "(IIC)Z"⟩
abbrev cX2_isExact : ByteArray := prog_1_method_15_code
def yX2_isExact : MethodName := ⟨RX2, "isExact", "(II)Z"⟩
abbrev cX2_split : ByteArray := prog_1_method_16_code
def yX2_split : MethodName := ⟨RX2, "split", "(II)I"⟩
abbrev cX2_step : ByteArray := prog_1_method_17_code
def yX2_step : MethodName := ⟨RX2, "step", "(II)Z"⟩
abbrev cX2_drain : ByteArray := prog_1_method_18_code
def yX2_drain : MethodName := ⟨RX2, "drain", "(II)I"⟩
abbrev cX2_iterate : ByteArray := prog_1_method_19_code
def yX2_iterate : MethodName := ⟨RX2, "iterate", "(II)I"⟩
abbrev cX2_hasNext : ByteArray := prog_1_method_20_code
def yX2_hasNext : MethodName := ⟨RX2, "hasNext", "(II)Z"⟩
abbrev cX2_crumble : ByteArray := prog_1_method_21_code
def yX2_crumble : MethodName := ⟨RX2, "crumble", "(II)I"⟩
abbrev cX2_sweep : ByteArray := prog_1_method_22_code
def yX2_sweep : MethodName := ⟨RX2, "sweep", "(I)I"⟩
abbrev cX2_isRead : ByteArray := prog_1_method_23_code
def yX2_isRead : MethodName := ⟨RX2, "isRead", "(I)Z"⟩
abbrev cX2_fold : ByteArray := prog_1_method_24_code
def yX2_fold : MethodName := ⟨RX2, "fold", "(CIIC)J"⟩
abbrev cX2_pieces : ByteArray := prog_1_method_25_code
def yX2_pieces : MethodName := ⟨RX2, "pieces", "(CII)I"⟩
abbrev cX2_share : ByteArray := prog_1_method_26_code
def yX2_share : MethodName := ⟨RX2, "share", "(I)F"⟩
abbrev cX2_meanLeft : ByteArray := prog_1_method_27_code
def yX2_meanLeft : MethodName := ⟨RX2, "meanLeft", "(I)D"⟩
abbrev cX2_checksum : ByteArray := prog_1_method_28_code
def yX2_checksum : MethodName := ⟨RX2, "checksum", "()J"⟩
abbrev cX2_isSound : ByteArray := prog_1_method_29_code
def yX2_isSound : MethodName := ⟨RX2, "isSound", "()Z"⟩
abbrev cX2_indexIn : ByteArray := prog_1_method_30_code
def yX2_indexIn : MethodName := ⟨RX2, "indexIn", "([CC)I"⟩
abbrev cX2_requirePieceSize : ByteArray := prog_1_method_31_code
def yX2_requirePieceSize : MethodName := ⟨RX2, "requirePieceSize", "(I)V"⟩
abbrev cX2_isOfInts : ByteArray := prog_1_method_32_code
def yX2_isOfInts : MethodName := ⟨RX2, "isOfInts", "(C)Z"⟩
abbrev cX2_characteristicsOf : ByteArray := prog_1_method_33_code
def yX2_characteristicsOf : MethodName := ⟨RX2, "characteristicsOf", "(C)I"⟩
abbrev cX2_rowOf : ByteArray := prog_1_method_34_code
def yX2_rowOf : MethodName := ⟨RX2, "rowOf", "(CI)LSplityard$Row;"⟩
abbrev cX2_benchAt : ByteArray := prog_1_method_35_code
def yX2_benchAt : MethodName := ⟨RX2, "benchAt", "(I)LSplityard$Bench;"⟩
abbrev cX2_benchWithItem : ByteArray := prog_1_method_36_code
def yX2_benchWithItem : MethodName := ⟨RX2, "benchWithItem", "(II)LSplityard$Bench;"⟩
abbrev cX2_benchWithAnyPiece : ByteArray := prog_1_method_37_code
def yX2_benchWithAnyPiece : MethodName := ⟨RX2, "benchWithAnyPiece", "(II)LSplityard$Bench;"⟩
abbrev cX2_benchWithPiece : ByteArray := prog_1_method_38_code
def yX2_benchWithPiece : MethodName := ⟨RX2, "benchWithPiece", "(II)LSplityard$Bench;"⟩
abbrev cX2_foldPart : ByteArray := prog_1_method_39_code
def yX2_foldPart : MethodName := ⟨RX2, "foldPart", "(LSplityard$Row;IIICI)J"⟩
abbrev cX2_foldByNumber : ByteArray := prog_1_method_40_code
def yX2_foldByNumber : MethodName := ⟨RX2, "foldByNumber", "(LSplityard$Row;IIC)J"⟩
abbrev cX2_foldNext : ByteArray := prog_1_method_41_code
def yX2_foldNext : MethodName := ⟨RX2, "foldNext", "(LSplityard$Row;CJI)J"⟩
abbrev cX2_join : ByteArray := prog_1_method_42_code
def yX2_join : MethodName := ⟨RX2, "join", "(LSplityard$Row;CJJI)J"⟩
abbrev cX2_powerOf31 : ByteArray := prog_1_method_43_code
def yX2_powerOf31 : MethodName := ⟨RX2, "powerOf31", "(I)J"⟩
abbrev cX2_greaterPlace : ByteArray := prog_1_method_44_code
def yX2_greaterPlace : MethodName := ⟨RX2, "greaterPlace", "(LSplityard$Row;JJ)J"⟩
abbrev cX2_countBySplitting : ByteArray := prog_1_method_45_code
def yX2_countBySplitting : MethodName := ⟨RX2, "countBySplitting", "(LSplityard$Row;I)I"⟩
abbrev cX2_countByTheorem : ByteArray := prog_1_method_46_code
def yX2_countByTheorem : MethodName := ⟨RX2, "countByTheorem", "(III)I"⟩
abbrev cX2_foldsAgree : ByteArray := prog_1_method_47_code
def yX2_foldsAgree : MethodName := ⟨RX2, "foldsAgree", "(LSplityard$Row;)Z"⟩
abbrev cX2_piecesAgree : ByteArray := prog_1_method_48_code
def yX2_piecesAgree : MethodName := ⟨RX2, "piecesAgree", "(LSplityard$Row;)Z"⟩
def RX3 : String := "SplityardModel"
def TX3 : u_T := fun k => match k with
  | 0 => ("SplityardModel", "rows", "[[[J", true)
  | 1 => ("SplityardModel", "sizes", "[[I", true)
  | 2 => ("SplityardModel", "parts", "[[J", true)
  | 3 => ("SplityardModel", "partSizes", "[I", true)
  | 4 => ("SplityardModel", "boxed", "[Z", true)
  | 5 => ("SplityardModel", "kinds", "[[C", true)
  | 6 => ("SplityardModel", "lengths", "[[I", true)
  | 7 => ("SplityardModel", "many", "[I", true)
  | _ => ("SplityardModel", "thrown", "I", false)
def tyX3 : Nat → FieldType := fun k => match k with
  | 0 => .array (.array (.array .long))
  | 1 => .array (.array .int)
  | 2 => .array (.array .long)
  | 3 => .array .int
  | 4 => .array .boolean
  | 5 => .array (.array .char)
  | 6 => .array (.array .int)
  | 7 => .array .int
  | _ => .int
abbrev wsX30 : List Cond := u_ws RX3 TX3 9
theorem nmX3 : ∀ a, a < 9 → ∀ b, b < 9 → a ≠ b → (TX3 a).2.1 ≠ (TX3 b).2.1 := by decide +kernel
theorem tyX3_ok : ∀ k, k < 9 → parseFieldDescriptor (TX3 k).2.2.1 = some (tyX3 k) := by decide +kernel
abbrev cX3_init : ByteArray := prog_5_method_1_code
def yX3_init : MethodName := ⟨RX3, "<init>", "()V"⟩
abbrev cX3_thrown : ByteArray := prog_5_method_2_code
def yX3_thrown : MethodName := ⟨RX3, "thrown", "()I"⟩
abbrev cX3_can : ByteArray := prog_5_method_3_code
def yX3_can : MethodName := ⟨RX3, "can", "(ZZZ)Z"⟩
abbrev cX3_kind : ByteArray := prog_5_method_4_code
def yX3_kind : MethodName := ⟨RX3, "kind", "(C)I"⟩
abbrev cX3_isRow : ByteArray := prog_5_method_5_code
def yX3_isRow : MethodName := ⟨RX3, "isRow", "(I)Z"⟩
abbrev cX3_isNumber : ByteArray := prog_5_method_6_code
def yX3_isNumber : MethodName := ⟨RX3, "isNumber", "(IJ)Z"⟩
abbrev cX3_append : ByteArray := prog_5_method_7_code
def yX3_append : MethodName := ⟨RX3, "append", "(CIJ)I"⟩
abbrev cX3_lay : ByteArray := prog_5_method_8_code
def yX3_lay : MethodName := ⟨RX3, "lay", "(CIIJJ)I"⟩
abbrev cX3_turn : ByteArray := prog_5_method_9_code
def yX3_turn : MethodName := ⟨RX3, "turn", "(CI)I"⟩
abbrev cX3_length : ByteArray := prog_5_method_10_code
def yX3_length : MethodName := ⟨RX3, "length", "(CI)I"⟩
abbrev cX3_number : ByteArray := prog_5_method_11_code
def yX3_number : MethodName := ⟨RX3, "number", "(CII)J"⟩
abbrev cX3_isBench : ByteArray := prog_5_method_12_code
def yX3_isBench : MethodName := ⟨RX3, "isBench", "(I)Z"⟩
abbrev cX3_opened : ByteArray := prog_5_method_13_code
def yX3_opened : MethodName := ⟨RX3, "opened", "(IIIII)I"⟩
abbrev cX3_open : ByteArray := prog_5_method_14_code
def yX3_open : MethodName := ⟨RX3, "open", "(ICIII)I"⟩
abbrev cX3_openAll : ByteArray := prog_5_method_15_code
def yX3_openAll : MethodName := ⟨RX3, "openAll", "(ICI)I"⟩
abbrev cX3_items : ByteArray := prog_5_method_16_code
def yX3_items : MethodName := ⟨RX3, "items", "(I)I"⟩
abbrev cX3_isItem : ByteArray := prog_5_method_17_code
def yX3_isItem : MethodName := ⟨RX3, "isItem", "(II)Z"⟩
abbrev cX3_isOf : ByteArray := prog_5_method_18_code
def yX3_isOf : MethodName := ⟨RX3, "isOf", "(IICC)Z"⟩
abbrev cX3_kindOf : ByteArray := prog_5_method_19_code
def yX3_kindOf : MethodName := ⟨RX3, "kindOf", "(II)C"⟩
abbrev cX3_before : ByteArray := prog_5_method_20_code
def yX3_before : MethodName := ⟨RX3, "before", "(II)I"⟩
abbrev cX3_given : ByteArray := prog_5_method_21_code
def yX3_given : MethodName := ⟨RX3, "given", "(II)J"⟩
abbrev cX3_left : ByteArray := prog_5_method_22_code
def yX3_left : MethodName := ⟨RX3, "left", "(II)I"⟩
abbrev cX3_ahead : ByteArray := prog_5_method_23_code
def yX3_ahead : MethodName := ⟨RX3, "ahead", "(II)I"⟩
abbrev cX3_has : ByteArray := prog_5_method_24_code
def yX3_has : MethodName := ⟨RX3, "has", "(IIC)Z"⟩
abbrev cX3_isExact : ByteArray := prog_5_method_25_code
def yX3_isExact : MethodName := ⟨RX3, "isExact", "(II)Z"⟩
abbrev cX3_enter : ByteArray := prog_5_method_26_code
def yX3_enter : MethodName := ⟨RX3, "enter", "(IICI)V"⟩
abbrev cX3_halved : ByteArray := prog_5_method_27_code
def yX3_halved : MethodName := ⟨RX3, "halved", "(II)I"⟩
abbrev cX3_split : ByteArray := prog_5_method_28_code
def yX3_split : MethodName := ⟨RX3, "split", "(II)I"⟩
abbrev cX3_step : ByteArray := prog_5_method_29_code
def yX3_step : MethodName := ⟨RX3, "step", "(II)Z"⟩
abbrev cX3_drain : ByteArray := prog_5_method_30_code
def yX3_drain : MethodName := ⟨RX3, "drain", "(II)I"⟩
abbrev cX3_iterate : ByteArray := prog_5_method_31_code
def yX3_iterate : MethodName := ⟨RX3, "iterate", "(II)I"⟩
abbrev cX3_hasNext : ByteArray := prog_5_method_32_code
def yX3_hasNext : MethodName := ⟨RX3, "hasNext", "(II)Z"⟩
abbrev cX3_isMost : ByteArray := prog_5_method_33_code
def yX3_isMost : MethodName := ⟨RX3, "isMost", "(I)Z"⟩
abbrev cX3_crumble : ByteArray := prog_5_method_34_code
def yX3_crumble : MethodName := ⟨RX3, "crumble", "(II)I"⟩
abbrev cX3_sweep : ByteArray := prog_5_method_35_code
def yX3_sweep : MethodName := ⟨RX3, "sweep", "(I)I"⟩
abbrev cX3_count : ByteArray := prog_5_method_36_code
def yX3_count : MethodName := ⟨RX3, "count", "(IC)I"⟩
abbrev cX3_isRead : ByteArray := prog_5_method_37_code
def yX3_isRead : MethodName := ⟨RX3, "isRead", "(I)Z"⟩
abbrev cX3_fold : ByteArray := prog_5_method_38_code
def yX3_fold : MethodName := ⟨RX3, "fold", "(CIIC)J"⟩
abbrev cX3_pieces : ByteArray := prog_5_method_39_code
def yX3_pieces : MethodName := ⟨RX3, "pieces", "(CII)I"⟩
abbrev cX3_share : ByteArray := prog_5_method_40_code
def yX3_share : MethodName := ⟨RX3, "share", "(I)F"⟩
abbrev cX3_meanLeft : ByteArray := prog_5_method_41_code
def yX3_meanLeft : MethodName := ⟨RX3, "meanLeft", "(I)D"⟩
abbrev cX3_checksum : ByteArray := prog_5_method_42_code
def yX3_checksum : MethodName := ⟨RX3, "checksum", "()J"⟩
abbrev cX3_isSound : ByteArray := prog_5_method_43_code
def yX3_isSound : MethodName := ⟨RX3, "isSound", "()Z"⟩
def RJx00060 : String := "java/lang/ArrayIndexOutOfBoundsException"
def TJx00060 : u_T := fun k => match k with
  | 0 => ("java/lang/Throwable", "backtrace", "Ljava/lang/Object;", false)
  | 1 => ("java/lang/Throwable", "detailMessage", "Ljava/lang/String;", false)
  | 2 => ("java/lang/Throwable", "cause", "Ljava/lang/Throwable;", false)
  | 3 => ("java/lang/Throwable", "stackTrace", "[Ljava/lang/StackTraceElement;", false)
  | 4 => ("java/lang/Throwable", "depth", "I", false)
  | _ => ("java/lang/Throwable", "suppressedExceptions", "Ljava/util/List;", false)
def tyJx00060 : Nat → FieldType := fun k => match k with
  | 0 => .object "java/lang/Object"
  | 1 => .object "java/lang/String"
  | 2 => .object "java/lang/Throwable"
  | 3 => .array (.object "java/lang/StackTraceElement")
  | 4 => .int
  | _ => .object "java/util/List"
abbrev wsJx000600 : List Cond := u_ws RJx00060 TJx00060 6
theorem nmJx00060 : ∀ a, a < 6 → ∀ b, b < 6 → a ≠ b → (TJx00060 a).2.1 ≠ (TJx00060 b).2.1 := by decide +kernel
theorem tyJx00060_ok : ∀ k, k < 6 → parseFieldDescriptor (TJx00060 k).2.2.1 = some (tyJx00060 k) := by decide +kernel
abbrev cJx00060_init_a7421 : ByteArray := prog_7_method_2_code
def yJx00060_init_a7421 : MethodName := ⟨RJx00060, "<init>", "(Ljava/lang/String;)V"⟩
def RJ9 : String := "java/lang/Math"
def TJ9 : u_T := fun k => match k with
  | _ => ("", "", "", false)
def tyJ9 : Nat → FieldType := fun k => match k with
  | _ => .int
abbrev wsJ90 : List Cond := u_ws RJ9 TJ9 0
theorem nmJ9 : ∀ a, a < 0 → ∀ b, b < 0 → a ≠ b → (TJ9 a).2.1 ≠ (TJ9 b).2.1 := by decide +kernel
theorem tyJ9_ok : ∀ k, k < 0 → parseFieldDescriptor (TJ9 k).2.2.1 = some (tyJ9 k) := by decide +kernel
abbrev cJ9_max_f86c9 : ByteArray := prog_12_method_66_code
def yJ9_max_f86c9 : MethodName := ⟨RJ9, "max", "(JJ)J"⟩
abbrev cJ9_min_7cf53 : ByteArray := prog_12_method_69_code
def yJ9_min_7cf53 : MethodName := ⟨RJ9, "min", "(II)I"⟩
def RJ0 : String := "java/lang/String"
def TJ0 : u_T := fun k => match k with
  | 0 => ("java/lang/String", "value", "[B", true)
  | _ => ("java/lang/String", "coder", "B", true)
def tyJ0 : Nat → FieldType := fun k => match k with
  | 0 => .array .byte
  | _ => .byte
abbrev wsJ00 : List Cond := u_ws RJ0 TJ0 2
theorem nmJ0 : ∀ a, a < 2 → ∀ b, b < 2 → a ≠ b → (TJ0 a).2.1 ≠ (TJ0 b).2.1 := by decide +kernel
theorem tyJ0_ok : ∀ k, k < 2 → parseFieldDescriptor (TJ0 k).2.2.1 = some (tyJ0 k) := by decide +kernel
def RJ10 : String := "java/lang/System"
def TJ10 : u_T := fun k => match k with
  | _ => ("", "", "", false)
def tyJ10 : Nat → FieldType := fun k => match k with
  | _ => .int
abbrev wsJ100 : List Cond := u_ws RJ10 TJ10 0
theorem nmJ10 : ∀ a, a < 0 → ∀ b, b < 0 → a ≠ b → (TJ10 a).2.1 ≠ (TJ10 b).2.1 := by decide +kernel
theorem tyJ10_ok : ∀ k, k < 0 → parseFieldDescriptor (TJ10 k).2.2.1 = some (tyJ10 k) := by decide +kernel
def RL : String := "SplityardLaw"
abbrev cL_append : ByteArray := method_3_code
def yL_append : MethodName := ⟨RL, "append", "(LSplityard;CIJ[J)I"⟩
abbrev cL_lay : ByteArray := method_4_code
def yL_lay : MethodName := ⟨RL, "lay", "(LSplityard;CIIJJ[J)I"⟩
abbrev cL_turn : ByteArray := method_5_code
def yL_turn : MethodName := ⟨RL, "turn", "(LSplityard;CI[J)I"⟩
abbrev cL_length : ByteArray := method_6_code
def yL_length : MethodName := ⟨RL, "length", "(LSplityard;CI[J)I"⟩
abbrev cL_number : ByteArray := method_7_code
def yL_number : MethodName := ⟨RL, "number", "(LSplityard;CII[J)I"⟩
abbrev cL_open : ByteArray := method_8_code
def yL_open : MethodName := ⟨RL, "open", "(LSplityard;ICIII[J)I"⟩
abbrev cL_openAll : ByteArray := method_9_code
def yL_openAll : MethodName := ⟨RL, "openAll", "(LSplityard;ICI[J)I"⟩
abbrev cL_items : ByteArray := method_10_code
def yL_items : MethodName := ⟨RL, "items", "(LSplityard;I[J)I"⟩
abbrev cL_kindOf : ByteArray := method_11_code
def yL_kindOf : MethodName := ⟨RL, "kindOf", "(LSplityard;II[J)I"⟩
abbrev cL_given : ByteArray := method_12_code
def yL_given : MethodName := ⟨RL, "given", "(LSplityard;II[J)I"⟩
abbrev cL_left : ByteArray := method_13_code
def yL_left : MethodName := ⟨RL, "left", "(LSplityard;II[J)I"⟩
abbrev cL_ahead : ByteArray := method_14_code
def yL_ahead : MethodName := ⟨RL, "ahead", "(LSplityard;II[J)I"⟩
abbrev cL_has : ByteArray := method_15_code
def yL_has : MethodName := ⟨RL, "has", "(LSplityard;IIC[J)I"⟩
abbrev cL_isExact : ByteArray := method_16_code
def yL_isExact : MethodName := ⟨RL, "isExact", "(LSplityard;II[J)I"⟩
abbrev cL_split : ByteArray := method_17_code
def yL_split : MethodName := ⟨RL, "split", "(LSplityard;II[J)I"⟩
abbrev cL_step : ByteArray := method_18_code
def yL_step : MethodName := ⟨RL, "step", "(LSplityard;II[J)I"⟩
abbrev cL_drain : ByteArray := method_19_code
def yL_drain : MethodName := ⟨RL, "drain", "(LSplityard;II[J)I"⟩
abbrev cL_iterate : ByteArray := method_20_code
def yL_iterate : MethodName := ⟨RL, "iterate", "(LSplityard;II[J)I"⟩
abbrev cL_hasNext : ByteArray := method_21_code
def yL_hasNext : MethodName := ⟨RL, "hasNext", "(LSplityard;II[J)I"⟩
abbrev cL_crumble : ByteArray := method_22_code
def yL_crumble : MethodName := ⟨RL, "crumble", "(LSplityard;II[J)I"⟩
abbrev cL_sweep : ByteArray := method_23_code
def yL_sweep : MethodName := ⟨RL, "sweep", "(LSplityard;I[J)I"⟩
abbrev cL_isRead : ByteArray := method_24_code
def yL_isRead : MethodName := ⟨RL, "isRead", "(LSplityard;I[J)I"⟩
abbrev cL_fold : ByteArray := method_25_code
def yL_fold : MethodName := ⟨RL, "fold", "(LSplityard;CIIC[J)I"⟩
abbrev cL_pieces : ByteArray := method_26_code
def yL_pieces : MethodName := ⟨RL, "pieces", "(LSplityard;CII[J)I"⟩
abbrev cL_share : ByteArray := method_27_code
def yL_share : MethodName := ⟨RL, "share", "(LSplityard;I[D)I"⟩
abbrev cL_meanLeft : ByteArray := method_28_code
def yL_meanLeft : MethodName := ⟨RL, "meanLeft", "(LSplityard;I[D)I"⟩
abbrev cL_law : ByteArray := code
def yL_law : MethodName := ⟨RL, "law", "([I)Z"⟩
abbrev vwCl : List vw_C := [(RJ0, TJ0, 2), (RJx00060, TJx00060, 6), (RX0, TX0, 8), (RX1, TX1, 2), (RX2, TX2, 3), (RX3, TX3, 9)]
end
section
def WA : List Cond := lw_tbl.filter goodWord
theorem WA_in {w : Cond} (h : w ∈ lw_tbl) (g : goodWord w = true) : w ∈ WA := List.mem_filter.mpr ⟨h, g⟩
theorem WA_tbl {w : Cond} (h : w ∈ WA) : w ∈ lw_tbl := (List.mem_filter.mp h).1
def wA (y : MethodName) (c : ByteArray) (n : Nat) (r : Option FieldType) : List Cond := Cond.code y c n r :: WA
def wB (y : MethodName) (c : ByteArray) (n : Nat) (r : Option FieldType) (hh : List (Nat × Nat × Nat × Nat)) : List Cond := Cond.codeWith y c n r hh :: WA
theorem tb1 {w : Cond} (h : w ∈ tables_1_1) : w ∈ lw_tbl := List.mem_append_right _ (List.mem_append_left _ h)
theorem tb2 {w : Cond} (h : w ∈ tables_1_2) : w ∈ lw_tbl := List.mem_append_right _ (List.mem_append_right _ (List.mem_append_left _ h))
theorem tb3 {w : Cond} (h : w ∈ tables_1_3) : w ∈ lw_tbl := List.mem_append_right _ (List.mem_append_right _ (List.mem_append_right _ (List.mem_append_left _ h)))
theorem tb4 {w : Cond} (h : w ∈ tables_1_4) : w ∈ lw_tbl := List.mem_append_right _ (List.mem_append_right _ (List.mem_append_right _ (List.mem_append_right _ h)))
theorem wini_L : Cond.initialized RL ∈ WA := WA_in (tb1 (List.mem_of_getElem? (i := 0) rfl)) rfl
theorem wini_X2 : Cond.initialized RX2 ∈ WA := WA_in (tb1 (List.mem_of_getElem? (i := 1) rfl)) rfl
theorem wini_X0 : Cond.initialized RX0 ∈ WA := WA_in (tb1 (List.mem_of_getElem? (i := 2) rfl)) rfl
theorem wini_X1 : Cond.initialized RX1 ∈ WA := WA_in (tb1 (List.mem_of_getElem? (i := 3) rfl)) rfl
theorem wini_X3 : Cond.initialized RX3 ∈ WA := WA_in (tb1 (List.mem_of_getElem? (i := 4) rfl)) rfl
theorem wini_java_lang_Throwable : Cond.initialized "java/lang/Throwable" ∈ WA := WA_in (tb1 (List.mem_of_getElem? (i := 5) rfl)) rfl
theorem wini_java_lang_Exception : Cond.initialized "java/lang/Exception" ∈ WA := WA_in (tb1 (List.mem_of_getElem? (i := 6) rfl)) rfl
theorem wini_java_lang_RuntimeException : Cond.initialized "java/lang/RuntimeException" ∈ WA := WA_in (tb1 (List.mem_of_getElem? (i := 7) rfl)) rfl
theorem wini_java_lang_IndexOutOfBoundsException : Cond.initialized "java/lang/IndexOutOfBoundsException" ∈ WA := WA_in (tb1 (List.mem_of_getElem? (i := 8) rfl)) rfl
theorem wini_Jx00060 : Cond.initialized RJx00060 ∈ WA := WA_in (tb1 (List.mem_of_getElem? (i := 9) rfl)) rfl
theorem wini_J0 : Cond.initialized RJ0 ∈ WA := WA_in (tb1 (List.mem_of_getElem? (i := 10) rfl)) rfl
theorem wini_java_lang_IllegalArgumentException : Cond.initialized "java/lang/IllegalArgumentException" ∈ WA := WA_in (tb1 (List.mem_of_getElem? (i := 11) rfl)) rfl
theorem wini_java_lang_IllegalStateException : Cond.initialized "java/lang/IllegalStateException" ∈ WA := WA_in (tb1 (List.mem_of_getElem? (i := 12) rfl)) rfl
theorem wini_J10 : Cond.initialized RJ10 ∈ WA := WA_in (tb1 (List.mem_of_getElem? (i := 13) rfl)) rfl
theorem wini_J9 : Cond.initialized RJ9 ∈ WA := WA_in (tb1 (List.mem_of_getElem? (i := 14) rfl)) rfl
theorem wini_java_lang_UnsupportedOperationException : Cond.initialized "java/lang/UnsupportedOperationException" ∈ WA := WA_in (tb1 (List.mem_of_getElem? (i := 15) rfl)) rfl
theorem wini_java_lang_ArithmeticException : Cond.initialized "java/lang/ArithmeticException" ∈ WA := WA_in (tb1 (List.mem_of_getElem? (i := 16) rfl)) rfl
theorem wcl_L_8 : Cond.classLink RL 8 "Splityard" ∈ WA := WA_in (tb1 (List.mem_of_getElem? (i := 17) rfl)) rfl
theorem wins_X2 : Cond.instantiable RX2 3 ∈ WA := WA_in (tb1 (List.mem_of_getElem? (i := 18) rfl)) rfl
theorem wm_L_114 : Cond.methodLink RL 114 yX2_init ∈ WA := WA_in (tb1 (List.mem_of_getElem? (i := 19) rfl)) rfl
theorem wi_X2_init : Cond.instanceMethod yX2_init ∈ WA := WA_in (tb1 (List.mem_of_getElem? (i := 20) rfl)) rfl
theorem wc_X2_init : Cond.code yX2_init cX2_init 2 (Option.none : Option Jvm.ClassFile.FieldType) ∈ WA := WA_in (tb1 (List.mem_of_getElem? (i := 21) rfl)) rfl
theorem wm_X2_3 : Cond.methodLink RX2 3 (⟨"java/lang/Object", "<init>", "()V"⟩ : MethodName) ∈ WA := WA_in (tb1 (List.mem_of_getElem? (i := 22) rfl)) rfl
theorem wi_t1_23 : Cond.instanceMethod (⟨"java/lang/Object", "<init>", "()V"⟩ : MethodName) ∈ WA := WA_in (tb1 (List.mem_of_getElem? (i := 23) rfl)) rfl
theorem wc_t1_24 : Cond.code (⟨"java/lang/Object", "<init>", "()V"⟩ : MethodName) object_method_1_code (1 : Nat) (Option.none : Option Jvm.ClassFile.FieldType) ∈ WA := WA_in (tb1 (List.mem_of_getElem? (i := 24) rfl)) rfl
theorem wf_X2_9 : Cond.fieldLink RX2 9 "Splityard" "KINDS" "[C" ∈ WA := WA_in (tb1 (List.mem_of_getElem? (i := 25) rfl)) rfl
theorem wo_laysStatic_t1_26 : Cond.laysStatic "Splityard" "KINDS" "[C" ∈ lw_tbl := tb1 (List.mem_of_getElem? (i := 26) rfl)
theorem wcl_X2_13 : Cond.classLink RX2 13 "Splityard$Row" ∈ WA := WA_in (tb1 (List.mem_of_getElem? (i := 27) rfl)) rfl
theorem wo_arrayOver_t1_28 : Cond.arrayOver (Jvm.ClassFile.FieldType.object "Splityard$Row") ∈ lw_tbl := tb1 (List.mem_of_getElem? (i := 28) rfl)
theorem wcl_X2_19 : Cond.classLink RX2 19 "Splityard$Bench" ∈ WA := WA_in (tb1 (List.mem_of_getElem? (i := 29) rfl)) rfl
theorem wo_arrayOver_t1_30 : Cond.arrayOver (Jvm.ClassFile.FieldType.object "Splityard$Bench") ∈ lw_tbl := tb1 (List.mem_of_getElem? (i := 30) rfl)
theorem wins_X0 : Cond.instantiable RX0 8 ∈ WA := WA_in (tb1 (List.mem_of_getElem? (i := 31) rfl)) rfl
theorem wmn_X2_25 : Cond.methodLinkNest RX2 25 yX0_init "Splityard" ∈ lw_tbl := tb1 (List.mem_of_getElem? (i := 32) rfl)
theorem wi_X0_init : Cond.instanceMethod yX0_init ∈ WA := WA_in (tb1 (List.mem_of_getElem? (i := 33) rfl)) rfl
theorem wc_X0_init : Cond.code yX0_init cX0_init 1 (Option.none : Option Jvm.ClassFile.FieldType) ∈ WA := WA_in (tb1 (List.mem_of_getElem? (i := 34) rfl)) rfl
theorem wm_X0_3 : Cond.methodLink RX0 3 (⟨"java/lang/Object", "<init>", "()V"⟩ : MethodName) ∈ WA := WA_in (tb1 (List.mem_of_getElem? (i := 35) rfl)) rfl
theorem wf_X0_9 : Cond.fieldLink RX0 9 "Splityard$Bench" "part" "[J" ∈ WA := WA_in (tb1 (List.mem_of_getElem? (i := 36) rfl)) rfl
theorem wf_X0_28 : Cond.fieldLink RX0 28 "Splityard$Bench" "size" "I" ∈ WA := WA_in (tb1 (List.mem_of_getElem? (i := 37) rfl)) rfl
theorem wfn_X2_86 : Cond.fieldLinkNest RX2 86 "Splityard$Bench" "size" "I" "Splityard" ∈ lw_tbl := tb1 (List.mem_of_getElem? (i := 38) rfl)
theorem wf_X0_38 : Cond.fieldLink RX0 38 "Splityard$Bench" "ofInteger" "Z" ∈ WA := WA_in (tb1 (List.mem_of_getElem? (i := 39) rfl)) rfl
theorem wfn_X2_138 : Cond.fieldLinkNest RX2 138 "Splityard$Bench" "ofInteger" "Z" "Splityard" ∈ lw_tbl := tb1 (List.mem_of_getElem? (i := 40) rfl)
theorem wf_X0_15 : Cond.fieldLink RX0 15 "Splityard$Bench" "whats" "[I" ∈ WA := WA_in (tb1 (List.mem_of_getElem? (i := 41) rfl)) rfl
theorem wfn_X2_94 : Cond.fieldLinkNest RX2 94 "Splityard$Bench" "whats" "[I" "Splityard" ∈ lw_tbl := tb1 (List.mem_of_getElem? (i := 42) rfl)
theorem wf_X0_19 : Cond.fieldLink RX0 19 "Splityard$Bench" "numbers" "[J" ∈ WA := WA_in (tb1 (List.mem_of_getElem? (i := 43) rfl)) rfl
theorem wfn_X2_104 : Cond.fieldLinkNest RX2 104 "Splityard$Bench" "numbers" "[J" "Splityard" ∈ lw_tbl := tb1 (List.mem_of_getElem? (i := 44) rfl)
theorem wf_X0_22 : Cond.fieldLink RX0 22 "Splityard$Bench" "nexts" "[I" ∈ WA := WA_in (tb1 (List.mem_of_getElem? (i := 45) rfl)) rfl
theorem wf_X0_25 : Cond.fieldLink RX0 25 "Splityard$Bench" "ends" "[I" ∈ WA := WA_in (tb1 (List.mem_of_getElem? (i := 46) rfl)) rfl
theorem wf_X0_46 : Cond.fieldLink RX0 46 "Splityard$Bench" "count" "I" ∈ WA := WA_in (tb1 (List.mem_of_getElem? (i := 47) rfl)) rfl
theorem wfn_X2_89 : Cond.fieldLinkNest RX2 89 "Splityard$Bench" "count" "I" "Splityard" ∈ lw_tbl := tb1 (List.mem_of_getElem? (i := 48) rfl)
theorem wl_t1_49 : Cond.laysFinal "Splityard$Bench" "Splityard$Bench" "part" "[J" ∈ WA := WA_in (tb1 (List.mem_of_getElem? (i := 49) rfl)) rfl
theorem wo_soleField_t1_50 : Cond.soleField "Splityard$Bench" "part" ∈ WA := WA_in (tb1 (List.mem_of_getElem? (i := 50) rfl)) rfl
theorem wl_t1_51 : Cond.lays "Splityard$Bench" "Splityard$Bench" "size" "I" ∈ WA := WA_in (tb1 (List.mem_of_getElem? (i := 51) rfl)) rfl
theorem wo_soleField_t1_52 : Cond.soleField "Splityard$Bench" "size" ∈ WA := WA_in (tb1 (List.mem_of_getElem? (i := 52) rfl)) rfl
theorem wl_t1_53 : Cond.lays "Splityard$Bench" "Splityard$Bench" "ofInteger" "Z" ∈ WA := WA_in (tb1 (List.mem_of_getElem? (i := 53) rfl)) rfl
theorem wo_soleField_t1_54 : Cond.soleField "Splityard$Bench" "ofInteger" ∈ WA := WA_in (tb1 (List.mem_of_getElem? (i := 54) rfl)) rfl
theorem wl_t1_55 : Cond.laysFinal "Splityard$Bench" "Splityard$Bench" "whats" "[I" ∈ WA := WA_in (tb1 (List.mem_of_getElem? (i := 55) rfl)) rfl
theorem wo_soleField_t1_56 : Cond.soleField "Splityard$Bench" "whats" ∈ WA := WA_in (tb1 (List.mem_of_getElem? (i := 56) rfl)) rfl
theorem wl_t1_57 : Cond.laysFinal "Splityard$Bench" "Splityard$Bench" "numbers" "[J" ∈ WA := WA_in (tb1 (List.mem_of_getElem? (i := 57) rfl)) rfl
theorem wo_soleField_t1_58 : Cond.soleField "Splityard$Bench" "numbers" ∈ WA := WA_in (tb1 (List.mem_of_getElem? (i := 58) rfl)) rfl
theorem wl_t1_59 : Cond.laysFinal "Splityard$Bench" "Splityard$Bench" "nexts" "[I" ∈ WA := WA_in (tb1 (List.mem_of_getElem? (i := 59) rfl)) rfl
theorem wo_soleField_t1_60 : Cond.soleField "Splityard$Bench" "nexts" ∈ WA := WA_in (tb1 (List.mem_of_getElem? (i := 60) rfl)) rfl
theorem wl_t1_61 : Cond.laysFinal "Splityard$Bench" "Splityard$Bench" "ends" "[I" ∈ WA := WA_in (tb1 (List.mem_of_getElem? (i := 61) rfl)) rfl
theorem wo_soleField_t1_62 : Cond.soleField "Splityard$Bench" "ends" ∈ WA := WA_in (tb1 (List.mem_of_getElem? (i := 62) rfl)) rfl
theorem wl_t1_63 : Cond.lays "Splityard$Bench" "Splityard$Bench" "count" "I" ∈ WA := WA_in (tb1 (List.mem_of_getElem? (i := 63) rfl)) rfl
theorem wo_soleField_t1_64 : Cond.soleField "Splityard$Bench" "count" ∈ WA := WA_in (tb1 (List.mem_of_getElem? (i := 64) rfl)) rfl
theorem wo_superclass_t1_65 : Cond.superclass "Splityard$Bench" "java/lang/Object" ∈ WA := WA_in (tb1 (List.mem_of_getElem? (i := 65) rfl)) rfl
theorem wo_arrayClass_t1_66 : Cond.arrayClass Jvm.ClassFile.FieldType.long ∈ WA := WA_in (tb1 (List.mem_of_getElem? (i := 66) rfl)) rfl
theorem wo_arrayClass_t1_67 : Cond.arrayClass Jvm.ClassFile.FieldType.int ∈ WA := WA_in (tb1 (List.mem_of_getElem? (i := 67) rfl)) rfl
theorem wins_X1 : Cond.instantiable RX1 2 ∈ WA := WA_in (tb1 (List.mem_of_getElem? (i := 68) rfl)) rfl
theorem wmn_X2_30 : Cond.methodLinkNest RX2 30 yX1_init "Splityard" ∈ lw_tbl := tb1 (List.mem_of_getElem? (i := 69) rfl)
theorem wi_X1_init : Cond.instanceMethod yX1_init ∈ WA := WA_in (tb1 (List.mem_of_getElem? (i := 70) rfl)) rfl
theorem wc_X1_init : Cond.code yX1_init cX1_init 1 (Option.none : Option Jvm.ClassFile.FieldType) ∈ WA := WA_in (tb1 (List.mem_of_getElem? (i := 71) rfl)) rfl
theorem wm_X1_3 : Cond.methodLink RX1 3 (⟨"java/lang/Object", "<init>", "()V"⟩ : MethodName) ∈ WA := WA_in (tb1 (List.mem_of_getElem? (i := 72) rfl)) rfl
theorem wf_X1_9 : Cond.fieldLink RX1 9 "Splityard$Row" "numbers" "[J" ∈ WA := WA_in (tb1 (List.mem_of_getElem? (i := 73) rfl)) rfl
theorem wf_X1_15 : Cond.fieldLink RX1 15 "Splityard$Row" "count" "I" ∈ WA := WA_in (tb1 (List.mem_of_getElem? (i := 74) rfl)) rfl
theorem wfn_X2_55 : Cond.fieldLinkNest RX2 55 "Splityard$Row" "count" "I" "Splityard" ∈ lw_tbl := tb1 (List.mem_of_getElem? (i := 75) rfl)
theorem wl_t1_76 : Cond.laysFinal "Splityard$Row" "Splityard$Row" "numbers" "[J" ∈ WA := WA_in (tb1 (List.mem_of_getElem? (i := 76) rfl)) rfl
theorem wo_soleField_t1_77 : Cond.soleField "Splityard$Row" "numbers" ∈ WA := WA_in (tb1 (List.mem_of_getElem? (i := 77) rfl)) rfl
theorem wl_t1_78 : Cond.lays "Splityard$Row" "Splityard$Row" "count" "I" ∈ WA := WA_in (tb1 (List.mem_of_getElem? (i := 78) rfl)) rfl
theorem wo_soleField_t1_79 : Cond.soleField "Splityard$Row" "count" ∈ WA := WA_in (tb1 (List.mem_of_getElem? (i := 79) rfl)) rfl
theorem wo_superclass_t1_80 : Cond.superclass "Splityard$Row" "java/lang/Object" ∈ WA := WA_in (tb1 (List.mem_of_getElem? (i := 80) rfl)) rfl
theorem wf_X2_15 : Cond.fieldLink RX2 15 "Splityard" "rows" "[LSplityard$Row;" ∈ WA := WA_in (tb1 (List.mem_of_getElem? (i := 81) rfl)) rfl
theorem wf_X2_21 : Cond.fieldLink RX2 21 "Splityard" "benches" "[LSplityard$Bench;" ∈ WA := WA_in (tb1 (List.mem_of_getElem? (i := 82) rfl)) rfl
theorem wf_X2_26 : Cond.fieldLink RX2 26 "Splityard" "spare" "LSplityard$Bench;" ∈ WA := WA_in (tb1 (List.mem_of_getElem? (i := 83) rfl)) rfl
theorem wl_t1_84 : Cond.laysFinal "Splityard" "Splityard" "rows" "[LSplityard$Row;" ∈ WA := WA_in (tb1 (List.mem_of_getElem? (i := 84) rfl)) rfl
theorem wo_soleField_t1_85 : Cond.soleField "Splityard" "rows" ∈ WA := WA_in (tb1 (List.mem_of_getElem? (i := 85) rfl)) rfl
theorem wl_t1_86 : Cond.laysFinal "Splityard" "Splityard" "benches" "[LSplityard$Bench;" ∈ WA := WA_in (tb1 (List.mem_of_getElem? (i := 86) rfl)) rfl
theorem wo_soleField_t1_87 : Cond.soleField "Splityard" "benches" ∈ WA := WA_in (tb1 (List.mem_of_getElem? (i := 87) rfl)) rfl
theorem wl_t1_88 : Cond.laysFinal "Splityard" "Splityard" "spare" "LSplityard$Bench;" ∈ WA := WA_in (tb1 (List.mem_of_getElem? (i := 88) rfl)) rfl
theorem wo_soleField_t1_89 : Cond.soleField "Splityard" "spare" ∈ WA := WA_in (tb1 (List.mem_of_getElem? (i := 89) rfl)) rfl
theorem wo_superclass_t1_90 : Cond.superclass "Splityard" "java/lang/Object" ∈ WA := WA_in (tb1 (List.mem_of_getElem? (i := 90) rfl)) rfl
theorem wm_L_215 : Cond.methodLink RL 215 yX2_checksum ∈ WA := WA_in (tb1 (List.mem_of_getElem? (i := 91) rfl)) rfl
theorem wi_X2_checksum : Cond.instanceMethod yX2_checksum ∈ WA := WA_in (tb1 (List.mem_of_getElem? (i := 92) rfl)) rfl
theorem wse_X2_checksum : Cond.selects RX2 yX2_checksum yX2_checksum ∈ WA := WA_in (tb1 (List.mem_of_getElem? (i := 93) rfl)) rfl
theorem wc_X2_checksum : Cond.code yX2_checksum cX2_checksum 7 (Option.some Jvm.ClassFile.FieldType.long) ∈ WA := WA_in (tb1 (List.mem_of_getElem? (i := 94) rfl)) rfl
theorem wk_X2_194 : Cond.constantLong RX2 194 (7 : Int64) ∈ WA := WA_in (tb1 (List.mem_of_getElem? (i := 95) rfl)) rfl
theorem wm_X2_196 : Cond.methodLink RX2 196 yX1_addTo ∈ WA := WA_in (tb1 (List.mem_of_getElem? (i := 96) rfl)) rfl
theorem wi_X1_addTo : Cond.instanceMethod yX1_addTo ∈ WA := WA_in (tb1 (List.mem_of_getElem? (i := 97) rfl)) rfl
theorem wse_X1_addTo : Cond.selects RX1 yX1_addTo yX1_addTo ∈ WA := WA_in (tb1 (List.mem_of_getElem? (i := 98) rfl)) rfl
theorem wc_X1_addTo : Cond.code yX1_addTo cX1_addTo 6 (Option.some Jvm.ClassFile.FieldType.long) ∈ WA := WA_in (tb1 (List.mem_of_getElem? (i := 99) rfl)) rfl
theorem wk_X1_19 : Cond.constantLong RX1 19 (31 : Int64) ∈ WA := WA_in (tb1 (List.mem_of_getElem? (i := 100) rfl)) rfl
theorem wm_X2_200 : Cond.methodLink RX2 200 yX0_addTo ∈ WA := WA_in (tb1 (List.mem_of_getElem? (i := 101) rfl)) rfl
theorem wi_X0_addTo : Cond.instanceMethod yX0_addTo ∈ WA := WA_in (tb1 (List.mem_of_getElem? (i := 102) rfl)) rfl
theorem wse_X0_addTo : Cond.selects RX0 yX0_addTo yX0_addTo ∈ WA := WA_in (tb1 (List.mem_of_getElem? (i := 103) rfl)) rfl
theorem wc_X0_addTo : Cond.code yX0_addTo cX0_addTo 6 (Option.some Jvm.ClassFile.FieldType.long) ∈ WA := WA_in (tb1 (List.mem_of_getElem? (i := 104) rfl)) rfl
theorem wk_X0_95 : Cond.constantLong RX0 95 (31 : Int64) ∈ WA := WA_in (tb1 (List.mem_of_getElem? (i := 105) rfl)) rfl
theorem wm_X0_49 : Cond.methodLink RX0 49 yX0_isNumber ∈ WA := WA_in (tb1 (List.mem_of_getElem? (i := 106) rfl)) rfl
theorem wi_X0_isNumber : Cond.instanceMethod yX0_isNumber ∈ WA := WA_in (tb1 (List.mem_of_getElem? (i := 107) rfl)) rfl
theorem wse_X0_isNumber : Cond.selects RX0 yX0_isNumber yX0_isNumber ∈ WA := WA_in (tb1 (List.mem_of_getElem? (i := 108) rfl)) rfl
theorem wc_X0_isNumber : Cond.code yX0_isNumber cX0_isNumber 2 (Option.some Jvm.ClassFile.FieldType.boolean) ∈ WA := WA_in (tb1 (List.mem_of_getElem? (i := 109) rfl)) rfl
theorem wm_X0_57 : Cond.methodLink RX0 57 yX0_remaining ∈ WA := WA_in (tb1 (List.mem_of_getElem? (i := 110) rfl)) rfl
theorem wi_X0_remaining : Cond.instanceMethod yX0_remaining ∈ WA := WA_in (tb1 (List.mem_of_getElem? (i := 111) rfl)) rfl
theorem wse_X0_remaining : Cond.selects RX0 yX0_remaining yX0_remaining ∈ WA := WA_in (tb1 (List.mem_of_getElem? (i := 112) rfl)) rfl
theorem wc_X0_remaining : Cond.code yX0_remaining cX0_remaining 2 (Option.some Jvm.ClassFile.FieldType.int) ∈ WA := WA_in (tb1 (List.mem_of_getElem? (i := 113) rfl)) rfl
theorem wm_L_220 : Cond.methodLink RL 220 yX2_isSound ∈ WA := WA_in (tb1 (List.mem_of_getElem? (i := 114) rfl)) rfl
theorem wi_X2_isSound : Cond.instanceMethod yX2_isSound ∈ WA := WA_in (tb1 (List.mem_of_getElem? (i := 115) rfl)) rfl
theorem wse_X2_isSound : Cond.selects RX2 yX2_isSound yX2_isSound ∈ WA := WA_in (tb1 (List.mem_of_getElem? (i := 116) rfl)) rfl
theorem wc_X2_isSound : Cond.code yX2_isSound cX2_isSound 5 (Option.some Jvm.ClassFile.FieldType.boolean) ∈ WA := WA_in (tb1 (List.mem_of_getElem? (i := 117) rfl)) rfl
theorem wm_X2_201 : Cond.methodLink RX2 201 yX0_isInOrder ∈ WA := WA_in (tb1 (List.mem_of_getElem? (i := 118) rfl)) rfl
theorem wi_X0_isInOrder : Cond.instanceMethod yX0_isInOrder ∈ WA := WA_in (tb1 (List.mem_of_getElem? (i := 119) rfl)) rfl
theorem wse_X0_isInOrder : Cond.selects RX0 yX0_isInOrder yX0_isInOrder ∈ WA := WA_in (tb1 (List.mem_of_getElem? (i := 120) rfl)) rfl
theorem wc_X0_isInOrder : Cond.code yX0_isInOrder cX0_isInOrder 3 (Option.some Jvm.ClassFile.FieldType.boolean) ∈ WA := WA_in (tb1 (List.mem_of_getElem? (i := 121) rfl)) rfl
theorem wm_X0_97 : Cond.methodLink RX0 97 yX0_standsAt ∈ WA := WA_in (tb1 (List.mem_of_getElem? (i := 122) rfl)) rfl
theorem wo_privateMethod_t1_123 : Cond.privateMethod yX0_standsAt ∈ lw_tbl := tb1 (List.mem_of_getElem? (i := 123) rfl)
theorem wi_X0_standsAt : Cond.instanceMethod yX0_standsAt ∈ WA := WA_in (tb1 (List.mem_of_getElem? (i := 124) rfl)) rfl
theorem wc_X0_standsAt : Cond.code yX0_standsAt cX0_standsAt 4 (Option.some Jvm.ClassFile.FieldType.boolean) ∈ WA := WA_in (tb1 (List.mem_of_getElem? (i := 125) rfl)) rfl
theorem wm_X0_100 : Cond.methodLink RX0 100 yX0_hasAll ∈ WA := WA_in (tb1 (List.mem_of_getElem? (i := 126) rfl)) rfl
theorem wi_X0_hasAll : Cond.instanceMethod yX0_hasAll ∈ WA := WA_in (tb1 (List.mem_of_getElem? (i := 127) rfl)) rfl
theorem wse_X0_hasAll : Cond.selects RX0 yX0_hasAll yX0_hasAll ∈ WA := WA_in (tb1 (List.mem_of_getElem? (i := 128) rfl)) rfl
theorem wc_X0_hasAll : Cond.code yX0_hasAll cX0_hasAll 4 (Option.some Jvm.ClassFile.FieldType.boolean) ∈ WA := WA_in (tb1 (List.mem_of_getElem? (i := 129) rfl)) rfl
theorem wm_X0_53 : Cond.methodLink RX0 53 yX0_width ∈ WA := WA_in (tb1 (List.mem_of_getElem? (i := 130) rfl)) rfl
theorem wo_privateMethod_t1_131 : Cond.privateMethod yX0_width ∈ lw_tbl := tb1 (List.mem_of_getElem? (i := 131) rfl)
theorem wi_X0_width : Cond.instanceMethod yX0_width ∈ WA := WA_in (tb1 (List.mem_of_getElem? (i := 132) rfl)) rfl
theorem wc_X0_width : Cond.code yX0_width cX0_width 2 (Option.some Jvm.ClassFile.FieldType.int) ∈ WA := WA_in (tb1 (List.mem_of_getElem? (i := 133) rfl)) rfl
theorem wm_X2_204 : Cond.methodLink RX2 204 yX2_foldsAgree ∈ WA := WA_in (tb1 (List.mem_of_getElem? (i := 134) rfl)) rfl
theorem wst_X2_foldsAgree : Cond.static yX2_foldsAgree ∈ WA := WA_in (tb1 (List.mem_of_getElem? (i := 135) rfl)) rfl
theorem wc_X2_foldsAgree : Cond.code yX2_foldsAgree cX2_foldsAgree 11 (Option.some Jvm.ClassFile.FieldType.boolean) ∈ WA := WA_in (tb1 (List.mem_of_getElem? (i := 136) rfl)) rfl
theorem wf_X2_164 : Cond.fieldLink RX2 164 "Splityard" "HOWS" "[C" ∈ WA := WA_in (tb1 (List.mem_of_getElem? (i := 137) rfl)) rfl
theorem wo_laysStatic_t1_138 : Cond.laysStatic "Splityard" "HOWS" "[C" ∈ lw_tbl := tb1 (List.mem_of_getElem? (i := 138) rfl)
theorem wm_X2_225 : Cond.methodLink RX2 225 yX2_foldByNumber ∈ WA := WA_in (tb1 (List.mem_of_getElem? (i := 139) rfl)) rfl
theorem wst_X2_foldByNumber : Cond.static yX2_foldByNumber ∈ WA := WA_in (tb1 (List.mem_of_getElem? (i := 140) rfl)) rfl
theorem wc_X2_foldByNumber : Cond.code yX2_foldByNumber cX2_foldByNumber 7 (Option.some Jvm.ClassFile.FieldType.long) ∈ WA := WA_in (tb1 (List.mem_of_getElem? (i := 141) rfl)) rfl
theorem wk_X2_233 : Cond.constantLong RX2 233 (-1 : Int64) ∈ WA := WA_in (tb1 (List.mem_of_getElem? (i := 142) rfl)) rfl
theorem wm_X2_235 : Cond.methodLink RX2 235 yX2_foldNext ∈ WA := WA_in (tb1 (List.mem_of_getElem? (i := 143) rfl)) rfl
theorem wst_X2_foldNext : Cond.static yX2_foldNext ∈ WA := WA_in (tb1 (List.mem_of_getElem? (i := 144) rfl)) rfl
theorem wc_X2_foldNext : Cond.code yX2_foldNext cX2_foldNext 7 (Option.some Jvm.ClassFile.FieldType.long) ∈ WA := WA_in (tb1 (List.mem_of_getElem? (i := 145) rfl)) rfl
theorem wm_X2_72 : Cond.methodLink RX2 72 yX1_at ∈ WA := WA_in (tb1 (List.mem_of_getElem? (i := 146) rfl)) rfl
theorem wi_X1_at : Cond.instanceMethod yX1_at ∈ WA := WA_in (tb1 (List.mem_of_getElem? (i := 147) rfl)) rfl
theorem wse_X1_at : Cond.selects RX1 yX1_at yX1_at ∈ WA := WA_in (tb1 (List.mem_of_getElem? (i := 148) rfl)) rfl
theorem wc_X1_at : Cond.code yX1_at cX1_at 2 (Option.some Jvm.ClassFile.FieldType.long) ∈ WA := WA_in (tb1 (List.mem_of_getElem? (i := 149) rfl)) rfl
theorem wk_X2_239 : Cond.constantLong RX2 239 (31 : Int64) ∈ WA := WA_in (tb1 (List.mem_of_getElem? (i := 150) rfl)) rfl
theorem wf_X2_258 : Cond.fieldLink RX2 258 "Splityard" "SIZES_TO_CHECK" "[I" ∈ WA := WA_in (tb1 (List.mem_of_getElem? (i := 151) rfl)) rfl
theorem wo_laysStatic_t1_152 : Cond.laysStatic "Splityard" "SIZES_TO_CHECK" "[I" ∈ lw_tbl := tb1 (List.mem_of_getElem? (i := 152) rfl)
theorem wm_X2_173 : Cond.methodLink RX2 173 yX2_foldPart ∈ WA := WA_in (tb1 (List.mem_of_getElem? (i := 153) rfl)) rfl
theorem wst_X2_foldPart : Cond.static yX2_foldPart ∈ WA := WA_in (tb1 (List.mem_of_getElem? (i := 154) rfl)) rfl
theorem wc_X2_foldPart : Cond.code yX2_foldPart cX2_foldPart 12 (Option.some Jvm.ClassFile.FieldType.long) ∈ WA := WA_in (tb1 (List.mem_of_getElem? (i := 155) rfl)) rfl
theorem wm_X2_229 : Cond.methodLink RX2 229 yX2_join ∈ WA := WA_in (tb1 (List.mem_of_getElem? (i := 156) rfl)) rfl
theorem wst_X2_join : Cond.static yX2_join ∈ WA := WA_in (tb1 (List.mem_of_getElem? (i := 157) rfl)) rfl
theorem wc_X2_join : Cond.code yX2_join cX2_join 7 (Option.some Jvm.ClassFile.FieldType.long) ∈ WA := WA_in (tb1 (List.mem_of_getElem? (i := 158) rfl)) rfl
theorem wm_X2_241 : Cond.methodLink RX2 241 yX2_powerOf31 ∈ WA := WA_in (tb1 (List.mem_of_getElem? (i := 159) rfl)) rfl
theorem wst_X2_powerOf31 : Cond.static yX2_powerOf31 ∈ WA := WA_in (tb1 (List.mem_of_getElem? (i := 160) rfl)) rfl
theorem wc_X2_powerOf31 : Cond.code yX2_powerOf31 cX2_powerOf31 4 (Option.some Jvm.ClassFile.FieldType.long) ∈ WA := WA_in (tb1 (List.mem_of_getElem? (i := 161) rfl)) rfl
theorem wm_X2_244 : Cond.methodLink RX2 244 yX2_greaterPlace ∈ WA := WA_in (tb1 (List.mem_of_getElem? (i := 162) rfl)) rfl
theorem wst_X2_greaterPlace : Cond.static yX2_greaterPlace ∈ WA := WA_in (tb1 (List.mem_of_getElem? (i := 163) rfl)) rfl
theorem wc_X2_greaterPlace : Cond.code yX2_greaterPlace cX2_greaterPlace 5 (Option.some Jvm.ClassFile.FieldType.long) ∈ WA := WA_in (tb1 (List.mem_of_getElem? (i := 164) rfl)) rfl
theorem wm_X2_248 : Cond.methodLink RX2 248 yJ9_max_f86c9 ∈ WA := WA_in (tb1 (List.mem_of_getElem? (i := 165) rfl)) rfl
theorem wst_J9_max_f86c9 : Cond.static yJ9_max_f86c9 ∈ WA := WA_in (tb1 (List.mem_of_getElem? (i := 166) rfl)) rfl
theorem wc_J9_max_f86c9 : Cond.code yJ9_max_f86c9 cJ9_max_f86c9 4 (Option.some Jvm.ClassFile.FieldType.long) ∈ WA := WA_in (tb1 (List.mem_of_getElem? (i := 167) rfl)) rfl
theorem wm_X2_208 : Cond.methodLink RX2 208 yX2_piecesAgree ∈ WA := WA_in (tb1 (List.mem_of_getElem? (i := 168) rfl)) rfl
theorem wo_privateMethod_t1_169 : Cond.privateMethod yX2_piecesAgree ∈ lw_tbl := tb1 (List.mem_of_getElem? (i := 169) rfl)
theorem wi_X2_piecesAgree : Cond.instanceMethod yX2_piecesAgree ∈ WA := WA_in (tb1 (List.mem_of_getElem? (i := 170) rfl)) rfl
theorem wc_X2_piecesAgree : Cond.code yX2_piecesAgree cX2_piecesAgree 6 (Option.some Jvm.ClassFile.FieldType.boolean) ∈ WA := WA_in (tb1 (List.mem_of_getElem? (i := 171) rfl)) rfl
theorem wm_X2_177 : Cond.methodLink RX2 177 yX2_countBySplitting ∈ WA := WA_in (tb1 (List.mem_of_getElem? (i := 172) rfl)) rfl
theorem wo_privateMethod_t1_173 : Cond.privateMethod yX2_countBySplitting ∈ lw_tbl := tb1 (List.mem_of_getElem? (i := 173) rfl)
theorem wi_X2_countBySplitting : Cond.instanceMethod yX2_countBySplitting ∈ WA := WA_in (tb1 (List.mem_of_getElem? (i := 174) rfl)) rfl
theorem wc_X2_countBySplitting : Cond.code yX2_countBySplitting cX2_countBySplitting 3 (Option.some Jvm.ClassFile.FieldType.int) ∈ WA := WA_in (tb1 (List.mem_of_getElem? (i := 175) rfl)) rfl
theorem wm_X2_82 : Cond.methodLink RX2 82 yX0_start ∈ WA := WA_in (tb1 (List.mem_of_getElem? (i := 176) rfl)) rfl
theorem wi_X0_start : Cond.instanceMethod yX0_start ∈ WA := WA_in (tb1 (List.mem_of_getElem? (i := 177) rfl)) rfl
theorem wse_X0_start : Cond.selects RX0 yX0_start yX0_start ∈ WA := WA_in (tb1 (List.mem_of_getElem? (i := 178) rfl)) rfl
theorem wc_X0_start : Cond.code yX0_start cX0_start 6 (Option.none : Option Jvm.ClassFile.FieldType) ∈ WA := WA_in (tb1 (List.mem_of_getElem? (i := 179) rfl)) rfl
theorem wm_X0_32 : Cond.methodLink RX0 32 yX1_at ∈ WA := WA_in (tb1 (List.mem_of_getElem? (i := 180) rfl)) rfl
theorem wm_X0_42 : Cond.methodLink RX0 42 yX0_putPiece ∈ WA := WA_in (tb1 (List.mem_of_getElem? (i := 181) rfl)) rfl
theorem wo_privateMethod_t1_182 : Cond.privateMethod yX0_putPiece ∈ lw_tbl := tb1 (List.mem_of_getElem? (i := 182) rfl)
theorem wi_X0_putPiece : Cond.instanceMethod yX0_putPiece ∈ WA := WA_in (tb1 (List.mem_of_getElem? (i := 183) rfl)) rfl
theorem wc_X0_putPiece : Cond.code yX0_putPiece cX0_putPiece 4 (Option.none : Option Jvm.ClassFile.FieldType) ∈ WA := WA_in (tb1 (List.mem_of_getElem? (i := 184) rfl)) rfl
theorem wm_X2_153 : Cond.methodLink RX2 153 yX0_halveAll ∈ WA := WA_in (tb1 (List.mem_of_getElem? (i := 185) rfl)) rfl
theorem wi_X0_halveAll : Cond.instanceMethod yX0_halveAll ∈ WA := WA_in (tb1 (List.mem_of_getElem? (i := 186) rfl)) rfl
theorem wse_X0_halveAll : Cond.selects RX0 yX0_halveAll yX0_halveAll ∈ WA := WA_in (tb1 (List.mem_of_getElem? (i := 187) rfl)) rfl
theorem wc_X0_halveAll : Cond.code yX0_halveAll cX0_halveAll 5 (Option.some Jvm.ClassFile.FieldType.int) ∈ WA := WA_in (tb1 (List.mem_of_getElem? (i := 188) rfl)) rfl
theorem wm_X0_64 : Cond.methodLink RX0 64 yX0_isTooLong ∈ WA := WA_in (tb1 (List.mem_of_getElem? (i := 189) rfl)) rfl
theorem wo_privateMethod_t1_190 : Cond.privateMethod yX0_isTooLong ∈ lw_tbl := tb1 (List.mem_of_getElem? (i := 190) rfl)
theorem wi_X0_isTooLong : Cond.instanceMethod yX0_isTooLong ∈ WA := WA_in (tb1 (List.mem_of_getElem? (i := 191) rfl)) rfl
theorem wc_X0_isTooLong : Cond.code yX0_isTooLong cX0_isTooLong 3 (Option.some Jvm.ClassFile.FieldType.boolean) ∈ WA := WA_in (tb1 (List.mem_of_getElem? (i := 192) rfl)) rfl
theorem wm_X0_67 : Cond.methodLink RX0 67 yX0_halve ∈ WA := WA_in (tb1 (List.mem_of_getElem? (i := 193) rfl)) rfl
theorem wi_X0_halve : Cond.instanceMethod yX0_halve ∈ WA := WA_in (tb1 (List.mem_of_getElem? (i := 194) rfl)) rfl
theorem wse_X0_halve : Cond.selects RX0 yX0_halve yX0_halve ∈ WA := WA_in (tb1 (List.mem_of_getElem? (i := 195) rfl)) rfl
theorem wc_X0_halve : Cond.code yX0_halve cX0_halve 5 (Option.some Jvm.ClassFile.FieldType.int) ∈ WA := WA_in (tb1 (List.mem_of_getElem? (i := 196) rfl)) rfl
theorem wm_X0_60 : Cond.methodLink RX0 60 yX0_makeRoom ∈ WA := WA_in (tb1 (List.mem_of_getElem? (i := 197) rfl)) rfl
theorem wo_privateMethod_t1_198 : Cond.privateMethod yX0_makeRoom ∈ lw_tbl := tb1 (List.mem_of_getElem? (i := 198) rfl)
theorem wi_X0_makeRoom : Cond.instanceMethod yX0_makeRoom ∈ WA := WA_in (tb1 (List.mem_of_getElem? (i := 199) rfl)) rfl
theorem wc_X0_makeRoom : Cond.code yX0_makeRoom cX0_makeRoom 4 (Option.some Jvm.ClassFile.FieldType.boolean) ∈ WA := WA_in (tb1 (List.mem_of_getElem? (i := 200) rfl)) rfl
theorem wm_X0_103 : Cond.methodLink RX0 103 (⟨"java/lang/System", "arraycopy", "(Ljava/lang/Object;ILjava/lang/Object;II)V"⟩ : MethodName) ∈ WA := WA_in (tb1 (List.mem_of_getElem? (i := 201) rfl)) rfl
theorem wst_arraycopy : Cond.static arraycopyName ∈ WA := WA_in (tb1 (List.mem_of_getElem? (i := 202) rfl)) rfl
theorem wnat_arraycopy : Cond.native arraycopyName ∈ WA := WA_in (tb1 (List.mem_of_getElem? (i := 203) rfl)) rfl
theorem wm_X2_254 : Cond.methodLink RX2 254 yX2_countByTheorem ∈ WA := WA_in (tb1 (List.mem_of_getElem? (i := 204) rfl)) rfl
theorem wst_X2_countByTheorem : Cond.static yX2_countByTheorem ∈ WA := WA_in (tb1 (List.mem_of_getElem? (i := 205) rfl)) rfl
theorem wc_X2_countByTheorem : Cond.code yX2_countByTheorem cX2_countByTheorem 4 (Option.some Jvm.ClassFile.FieldType.int) ∈ WA := WA_in (tb1 (List.mem_of_getElem? (i := 206) rfl)) rfl
theorem wm_L_120 : Cond.methodLink RL 120 yL_append ∈ WA := WA_in (tb1 (List.mem_of_getElem? (i := 207) rfl)) rfl
theorem wst_L_append : Cond.static yL_append ∈ WA := WA_in (tb1 (List.mem_of_getElem? (i := 208) rfl)) rfl
theorem wcw_L_append : Cond.codeWith yL_append cL_append 7 (Option.some Jvm.ClassFile.FieldType.int) [((0 : Nat), (12 : Nat), (15 : Nat), (13 : Nat)), ((0 : Nat), (12 : Nat), (19 : Nat), (15 : Nat)), ((0 : Nat), (12 : Nat), (23 : Nat), (17 : Nat))] ∈ WA := WA_in (tb1 (List.mem_of_getElem? (i := 209) rfl)) rfl
theorem wcl_L_13 : Cond.classLink RL 13 "java/lang/IllegalArgumentException" ∈ WA := WA_in (tb1 (List.mem_of_getElem? (i := 210) rfl)) rfl
theorem wcl_L_15 : Cond.classLink RL 15 "java/lang/IndexOutOfBoundsException" ∈ WA := WA_in (tb1 (List.mem_of_getElem? (i := 211) rfl)) rfl
theorem wins_Jx00060 : Cond.instantiable RJx00060 6 ∈ WA := WA_in (tb1 (List.mem_of_getElem? (i := 212) rfl)) rfl
theorem wi_Jx00060_init_a7421 : Cond.instanceMethod yJx00060_init_a7421 ∈ WA := WA_in (tb1 (List.mem_of_getElem? (i := 213) rfl)) rfl
theorem wc_Jx00060_init_a7421 : Cond.code yJx00060_init_a7421 cJx00060_init_a7421 2 (Option.none : Option Jvm.ClassFile.FieldType) ∈ WA := WA_in (tb1 (List.mem_of_getElem? (i := 214) rfl)) rfl
theorem wm_Jx00060_7 : Cond.methodLink RJx00060 7 (⟨"java/lang/IndexOutOfBoundsException", "<init>", "(Ljava/lang/String;)V"⟩ : MethodName) ∈ WA := WA_in (tb1 (List.mem_of_getElem? (i := 215) rfl)) rfl
theorem wi_t1_216 : Cond.instanceMethod (⟨"java/lang/IndexOutOfBoundsException", "<init>", "(Ljava/lang/String;)V"⟩ : MethodName) ∈ WA := WA_in (tb1 (List.mem_of_getElem? (i := 216) rfl)) rfl
theorem wc_t1_217 : Cond.code (⟨"java/lang/IndexOutOfBoundsException", "<init>", "(Ljava/lang/String;)V"⟩ : MethodName) prog_11_method_2_code (2 : Nat) (Option.none : Option Jvm.ClassFile.FieldType) ∈ WA := WA_in (tb1 (List.mem_of_getElem? (i := 217) rfl)) rfl
theorem wi_t1_219 : Cond.instanceMethod (⟨"java/lang/RuntimeException", "<init>", "(Ljava/lang/String;)V"⟩ : MethodName) ∈ WA := WA_in (tb1 (List.mem_of_getElem? (i := 219) rfl)) rfl
theorem wc_t1_220 : Cond.code (⟨"java/lang/RuntimeException", "<init>", "(Ljava/lang/String;)V"⟩ : MethodName) prog_13_method_2_code (2 : Nat) (Option.none : Option Jvm.ClassFile.FieldType) ∈ WA := WA_in (tb1 (List.mem_of_getElem? (i := 220) rfl)) rfl
theorem wi_t1_222 : Cond.instanceMethod (⟨"java/lang/Exception", "<init>", "(Ljava/lang/String;)V"⟩ : MethodName) ∈ WA := WA_in (tb1 (List.mem_of_getElem? (i := 222) rfl)) rfl
theorem wc_t1_223 : Cond.code (⟨"java/lang/Exception", "<init>", "(Ljava/lang/String;)V"⟩ : MethodName) prog_8_method_2_code (2 : Nat) (Option.none : Option Jvm.ClassFile.FieldType) ∈ WA := WA_in (tb1 (List.mem_of_getElem? (i := 223) rfl)) rfl
theorem wi_t1_225 : Cond.instanceMethod (⟨"java/lang/Throwable", "<init>", "(Ljava/lang/String;)V"⟩ : MethodName) ∈ WA := WA_in (tb1 (List.mem_of_getElem? (i := 225) rfl)) rfl
theorem wc_t1_226 : Cond.code (⟨"java/lang/Throwable", "<init>", "(Ljava/lang/String;)V"⟩ : MethodName) prog_16_method_2_code (2 : Nat) (Option.none : Option Jvm.ClassFile.FieldType) ∈ WA := WA_in (tb1 (List.mem_of_getElem? (i := 226) rfl)) rfl
theorem wo_laysStatic_t1_229 : Cond.laysStatic "java/lang/Throwable" "UNASSIGNED_STACK" "[Ljava/lang/StackTraceElement;" ∈ lw_tbl := tb1 (List.mem_of_getElem? (i := 229) rfl)
theorem wo_laysStatic_t1_231 : Cond.laysStatic "java/lang/Throwable" "SUPPRESSED_SENTINEL" "Ljava/util/List;" ∈ lw_tbl := tb1 (List.mem_of_getElem? (i := 231) rfl)
theorem wi_t1_233 : Cond.instanceMethod (⟨"java/lang/Throwable", "fillInStackTrace", "()Ljava/lang/Throwable;"⟩ : MethodName) ∈ WA := WA_in (tb1 (List.mem_of_getElem? (i := 233) rfl)) rfl
theorem wo_sameMethod_t1_234 : Cond.sameMethod "java/lang/Throwable" "java/lang/Throwable" "fillInStackTrace" "()Ljava/lang/Throwable;" ∈ WA := WA_in (tb1 (List.mem_of_getElem? (i := 234) rfl)) rfl
theorem wse_t1_235 : Cond.selects "java/lang/ArithmeticException" (⟨"java/lang/Throwable", "fillInStackTrace", "()Ljava/lang/Throwable;"⟩ : MethodName) (⟨"java/lang/Throwable", "fillInStackTrace", "()Ljava/lang/Throwable;"⟩ : MethodName) ∈ WA := WA_in (tb1 (List.mem_of_getElem? (i := 235) rfl)) rfl
theorem wse_t1_236 : Cond.selects "java/lang/ArrayIndexOutOfBoundsException" (⟨"java/lang/Throwable", "fillInStackTrace", "()Ljava/lang/Throwable;"⟩ : MethodName) (⟨"java/lang/Throwable", "fillInStackTrace", "()Ljava/lang/Throwable;"⟩ : MethodName) ∈ WA := WA_in (tb1 (List.mem_of_getElem? (i := 236) rfl)) rfl
theorem wse_t1_237 : Cond.selects "java/lang/IllegalArgumentException" (⟨"java/lang/Throwable", "fillInStackTrace", "()Ljava/lang/Throwable;"⟩ : MethodName) (⟨"java/lang/Throwable", "fillInStackTrace", "()Ljava/lang/Throwable;"⟩ : MethodName) ∈ WA := WA_in (tb1 (List.mem_of_getElem? (i := 237) rfl)) rfl
theorem wse_t1_238 : Cond.selects "java/lang/IllegalStateException" (⟨"java/lang/Throwable", "fillInStackTrace", "()Ljava/lang/Throwable;"⟩ : MethodName) (⟨"java/lang/Throwable", "fillInStackTrace", "()Ljava/lang/Throwable;"⟩ : MethodName) ∈ WA := WA_in (tb1 (List.mem_of_getElem? (i := 238) rfl)) rfl
theorem wse_t1_239 : Cond.selects "java/lang/IndexOutOfBoundsException" (⟨"java/lang/Throwable", "fillInStackTrace", "()Ljava/lang/Throwable;"⟩ : MethodName) (⟨"java/lang/Throwable", "fillInStackTrace", "()Ljava/lang/Throwable;"⟩ : MethodName) ∈ WA := WA_in (tb1 (List.mem_of_getElem? (i := 239) rfl)) rfl
theorem wse_t2_0 : Cond.selects "java/lang/UnsupportedOperationException" (⟨"java/lang/Throwable", "fillInStackTrace", "()Ljava/lang/Throwable;"⟩ : MethodName) (⟨"java/lang/Throwable", "fillInStackTrace", "()Ljava/lang/Throwable;"⟩ : MethodName) ∈ WA := WA_in (tb2 (List.mem_of_getElem? (i := 0) rfl)) rfl
theorem wo_codeSync_t2_1 : Cond.codeSync (⟨"java/lang/Throwable", "fillInStackTrace", "()Ljava/lang/Throwable;"⟩ : MethodName) prog_16_method_18_code (1 : Nat) (Option.some (Jvm.ClassFile.FieldType.object "java/lang/Throwable")) ∈ WA := WA_in (tb2 (List.mem_of_getElem? (i := 1) rfl)) rfl
theorem wo_privateMethod_t2_3 : Cond.privateMethod (⟨"java/lang/Throwable", "fillInStackTrace", "(I)Ljava/lang/Throwable;"⟩ : MethodName) ∈ lw_tbl := tb2 (List.mem_of_getElem? (i := 3) rfl)
theorem wi_t2_4 : Cond.instanceMethod (⟨"java/lang/Throwable", "fillInStackTrace", "(I)Ljava/lang/Throwable;"⟩ : MethodName) ∈ WA := WA_in (tb2 (List.mem_of_getElem? (i := 4) rfl)) rfl
theorem wins_java_lang_Throwable : Cond.instantiable "java/lang/Throwable" 6 ∈ WA := WA_in (tb2 (List.mem_of_getElem? (i := 5) rfl)) rfl
theorem wnat_t2_6 : Cond.native (⟨"java/lang/Throwable", "fillInStackTrace", "(I)Ljava/lang/Throwable;"⟩ : MethodName) ∈ WA := WA_in (tb2 (List.mem_of_getElem? (i := 6) rfl)) rfl
theorem wl_t2_12 : Cond.lays "java/lang/ArrayIndexOutOfBoundsException" "java/lang/Throwable" "backtrace" "Ljava/lang/Object;" ∈ WA := WA_in (tb2 (List.mem_of_getElem? (i := 12) rfl)) rfl
theorem wo_soleField_t2_13 : Cond.soleField "java/lang/Throwable" "backtrace" ∈ WA := WA_in (tb2 (List.mem_of_getElem? (i := 13) rfl)) rfl
theorem wl_t2_14 : Cond.lays "java/lang/ArrayIndexOutOfBoundsException" "java/lang/Throwable" "detailMessage" "Ljava/lang/String;" ∈ WA := WA_in (tb2 (List.mem_of_getElem? (i := 14) rfl)) rfl
theorem wo_soleField_t2_15 : Cond.soleField "java/lang/Throwable" "detailMessage" ∈ WA := WA_in (tb2 (List.mem_of_getElem? (i := 15) rfl)) rfl
theorem wl_t2_16 : Cond.lays "java/lang/ArrayIndexOutOfBoundsException" "java/lang/Throwable" "cause" "Ljava/lang/Throwable;" ∈ WA := WA_in (tb2 (List.mem_of_getElem? (i := 16) rfl)) rfl
theorem wo_soleField_t2_17 : Cond.soleField "java/lang/Throwable" "cause" ∈ WA := WA_in (tb2 (List.mem_of_getElem? (i := 17) rfl)) rfl
theorem wl_t2_18 : Cond.lays "java/lang/ArrayIndexOutOfBoundsException" "java/lang/Throwable" "stackTrace" "[Ljava/lang/StackTraceElement;" ∈ WA := WA_in (tb2 (List.mem_of_getElem? (i := 18) rfl)) rfl
theorem wo_soleField_t2_19 : Cond.soleField "java/lang/Throwable" "stackTrace" ∈ WA := WA_in (tb2 (List.mem_of_getElem? (i := 19) rfl)) rfl
theorem wl_t2_20 : Cond.lays "java/lang/ArrayIndexOutOfBoundsException" "java/lang/Throwable" "depth" "I" ∈ WA := WA_in (tb2 (List.mem_of_getElem? (i := 20) rfl)) rfl
theorem wo_soleField_t2_21 : Cond.soleField "java/lang/Throwable" "depth" ∈ WA := WA_in (tb2 (List.mem_of_getElem? (i := 21) rfl)) rfl
theorem wl_t2_22 : Cond.lays "java/lang/ArrayIndexOutOfBoundsException" "java/lang/Throwable" "suppressedExceptions" "Ljava/util/List;" ∈ WA := WA_in (tb2 (List.mem_of_getElem? (i := 22) rfl)) rfl
theorem wo_soleField_t2_23 : Cond.soleField "java/lang/Throwable" "suppressedExceptions" ∈ WA := WA_in (tb2 (List.mem_of_getElem? (i := 23) rfl)) rfl
theorem wo_superclass_t2_24 : Cond.superclass "java/lang/ArrayIndexOutOfBoundsException" "java/lang/IndexOutOfBoundsException" ∈ WA := WA_in (tb2 (List.mem_of_getElem? (i := 24) rfl)) rfl
theorem wo_castable_t2_25 : Cond.castable "java/lang/ArrayIndexOutOfBoundsException" "java/lang/ArrayIndexOutOfBoundsException" ∈ lw_tbl := tb2 (List.mem_of_getElem? (i := 25) rfl)
theorem wo_declares_t2_26 : Cond.declares (⟨"java/lang/IndexOutOfBoundsException", "<init>", "()V"⟩ : MethodName) ∈ lw_tbl := tb2 (List.mem_of_getElem? (i := 26) rfl)
theorem wo_declares_t2_27 : Cond.declares (⟨"java/lang/IndexOutOfBoundsException", "<init>", "(Ljava/lang/String;)V"⟩ : MethodName) ∈ lw_tbl := tb2 (List.mem_of_getElem? (i := 27) rfl)
theorem wo_declares_t2_28 : Cond.declares (⟨"java/lang/RuntimeException", "<init>", "()V"⟩ : MethodName) ∈ lw_tbl := tb2 (List.mem_of_getElem? (i := 28) rfl)
theorem wo_declares_t2_29 : Cond.declares (⟨"java/lang/RuntimeException", "<init>", "(Ljava/lang/String;)V"⟩ : MethodName) ∈ lw_tbl := tb2 (List.mem_of_getElem? (i := 29) rfl)
theorem wo_declares_t2_30 : Cond.declares (⟨"java/lang/Exception", "<init>", "()V"⟩ : MethodName) ∈ lw_tbl := tb2 (List.mem_of_getElem? (i := 30) rfl)
theorem wo_declares_t2_31 : Cond.declares (⟨"java/lang/Exception", "<init>", "(Ljava/lang/String;)V"⟩ : MethodName) ∈ lw_tbl := tb2 (List.mem_of_getElem? (i := 31) rfl)
theorem wo_declares_t2_32 : Cond.declares (⟨"java/lang/Throwable", "<init>", "()V"⟩ : MethodName) ∈ lw_tbl := tb2 (List.mem_of_getElem? (i := 32) rfl)
theorem wo_declares_t2_33 : Cond.declares (⟨"java/lang/Throwable", "<init>", "(Ljava/lang/String;)V"⟩ : MethodName) ∈ lw_tbl := tb2 (List.mem_of_getElem? (i := 33) rfl)
theorem wse_t2_34 : Cond.selects "java/lang/ArrayIndexOutOfBoundsException" (⟨"java/lang/Throwable", "fillInStackTrace", "(I)Ljava/lang/Throwable;"⟩ : MethodName) (⟨"java/lang/Throwable", "fillInStackTrace", "(I)Ljava/lang/Throwable;"⟩ : MethodName) ∈ WA := WA_in (tb2 (List.mem_of_getElem? (i := 34) rfl)) rfl
theorem wl_t2_35 : Cond.lays "java/lang/Throwable" "java/lang/Throwable" "cause" "Ljava/lang/Throwable;" ∈ WA := WA_in (tb2 (List.mem_of_getElem? (i := 35) rfl)) rfl
theorem wl_t2_36 : Cond.lays "java/lang/Throwable" "java/lang/Throwable" "stackTrace" "[Ljava/lang/StackTraceElement;" ∈ WA := WA_in (tb2 (List.mem_of_getElem? (i := 36) rfl)) rfl
theorem wl_t2_37 : Cond.lays "java/lang/Throwable" "java/lang/Throwable" "suppressedExceptions" "Ljava/util/List;" ∈ WA := WA_in (tb2 (List.mem_of_getElem? (i := 37) rfl)) rfl
theorem wl_t2_38 : Cond.lays "java/lang/Throwable" "java/lang/Throwable" "detailMessage" "Ljava/lang/String;" ∈ WA := WA_in (tb2 (List.mem_of_getElem? (i := 38) rfl)) rfl
theorem wl_t2_39 : Cond.lays "java/lang/Throwable" "java/lang/Throwable" "backtrace" "Ljava/lang/Object;" ∈ WA := WA_in (tb2 (List.mem_of_getElem? (i := 39) rfl)) rfl
theorem wo_superclass_t2_41 : Cond.superclass "java/lang/Throwable" "java/lang/Object" ∈ WA := WA_in (tb2 (List.mem_of_getElem? (i := 41) rfl)) rfl
theorem wi_t2_42 : Cond.instanceMethod (⟨"java/lang/Throwable", "<init>", "()V"⟩ : MethodName) ∈ WA := WA_in (tb2 (List.mem_of_getElem? (i := 42) rfl)) rfl
theorem wc_t2_43 : Cond.code (⟨"java/lang/Throwable", "<init>", "()V"⟩ : MethodName) prog_16_method_1_code (1 : Nat) (Option.none : Option Jvm.ClassFile.FieldType) ∈ WA := WA_in (tb2 (List.mem_of_getElem? (i := 43) rfl)) rfl
theorem wins_J0 : Cond.instantiable RJ0 4 ∈ WA := WA_in (tb2 (List.mem_of_getElem? (i := 44) rfl)) rfl
theorem wo_arrayClass_t2_45 : Cond.arrayClass Jvm.ClassFile.FieldType.byte ∈ WA := WA_in (tb2 (List.mem_of_getElem? (i := 45) rfl)) rfl
theorem wl_t2_46 : Cond.laysFinal "java/lang/String" "java/lang/String" "value" "[B" ∈ WA := WA_in (tb2 (List.mem_of_getElem? (i := 46) rfl)) rfl
theorem wo_soleField_t2_47 : Cond.soleField "java/lang/String" "value" ∈ WA := WA_in (tb2 (List.mem_of_getElem? (i := 47) rfl)) rfl
theorem wl_t2_48 : Cond.laysFinal "java/lang/String" "java/lang/String" "coder" "B" ∈ WA := WA_in (tb2 (List.mem_of_getElem? (i := 48) rfl)) rfl
theorem wo_soleField_t2_49 : Cond.soleField "java/lang/String" "coder" ∈ WA := WA_in (tb2 (List.mem_of_getElem? (i := 49) rfl)) rfl
theorem wcl_L_17 : Cond.classLink RL 17 "java/lang/IllegalStateException" ∈ WA := WA_in (tb2 (List.mem_of_getElem? (i := 50) rfl)) rfl
theorem wm_L_7 : Cond.methodLink RL 7 yX2_append ∈ WA := WA_in (tb2 (List.mem_of_getElem? (i := 51) rfl)) rfl
theorem wi_X2_append : Cond.instanceMethod yX2_append ∈ WA := WA_in (tb2 (List.mem_of_getElem? (i := 52) rfl)) rfl
theorem wse_X2_append : Cond.selects RX2 yX2_append yX2_append ∈ WA := WA_in (tb2 (List.mem_of_getElem? (i := 53) rfl)) rfl
theorem wc_X2_append : Cond.code yX2_append cX2_append 6 (Option.some Jvm.ClassFile.FieldType.int) ∈ WA := WA_in (tb2 (List.mem_of_getElem? (i := 54) rfl)) rfl
theorem wm_X2_31 : Cond.methodLink RX2 31 yX2_isOfInts ∈ WA := WA_in (tb2 (List.mem_of_getElem? (i := 55) rfl)) rfl
theorem wst_X2_isOfInts : Cond.static yX2_isOfInts ∈ WA := WA_in (tb2 (List.mem_of_getElem? (i := 56) rfl)) rfl
theorem wc_X2_isOfInts : Cond.code yX2_isOfInts cX2_isOfInts 1 (Option.some Jvm.ClassFile.FieldType.boolean) ∈ WA := WA_in (tb2 (List.mem_of_getElem? (i := 57) rfl)) rfl
theorem wcl_X2_35 : Cond.classLink RX2 35 "java/lang/IllegalArgumentException" ∈ WA := WA_in (tb2 (List.mem_of_getElem? (i := 58) rfl)) rfl
theorem wins_java_lang_IllegalArgumentException : Cond.instantiable "java/lang/IllegalArgumentException" 6 ∈ WA := WA_in (tb2 (List.mem_of_getElem? (i := 59) rfl)) rfl
theorem wo_castable_t2_60 : Cond.castable "java/lang/IllegalArgumentException" "java/lang/IllegalArgumentException" ∈ lw_tbl := tb2 (List.mem_of_getElem? (i := 60) rfl)
theorem wse_t2_61 : Cond.selects "java/lang/IllegalArgumentException" (⟨"java/lang/Throwable", "fillInStackTrace", "(I)Ljava/lang/Throwable;"⟩ : MethodName) (⟨"java/lang/Throwable", "fillInStackTrace", "(I)Ljava/lang/Throwable;"⟩ : MethodName) ∈ WA := WA_in (tb2 (List.mem_of_getElem? (i := 61) rfl)) rfl
theorem wl_t2_62 : Cond.lays "java/lang/IllegalArgumentException" "java/lang/Throwable" "cause" "Ljava/lang/Throwable;" ∈ WA := WA_in (tb2 (List.mem_of_getElem? (i := 62) rfl)) rfl
theorem wl_t2_63 : Cond.lays "java/lang/IllegalArgumentException" "java/lang/Throwable" "stackTrace" "[Ljava/lang/StackTraceElement;" ∈ WA := WA_in (tb2 (List.mem_of_getElem? (i := 63) rfl)) rfl
theorem wl_t2_64 : Cond.lays "java/lang/IllegalArgumentException" "java/lang/Throwable" "suppressedExceptions" "Ljava/util/List;" ∈ WA := WA_in (tb2 (List.mem_of_getElem? (i := 64) rfl)) rfl
theorem wl_t2_65 : Cond.lays "java/lang/IllegalArgumentException" "java/lang/Throwable" "detailMessage" "Ljava/lang/String;" ∈ WA := WA_in (tb2 (List.mem_of_getElem? (i := 65) rfl)) rfl
theorem wl_t2_66 : Cond.lays "java/lang/IllegalArgumentException" "java/lang/Throwable" "backtrace" "Ljava/lang/Object;" ∈ WA := WA_in (tb2 (List.mem_of_getElem? (i := 66) rfl)) rfl
theorem wstr_X2_37 : Cond.stringRef RX2 37 "no number of this kind" ∈ lw_tbl := tb2 (List.mem_of_getElem? (i := 67) rfl)
theorem wm_X2_39 : Cond.methodLink RX2 39 (⟨"java/lang/IllegalArgumentException", "<init>", "(Ljava/lang/String;)V"⟩ : MethodName) ∈ WA := WA_in (tb2 (List.mem_of_getElem? (i := 68) rfl)) rfl
theorem wi_t2_69 : Cond.instanceMethod (⟨"java/lang/IllegalArgumentException", "<init>", "(Ljava/lang/String;)V"⟩ : MethodName) ∈ WA := WA_in (tb2 (List.mem_of_getElem? (i := 69) rfl)) rfl
theorem wc_t2_70 : Cond.code (⟨"java/lang/IllegalArgumentException", "<init>", "(Ljava/lang/String;)V"⟩ : MethodName) prog_9_method_2_code (2 : Nat) (Option.none : Option Jvm.ClassFile.FieldType) ∈ WA := WA_in (tb2 (List.mem_of_getElem? (i := 70) rfl)) rfl
theorem wl_t2_72 : Cond.lays "java/lang/IllegalArgumentException" "java/lang/Throwable" "depth" "I" ∈ WA := WA_in (tb2 (List.mem_of_getElem? (i := 72) rfl)) rfl
theorem wo_superclass_t2_73 : Cond.superclass "java/lang/IllegalArgumentException" "java/lang/RuntimeException" ∈ WA := WA_in (tb2 (List.mem_of_getElem? (i := 73) rfl)) rfl
theorem wm_X2_42 : Cond.methodLink RX2 42 yX2_rowOf ∈ WA := WA_in (tb2 (List.mem_of_getElem? (i := 74) rfl)) rfl
theorem wo_privateMethod_t2_75 : Cond.privateMethod yX2_rowOf ∈ lw_tbl := tb2 (List.mem_of_getElem? (i := 75) rfl)
theorem wi_X2_rowOf : Cond.instanceMethod yX2_rowOf ∈ WA := WA_in (tb2 (List.mem_of_getElem? (i := 76) rfl)) rfl
theorem wc_X2_rowOf : Cond.code yX2_rowOf cX2_rowOf 4 (Option.some (Jvm.ClassFile.FieldType.object "Splityard$Row")) ∈ WA := WA_in (tb2 (List.mem_of_getElem? (i := 77) rfl)) rfl
theorem wm_X2_167 : Cond.methodLink RX2 167 yX2_indexIn ∈ WA := WA_in (tb2 (List.mem_of_getElem? (i := 78) rfl)) rfl
theorem wst_X2_indexIn : Cond.static yX2_indexIn ∈ WA := WA_in (tb2 (List.mem_of_getElem? (i := 79) rfl)) rfl
theorem wc_X2_indexIn : Cond.code yX2_indexIn cX2_indexIn 3 (Option.some Jvm.ClassFile.FieldType.int) ∈ WA := WA_in (tb2 (List.mem_of_getElem? (i := 80) rfl)) rfl
theorem wstr_X2_213 : Cond.stringRef RX2 213 "no such kind" ∈ lw_tbl := tb2 (List.mem_of_getElem? (i := 81) rfl)
theorem wcl_X2_67 : Cond.classLink RX2 67 "java/lang/IndexOutOfBoundsException" ∈ WA := WA_in (tb2 (List.mem_of_getElem? (i := 82) rfl)) rfl
theorem wins_java_lang_IndexOutOfBoundsException : Cond.instantiable "java/lang/IndexOutOfBoundsException" 6 ∈ WA := WA_in (tb2 (List.mem_of_getElem? (i := 83) rfl)) rfl
theorem wo_castable_t2_84 : Cond.castable "java/lang/IndexOutOfBoundsException" "java/lang/IndexOutOfBoundsException" ∈ lw_tbl := tb2 (List.mem_of_getElem? (i := 84) rfl)
theorem wse_t2_85 : Cond.selects "java/lang/IndexOutOfBoundsException" (⟨"java/lang/Throwable", "fillInStackTrace", "(I)Ljava/lang/Throwable;"⟩ : MethodName) (⟨"java/lang/Throwable", "fillInStackTrace", "(I)Ljava/lang/Throwable;"⟩ : MethodName) ∈ WA := WA_in (tb2 (List.mem_of_getElem? (i := 85) rfl)) rfl
theorem wl_t2_86 : Cond.lays "java/lang/IndexOutOfBoundsException" "java/lang/Throwable" "cause" "Ljava/lang/Throwable;" ∈ WA := WA_in (tb2 (List.mem_of_getElem? (i := 86) rfl)) rfl
theorem wl_t2_87 : Cond.lays "java/lang/IndexOutOfBoundsException" "java/lang/Throwable" "stackTrace" "[Ljava/lang/StackTraceElement;" ∈ WA := WA_in (tb2 (List.mem_of_getElem? (i := 87) rfl)) rfl
theorem wl_t2_88 : Cond.lays "java/lang/IndexOutOfBoundsException" "java/lang/Throwable" "suppressedExceptions" "Ljava/util/List;" ∈ WA := WA_in (tb2 (List.mem_of_getElem? (i := 88) rfl)) rfl
theorem wl_t2_89 : Cond.lays "java/lang/IndexOutOfBoundsException" "java/lang/Throwable" "detailMessage" "Ljava/lang/String;" ∈ WA := WA_in (tb2 (List.mem_of_getElem? (i := 89) rfl)) rfl
theorem wl_t2_90 : Cond.lays "java/lang/IndexOutOfBoundsException" "java/lang/Throwable" "backtrace" "Ljava/lang/Object;" ∈ WA := WA_in (tb2 (List.mem_of_getElem? (i := 90) rfl)) rfl
theorem wstr_X2_215 : Cond.stringRef RX2 215 "no such row" ∈ lw_tbl := tb2 (List.mem_of_getElem? (i := 91) rfl)
theorem wm_X2_71 : Cond.methodLink RX2 71 (⟨"java/lang/IndexOutOfBoundsException", "<init>", "(Ljava/lang/String;)V"⟩ : MethodName) ∈ WA := WA_in (tb2 (List.mem_of_getElem? (i := 92) rfl)) rfl
theorem wl_t2_93 : Cond.lays "java/lang/IndexOutOfBoundsException" "java/lang/Throwable" "depth" "I" ∈ WA := WA_in (tb2 (List.mem_of_getElem? (i := 93) rfl)) rfl
theorem wo_superclass_t2_94 : Cond.superclass "java/lang/IndexOutOfBoundsException" "java/lang/RuntimeException" ∈ WA := WA_in (tb2 (List.mem_of_getElem? (i := 94) rfl)) rfl
theorem wm_X2_46 : Cond.methodLink RX2 46 yX1_add ∈ WA := WA_in (tb2 (List.mem_of_getElem? (i := 95) rfl)) rfl
theorem wi_X1_add : Cond.instanceMethod yX1_add ∈ WA := WA_in (tb2 (List.mem_of_getElem? (i := 96) rfl)) rfl
theorem wse_X1_add : Cond.selects RX1 yX1_add yX1_add ∈ WA := WA_in (tb2 (List.mem_of_getElem? (i := 97) rfl)) rfl
theorem wc_X1_add : Cond.code yX1_add cX1_add 3 (Option.some Jvm.ClassFile.FieldType.boolean) ∈ WA := WA_in (tb2 (List.mem_of_getElem? (i := 98) rfl)) rfl
theorem wcl_X2_50 : Cond.classLink RX2 50 "java/lang/IllegalStateException" ∈ WA := WA_in (tb2 (List.mem_of_getElem? (i := 99) rfl)) rfl
theorem wins_java_lang_IllegalStateException : Cond.instantiable "java/lang/IllegalStateException" 6 ∈ WA := WA_in (tb2 (List.mem_of_getElem? (i := 100) rfl)) rfl
theorem wo_castable_t2_101 : Cond.castable "java/lang/IllegalStateException" "java/lang/IllegalStateException" ∈ lw_tbl := tb2 (List.mem_of_getElem? (i := 101) rfl)
theorem wse_t2_102 : Cond.selects "java/lang/IllegalStateException" (⟨"java/lang/Throwable", "fillInStackTrace", "(I)Ljava/lang/Throwable;"⟩ : MethodName) (⟨"java/lang/Throwable", "fillInStackTrace", "(I)Ljava/lang/Throwable;"⟩ : MethodName) ∈ WA := WA_in (tb2 (List.mem_of_getElem? (i := 102) rfl)) rfl
theorem wl_t2_103 : Cond.lays "java/lang/IllegalStateException" "java/lang/Throwable" "cause" "Ljava/lang/Throwable;" ∈ WA := WA_in (tb2 (List.mem_of_getElem? (i := 103) rfl)) rfl
theorem wl_t2_104 : Cond.lays "java/lang/IllegalStateException" "java/lang/Throwable" "stackTrace" "[Ljava/lang/StackTraceElement;" ∈ WA := WA_in (tb2 (List.mem_of_getElem? (i := 104) rfl)) rfl
theorem wl_t2_105 : Cond.lays "java/lang/IllegalStateException" "java/lang/Throwable" "suppressedExceptions" "Ljava/util/List;" ∈ WA := WA_in (tb2 (List.mem_of_getElem? (i := 105) rfl)) rfl
theorem wl_t2_106 : Cond.lays "java/lang/IllegalStateException" "java/lang/Throwable" "detailMessage" "Ljava/lang/String;" ∈ WA := WA_in (tb2 (List.mem_of_getElem? (i := 106) rfl)) rfl
theorem wl_t2_107 : Cond.lays "java/lang/IllegalStateException" "java/lang/Throwable" "backtrace" "Ljava/lang/Object;" ∈ WA := WA_in (tb2 (List.mem_of_getElem? (i := 107) rfl)) rfl
theorem wstr_X2_52 : Cond.stringRef RX2 52 "the row is full" ∈ lw_tbl := tb2 (List.mem_of_getElem? (i := 108) rfl)
theorem wm_X2_54 : Cond.methodLink RX2 54 (⟨"java/lang/IllegalStateException", "<init>", "(Ljava/lang/String;)V"⟩ : MethodName) ∈ WA := WA_in (tb2 (List.mem_of_getElem? (i := 109) rfl)) rfl
theorem wi_t2_110 : Cond.instanceMethod (⟨"java/lang/IllegalStateException", "<init>", "(Ljava/lang/String;)V"⟩ : MethodName) ∈ WA := WA_in (tb2 (List.mem_of_getElem? (i := 110) rfl)) rfl
theorem wc_t2_111 : Cond.code (⟨"java/lang/IllegalStateException", "<init>", "(Ljava/lang/String;)V"⟩ : MethodName) prog_10_method_2_code (2 : Nat) (Option.none : Option Jvm.ClassFile.FieldType) ∈ WA := WA_in (tb2 (List.mem_of_getElem? (i := 111) rfl)) rfl
theorem wl_t2_113 : Cond.lays "java/lang/IllegalStateException" "java/lang/Throwable" "depth" "I" ∈ WA := WA_in (tb2 (List.mem_of_getElem? (i := 113) rfl)) rfl
theorem wo_superclass_t2_114 : Cond.superclass "java/lang/IllegalStateException" "java/lang/RuntimeException" ∈ WA := WA_in (tb2 (List.mem_of_getElem? (i := 114) rfl)) rfl
theorem wm_L_130 : Cond.methodLink RL 130 yL_lay ∈ WA := WA_in (tb2 (List.mem_of_getElem? (i := 115) rfl)) rfl
theorem wst_L_lay : Cond.static yL_lay ∈ WA := WA_in (tb2 (List.mem_of_getElem? (i := 116) rfl)) rfl
theorem wcw_L_lay : Cond.codeWith yL_lay cL_lay 10 (Option.some Jvm.ClassFile.FieldType.int) [((0 : Nat), (16 : Nat), (19 : Nat), (13 : Nat)), ((0 : Nat), (16 : Nat), (23 : Nat), (15 : Nat))] ∈ WA := WA_in (tb2 (List.mem_of_getElem? (i := 117) rfl)) rfl
theorem wm_L_19 : Cond.methodLink RL 19 yX2_lay ∈ WA := WA_in (tb2 (List.mem_of_getElem? (i := 118) rfl)) rfl
theorem wi_X2_lay : Cond.instanceMethod yX2_lay ∈ WA := WA_in (tb2 (List.mem_of_getElem? (i := 119) rfl)) rfl
theorem wse_X2_lay : Cond.selects RX2 yX2_lay yX2_lay ∈ WA := WA_in (tb2 (List.mem_of_getElem? (i := 120) rfl)) rfl
theorem wc_X2_lay : Cond.code yX2_lay cX2_lay 13 (Option.some Jvm.ClassFile.FieldType.int) ∈ WA := WA_in (tb2 (List.mem_of_getElem? (i := 121) rfl)) rfl
theorem wstr_X2_59 : Cond.stringRef RX2 59 "no such length of a row" ∈ lw_tbl := tb2 (List.mem_of_getElem? (i := 122) rfl)
theorem wm_X2_61 : Cond.methodLink RX2 61 yX1_clear ∈ WA := WA_in (tb2 (List.mem_of_getElem? (i := 123) rfl)) rfl
theorem wi_X1_clear : Cond.instanceMethod yX1_clear ∈ WA := WA_in (tb2 (List.mem_of_getElem? (i := 124) rfl)) rfl
theorem wse_X1_clear : Cond.selects RX1 yX1_clear yX1_clear ∈ WA := WA_in (tb2 (List.mem_of_getElem? (i := 125) rfl)) rfl
theorem wc_X1_clear : Cond.code yX1_clear cX1_clear 1 (Option.none : Option Jvm.ClassFile.FieldType) ∈ WA := WA_in (tb2 (List.mem_of_getElem? (i := 126) rfl)) rfl
theorem wm_L_134 : Cond.methodLink RL 134 yL_turn ∈ WA := WA_in (tb2 (List.mem_of_getElem? (i := 127) rfl)) rfl
theorem wst_L_turn : Cond.static yL_turn ∈ WA := WA_in (tb2 (List.mem_of_getElem? (i := 128) rfl)) rfl
theorem wcw_L_turn : Cond.codeWith yL_turn cL_turn 5 (Option.some Jvm.ClassFile.FieldType.int) [((0 : Nat), (10 : Nat), (13 : Nat), (13 : Nat)), ((0 : Nat), (10 : Nat), (17 : Nat), (15 : Nat))] ∈ WA := WA_in (tb2 (List.mem_of_getElem? (i := 129) rfl)) rfl
theorem wm_L_23 : Cond.methodLink RL 23 yX2_turn ∈ WA := WA_in (tb2 (List.mem_of_getElem? (i := 130) rfl)) rfl
theorem wi_X2_turn : Cond.instanceMethod yX2_turn ∈ WA := WA_in (tb2 (List.mem_of_getElem? (i := 131) rfl)) rfl
theorem wse_X2_turn : Cond.selects RX2 yX2_turn yX2_turn ∈ WA := WA_in (tb2 (List.mem_of_getElem? (i := 132) rfl)) rfl
theorem wc_X2_turn : Cond.code yX2_turn cX2_turn 4 (Option.some Jvm.ClassFile.FieldType.int) ∈ WA := WA_in (tb2 (List.mem_of_getElem? (i := 133) rfl)) rfl
theorem wm_X2_64 : Cond.methodLink RX2 64 yX1_reverse ∈ WA := WA_in (tb2 (List.mem_of_getElem? (i := 134) rfl)) rfl
theorem wi_X1_reverse : Cond.instanceMethod yX1_reverse ∈ WA := WA_in (tb2 (List.mem_of_getElem? (i := 135) rfl)) rfl
theorem wse_X1_reverse : Cond.selects RX1 yX1_reverse yX1_reverse ∈ WA := WA_in (tb2 (List.mem_of_getElem? (i := 136) rfl)) rfl
theorem wc_X1_reverse : Cond.code yX1_reverse cX1_reverse 5 (Option.none : Option Jvm.ClassFile.FieldType) ∈ WA := WA_in (tb2 (List.mem_of_getElem? (i := 137) rfl)) rfl
theorem wm_L_138 : Cond.methodLink RL 138 yL_length ∈ WA := WA_in (tb2 (List.mem_of_getElem? (i := 138) rfl)) rfl
theorem wst_L_length : Cond.static yL_length ∈ WA := WA_in (tb2 (List.mem_of_getElem? (i := 139) rfl)) rfl
theorem wcw_L_length : Cond.codeWith yL_length cL_length 5 (Option.some Jvm.ClassFile.FieldType.int) [((0 : Nat), (10 : Nat), (13 : Nat), (13 : Nat)), ((0 : Nat), (10 : Nat), (17 : Nat), (15 : Nat))] ∈ WA := WA_in (tb2 (List.mem_of_getElem? (i := 140) rfl)) rfl
theorem wm_L_27 : Cond.methodLink RL 27 yX2_length ∈ WA := WA_in (tb2 (List.mem_of_getElem? (i := 141) rfl)) rfl
theorem wi_X2_length : Cond.instanceMethod yX2_length ∈ WA := WA_in (tb2 (List.mem_of_getElem? (i := 142) rfl)) rfl
theorem wse_X2_length : Cond.selects RX2 yX2_length yX2_length ∈ WA := WA_in (tb2 (List.mem_of_getElem? (i := 143) rfl)) rfl
theorem wc_X2_length : Cond.code yX2_length cX2_length 3 (Option.some Jvm.ClassFile.FieldType.int) ∈ WA := WA_in (tb2 (List.mem_of_getElem? (i := 144) rfl)) rfl
theorem wm_L_141 : Cond.methodLink RL 141 yL_number ∈ WA := WA_in (tb2 (List.mem_of_getElem? (i := 145) rfl)) rfl
theorem wst_L_number : Cond.static yL_number ∈ WA := WA_in (tb2 (List.mem_of_getElem? (i := 146) rfl)) rfl
theorem wcw_L_number : Cond.codeWith yL_number cL_number 6 (Option.some Jvm.ClassFile.FieldType.int) [((0 : Nat), (11 : Nat), (14 : Nat), (13 : Nat)), ((0 : Nat), (11 : Nat), (18 : Nat), (15 : Nat))] ∈ WA := WA_in (tb2 (List.mem_of_getElem? (i := 147) rfl)) rfl
theorem wm_L_30 : Cond.methodLink RL 30 yX2_number ∈ WA := WA_in (tb2 (List.mem_of_getElem? (i := 148) rfl)) rfl
theorem wi_X2_number : Cond.instanceMethod yX2_number ∈ WA := WA_in (tb2 (List.mem_of_getElem? (i := 149) rfl)) rfl
theorem wse_X2_number : Cond.selects RX2 yX2_number yX2_number ∈ WA := WA_in (tb2 (List.mem_of_getElem? (i := 150) rfl)) rfl
theorem wc_X2_number : Cond.code yX2_number cX2_number 5 (Option.some Jvm.ClassFile.FieldType.long) ∈ WA := WA_in (tb2 (List.mem_of_getElem? (i := 151) rfl)) rfl
theorem wstr_X2_69 : Cond.stringRef RX2 69 "no such place" ∈ lw_tbl := tb2 (List.mem_of_getElem? (i := 152) rfl)
theorem wm_L_145 : Cond.methodLink RL 145 yL_open ∈ WA := WA_in (tb2 (List.mem_of_getElem? (i := 153) rfl)) rfl
theorem wst_L_open : Cond.static yL_open ∈ WA := WA_in (tb2 (List.mem_of_getElem? (i := 154) rfl)) rfl
theorem wcw_L_open : Cond.codeWith yL_open cL_open 8 (Option.some Jvm.ClassFile.FieldType.int) [((0 : Nat), (16 : Nat), (19 : Nat), (13 : Nat)), ((0 : Nat), (16 : Nat), (23 : Nat), (15 : Nat))] ∈ WA := WA_in (tb2 (List.mem_of_getElem? (i := 155) rfl)) rfl
theorem wm_L_34 : Cond.methodLink RL 34 yX2_open ∈ WA := WA_in (tb2 (List.mem_of_getElem? (i := 156) rfl)) rfl
theorem wi_X2_open : Cond.instanceMethod yX2_open ∈ WA := WA_in (tb2 (List.mem_of_getElem? (i := 157) rfl)) rfl
theorem wse_X2_open : Cond.selects RX2 yX2_open yX2_open ∈ WA := WA_in (tb2 (List.mem_of_getElem? (i := 158) rfl)) rfl
theorem wc_X2_open : Cond.code yX2_open cX2_open 8 (Option.some Jvm.ClassFile.FieldType.int) ∈ WA := WA_in (tb2 (List.mem_of_getElem? (i := 159) rfl)) rfl
theorem wm_X2_76 : Cond.methodLink RX2 76 yX2_benchAt ∈ WA := WA_in (tb2 (List.mem_of_getElem? (i := 160) rfl)) rfl
theorem wo_privateMethod_t2_161 : Cond.privateMethod yX2_benchAt ∈ lw_tbl := tb2 (List.mem_of_getElem? (i := 161) rfl)
theorem wi_X2_benchAt : Cond.instanceMethod yX2_benchAt ∈ WA := WA_in (tb2 (List.mem_of_getElem? (i := 162) rfl)) rfl
theorem wc_X2_benchAt : Cond.code yX2_benchAt cX2_benchAt 2 (Option.some (Jvm.ClassFile.FieldType.object "Splityard$Bench")) ∈ WA := WA_in (tb2 (List.mem_of_getElem? (i := 163) rfl)) rfl
theorem wstr_X2_217 : Cond.stringRef RX2 217 "no such bench" ∈ lw_tbl := tb2 (List.mem_of_getElem? (i := 164) rfl)
theorem wstr_X2_80 : Cond.stringRef RX2 80 "no such part" ∈ lw_tbl := tb2 (List.mem_of_getElem? (i := 165) rfl)
theorem wm_L_149 : Cond.methodLink RL 149 yL_openAll ∈ WA := WA_in (tb2 (List.mem_of_getElem? (i := 166) rfl)) rfl
theorem wst_L_openAll : Cond.static yL_openAll ∈ WA := WA_in (tb2 (List.mem_of_getElem? (i := 167) rfl)) rfl
theorem wcw_L_openAll : Cond.codeWith yL_openAll cL_openAll 6 (Option.some Jvm.ClassFile.FieldType.int) [((0 : Nat), (12 : Nat), (15 : Nat), (13 : Nat)), ((0 : Nat), (12 : Nat), (19 : Nat), (15 : Nat))] ∈ WA := WA_in (tb2 (List.mem_of_getElem? (i := 168) rfl)) rfl
theorem wm_L_38 : Cond.methodLink RL 38 yX2_openAll ∈ WA := WA_in (tb2 (List.mem_of_getElem? (i := 169) rfl)) rfl
theorem wi_X2_openAll : Cond.instanceMethod yX2_openAll ∈ WA := WA_in (tb2 (List.mem_of_getElem? (i := 170) rfl)) rfl
theorem wse_X2_openAll : Cond.selects RX2 yX2_openAll yX2_openAll ∈ WA := WA_in (tb2 (List.mem_of_getElem? (i := 171) rfl)) rfl
theorem wc_X2_openAll : Cond.code yX2_openAll cX2_openAll 6 (Option.some Jvm.ClassFile.FieldType.int) ∈ WA := WA_in (tb2 (List.mem_of_getElem? (i := 172) rfl)) rfl
theorem wm_L_153 : Cond.methodLink RL 153 yL_items ∈ WA := WA_in (tb2 (List.mem_of_getElem? (i := 173) rfl)) rfl
theorem wst_L_items : Cond.static yL_items ∈ WA := WA_in (tb2 (List.mem_of_getElem? (i := 174) rfl)) rfl
theorem wcw_L_items : Cond.codeWith yL_items cL_items 4 (Option.some Jvm.ClassFile.FieldType.int) [((0 : Nat), (9 : Nat), (12 : Nat), (15 : Nat))] ∈ WA := WA_in (tb2 (List.mem_of_getElem? (i := 175) rfl)) rfl
theorem wm_L_42 : Cond.methodLink RL 42 yX2_items ∈ WA := WA_in (tb2 (List.mem_of_getElem? (i := 176) rfl)) rfl
theorem wi_X2_items : Cond.instanceMethod yX2_items ∈ WA := WA_in (tb2 (List.mem_of_getElem? (i := 177) rfl)) rfl
theorem wse_X2_items : Cond.selects RX2 yX2_items yX2_items ∈ WA := WA_in (tb2 (List.mem_of_getElem? (i := 178) rfl)) rfl
theorem wc_X2_items : Cond.code yX2_items cX2_items 2 (Option.some Jvm.ClassFile.FieldType.int) ∈ WA := WA_in (tb2 (List.mem_of_getElem? (i := 179) rfl)) rfl
theorem wm_L_157 : Cond.methodLink RL 157 yL_kindOf ∈ WA := WA_in (tb2 (List.mem_of_getElem? (i := 180) rfl)) rfl
theorem wst_L_kindOf : Cond.static yL_kindOf ∈ WA := WA_in (tb2 (List.mem_of_getElem? (i := 181) rfl)) rfl
theorem wcw_L_kindOf : Cond.codeWith yL_kindOf cL_kindOf 5 (Option.some Jvm.ClassFile.FieldType.int) [((0 : Nat), (10 : Nat), (13 : Nat), (15 : Nat))] ∈ WA := WA_in (tb2 (List.mem_of_getElem? (i := 182) rfl)) rfl
theorem wm_L_46 : Cond.methodLink RL 46 yX2_kindOf ∈ WA := WA_in (tb2 (List.mem_of_getElem? (i := 183) rfl)) rfl
theorem wi_X2_kindOf : Cond.instanceMethod yX2_kindOf ∈ WA := WA_in (tb2 (List.mem_of_getElem? (i := 184) rfl)) rfl
theorem wse_X2_kindOf : Cond.selects RX2 yX2_kindOf yX2_kindOf ∈ WA := WA_in (tb2 (List.mem_of_getElem? (i := 185) rfl)) rfl
theorem wc_X2_kindOf : Cond.code yX2_kindOf cX2_kindOf 3 (Option.some Jvm.ClassFile.FieldType.char) ∈ WA := WA_in (tb2 (List.mem_of_getElem? (i := 186) rfl)) rfl
theorem wm_X2_90 : Cond.methodLink RX2 90 yX2_benchWithItem ∈ WA := WA_in (tb2 (List.mem_of_getElem? (i := 187) rfl)) rfl
theorem wo_privateMethod_t2_188 : Cond.privateMethod yX2_benchWithItem ∈ lw_tbl := tb2 (List.mem_of_getElem? (i := 188) rfl)
theorem wi_X2_benchWithItem : Cond.instanceMethod yX2_benchWithItem ∈ WA := WA_in (tb2 (List.mem_of_getElem? (i := 189) rfl)) rfl
theorem wc_X2_benchWithItem : Cond.code yX2_benchWithItem cX2_benchWithItem 4 (Option.some (Jvm.ClassFile.FieldType.object "Splityard$Bench")) ∈ WA := WA_in (tb2 (List.mem_of_getElem? (i := 190) rfl)) rfl
theorem wstr_X2_219 : Cond.stringRef RX2 219 "no such item" ∈ lw_tbl := tb2 (List.mem_of_getElem? (i := 191) rfl)
theorem wm_L_161 : Cond.methodLink RL 161 yL_given ∈ WA := WA_in (tb2 (List.mem_of_getElem? (i := 192) rfl)) rfl
theorem wst_L_given : Cond.static yL_given ∈ WA := WA_in (tb2 (List.mem_of_getElem? (i := 193) rfl)) rfl
theorem wcw_L_given : Cond.codeWith yL_given cL_given 5 (Option.some Jvm.ClassFile.FieldType.int) [((0 : Nat), (9 : Nat), (12 : Nat), (15 : Nat)), ((0 : Nat), (9 : Nat), (16 : Nat), (17 : Nat))] ∈ WA := WA_in (tb2 (List.mem_of_getElem? (i := 194) rfl)) rfl
theorem wm_L_50 : Cond.methodLink RL 50 yX2_given ∈ WA := WA_in (tb2 (List.mem_of_getElem? (i := 195) rfl)) rfl
theorem wi_X2_given : Cond.instanceMethod yX2_given ∈ WA := WA_in (tb2 (List.mem_of_getElem? (i := 196) rfl)) rfl
theorem wse_X2_given : Cond.selects RX2 yX2_given yX2_given ∈ WA := WA_in (tb2 (List.mem_of_getElem? (i := 197) rfl)) rfl
theorem wc_X2_given : Cond.code yX2_given cX2_given 4 (Option.some Jvm.ClassFile.FieldType.long) ∈ WA := WA_in (tb2 (List.mem_of_getElem? (i := 198) rfl)) rfl
theorem wm_X2_98 : Cond.methodLink RX2 98 yX0_isNumber ∈ WA := WA_in (tb2 (List.mem_of_getElem? (i := 199) rfl)) rfl
theorem wstr_X2_102 : Cond.stringRef RX2 102 "the item is a piece" ∈ lw_tbl := tb2 (List.mem_of_getElem? (i := 200) rfl)
theorem wm_L_164 : Cond.methodLink RL 164 yL_left ∈ WA := WA_in (tb2 (List.mem_of_getElem? (i := 201) rfl)) rfl
theorem wst_L_left : Cond.static yL_left ∈ WA := WA_in (tb2 (List.mem_of_getElem? (i := 202) rfl)) rfl
theorem wcw_L_left : Cond.codeWith yL_left cL_left 5 (Option.some Jvm.ClassFile.FieldType.int) [((0 : Nat), (10 : Nat), (13 : Nat), (15 : Nat)), ((0 : Nat), (10 : Nat), (17 : Nat), (17 : Nat))] ∈ WA := WA_in (tb2 (List.mem_of_getElem? (i := 203) rfl)) rfl
theorem wm_L_54 : Cond.methodLink RL 54 yX2_left ∈ WA := WA_in (tb2 (List.mem_of_getElem? (i := 204) rfl)) rfl
theorem wi_X2_left : Cond.instanceMethod yX2_left ∈ WA := WA_in (tb2 (List.mem_of_getElem? (i := 205) rfl)) rfl
theorem wse_X2_left : Cond.selects RX2 yX2_left yX2_left ∈ WA := WA_in (tb2 (List.mem_of_getElem? (i := 206) rfl)) rfl
theorem wc_X2_left : Cond.code yX2_left cX2_left 3 (Option.some Jvm.ClassFile.FieldType.int) ∈ WA := WA_in (tb2 (List.mem_of_getElem? (i := 207) rfl)) rfl
theorem wm_X2_108 : Cond.methodLink RX2 108 yX2_benchWithAnyPiece ∈ WA := WA_in (tb2 (List.mem_of_getElem? (i := 208) rfl)) rfl
theorem wo_privateMethod_t2_209 : Cond.privateMethod yX2_benchWithAnyPiece ∈ lw_tbl := tb2 (List.mem_of_getElem? (i := 209) rfl)
theorem wi_X2_benchWithAnyPiece : Cond.instanceMethod yX2_benchWithAnyPiece ∈ WA := WA_in (tb2 (List.mem_of_getElem? (i := 210) rfl)) rfl
theorem wc_X2_benchWithAnyPiece : Cond.code yX2_benchWithAnyPiece cX2_benchWithAnyPiece 4 (Option.some (Jvm.ClassFile.FieldType.object "Splityard$Bench")) ∈ WA := WA_in (tb2 (List.mem_of_getElem? (i := 211) rfl)) rfl
theorem wstr_X2_221 : Cond.stringRef RX2 221 "the item is a number" ∈ lw_tbl := tb2 (List.mem_of_getElem? (i := 212) rfl)
theorem wm_X2_111 : Cond.methodLink RX2 111 yX0_remaining ∈ WA := WA_in (tb2 (List.mem_of_getElem? (i := 213) rfl)) rfl
theorem wm_L_167 : Cond.methodLink RL 167 yL_ahead ∈ WA := WA_in (tb2 (List.mem_of_getElem? (i := 214) rfl)) rfl
theorem wst_L_ahead : Cond.static yL_ahead ∈ WA := WA_in (tb2 (List.mem_of_getElem? (i := 215) rfl)) rfl
theorem wcw_L_ahead : Cond.codeWith yL_ahead cL_ahead 5 (Option.some Jvm.ClassFile.FieldType.int) [((0 : Nat), (10 : Nat), (13 : Nat), (15 : Nat))] ∈ WA := WA_in (tb2 (List.mem_of_getElem? (i := 216) rfl)) rfl
theorem wm_L_58 : Cond.methodLink RL 58 yX2_ahead ∈ WA := WA_in (tb2 (List.mem_of_getElem? (i := 217) rfl)) rfl
theorem wi_X2_ahead : Cond.instanceMethod yX2_ahead ∈ WA := WA_in (tb2 (List.mem_of_getElem? (i := 218) rfl)) rfl
theorem wse_X2_ahead : Cond.selects RX2 yX2_ahead yX2_ahead ∈ WA := WA_in (tb2 (List.mem_of_getElem? (i := 219) rfl)) rfl
theorem wc_X2_ahead : Cond.code yX2_ahead cX2_ahead 3 (Option.some Jvm.ClassFile.FieldType.int) ∈ WA := WA_in (tb2 (List.mem_of_getElem? (i := 220) rfl)) rfl
theorem wm_X2_115 : Cond.methodLink RX2 115 yX0_placeOf ∈ WA := WA_in (tb2 (List.mem_of_getElem? (i := 221) rfl)) rfl
theorem wi_X0_placeOf : Cond.instanceMethod yX0_placeOf ∈ WA := WA_in (tb2 (List.mem_of_getElem? (i := 222) rfl)) rfl
theorem wse_X0_placeOf : Cond.selects RX0 yX0_placeOf yX0_placeOf ∈ WA := WA_in (tb2 (List.mem_of_getElem? (i := 223) rfl)) rfl
theorem wc_X0_placeOf : Cond.code yX0_placeOf cX0_placeOf 4 (Option.some Jvm.ClassFile.FieldType.int) ∈ WA := WA_in (tb2 (List.mem_of_getElem? (i := 224) rfl)) rfl
theorem wm_L_170 : Cond.methodLink RL 170 yL_has ∈ WA := WA_in (tb2 (List.mem_of_getElem? (i := 225) rfl)) rfl
theorem wst_L_has : Cond.static yL_has ∈ WA := WA_in (tb2 (List.mem_of_getElem? (i := 226) rfl)) rfl
theorem wcw_L_has : Cond.codeWith yL_has cL_has 6 (Option.some Jvm.ClassFile.FieldType.int) [((0 : Nat), (19 : Nat), (22 : Nat), (15 : Nat)), ((0 : Nat), (19 : Nat), (26 : Nat), (17 : Nat)), ((0 : Nat), (19 : Nat), (30 : Nat), (13 : Nat))] ∈ WA := WA_in (tb2 (List.mem_of_getElem? (i := 227) rfl)) rfl
theorem wm_L_61 : Cond.methodLink RL 61 yX2_has ∈ WA := WA_in (tb2 (List.mem_of_getElem? (i := 228) rfl)) rfl
theorem wi_X2_has : Cond.instanceMethod yX2_has ∈ WA := WA_in (tb2 (List.mem_of_getElem? (i := 229) rfl)) rfl
theorem wse_X2_has : Cond.selects RX2 yX2_has yX2_has ∈ WA := WA_in (tb2 (List.mem_of_getElem? (i := 230) rfl)) rfl
theorem wc_X2_has : Cond.code yX2_has cX2_has 6 (Option.some Jvm.ClassFile.FieldType.boolean) ∈ WA := WA_in (tb2 (List.mem_of_getElem? (i := 231) rfl)) rfl
theorem wm_X2_118 : Cond.methodLink RX2 118 yX2_benchWithPiece ∈ WA := WA_in (tb2 (List.mem_of_getElem? (i := 232) rfl)) rfl
theorem wo_privateMethod_t2_233 : Cond.privateMethod yX2_benchWithPiece ∈ lw_tbl := tb2 (List.mem_of_getElem? (i := 233) rfl)
theorem wi_X2_benchWithPiece : Cond.instanceMethod yX2_benchWithPiece ∈ WA := WA_in (tb2 (List.mem_of_getElem? (i := 234) rfl)) rfl
theorem wc_X2_benchWithPiece : Cond.code yX2_benchWithPiece cX2_benchWithPiece 4 (Option.some (Jvm.ClassFile.FieldType.object "Splityard$Bench")) ∈ WA := WA_in (tb2 (List.mem_of_getElem? (i := 235) rfl)) rfl
theorem wstr_X2_223 : Cond.stringRef RX2 223 "the item is a number or an iterator" ∈ lw_tbl := tb2 (List.mem_of_getElem? (i := 236) rfl)
theorem wm_X2_121 : Cond.methodLink RX2 121 yX2_characteristicsOf ∈ WA := WA_in (tb2 (List.mem_of_getElem? (i := 237) rfl)) rfl
theorem wst_X2_characteristicsOf : Cond.static yX2_characteristicsOf ∈ WA := WA_in (tb2 (List.mem_of_getElem? (i := 238) rfl)) rfl
theorem wc_X2_characteristicsOf : Cond.code yX2_characteristicsOf cX2_characteristicsOf 1 (Option.some Jvm.ClassFile.FieldType.int) ∈ WA := WA_in (tb2 (List.mem_of_getElem? (i := 239) rfl)) rfl
theorem wstr_X2_125 : Cond.stringRef RX2 125 "no such characteristic" ∈ lw_tbl := tb3 (List.mem_of_getElem? (i := 0) rfl)
theorem wm_X2_127 : Cond.methodLink RX2 127 yX0_hasAll ∈ WA := WA_in (tb3 (List.mem_of_getElem? (i := 1) rfl)) rfl
theorem wm_L_174 : Cond.methodLink RL 174 yL_isExact ∈ WA := WA_in (tb3 (List.mem_of_getElem? (i := 2) rfl)) rfl
theorem wst_L_isExact : Cond.static yL_isExact ∈ WA := WA_in (tb3 (List.mem_of_getElem? (i := 3) rfl)) rfl
theorem wcw_L_isExact : Cond.codeWith yL_isExact cL_isExact 5 (Option.some Jvm.ClassFile.FieldType.int) [((0 : Nat), (17 : Nat), (20 : Nat), (15 : Nat)), ((0 : Nat), (17 : Nat), (24 : Nat), (17 : Nat))] ∈ WA := WA_in (tb3 (List.mem_of_getElem? (i := 4) rfl)) rfl
theorem wm_L_65 : Cond.methodLink RL 65 yX2_isExact ∈ WA := WA_in (tb3 (List.mem_of_getElem? (i := 5) rfl)) rfl
theorem wi_X2_isExact : Cond.instanceMethod yX2_isExact ∈ WA := WA_in (tb3 (List.mem_of_getElem? (i := 6) rfl)) rfl
theorem wse_X2_isExact : Cond.selects RX2 yX2_isExact yX2_isExact ∈ WA := WA_in (tb3 (List.mem_of_getElem? (i := 7) rfl)) rfl
theorem wc_X2_isExact : Cond.code yX2_isExact cX2_isExact 3 (Option.some Jvm.ClassFile.FieldType.boolean) ∈ WA := WA_in (tb3 (List.mem_of_getElem? (i := 8) rfl)) rfl
theorem wm_L_177 : Cond.methodLink RL 177 yL_split ∈ WA := WA_in (tb3 (List.mem_of_getElem? (i := 9) rfl)) rfl
theorem wst_L_split : Cond.static yL_split ∈ WA := WA_in (tb3 (List.mem_of_getElem? (i := 10) rfl)) rfl
theorem wcw_L_split : Cond.codeWith yL_split cL_split 5 (Option.some Jvm.ClassFile.FieldType.int) [((0 : Nat), (10 : Nat), (13 : Nat), (15 : Nat)), ((0 : Nat), (10 : Nat), (17 : Nat), (17 : Nat))] ∈ WA := WA_in (tb3 (List.mem_of_getElem? (i := 11) rfl)) rfl
theorem wm_L_69 : Cond.methodLink RL 69 yX2_split ∈ WA := WA_in (tb3 (List.mem_of_getElem? (i := 12) rfl)) rfl
theorem wi_X2_split : Cond.instanceMethod yX2_split ∈ WA := WA_in (tb3 (List.mem_of_getElem? (i := 13) rfl)) rfl
theorem wse_X2_split : Cond.selects RX2 yX2_split yX2_split ∈ WA := WA_in (tb3 (List.mem_of_getElem? (i := 14) rfl)) rfl
theorem wc_X2_split : Cond.code yX2_split cX2_split 3 (Option.some Jvm.ClassFile.FieldType.int) ∈ WA := WA_in (tb3 (List.mem_of_getElem? (i := 15) rfl)) rfl
theorem wm_X2_131 : Cond.methodLink RX2 131 yX0_halve ∈ WA := WA_in (tb3 (List.mem_of_getElem? (i := 16) rfl)) rfl
theorem wm_L_180 : Cond.methodLink RL 180 yL_step ∈ WA := WA_in (tb3 (List.mem_of_getElem? (i := 17) rfl)) rfl
theorem wst_L_step : Cond.static yL_step ∈ WA := WA_in (tb3 (List.mem_of_getElem? (i := 18) rfl)) rfl
theorem wcw_L_step : Cond.codeWith yL_step cL_step 5 (Option.some Jvm.ClassFile.FieldType.int) [((0 : Nat), (17 : Nat), (20 : Nat), (15 : Nat)), ((0 : Nat), (17 : Nat), (24 : Nat), (17 : Nat))] ∈ WA := WA_in (tb3 (List.mem_of_getElem? (i := 19) rfl)) rfl
theorem wm_L_72 : Cond.methodLink RL 72 yX2_step ∈ WA := WA_in (tb3 (List.mem_of_getElem? (i := 20) rfl)) rfl
theorem wi_X2_step : Cond.instanceMethod yX2_step ∈ WA := WA_in (tb3 (List.mem_of_getElem? (i := 21) rfl)) rfl
theorem wse_X2_step : Cond.selects RX2 yX2_step yX2_step ∈ WA := WA_in (tb3 (List.mem_of_getElem? (i := 22) rfl)) rfl
theorem wc_X2_step : Cond.code yX2_step cX2_step 3 (Option.some Jvm.ClassFile.FieldType.boolean) ∈ WA := WA_in (tb3 (List.mem_of_getElem? (i := 23) rfl)) rfl
theorem wm_X2_134 : Cond.methodLink RX2 134 yX0_give ∈ WA := WA_in (tb3 (List.mem_of_getElem? (i := 24) rfl)) rfl
theorem wi_X0_give : Cond.instanceMethod yX0_give ∈ WA := WA_in (tb3 (List.mem_of_getElem? (i := 25) rfl)) rfl
theorem wse_X0_give : Cond.selects RX0 yX0_give yX0_give ∈ WA := WA_in (tb3 (List.mem_of_getElem? (i := 26) rfl)) rfl
theorem wc_X0_give : Cond.code yX0_give cX0_give 6 (Option.some Jvm.ClassFile.FieldType.int) ∈ WA := WA_in (tb3 (List.mem_of_getElem? (i := 27) rfl)) rfl
theorem wm_X0_70 : Cond.methodLink RX0 70 yJ9_min_7cf53 ∈ WA := WA_in (tb3 (List.mem_of_getElem? (i := 28) rfl)) rfl
theorem wst_J9_min_7cf53 : Cond.static yJ9_min_7cf53 ∈ WA := WA_in (tb3 (List.mem_of_getElem? (i := 29) rfl)) rfl
theorem wc_J9_min_7cf53 : Cond.code yJ9_min_7cf53 cJ9_min_7cf53 2 (Option.some Jvm.ClassFile.FieldType.int) ∈ WA := WA_in (tb3 (List.mem_of_getElem? (i := 30) rfl)) rfl
theorem wm_X0_76 : Cond.methodLink RX0 76 yX0_partAt ∈ WA := WA_in (tb3 (List.mem_of_getElem? (i := 31) rfl)) rfl
theorem wo_privateMethod_t3_32 : Cond.privateMethod yX0_partAt ∈ lw_tbl := tb3 (List.mem_of_getElem? (i := 32) rfl)
theorem wi_X0_partAt : Cond.instanceMethod yX0_partAt ∈ WA := WA_in (tb3 (List.mem_of_getElem? (i := 33) rfl)) rfl
theorem wc_X0_partAt : Cond.code yX0_partAt cX0_partAt 2 (Option.some Jvm.ClassFile.FieldType.long) ∈ WA := WA_in (tb3 (List.mem_of_getElem? (i := 34) rfl)) rfl
theorem wm_X0_79 : Cond.methodLink RX0 79 yX0_putNumber ∈ WA := WA_in (tb3 (List.mem_of_getElem? (i := 35) rfl)) rfl
theorem wo_privateMethod_t3_36 : Cond.privateMethod yX0_putNumber ∈ lw_tbl := tb3 (List.mem_of_getElem? (i := 36) rfl)
theorem wi_X0_putNumber : Cond.instanceMethod yX0_putNumber ∈ WA := WA_in (tb3 (List.mem_of_getElem? (i := 37) rfl)) rfl
theorem wc_X0_putNumber : Cond.code yX0_putNumber cX0_putNumber 4 (Option.none : Option Jvm.ClassFile.FieldType) ∈ WA := WA_in (tb3 (List.mem_of_getElem? (i := 38) rfl)) rfl
theorem wm_L_183 : Cond.methodLink RL 183 yL_drain ∈ WA := WA_in (tb3 (List.mem_of_getElem? (i := 39) rfl)) rfl
theorem wst_L_drain : Cond.static yL_drain ∈ WA := WA_in (tb3 (List.mem_of_getElem? (i := 40) rfl)) rfl
theorem wcw_L_drain : Cond.codeWith yL_drain cL_drain 5 (Option.some Jvm.ClassFile.FieldType.int) [((0 : Nat), (10 : Nat), (13 : Nat), (15 : Nat)), ((0 : Nat), (10 : Nat), (17 : Nat), (17 : Nat))] ∈ WA := WA_in (tb3 (List.mem_of_getElem? (i := 41) rfl)) rfl
theorem wm_L_75 : Cond.methodLink RL 75 yX2_drain ∈ WA := WA_in (tb3 (List.mem_of_getElem? (i := 42) rfl)) rfl
theorem wi_X2_drain : Cond.instanceMethod yX2_drain ∈ WA := WA_in (tb3 (List.mem_of_getElem? (i := 43) rfl)) rfl
theorem wse_X2_drain : Cond.selects RX2 yX2_drain yX2_drain ∈ WA := WA_in (tb3 (List.mem_of_getElem? (i := 44) rfl)) rfl
theorem wc_X2_drain : Cond.code yX2_drain cX2_drain 3 (Option.some Jvm.ClassFile.FieldType.int) ∈ WA := WA_in (tb3 (List.mem_of_getElem? (i := 45) rfl)) rfl
theorem wm_L_186 : Cond.methodLink RL 186 yL_iterate ∈ WA := WA_in (tb3 (List.mem_of_getElem? (i := 46) rfl)) rfl
theorem wst_L_iterate : Cond.static yL_iterate ∈ WA := WA_in (tb3 (List.mem_of_getElem? (i := 47) rfl)) rfl
theorem wcw_L_iterate : Cond.codeWith yL_iterate cL_iterate 5 (Option.some Jvm.ClassFile.FieldType.int) [((0 : Nat), (10 : Nat), (13 : Nat), (15 : Nat)), ((0 : Nat), (10 : Nat), (17 : Nat), (17 : Nat)), ((0 : Nat), (10 : Nat), (21 : Nat), (81 : Nat))] ∈ WA := WA_in (tb3 (List.mem_of_getElem? (i := 48) rfl)) rfl
theorem wcl_L_81 : Cond.classLink RL 81 "java/lang/UnsupportedOperationException" ∈ WA := WA_in (tb3 (List.mem_of_getElem? (i := 49) rfl)) rfl
theorem wm_L_78 : Cond.methodLink RL 78 yX2_iterate ∈ WA := WA_in (tb3 (List.mem_of_getElem? (i := 50) rfl)) rfl
theorem wi_X2_iterate : Cond.instanceMethod yX2_iterate ∈ WA := WA_in (tb3 (List.mem_of_getElem? (i := 51) rfl)) rfl
theorem wse_X2_iterate : Cond.selects RX2 yX2_iterate yX2_iterate ∈ WA := WA_in (tb3 (List.mem_of_getElem? (i := 52) rfl)) rfl
theorem wc_X2_iterate : Cond.code yX2_iterate cX2_iterate 4 (Option.some Jvm.ClassFile.FieldType.int) ∈ WA := WA_in (tb3 (List.mem_of_getElem? (i := 53) rfl)) rfl
theorem wcl_X2_142 : Cond.classLink RX2 142 "java/lang/UnsupportedOperationException" ∈ WA := WA_in (tb3 (List.mem_of_getElem? (i := 54) rfl)) rfl
theorem wins_java_lang_UnsupportedOperationException : Cond.instantiable "java/lang/UnsupportedOperationException" 6 ∈ WA := WA_in (tb3 (List.mem_of_getElem? (i := 55) rfl)) rfl
theorem wo_castable_t3_56 : Cond.castable "java/lang/UnsupportedOperationException" "java/lang/UnsupportedOperationException" ∈ lw_tbl := tb3 (List.mem_of_getElem? (i := 56) rfl)
theorem wse_t3_57 : Cond.selects "java/lang/UnsupportedOperationException" (⟨"java/lang/Throwable", "fillInStackTrace", "(I)Ljava/lang/Throwable;"⟩ : MethodName) (⟨"java/lang/Throwable", "fillInStackTrace", "(I)Ljava/lang/Throwable;"⟩ : MethodName) ∈ WA := WA_in (tb3 (List.mem_of_getElem? (i := 57) rfl)) rfl
theorem wl_t3_58 : Cond.lays "java/lang/UnsupportedOperationException" "java/lang/Throwable" "cause" "Ljava/lang/Throwable;" ∈ WA := WA_in (tb3 (List.mem_of_getElem? (i := 58) rfl)) rfl
theorem wl_t3_59 : Cond.lays "java/lang/UnsupportedOperationException" "java/lang/Throwable" "stackTrace" "[Ljava/lang/StackTraceElement;" ∈ WA := WA_in (tb3 (List.mem_of_getElem? (i := 59) rfl)) rfl
theorem wl_t3_60 : Cond.lays "java/lang/UnsupportedOperationException" "java/lang/Throwable" "suppressedExceptions" "Ljava/util/List;" ∈ WA := WA_in (tb3 (List.mem_of_getElem? (i := 60) rfl)) rfl
theorem wl_t3_61 : Cond.lays "java/lang/UnsupportedOperationException" "java/lang/Throwable" "detailMessage" "Ljava/lang/String;" ∈ WA := WA_in (tb3 (List.mem_of_getElem? (i := 61) rfl)) rfl
theorem wl_t3_62 : Cond.lays "java/lang/UnsupportedOperationException" "java/lang/Throwable" "backtrace" "Ljava/lang/Object;" ∈ WA := WA_in (tb3 (List.mem_of_getElem? (i := 62) rfl)) rfl
theorem wstr_X2_144 : Cond.stringRef RX2 144 "no iterator over a piece of a row of Integer" ∈ lw_tbl := tb3 (List.mem_of_getElem? (i := 63) rfl)
theorem wm_X2_146 : Cond.methodLink RX2 146 (⟨"java/lang/UnsupportedOperationException", "<init>", "(Ljava/lang/String;)V"⟩ : MethodName) ∈ WA := WA_in (tb3 (List.mem_of_getElem? (i := 64) rfl)) rfl
theorem wi_t3_65 : Cond.instanceMethod (⟨"java/lang/UnsupportedOperationException", "<init>", "(Ljava/lang/String;)V"⟩ : MethodName) ∈ WA := WA_in (tb3 (List.mem_of_getElem? (i := 65) rfl)) rfl
theorem wc_t3_66 : Cond.code (⟨"java/lang/UnsupportedOperationException", "<init>", "(Ljava/lang/String;)V"⟩ : MethodName) prog_17_method_2_code (2 : Nat) (Option.none : Option Jvm.ClassFile.FieldType) ∈ WA := WA_in (tb3 (List.mem_of_getElem? (i := 66) rfl)) rfl
theorem wl_t3_68 : Cond.lays "java/lang/UnsupportedOperationException" "java/lang/Throwable" "depth" "I" ∈ WA := WA_in (tb3 (List.mem_of_getElem? (i := 68) rfl)) rfl
theorem wo_superclass_t3_69 : Cond.superclass "java/lang/UnsupportedOperationException" "java/lang/RuntimeException" ∈ WA := WA_in (tb3 (List.mem_of_getElem? (i := 69) rfl)) rfl
theorem wm_L_189 : Cond.methodLink RL 189 yL_hasNext ∈ WA := WA_in (tb3 (List.mem_of_getElem? (i := 70) rfl)) rfl
theorem wst_L_hasNext : Cond.static yL_hasNext ∈ WA := WA_in (tb3 (List.mem_of_getElem? (i := 71) rfl)) rfl
theorem wcw_L_hasNext : Cond.codeWith yL_hasNext cL_hasNext 5 (Option.some Jvm.ClassFile.FieldType.int) [((0 : Nat), (17 : Nat), (20 : Nat), (15 : Nat)), ((0 : Nat), (17 : Nat), (24 : Nat), (17 : Nat))] ∈ WA := WA_in (tb3 (List.mem_of_getElem? (i := 72) rfl)) rfl
theorem wm_L_83 : Cond.methodLink RL 83 yX2_hasNext ∈ WA := WA_in (tb3 (List.mem_of_getElem? (i := 73) rfl)) rfl
theorem wi_X2_hasNext : Cond.instanceMethod yX2_hasNext ∈ WA := WA_in (tb3 (List.mem_of_getElem? (i := 74) rfl)) rfl
theorem wse_X2_hasNext : Cond.selects RX2 yX2_hasNext yX2_hasNext ∈ WA := WA_in (tb3 (List.mem_of_getElem? (i := 75) rfl)) rfl
theorem wc_X2_hasNext : Cond.code yX2_hasNext cX2_hasNext 4 (Option.some Jvm.ClassFile.FieldType.boolean) ∈ WA := WA_in (tb3 (List.mem_of_getElem? (i := 76) rfl)) rfl
theorem wstr_X2_147 : Cond.stringRef RX2 147 "the item is no iterator" ∈ lw_tbl := tb3 (List.mem_of_getElem? (i := 77) rfl)
theorem wm_L_192 : Cond.methodLink RL 192 yL_crumble ∈ WA := WA_in (tb3 (List.mem_of_getElem? (i := 78) rfl)) rfl
theorem wst_L_crumble : Cond.static yL_crumble ∈ WA := WA_in (tb3 (List.mem_of_getElem? (i := 79) rfl)) rfl
theorem wcw_L_crumble : Cond.codeWith yL_crumble cL_crumble 5 (Option.some Jvm.ClassFile.FieldType.int) [((0 : Nat), (10 : Nat), (13 : Nat), (15 : Nat)), ((0 : Nat), (10 : Nat), (17 : Nat), (13 : Nat))] ∈ WA := WA_in (tb3 (List.mem_of_getElem? (i := 80) rfl)) rfl
theorem wm_L_86 : Cond.methodLink RL 86 yX2_crumble ∈ WA := WA_in (tb3 (List.mem_of_getElem? (i := 81) rfl)) rfl
theorem wi_X2_crumble : Cond.instanceMethod yX2_crumble ∈ WA := WA_in (tb3 (List.mem_of_getElem? (i := 82) rfl)) rfl
theorem wse_X2_crumble : Cond.selects RX2 yX2_crumble yX2_crumble ∈ WA := WA_in (tb3 (List.mem_of_getElem? (i := 83) rfl)) rfl
theorem wc_X2_crumble : Cond.code yX2_crumble cX2_crumble 4 (Option.some Jvm.ClassFile.FieldType.int) ∈ WA := WA_in (tb3 (List.mem_of_getElem? (i := 84) rfl)) rfl
theorem wm_X2_149 : Cond.methodLink RX2 149 yX2_requirePieceSize ∈ WA := WA_in (tb3 (List.mem_of_getElem? (i := 85) rfl)) rfl
theorem wst_X2_requirePieceSize : Cond.static yX2_requirePieceSize ∈ WA := WA_in (tb3 (List.mem_of_getElem? (i := 86) rfl)) rfl
theorem wc_X2_requirePieceSize : Cond.code yX2_requirePieceSize cX2_requirePieceSize 1 (Option.none : Option Jvm.ClassFile.FieldType) ∈ WA := WA_in (tb3 (List.mem_of_getElem? (i := 87) rfl)) rfl
theorem wstr_X2_211 : Cond.stringRef RX2 211 "no such size of a piece" ∈ lw_tbl := tb3 (List.mem_of_getElem? (i := 88) rfl)
theorem wm_L_195 : Cond.methodLink RL 195 yL_sweep ∈ WA := WA_in (tb3 (List.mem_of_getElem? (i := 89) rfl)) rfl
theorem wst_L_sweep : Cond.static yL_sweep ∈ WA := WA_in (tb3 (List.mem_of_getElem? (i := 90) rfl)) rfl
theorem wcw_L_sweep : Cond.codeWith yL_sweep cL_sweep 4 (Option.some Jvm.ClassFile.FieldType.int) [((0 : Nat), (9 : Nat), (12 : Nat), (15 : Nat))] ∈ WA := WA_in (tb3 (List.mem_of_getElem? (i := 91) rfl)) rfl
theorem wm_L_89 : Cond.methodLink RL 89 yX2_sweep ∈ WA := WA_in (tb3 (List.mem_of_getElem? (i := 92) rfl)) rfl
theorem wi_X2_sweep : Cond.instanceMethod yX2_sweep ∈ WA := WA_in (tb3 (List.mem_of_getElem? (i := 93) rfl)) rfl
theorem wse_X2_sweep : Cond.selects RX2 yX2_sweep yX2_sweep ∈ WA := WA_in (tb3 (List.mem_of_getElem? (i := 94) rfl)) rfl
theorem wc_X2_sweep : Cond.code yX2_sweep cX2_sweep 2 (Option.some Jvm.ClassFile.FieldType.int) ∈ WA := WA_in (tb3 (List.mem_of_getElem? (i := 95) rfl)) rfl
theorem wm_X2_156 : Cond.methodLink RX2 156 yX0_removeEmpty ∈ WA := WA_in (tb3 (List.mem_of_getElem? (i := 96) rfl)) rfl
theorem wi_X0_removeEmpty : Cond.instanceMethod yX0_removeEmpty ∈ WA := WA_in (tb3 (List.mem_of_getElem? (i := 97) rfl)) rfl
theorem wse_X0_removeEmpty : Cond.selects RX0 yX0_removeEmpty yX0_removeEmpty ∈ WA := WA_in (tb3 (List.mem_of_getElem? (i := 98) rfl)) rfl
theorem wc_X0_removeEmpty : Cond.code yX0_removeEmpty cX0_removeEmpty 3 (Option.some Jvm.ClassFile.FieldType.int) ∈ WA := WA_in (tb3 (List.mem_of_getElem? (i := 99) rfl)) rfl
theorem wm_X0_83 : Cond.methodLink RX0 83 yX0_copyItem ∈ WA := WA_in (tb3 (List.mem_of_getElem? (i := 100) rfl)) rfl
theorem wo_privateMethod_t3_101 : Cond.privateMethod yX0_copyItem ∈ lw_tbl := tb3 (List.mem_of_getElem? (i := 101) rfl)
theorem wi_X0_copyItem : Cond.instanceMethod yX0_copyItem ∈ WA := WA_in (tb3 (List.mem_of_getElem? (i := 102) rfl)) rfl
theorem wc_X0_copyItem : Cond.code yX0_copyItem cX0_copyItem 3 (Option.none : Option Jvm.ClassFile.FieldType) ∈ WA := WA_in (tb3 (List.mem_of_getElem? (i := 103) rfl)) rfl
theorem wm_L_198 : Cond.methodLink RL 198 yL_isRead ∈ WA := WA_in (tb3 (List.mem_of_getElem? (i := 104) rfl)) rfl
theorem wst_L_isRead : Cond.static yL_isRead ∈ WA := WA_in (tb3 (List.mem_of_getElem? (i := 105) rfl)) rfl
theorem wcw_L_isRead : Cond.codeWith yL_isRead cL_isRead 4 (Option.some Jvm.ClassFile.FieldType.int) [((0 : Nat), (16 : Nat), (19 : Nat), (15 : Nat))] ∈ WA := WA_in (tb3 (List.mem_of_getElem? (i := 106) rfl)) rfl
theorem wm_L_92 : Cond.methodLink RL 92 yX2_isRead ∈ WA := WA_in (tb3 (List.mem_of_getElem? (i := 107) rfl)) rfl
theorem wi_X2_isRead : Cond.instanceMethod yX2_isRead ∈ WA := WA_in (tb3 (List.mem_of_getElem? (i := 108) rfl)) rfl
theorem wse_X2_isRead : Cond.selects RX2 yX2_isRead yX2_isRead ∈ WA := WA_in (tb3 (List.mem_of_getElem? (i := 109) rfl)) rfl
theorem wc_X2_isRead : Cond.code yX2_isRead cX2_isRead 2 (Option.some Jvm.ClassFile.FieldType.boolean) ∈ WA := WA_in (tb3 (List.mem_of_getElem? (i := 110) rfl)) rfl
theorem wm_X2_160 : Cond.methodLink RX2 160 yX0_isWholePart ∈ WA := WA_in (tb3 (List.mem_of_getElem? (i := 111) rfl)) rfl
theorem wi_X0_isWholePart : Cond.instanceMethod yX0_isWholePart ∈ WA := WA_in (tb3 (List.mem_of_getElem? (i := 112) rfl)) rfl
theorem wse_X0_isWholePart : Cond.selects RX0 yX0_isWholePart yX0_isWholePart ∈ WA := WA_in (tb3 (List.mem_of_getElem? (i := 113) rfl)) rfl
theorem wc_X0_isWholePart : Cond.code yX0_isWholePart cX0_isWholePart 1 (Option.some Jvm.ClassFile.FieldType.boolean) ∈ WA := WA_in (tb3 (List.mem_of_getElem? (i := 114) rfl)) rfl
theorem wm_X0_87 : Cond.methodLink RX0 87 yX0_countNumbers ∈ WA := WA_in (tb3 (List.mem_of_getElem? (i := 115) rfl)) rfl
theorem wi_X0_countNumbers : Cond.instanceMethod yX0_countNumbers ∈ WA := WA_in (tb3 (List.mem_of_getElem? (i := 116) rfl)) rfl
theorem wse_X0_countNumbers : Cond.selects RX0 yX0_countNumbers yX0_countNumbers ∈ WA := WA_in (tb3 (List.mem_of_getElem? (i := 117) rfl)) rfl
theorem wc_X0_countNumbers : Cond.code yX0_countNumbers cX0_countNumbers 3 (Option.some Jvm.ClassFile.FieldType.int) ∈ WA := WA_in (tb3 (List.mem_of_getElem? (i := 118) rfl)) rfl
theorem wm_X0_91 : Cond.methodLink RX0 91 yX0_isInOrder ∈ WA := WA_in (tb3 (List.mem_of_getElem? (i := 119) rfl)) rfl
theorem wm_L_201 : Cond.methodLink RL 201 yL_fold ∈ WA := WA_in (tb3 (List.mem_of_getElem? (i := 120) rfl)) rfl
theorem wst_L_fold : Cond.static yL_fold ∈ WA := WA_in (tb3 (List.mem_of_getElem? (i := 121) rfl)) rfl
theorem wcw_L_fold : Cond.codeWith yL_fold cL_fold 7 (Option.some Jvm.ClassFile.FieldType.int) [((0 : Nat), (13 : Nat), (16 : Nat), (13 : Nat)), ((0 : Nat), (13 : Nat), (20 : Nat), (15 : Nat))] ∈ WA := WA_in (tb3 (List.mem_of_getElem? (i := 122) rfl)) rfl
theorem wm_L_96 : Cond.methodLink RL 96 yX2_fold ∈ WA := WA_in (tb3 (List.mem_of_getElem? (i := 123) rfl)) rfl
theorem wi_X2_fold : Cond.instanceMethod yX2_fold ∈ WA := WA_in (tb3 (List.mem_of_getElem? (i := 124) rfl)) rfl
theorem wse_X2_fold : Cond.selects RX2 yX2_fold yX2_fold ∈ WA := WA_in (tb3 (List.mem_of_getElem? (i := 125) rfl)) rfl
theorem wc_X2_fold : Cond.code yX2_fold cX2_fold 6 (Option.some Jvm.ClassFile.FieldType.long) ∈ WA := WA_in (tb3 (List.mem_of_getElem? (i := 126) rfl)) rfl
theorem wstr_X2_171 : Cond.stringRef RX2 171 "nothing such to reckon" ∈ lw_tbl := tb3 (List.mem_of_getElem? (i := 127) rfl)
theorem wm_L_205 : Cond.methodLink RL 205 yL_pieces ∈ WA := WA_in (tb3 (List.mem_of_getElem? (i := 128) rfl)) rfl
theorem wst_L_pieces : Cond.static yL_pieces ∈ WA := WA_in (tb3 (List.mem_of_getElem? (i := 129) rfl)) rfl
theorem wcw_L_pieces : Cond.codeWith yL_pieces cL_pieces 6 (Option.some Jvm.ClassFile.FieldType.int) [((0 : Nat), (12 : Nat), (15 : Nat), (13 : Nat)), ((0 : Nat), (12 : Nat), (19 : Nat), (15 : Nat))] ∈ WA := WA_in (tb3 (List.mem_of_getElem? (i := 130) rfl)) rfl
theorem wm_L_100 : Cond.methodLink RL 100 yX2_pieces ∈ WA := WA_in (tb3 (List.mem_of_getElem? (i := 131) rfl)) rfl
theorem wi_X2_pieces : Cond.instanceMethod yX2_pieces ∈ WA := WA_in (tb3 (List.mem_of_getElem? (i := 132) rfl)) rfl
theorem wse_X2_pieces : Cond.selects RX2 yX2_pieces yX2_pieces ∈ WA := WA_in (tb3 (List.mem_of_getElem? (i := 133) rfl)) rfl
theorem wc_X2_pieces : Cond.code yX2_pieces cX2_pieces 4 (Option.some Jvm.ClassFile.FieldType.int) ∈ WA := WA_in (tb3 (List.mem_of_getElem? (i := 134) rfl)) rfl
theorem wm_L_208 : Cond.methodLink RL 208 yL_share ∈ WA := WA_in (tb3 (List.mem_of_getElem? (i := 135) rfl)) rfl
theorem wst_L_share : Cond.static yL_share ∈ WA := WA_in (tb3 (List.mem_of_getElem? (i := 136) rfl)) rfl
theorem wcw_L_share : Cond.codeWith yL_share cL_share 4 (Option.some Jvm.ClassFile.FieldType.int) [((0 : Nat), (9 : Nat), (12 : Nat), (15 : Nat)), ((0 : Nat), (9 : Nat), (15 : Nat), (108 : Nat))] ∈ WA := WA_in (tb3 (List.mem_of_getElem? (i := 137) rfl)) rfl
theorem wcl_L_108 : Cond.classLink RL 108 "java/lang/ArithmeticException" ∈ WA := WA_in (tb3 (List.mem_of_getElem? (i := 138) rfl)) rfl
theorem wins_java_lang_ArithmeticException : Cond.instantiable "java/lang/ArithmeticException" 6 ∈ WA := WA_in (tb3 (List.mem_of_getElem? (i := 139) rfl)) rfl
theorem wi_t3_140 : Cond.instanceMethod (⟨"java/lang/ArithmeticException", "<init>", "(Ljava/lang/String;)V"⟩ : MethodName) ∈ WA := WA_in (tb3 (List.mem_of_getElem? (i := 140) rfl)) rfl
theorem wc_t3_141 : Cond.code (⟨"java/lang/ArithmeticException", "<init>", "(Ljava/lang/String;)V"⟩ : MethodName) prog_6_method_2_code (2 : Nat) (Option.none : Option Jvm.ClassFile.FieldType) ∈ WA := WA_in (tb3 (List.mem_of_getElem? (i := 141) rfl)) rfl
theorem wl_t3_143 : Cond.lays "java/lang/ArithmeticException" "java/lang/Throwable" "backtrace" "Ljava/lang/Object;" ∈ WA := WA_in (tb3 (List.mem_of_getElem? (i := 143) rfl)) rfl
theorem wl_t3_144 : Cond.lays "java/lang/ArithmeticException" "java/lang/Throwable" "detailMessage" "Ljava/lang/String;" ∈ WA := WA_in (tb3 (List.mem_of_getElem? (i := 144) rfl)) rfl
theorem wl_t3_145 : Cond.lays "java/lang/ArithmeticException" "java/lang/Throwable" "cause" "Ljava/lang/Throwable;" ∈ WA := WA_in (tb3 (List.mem_of_getElem? (i := 145) rfl)) rfl
theorem wl_t3_146 : Cond.lays "java/lang/ArithmeticException" "java/lang/Throwable" "stackTrace" "[Ljava/lang/StackTraceElement;" ∈ WA := WA_in (tb3 (List.mem_of_getElem? (i := 146) rfl)) rfl
theorem wl_t3_147 : Cond.lays "java/lang/ArithmeticException" "java/lang/Throwable" "depth" "I" ∈ WA := WA_in (tb3 (List.mem_of_getElem? (i := 147) rfl)) rfl
theorem wl_t3_148 : Cond.lays "java/lang/ArithmeticException" "java/lang/Throwable" "suppressedExceptions" "Ljava/util/List;" ∈ WA := WA_in (tb3 (List.mem_of_getElem? (i := 148) rfl)) rfl
theorem wo_superclass_t3_149 : Cond.superclass "java/lang/ArithmeticException" "java/lang/RuntimeException" ∈ WA := WA_in (tb3 (List.mem_of_getElem? (i := 149) rfl)) rfl
theorem wo_castable_t3_150 : Cond.castable "java/lang/ArithmeticException" "java/lang/ArithmeticException" ∈ lw_tbl := tb3 (List.mem_of_getElem? (i := 150) rfl)
theorem wse_t3_151 : Cond.selects "java/lang/ArithmeticException" (⟨"java/lang/Throwable", "fillInStackTrace", "(I)Ljava/lang/Throwable;"⟩ : MethodName) (⟨"java/lang/Throwable", "fillInStackTrace", "(I)Ljava/lang/Throwable;"⟩ : MethodName) ∈ WA := WA_in (tb3 (List.mem_of_getElem? (i := 151) rfl)) rfl
theorem wm_L_104 : Cond.methodLink RL 104 yX2_share ∈ WA := WA_in (tb3 (List.mem_of_getElem? (i := 152) rfl)) rfl
theorem wi_X2_share : Cond.instanceMethod yX2_share ∈ WA := WA_in (tb3 (List.mem_of_getElem? (i := 153) rfl)) rfl
theorem wse_X2_share : Cond.selects RX2 yX2_share yX2_share ∈ WA := WA_in (tb3 (List.mem_of_getElem? (i := 154) rfl)) rfl
theorem wc_X2_share : Cond.code yX2_share cX2_share 3 (Option.some Jvm.ClassFile.FieldType.float) ∈ WA := WA_in (tb3 (List.mem_of_getElem? (i := 155) rfl)) rfl
theorem wcl_X2_181 : Cond.classLink RX2 181 "java/lang/ArithmeticException" ∈ WA := WA_in (tb3 (List.mem_of_getElem? (i := 156) rfl)) rfl
theorem wstr_X2_183 : Cond.stringRef RX2 183 "the part is empty" ∈ lw_tbl := tb3 (List.mem_of_getElem? (i := 157) rfl)
theorem wm_X2_185 : Cond.methodLink RX2 185 (⟨"java/lang/ArithmeticException", "<init>", "(Ljava/lang/String;)V"⟩ : MethodName) ∈ WA := WA_in (tb3 (List.mem_of_getElem? (i := 158) rfl)) rfl
theorem wm_X2_186 : Cond.methodLink RX2 186 yX0_countNumbers ∈ WA := WA_in (tb3 (List.mem_of_getElem? (i := 159) rfl)) rfl
theorem wm_L_212 : Cond.methodLink RL 212 yL_meanLeft ∈ WA := WA_in (tb3 (List.mem_of_getElem? (i := 160) rfl)) rfl
theorem wst_L_meanLeft : Cond.static yL_meanLeft ∈ WA := WA_in (tb3 (List.mem_of_getElem? (i := 161) rfl)) rfl
theorem wcw_L_meanLeft : Cond.codeWith yL_meanLeft cL_meanLeft 4 (Option.some Jvm.ClassFile.FieldType.int) [((0 : Nat), (8 : Nat), (11 : Nat), (15 : Nat)), ((0 : Nat), (8 : Nat), (14 : Nat), (108 : Nat))] ∈ WA := WA_in (tb3 (List.mem_of_getElem? (i := 162) rfl)) rfl
theorem wm_L_110 : Cond.methodLink RL 110 yX2_meanLeft ∈ WA := WA_in (tb3 (List.mem_of_getElem? (i := 163) rfl)) rfl
theorem wi_X2_meanLeft : Cond.instanceMethod yX2_meanLeft ∈ WA := WA_in (tb3 (List.mem_of_getElem? (i := 164) rfl)) rfl
theorem wse_X2_meanLeft : Cond.selects RX2 yX2_meanLeft yX2_meanLeft ∈ WA := WA_in (tb3 (List.mem_of_getElem? (i := 165) rfl)) rfl
theorem wc_X2_meanLeft : Cond.code yX2_meanLeft cX2_meanLeft 4 (Option.some Jvm.ClassFile.FieldType.double) ∈ WA := WA_in (tb3 (List.mem_of_getElem? (i := 166) rfl)) rfl
theorem wstr_X2_189 : Cond.stringRef RX2 189 "the bench has no piece" ∈ lw_tbl := tb3 (List.mem_of_getElem? (i := 167) rfl)
theorem wm_X2_191 : Cond.methodLink RX2 191 yX0_countLeft ∈ WA := WA_in (tb3 (List.mem_of_getElem? (i := 168) rfl)) rfl
theorem wi_X0_countLeft : Cond.instanceMethod yX0_countLeft ∈ WA := WA_in (tb3 (List.mem_of_getElem? (i := 169) rfl)) rfl
theorem wse_X0_countLeft : Cond.selects RX0 yX0_countLeft yX0_countLeft ∈ WA := WA_in (tb3 (List.mem_of_getElem? (i := 170) rfl)) rfl
theorem wc_X0_countLeft : Cond.code yX0_countLeft cX0_countLeft 3 (Option.some Jvm.ClassFile.FieldType.int) ∈ WA := WA_in (tb3 (List.mem_of_getElem? (i := 171) rfl)) rfl
theorem wcl_L_115 : Cond.classLink RL 115 "SplityardModel" ∈ WA := WA_in (tb3 (List.mem_of_getElem? (i := 172) rfl)) rfl
theorem wins_X3 : Cond.instantiable RX3 9 ∈ WA := WA_in (tb3 (List.mem_of_getElem? (i := 173) rfl)) rfl
theorem wm_L_117 : Cond.methodLink RL 117 yX3_init ∈ WA := WA_in (tb3 (List.mem_of_getElem? (i := 174) rfl)) rfl
theorem wi_X3_init : Cond.instanceMethod yX3_init ∈ WA := WA_in (tb3 (List.mem_of_getElem? (i := 175) rfl)) rfl
theorem wc_X3_init : Cond.code yX3_init cX3_init 1 (Option.none : Option Jvm.ClassFile.FieldType) ∈ WA := WA_in (tb3 (List.mem_of_getElem? (i := 176) rfl)) rfl
theorem wm_X3_1 : Cond.methodLink RX3 1 (⟨"java/lang/Object", "<init>", "()V"⟩ : MethodName) ∈ WA := WA_in (tb3 (List.mem_of_getElem? (i := 177) rfl)) rfl
theorem wcl_X3_9 : Cond.classLink RX3 9 "[[[J" ∈ WA := WA_in (tb3 (List.mem_of_getElem? (i := 178) rfl)) rfl
theorem wo_arrayOver_t3_179 : Cond.arrayOver (Jvm.ClassFile.FieldType.array (Jvm.ClassFile.FieldType.array Jvm.ClassFile.FieldType.long)) ∈ lw_tbl := tb3 (List.mem_of_getElem? (i := 179) rfl)
theorem wo_arrayOver_t3_180 : Cond.arrayOver (Jvm.ClassFile.FieldType.array Jvm.ClassFile.FieldType.long) ∈ lw_tbl := tb3 (List.mem_of_getElem? (i := 180) rfl)
theorem wcl_X3_14 : Cond.classLink RX3 14 "[[I" ∈ WA := WA_in (tb3 (List.mem_of_getElem? (i := 181) rfl)) rfl
theorem wo_arrayOver_t3_182 : Cond.arrayOver (Jvm.ClassFile.FieldType.array Jvm.ClassFile.FieldType.int) ∈ lw_tbl := tb3 (List.mem_of_getElem? (i := 182) rfl)
theorem wcl_X3_19 : Cond.classLink RX3 19 "[[J" ∈ WA := WA_in (tb3 (List.mem_of_getElem? (i := 183) rfl)) rfl
theorem wcl_X3_32 : Cond.classLink RX3 32 "[[C" ∈ WA := WA_in (tb3 (List.mem_of_getElem? (i := 184) rfl)) rfl
theorem wo_arrayOver_t3_185 : Cond.arrayOver (Jvm.ClassFile.FieldType.array Jvm.ClassFile.FieldType.char) ∈ lw_tbl := tb3 (List.mem_of_getElem? (i := 185) rfl)
theorem wf_X3_11 : Cond.fieldLink RX3 11 "SplityardModel" "rows" "[[[J" ∈ WA := WA_in (tb3 (List.mem_of_getElem? (i := 186) rfl)) rfl
theorem wf_X3_16 : Cond.fieldLink RX3 16 "SplityardModel" "sizes" "[[I" ∈ WA := WA_in (tb3 (List.mem_of_getElem? (i := 187) rfl)) rfl
theorem wf_X3_21 : Cond.fieldLink RX3 21 "SplityardModel" "parts" "[[J" ∈ WA := WA_in (tb3 (List.mem_of_getElem? (i := 188) rfl)) rfl
theorem wf_X3_24 : Cond.fieldLink RX3 24 "SplityardModel" "partSizes" "[I" ∈ WA := WA_in (tb3 (List.mem_of_getElem? (i := 189) rfl)) rfl
theorem wf_X3_28 : Cond.fieldLink RX3 28 "SplityardModel" "boxed" "[Z" ∈ WA := WA_in (tb3 (List.mem_of_getElem? (i := 190) rfl)) rfl
theorem wf_X3_34 : Cond.fieldLink RX3 34 "SplityardModel" "kinds" "[[C" ∈ WA := WA_in (tb3 (List.mem_of_getElem? (i := 191) rfl)) rfl
theorem wf_X3_37 : Cond.fieldLink RX3 37 "SplityardModel" "lengths" "[[I" ∈ WA := WA_in (tb3 (List.mem_of_getElem? (i := 192) rfl)) rfl
theorem wf_X3_40 : Cond.fieldLink RX3 40 "SplityardModel" "many" "[I" ∈ WA := WA_in (tb3 (List.mem_of_getElem? (i := 193) rfl)) rfl
theorem wf_X3_43 : Cond.fieldLink RX3 43 "SplityardModel" "thrown" "I" ∈ WA := WA_in (tb3 (List.mem_of_getElem? (i := 194) rfl)) rfl
theorem wl_t3_195 : Cond.laysFinal "SplityardModel" "SplityardModel" "rows" "[[[J" ∈ WA := WA_in (tb3 (List.mem_of_getElem? (i := 195) rfl)) rfl
theorem wo_soleField_t3_196 : Cond.soleField "SplityardModel" "rows" ∈ WA := WA_in (tb3 (List.mem_of_getElem? (i := 196) rfl)) rfl
theorem wl_t3_197 : Cond.laysFinal "SplityardModel" "SplityardModel" "sizes" "[[I" ∈ WA := WA_in (tb3 (List.mem_of_getElem? (i := 197) rfl)) rfl
theorem wo_soleField_t3_198 : Cond.soleField "SplityardModel" "sizes" ∈ WA := WA_in (tb3 (List.mem_of_getElem? (i := 198) rfl)) rfl
theorem wl_t3_199 : Cond.laysFinal "SplityardModel" "SplityardModel" "parts" "[[J" ∈ WA := WA_in (tb3 (List.mem_of_getElem? (i := 199) rfl)) rfl
theorem wo_soleField_t3_200 : Cond.soleField "SplityardModel" "parts" ∈ WA := WA_in (tb3 (List.mem_of_getElem? (i := 200) rfl)) rfl
theorem wl_t3_201 : Cond.laysFinal "SplityardModel" "SplityardModel" "partSizes" "[I" ∈ WA := WA_in (tb3 (List.mem_of_getElem? (i := 201) rfl)) rfl
theorem wo_soleField_t3_202 : Cond.soleField "SplityardModel" "partSizes" ∈ WA := WA_in (tb3 (List.mem_of_getElem? (i := 202) rfl)) rfl
theorem wl_t3_203 : Cond.laysFinal "SplityardModel" "SplityardModel" "boxed" "[Z" ∈ WA := WA_in (tb3 (List.mem_of_getElem? (i := 203) rfl)) rfl
theorem wo_soleField_t3_204 : Cond.soleField "SplityardModel" "boxed" ∈ WA := WA_in (tb3 (List.mem_of_getElem? (i := 204) rfl)) rfl
theorem wl_t3_205 : Cond.laysFinal "SplityardModel" "SplityardModel" "kinds" "[[C" ∈ WA := WA_in (tb3 (List.mem_of_getElem? (i := 205) rfl)) rfl
theorem wo_soleField_t3_206 : Cond.soleField "SplityardModel" "kinds" ∈ WA := WA_in (tb3 (List.mem_of_getElem? (i := 206) rfl)) rfl
theorem wl_t3_207 : Cond.laysFinal "SplityardModel" "SplityardModel" "lengths" "[[I" ∈ WA := WA_in (tb3 (List.mem_of_getElem? (i := 207) rfl)) rfl
theorem wo_soleField_t3_208 : Cond.soleField "SplityardModel" "lengths" ∈ WA := WA_in (tb3 (List.mem_of_getElem? (i := 208) rfl)) rfl
theorem wl_t3_209 : Cond.laysFinal "SplityardModel" "SplityardModel" "many" "[I" ∈ WA := WA_in (tb3 (List.mem_of_getElem? (i := 209) rfl)) rfl
theorem wo_soleField_t3_210 : Cond.soleField "SplityardModel" "many" ∈ WA := WA_in (tb3 (List.mem_of_getElem? (i := 210) rfl)) rfl
theorem wl_t3_211 : Cond.lays "SplityardModel" "SplityardModel" "thrown" "I" ∈ WA := WA_in (tb3 (List.mem_of_getElem? (i := 211) rfl)) rfl
theorem wo_soleField_t3_212 : Cond.soleField "SplityardModel" "thrown" ∈ WA := WA_in (tb3 (List.mem_of_getElem? (i := 212) rfl)) rfl
theorem wo_superclass_t3_213 : Cond.superclass "SplityardModel" "java/lang/Object" ∈ WA := WA_in (tb3 (List.mem_of_getElem? (i := 213) rfl)) rfl
theorem wo_arrayClass_t3_214 : Cond.arrayClass Jvm.ClassFile.FieldType.boolean ∈ WA := WA_in (tb3 (List.mem_of_getElem? (i := 214) rfl)) rfl
theorem wo_arrayClass_t3_215 : Cond.arrayClass Jvm.ClassFile.FieldType.char ∈ WA := WA_in (tb3 (List.mem_of_getElem? (i := 215) rfl)) rfl
theorem wm_L_126 : Cond.methodLink RL 126 yX3_thrown ∈ WA := WA_in (tb3 (List.mem_of_getElem? (i := 216) rfl)) rfl
theorem wi_X3_thrown : Cond.instanceMethod yX3_thrown ∈ WA := WA_in (tb3 (List.mem_of_getElem? (i := 217) rfl)) rfl
theorem wse_X3_thrown : Cond.selects RX3 yX3_thrown yX3_thrown ∈ WA := WA_in (tb3 (List.mem_of_getElem? (i := 218) rfl)) rfl
theorem wc_X3_thrown : Cond.code yX3_thrown cX3_thrown 1 (Option.some Jvm.ClassFile.FieldType.int) ∈ WA := WA_in (tb3 (List.mem_of_getElem? (i := 219) rfl)) rfl
theorem wm_L_125 : Cond.methodLink RL 125 yX3_append ∈ WA := WA_in (tb3 (List.mem_of_getElem? (i := 220) rfl)) rfl
theorem wi_X3_append : Cond.instanceMethod yX3_append ∈ WA := WA_in (tb3 (List.mem_of_getElem? (i := 221) rfl)) rfl
theorem wse_X3_append : Cond.selects RX3 yX3_append yX3_append ∈ WA := WA_in (tb3 (List.mem_of_getElem? (i := 222) rfl)) rfl
theorem wc_X3_append : Cond.code yX3_append cX3_append 6 (Option.some Jvm.ClassFile.FieldType.int) ∈ WA := WA_in (tb3 (List.mem_of_getElem? (i := 223) rfl)) rfl
theorem wm_X3_51 : Cond.methodLink RX3 51 yX3_kind ∈ WA := WA_in (tb3 (List.mem_of_getElem? (i := 224) rfl)) rfl
theorem wst_X3_kind : Cond.static yX3_kind ∈ WA := WA_in (tb3 (List.mem_of_getElem? (i := 225) rfl)) rfl
theorem wc_X3_kind : Cond.code yX3_kind cX3_kind 1 (Option.some Jvm.ClassFile.FieldType.int) ∈ WA := WA_in (tb3 (List.mem_of_getElem? (i := 226) rfl)) rfl
theorem wm_X3_55 : Cond.methodLink RX3 55 yX3_isNumber ∈ WA := WA_in (tb3 (List.mem_of_getElem? (i := 227) rfl)) rfl
theorem wst_X3_isNumber : Cond.static yX3_isNumber ∈ WA := WA_in (tb3 (List.mem_of_getElem? (i := 228) rfl)) rfl
theorem wc_X3_isNumber : Cond.code yX3_isNumber cX3_isNumber 3 (Option.some Jvm.ClassFile.FieldType.boolean) ∈ WA := WA_in (tb3 (List.mem_of_getElem? (i := 229) rfl)) rfl
theorem wk_X3_47 : Cond.constantLong RX3 47 (-2147483648 : Int64) ∈ WA := WA_in (tb3 (List.mem_of_getElem? (i := 230) rfl)) rfl
theorem wk_X3_49 : Cond.constantLong RX3 49 (2147483647 : Int64) ∈ WA := WA_in (tb3 (List.mem_of_getElem? (i := 231) rfl)) rfl
theorem wm_X3_59 : Cond.methodLink RX3 59 yX3_isRow ∈ WA := WA_in (tb3 (List.mem_of_getElem? (i := 232) rfl)) rfl
theorem wst_X3_isRow : Cond.static yX3_isRow ∈ WA := WA_in (tb3 (List.mem_of_getElem? (i := 233) rfl)) rfl
theorem wc_X3_isRow : Cond.code yX3_isRow cX3_isRow 1 (Option.some Jvm.ClassFile.FieldType.boolean) ∈ WA := WA_in (tb3 (List.mem_of_getElem? (i := 234) rfl)) rfl
theorem wm_X3_63 : Cond.methodLink RX3 63 yX3_can ∈ WA := WA_in (tb3 (List.mem_of_getElem? (i := 235) rfl)) rfl
theorem wo_privateMethod_t3_236 : Cond.privateMethod yX3_can ∈ lw_tbl := tb3 (List.mem_of_getElem? (i := 236) rfl)
theorem wi_X3_can : Cond.instanceMethod yX3_can ∈ WA := WA_in (tb3 (List.mem_of_getElem? (i := 237) rfl)) rfl
theorem wc_X3_can : Cond.code yX3_can cX3_can 4 (Option.some Jvm.ClassFile.FieldType.boolean) ∈ WA := WA_in (tb3 (List.mem_of_getElem? (i := 238) rfl)) rfl
theorem wm_L_133 : Cond.methodLink RL 133 yX3_lay ∈ WA := WA_in (tb3 (List.mem_of_getElem? (i := 239) rfl)) rfl
theorem wi_X3_lay : Cond.instanceMethod yX3_lay ∈ WA := WA_in (tb4 (List.mem_of_getElem? (i := 0) rfl)) rfl
theorem wse_X3_lay : Cond.selects RX3 yX3_lay yX3_lay ∈ WA := WA_in (tb4 (List.mem_of_getElem? (i := 1) rfl)) rfl
theorem wc_X3_lay : Cond.code yX3_lay cX3_lay 13 (Option.some Jvm.ClassFile.FieldType.int) ∈ WA := WA_in (tb4 (List.mem_of_getElem? (i := 2) rfl)) rfl
theorem wm_L_137 : Cond.methodLink RL 137 yX3_turn ∈ WA := WA_in (tb4 (List.mem_of_getElem? (i := 3) rfl)) rfl
theorem wi_X3_turn : Cond.instanceMethod yX3_turn ∈ WA := WA_in (tb4 (List.mem_of_getElem? (i := 4) rfl)) rfl
theorem wse_X3_turn : Cond.selects RX3 yX3_turn yX3_turn ∈ WA := WA_in (tb4 (List.mem_of_getElem? (i := 5) rfl)) rfl
theorem wc_X3_turn : Cond.code yX3_turn cX3_turn 7 (Option.some Jvm.ClassFile.FieldType.int) ∈ WA := WA_in (tb4 (List.mem_of_getElem? (i := 6) rfl)) rfl
theorem wm_L_140 : Cond.methodLink RL 140 yX3_length ∈ WA := WA_in (tb4 (List.mem_of_getElem? (i := 7) rfl)) rfl
theorem wi_X3_length : Cond.instanceMethod yX3_length ∈ WA := WA_in (tb4 (List.mem_of_getElem? (i := 8) rfl)) rfl
theorem wse_X3_length : Cond.selects RX3 yX3_length yX3_length ∈ WA := WA_in (tb4 (List.mem_of_getElem? (i := 9) rfl)) rfl
theorem wc_X3_length : Cond.code yX3_length cX3_length 4 (Option.some Jvm.ClassFile.FieldType.int) ∈ WA := WA_in (tb4 (List.mem_of_getElem? (i := 10) rfl)) rfl
theorem wm_L_144 : Cond.methodLink RL 144 yX3_number ∈ WA := WA_in (tb4 (List.mem_of_getElem? (i := 11) rfl)) rfl
theorem wi_X3_number : Cond.instanceMethod yX3_number ∈ WA := WA_in (tb4 (List.mem_of_getElem? (i := 12) rfl)) rfl
theorem wse_X3_number : Cond.selects RX3 yX3_number yX3_number ∈ WA := WA_in (tb4 (List.mem_of_getElem? (i := 13) rfl)) rfl
theorem wc_X3_number : Cond.code yX3_number cX3_number 5 (Option.some Jvm.ClassFile.FieldType.long) ∈ WA := WA_in (tb4 (List.mem_of_getElem? (i := 14) rfl)) rfl
theorem wm_L_148 : Cond.methodLink RL 148 yX3_open ∈ WA := WA_in (tb4 (List.mem_of_getElem? (i := 15) rfl)) rfl
theorem wi_X3_open : Cond.instanceMethod yX3_open ∈ WA := WA_in (tb4 (List.mem_of_getElem? (i := 16) rfl)) rfl
theorem wse_X3_open : Cond.selects RX3 yX3_open yX3_open ∈ WA := WA_in (tb4 (List.mem_of_getElem? (i := 17) rfl)) rfl
theorem wc_X3_open : Cond.code yX3_open cX3_open 7 (Option.some Jvm.ClassFile.FieldType.int) ∈ WA := WA_in (tb4 (List.mem_of_getElem? (i := 18) rfl)) rfl
theorem wm_X3_67 : Cond.methodLink RX3 67 yX3_isBench ∈ WA := WA_in (tb4 (List.mem_of_getElem? (i := 19) rfl)) rfl
theorem wst_X3_isBench : Cond.static yX3_isBench ∈ WA := WA_in (tb4 (List.mem_of_getElem? (i := 20) rfl)) rfl
theorem wc_X3_isBench : Cond.code yX3_isBench cX3_isBench 1 (Option.some Jvm.ClassFile.FieldType.boolean) ∈ WA := WA_in (tb4 (List.mem_of_getElem? (i := 21) rfl)) rfl
theorem wm_X3_70 : Cond.methodLink RX3 70 yX3_opened ∈ WA := WA_in (tb4 (List.mem_of_getElem? (i := 22) rfl)) rfl
theorem wo_privateMethod_t4_23 : Cond.privateMethod yX3_opened ∈ lw_tbl := tb4 (List.mem_of_getElem? (i := 23) rfl)
theorem wi_X3_opened : Cond.instanceMethod yX3_opened ∈ WA := WA_in (tb4 (List.mem_of_getElem? (i := 24) rfl)) rfl
theorem wc_X3_opened : Cond.code yX3_opened cX3_opened 7 (Option.some Jvm.ClassFile.FieldType.int) ∈ WA := WA_in (tb4 (List.mem_of_getElem? (i := 25) rfl)) rfl
theorem wm_L_152 : Cond.methodLink RL 152 yX3_openAll ∈ WA := WA_in (tb4 (List.mem_of_getElem? (i := 26) rfl)) rfl
theorem wi_X3_openAll : Cond.instanceMethod yX3_openAll ∈ WA := WA_in (tb4 (List.mem_of_getElem? (i := 27) rfl)) rfl
theorem wse_X3_openAll : Cond.selects RX3 yX3_openAll yX3_openAll ∈ WA := WA_in (tb4 (List.mem_of_getElem? (i := 28) rfl)) rfl
theorem wc_X3_openAll : Cond.code yX3_openAll cX3_openAll 5 (Option.some Jvm.ClassFile.FieldType.int) ∈ WA := WA_in (tb4 (List.mem_of_getElem? (i := 29) rfl)) rfl
theorem wm_L_156 : Cond.methodLink RL 156 yX3_items ∈ WA := WA_in (tb4 (List.mem_of_getElem? (i := 30) rfl)) rfl
theorem wi_X3_items : Cond.instanceMethod yX3_items ∈ WA := WA_in (tb4 (List.mem_of_getElem? (i := 31) rfl)) rfl
theorem wse_X3_items : Cond.selects RX3 yX3_items yX3_items ∈ WA := WA_in (tb4 (List.mem_of_getElem? (i := 32) rfl)) rfl
theorem wc_X3_items : Cond.code yX3_items cX3_items 2 (Option.some Jvm.ClassFile.FieldType.int) ∈ WA := WA_in (tb4 (List.mem_of_getElem? (i := 33) rfl)) rfl
theorem wm_L_160 : Cond.methodLink RL 160 yX3_kindOf ∈ WA := WA_in (tb4 (List.mem_of_getElem? (i := 34) rfl)) rfl
theorem wi_X3_kindOf : Cond.instanceMethod yX3_kindOf ∈ WA := WA_in (tb4 (List.mem_of_getElem? (i := 35) rfl)) rfl
theorem wse_X3_kindOf : Cond.selects RX3 yX3_kindOf yX3_kindOf ∈ WA := WA_in (tb4 (List.mem_of_getElem? (i := 36) rfl)) rfl
theorem wc_X3_kindOf : Cond.code yX3_kindOf cX3_kindOf 3 (Option.some Jvm.ClassFile.FieldType.char) ∈ WA := WA_in (tb4 (List.mem_of_getElem? (i := 37) rfl)) rfl
theorem wm_X3_74 : Cond.methodLink RX3 74 yX3_isItem ∈ WA := WA_in (tb4 (List.mem_of_getElem? (i := 38) rfl)) rfl
theorem wo_privateMethod_t4_39 : Cond.privateMethod yX3_isItem ∈ lw_tbl := tb4 (List.mem_of_getElem? (i := 39) rfl)
theorem wi_X3_isItem : Cond.instanceMethod yX3_isItem ∈ WA := WA_in (tb4 (List.mem_of_getElem? (i := 40) rfl)) rfl
theorem wc_X3_isItem : Cond.code yX3_isItem cX3_isItem 3 (Option.some Jvm.ClassFile.FieldType.boolean) ∈ WA := WA_in (tb4 (List.mem_of_getElem? (i := 41) rfl)) rfl
theorem wm_L_163 : Cond.methodLink RL 163 yX3_given ∈ WA := WA_in (tb4 (List.mem_of_getElem? (i := 42) rfl)) rfl
theorem wi_X3_given : Cond.instanceMethod yX3_given ∈ WA := WA_in (tb4 (List.mem_of_getElem? (i := 43) rfl)) rfl
theorem wse_X3_given : Cond.selects RX3 yX3_given yX3_given ∈ WA := WA_in (tb4 (List.mem_of_getElem? (i := 44) rfl)) rfl
theorem wc_X3_given : Cond.code yX3_given cX3_given 3 (Option.some Jvm.ClassFile.FieldType.long) ∈ WA := WA_in (tb4 (List.mem_of_getElem? (i := 45) rfl)) rfl
theorem wm_X3_78 : Cond.methodLink RX3 78 yX3_isOf ∈ WA := WA_in (tb4 (List.mem_of_getElem? (i := 46) rfl)) rfl
theorem wo_privateMethod_t4_47 : Cond.privateMethod yX3_isOf ∈ lw_tbl := tb4 (List.mem_of_getElem? (i := 47) rfl)
theorem wi_X3_isOf : Cond.instanceMethod yX3_isOf ∈ WA := WA_in (tb4 (List.mem_of_getElem? (i := 48) rfl)) rfl
theorem wc_X3_isOf : Cond.code yX3_isOf cX3_isOf 5 (Option.some Jvm.ClassFile.FieldType.boolean) ∈ WA := WA_in (tb4 (List.mem_of_getElem? (i := 49) rfl)) rfl
theorem wm_X3_82 : Cond.methodLink RX3 82 yX3_before ∈ WA := WA_in (tb4 (List.mem_of_getElem? (i := 50) rfl)) rfl
theorem wo_privateMethod_t4_51 : Cond.privateMethod yX3_before ∈ lw_tbl := tb4 (List.mem_of_getElem? (i := 51) rfl)
theorem wi_X3_before : Cond.instanceMethod yX3_before ∈ WA := WA_in (tb4 (List.mem_of_getElem? (i := 52) rfl)) rfl
theorem wc_X3_before : Cond.code yX3_before cX3_before 5 (Option.some Jvm.ClassFile.FieldType.int) ∈ WA := WA_in (tb4 (List.mem_of_getElem? (i := 53) rfl)) rfl
theorem wm_L_166 : Cond.methodLink RL 166 yX3_left ∈ WA := WA_in (tb4 (List.mem_of_getElem? (i := 54) rfl)) rfl
theorem wi_X3_left : Cond.instanceMethod yX3_left ∈ WA := WA_in (tb4 (List.mem_of_getElem? (i := 55) rfl)) rfl
theorem wse_X3_left : Cond.selects RX3 yX3_left yX3_left ∈ WA := WA_in (tb4 (List.mem_of_getElem? (i := 56) rfl)) rfl
theorem wc_X3_left : Cond.code yX3_left cX3_left 3 (Option.some Jvm.ClassFile.FieldType.int) ∈ WA := WA_in (tb4 (List.mem_of_getElem? (i := 57) rfl)) rfl
theorem wm_L_169 : Cond.methodLink RL 169 yX3_ahead ∈ WA := WA_in (tb4 (List.mem_of_getElem? (i := 58) rfl)) rfl
theorem wi_X3_ahead : Cond.instanceMethod yX3_ahead ∈ WA := WA_in (tb4 (List.mem_of_getElem? (i := 59) rfl)) rfl
theorem wse_X3_ahead : Cond.selects RX3 yX3_ahead yX3_ahead ∈ WA := WA_in (tb4 (List.mem_of_getElem? (i := 60) rfl)) rfl
theorem wc_X3_ahead : Cond.code yX3_ahead cX3_ahead 3 (Option.some Jvm.ClassFile.FieldType.int) ∈ WA := WA_in (tb4 (List.mem_of_getElem? (i := 61) rfl)) rfl
theorem wm_L_173 : Cond.methodLink RL 173 yX3_has ∈ WA := WA_in (tb4 (List.mem_of_getElem? (i := 62) rfl)) rfl
theorem wi_X3_has : Cond.instanceMethod yX3_has ∈ WA := WA_in (tb4 (List.mem_of_getElem? (i := 63) rfl)) rfl
theorem wse_X3_has : Cond.selects RX3 yX3_has yX3_has ∈ WA := WA_in (tb4 (List.mem_of_getElem? (i := 64) rfl)) rfl
theorem wc_X3_has : Cond.code yX3_has cX3_has 4 (Option.some Jvm.ClassFile.FieldType.boolean) ∈ WA := WA_in (tb4 (List.mem_of_getElem? (i := 65) rfl)) rfl
theorem wm_L_176 : Cond.methodLink RL 176 yX3_isExact ∈ WA := WA_in (tb4 (List.mem_of_getElem? (i := 66) rfl)) rfl
theorem wi_X3_isExact : Cond.instanceMethod yX3_isExact ∈ WA := WA_in (tb4 (List.mem_of_getElem? (i := 67) rfl)) rfl
theorem wse_X3_isExact : Cond.selects RX3 yX3_isExact yX3_isExact ∈ WA := WA_in (tb4 (List.mem_of_getElem? (i := 68) rfl)) rfl
theorem wc_X3_isExact : Cond.code yX3_isExact cX3_isExact 3 (Option.some Jvm.ClassFile.FieldType.boolean) ∈ WA := WA_in (tb4 (List.mem_of_getElem? (i := 69) rfl)) rfl
theorem wm_L_179 : Cond.methodLink RL 179 yX3_split ∈ WA := WA_in (tb4 (List.mem_of_getElem? (i := 70) rfl)) rfl
theorem wi_X3_split : Cond.instanceMethod yX3_split ∈ WA := WA_in (tb4 (List.mem_of_getElem? (i := 71) rfl)) rfl
theorem wse_X3_split : Cond.selects RX3 yX3_split yX3_split ∈ WA := WA_in (tb4 (List.mem_of_getElem? (i := 72) rfl)) rfl
theorem wc_X3_split : Cond.code yX3_split cX3_split 3 (Option.some Jvm.ClassFile.FieldType.int) ∈ WA := WA_in (tb4 (List.mem_of_getElem? (i := 73) rfl)) rfl
theorem wm_X3_90 : Cond.methodLink RX3 90 yX3_halved ∈ WA := WA_in (tb4 (List.mem_of_getElem? (i := 74) rfl)) rfl
theorem wo_privateMethod_t4_75 : Cond.privateMethod yX3_halved ∈ lw_tbl := tb4 (List.mem_of_getElem? (i := 75) rfl)
theorem wi_X3_halved : Cond.instanceMethod yX3_halved ∈ WA := WA_in (tb4 (List.mem_of_getElem? (i := 76) rfl)) rfl
theorem wc_X3_halved : Cond.code yX3_halved cX3_halved 4 (Option.some Jvm.ClassFile.FieldType.int) ∈ WA := WA_in (tb4 (List.mem_of_getElem? (i := 77) rfl)) rfl
theorem wm_X3_86 : Cond.methodLink RX3 86 yX3_enter ∈ WA := WA_in (tb4 (List.mem_of_getElem? (i := 78) rfl)) rfl
theorem wo_privateMethod_t4_79 : Cond.privateMethod yX3_enter ∈ lw_tbl := tb4 (List.mem_of_getElem? (i := 79) rfl)
theorem wi_X3_enter : Cond.instanceMethod yX3_enter ∈ WA := WA_in (tb4 (List.mem_of_getElem? (i := 80) rfl)) rfl
theorem wc_X3_enter : Cond.code yX3_enter cX3_enter 6 (Option.none : Option Jvm.ClassFile.FieldType) ∈ WA := WA_in (tb4 (List.mem_of_getElem? (i := 81) rfl)) rfl
theorem wm_L_182 : Cond.methodLink RL 182 yX3_step ∈ WA := WA_in (tb4 (List.mem_of_getElem? (i := 82) rfl)) rfl
theorem wi_X3_step : Cond.instanceMethod yX3_step ∈ WA := WA_in (tb4 (List.mem_of_getElem? (i := 83) rfl)) rfl
theorem wse_X3_step : Cond.selects RX3 yX3_step yX3_step ∈ WA := WA_in (tb4 (List.mem_of_getElem? (i := 84) rfl)) rfl
theorem wc_X3_step : Cond.code yX3_step cX3_step 3 (Option.some Jvm.ClassFile.FieldType.boolean) ∈ WA := WA_in (tb4 (List.mem_of_getElem? (i := 85) rfl)) rfl
theorem wm_L_185 : Cond.methodLink RL 185 yX3_drain ∈ WA := WA_in (tb4 (List.mem_of_getElem? (i := 86) rfl)) rfl
theorem wi_X3_drain : Cond.instanceMethod yX3_drain ∈ WA := WA_in (tb4 (List.mem_of_getElem? (i := 87) rfl)) rfl
theorem wse_X3_drain : Cond.selects RX3 yX3_drain yX3_drain ∈ WA := WA_in (tb4 (List.mem_of_getElem? (i := 88) rfl)) rfl
theorem wc_X3_drain : Cond.code yX3_drain cX3_drain 5 (Option.some Jvm.ClassFile.FieldType.int) ∈ WA := WA_in (tb4 (List.mem_of_getElem? (i := 89) rfl)) rfl
theorem wm_L_188 : Cond.methodLink RL 188 yX3_iterate ∈ WA := WA_in (tb4 (List.mem_of_getElem? (i := 90) rfl)) rfl
theorem wi_X3_iterate : Cond.instanceMethod yX3_iterate ∈ WA := WA_in (tb4 (List.mem_of_getElem? (i := 91) rfl)) rfl
theorem wse_X3_iterate : Cond.selects RX3 yX3_iterate yX3_iterate ∈ WA := WA_in (tb4 (List.mem_of_getElem? (i := 92) rfl)) rfl
theorem wc_X3_iterate : Cond.code yX3_iterate cX3_iterate 3 (Option.some Jvm.ClassFile.FieldType.int) ∈ WA := WA_in (tb4 (List.mem_of_getElem? (i := 93) rfl)) rfl
theorem wm_L_191 : Cond.methodLink RL 191 yX3_hasNext ∈ WA := WA_in (tb4 (List.mem_of_getElem? (i := 94) rfl)) rfl
theorem wi_X3_hasNext : Cond.instanceMethod yX3_hasNext ∈ WA := WA_in (tb4 (List.mem_of_getElem? (i := 95) rfl)) rfl
theorem wse_X3_hasNext : Cond.selects RX3 yX3_hasNext yX3_hasNext ∈ WA := WA_in (tb4 (List.mem_of_getElem? (i := 96) rfl)) rfl
theorem wc_X3_hasNext : Cond.code yX3_hasNext cX3_hasNext 3 (Option.some Jvm.ClassFile.FieldType.boolean) ∈ WA := WA_in (tb4 (List.mem_of_getElem? (i := 97) rfl)) rfl
theorem wm_L_194 : Cond.methodLink RL 194 yX3_crumble ∈ WA := WA_in (tb4 (List.mem_of_getElem? (i := 98) rfl)) rfl
theorem wi_X3_crumble : Cond.instanceMethod yX3_crumble ∈ WA := WA_in (tb4 (List.mem_of_getElem? (i := 99) rfl)) rfl
theorem wse_X3_crumble : Cond.selects RX3 yX3_crumble yX3_crumble ∈ WA := WA_in (tb4 (List.mem_of_getElem? (i := 100) rfl)) rfl
theorem wc_X3_crumble : Cond.code yX3_crumble cX3_crumble 5 (Option.some Jvm.ClassFile.FieldType.int) ∈ WA := WA_in (tb4 (List.mem_of_getElem? (i := 101) rfl)) rfl
theorem wm_X3_93 : Cond.methodLink RX3 93 yX3_isMost ∈ WA := WA_in (tb4 (List.mem_of_getElem? (i := 102) rfl)) rfl
theorem wst_X3_isMost : Cond.static yX3_isMost ∈ WA := WA_in (tb4 (List.mem_of_getElem? (i := 103) rfl)) rfl
theorem wc_X3_isMost : Cond.code yX3_isMost cX3_isMost 1 (Option.some Jvm.ClassFile.FieldType.boolean) ∈ WA := WA_in (tb4 (List.mem_of_getElem? (i := 104) rfl)) rfl
theorem wm_L_197 : Cond.methodLink RL 197 yX3_sweep ∈ WA := WA_in (tb4 (List.mem_of_getElem? (i := 105) rfl)) rfl
theorem wi_X3_sweep : Cond.instanceMethod yX3_sweep ∈ WA := WA_in (tb4 (List.mem_of_getElem? (i := 106) rfl)) rfl
theorem wse_X3_sweep : Cond.selects RX3 yX3_sweep yX3_sweep ∈ WA := WA_in (tb4 (List.mem_of_getElem? (i := 107) rfl)) rfl
theorem wc_X3_sweep : Cond.code yX3_sweep cX3_sweep 4 (Option.some Jvm.ClassFile.FieldType.int) ∈ WA := WA_in (tb4 (List.mem_of_getElem? (i := 108) rfl)) rfl
theorem wm_L_200 : Cond.methodLink RL 200 yX3_isRead ∈ WA := WA_in (tb4 (List.mem_of_getElem? (i := 109) rfl)) rfl
theorem wi_X3_isRead : Cond.instanceMethod yX3_isRead ∈ WA := WA_in (tb4 (List.mem_of_getElem? (i := 110) rfl)) rfl
theorem wse_X3_isRead : Cond.selects RX3 yX3_isRead yX3_isRead ∈ WA := WA_in (tb4 (List.mem_of_getElem? (i := 111) rfl)) rfl
theorem wc_X3_isRead : Cond.code yX3_isRead cX3_isRead 2 (Option.some Jvm.ClassFile.FieldType.boolean) ∈ WA := WA_in (tb4 (List.mem_of_getElem? (i := 112) rfl)) rfl
theorem wm_X3_96 : Cond.methodLink RX3 96 yX3_count ∈ WA := WA_in (tb4 (List.mem_of_getElem? (i := 113) rfl)) rfl
theorem wo_privateMethod_t4_114 : Cond.privateMethod yX3_count ∈ lw_tbl := tb4 (List.mem_of_getElem? (i := 114) rfl)
theorem wi_X3_count : Cond.instanceMethod yX3_count ∈ WA := WA_in (tb4 (List.mem_of_getElem? (i := 115) rfl)) rfl
theorem wc_X3_count : Cond.code yX3_count cX3_count 5 (Option.some Jvm.ClassFile.FieldType.int) ∈ WA := WA_in (tb4 (List.mem_of_getElem? (i := 116) rfl)) rfl
theorem wm_L_204 : Cond.methodLink RL 204 yX3_fold ∈ WA := WA_in (tb4 (List.mem_of_getElem? (i := 117) rfl)) rfl
theorem wi_X3_fold : Cond.instanceMethod yX3_fold ∈ WA := WA_in (tb4 (List.mem_of_getElem? (i := 118) rfl)) rfl
theorem wse_X3_fold : Cond.selects RX3 yX3_fold yX3_fold ∈ WA := WA_in (tb4 (List.mem_of_getElem? (i := 119) rfl)) rfl
theorem wc_X3_fold : Cond.code yX3_fold cX3_fold 11 (Option.some Jvm.ClassFile.FieldType.long) ∈ WA := WA_in (tb4 (List.mem_of_getElem? (i := 120) rfl)) rfl
theorem wk_X3_100 : Cond.constantLong RX3 100 (-1 : Int64) ∈ WA := WA_in (tb4 (List.mem_of_getElem? (i := 121) rfl)) rfl
theorem wk_X3_102 : Cond.constantLong RX3 102 (31 : Int64) ∈ WA := WA_in (tb4 (List.mem_of_getElem? (i := 122) rfl)) rfl
theorem wm_L_207 : Cond.methodLink RL 207 yX3_pieces ∈ WA := WA_in (tb4 (List.mem_of_getElem? (i := 123) rfl)) rfl
theorem wi_X3_pieces : Cond.instanceMethod yX3_pieces ∈ WA := WA_in (tb4 (List.mem_of_getElem? (i := 124) rfl)) rfl
theorem wse_X3_pieces : Cond.selects RX3 yX3_pieces yX3_pieces ∈ WA := WA_in (tb4 (List.mem_of_getElem? (i := 125) rfl)) rfl
theorem wc_X3_pieces : Cond.code yX3_pieces cX3_pieces 8 (Option.some Jvm.ClassFile.FieldType.int) ∈ WA := WA_in (tb4 (List.mem_of_getElem? (i := 126) rfl)) rfl
theorem wm_L_211 : Cond.methodLink RL 211 yX3_share ∈ WA := WA_in (tb4 (List.mem_of_getElem? (i := 127) rfl)) rfl
theorem wi_X3_share : Cond.instanceMethod yX3_share ∈ WA := WA_in (tb4 (List.mem_of_getElem? (i := 128) rfl)) rfl
theorem wse_X3_share : Cond.selects RX3 yX3_share yX3_share ∈ WA := WA_in (tb4 (List.mem_of_getElem? (i := 129) rfl)) rfl
theorem wc_X3_share : Cond.code yX3_share cX3_share 2 (Option.some Jvm.ClassFile.FieldType.float) ∈ WA := WA_in (tb4 (List.mem_of_getElem? (i := 130) rfl)) rfl
theorem wm_L_214 : Cond.methodLink RL 214 yX3_meanLeft ∈ WA := WA_in (tb4 (List.mem_of_getElem? (i := 131) rfl)) rfl
theorem wi_X3_meanLeft : Cond.instanceMethod yX3_meanLeft ∈ WA := WA_in (tb4 (List.mem_of_getElem? (i := 132) rfl)) rfl
theorem wse_X3_meanLeft : Cond.selects RX3 yX3_meanLeft yX3_meanLeft ∈ WA := WA_in (tb4 (List.mem_of_getElem? (i := 133) rfl)) rfl
theorem wc_X3_meanLeft : Cond.code yX3_meanLeft cX3_meanLeft 3 (Option.some Jvm.ClassFile.FieldType.double) ∈ WA := WA_in (tb4 (List.mem_of_getElem? (i := 134) rfl)) rfl
theorem wm_L_219 : Cond.methodLink RL 219 yX3_checksum ∈ WA := WA_in (tb4 (List.mem_of_getElem? (i := 135) rfl)) rfl
theorem wi_X3_checksum : Cond.instanceMethod yX3_checksum ∈ WA := WA_in (tb4 (List.mem_of_getElem? (i := 136) rfl)) rfl
theorem wse_X3_checksum : Cond.selects RX3 yX3_checksum yX3_checksum ∈ WA := WA_in (tb4 (List.mem_of_getElem? (i := 137) rfl)) rfl
theorem wc_X3_checksum : Cond.code yX3_checksum cX3_checksum 6 (Option.some Jvm.ClassFile.FieldType.long) ∈ WA := WA_in (tb4 (List.mem_of_getElem? (i := 138) rfl)) rfl
theorem wk_X3_104 : Cond.constantLong RX3 104 (7 : Int64) ∈ WA := WA_in (tb4 (List.mem_of_getElem? (i := 139) rfl)) rfl
theorem wm_L_224 : Cond.methodLink RL 224 yX3_isSound ∈ WA := WA_in (tb4 (List.mem_of_getElem? (i := 140) rfl)) rfl
theorem wi_X3_isSound : Cond.instanceMethod yX3_isSound ∈ WA := WA_in (tb4 (List.mem_of_getElem? (i := 141) rfl)) rfl
theorem wse_X3_isSound : Cond.selects RX3 yX3_isSound yX3_isSound ∈ WA := WA_in (tb4 (List.mem_of_getElem? (i := 142) rfl)) rfl
theorem wc_X3_isSound : Cond.code yX3_isSound cX3_isSound 1 (Option.some Jvm.ClassFile.FieldType.boolean) ∈ WA := WA_in (tb4 (List.mem_of_getElem? (i := 143) rfl)) rfl
theorem wk_L_118 : Cond.constantLong RL 118 (4294967295 : Int64) ∈ WA := WA_in (tb4 (List.mem_of_getElem? (i := 144) rfl)) rfl
theorem wo_arrayClass_t4_145 : Cond.arrayClass Jvm.ClassFile.FieldType.double ∈ WA := WA_in (tb4 (List.mem_of_getElem? (i := 145) rfl)) rfl
theorem wo_sameMethod_t4_146 : Cond.sameMethod "java/lang/Throwable" "java/lang/Throwable" "fillInStackTrace" "(I)Ljava/lang/Throwable;" ∈ WA := WA_in (tb4 (List.mem_of_getElem? (i := 146) rfl)) rfl
theorem wo_castable_t4_147 : Cond.castable "java/lang/ArrayIndexOutOfBoundsException" "java/lang/IndexOutOfBoundsException" ∈ lw_tbl := tb4 (List.mem_of_getElem? (i := 147) rfl)
theorem wse_X0_standsAt : Cond.selects RX0 yX0_standsAt yX0_standsAt ∈ WA := WA_in (List.mem_append_left _ (List.mem_map.mpr ⟨(yX0_standsAt, 8), List.mem_of_getElem? (i := 0) rfl, rfl⟩)) rfl
theorem wse_X0_width : Cond.selects RX0 yX0_width yX0_width ∈ WA := WA_in (List.mem_append_left _ (List.mem_map.mpr ⟨(yX0_width, 8), List.mem_of_getElem? (i := 1) rfl, rfl⟩)) rfl
theorem wse_X2_piecesAgree : Cond.selects RX2 yX2_piecesAgree yX2_piecesAgree ∈ WA := WA_in (List.mem_append_left _ (List.mem_map.mpr ⟨(yX2_piecesAgree, 3), List.mem_of_getElem? (i := 2) rfl, rfl⟩)) rfl
theorem wse_X2_countBySplitting : Cond.selects RX2 yX2_countBySplitting yX2_countBySplitting ∈ WA := WA_in (List.mem_append_left _ (List.mem_map.mpr ⟨(yX2_countBySplitting, 3), List.mem_of_getElem? (i := 3) rfl, rfl⟩)) rfl
theorem wse_X0_putPiece : Cond.selects RX0 yX0_putPiece yX0_putPiece ∈ WA := WA_in (List.mem_append_left _ (List.mem_map.mpr ⟨(yX0_putPiece, 8), List.mem_of_getElem? (i := 4) rfl, rfl⟩)) rfl
theorem wse_X0_isTooLong : Cond.selects RX0 yX0_isTooLong yX0_isTooLong ∈ WA := WA_in (List.mem_append_left _ (List.mem_map.mpr ⟨(yX0_isTooLong, 8), List.mem_of_getElem? (i := 5) rfl, rfl⟩)) rfl
theorem wse_X0_makeRoom : Cond.selects RX0 yX0_makeRoom yX0_makeRoom ∈ WA := WA_in (List.mem_append_left _ (List.mem_map.mpr ⟨(yX0_makeRoom, 8), List.mem_of_getElem? (i := 6) rfl, rfl⟩)) rfl
theorem wse_p7 : Cond.selects "java/lang/Throwable" (⟨"java/lang/Throwable", "fillInStackTrace", "(I)Ljava/lang/Throwable;"⟩ : MethodName) (⟨"java/lang/Throwable", "fillInStackTrace", "(I)Ljava/lang/Throwable;"⟩ : MethodName) ∈ WA := WA_in (List.mem_append_left _ (List.mem_map.mpr ⟨((⟨"java/lang/Throwable", "fillInStackTrace", "(I)Ljava/lang/Throwable;"⟩ : MethodName), 6), List.mem_of_getElem? (i := 7) rfl, rfl⟩)) rfl
theorem wse_X2_rowOf : Cond.selects RX2 yX2_rowOf yX2_rowOf ∈ WA := WA_in (List.mem_append_left _ (List.mem_map.mpr ⟨(yX2_rowOf, 3), List.mem_of_getElem? (i := 8) rfl, rfl⟩)) rfl
theorem wse_X2_benchAt : Cond.selects RX2 yX2_benchAt yX2_benchAt ∈ WA := WA_in (List.mem_append_left _ (List.mem_map.mpr ⟨(yX2_benchAt, 3), List.mem_of_getElem? (i := 9) rfl, rfl⟩)) rfl
theorem wse_X2_benchWithItem : Cond.selects RX2 yX2_benchWithItem yX2_benchWithItem ∈ WA := WA_in (List.mem_append_left _ (List.mem_map.mpr ⟨(yX2_benchWithItem, 3), List.mem_of_getElem? (i := 10) rfl, rfl⟩)) rfl
theorem wse_X2_benchWithAnyPiece : Cond.selects RX2 yX2_benchWithAnyPiece yX2_benchWithAnyPiece ∈ WA := WA_in (List.mem_append_left _ (List.mem_map.mpr ⟨(yX2_benchWithAnyPiece, 3), List.mem_of_getElem? (i := 11) rfl, rfl⟩)) rfl
theorem wse_X2_benchWithPiece : Cond.selects RX2 yX2_benchWithPiece yX2_benchWithPiece ∈ WA := WA_in (List.mem_append_left _ (List.mem_map.mpr ⟨(yX2_benchWithPiece, 3), List.mem_of_getElem? (i := 12) rfl, rfl⟩)) rfl
theorem wse_X0_partAt : Cond.selects RX0 yX0_partAt yX0_partAt ∈ WA := WA_in (List.mem_append_left _ (List.mem_map.mpr ⟨(yX0_partAt, 8), List.mem_of_getElem? (i := 13) rfl, rfl⟩)) rfl
theorem wse_X0_putNumber : Cond.selects RX0 yX0_putNumber yX0_putNumber ∈ WA := WA_in (List.mem_append_left _ (List.mem_map.mpr ⟨(yX0_putNumber, 8), List.mem_of_getElem? (i := 14) rfl, rfl⟩)) rfl
theorem wse_X0_copyItem : Cond.selects RX0 yX0_copyItem yX0_copyItem ∈ WA := WA_in (List.mem_append_left _ (List.mem_map.mpr ⟨(yX0_copyItem, 8), List.mem_of_getElem? (i := 15) rfl, rfl⟩)) rfl
theorem wse_X3_can : Cond.selects RX3 yX3_can yX3_can ∈ WA := WA_in (List.mem_append_left _ (List.mem_map.mpr ⟨(yX3_can, 9), List.mem_of_getElem? (i := 16) rfl, rfl⟩)) rfl
theorem wse_X3_opened : Cond.selects RX3 yX3_opened yX3_opened ∈ WA := WA_in (List.mem_append_left _ (List.mem_map.mpr ⟨(yX3_opened, 9), List.mem_of_getElem? (i := 17) rfl, rfl⟩)) rfl
theorem wse_X3_isItem : Cond.selects RX3 yX3_isItem yX3_isItem ∈ WA := WA_in (List.mem_append_left _ (List.mem_map.mpr ⟨(yX3_isItem, 9), List.mem_of_getElem? (i := 18) rfl, rfl⟩)) rfl
theorem wse_X3_isOf : Cond.selects RX3 yX3_isOf yX3_isOf ∈ WA := WA_in (List.mem_append_left _ (List.mem_map.mpr ⟨(yX3_isOf, 9), List.mem_of_getElem? (i := 19) rfl, rfl⟩)) rfl
theorem wse_X3_before : Cond.selects RX3 yX3_before yX3_before ∈ WA := WA_in (List.mem_append_left _ (List.mem_map.mpr ⟨(yX3_before, 9), List.mem_of_getElem? (i := 20) rfl, rfl⟩)) rfl
theorem wse_X3_halved : Cond.selects RX3 yX3_halved yX3_halved ∈ WA := WA_in (List.mem_append_left _ (List.mem_map.mpr ⟨(yX3_halved, 9), List.mem_of_getElem? (i := 21) rfl, rfl⟩)) rfl
theorem wse_X3_enter : Cond.selects RX3 yX3_enter yX3_enter ∈ WA := WA_in (List.mem_append_left _ (List.mem_map.mpr ⟨(yX3_enter, 9), List.mem_of_getElem? (i := 22) rfl, rfl⟩)) rfl
theorem wse_X3_count : Cond.selects RX3 yX3_count yX3_count ∈ WA := WA_in (List.mem_append_left _ (List.mem_map.mpr ⟨(yX3_count, 9), List.mem_of_getElem? (i := 23) rfl, rfl⟩)) rfl
theorem inX0 : ∀ w ∈ wsX00, w ∈ WA := List.forall_mem_cons.mpr ⟨wl_t1_49, List.forall_mem_cons.mpr ⟨wl_t1_51, List.forall_mem_cons.mpr ⟨wl_t1_53, List.forall_mem_cons.mpr ⟨wl_t1_55, List.forall_mem_cons.mpr ⟨wl_t1_57, List.forall_mem_cons.mpr ⟨wl_t1_59, List.forall_mem_cons.mpr ⟨wl_t1_61, List.forall_mem_cons.mpr ⟨wl_t1_63, fun _ h => absurd h List.not_mem_nil⟩⟩⟩⟩⟩⟩⟩⟩
theorem inX1 : ∀ w ∈ wsX10, w ∈ WA := List.forall_mem_cons.mpr ⟨wl_t1_76, List.forall_mem_cons.mpr ⟨wl_t1_78, fun _ h => absurd h List.not_mem_nil⟩⟩
theorem inX2 : ∀ w ∈ wsX20, w ∈ WA := List.forall_mem_cons.mpr ⟨wl_t1_84, List.forall_mem_cons.mpr ⟨wl_t1_86, List.forall_mem_cons.mpr ⟨wl_t1_88, fun _ h => absurd h List.not_mem_nil⟩⟩⟩
theorem inX3 : ∀ w ∈ wsX30, w ∈ WA := List.forall_mem_cons.mpr ⟨wl_t3_195, List.forall_mem_cons.mpr ⟨wl_t3_197, List.forall_mem_cons.mpr ⟨wl_t3_199, List.forall_mem_cons.mpr ⟨wl_t3_201, List.forall_mem_cons.mpr ⟨wl_t3_203, List.forall_mem_cons.mpr ⟨wl_t3_205, List.forall_mem_cons.mpr ⟨wl_t3_207, List.forall_mem_cons.mpr ⟨wl_t3_209, List.forall_mem_cons.mpr ⟨wl_t3_211, fun _ h => absurd h List.not_mem_nil⟩⟩⟩⟩⟩⟩⟩⟩⟩
theorem goodA {big : List Cond} (hb : ∀ w ∈ WA, w ∈ big) : GoodIn big WA := fun w h => ⟨hb w h, good_of_word (List.mem_filter.mp h).2⟩
theorem goodW1 {w : Cond} (h : w ∈ WA) : w ∈ WA ∧ ((w.onTables && w.keeps) = true ∨ ∃ ty, w = .arrayClass ty) := ⟨h, good_of_word (List.mem_filter.mp h).2⟩
theorem gWA {y : MethodName} {bytes : ByteArray} {maxL : Nat} {ret : Option FieldType} (h5 : Cond.code y bytes maxL ret ∈ WA) : GoodIn WA (wA y bytes maxL ret) := fun w hw => by
  rcases List.mem_cons.mp hw with rfl | hw
  · exact goodW1 h5
  · exact goodW1 hw
theorem gWV {own C : String} {idx : Nat} {y : MethodName} {bytes : ByteArray} {maxL : Nat} {ret : Option FieldType} (h1 : Cond.methodLink own idx y ∈ WA) (h2 : Cond.instanceMethod y ∈ WA) (h3 : Cond.selects C y y ∈ WA) (h4 : Cond.initialized C ∈ WA) (h5 : Cond.code y bytes maxL ret ∈ WA) : GoodIn WA (wsV own idx C y (wA y bytes maxL ret)) := fun w hw => by
  rcases List.mem_append.mp hw with hw | hw
  · rcases List.mem_cons.mp hw with rfl | hw
    · exact goodW1 h1
    rcases List.mem_cons.mp hw with rfl | hw
    · exact goodW1 h2
    rcases List.mem_cons.mp hw with rfl | hw
    · exact goodW1 h3
    rcases List.mem_cons.mp hw with rfl | hw
    · exact goodW1 h4
    exact absurd hw List.not_mem_nil
  · exact gWA h5 w hw
theorem gWS {own : String} {idx : Nat} {y : MethodName} {bytes : ByteArray} {maxL : Nat} {ret : Option FieldType} (h1 : Cond.methodLink own idx y ∈ WA) (h2 : Cond.static y ∈ WA) (h4 : Cond.initialized y.cls ∈ WA) (h5 : Cond.code y bytes maxL ret ∈ WA) : GoodIn WA (va_wsS own idx y (wA y bytes maxL ret)) := fun w hw => by
  rcases List.mem_append.mp hw with hw | hw
  · rcases List.mem_cons.mp hw with rfl | hw
    · exact goodW1 h1
    rcases List.mem_cons.mp hw with rfl | hw
    · exact goodW1 h2
    rcases List.mem_cons.mp hw with rfl | hw
    · exact goodW1 h4
    exact absurd hw List.not_mem_nil
  · exact gWA h5 w hw
end
section
theorem dX0_init_0 : decode cX0_init 0 = .ok (.aload_n 0, 1) := by decide +kernel
theorem dX0_init_1 : decode cX0_init 1 = .ok (.invokespecial 3, 3) := by decide +kernel
theorem dX0_init_4 : decode cX0_init 4 = .ok (.aload_n 0, 1) := by decide +kernel
theorem dX0_init_5 : decode cX0_init 5 = .ok (.bipush 48, 2) := by decide +kernel
theorem dX0_init_7 : decode cX0_init 7 = .ok (.newarray .long, 2) := by decide +kernel
theorem dX0_init_9 : decode cX0_init 9 = .ok (.putfield 9, 3) := by decide +kernel
theorem dX0_init_12 : decode cX0_init 12 = .ok (.aload_n 0, 1) := by decide +kernel
theorem dX0_init_13 : decode cX0_init 13 = .ok (.bipush 96, 2) := by decide +kernel
theorem dX0_init_15 : decode cX0_init 15 = .ok (.newarray .int, 2) := by decide +kernel
theorem dX0_init_17 : decode cX0_init 17 = .ok (.putfield 15, 3) := by decide +kernel
theorem dX0_init_20 : decode cX0_init 20 = .ok (.aload_n 0, 1) := by decide +kernel
theorem dX0_init_21 : decode cX0_init 21 = .ok (.bipush 96, 2) := by decide +kernel
theorem dX0_init_23 : decode cX0_init 23 = .ok (.newarray .long, 2) := by decide +kernel
theorem dX0_init_25 : decode cX0_init 25 = .ok (.putfield 19, 3) := by decide +kernel
theorem dX0_init_28 : decode cX0_init 28 = .ok (.aload_n 0, 1) := by decide +kernel
theorem dX0_init_29 : decode cX0_init 29 = .ok (.bipush 96, 2) := by decide +kernel
theorem dX0_init_31 : decode cX0_init 31 = .ok (.newarray .int, 2) := by decide +kernel
theorem dX0_init_33 : decode cX0_init 33 = .ok (.putfield 22, 3) := by decide +kernel
theorem dX0_init_36 : decode cX0_init 36 = .ok (.aload_n 0, 1) := by decide +kernel
theorem dX0_init_37 : decode cX0_init 37 = .ok (.bipush 96, 2) := by decide +kernel
theorem dX0_init_39 : decode cX0_init 39 = .ok (.newarray .int, 2) := by decide +kernel
theorem dX0_init_41 : decode cX0_init 41 = .ok (.putfield 25, 3) := by decide +kernel
theorem dX0_init_44 : decode cX0_init 44 = .ok (.return_, 1) := by decide +kernel
theorem dX0_start_0 : decode cX0_start 0 = .ok (.aload_n 0, 1) := by decide +kernel
theorem dX0_start_1 : decode cX0_start 1 = .ok (.iconst 0, 1) := by decide +kernel
theorem dX0_start_2 : decode cX0_start 2 = .ok (.putfield 28, 3) := by decide +kernel
theorem dX0_start_5 : decode cX0_start 5 = .ok (.iload_n 2, 1) := by decide +kernel
theorem dX0_start_6 : decode cX0_start 6 = .ok (.istore 5, 2) := by decide +kernel
theorem dX0_start_8 : decode cX0_start 8 = .ok (.iload 5, 2) := by decide +kernel
theorem dX0_start_10 : decode cX0_start 10 = .ok (.iload_n 3, 1) := by decide +kernel
theorem dX0_start_11 : decode cX0_start 11 = .ok (.if_icmp .ge 46, 3) := by decide +kernel
theorem dX0_start_14 : decode cX0_start 14 = .ok (.aload_n 0, 1) := by decide +kernel
theorem dX0_start_15 : decode cX0_start 15 = .ok (.getfield 28, 3) := by decide +kernel
theorem dX0_start_18 : decode cX0_start 18 = .ok (.aload_n 0, 1) := by decide +kernel
theorem dX0_start_19 : decode cX0_start 19 = .ok (.getfield 9, 3) := by decide +kernel
theorem dX0_start_22 : decode cX0_start 22 = .ok (.arraylength, 1) := by decide +kernel
theorem dX0_start_23 : decode cX0_start 23 = .ok (.if_icmp .ge 34, 3) := by decide +kernel
theorem dX0_start_26 : decode cX0_start 26 = .ok (.aload_n 0, 1) := by decide +kernel
theorem dX0_start_27 : decode cX0_start 27 = .ok (.getfield 9, 3) := by decide +kernel
theorem dX0_start_30 : decode cX0_start 30 = .ok (.aload_n 0, 1) := by decide +kernel
theorem dX0_start_31 : decode cX0_start 31 = .ok (.getfield 28, 3) := by decide +kernel
theorem dX0_start_34 : decode cX0_start 34 = .ok (.aload_n 1, 1) := by decide +kernel
theorem dX0_start_35 : decode cX0_start 35 = .ok (.iload 5, 2) := by decide +kernel
theorem dX0_start_37 : decode cX0_start 37 = .ok (.invokevirtual 32, 3) := by decide +kernel
theorem dX0_start_40 : decode cX0_start 40 = .ok (.lastore, 1) := by decide +kernel
theorem dX0_start_41 : decode cX0_start 41 = .ok (.aload_n 0, 1) := by decide +kernel
theorem dX0_start_42 : decode cX0_start 42 = .ok (.dup, 1) := by decide +kernel
theorem dX0_start_43 : decode cX0_start 43 = .ok (.getfield 28, 3) := by decide +kernel
theorem dX0_start_46 : decode cX0_start 46 = .ok (.iconst 1, 1) := by decide +kernel
theorem dX0_start_47 : decode cX0_start 47 = .ok (.iadd, 1) := by decide +kernel
theorem dX0_start_48 : decode cX0_start 48 = .ok (.putfield 28, 3) := by decide +kernel
theorem dX0_start_51 : decode cX0_start 51 = .ok (.iinc 5 1, 3) := by decide +kernel
theorem dX0_start_54 : decode cX0_start 54 = .ok (.goto (-46), 3) := by decide +kernel
theorem dX0_start_57 : decode cX0_start 57 = .ok (.aload_n 0, 1) := by decide +kernel
theorem dX0_start_58 : decode cX0_start 58 = .ok (.iload 4, 2) := by decide +kernel
theorem dX0_start_60 : decode cX0_start 60 = .ok (.putfield 38, 3) := by decide +kernel
theorem dX0_start_63 : decode cX0_start 63 = .ok (.aload_n 0, 1) := by decide +kernel
theorem dX0_start_64 : decode cX0_start 64 = .ok (.iconst 0, 1) := by decide +kernel
theorem dX0_start_65 : decode cX0_start 65 = .ok (.iconst 0, 1) := by decide +kernel
theorem dX0_start_66 : decode cX0_start 66 = .ok (.aload_n 0, 1) := by decide +kernel
theorem dX0_start_67 : decode cX0_start 67 = .ok (.getfield 28, 3) := by decide +kernel
theorem dX0_start_70 : decode cX0_start 70 = .ok (.invokevirtual 42, 3) := by decide +kernel
theorem dX0_start_73 : decode cX0_start 73 = .ok (.aload_n 0, 1) := by decide +kernel
theorem dX0_start_74 : decode cX0_start 74 = .ok (.iconst 1, 1) := by decide +kernel
theorem dX0_start_75 : decode cX0_start 75 = .ok (.putfield 46, 3) := by decide +kernel
theorem dX0_start_78 : decode cX0_start 78 = .ok (.return_, 1) := by decide +kernel
theorem dX0_isNumber_0 : decode cX0_isNumber 0 = .ok (.aload_n 0, 1) := by decide +kernel
theorem dX0_isNumber_1 : decode cX0_isNumber 1 = .ok (.getfield 15, 3) := by decide +kernel
theorem dX0_isNumber_4 : decode cX0_isNumber 4 = .ok (.iload_n 1, 1) := by decide +kernel
theorem dX0_isNumber_5 : decode cX0_isNumber 5 = .ok (.iaload, 1) := by decide +kernel
theorem dX0_isNumber_6 : decode cX0_isNumber 6 = .ok (.bipush 110, 2) := by decide +kernel
theorem dX0_isNumber_8 : decode cX0_isNumber 8 = .ok (.if_icmp .ne 7, 3) := by decide +kernel
theorem dX0_isNumber_11 : decode cX0_isNumber 11 = .ok (.iconst 1, 1) := by decide +kernel
theorem dX0_isNumber_12 : decode cX0_isNumber 12 = .ok (.goto 4, 3) := by decide +kernel
theorem dX0_isNumber_15 : decode cX0_isNumber 15 = .ok (.iconst 0, 1) := by decide +kernel
theorem dX0_isNumber_16 : decode cX0_isNumber 16 = .ok (.ireturn, 1) := by decide +kernel
theorem dX0_remaining_0 : decode cX0_remaining 0 = .ok (.aload_n 0, 1) := by decide +kernel
theorem dX0_remaining_1 : decode cX0_remaining 1 = .ok (.iload_n 1, 1) := by decide +kernel
theorem dX0_remaining_2 : decode cX0_remaining 2 = .ok (.invokevirtual 49, 3) := by decide +kernel
theorem dX0_remaining_5 : decode cX0_remaining 5 = .ok (.ifCond .eq 7, 3) := by decide +kernel
theorem dX0_remaining_8 : decode cX0_remaining 8 = .ok (.iconst 0, 1) := by decide +kernel
theorem dX0_remaining_9 : decode cX0_remaining 9 = .ok (.goto 16, 3) := by decide +kernel
theorem dX0_remaining_12 : decode cX0_remaining 12 = .ok (.aload_n 0, 1) := by decide +kernel
theorem dX0_remaining_13 : decode cX0_remaining 13 = .ok (.getfield 25, 3) := by decide +kernel
theorem dX0_remaining_16 : decode cX0_remaining 16 = .ok (.iload_n 1, 1) := by decide +kernel
theorem dX0_remaining_17 : decode cX0_remaining 17 = .ok (.iaload, 1) := by decide +kernel
theorem dX0_remaining_18 : decode cX0_remaining 18 = .ok (.aload_n 0, 1) := by decide +kernel
theorem dX0_remaining_19 : decode cX0_remaining 19 = .ok (.getfield 22, 3) := by decide +kernel
theorem dX0_remaining_22 : decode cX0_remaining 22 = .ok (.iload_n 1, 1) := by decide +kernel
theorem dX0_remaining_23 : decode cX0_remaining 23 = .ok (.iaload, 1) := by decide +kernel
theorem dX0_remaining_24 : decode cX0_remaining 24 = .ok (.isub, 1) := by decide +kernel
theorem dX0_remaining_25 : decode cX0_remaining 25 = .ok (.ireturn, 1) := by decide +kernel
theorem dX0_placeOf_0 : decode cX0_placeOf 0 = .ok (.iconst 0, 1) := by decide +kernel
theorem dX0_placeOf_1 : decode cX0_placeOf 1 = .ok (.istore_n 2, 1) := by decide +kernel
theorem dX0_placeOf_2 : decode cX0_placeOf 2 = .ok (.iconst 0, 1) := by decide +kernel
theorem dX0_placeOf_3 : decode cX0_placeOf 3 = .ok (.istore_n 3, 1) := by decide +kernel
theorem dX0_placeOf_4 : decode cX0_placeOf 4 = .ok (.iload_n 3, 1) := by decide +kernel
theorem dX0_placeOf_5 : decode cX0_placeOf 5 = .ok (.iload_n 1, 1) := by decide +kernel
theorem dX0_placeOf_6 : decode cX0_placeOf 6 = .ok (.if_icmp .ge 25, 3) := by decide +kernel
theorem dX0_placeOf_9 : decode cX0_placeOf 9 = .ok (.iload_n 3, 1) := by decide +kernel
theorem dX0_placeOf_10 : decode cX0_placeOf 10 = .ok (.aload_n 0, 1) := by decide +kernel
theorem dX0_placeOf_11 : decode cX0_placeOf 11 = .ok (.getfield 46, 3) := by decide +kernel
theorem dX0_placeOf_14 : decode cX0_placeOf 14 = .ok (.if_icmp .ge 17, 3) := by decide +kernel
theorem dX0_placeOf_17 : decode cX0_placeOf 17 = .ok (.iload_n 2, 1) := by decide +kernel
theorem dX0_placeOf_18 : decode cX0_placeOf 18 = .ok (.aload_n 0, 1) := by decide +kernel
theorem dX0_placeOf_19 : decode cX0_placeOf 19 = .ok (.iload_n 3, 1) := by decide +kernel
theorem dX0_placeOf_20 : decode cX0_placeOf 20 = .ok (.invokevirtual 53, 3) := by decide +kernel
theorem dX0_placeOf_23 : decode cX0_placeOf 23 = .ok (.iadd, 1) := by decide +kernel
theorem dX0_placeOf_24 : decode cX0_placeOf 24 = .ok (.istore_n 2, 1) := by decide +kernel
theorem dX0_placeOf_25 : decode cX0_placeOf 25 = .ok (.iinc 3 1, 3) := by decide +kernel
theorem dX0_placeOf_28 : decode cX0_placeOf 28 = .ok (.goto (-24), 3) := by decide +kernel
theorem dX0_placeOf_31 : decode cX0_placeOf 31 = .ok (.iload_n 2, 1) := by decide +kernel
theorem dX0_placeOf_32 : decode cX0_placeOf 32 = .ok (.ireturn, 1) := by decide +kernel
theorem dX0_hasAll_0 : decode cX0_hasAll 0 = .ok (.aload_n 0, 1) := by decide +kernel
theorem dX0_hasAll_1 : decode cX0_hasAll 1 = .ok (.getfield 15, 3) := by decide +kernel
theorem dX0_hasAll_4 : decode cX0_hasAll 4 = .ok (.iload_n 1, 1) := by decide +kernel
theorem dX0_hasAll_5 : decode cX0_hasAll 5 = .ok (.iaload, 1) := by decide +kernel
theorem dX0_hasAll_6 : decode cX0_hasAll 6 = .ok (.bipush 112, 2) := by decide +kernel
theorem dX0_hasAll_8 : decode cX0_hasAll 8 = .ok (.if_icmp .ne 9, 3) := by decide +kernel
theorem dX0_hasAll_11 : decode cX0_hasAll 11 = .ok (.sipush 17488, 3) := by decide +kernel
theorem dX0_hasAll_14 : decode cX0_hasAll 14 = .ok (.goto 4, 3) := by decide +kernel
theorem dX0_hasAll_17 : decode cX0_hasAll 17 = .ok (.iconst 0, 1) := by decide +kernel
theorem dX0_hasAll_18 : decode cX0_hasAll 18 = .ok (.istore_n 3, 1) := by decide +kernel
theorem dX0_hasAll_19 : decode cX0_hasAll 19 = .ok (.iload_n 3, 1) := by decide +kernel
theorem dX0_hasAll_20 : decode cX0_hasAll 20 = .ok (.iload_n 2, 1) := by decide +kernel
theorem dX0_hasAll_21 : decode cX0_hasAll 21 = .ok (.iand, 1) := by decide +kernel
theorem dX0_hasAll_22 : decode cX0_hasAll 22 = .ok (.iload_n 2, 1) := by decide +kernel
theorem dX0_hasAll_23 : decode cX0_hasAll 23 = .ok (.if_icmp .ne 7, 3) := by decide +kernel
theorem dX0_hasAll_26 : decode cX0_hasAll 26 = .ok (.iconst 1, 1) := by decide +kernel
theorem dX0_hasAll_27 : decode cX0_hasAll 27 = .ok (.goto 4, 3) := by decide +kernel
theorem dX0_hasAll_30 : decode cX0_hasAll 30 = .ok (.iconst 0, 1) := by decide +kernel
theorem dX0_hasAll_31 : decode cX0_hasAll 31 = .ok (.ireturn, 1) := by decide +kernel
theorem dX0_halve_0 : decode cX0_halve 0 = .ok (.aload_n 0, 1) := by decide +kernel
theorem dX0_halve_1 : decode cX0_halve 1 = .ok (.iload_n 1, 1) := by decide +kernel
theorem dX0_halve_2 : decode cX0_halve 2 = .ok (.invokevirtual 57, 3) := by decide +kernel
theorem dX0_halve_5 : decode cX0_halve 5 = .ok (.istore_n 2, 1) := by decide +kernel
theorem dX0_halve_6 : decode cX0_halve 6 = .ok (.iload_n 2, 1) := by decide +kernel
theorem dX0_halve_7 : decode cX0_halve 7 = .ok (.iconst 2, 1) := by decide +kernel
theorem dX0_halve_8 : decode cX0_halve 8 = .ok (.if_icmp .lt 12, 3) := by decide +kernel
theorem dX0_halve_11 : decode cX0_halve 11 = .ok (.aload_n 0, 1) := by decide +kernel
theorem dX0_halve_12 : decode cX0_halve 12 = .ok (.iload_n 1, 1) := by decide +kernel
theorem dX0_halve_13 : decode cX0_halve 13 = .ok (.iconst 1, 1) := by decide +kernel
theorem dX0_halve_14 : decode cX0_halve 14 = .ok (.invokevirtual 60, 3) := by decide +kernel
theorem dX0_halve_17 : decode cX0_halve 17 = .ok (.ifCond .ne 5, 3) := by decide +kernel
theorem dX0_halve_20 : decode cX0_halve 20 = .ok (.iconst (-1), 1) := by decide +kernel
theorem dX0_halve_21 : decode cX0_halve 21 = .ok (.ireturn, 1) := by decide +kernel
theorem dX0_halve_22 : decode cX0_halve 22 = .ok (.iload_n 1, 1) := by decide +kernel
theorem dX0_halve_23 : decode cX0_halve 23 = .ok (.iconst 1, 1) := by decide +kernel
theorem dX0_halve_24 : decode cX0_halve 24 = .ok (.iadd, 1) := by decide +kernel
theorem dX0_halve_25 : decode cX0_halve 25 = .ok (.istore_n 3, 1) := by decide +kernel
theorem dX0_halve_26 : decode cX0_halve 26 = .ok (.aload_n 0, 1) := by decide +kernel
theorem dX0_halve_27 : decode cX0_halve 27 = .ok (.getfield 22, 3) := by decide +kernel
theorem dX0_halve_30 : decode cX0_halve 30 = .ok (.iload_n 3, 1) := by decide +kernel
theorem dX0_halve_31 : decode cX0_halve 31 = .ok (.iaload, 1) := by decide +kernel
theorem dX0_halve_32 : decode cX0_halve 32 = .ok (.iload_n 2, 1) := by decide +kernel
theorem dX0_halve_33 : decode cX0_halve 33 = .ok (.iconst 2, 1) := by decide +kernel
theorem dX0_halve_34 : decode cX0_halve 34 = .ok (.idiv, 1) := by decide +kernel
theorem dX0_halve_35 : decode cX0_halve 35 = .ok (.iadd, 1) := by decide +kernel
theorem dX0_halve_36 : decode cX0_halve 36 = .ok (.istore 4, 2) := by decide +kernel
theorem dX0_halve_38 : decode cX0_halve 38 = .ok (.aload_n 0, 1) := by decide +kernel
theorem dX0_halve_39 : decode cX0_halve 39 = .ok (.iload_n 1, 1) := by decide +kernel
theorem dX0_halve_40 : decode cX0_halve 40 = .ok (.aload_n 0, 1) := by decide +kernel
theorem dX0_halve_41 : decode cX0_halve 41 = .ok (.getfield 22, 3) := by decide +kernel
theorem dX0_halve_44 : decode cX0_halve 44 = .ok (.iload_n 3, 1) := by decide +kernel
theorem dX0_halve_45 : decode cX0_halve 45 = .ok (.iaload, 1) := by decide +kernel
theorem dX0_halve_46 : decode cX0_halve 46 = .ok (.iload 4, 2) := by decide +kernel
theorem dX0_halve_48 : decode cX0_halve 48 = .ok (.invokevirtual 42, 3) := by decide +kernel
theorem dX0_halve_51 : decode cX0_halve 51 = .ok (.aload_n 0, 1) := by decide +kernel
theorem dX0_halve_52 : decode cX0_halve 52 = .ok (.getfield 22, 3) := by decide +kernel
theorem dX0_halve_55 : decode cX0_halve 55 = .ok (.iload_n 3, 1) := by decide +kernel
theorem dX0_halve_56 : decode cX0_halve 56 = .ok (.iload 4, 2) := by decide +kernel
theorem dX0_halve_58 : decode cX0_halve 58 = .ok (.iastore, 1) := by decide +kernel
theorem dX0_halve_59 : decode cX0_halve 59 = .ok (.iload_n 2, 1) := by decide +kernel
theorem dX0_halve_60 : decode cX0_halve 60 = .ok (.iconst 2, 1) := by decide +kernel
theorem dX0_halve_61 : decode cX0_halve 61 = .ok (.idiv, 1) := by decide +kernel
theorem dX0_halve_62 : decode cX0_halve 62 = .ok (.ireturn, 1) := by decide +kernel
theorem dX0_halveAll_0 : decode cX0_halveAll 0 = .ok (.aload_n 0, 1) := by decide +kernel
theorem dX0_halveAll_1 : decode cX0_halveAll 1 = .ok (.getfield 46, 3) := by decide +kernel
theorem dX0_halveAll_4 : decode cX0_halveAll 4 = .ok (.istore_n 2, 1) := by decide +kernel
theorem dX0_halveAll_5 : decode cX0_halveAll 5 = .ok (.iconst 0, 1) := by decide +kernel
theorem dX0_halveAll_6 : decode cX0_halveAll 6 = .ok (.istore_n 3, 1) := by decide +kernel
theorem dX0_halveAll_7 : decode cX0_halveAll 7 = .ok (.iload_n 3, 1) := by decide +kernel
theorem dX0_halveAll_8 : decode cX0_halveAll 8 = .ok (.aload_n 0, 1) := by decide +kernel
theorem dX0_halveAll_9 : decode cX0_halveAll 9 = .ok (.getfield 46, 3) := by decide +kernel
theorem dX0_halveAll_12 : decode cX0_halveAll 12 = .ok (.if_icmp .ge 46, 3) := by decide +kernel
theorem dX0_halveAll_15 : decode cX0_halveAll 15 = .ok (.iload_n 3, 1) := by decide +kernel
theorem dX0_halveAll_16 : decode cX0_halveAll 16 = .ok (.bipush 96, 2) := by decide +kernel
theorem dX0_halveAll_18 : decode cX0_halveAll 18 = .ok (.if_icmp .ge 40, 3) := by decide +kernel
theorem dX0_halveAll_21 : decode cX0_halveAll 21 = .ok (.iconst 0, 1) := by decide +kernel
theorem dX0_halveAll_22 : decode cX0_halveAll 22 = .ok (.istore 4, 2) := by decide +kernel
theorem dX0_halveAll_24 : decode cX0_halveAll 24 = .ok (.iload 4, 2) := by decide +kernel
theorem dX0_halveAll_26 : decode cX0_halveAll 26 = .ok (.bipush 8, 2) := by decide +kernel
theorem dX0_halveAll_28 : decode cX0_halveAll 28 = .ok (.if_icmp .ge 24, 3) := by decide +kernel
theorem dX0_halveAll_31 : decode cX0_halveAll 31 = .ok (.aload_n 0, 1) := by decide +kernel
theorem dX0_halveAll_32 : decode cX0_halveAll 32 = .ok (.iload_n 3, 1) := by decide +kernel
theorem dX0_halveAll_33 : decode cX0_halveAll 33 = .ok (.iload_n 1, 1) := by decide +kernel
theorem dX0_halveAll_34 : decode cX0_halveAll 34 = .ok (.invokevirtual 64, 3) := by decide +kernel
theorem dX0_halveAll_37 : decode cX0_halveAll 37 = .ok (.ifCond .eq 15, 3) := by decide +kernel
theorem dX0_halveAll_40 : decode cX0_halveAll 40 = .ok (.aload_n 0, 1) := by decide +kernel
theorem dX0_halveAll_41 : decode cX0_halveAll 41 = .ok (.iload_n 3, 1) := by decide +kernel
theorem dX0_halveAll_42 : decode cX0_halveAll 42 = .ok (.invokevirtual 67, 3) := by decide +kernel
theorem dX0_halveAll_45 : decode cX0_halveAll 45 = .ok (.pop, 1) := by decide +kernel
theorem dX0_halveAll_46 : decode cX0_halveAll 46 = .ok (.iinc 4 1, 3) := by decide +kernel
theorem dX0_halveAll_49 : decode cX0_halveAll 49 = .ok (.goto (-25), 3) := by decide +kernel
theorem dX0_halveAll_52 : decode cX0_halveAll 52 = .ok (.iinc 3 1, 3) := by decide +kernel
theorem dX0_halveAll_55 : decode cX0_halveAll 55 = .ok (.goto (-48), 3) := by decide +kernel
theorem dX0_halveAll_58 : decode cX0_halveAll 58 = .ok (.aload_n 0, 1) := by decide +kernel
theorem dX0_halveAll_59 : decode cX0_halveAll 59 = .ok (.getfield 46, 3) := by decide +kernel
theorem dX0_halveAll_62 : decode cX0_halveAll 62 = .ok (.iload_n 2, 1) := by decide +kernel
theorem dX0_halveAll_63 : decode cX0_halveAll 63 = .ok (.isub, 1) := by decide +kernel
theorem dX0_halveAll_64 : decode cX0_halveAll 64 = .ok (.ireturn, 1) := by decide +kernel
theorem dX0_give_0 : decode cX0_give 0 = .ok (.iload_n 2, 1) := by decide +kernel
theorem dX0_give_1 : decode cX0_give 1 = .ok (.aload_n 0, 1) := by decide +kernel
theorem dX0_give_2 : decode cX0_give 2 = .ok (.iload_n 1, 1) := by decide +kernel
theorem dX0_give_3 : decode cX0_give 3 = .ok (.invokevirtual 57, 3) := by decide +kernel
theorem dX0_give_6 : decode cX0_give 6 = .ok (.invokestatic 70, 3) := by decide +kernel
theorem dX0_give_9 : decode cX0_give 9 = .ok (.istore_n 3, 1) := by decide +kernel
theorem dX0_give_10 : decode cX0_give 10 = .ok (.iload_n 3, 1) := by decide +kernel
theorem dX0_give_11 : decode cX0_give 11 = .ok (.iconst 1, 1) := by decide +kernel
theorem dX0_give_12 : decode cX0_give 12 = .ok (.if_icmp .lt 12, 3) := by decide +kernel
theorem dX0_give_15 : decode cX0_give 15 = .ok (.aload_n 0, 1) := by decide +kernel
theorem dX0_give_16 : decode cX0_give 16 = .ok (.iload_n 1, 1) := by decide +kernel
theorem dX0_give_17 : decode cX0_give 17 = .ok (.iload_n 3, 1) := by decide +kernel
theorem dX0_give_18 : decode cX0_give 18 = .ok (.invokevirtual 60, 3) := by decide +kernel
theorem dX0_give_21 : decode cX0_give 21 = .ok (.ifCond .ne 5, 3) := by decide +kernel
theorem dX0_give_24 : decode cX0_give 24 = .ok (.iconst 0, 1) := by decide +kernel
theorem dX0_give_25 : decode cX0_give 25 = .ok (.ireturn, 1) := by decide +kernel
theorem dX0_give_26 : decode cX0_give 26 = .ok (.iload_n 1, 1) := by decide +kernel
theorem dX0_give_27 : decode cX0_give 27 = .ok (.iload_n 3, 1) := by decide +kernel
theorem dX0_give_28 : decode cX0_give 28 = .ok (.iadd, 1) := by decide +kernel
theorem dX0_give_29 : decode cX0_give 29 = .ok (.istore 4, 2) := by decide +kernel
theorem dX0_give_31 : decode cX0_give 31 = .ok (.iload_n 1, 1) := by decide +kernel
theorem dX0_give_32 : decode cX0_give 32 = .ok (.istore 5, 2) := by decide +kernel
theorem dX0_give_34 : decode cX0_give 34 = .ok (.iload 5, 2) := by decide +kernel
theorem dX0_give_36 : decode cX0_give 36 = .ok (.iload 4, 2) := by decide +kernel
theorem dX0_give_38 : decode cX0_give 38 = .ok (.if_icmp .ge 37, 3) := by decide +kernel
theorem dX0_give_41 : decode cX0_give 41 = .ok (.aload_n 0, 1) := by decide +kernel
theorem dX0_give_42 : decode cX0_give 42 = .ok (.iload 5, 2) := by decide +kernel
theorem dX0_give_44 : decode cX0_give 44 = .ok (.aload_n 0, 1) := by decide +kernel
theorem dX0_give_45 : decode cX0_give 45 = .ok (.aload_n 0, 1) := by decide +kernel
theorem dX0_give_46 : decode cX0_give 46 = .ok (.getfield 22, 3) := by decide +kernel
theorem dX0_give_49 : decode cX0_give 49 = .ok (.iload 4, 2) := by decide +kernel
theorem dX0_give_51 : decode cX0_give 51 = .ok (.iaload, 1) := by decide +kernel
theorem dX0_give_52 : decode cX0_give 52 = .ok (.invokevirtual 76, 3) := by decide +kernel
theorem dX0_give_55 : decode cX0_give 55 = .ok (.invokevirtual 79, 3) := by decide +kernel
theorem dX0_give_58 : decode cX0_give 58 = .ok (.aload_n 0, 1) := by decide +kernel
theorem dX0_give_59 : decode cX0_give 59 = .ok (.getfield 22, 3) := by decide +kernel
theorem dX0_give_62 : decode cX0_give 62 = .ok (.iload 4, 2) := by decide +kernel
theorem dX0_give_64 : decode cX0_give 64 = .ok (.dup2, 1) := by decide +kernel
theorem dX0_give_65 : decode cX0_give 65 = .ok (.iaload, 1) := by decide +kernel
theorem dX0_give_66 : decode cX0_give 66 = .ok (.iconst 1, 1) := by decide +kernel
theorem dX0_give_67 : decode cX0_give 67 = .ok (.iadd, 1) := by decide +kernel
theorem dX0_give_68 : decode cX0_give 68 = .ok (.iastore, 1) := by decide +kernel
theorem dX0_give_69 : decode cX0_give 69 = .ok (.iinc 5 1, 3) := by decide +kernel
theorem dX0_give_72 : decode cX0_give 72 = .ok (.goto (-38), 3) := by decide +kernel
theorem dX0_give_75 : decode cX0_give 75 = .ok (.iload_n 3, 1) := by decide +kernel
theorem dX0_give_76 : decode cX0_give 76 = .ok (.ireturn, 1) := by decide +kernel
theorem dX0_removeEmpty_0 : decode cX0_removeEmpty 0 = .ok (.iconst 0, 1) := by decide +kernel
theorem dX0_removeEmpty_1 : decode cX0_removeEmpty 1 = .ok (.istore_n 1, 1) := by decide +kernel
theorem dX0_removeEmpty_2 : decode cX0_removeEmpty 2 = .ok (.iconst 0, 1) := by decide +kernel
theorem dX0_removeEmpty_3 : decode cX0_removeEmpty 3 = .ok (.istore_n 2, 1) := by decide +kernel
theorem dX0_removeEmpty_4 : decode cX0_removeEmpty 4 = .ok (.iload_n 2, 1) := by decide +kernel
theorem dX0_removeEmpty_5 : decode cX0_removeEmpty 5 = .ok (.aload_n 0, 1) := by decide +kernel
theorem dX0_removeEmpty_6 : decode cX0_removeEmpty 6 = .ok (.getfield 46, 3) := by decide +kernel
theorem dX0_removeEmpty_9 : decode cX0_removeEmpty 9 = .ok (.if_icmp .ge 26, 3) := by decide +kernel
theorem dX0_removeEmpty_12 : decode cX0_removeEmpty 12 = .ok (.aload_n 0, 1) := by decide +kernel
theorem dX0_removeEmpty_13 : decode cX0_removeEmpty 13 = .ok (.iload_n 2, 1) := by decide +kernel
theorem dX0_removeEmpty_14 : decode cX0_removeEmpty 14 = .ok (.invokevirtual 53, 3) := by decide +kernel
theorem dX0_removeEmpty_17 : decode cX0_removeEmpty 17 = .ok (.ifCond .le 12, 3) := by decide +kernel
theorem dX0_removeEmpty_20 : decode cX0_removeEmpty 20 = .ok (.aload_n 0, 1) := by decide +kernel
theorem dX0_removeEmpty_21 : decode cX0_removeEmpty 21 = .ok (.iload_n 2, 1) := by decide +kernel
theorem dX0_removeEmpty_22 : decode cX0_removeEmpty 22 = .ok (.iload_n 1, 1) := by decide +kernel
theorem dX0_removeEmpty_23 : decode cX0_removeEmpty 23 = .ok (.invokevirtual 83, 3) := by decide +kernel
theorem dX0_removeEmpty_26 : decode cX0_removeEmpty 26 = .ok (.iinc 1 1, 3) := by decide +kernel
theorem dX0_removeEmpty_29 : decode cX0_removeEmpty 29 = .ok (.iinc 2 1, 3) := by decide +kernel
theorem dX0_removeEmpty_32 : decode cX0_removeEmpty 32 = .ok (.goto (-28), 3) := by decide +kernel
theorem dX0_removeEmpty_35 : decode cX0_removeEmpty 35 = .ok (.aload_n 0, 1) := by decide +kernel
theorem dX0_removeEmpty_36 : decode cX0_removeEmpty 36 = .ok (.getfield 46, 3) := by decide +kernel
theorem dX0_removeEmpty_39 : decode cX0_removeEmpty 39 = .ok (.iload_n 1, 1) := by decide +kernel
theorem dX0_removeEmpty_40 : decode cX0_removeEmpty 40 = .ok (.isub, 1) := by decide +kernel
theorem dX0_removeEmpty_41 : decode cX0_removeEmpty 41 = .ok (.istore_n 2, 1) := by decide +kernel
theorem dX0_removeEmpty_42 : decode cX0_removeEmpty 42 = .ok (.aload_n 0, 1) := by decide +kernel
theorem dX0_removeEmpty_43 : decode cX0_removeEmpty 43 = .ok (.iload_n 1, 1) := by decide +kernel
theorem dX0_removeEmpty_44 : decode cX0_removeEmpty 44 = .ok (.putfield 46, 3) := by decide +kernel
theorem dX0_removeEmpty_47 : decode cX0_removeEmpty 47 = .ok (.iload_n 2, 1) := by decide +kernel
theorem dX0_removeEmpty_48 : decode cX0_removeEmpty 48 = .ok (.ireturn, 1) := by decide +kernel
theorem dX0_isWholePart_0 : decode cX0_isWholePart 0 = .ok (.aload_n 0, 1) := by decide +kernel
theorem dX0_isWholePart_1 : decode cX0_isWholePart 1 = .ok (.invokevirtual 87, 3) := by decide +kernel
theorem dX0_isWholePart_4 : decode cX0_isWholePart 4 = .ok (.aload_n 0, 1) := by decide +kernel
theorem dX0_isWholePart_5 : decode cX0_isWholePart 5 = .ok (.getfield 46, 3) := by decide +kernel
theorem dX0_isWholePart_8 : decode cX0_isWholePart 8 = .ok (.if_icmp .ne 14, 3) := by decide +kernel
theorem dX0_isWholePart_11 : decode cX0_isWholePart 11 = .ok (.aload_n 0, 1) := by decide +kernel
theorem dX0_isWholePart_12 : decode cX0_isWholePart 12 = .ok (.invokevirtual 91, 3) := by decide +kernel
theorem dX0_isWholePart_15 : decode cX0_isWholePart 15 = .ok (.ifCond .eq 7, 3) := by decide +kernel
theorem dX0_isWholePart_18 : decode cX0_isWholePart 18 = .ok (.iconst 1, 1) := by decide +kernel
theorem dX0_isWholePart_19 : decode cX0_isWholePart 19 = .ok (.goto 4, 3) := by decide +kernel
theorem dX0_isWholePart_22 : decode cX0_isWholePart 22 = .ok (.iconst 0, 1) := by decide +kernel
theorem dX0_isWholePart_23 : decode cX0_isWholePart 23 = .ok (.ireturn, 1) := by decide +kernel
theorem dX0_countNumbers_0 : decode cX0_countNumbers 0 = .ok (.iconst 0, 1) := by decide +kernel
theorem dX0_countNumbers_1 : decode cX0_countNumbers 1 = .ok (.istore_n 1, 1) := by decide +kernel
theorem dX0_countNumbers_2 : decode cX0_countNumbers 2 = .ok (.iconst 0, 1) := by decide +kernel
theorem dX0_countNumbers_3 : decode cX0_countNumbers 3 = .ok (.istore_n 2, 1) := by decide +kernel
theorem dX0_countNumbers_4 : decode cX0_countNumbers 4 = .ok (.iload_n 2, 1) := by decide +kernel
theorem dX0_countNumbers_5 : decode cX0_countNumbers 5 = .ok (.aload_n 0, 1) := by decide +kernel
theorem dX0_countNumbers_6 : decode cX0_countNumbers 6 = .ok (.getfield 46, 3) := by decide +kernel
theorem dX0_countNumbers_9 : decode cX0_countNumbers 9 = .ok (.if_icmp .ge 25, 3) := by decide +kernel
theorem dX0_countNumbers_12 : decode cX0_countNumbers 12 = .ok (.iload_n 1, 1) := by decide +kernel
theorem dX0_countNumbers_13 : decode cX0_countNumbers 13 = .ok (.aload_n 0, 1) := by decide +kernel
theorem dX0_countNumbers_14 : decode cX0_countNumbers 14 = .ok (.iload_n 2, 1) := by decide +kernel
theorem dX0_countNumbers_15 : decode cX0_countNumbers 15 = .ok (.invokevirtual 49, 3) := by decide +kernel
theorem dX0_countNumbers_18 : decode cX0_countNumbers 18 = .ok (.ifCond .eq 7, 3) := by decide +kernel
theorem dX0_countNumbers_21 : decode cX0_countNumbers 21 = .ok (.iconst 1, 1) := by decide +kernel
theorem dX0_countNumbers_22 : decode cX0_countNumbers 22 = .ok (.goto 4, 3) := by decide +kernel
theorem dX0_countNumbers_25 : decode cX0_countNumbers 25 = .ok (.iconst 0, 1) := by decide +kernel
theorem dX0_countNumbers_26 : decode cX0_countNumbers 26 = .ok (.iadd, 1) := by decide +kernel
theorem dX0_countNumbers_27 : decode cX0_countNumbers 27 = .ok (.istore_n 1, 1) := by decide +kernel
theorem dX0_countNumbers_28 : decode cX0_countNumbers 28 = .ok (.iinc 2 1, 3) := by decide +kernel
theorem dX0_countNumbers_31 : decode cX0_countNumbers 31 = .ok (.goto (-27), 3) := by decide +kernel
theorem dX0_countNumbers_34 : decode cX0_countNumbers 34 = .ok (.iload_n 1, 1) := by decide +kernel
theorem dX0_countNumbers_35 : decode cX0_countNumbers 35 = .ok (.ireturn, 1) := by decide +kernel
theorem dX0_countLeft_0 : decode cX0_countLeft 0 = .ok (.iconst 0, 1) := by decide +kernel
theorem dX0_countLeft_1 : decode cX0_countLeft 1 = .ok (.istore_n 1, 1) := by decide +kernel
theorem dX0_countLeft_2 : decode cX0_countLeft 2 = .ok (.iconst 0, 1) := by decide +kernel
theorem dX0_countLeft_3 : decode cX0_countLeft 3 = .ok (.istore_n 2, 1) := by decide +kernel
theorem dX0_countLeft_4 : decode cX0_countLeft 4 = .ok (.iload_n 2, 1) := by decide +kernel
theorem dX0_countLeft_5 : decode cX0_countLeft 5 = .ok (.aload_n 0, 1) := by decide +kernel
theorem dX0_countLeft_6 : decode cX0_countLeft 6 = .ok (.getfield 46, 3) := by decide +kernel
theorem dX0_countLeft_9 : decode cX0_countLeft 9 = .ok (.if_icmp .ge 17, 3) := by decide +kernel
theorem dX0_countLeft_12 : decode cX0_countLeft 12 = .ok (.iload_n 1, 1) := by decide +kernel
theorem dX0_countLeft_13 : decode cX0_countLeft 13 = .ok (.aload_n 0, 1) := by decide +kernel
theorem dX0_countLeft_14 : decode cX0_countLeft 14 = .ok (.iload_n 2, 1) := by decide +kernel
theorem dX0_countLeft_15 : decode cX0_countLeft 15 = .ok (.invokevirtual 57, 3) := by decide +kernel
theorem dX0_countLeft_18 : decode cX0_countLeft 18 = .ok (.iadd, 1) := by decide +kernel
theorem dX0_countLeft_19 : decode cX0_countLeft 19 = .ok (.istore_n 1, 1) := by decide +kernel
theorem dX0_countLeft_20 : decode cX0_countLeft 20 = .ok (.iinc 2 1, 3) := by decide +kernel
theorem dX0_countLeft_23 : decode cX0_countLeft 23 = .ok (.goto (-19), 3) := by decide +kernel
theorem dX0_countLeft_26 : decode cX0_countLeft 26 = .ok (.iload_n 1, 1) := by decide +kernel
theorem dX0_countLeft_27 : decode cX0_countLeft 27 = .ok (.ireturn, 1) := by decide +kernel
theorem dX0_addTo_0 : decode cX0_addTo 0 = .ok (.ldc2_w 95, 3) := by decide +kernel
theorem dX0_addTo_3 : decode cX0_addTo 3 = .ok (.lload_n 1, 1) := by decide +kernel
theorem dX0_addTo_4 : decode cX0_addTo 4 = .ok (.lmul, 1) := by decide +kernel
theorem dX0_addTo_5 : decode cX0_addTo 5 = .ok (.aload_n 0, 1) := by decide +kernel
theorem dX0_addTo_6 : decode cX0_addTo 6 = .ok (.getfield 46, 3) := by decide +kernel
theorem dX0_addTo_9 : decode cX0_addTo 9 = .ok (.i2l, 1) := by decide +kernel
theorem dX0_addTo_10 : decode cX0_addTo 10 = .ok (.ladd, 1) := by decide +kernel
theorem dX0_addTo_11 : decode cX0_addTo 11 = .ok (.lstore_n 3, 1) := by decide +kernel
theorem dX0_addTo_12 : decode cX0_addTo 12 = .ok (.iconst 0, 1) := by decide +kernel
theorem dX0_addTo_13 : decode cX0_addTo 13 = .ok (.istore 5, 2) := by decide +kernel
theorem dX0_addTo_15 : decode cX0_addTo 15 = .ok (.iload 5, 2) := by decide +kernel
theorem dX0_addTo_17 : decode cX0_addTo 17 = .ok (.aload_n 0, 1) := by decide +kernel
theorem dX0_addTo_18 : decode cX0_addTo 18 = .ok (.getfield 46, 3) := by decide +kernel
theorem dX0_addTo_21 : decode cX0_addTo 21 = .ok (.if_icmp .ge 57, 3) := by decide +kernel
theorem dX0_addTo_24 : decode cX0_addTo 24 = .ok (.ldc2_w 95, 3) := by decide +kernel
theorem dX0_addTo_27 : decode cX0_addTo 27 = .ok (.lload_n 3, 1) := by decide +kernel
theorem dX0_addTo_28 : decode cX0_addTo 28 = .ok (.lmul, 1) := by decide +kernel
theorem dX0_addTo_29 : decode cX0_addTo 29 = .ok (.aload_n 0, 1) := by decide +kernel
theorem dX0_addTo_30 : decode cX0_addTo 30 = .ok (.getfield 15, 3) := by decide +kernel
theorem dX0_addTo_33 : decode cX0_addTo 33 = .ok (.iload 5, 2) := by decide +kernel
theorem dX0_addTo_35 : decode cX0_addTo 35 = .ok (.iaload, 1) := by decide +kernel
theorem dX0_addTo_36 : decode cX0_addTo 36 = .ok (.i2l, 1) := by decide +kernel
theorem dX0_addTo_37 : decode cX0_addTo 37 = .ok (.ladd, 1) := by decide +kernel
theorem dX0_addTo_38 : decode cX0_addTo 38 = .ok (.lstore_n 3, 1) := by decide +kernel
theorem dX0_addTo_39 : decode cX0_addTo 39 = .ok (.ldc2_w 95, 3) := by decide +kernel
theorem dX0_addTo_42 : decode cX0_addTo 42 = .ok (.lload_n 3, 1) := by decide +kernel
theorem dX0_addTo_43 : decode cX0_addTo 43 = .ok (.lmul, 1) := by decide +kernel
theorem dX0_addTo_44 : decode cX0_addTo 44 = .ok (.aload_n 0, 1) := by decide +kernel
theorem dX0_addTo_45 : decode cX0_addTo 45 = .ok (.iload 5, 2) := by decide +kernel
theorem dX0_addTo_47 : decode cX0_addTo 47 = .ok (.invokevirtual 49, 3) := by decide +kernel
theorem dX0_addTo_50 : decode cX0_addTo 50 = .ok (.ifCond .eq 13, 3) := by decide +kernel
theorem dX0_addTo_53 : decode cX0_addTo 53 = .ok (.aload_n 0, 1) := by decide +kernel
theorem dX0_addTo_54 : decode cX0_addTo 54 = .ok (.getfield 19, 3) := by decide +kernel
theorem dX0_addTo_57 : decode cX0_addTo 57 = .ok (.iload 5, 2) := by decide +kernel
theorem dX0_addTo_59 : decode cX0_addTo 59 = .ok (.laload, 1) := by decide +kernel
theorem dX0_addTo_60 : decode cX0_addTo 60 = .ok (.goto 10, 3) := by decide +kernel
theorem dX0_addTo_63 : decode cX0_addTo 63 = .ok (.aload_n 0, 1) := by decide +kernel
theorem dX0_addTo_64 : decode cX0_addTo 64 = .ok (.iload 5, 2) := by decide +kernel
theorem dX0_addTo_66 : decode cX0_addTo 66 = .ok (.invokevirtual 57, 3) := by decide +kernel
theorem dX0_addTo_69 : decode cX0_addTo 69 = .ok (.i2l, 1) := by decide +kernel
theorem dX0_addTo_70 : decode cX0_addTo 70 = .ok (.ladd, 1) := by decide +kernel
theorem dX0_addTo_71 : decode cX0_addTo 71 = .ok (.lstore_n 3, 1) := by decide +kernel
theorem dX0_addTo_72 : decode cX0_addTo 72 = .ok (.iinc 5 1, 3) := by decide +kernel
theorem dX0_addTo_75 : decode cX0_addTo 75 = .ok (.goto (-60), 3) := by decide +kernel
theorem dX0_addTo_78 : decode cX0_addTo 78 = .ok (.lload_n 3, 1) := by decide +kernel
theorem dX0_addTo_79 : decode cX0_addTo 79 = .ok (.lreturn, 1) := by decide +kernel
theorem dX0_isInOrder_0 : decode cX0_isInOrder 0 = .ok (.iconst 0, 1) := by decide +kernel
theorem dX0_isInOrder_1 : decode cX0_isInOrder 1 = .ok (.istore_n 1, 1) := by decide +kernel
theorem dX0_isInOrder_2 : decode cX0_isInOrder 2 = .ok (.iconst 0, 1) := by decide +kernel
theorem dX0_isInOrder_3 : decode cX0_isInOrder 3 = .ok (.istore_n 2, 1) := by decide +kernel
theorem dX0_isInOrder_4 : decode cX0_isInOrder 4 = .ok (.iload_n 2, 1) := by decide +kernel
theorem dX0_isInOrder_5 : decode cX0_isInOrder 5 = .ok (.aload_n 0, 1) := by decide +kernel
theorem dX0_isInOrder_6 : decode cX0_isInOrder 6 = .ok (.getfield 46, 3) := by decide +kernel
theorem dX0_isInOrder_9 : decode cX0_isInOrder 9 = .ok (.if_icmp .ge 28, 3) := by decide +kernel
theorem dX0_isInOrder_12 : decode cX0_isInOrder 12 = .ok (.aload_n 0, 1) := by decide +kernel
theorem dX0_isInOrder_13 : decode cX0_isInOrder 13 = .ok (.iload_n 2, 1) := by decide +kernel
theorem dX0_isInOrder_14 : decode cX0_isInOrder 14 = .ok (.iload_n 1, 1) := by decide +kernel
theorem dX0_isInOrder_15 : decode cX0_isInOrder 15 = .ok (.invokevirtual 97, 3) := by decide +kernel
theorem dX0_isInOrder_18 : decode cX0_isInOrder 18 = .ok (.ifCond .ne 5, 3) := by decide +kernel
theorem dX0_isInOrder_21 : decode cX0_isInOrder 21 = .ok (.iconst 0, 1) := by decide +kernel
theorem dX0_isInOrder_22 : decode cX0_isInOrder 22 = .ok (.ireturn, 1) := by decide +kernel
theorem dX0_isInOrder_23 : decode cX0_isInOrder 23 = .ok (.iload_n 1, 1) := by decide +kernel
theorem dX0_isInOrder_24 : decode cX0_isInOrder 24 = .ok (.aload_n 0, 1) := by decide +kernel
theorem dX0_isInOrder_25 : decode cX0_isInOrder 25 = .ok (.iload_n 2, 1) := by decide +kernel
theorem dX0_isInOrder_26 : decode cX0_isInOrder 26 = .ok (.invokevirtual 53, 3) := by decide +kernel
theorem dX0_isInOrder_29 : decode cX0_isInOrder 29 = .ok (.iadd, 1) := by decide +kernel
theorem dX0_isInOrder_30 : decode cX0_isInOrder 30 = .ok (.istore_n 1, 1) := by decide +kernel
theorem dX0_isInOrder_31 : decode cX0_isInOrder 31 = .ok (.iinc 2 1, 3) := by decide +kernel
theorem dX0_isInOrder_34 : decode cX0_isInOrder 34 = .ok (.goto (-30), 3) := by decide +kernel
theorem dX0_isInOrder_37 : decode cX0_isInOrder 37 = .ok (.iload_n 1, 1) := by decide +kernel
theorem dX0_isInOrder_38 : decode cX0_isInOrder 38 = .ok (.aload_n 0, 1) := by decide +kernel
theorem dX0_isInOrder_39 : decode cX0_isInOrder 39 = .ok (.getfield 28, 3) := by decide +kernel
theorem dX0_isInOrder_42 : decode cX0_isInOrder 42 = .ok (.if_icmp .ne 7, 3) := by decide +kernel
theorem dX0_isInOrder_45 : decode cX0_isInOrder 45 = .ok (.iconst 1, 1) := by decide +kernel
theorem dX0_isInOrder_46 : decode cX0_isInOrder 46 = .ok (.goto 4, 3) := by decide +kernel
theorem dX0_isInOrder_49 : decode cX0_isInOrder 49 = .ok (.iconst 0, 1) := by decide +kernel
theorem dX0_isInOrder_50 : decode cX0_isInOrder 50 = .ok (.ireturn, 1) := by decide +kernel
theorem dX0_standsAt_0 : decode cX0_standsAt 0 = .ok (.aload_n 0, 1) := by decide +kernel
theorem dX0_standsAt_1 : decode cX0_standsAt 1 = .ok (.iload_n 1, 1) := by decide +kernel
theorem dX0_standsAt_2 : decode cX0_standsAt 2 = .ok (.invokevirtual 49, 3) := by decide +kernel
theorem dX0_standsAt_5 : decode cX0_standsAt 5 = .ok (.ifCond .eq 33, 3) := by decide +kernel
theorem dX0_standsAt_8 : decode cX0_standsAt 8 = .ok (.iload_n 2, 1) := by decide +kernel
theorem dX0_standsAt_9 : decode cX0_standsAt 9 = .ok (.aload_n 0, 1) := by decide +kernel
theorem dX0_standsAt_10 : decode cX0_standsAt 10 = .ok (.getfield 28, 3) := by decide +kernel
theorem dX0_standsAt_13 : decode cX0_standsAt 13 = .ok (.if_icmp .ge 23, 3) := by decide +kernel
theorem dX0_standsAt_16 : decode cX0_standsAt 16 = .ok (.aload_n 0, 1) := by decide +kernel
theorem dX0_standsAt_17 : decode cX0_standsAt 17 = .ok (.getfield 19, 3) := by decide +kernel
theorem dX0_standsAt_20 : decode cX0_standsAt 20 = .ok (.iload_n 1, 1) := by decide +kernel
theorem dX0_standsAt_21 : decode cX0_standsAt 21 = .ok (.laload, 1) := by decide +kernel
theorem dX0_standsAt_22 : decode cX0_standsAt 22 = .ok (.aload_n 0, 1) := by decide +kernel
theorem dX0_standsAt_23 : decode cX0_standsAt 23 = .ok (.getfield 9, 3) := by decide +kernel
theorem dX0_standsAt_26 : decode cX0_standsAt 26 = .ok (.iload_n 2, 1) := by decide +kernel
theorem dX0_standsAt_27 : decode cX0_standsAt 27 = .ok (.laload, 1) := by decide +kernel
theorem dX0_standsAt_28 : decode cX0_standsAt 28 = .ok (.lcmp, 1) := by decide +kernel
theorem dX0_standsAt_29 : decode cX0_standsAt 29 = .ok (.ifCond .ne 7, 3) := by decide +kernel
theorem dX0_standsAt_32 : decode cX0_standsAt 32 = .ok (.iconst 1, 1) := by decide +kernel
theorem dX0_standsAt_33 : decode cX0_standsAt 33 = .ok (.goto 4, 3) := by decide +kernel
theorem dX0_standsAt_36 : decode cX0_standsAt 36 = .ok (.iconst 0, 1) := by decide +kernel
theorem dX0_standsAt_37 : decode cX0_standsAt 37 = .ok (.ireturn, 1) := by decide +kernel
theorem dX0_standsAt_38 : decode cX0_standsAt 38 = .ok (.aload_n 0, 1) := by decide +kernel
theorem dX0_standsAt_39 : decode cX0_standsAt 39 = .ok (.getfield 22, 3) := by decide +kernel
theorem dX0_standsAt_42 : decode cX0_standsAt 42 = .ok (.iload_n 1, 1) := by decide +kernel
theorem dX0_standsAt_43 : decode cX0_standsAt 43 = .ok (.iaload, 1) := by decide +kernel
theorem dX0_standsAt_44 : decode cX0_standsAt 44 = .ok (.iload_n 2, 1) := by decide +kernel
theorem dX0_standsAt_45 : decode cX0_standsAt 45 = .ok (.if_icmp .ne 30, 3) := by decide +kernel
theorem dX0_standsAt_48 : decode cX0_standsAt 48 = .ok (.aload_n 0, 1) := by decide +kernel
theorem dX0_standsAt_49 : decode cX0_standsAt 49 = .ok (.getfield 25, 3) := by decide +kernel
theorem dX0_standsAt_52 : decode cX0_standsAt 52 = .ok (.iload_n 1, 1) := by decide +kernel
theorem dX0_standsAt_53 : decode cX0_standsAt 53 = .ok (.iaload, 1) := by decide +kernel
theorem dX0_standsAt_54 : decode cX0_standsAt 54 = .ok (.iload_n 2, 1) := by decide +kernel
theorem dX0_standsAt_55 : decode cX0_standsAt 55 = .ok (.if_icmp .lt 20, 3) := by decide +kernel
theorem dX0_standsAt_58 : decode cX0_standsAt 58 = .ok (.aload_n 0, 1) := by decide +kernel
theorem dX0_standsAt_59 : decode cX0_standsAt 59 = .ok (.getfield 25, 3) := by decide +kernel
theorem dX0_standsAt_62 : decode cX0_standsAt 62 = .ok (.iload_n 1, 1) := by decide +kernel
theorem dX0_standsAt_63 : decode cX0_standsAt 63 = .ok (.iaload, 1) := by decide +kernel
theorem dX0_standsAt_64 : decode cX0_standsAt 64 = .ok (.aload_n 0, 1) := by decide +kernel
theorem dX0_standsAt_65 : decode cX0_standsAt 65 = .ok (.getfield 28, 3) := by decide +kernel
theorem dX0_standsAt_68 : decode cX0_standsAt 68 = .ok (.if_icmp .gt 7, 3) := by decide +kernel
theorem dX0_standsAt_71 : decode cX0_standsAt 71 = .ok (.iconst 1, 1) := by decide +kernel
theorem dX0_standsAt_72 : decode cX0_standsAt 72 = .ok (.goto 4, 3) := by decide +kernel
theorem dX0_standsAt_75 : decode cX0_standsAt 75 = .ok (.iconst 0, 1) := by decide +kernel
theorem dX0_standsAt_76 : decode cX0_standsAt 76 = .ok (.istore_n 3, 1) := by decide +kernel
theorem dX0_standsAt_77 : decode cX0_standsAt 77 = .ok (.iload_n 3, 1) := by decide +kernel
theorem dX0_standsAt_78 : decode cX0_standsAt 78 = .ok (.ifCond .eq 29, 3) := by decide +kernel
theorem dX0_standsAt_81 : decode cX0_standsAt 81 = .ok (.aload_n 0, 1) := by decide +kernel
theorem dX0_standsAt_82 : decode cX0_standsAt 82 = .ok (.getfield 15, 3) := by decide +kernel
theorem dX0_standsAt_85 : decode cX0_standsAt 85 = .ok (.iload_n 1, 1) := by decide +kernel
theorem dX0_standsAt_86 : decode cX0_standsAt 86 = .ok (.iaload, 1) := by decide +kernel
theorem dX0_standsAt_87 : decode cX0_standsAt 87 = .ok (.bipush 116, 2) := by decide +kernel
theorem dX0_standsAt_89 : decode cX0_standsAt 89 = .ok (.if_icmp .eq 14, 3) := by decide +kernel
theorem dX0_standsAt_92 : decode cX0_standsAt 92 = .ok (.aload_n 0, 1) := by decide +kernel
theorem dX0_standsAt_93 : decode cX0_standsAt 93 = .ok (.iload_n 1, 1) := by decide +kernel
theorem dX0_standsAt_94 : decode cX0_standsAt 94 = .ok (.sipush 17488, 3) := by decide +kernel
theorem dX0_standsAt_97 : decode cX0_standsAt 97 = .ok (.invokevirtual 100, 3) := by decide +kernel
theorem dX0_standsAt_100 : decode cX0_standsAt 100 = .ok (.ifCond .eq 7, 3) := by decide +kernel
theorem dX0_standsAt_103 : decode cX0_standsAt 103 = .ok (.iconst 1, 1) := by decide +kernel
theorem dX0_standsAt_104 : decode cX0_standsAt 104 = .ok (.goto 4, 3) := by decide +kernel
theorem dX0_standsAt_107 : decode cX0_standsAt 107 = .ok (.iconst 0, 1) := by decide +kernel
theorem dX0_standsAt_108 : decode cX0_standsAt 108 = .ok (.ireturn, 1) := by decide +kernel
theorem dX0_width_0 : decode cX0_width 0 = .ok (.aload_n 0, 1) := by decide +kernel
theorem dX0_width_1 : decode cX0_width 1 = .ok (.iload_n 1, 1) := by decide +kernel
theorem dX0_width_2 : decode cX0_width 2 = .ok (.invokevirtual 49, 3) := by decide +kernel
theorem dX0_width_5 : decode cX0_width 5 = .ok (.ifCond .eq 7, 3) := by decide +kernel
theorem dX0_width_8 : decode cX0_width 8 = .ok (.iconst 1, 1) := by decide +kernel
theorem dX0_width_9 : decode cX0_width 9 = .ok (.goto 8, 3) := by decide +kernel
theorem dX0_width_12 : decode cX0_width 12 = .ok (.aload_n 0, 1) := by decide +kernel
theorem dX0_width_13 : decode cX0_width 13 = .ok (.iload_n 1, 1) := by decide +kernel
theorem dX0_width_14 : decode cX0_width 14 = .ok (.invokevirtual 57, 3) := by decide +kernel
theorem dX0_width_17 : decode cX0_width 17 = .ok (.ireturn, 1) := by decide +kernel
theorem dX0_isTooLong_0 : decode cX0_isTooLong 0 = .ok (.aload_n 0, 1) := by decide +kernel
theorem dX0_isTooLong_1 : decode cX0_isTooLong 1 = .ok (.getfield 15, 3) := by decide +kernel
theorem dX0_isTooLong_4 : decode cX0_isTooLong 4 = .ok (.iload_n 1, 1) := by decide +kernel
theorem dX0_isTooLong_5 : decode cX0_isTooLong 5 = .ok (.iaload, 1) := by decide +kernel
theorem dX0_isTooLong_6 : decode cX0_isTooLong 6 = .ok (.bipush 112, 2) := by decide +kernel
theorem dX0_isTooLong_8 : decode cX0_isTooLong 8 = .ok (.if_icmp .ne 16, 3) := by decide +kernel
theorem dX0_isTooLong_11 : decode cX0_isTooLong 11 = .ok (.aload_n 0, 1) := by decide +kernel
theorem dX0_isTooLong_12 : decode cX0_isTooLong 12 = .ok (.iload_n 1, 1) := by decide +kernel
theorem dX0_isTooLong_13 : decode cX0_isTooLong 13 = .ok (.invokevirtual 57, 3) := by decide +kernel
theorem dX0_isTooLong_16 : decode cX0_isTooLong 16 = .ok (.iload_n 2, 1) := by decide +kernel
theorem dX0_isTooLong_17 : decode cX0_isTooLong 17 = .ok (.if_icmp .le 7, 3) := by decide +kernel
theorem dX0_isTooLong_20 : decode cX0_isTooLong 20 = .ok (.iconst 1, 1) := by decide +kernel
theorem dX0_isTooLong_21 : decode cX0_isTooLong 21 = .ok (.goto 4, 3) := by decide +kernel
theorem dX0_isTooLong_24 : decode cX0_isTooLong 24 = .ok (.iconst 0, 1) := by decide +kernel
theorem dX0_isTooLong_25 : decode cX0_isTooLong 25 = .ok (.ireturn, 1) := by decide +kernel
theorem dX0_partAt_0 : decode cX0_partAt 0 = .ok (.iload_n 1, 1) := by decide +kernel
theorem dX0_partAt_1 : decode cX0_partAt 1 = .ok (.ifCond .lt 20, 3) := by decide +kernel
theorem dX0_partAt_4 : decode cX0_partAt 4 = .ok (.iload_n 1, 1) := by decide +kernel
theorem dX0_partAt_5 : decode cX0_partAt 5 = .ok (.aload_n 0, 1) := by decide +kernel
theorem dX0_partAt_6 : decode cX0_partAt 6 = .ok (.getfield 28, 3) := by decide +kernel
theorem dX0_partAt_9 : decode cX0_partAt 9 = .ok (.if_icmp .ge 12, 3) := by decide +kernel
theorem dX0_partAt_12 : decode cX0_partAt 12 = .ok (.aload_n 0, 1) := by decide +kernel
theorem dX0_partAt_13 : decode cX0_partAt 13 = .ok (.getfield 9, 3) := by decide +kernel
theorem dX0_partAt_16 : decode cX0_partAt 16 = .ok (.iload_n 1, 1) := by decide +kernel
theorem dX0_partAt_17 : decode cX0_partAt 17 = .ok (.laload, 1) := by decide +kernel
theorem dX0_partAt_18 : decode cX0_partAt 18 = .ok (.goto 4, 3) := by decide +kernel
theorem dX0_partAt_21 : decode cX0_partAt 21 = .ok (.lconst 0, 1) := by decide +kernel
theorem dX0_partAt_22 : decode cX0_partAt 22 = .ok (.lreturn, 1) := by decide +kernel
theorem dX0_putPiece_0 : decode cX0_putPiece 0 = .ok (.aload_n 0, 1) := by decide +kernel
theorem dX0_putPiece_1 : decode cX0_putPiece 1 = .ok (.getfield 15, 3) := by decide +kernel
theorem dX0_putPiece_4 : decode cX0_putPiece 4 = .ok (.iload_n 1, 1) := by decide +kernel
theorem dX0_putPiece_5 : decode cX0_putPiece 5 = .ok (.bipush 112, 2) := by decide +kernel
theorem dX0_putPiece_7 : decode cX0_putPiece 7 = .ok (.iastore, 1) := by decide +kernel
theorem dX0_putPiece_8 : decode cX0_putPiece 8 = .ok (.aload_n 0, 1) := by decide +kernel
theorem dX0_putPiece_9 : decode cX0_putPiece 9 = .ok (.getfield 22, 3) := by decide +kernel
theorem dX0_putPiece_12 : decode cX0_putPiece 12 = .ok (.iload_n 1, 1) := by decide +kernel
theorem dX0_putPiece_13 : decode cX0_putPiece 13 = .ok (.iload_n 2, 1) := by decide +kernel
theorem dX0_putPiece_14 : decode cX0_putPiece 14 = .ok (.iastore, 1) := by decide +kernel
theorem dX0_putPiece_15 : decode cX0_putPiece 15 = .ok (.aload_n 0, 1) := by decide +kernel
theorem dX0_putPiece_16 : decode cX0_putPiece 16 = .ok (.getfield 25, 3) := by decide +kernel
theorem dX0_putPiece_19 : decode cX0_putPiece 19 = .ok (.iload_n 1, 1) := by decide +kernel
theorem dX0_putPiece_20 : decode cX0_putPiece 20 = .ok (.iload_n 3, 1) := by decide +kernel
theorem dX0_putPiece_21 : decode cX0_putPiece 21 = .ok (.iastore, 1) := by decide +kernel
theorem dX0_putPiece_22 : decode cX0_putPiece 22 = .ok (.return_, 1) := by decide +kernel
theorem dX0_putNumber_0 : decode cX0_putNumber 0 = .ok (.aload_n 0, 1) := by decide +kernel
theorem dX0_putNumber_1 : decode cX0_putNumber 1 = .ok (.getfield 15, 3) := by decide +kernel
theorem dX0_putNumber_4 : decode cX0_putNumber 4 = .ok (.iload_n 1, 1) := by decide +kernel
theorem dX0_putNumber_5 : decode cX0_putNumber 5 = .ok (.bipush 110, 2) := by decide +kernel
theorem dX0_putNumber_7 : decode cX0_putNumber 7 = .ok (.iastore, 1) := by decide +kernel
theorem dX0_putNumber_8 : decode cX0_putNumber 8 = .ok (.aload_n 0, 1) := by decide +kernel
theorem dX0_putNumber_9 : decode cX0_putNumber 9 = .ok (.getfield 19, 3) := by decide +kernel
theorem dX0_putNumber_12 : decode cX0_putNumber 12 = .ok (.iload_n 1, 1) := by decide +kernel
theorem dX0_putNumber_13 : decode cX0_putNumber 13 = .ok (.lload_n 2, 1) := by decide +kernel
theorem dX0_putNumber_14 : decode cX0_putNumber 14 = .ok (.lastore, 1) := by decide +kernel
theorem dX0_putNumber_15 : decode cX0_putNumber 15 = .ok (.return_, 1) := by decide +kernel
theorem dX0_copyItem_0 : decode cX0_copyItem 0 = .ok (.aload_n 0, 1) := by decide +kernel
theorem dX0_copyItem_1 : decode cX0_copyItem 1 = .ok (.getfield 15, 3) := by decide +kernel
theorem dX0_copyItem_4 : decode cX0_copyItem 4 = .ok (.iload_n 2, 1) := by decide +kernel
theorem dX0_copyItem_5 : decode cX0_copyItem 5 = .ok (.aload_n 0, 1) := by decide +kernel
theorem dX0_copyItem_6 : decode cX0_copyItem 6 = .ok (.getfield 15, 3) := by decide +kernel
theorem dX0_copyItem_9 : decode cX0_copyItem 9 = .ok (.iload_n 1, 1) := by decide +kernel
theorem dX0_copyItem_10 : decode cX0_copyItem 10 = .ok (.iaload, 1) := by decide +kernel
theorem dX0_copyItem_11 : decode cX0_copyItem 11 = .ok (.iastore, 1) := by decide +kernel
theorem dX0_copyItem_12 : decode cX0_copyItem 12 = .ok (.aload_n 0, 1) := by decide +kernel
theorem dX0_copyItem_13 : decode cX0_copyItem 13 = .ok (.getfield 19, 3) := by decide +kernel
theorem dX0_copyItem_16 : decode cX0_copyItem 16 = .ok (.iload_n 2, 1) := by decide +kernel
theorem dX0_copyItem_17 : decode cX0_copyItem 17 = .ok (.aload_n 0, 1) := by decide +kernel
theorem dX0_copyItem_18 : decode cX0_copyItem 18 = .ok (.getfield 19, 3) := by decide +kernel
theorem dX0_copyItem_21 : decode cX0_copyItem 21 = .ok (.iload_n 1, 1) := by decide +kernel
theorem dX0_copyItem_22 : decode cX0_copyItem 22 = .ok (.laload, 1) := by decide +kernel
theorem dX0_copyItem_23 : decode cX0_copyItem 23 = .ok (.lastore, 1) := by decide +kernel
theorem dX0_copyItem_24 : decode cX0_copyItem 24 = .ok (.aload_n 0, 1) := by decide +kernel
theorem dX0_copyItem_25 : decode cX0_copyItem 25 = .ok (.getfield 22, 3) := by decide +kernel
theorem dX0_copyItem_28 : decode cX0_copyItem 28 = .ok (.iload_n 2, 1) := by decide +kernel
theorem dX0_copyItem_29 : decode cX0_copyItem 29 = .ok (.aload_n 0, 1) := by decide +kernel
theorem dX0_copyItem_30 : decode cX0_copyItem 30 = .ok (.getfield 22, 3) := by decide +kernel
theorem dX0_copyItem_33 : decode cX0_copyItem 33 = .ok (.iload_n 1, 1) := by decide +kernel
theorem dX0_copyItem_34 : decode cX0_copyItem 34 = .ok (.iaload, 1) := by decide +kernel
theorem dX0_copyItem_35 : decode cX0_copyItem 35 = .ok (.iastore, 1) := by decide +kernel
theorem dX0_copyItem_36 : decode cX0_copyItem 36 = .ok (.aload_n 0, 1) := by decide +kernel
theorem dX0_copyItem_37 : decode cX0_copyItem 37 = .ok (.getfield 25, 3) := by decide +kernel
theorem dX0_copyItem_40 : decode cX0_copyItem 40 = .ok (.iload_n 2, 1) := by decide +kernel
theorem dX0_copyItem_41 : decode cX0_copyItem 41 = .ok (.aload_n 0, 1) := by decide +kernel
theorem dX0_copyItem_42 : decode cX0_copyItem 42 = .ok (.getfield 25, 3) := by decide +kernel
theorem dX0_copyItem_45 : decode cX0_copyItem 45 = .ok (.iload_n 1, 1) := by decide +kernel
theorem dX0_copyItem_46 : decode cX0_copyItem 46 = .ok (.iaload, 1) := by decide +kernel
theorem dX0_copyItem_47 : decode cX0_copyItem 47 = .ok (.iastore, 1) := by decide +kernel
theorem dX0_copyItem_48 : decode cX0_copyItem 48 = .ok (.return_, 1) := by decide +kernel
theorem dX0_makeRoom_0 : decode cX0_makeRoom 0 = .ok (.aload_n 0, 1) := by decide +kernel
theorem dX0_makeRoom_1 : decode cX0_makeRoom 1 = .ok (.getfield 46, 3) := by decide +kernel
theorem dX0_makeRoom_4 : decode cX0_makeRoom 4 = .ok (.iload_n 1, 1) := by decide +kernel
theorem dX0_makeRoom_5 : decode cX0_makeRoom 5 = .ok (.isub, 1) := by decide +kernel
theorem dX0_makeRoom_6 : decode cX0_makeRoom 6 = .ok (.istore_n 3, 1) := by decide +kernel
theorem dX0_makeRoom_7 : decode cX0_makeRoom 7 = .ok (.iload_n 1, 1) := by decide +kernel
theorem dX0_makeRoom_8 : decode cX0_makeRoom 8 = .ok (.ifCond .lt 22, 3) := by decide +kernel
theorem dX0_makeRoom_11 : decode cX0_makeRoom 11 = .ok (.iload_n 2, 1) := by decide +kernel
theorem dX0_makeRoom_12 : decode cX0_makeRoom 12 = .ok (.ifCond .lt 18, 3) := by decide +kernel
theorem dX0_makeRoom_15 : decode cX0_makeRoom 15 = .ok (.iload_n 3, 1) := by decide +kernel
theorem dX0_makeRoom_16 : decode cX0_makeRoom 16 = .ok (.ifCond .lt 14, 3) := by decide +kernel
theorem dX0_makeRoom_19 : decode cX0_makeRoom 19 = .ok (.aload_n 0, 1) := by decide +kernel
theorem dX0_makeRoom_20 : decode cX0_makeRoom 20 = .ok (.getfield 46, 3) := by decide +kernel
theorem dX0_makeRoom_23 : decode cX0_makeRoom 23 = .ok (.iload_n 2, 1) := by decide +kernel
theorem dX0_makeRoom_24 : decode cX0_makeRoom 24 = .ok (.iadd, 1) := by decide +kernel
theorem dX0_makeRoom_25 : decode cX0_makeRoom 25 = .ok (.bipush 96, 2) := by decide +kernel
theorem dX0_makeRoom_27 : decode cX0_makeRoom 27 = .ok (.if_icmp .le 5, 3) := by decide +kernel
theorem dX0_makeRoom_30 : decode cX0_makeRoom 30 = .ok (.iconst 0, 1) := by decide +kernel
theorem dX0_makeRoom_31 : decode cX0_makeRoom 31 = .ok (.ireturn, 1) := by decide +kernel
theorem dX0_makeRoom_32 : decode cX0_makeRoom 32 = .ok (.aload_n 0, 1) := by decide +kernel
theorem dX0_makeRoom_33 : decode cX0_makeRoom 33 = .ok (.getfield 15, 3) := by decide +kernel
theorem dX0_makeRoom_36 : decode cX0_makeRoom 36 = .ok (.iload_n 1, 1) := by decide +kernel
theorem dX0_makeRoom_37 : decode cX0_makeRoom 37 = .ok (.aload_n 0, 1) := by decide +kernel
theorem dX0_makeRoom_38 : decode cX0_makeRoom 38 = .ok (.getfield 15, 3) := by decide +kernel
theorem dX0_makeRoom_41 : decode cX0_makeRoom 41 = .ok (.iload_n 1, 1) := by decide +kernel
theorem dX0_makeRoom_42 : decode cX0_makeRoom 42 = .ok (.iload_n 2, 1) := by decide +kernel
theorem dX0_makeRoom_43 : decode cX0_makeRoom 43 = .ok (.iadd, 1) := by decide +kernel
theorem dX0_makeRoom_44 : decode cX0_makeRoom 44 = .ok (.iload_n 3, 1) := by decide +kernel
theorem dX0_makeRoom_45 : decode cX0_makeRoom 45 = .ok (.invokestatic 103, 3) := by decide +kernel
theorem dX0_makeRoom_48 : decode cX0_makeRoom 48 = .ok (.aload_n 0, 1) := by decide +kernel
theorem dX0_makeRoom_49 : decode cX0_makeRoom 49 = .ok (.getfield 19, 3) := by decide +kernel
theorem dX0_makeRoom_52 : decode cX0_makeRoom 52 = .ok (.iload_n 1, 1) := by decide +kernel
theorem dX0_makeRoom_53 : decode cX0_makeRoom 53 = .ok (.aload_n 0, 1) := by decide +kernel
theorem dX0_makeRoom_54 : decode cX0_makeRoom 54 = .ok (.getfield 19, 3) := by decide +kernel
theorem dX0_makeRoom_57 : decode cX0_makeRoom 57 = .ok (.iload_n 1, 1) := by decide +kernel
theorem dX0_makeRoom_58 : decode cX0_makeRoom 58 = .ok (.iload_n 2, 1) := by decide +kernel
theorem dX0_makeRoom_59 : decode cX0_makeRoom 59 = .ok (.iadd, 1) := by decide +kernel
theorem dX0_makeRoom_60 : decode cX0_makeRoom 60 = .ok (.iload_n 3, 1) := by decide +kernel
theorem dX0_makeRoom_61 : decode cX0_makeRoom 61 = .ok (.invokestatic 103, 3) := by decide +kernel
theorem dX0_makeRoom_64 : decode cX0_makeRoom 64 = .ok (.aload_n 0, 1) := by decide +kernel
theorem dX0_makeRoom_65 : decode cX0_makeRoom 65 = .ok (.getfield 22, 3) := by decide +kernel
theorem dX0_makeRoom_68 : decode cX0_makeRoom 68 = .ok (.iload_n 1, 1) := by decide +kernel
theorem dX0_makeRoom_69 : decode cX0_makeRoom 69 = .ok (.aload_n 0, 1) := by decide +kernel
theorem dX0_makeRoom_70 : decode cX0_makeRoom 70 = .ok (.getfield 22, 3) := by decide +kernel
theorem dX0_makeRoom_73 : decode cX0_makeRoom 73 = .ok (.iload_n 1, 1) := by decide +kernel
theorem dX0_makeRoom_74 : decode cX0_makeRoom 74 = .ok (.iload_n 2, 1) := by decide +kernel
theorem dX0_makeRoom_75 : decode cX0_makeRoom 75 = .ok (.iadd, 1) := by decide +kernel
theorem dX0_makeRoom_76 : decode cX0_makeRoom 76 = .ok (.iload_n 3, 1) := by decide +kernel
theorem dX0_makeRoom_77 : decode cX0_makeRoom 77 = .ok (.invokestatic 103, 3) := by decide +kernel
theorem dX0_makeRoom_80 : decode cX0_makeRoom 80 = .ok (.aload_n 0, 1) := by decide +kernel
theorem dX0_makeRoom_81 : decode cX0_makeRoom 81 = .ok (.getfield 25, 3) := by decide +kernel
theorem dX0_makeRoom_84 : decode cX0_makeRoom 84 = .ok (.iload_n 1, 1) := by decide +kernel
theorem dX0_makeRoom_85 : decode cX0_makeRoom 85 = .ok (.aload_n 0, 1) := by decide +kernel
theorem dX0_makeRoom_86 : decode cX0_makeRoom 86 = .ok (.getfield 25, 3) := by decide +kernel
theorem dX0_makeRoom_89 : decode cX0_makeRoom 89 = .ok (.iload_n 1, 1) := by decide +kernel
theorem dX0_makeRoom_90 : decode cX0_makeRoom 90 = .ok (.iload_n 2, 1) := by decide +kernel
theorem dX0_makeRoom_91 : decode cX0_makeRoom 91 = .ok (.iadd, 1) := by decide +kernel
theorem dX0_makeRoom_92 : decode cX0_makeRoom 92 = .ok (.iload_n 3, 1) := by decide +kernel
theorem dX0_makeRoom_93 : decode cX0_makeRoom 93 = .ok (.invokestatic 103, 3) := by decide +kernel
theorem dX0_makeRoom_96 : decode cX0_makeRoom 96 = .ok (.aload_n 0, 1) := by decide +kernel
theorem dX0_makeRoom_97 : decode cX0_makeRoom 97 = .ok (.dup, 1) := by decide +kernel
theorem dX0_makeRoom_98 : decode cX0_makeRoom 98 = .ok (.getfield 46, 3) := by decide +kernel
theorem dX0_makeRoom_101 : decode cX0_makeRoom 101 = .ok (.iload_n 2, 1) := by decide +kernel
theorem dX0_makeRoom_102 : decode cX0_makeRoom 102 = .ok (.iadd, 1) := by decide +kernel
theorem dX0_makeRoom_103 : decode cX0_makeRoom 103 = .ok (.putfield 46, 3) := by decide +kernel
theorem dX0_makeRoom_106 : decode cX0_makeRoom 106 = .ok (.iconst 1, 1) := by decide +kernel
theorem dX0_makeRoom_107 : decode cX0_makeRoom 107 = .ok (.ireturn, 1) := by decide +kernel
theorem dX1_init_0 : decode cX1_init 0 = .ok (.aload_n 0, 1) := by decide +kernel
theorem dX1_init_1 : decode cX1_init 1 = .ok (.invokespecial 3, 3) := by decide +kernel
theorem dX1_init_4 : decode cX1_init 4 = .ok (.aload_n 0, 1) := by decide +kernel
theorem dX1_init_5 : decode cX1_init 5 = .ok (.bipush 48, 2) := by decide +kernel
theorem dX1_init_7 : decode cX1_init 7 = .ok (.newarray .long, 2) := by decide +kernel
theorem dX1_init_9 : decode cX1_init 9 = .ok (.putfield 9, 3) := by decide +kernel
theorem dX1_init_12 : decode cX1_init 12 = .ok (.return_, 1) := by decide +kernel
theorem dX1_add_0 : decode cX1_add 0 = .ok (.aload_n 0, 1) := by decide +kernel
theorem dX1_add_1 : decode cX1_add 1 = .ok (.getfield 15, 3) := by decide +kernel
theorem dX1_add_4 : decode cX1_add 4 = .ok (.aload_n 0, 1) := by decide +kernel
theorem dX1_add_5 : decode cX1_add 5 = .ok (.getfield 9, 3) := by decide +kernel
theorem dX1_add_8 : decode cX1_add 8 = .ok (.arraylength, 1) := by decide +kernel
theorem dX1_add_9 : decode cX1_add 9 = .ok (.if_icmp .lt 5, 3) := by decide +kernel
theorem dX1_add_12 : decode cX1_add 12 = .ok (.iconst 0, 1) := by decide +kernel
theorem dX1_add_13 : decode cX1_add 13 = .ok (.ireturn, 1) := by decide +kernel
theorem dX1_add_14 : decode cX1_add 14 = .ok (.aload_n 0, 1) := by decide +kernel
theorem dX1_add_15 : decode cX1_add 15 = .ok (.getfield 9, 3) := by decide +kernel
theorem dX1_add_18 : decode cX1_add 18 = .ok (.aload_n 0, 1) := by decide +kernel
theorem dX1_add_19 : decode cX1_add 19 = .ok (.getfield 15, 3) := by decide +kernel
theorem dX1_add_22 : decode cX1_add 22 = .ok (.lload_n 1, 1) := by decide +kernel
theorem dX1_add_23 : decode cX1_add 23 = .ok (.lastore, 1) := by decide +kernel
theorem dX1_add_24 : decode cX1_add 24 = .ok (.aload_n 0, 1) := by decide +kernel
theorem dX1_add_25 : decode cX1_add 25 = .ok (.dup, 1) := by decide +kernel
theorem dX1_add_26 : decode cX1_add 26 = .ok (.getfield 15, 3) := by decide +kernel
theorem dX1_add_29 : decode cX1_add 29 = .ok (.iconst 1, 1) := by decide +kernel
theorem dX1_add_30 : decode cX1_add 30 = .ok (.iadd, 1) := by decide +kernel
theorem dX1_add_31 : decode cX1_add 31 = .ok (.putfield 15, 3) := by decide +kernel
theorem dX1_add_34 : decode cX1_add 34 = .ok (.iconst 1, 1) := by decide +kernel
theorem dX1_add_35 : decode cX1_add 35 = .ok (.ireturn, 1) := by decide +kernel
theorem dX1_clear_0 : decode cX1_clear 0 = .ok (.aload_n 0, 1) := by decide +kernel
theorem dX1_clear_1 : decode cX1_clear 1 = .ok (.iconst 0, 1) := by decide +kernel
theorem dX1_clear_2 : decode cX1_clear 2 = .ok (.putfield 15, 3) := by decide +kernel
theorem dX1_clear_5 : decode cX1_clear 5 = .ok (.return_, 1) := by decide +kernel
theorem dX1_at_0 : decode cX1_at 0 = .ok (.iload_n 1, 1) := by decide +kernel
theorem dX1_at_1 : decode cX1_at 1 = .ok (.ifCond .lt 20, 3) := by decide +kernel
theorem dX1_at_4 : decode cX1_at 4 = .ok (.iload_n 1, 1) := by decide +kernel
theorem dX1_at_5 : decode cX1_at 5 = .ok (.aload_n 0, 1) := by decide +kernel
theorem dX1_at_6 : decode cX1_at 6 = .ok (.getfield 15, 3) := by decide +kernel
theorem dX1_at_9 : decode cX1_at 9 = .ok (.if_icmp .ge 12, 3) := by decide +kernel
theorem dX1_at_12 : decode cX1_at 12 = .ok (.aload_n 0, 1) := by decide +kernel
theorem dX1_at_13 : decode cX1_at 13 = .ok (.getfield 9, 3) := by decide +kernel
theorem dX1_at_16 : decode cX1_at 16 = .ok (.iload_n 1, 1) := by decide +kernel
theorem dX1_at_17 : decode cX1_at 17 = .ok (.laload, 1) := by decide +kernel
theorem dX1_at_18 : decode cX1_at 18 = .ok (.goto 4, 3) := by decide +kernel
theorem dX1_at_21 : decode cX1_at 21 = .ok (.lconst 0, 1) := by decide +kernel
theorem dX1_at_22 : decode cX1_at 22 = .ok (.lreturn, 1) := by decide +kernel
theorem dX1_reverse_0 : decode cX1_reverse 0 = .ok (.iconst 0, 1) := by decide +kernel
theorem dX1_reverse_1 : decode cX1_reverse 1 = .ok (.istore_n 1, 1) := by decide +kernel
theorem dX1_reverse_2 : decode cX1_reverse 2 = .ok (.iload_n 1, 1) := by decide +kernel
theorem dX1_reverse_3 : decode cX1_reverse 3 = .ok (.aload_n 0, 1) := by decide +kernel
theorem dX1_reverse_4 : decode cX1_reverse 4 = .ok (.getfield 15, 3) := by decide +kernel
theorem dX1_reverse_7 : decode cX1_reverse 7 = .ok (.iconst 2, 1) := by decide +kernel
theorem dX1_reverse_8 : decode cX1_reverse 8 = .ok (.idiv, 1) := by decide +kernel
theorem dX1_reverse_9 : decode cX1_reverse 9 = .ok (.if_icmp .ge 44, 3) := by decide +kernel
theorem dX1_reverse_12 : decode cX1_reverse 12 = .ok (.aload_n 0, 1) := by decide +kernel
theorem dX1_reverse_13 : decode cX1_reverse 13 = .ok (.getfield 15, 3) := by decide +kernel
theorem dX1_reverse_16 : decode cX1_reverse 16 = .ok (.iconst 1, 1) := by decide +kernel
theorem dX1_reverse_17 : decode cX1_reverse 17 = .ok (.isub, 1) := by decide +kernel
theorem dX1_reverse_18 : decode cX1_reverse 18 = .ok (.iload_n 1, 1) := by decide +kernel
theorem dX1_reverse_19 : decode cX1_reverse 19 = .ok (.isub, 1) := by decide +kernel
theorem dX1_reverse_20 : decode cX1_reverse 20 = .ok (.istore_n 2, 1) := by decide +kernel
theorem dX1_reverse_21 : decode cX1_reverse 21 = .ok (.aload_n 0, 1) := by decide +kernel
theorem dX1_reverse_22 : decode cX1_reverse 22 = .ok (.getfield 9, 3) := by decide +kernel
theorem dX1_reverse_25 : decode cX1_reverse 25 = .ok (.iload_n 1, 1) := by decide +kernel
theorem dX1_reverse_26 : decode cX1_reverse 26 = .ok (.laload, 1) := by decide +kernel
theorem dX1_reverse_27 : decode cX1_reverse 27 = .ok (.lstore_n 3, 1) := by decide +kernel
theorem dX1_reverse_28 : decode cX1_reverse 28 = .ok (.aload_n 0, 1) := by decide +kernel
theorem dX1_reverse_29 : decode cX1_reverse 29 = .ok (.getfield 9, 3) := by decide +kernel
theorem dX1_reverse_32 : decode cX1_reverse 32 = .ok (.iload_n 1, 1) := by decide +kernel
theorem dX1_reverse_33 : decode cX1_reverse 33 = .ok (.aload_n 0, 1) := by decide +kernel
theorem dX1_reverse_34 : decode cX1_reverse 34 = .ok (.getfield 9, 3) := by decide +kernel
theorem dX1_reverse_37 : decode cX1_reverse 37 = .ok (.iload_n 2, 1) := by decide +kernel
theorem dX1_reverse_38 : decode cX1_reverse 38 = .ok (.laload, 1) := by decide +kernel
theorem dX1_reverse_39 : decode cX1_reverse 39 = .ok (.lastore, 1) := by decide +kernel
theorem dX1_reverse_40 : decode cX1_reverse 40 = .ok (.aload_n 0, 1) := by decide +kernel
theorem dX1_reverse_41 : decode cX1_reverse 41 = .ok (.getfield 9, 3) := by decide +kernel
theorem dX1_reverse_44 : decode cX1_reverse 44 = .ok (.iload_n 2, 1) := by decide +kernel
theorem dX1_reverse_45 : decode cX1_reverse 45 = .ok (.lload_n 3, 1) := by decide +kernel
theorem dX1_reverse_46 : decode cX1_reverse 46 = .ok (.lastore, 1) := by decide +kernel
theorem dX1_reverse_47 : decode cX1_reverse 47 = .ok (.iinc 1 1, 3) := by decide +kernel
theorem dX1_reverse_50 : decode cX1_reverse 50 = .ok (.goto (-48), 3) := by decide +kernel
theorem dX1_reverse_53 : decode cX1_reverse 53 = .ok (.return_, 1) := by decide +kernel
theorem dX1_addTo_0 : decode cX1_addTo 0 = .ok (.ldc2_w 19, 3) := by decide +kernel
theorem dX1_addTo_3 : decode cX1_addTo 3 = .ok (.lload_n 1, 1) := by decide +kernel
theorem dX1_addTo_4 : decode cX1_addTo 4 = .ok (.lmul, 1) := by decide +kernel
theorem dX1_addTo_5 : decode cX1_addTo 5 = .ok (.aload_n 0, 1) := by decide +kernel
theorem dX1_addTo_6 : decode cX1_addTo 6 = .ok (.getfield 15, 3) := by decide +kernel
theorem dX1_addTo_9 : decode cX1_addTo 9 = .ok (.i2l, 1) := by decide +kernel
theorem dX1_addTo_10 : decode cX1_addTo 10 = .ok (.ladd, 1) := by decide +kernel
theorem dX1_addTo_11 : decode cX1_addTo 11 = .ok (.lstore_n 3, 1) := by decide +kernel
theorem dX1_addTo_12 : decode cX1_addTo 12 = .ok (.iconst 0, 1) := by decide +kernel
theorem dX1_addTo_13 : decode cX1_addTo 13 = .ok (.istore 5, 2) := by decide +kernel
theorem dX1_addTo_15 : decode cX1_addTo 15 = .ok (.iload 5, 2) := by decide +kernel
theorem dX1_addTo_17 : decode cX1_addTo 17 = .ok (.aload_n 0, 1) := by decide +kernel
theorem dX1_addTo_18 : decode cX1_addTo 18 = .ok (.getfield 15, 3) := by decide +kernel
theorem dX1_addTo_21 : decode cX1_addTo 21 = .ok (.if_icmp .ge 23, 3) := by decide +kernel
theorem dX1_addTo_24 : decode cX1_addTo 24 = .ok (.ldc2_w 19, 3) := by decide +kernel
theorem dX1_addTo_27 : decode cX1_addTo 27 = .ok (.lload_n 3, 1) := by decide +kernel
theorem dX1_addTo_28 : decode cX1_addTo 28 = .ok (.lmul, 1) := by decide +kernel
theorem dX1_addTo_29 : decode cX1_addTo 29 = .ok (.aload_n 0, 1) := by decide +kernel
theorem dX1_addTo_30 : decode cX1_addTo 30 = .ok (.getfield 9, 3) := by decide +kernel
theorem dX1_addTo_33 : decode cX1_addTo 33 = .ok (.iload 5, 2) := by decide +kernel
theorem dX1_addTo_35 : decode cX1_addTo 35 = .ok (.laload, 1) := by decide +kernel
theorem dX1_addTo_36 : decode cX1_addTo 36 = .ok (.ladd, 1) := by decide +kernel
theorem dX1_addTo_37 : decode cX1_addTo 37 = .ok (.lstore_n 3, 1) := by decide +kernel
theorem dX1_addTo_38 : decode cX1_addTo 38 = .ok (.iinc 5 1, 3) := by decide +kernel
theorem dX1_addTo_41 : decode cX1_addTo 41 = .ok (.goto (-26), 3) := by decide +kernel
theorem dX1_addTo_44 : decode cX1_addTo 44 = .ok (.lload_n 3, 1) := by decide +kernel
theorem dX1_addTo_45 : decode cX1_addTo 45 = .ok (.lreturn, 1) := by decide +kernel
theorem dX2_init_0 : decode cX2_init 0 = .ok (.aload_n 0, 1) := by decide +kernel
theorem dX2_init_1 : decode cX2_init 1 = .ok (.invokespecial 3, 3) := by decide +kernel
theorem dX2_init_4 : decode cX2_init 4 = .ok (.aload_n 0, 1) := by decide +kernel
theorem dX2_init_5 : decode cX2_init 5 = .ok (.getstatic 9, 3) := by decide +kernel
theorem dX2_init_8 : decode cX2_init 8 = .ok (.arraylength, 1) := by decide +kernel
theorem dX2_init_9 : decode cX2_init 9 = .ok (.iconst 4, 1) := by decide +kernel
theorem dX2_init_10 : decode cX2_init 10 = .ok (.imul, 1) := by decide +kernel
theorem dX2_init_11 : decode cX2_init 11 = .ok (.anewarray 13, 3) := by decide +kernel
theorem dX2_init_14 : decode cX2_init 14 = .ok (.putfield 15, 3) := by decide +kernel
theorem dX2_init_17 : decode cX2_init 17 = .ok (.aload_n 0, 1) := by decide +kernel
theorem dX2_init_18 : decode cX2_init 18 = .ok (.bipush 6, 2) := by decide +kernel
theorem dX2_init_20 : decode cX2_init 20 = .ok (.anewarray 19, 3) := by decide +kernel
theorem dX2_init_23 : decode cX2_init 23 = .ok (.putfield 21, 3) := by decide +kernel
theorem dX2_init_26 : decode cX2_init 26 = .ok (.aload_n 0, 1) := by decide +kernel
theorem dX2_init_27 : decode cX2_init 27 = .ok (.new 19, 3) := by decide +kernel
theorem dX2_init_30 : decode cX2_init 30 = .ok (.dup, 1) := by decide +kernel
theorem dX2_init_31 : decode cX2_init 31 = .ok (.invokespecial 25, 3) := by decide +kernel
theorem dX2_init_34 : decode cX2_init 34 = .ok (.putfield 26, 3) := by decide +kernel
theorem dX2_init_37 : decode cX2_init 37 = .ok (.iconst 0, 1) := by decide +kernel
theorem dX2_init_38 : decode cX2_init 38 = .ok (.istore_n 1, 1) := by decide +kernel
theorem dX2_init_39 : decode cX2_init 39 = .ok (.iload_n 1, 1) := by decide +kernel
theorem dX2_init_40 : decode cX2_init 40 = .ok (.aload_n 0, 1) := by decide +kernel
theorem dX2_init_41 : decode cX2_init 41 = .ok (.getfield 15, 3) := by decide +kernel
theorem dX2_init_44 : decode cX2_init 44 = .ok (.arraylength, 1) := by decide +kernel
theorem dX2_init_45 : decode cX2_init 45 = .ok (.if_icmp .ge 22, 3) := by decide +kernel
theorem dX2_init_48 : decode cX2_init 48 = .ok (.aload_n 0, 1) := by decide +kernel
theorem dX2_init_49 : decode cX2_init 49 = .ok (.getfield 15, 3) := by decide +kernel
theorem dX2_init_52 : decode cX2_init 52 = .ok (.iload_n 1, 1) := by decide +kernel
theorem dX2_init_53 : decode cX2_init 53 = .ok (.new 13, 3) := by decide +kernel
theorem dX2_init_56 : decode cX2_init 56 = .ok (.dup, 1) := by decide +kernel
theorem dX2_init_57 : decode cX2_init 57 = .ok (.invokespecial 30, 3) := by decide +kernel
theorem dX2_init_60 : decode cX2_init 60 = .ok (.aastore, 1) := by decide +kernel
theorem dX2_init_61 : decode cX2_init 61 = .ok (.iinc 1 1, 3) := by decide +kernel
theorem dX2_init_64 : decode cX2_init 64 = .ok (.goto (-25), 3) := by decide +kernel
theorem dX2_init_67 : decode cX2_init 67 = .ok (.iconst 0, 1) := by decide +kernel
theorem dX2_init_68 : decode cX2_init 68 = .ok (.istore_n 1, 1) := by decide +kernel
theorem dX2_init_69 : decode cX2_init 69 = .ok (.iload_n 1, 1) := by decide +kernel
theorem dX2_init_70 : decode cX2_init 70 = .ok (.aload_n 0, 1) := by decide +kernel
theorem dX2_init_71 : decode cX2_init 71 = .ok (.getfield 21, 3) := by decide +kernel
theorem dX2_init_74 : decode cX2_init 74 = .ok (.arraylength, 1) := by decide +kernel
theorem dX2_init_75 : decode cX2_init 75 = .ok (.if_icmp .ge 22, 3) := by decide +kernel
theorem dX2_init_78 : decode cX2_init 78 = .ok (.aload_n 0, 1) := by decide +kernel
theorem dX2_init_79 : decode cX2_init 79 = .ok (.getfield 21, 3) := by decide +kernel
theorem dX2_init_82 : decode cX2_init 82 = .ok (.iload_n 1, 1) := by decide +kernel
theorem dX2_init_83 : decode cX2_init 83 = .ok (.new 19, 3) := by decide +kernel
theorem dX2_init_86 : decode cX2_init 86 = .ok (.dup, 1) := by decide +kernel
theorem dX2_init_87 : decode cX2_init 87 = .ok (.invokespecial 25, 3) := by decide +kernel
theorem dX2_init_90 : decode cX2_init 90 = .ok (.aastore, 1) := by decide +kernel
theorem dX2_init_91 : decode cX2_init 91 = .ok (.iinc 1 1, 3) := by decide +kernel
theorem dX2_init_94 : decode cX2_init 94 = .ok (.goto (-25), 3) := by decide +kernel
theorem dX2_init_97 : decode cX2_init 97 = .ok (.return_, 1) := by decide +kernel
theorem dX2_append_0 : decode cX2_append 0 = .ok (.iload_n 1, 1) := by decide +kernel
theorem dX2_append_1 : decode cX2_append 1 = .ok (.invokestatic 31, 3) := by decide +kernel
theorem dX2_append_4 : decode cX2_append 4 = .ok (.ifCond .eq 21, 3) := by decide +kernel
theorem dX2_append_7 : decode cX2_append 7 = .ok (.lload_n 3, 1) := by decide +kernel
theorem dX2_append_8 : decode cX2_append 8 = .ok (.lload_n 3, 1) := by decide +kernel
theorem dX2_append_9 : decode cX2_append 9 = .ok (.l2i, 1) := by decide +kernel
theorem dX2_append_10 : decode cX2_append 10 = .ok (.i2l, 1) := by decide +kernel
theorem dX2_append_11 : decode cX2_append 11 = .ok (.lcmp, 1) := by decide +kernel
theorem dX2_append_12 : decode cX2_append 12 = .ok (.ifCond .eq 13, 3) := by decide +kernel
theorem dX2_append_15 : decode cX2_append 15 = .ok (.new 35, 3) := by decide +kernel
theorem dX2_append_18 : decode cX2_append 18 = .ok (.dup, 1) := by decide +kernel
theorem dX2_append_19 : decode cX2_append 19 = .ok (.ldc 37, 2) := by decide +kernel
theorem dX2_append_21 : decode cX2_append 21 = .ok (.invokespecial 39, 3) := by decide +kernel
theorem dX2_append_24 : decode cX2_append 24 = .ok (.athrow, 1) := by decide +kernel
theorem dX2_append_25 : decode cX2_append 25 = .ok (.aload_n 0, 1) := by decide +kernel
theorem dX2_append_26 : decode cX2_append 26 = .ok (.iload_n 1, 1) := by decide +kernel
theorem dX2_append_27 : decode cX2_append 27 = .ok (.iload_n 2, 1) := by decide +kernel
theorem dX2_append_28 : decode cX2_append 28 = .ok (.invokevirtual 42, 3) := by decide +kernel
theorem dX2_append_31 : decode cX2_append 31 = .ok (.astore 5, 2) := by decide +kernel
theorem dX2_append_33 : decode cX2_append 33 = .ok (.aload 5, 2) := by decide +kernel
theorem dX2_append_35 : decode cX2_append 35 = .ok (.lload_n 3, 1) := by decide +kernel
theorem dX2_append_36 : decode cX2_append 36 = .ok (.invokevirtual 46, 3) := by decide +kernel
theorem dX2_append_39 : decode cX2_append 39 = .ok (.ifCond .ne 13, 3) := by decide +kernel
theorem dX2_append_42 : decode cX2_append 42 = .ok (.new 50, 3) := by decide +kernel
theorem dX2_append_45 : decode cX2_append 45 = .ok (.dup, 1) := by decide +kernel
theorem dX2_append_46 : decode cX2_append 46 = .ok (.ldc 52, 2) := by decide +kernel
theorem dX2_append_48 : decode cX2_append 48 = .ok (.invokespecial 54, 3) := by decide +kernel
theorem dX2_append_51 : decode cX2_append 51 = .ok (.athrow, 1) := by decide +kernel
theorem dX2_append_52 : decode cX2_append 52 = .ok (.aload 5, 2) := by decide +kernel
theorem dX2_append_54 : decode cX2_append 54 = .ok (.getfield 55, 3) := by decide +kernel
theorem dX2_append_57 : decode cX2_append 57 = .ok (.ireturn, 1) := by decide +kernel
theorem dX2_lay_0 : decode cX2_lay 0 = .ok (.iload_n 3, 1) := by decide +kernel
theorem dX2_lay_1 : decode cX2_lay 1 = .ok (.ifCond .lt 9, 3) := by decide +kernel
theorem dX2_lay_4 : decode cX2_lay 4 = .ok (.iload_n 3, 1) := by decide +kernel
theorem dX2_lay_5 : decode cX2_lay 5 = .ok (.bipush 48, 2) := by decide +kernel
theorem dX2_lay_7 : decode cX2_lay 7 = .ok (.if_icmp .le 13, 3) := by decide +kernel
theorem dX2_lay_10 : decode cX2_lay 10 = .ok (.new 35, 3) := by decide +kernel
theorem dX2_lay_13 : decode cX2_lay 13 = .ok (.dup, 1) := by decide +kernel
theorem dX2_lay_14 : decode cX2_lay 14 = .ok (.ldc 59, 2) := by decide +kernel
theorem dX2_lay_16 : decode cX2_lay 16 = .ok (.invokespecial 39, 3) := by decide +kernel
theorem dX2_lay_19 : decode cX2_lay 19 = .ok (.athrow, 1) := by decide +kernel
theorem dX2_lay_20 : decode cX2_lay 20 = .ok (.aload_n 0, 1) := by decide +kernel
theorem dX2_lay_21 : decode cX2_lay 21 = .ok (.iload_n 1, 1) := by decide +kernel
theorem dX2_lay_22 : decode cX2_lay 22 = .ok (.iload_n 2, 1) := by decide +kernel
theorem dX2_lay_23 : decode cX2_lay 23 = .ok (.invokevirtual 42, 3) := by decide +kernel
theorem dX2_lay_26 : decode cX2_lay 26 = .ok (.astore 8, 2) := by decide +kernel
theorem dX2_lay_28 : decode cX2_lay 28 = .ok (.aload 8, 2) := by decide +kernel
theorem dX2_lay_30 : decode cX2_lay 30 = .ok (.getfield 55, 3) := by decide +kernel
theorem dX2_lay_33 : decode cX2_lay 33 = .ok (.istore 9, 2) := by decide +kernel
theorem dX2_lay_35 : decode cX2_lay 35 = .ok (.aload 8, 2) := by decide +kernel
theorem dX2_lay_37 : decode cX2_lay 37 = .ok (.invokevirtual 61, 3) := by decide +kernel
theorem dX2_lay_40 : decode cX2_lay 40 = .ok (.lload 4, 2) := by decide +kernel
theorem dX2_lay_42 : decode cX2_lay 42 = .ok (.lstore 10, 2) := by decide +kernel
theorem dX2_lay_44 : decode cX2_lay 44 = .ok (.iconst 0, 1) := by decide +kernel
theorem dX2_lay_45 : decode cX2_lay 45 = .ok (.istore 12, 2) := by decide +kernel
theorem dX2_lay_47 : decode cX2_lay 47 = .ok (.iload 12, 2) := by decide +kernel
theorem dX2_lay_49 : decode cX2_lay 49 = .ok (.iload_n 3, 1) := by decide +kernel
theorem dX2_lay_50 : decode cX2_lay 50 = .ok (.if_icmp .ge 38, 3) := by decide +kernel
theorem dX2_lay_53 : decode cX2_lay 53 = .ok (.aload 8, 2) := by decide +kernel
theorem dX2_lay_55 : decode cX2_lay 55 = .ok (.iload_n 1, 1) := by decide +kernel
theorem dX2_lay_56 : decode cX2_lay 56 = .ok (.invokestatic 31, 3) := by decide +kernel
theorem dX2_lay_59 : decode cX2_lay 59 = .ok (.ifCond .eq 10, 3) := by decide +kernel
theorem dX2_lay_62 : decode cX2_lay 62 = .ok (.lload 10, 2) := by decide +kernel
theorem dX2_lay_64 : decode cX2_lay 64 = .ok (.l2i, 1) := by decide +kernel
end
section
theorem dX2_lay_65 : decode cX2_lay 65 = .ok (.i2l, 1) := by decide +kernel
theorem dX2_lay_66 : decode cX2_lay 66 = .ok (.goto 5, 3) := by decide +kernel
theorem dX2_lay_69 : decode cX2_lay 69 = .ok (.lload 10, 2) := by decide +kernel
theorem dX2_lay_71 : decode cX2_lay 71 = .ok (.invokevirtual 46, 3) := by decide +kernel
theorem dX2_lay_74 : decode cX2_lay 74 = .ok (.pop, 1) := by decide +kernel
theorem dX2_lay_75 : decode cX2_lay 75 = .ok (.lload 10, 2) := by decide +kernel
theorem dX2_lay_77 : decode cX2_lay 77 = .ok (.lload 6, 2) := by decide +kernel
theorem dX2_lay_79 : decode cX2_lay 79 = .ok (.ladd, 1) := by decide +kernel
theorem dX2_lay_80 : decode cX2_lay 80 = .ok (.lstore 10, 2) := by decide +kernel
theorem dX2_lay_82 : decode cX2_lay 82 = .ok (.iinc 12 1, 3) := by decide +kernel
theorem dX2_lay_85 : decode cX2_lay 85 = .ok (.goto (-38), 3) := by decide +kernel
theorem dX2_lay_88 : decode cX2_lay 88 = .ok (.iload 9, 2) := by decide +kernel
theorem dX2_lay_90 : decode cX2_lay 90 = .ok (.ireturn, 1) := by decide +kernel
theorem dX2_turn_0 : decode cX2_turn 0 = .ok (.aload_n 0, 1) := by decide +kernel
theorem dX2_turn_1 : decode cX2_turn 1 = .ok (.iload_n 1, 1) := by decide +kernel
theorem dX2_turn_2 : decode cX2_turn 2 = .ok (.iload_n 2, 1) := by decide +kernel
theorem dX2_turn_3 : decode cX2_turn 3 = .ok (.invokevirtual 42, 3) := by decide +kernel
theorem dX2_turn_6 : decode cX2_turn 6 = .ok (.astore_n 3, 1) := by decide +kernel
theorem dX2_turn_7 : decode cX2_turn 7 = .ok (.aload_n 3, 1) := by decide +kernel
theorem dX2_turn_8 : decode cX2_turn 8 = .ok (.invokevirtual 64, 3) := by decide +kernel
theorem dX2_turn_11 : decode cX2_turn 11 = .ok (.aload_n 3, 1) := by decide +kernel
theorem dX2_turn_12 : decode cX2_turn 12 = .ok (.getfield 55, 3) := by decide +kernel
theorem dX2_turn_15 : decode cX2_turn 15 = .ok (.ireturn, 1) := by decide +kernel
theorem dX2_length_0 : decode cX2_length 0 = .ok (.aload_n 0, 1) := by decide +kernel
theorem dX2_length_1 : decode cX2_length 1 = .ok (.iload_n 1, 1) := by decide +kernel
theorem dX2_length_2 : decode cX2_length 2 = .ok (.iload_n 2, 1) := by decide +kernel
theorem dX2_length_3 : decode cX2_length 3 = .ok (.invokevirtual 42, 3) := by decide +kernel
theorem dX2_length_6 : decode cX2_length 6 = .ok (.getfield 55, 3) := by decide +kernel
theorem dX2_length_9 : decode cX2_length 9 = .ok (.ireturn, 1) := by decide +kernel
theorem dX2_number_0 : decode cX2_number 0 = .ok (.aload_n 0, 1) := by decide +kernel
theorem dX2_number_1 : decode cX2_number 1 = .ok (.iload_n 1, 1) := by decide +kernel
theorem dX2_number_2 : decode cX2_number 2 = .ok (.iload_n 2, 1) := by decide +kernel
theorem dX2_number_3 : decode cX2_number 3 = .ok (.invokevirtual 42, 3) := by decide +kernel
theorem dX2_number_6 : decode cX2_number 6 = .ok (.astore 4, 2) := by decide +kernel
theorem dX2_number_8 : decode cX2_number 8 = .ok (.iload_n 3, 1) := by decide +kernel
theorem dX2_number_9 : decode cX2_number 9 = .ok (.ifCond .lt 12, 3) := by decide +kernel
theorem dX2_number_12 : decode cX2_number 12 = .ok (.iload_n 3, 1) := by decide +kernel
theorem dX2_number_13 : decode cX2_number 13 = .ok (.aload 4, 2) := by decide +kernel
theorem dX2_number_15 : decode cX2_number 15 = .ok (.getfield 55, 3) := by decide +kernel
theorem dX2_number_18 : decode cX2_number 18 = .ok (.if_icmp .lt 13, 3) := by decide +kernel
theorem dX2_number_21 : decode cX2_number 21 = .ok (.new 67, 3) := by decide +kernel
theorem dX2_number_24 : decode cX2_number 24 = .ok (.dup, 1) := by decide +kernel
theorem dX2_number_25 : decode cX2_number 25 = .ok (.ldc 69, 2) := by decide +kernel
theorem dX2_number_27 : decode cX2_number 27 = .ok (.invokespecial 71, 3) := by decide +kernel
theorem dX2_number_30 : decode cX2_number 30 = .ok (.athrow, 1) := by decide +kernel
theorem dX2_number_31 : decode cX2_number 31 = .ok (.aload 4, 2) := by decide +kernel
theorem dX2_number_33 : decode cX2_number 33 = .ok (.iload_n 3, 1) := by decide +kernel
theorem dX2_number_34 : decode cX2_number 34 = .ok (.invokevirtual 72, 3) := by decide +kernel
theorem dX2_number_37 : decode cX2_number 37 = .ok (.lreturn, 1) := by decide +kernel
theorem dX2_open_0 : decode cX2_open 0 = .ok (.aload_n 0, 1) := by decide +kernel
theorem dX2_open_1 : decode cX2_open 1 = .ok (.iload_n 2, 1) := by decide +kernel
theorem dX2_open_2 : decode cX2_open 2 = .ok (.iload_n 3, 1) := by decide +kernel
theorem dX2_open_3 : decode cX2_open 3 = .ok (.invokevirtual 42, 3) := by decide +kernel
theorem dX2_open_6 : decode cX2_open 6 = .ok (.astore 6, 2) := by decide +kernel
theorem dX2_open_8 : decode cX2_open 8 = .ok (.aload_n 0, 1) := by decide +kernel
theorem dX2_open_9 : decode cX2_open 9 = .ok (.iload_n 1, 1) := by decide +kernel
theorem dX2_open_10 : decode cX2_open 10 = .ok (.invokevirtual 76, 3) := by decide +kernel
theorem dX2_open_13 : decode cX2_open 13 = .ok (.astore 7, 2) := by decide +kernel
theorem dX2_open_15 : decode cX2_open 15 = .ok (.iload 4, 2) := by decide +kernel
theorem dX2_open_17 : decode cX2_open 17 = .ok (.ifCond .lt 20, 3) := by decide +kernel
theorem dX2_open_20 : decode cX2_open 20 = .ok (.iload 4, 2) := by decide +kernel
theorem dX2_open_22 : decode cX2_open 22 = .ok (.iload 5, 2) := by decide +kernel
theorem dX2_open_24 : decode cX2_open 24 = .ok (.if_icmp .gt 13, 3) := by decide +kernel
theorem dX2_open_27 : decode cX2_open 27 = .ok (.iload 5, 2) := by decide +kernel
theorem dX2_open_29 : decode cX2_open 29 = .ok (.aload 6, 2) := by decide +kernel
theorem dX2_open_31 : decode cX2_open 31 = .ok (.getfield 55, 3) := by decide +kernel
theorem dX2_open_34 : decode cX2_open 34 = .ok (.if_icmp .le 13, 3) := by decide +kernel
theorem dX2_open_37 : decode cX2_open 37 = .ok (.new 67, 3) := by decide +kernel
theorem dX2_open_40 : decode cX2_open 40 = .ok (.dup, 1) := by decide +kernel
theorem dX2_open_41 : decode cX2_open 41 = .ok (.ldc 80, 2) := by decide +kernel
theorem dX2_open_43 : decode cX2_open 43 = .ok (.invokespecial 71, 3) := by decide +kernel
theorem dX2_open_46 : decode cX2_open 46 = .ok (.athrow, 1) := by decide +kernel
theorem dX2_open_47 : decode cX2_open 47 = .ok (.aload 7, 2) := by decide +kernel
theorem dX2_open_49 : decode cX2_open 49 = .ok (.aload 6, 2) := by decide +kernel
theorem dX2_open_51 : decode cX2_open 51 = .ok (.iload 4, 2) := by decide +kernel
theorem dX2_open_53 : decode cX2_open 53 = .ok (.iload 5, 2) := by decide +kernel
theorem dX2_open_55 : decode cX2_open 55 = .ok (.iload_n 2, 1) := by decide +kernel
theorem dX2_open_56 : decode cX2_open 56 = .ok (.bipush 111, 2) := by decide +kernel
theorem dX2_open_58 : decode cX2_open 58 = .ok (.if_icmp .ne 7, 3) := by decide +kernel
theorem dX2_open_61 : decode cX2_open 61 = .ok (.iconst 1, 1) := by decide +kernel
theorem dX2_open_62 : decode cX2_open 62 = .ok (.goto 4, 3) := by decide +kernel
theorem dX2_open_65 : decode cX2_open 65 = .ok (.iconst 0, 1) := by decide +kernel
theorem dX2_open_66 : decode cX2_open 66 = .ok (.invokevirtual 82, 3) := by decide +kernel
theorem dX2_open_69 : decode cX2_open 69 = .ok (.aload 7, 2) := by decide +kernel
theorem dX2_open_71 : decode cX2_open 71 = .ok (.getfield 86, 3) := by decide +kernel
theorem dX2_open_74 : decode cX2_open 74 = .ok (.ireturn, 1) := by decide +kernel
theorem dX2_openAll_0 : decode cX2_openAll 0 = .ok (.aload_n 0, 1) := by decide +kernel
theorem dX2_openAll_1 : decode cX2_openAll 1 = .ok (.iload_n 2, 1) := by decide +kernel
theorem dX2_openAll_2 : decode cX2_openAll 2 = .ok (.iload_n 3, 1) := by decide +kernel
theorem dX2_openAll_3 : decode cX2_openAll 3 = .ok (.invokevirtual 42, 3) := by decide +kernel
theorem dX2_openAll_6 : decode cX2_openAll 6 = .ok (.astore 4, 2) := by decide +kernel
theorem dX2_openAll_8 : decode cX2_openAll 8 = .ok (.aload_n 0, 1) := by decide +kernel
theorem dX2_openAll_9 : decode cX2_openAll 9 = .ok (.iload_n 1, 1) := by decide +kernel
theorem dX2_openAll_10 : decode cX2_openAll 10 = .ok (.invokevirtual 76, 3) := by decide +kernel
theorem dX2_openAll_13 : decode cX2_openAll 13 = .ok (.astore 5, 2) := by decide +kernel
theorem dX2_openAll_15 : decode cX2_openAll 15 = .ok (.aload 5, 2) := by decide +kernel
theorem dX2_openAll_17 : decode cX2_openAll 17 = .ok (.aload 4, 2) := by decide +kernel
theorem dX2_openAll_19 : decode cX2_openAll 19 = .ok (.iconst 0, 1) := by decide +kernel
theorem dX2_openAll_20 : decode cX2_openAll 20 = .ok (.aload 4, 2) := by decide +kernel
theorem dX2_openAll_22 : decode cX2_openAll 22 = .ok (.getfield 55, 3) := by decide +kernel
theorem dX2_openAll_25 : decode cX2_openAll 25 = .ok (.iload_n 2, 1) := by decide +kernel
theorem dX2_openAll_26 : decode cX2_openAll 26 = .ok (.bipush 111, 2) := by decide +kernel
theorem dX2_openAll_28 : decode cX2_openAll 28 = .ok (.if_icmp .ne 7, 3) := by decide +kernel
theorem dX2_openAll_31 : decode cX2_openAll 31 = .ok (.iconst 1, 1) := by decide +kernel
theorem dX2_openAll_32 : decode cX2_openAll 32 = .ok (.goto 4, 3) := by decide +kernel
theorem dX2_openAll_35 : decode cX2_openAll 35 = .ok (.iconst 0, 1) := by decide +kernel
theorem dX2_openAll_36 : decode cX2_openAll 36 = .ok (.invokevirtual 82, 3) := by decide +kernel
theorem dX2_openAll_39 : decode cX2_openAll 39 = .ok (.aload 5, 2) := by decide +kernel
theorem dX2_openAll_41 : decode cX2_openAll 41 = .ok (.getfield 86, 3) := by decide +kernel
theorem dX2_openAll_44 : decode cX2_openAll 44 = .ok (.ireturn, 1) := by decide +kernel
theorem dX2_items_0 : decode cX2_items 0 = .ok (.aload_n 0, 1) := by decide +kernel
theorem dX2_items_1 : decode cX2_items 1 = .ok (.iload_n 1, 1) := by decide +kernel
theorem dX2_items_2 : decode cX2_items 2 = .ok (.invokevirtual 76, 3) := by decide +kernel
theorem dX2_items_5 : decode cX2_items 5 = .ok (.getfield 89, 3) := by decide +kernel
theorem dX2_items_8 : decode cX2_items 8 = .ok (.ireturn, 1) := by decide +kernel
theorem dX2_kindOf_0 : decode cX2_kindOf 0 = .ok (.aload_n 0, 1) := by decide +kernel
theorem dX2_kindOf_1 : decode cX2_kindOf 1 = .ok (.iload_n 1, 1) := by decide +kernel
theorem dX2_kindOf_2 : decode cX2_kindOf 2 = .ok (.iload_n 2, 1) := by decide +kernel
theorem dX2_kindOf_3 : decode cX2_kindOf 3 = .ok (.invokevirtual 90, 3) := by decide +kernel
theorem dX2_kindOf_6 : decode cX2_kindOf 6 = .ok (.getfield 94, 3) := by decide +kernel
theorem dX2_kindOf_9 : decode cX2_kindOf 9 = .ok (.iload_n 2, 1) := by decide +kernel
theorem dX2_kindOf_10 : decode cX2_kindOf 10 = .ok (.iaload, 1) := by decide +kernel
theorem dX2_kindOf_11 : decode cX2_kindOf 11 = .ok (.i2c, 1) := by decide +kernel
theorem dX2_kindOf_12 : decode cX2_kindOf 12 = .ok (.ireturn, 1) := by decide +kernel
theorem dX2_given_0 : decode cX2_given 0 = .ok (.aload_n 0, 1) := by decide +kernel
theorem dX2_given_1 : decode cX2_given 1 = .ok (.iload_n 1, 1) := by decide +kernel
theorem dX2_given_2 : decode cX2_given 2 = .ok (.iload_n 2, 1) := by decide +kernel
theorem dX2_given_3 : decode cX2_given 3 = .ok (.invokevirtual 90, 3) := by decide +kernel
theorem dX2_given_6 : decode cX2_given 6 = .ok (.astore_n 3, 1) := by decide +kernel
theorem dX2_given_7 : decode cX2_given 7 = .ok (.aload_n 3, 1) := by decide +kernel
theorem dX2_given_8 : decode cX2_given 8 = .ok (.iload_n 2, 1) := by decide +kernel
theorem dX2_given_9 : decode cX2_given 9 = .ok (.invokevirtual 98, 3) := by decide +kernel
theorem dX2_given_12 : decode cX2_given 12 = .ok (.ifCond .ne 13, 3) := by decide +kernel
theorem dX2_given_15 : decode cX2_given 15 = .ok (.new 50, 3) := by decide +kernel
theorem dX2_given_18 : decode cX2_given 18 = .ok (.dup, 1) := by decide +kernel
theorem dX2_given_19 : decode cX2_given 19 = .ok (.ldc 102, 2) := by decide +kernel
theorem dX2_given_21 : decode cX2_given 21 = .ok (.invokespecial 54, 3) := by decide +kernel
theorem dX2_given_24 : decode cX2_given 24 = .ok (.athrow, 1) := by decide +kernel
theorem dX2_given_25 : decode cX2_given 25 = .ok (.aload_n 3, 1) := by decide +kernel
theorem dX2_given_26 : decode cX2_given 26 = .ok (.getfield 104, 3) := by decide +kernel
theorem dX2_given_29 : decode cX2_given 29 = .ok (.iload_n 2, 1) := by decide +kernel
theorem dX2_given_30 : decode cX2_given 30 = .ok (.laload, 1) := by decide +kernel
theorem dX2_given_31 : decode cX2_given 31 = .ok (.lreturn, 1) := by decide +kernel
theorem dX2_left_0 : decode cX2_left 0 = .ok (.aload_n 0, 1) := by decide +kernel
theorem dX2_left_1 : decode cX2_left 1 = .ok (.iload_n 1, 1) := by decide +kernel
theorem dX2_left_2 : decode cX2_left 2 = .ok (.iload_n 2, 1) := by decide +kernel
theorem dX2_left_3 : decode cX2_left 3 = .ok (.invokevirtual 108, 3) := by decide +kernel
theorem dX2_left_6 : decode cX2_left 6 = .ok (.iload_n 2, 1) := by decide +kernel
theorem dX2_left_7 : decode cX2_left 7 = .ok (.invokevirtual 111, 3) := by decide +kernel
theorem dX2_left_10 : decode cX2_left 10 = .ok (.ireturn, 1) := by decide +kernel
theorem dX2_ahead_0 : decode cX2_ahead 0 = .ok (.aload_n 0, 1) := by decide +kernel
theorem dX2_ahead_1 : decode cX2_ahead 1 = .ok (.iload_n 1, 1) := by decide +kernel
theorem dX2_ahead_2 : decode cX2_ahead 2 = .ok (.iload_n 2, 1) := by decide +kernel
theorem dX2_ahead_3 : decode cX2_ahead 3 = .ok (.invokevirtual 90, 3) := by decide +kernel
theorem dX2_ahead_6 : decode cX2_ahead 6 = .ok (.iload_n 2, 1) := by decide +kernel
theorem dX2_ahead_7 : decode cX2_ahead 7 = .ok (.invokevirtual 115, 3) := by decide +kernel
theorem dX2_ahead_10 : decode cX2_ahead 10 = .ok (.ireturn, 1) := by decide +kernel
theorem dX2_has_0 : decode cX2_has 0 = .ok (.aload_n 0, 1) := by decide +kernel
theorem dX2_has_1 : decode cX2_has 1 = .ok (.iload_n 1, 1) := by decide +kernel
theorem dX2_has_2 : decode cX2_has 2 = .ok (.iload_n 2, 1) := by decide +kernel
theorem dX2_has_3 : decode cX2_has 3 = .ok (.invokevirtual 118, 3) := by decide +kernel
theorem dX2_has_6 : decode cX2_has 6 = .ok (.astore 4, 2) := by decide +kernel
theorem dX2_has_8 : decode cX2_has 8 = .ok (.iload_n 3, 1) := by decide +kernel
theorem dX2_has_9 : decode cX2_has 9 = .ok (.invokestatic 121, 3) := by decide +kernel
theorem dX2_has_12 : decode cX2_has 12 = .ok (.istore 5, 2) := by decide +kernel
theorem dX2_has_14 : decode cX2_has 14 = .ok (.iload 5, 2) := by decide +kernel
theorem dX2_has_16 : decode cX2_has 16 = .ok (.ifCond .ne 13, 3) := by decide +kernel
theorem dX2_has_19 : decode cX2_has 19 = .ok (.new 35, 3) := by decide +kernel
theorem dX2_has_22 : decode cX2_has 22 = .ok (.dup, 1) := by decide +kernel
theorem dX2_has_23 : decode cX2_has 23 = .ok (.ldc 125, 2) := by decide +kernel
theorem dX2_has_25 : decode cX2_has 25 = .ok (.invokespecial 39, 3) := by decide +kernel
theorem dX2_has_28 : decode cX2_has 28 = .ok (.athrow, 1) := by decide +kernel
theorem dX2_has_29 : decode cX2_has 29 = .ok (.aload 4, 2) := by decide +kernel
theorem dX2_has_31 : decode cX2_has 31 = .ok (.iload_n 2, 1) := by decide +kernel
theorem dX2_has_32 : decode cX2_has 32 = .ok (.iload 5, 2) := by decide +kernel
theorem dX2_has_34 : decode cX2_has 34 = .ok (.invokevirtual 127, 3) := by decide +kernel
theorem dX2_has_37 : decode cX2_has 37 = .ok (.ireturn, 1) := by decide +kernel
theorem dX2_isExact_0 : decode cX2_isExact 0 = .ok (.aload_n 0, 1) := by decide +kernel
theorem dX2_isExact_1 : decode cX2_isExact 1 = .ok (.iload_n 1, 1) := by decide +kernel
theorem dX2_isExact_2 : decode cX2_isExact 2 = .ok (.iload_n 2, 1) := by decide +kernel
theorem dX2_isExact_3 : decode cX2_isExact 3 = .ok (.invokevirtual 118, 3) := by decide +kernel
theorem dX2_isExact_6 : decode cX2_isExact 6 = .ok (.iload_n 2, 1) := by decide +kernel
theorem dX2_isExact_7 : decode cX2_isExact 7 = .ok (.bipush 64, 2) := by decide +kernel
theorem dX2_isExact_9 : decode cX2_isExact 9 = .ok (.invokevirtual 127, 3) := by decide +kernel
theorem dX2_isExact_12 : decode cX2_isExact 12 = .ok (.ireturn, 1) := by decide +kernel
theorem dX2_split_0 : decode cX2_split 0 = .ok (.aload_n 0, 1) := by decide +kernel
theorem dX2_split_1 : decode cX2_split 1 = .ok (.iload_n 1, 1) := by decide +kernel
theorem dX2_split_2 : decode cX2_split 2 = .ok (.iload_n 2, 1) := by decide +kernel
theorem dX2_split_3 : decode cX2_split 3 = .ok (.invokevirtual 118, 3) := by decide +kernel
theorem dX2_split_6 : decode cX2_split 6 = .ok (.iload_n 2, 1) := by decide +kernel
theorem dX2_split_7 : decode cX2_split 7 = .ok (.invokevirtual 131, 3) := by decide +kernel
theorem dX2_split_10 : decode cX2_split 10 = .ok (.ireturn, 1) := by decide +kernel
theorem dX2_step_0 : decode cX2_step 0 = .ok (.aload_n 0, 1) := by decide +kernel
theorem dX2_step_1 : decode cX2_step 1 = .ok (.iload_n 1, 1) := by decide +kernel
theorem dX2_step_2 : decode cX2_step 2 = .ok (.iload_n 2, 1) := by decide +kernel
theorem dX2_step_3 : decode cX2_step 3 = .ok (.invokevirtual 108, 3) := by decide +kernel
theorem dX2_step_6 : decode cX2_step 6 = .ok (.iload_n 2, 1) := by decide +kernel
theorem dX2_step_7 : decode cX2_step 7 = .ok (.iconst 1, 1) := by decide +kernel
theorem dX2_step_8 : decode cX2_step 8 = .ok (.invokevirtual 134, 3) := by decide +kernel
theorem dX2_step_11 : decode cX2_step 11 = .ok (.iconst 1, 1) := by decide +kernel
theorem dX2_step_12 : decode cX2_step 12 = .ok (.if_icmp .ne 7, 3) := by decide +kernel
theorem dX2_step_15 : decode cX2_step 15 = .ok (.iconst 1, 1) := by decide +kernel
theorem dX2_step_16 : decode cX2_step 16 = .ok (.goto 4, 3) := by decide +kernel
theorem dX2_step_19 : decode cX2_step 19 = .ok (.iconst 0, 1) := by decide +kernel
theorem dX2_step_20 : decode cX2_step 20 = .ok (.ireturn, 1) := by decide +kernel
theorem dX2_drain_0 : decode cX2_drain 0 = .ok (.aload_n 0, 1) := by decide +kernel
theorem dX2_drain_1 : decode cX2_drain 1 = .ok (.iload_n 1, 1) := by decide +kernel
theorem dX2_drain_2 : decode cX2_drain 2 = .ok (.iload_n 2, 1) := by decide +kernel
theorem dX2_drain_3 : decode cX2_drain 3 = .ok (.invokevirtual 108, 3) := by decide +kernel
theorem dX2_drain_6 : decode cX2_drain 6 = .ok (.iload_n 2, 1) := by decide +kernel
theorem dX2_drain_7 : decode cX2_drain 7 = .ok (.bipush 48, 2) := by decide +kernel
theorem dX2_drain_9 : decode cX2_drain 9 = .ok (.invokevirtual 134, 3) := by decide +kernel
theorem dX2_drain_12 : decode cX2_drain 12 = .ok (.ireturn, 1) := by decide +kernel
theorem dX2_iterate_0 : decode cX2_iterate 0 = .ok (.aload_n 0, 1) := by decide +kernel
theorem dX2_iterate_1 : decode cX2_iterate 1 = .ok (.iload_n 1, 1) := by decide +kernel
theorem dX2_iterate_2 : decode cX2_iterate 2 = .ok (.iload_n 2, 1) := by decide +kernel
theorem dX2_iterate_3 : decode cX2_iterate 3 = .ok (.invokevirtual 118, 3) := by decide +kernel
theorem dX2_iterate_6 : decode cX2_iterate 6 = .ok (.astore_n 3, 1) := by decide +kernel
theorem dX2_iterate_7 : decode cX2_iterate 7 = .ok (.aload_n 3, 1) := by decide +kernel
theorem dX2_iterate_8 : decode cX2_iterate 8 = .ok (.getfield 138, 3) := by decide +kernel
theorem dX2_iterate_11 : decode cX2_iterate 11 = .ok (.ifCond .eq 13, 3) := by decide +kernel
theorem dX2_iterate_14 : decode cX2_iterate 14 = .ok (.new 142, 3) := by decide +kernel
theorem dX2_iterate_17 : decode cX2_iterate 17 = .ok (.dup, 1) := by decide +kernel
theorem dX2_iterate_18 : decode cX2_iterate 18 = .ok (.ldc 144, 2) := by decide +kernel
theorem dX2_iterate_20 : decode cX2_iterate 20 = .ok (.invokespecial 146, 3) := by decide +kernel
theorem dX2_iterate_23 : decode cX2_iterate 23 = .ok (.athrow, 1) := by decide +kernel
theorem dX2_iterate_24 : decode cX2_iterate 24 = .ok (.aload_n 3, 1) := by decide +kernel
theorem dX2_iterate_25 : decode cX2_iterate 25 = .ok (.getfield 94, 3) := by decide +kernel
theorem dX2_iterate_28 : decode cX2_iterate 28 = .ok (.iload_n 2, 1) := by decide +kernel
theorem dX2_iterate_29 : decode cX2_iterate 29 = .ok (.bipush 116, 2) := by decide +kernel
theorem dX2_iterate_31 : decode cX2_iterate 31 = .ok (.iastore, 1) := by decide +kernel
theorem dX2_iterate_32 : decode cX2_iterate 32 = .ok (.aload_n 3, 1) := by decide +kernel
theorem dX2_iterate_33 : decode cX2_iterate 33 = .ok (.iload_n 2, 1) := by decide +kernel
theorem dX2_iterate_34 : decode cX2_iterate 34 = .ok (.invokevirtual 111, 3) := by decide +kernel
theorem dX2_iterate_37 : decode cX2_iterate 37 = .ok (.ireturn, 1) := by decide +kernel
theorem dX2_hasNext_0 : decode cX2_hasNext 0 = .ok (.aload_n 0, 1) := by decide +kernel
theorem dX2_hasNext_1 : decode cX2_hasNext 1 = .ok (.iload_n 1, 1) := by decide +kernel
theorem dX2_hasNext_2 : decode cX2_hasNext 2 = .ok (.iload_n 2, 1) := by decide +kernel
theorem dX2_hasNext_3 : decode cX2_hasNext 3 = .ok (.invokevirtual 90, 3) := by decide +kernel
theorem dX2_hasNext_6 : decode cX2_hasNext 6 = .ok (.astore_n 3, 1) := by decide +kernel
theorem dX2_hasNext_7 : decode cX2_hasNext 7 = .ok (.aload_n 3, 1) := by decide +kernel
theorem dX2_hasNext_8 : decode cX2_hasNext 8 = .ok (.getfield 94, 3) := by decide +kernel
theorem dX2_hasNext_11 : decode cX2_hasNext 11 = .ok (.iload_n 2, 1) := by decide +kernel
theorem dX2_hasNext_12 : decode cX2_hasNext 12 = .ok (.iaload, 1) := by decide +kernel
theorem dX2_hasNext_13 : decode cX2_hasNext 13 = .ok (.bipush 116, 2) := by decide +kernel
theorem dX2_hasNext_15 : decode cX2_hasNext 15 = .ok (.if_icmp .eq 13, 3) := by decide +kernel
theorem dX2_hasNext_18 : decode cX2_hasNext 18 = .ok (.new 50, 3) := by decide +kernel
theorem dX2_hasNext_21 : decode cX2_hasNext 21 = .ok (.dup, 1) := by decide +kernel
theorem dX2_hasNext_22 : decode cX2_hasNext 22 = .ok (.ldc 147, 2) := by decide +kernel
theorem dX2_hasNext_24 : decode cX2_hasNext 24 = .ok (.invokespecial 54, 3) := by decide +kernel
theorem dX2_hasNext_27 : decode cX2_hasNext 27 = .ok (.athrow, 1) := by decide +kernel
theorem dX2_hasNext_28 : decode cX2_hasNext 28 = .ok (.aload_n 3, 1) := by decide +kernel
theorem dX2_hasNext_29 : decode cX2_hasNext 29 = .ok (.iload_n 2, 1) := by decide +kernel
theorem dX2_hasNext_30 : decode cX2_hasNext 30 = .ok (.invokevirtual 111, 3) := by decide +kernel
theorem dX2_hasNext_33 : decode cX2_hasNext 33 = .ok (.ifCond .le 7, 3) := by decide +kernel
theorem dX2_hasNext_36 : decode cX2_hasNext 36 = .ok (.iconst 1, 1) := by decide +kernel
theorem dX2_hasNext_37 : decode cX2_hasNext 37 = .ok (.goto 4, 3) := by decide +kernel
theorem dX2_hasNext_40 : decode cX2_hasNext 40 = .ok (.iconst 0, 1) := by decide +kernel
theorem dX2_hasNext_41 : decode cX2_hasNext 41 = .ok (.ireturn, 1) := by decide +kernel
theorem dX2_crumble_0 : decode cX2_crumble 0 = .ok (.aload_n 0, 1) := by decide +kernel
theorem dX2_crumble_1 : decode cX2_crumble 1 = .ok (.iload_n 1, 1) := by decide +kernel
theorem dX2_crumble_2 : decode cX2_crumble 2 = .ok (.invokevirtual 76, 3) := by decide +kernel
theorem dX2_crumble_5 : decode cX2_crumble 5 = .ok (.astore_n 3, 1) := by decide +kernel
theorem dX2_crumble_6 : decode cX2_crumble 6 = .ok (.iload_n 2, 1) := by decide +kernel
theorem dX2_crumble_7 : decode cX2_crumble 7 = .ok (.invokestatic 149, 3) := by decide +kernel
theorem dX2_crumble_10 : decode cX2_crumble 10 = .ok (.aload_n 3, 1) := by decide +kernel
theorem dX2_crumble_11 : decode cX2_crumble 11 = .ok (.iload_n 2, 1) := by decide +kernel
theorem dX2_crumble_12 : decode cX2_crumble 12 = .ok (.invokevirtual 153, 3) := by decide +kernel
theorem dX2_crumble_15 : decode cX2_crumble 15 = .ok (.ireturn, 1) := by decide +kernel
theorem dX2_sweep_0 : decode cX2_sweep 0 = .ok (.aload_n 0, 1) := by decide +kernel
theorem dX2_sweep_1 : decode cX2_sweep 1 = .ok (.iload_n 1, 1) := by decide +kernel
theorem dX2_sweep_2 : decode cX2_sweep 2 = .ok (.invokevirtual 76, 3) := by decide +kernel
theorem dX2_sweep_5 : decode cX2_sweep 5 = .ok (.invokevirtual 156, 3) := by decide +kernel
theorem dX2_sweep_8 : decode cX2_sweep 8 = .ok (.ireturn, 1) := by decide +kernel
theorem dX2_isRead_0 : decode cX2_isRead 0 = .ok (.aload_n 0, 1) := by decide +kernel
theorem dX2_isRead_1 : decode cX2_isRead 1 = .ok (.iload_n 1, 1) := by decide +kernel
theorem dX2_isRead_2 : decode cX2_isRead 2 = .ok (.invokevirtual 76, 3) := by decide +kernel
theorem dX2_isRead_5 : decode cX2_isRead 5 = .ok (.invokevirtual 160, 3) := by decide +kernel
theorem dX2_isRead_8 : decode cX2_isRead 8 = .ok (.ireturn, 1) := by decide +kernel
theorem dX2_fold_0 : decode cX2_fold 0 = .ok (.iload_n 3, 1) := by decide +kernel
theorem dX2_fold_1 : decode cX2_fold 1 = .ok (.invokestatic 149, 3) := by decide +kernel
theorem dX2_fold_4 : decode cX2_fold 4 = .ok (.getstatic 164, 3) := by decide +kernel
theorem dX2_fold_7 : decode cX2_fold 7 = .ok (.iload 4, 2) := by decide +kernel
theorem dX2_fold_9 : decode cX2_fold 9 = .ok (.invokestatic 167, 3) := by decide +kernel
theorem dX2_fold_12 : decode cX2_fold 12 = .ok (.ifCond .ge 13, 3) := by decide +kernel
theorem dX2_fold_15 : decode cX2_fold 15 = .ok (.new 35, 3) := by decide +kernel
theorem dX2_fold_18 : decode cX2_fold 18 = .ok (.dup, 1) := by decide +kernel
theorem dX2_fold_19 : decode cX2_fold 19 = .ok (.ldc 171, 2) := by decide +kernel
theorem dX2_fold_21 : decode cX2_fold 21 = .ok (.invokespecial 39, 3) := by decide +kernel
theorem dX2_fold_24 : decode cX2_fold 24 = .ok (.athrow, 1) := by decide +kernel
theorem dX2_fold_25 : decode cX2_fold 25 = .ok (.aload_n 0, 1) := by decide +kernel
theorem dX2_fold_26 : decode cX2_fold 26 = .ok (.iload_n 1, 1) := by decide +kernel
theorem dX2_fold_27 : decode cX2_fold 27 = .ok (.iload_n 2, 1) := by decide +kernel
theorem dX2_fold_28 : decode cX2_fold 28 = .ok (.invokevirtual 42, 3) := by decide +kernel
theorem dX2_fold_31 : decode cX2_fold 31 = .ok (.astore 5, 2) := by decide +kernel
theorem dX2_fold_33 : decode cX2_fold 33 = .ok (.aload 5, 2) := by decide +kernel
theorem dX2_fold_35 : decode cX2_fold 35 = .ok (.iconst 0, 1) := by decide +kernel
theorem dX2_fold_36 : decode cX2_fold 36 = .ok (.aload 5, 2) := by decide +kernel
theorem dX2_fold_38 : decode cX2_fold 38 = .ok (.getfield 55, 3) := by decide +kernel
theorem dX2_fold_41 : decode cX2_fold 41 = .ok (.iload_n 3, 1) := by decide +kernel
theorem dX2_fold_42 : decode cX2_fold 42 = .ok (.iload 4, 2) := by decide +kernel
theorem dX2_fold_44 : decode cX2_fold 44 = .ok (.iconst 0, 1) := by decide +kernel
theorem dX2_fold_45 : decode cX2_fold 45 = .ok (.invokestatic 173, 3) := by decide +kernel
theorem dX2_fold_48 : decode cX2_fold 48 = .ok (.lreturn, 1) := by decide +kernel
theorem dX2_pieces_0 : decode cX2_pieces 0 = .ok (.iload_n 3, 1) := by decide +kernel
theorem dX2_pieces_1 : decode cX2_pieces 1 = .ok (.invokestatic 149, 3) := by decide +kernel
theorem dX2_pieces_4 : decode cX2_pieces 4 = .ok (.aload_n 0, 1) := by decide +kernel
theorem dX2_pieces_5 : decode cX2_pieces 5 = .ok (.aload_n 0, 1) := by decide +kernel
theorem dX2_pieces_6 : decode cX2_pieces 6 = .ok (.iload_n 1, 1) := by decide +kernel
theorem dX2_pieces_7 : decode cX2_pieces 7 = .ok (.iload_n 2, 1) := by decide +kernel
theorem dX2_pieces_8 : decode cX2_pieces 8 = .ok (.invokevirtual 42, 3) := by decide +kernel
theorem dX2_pieces_11 : decode cX2_pieces 11 = .ok (.iload_n 3, 1) := by decide +kernel
theorem dX2_pieces_12 : decode cX2_pieces 12 = .ok (.invokevirtual 177, 3) := by decide +kernel
theorem dX2_pieces_15 : decode cX2_pieces 15 = .ok (.ireturn, 1) := by decide +kernel
theorem dX2_share_0 : decode cX2_share 0 = .ok (.aload_n 0, 1) := by decide +kernel
theorem dX2_share_1 : decode cX2_share 1 = .ok (.iload_n 1, 1) := by decide +kernel
theorem dX2_share_2 : decode cX2_share 2 = .ok (.invokevirtual 76, 3) := by decide +kernel
theorem dX2_share_5 : decode cX2_share 5 = .ok (.astore_n 2, 1) := by decide +kernel
theorem dX2_share_6 : decode cX2_share 6 = .ok (.aload_n 2, 1) := by decide +kernel
theorem dX2_share_7 : decode cX2_share 7 = .ok (.getfield 86, 3) := by decide +kernel
theorem dX2_share_10 : decode cX2_share 10 = .ok (.ifCond .ne 13, 3) := by decide +kernel
theorem dX2_share_13 : decode cX2_share 13 = .ok (.new 181, 3) := by decide +kernel
theorem dX2_share_16 : decode cX2_share 16 = .ok (.dup, 1) := by decide +kernel
theorem dX2_share_17 : decode cX2_share 17 = .ok (.ldc 183, 2) := by decide +kernel
theorem dX2_share_19 : decode cX2_share 19 = .ok (.invokespecial 185, 3) := by decide +kernel
theorem dX2_share_22 : decode cX2_share 22 = .ok (.athrow, 1) := by decide +kernel
theorem dX2_share_23 : decode cX2_share 23 = .ok (.aload_n 2, 1) := by decide +kernel
theorem dX2_share_24 : decode cX2_share 24 = .ok (.invokevirtual 186, 3) := by decide +kernel
theorem dX2_share_27 : decode cX2_share 27 = .ok (.i2f, 1) := by decide +kernel
theorem dX2_share_28 : decode cX2_share 28 = .ok (.aload_n 2, 1) := by decide +kernel
theorem dX2_share_29 : decode cX2_share 29 = .ok (.getfield 86, 3) := by decide +kernel
theorem dX2_share_32 : decode cX2_share 32 = .ok (.i2f, 1) := by decide +kernel
theorem dX2_share_33 : decode cX2_share 33 = .ok (.fdiv, 1) := by decide +kernel
theorem dX2_share_34 : decode cX2_share 34 = .ok (.freturn, 1) := by decide +kernel
theorem dX2_meanLeft_0 : decode cX2_meanLeft 0 = .ok (.aload_n 0, 1) := by decide +kernel
theorem dX2_meanLeft_1 : decode cX2_meanLeft 1 = .ok (.iload_n 1, 1) := by decide +kernel
theorem dX2_meanLeft_2 : decode cX2_meanLeft 2 = .ok (.invokevirtual 76, 3) := by decide +kernel
theorem dX2_meanLeft_5 : decode cX2_meanLeft 5 = .ok (.astore_n 2, 1) := by decide +kernel
theorem dX2_meanLeft_6 : decode cX2_meanLeft 6 = .ok (.aload_n 2, 1) := by decide +kernel
theorem dX2_meanLeft_7 : decode cX2_meanLeft 7 = .ok (.getfield 89, 3) := by decide +kernel
theorem dX2_meanLeft_10 : decode cX2_meanLeft 10 = .ok (.aload_n 2, 1) := by decide +kernel
theorem dX2_meanLeft_11 : decode cX2_meanLeft 11 = .ok (.invokevirtual 186, 3) := by decide +kernel
theorem dX2_meanLeft_14 : decode cX2_meanLeft 14 = .ok (.isub, 1) := by decide +kernel
theorem dX2_meanLeft_15 : decode cX2_meanLeft 15 = .ok (.istore_n 3, 1) := by decide +kernel
theorem dX2_meanLeft_16 : decode cX2_meanLeft 16 = .ok (.iload_n 3, 1) := by decide +kernel
theorem dX2_meanLeft_17 : decode cX2_meanLeft 17 = .ok (.ifCond .ne 13, 3) := by decide +kernel
theorem dX2_meanLeft_20 : decode cX2_meanLeft 20 = .ok (.new 181, 3) := by decide +kernel
theorem dX2_meanLeft_23 : decode cX2_meanLeft 23 = .ok (.dup, 1) := by decide +kernel
theorem dX2_meanLeft_24 : decode cX2_meanLeft 24 = .ok (.ldc 189, 2) := by decide +kernel
theorem dX2_meanLeft_26 : decode cX2_meanLeft 26 = .ok (.invokespecial 185, 3) := by decide +kernel
theorem dX2_meanLeft_29 : decode cX2_meanLeft 29 = .ok (.athrow, 1) := by decide +kernel
theorem dX2_meanLeft_30 : decode cX2_meanLeft 30 = .ok (.aload_n 2, 1) := by decide +kernel
theorem dX2_meanLeft_31 : decode cX2_meanLeft 31 = .ok (.invokevirtual 191, 3) := by decide +kernel
theorem dX2_meanLeft_34 : decode cX2_meanLeft 34 = .ok (.i2d, 1) := by decide +kernel
theorem dX2_meanLeft_35 : decode cX2_meanLeft 35 = .ok (.iload_n 3, 1) := by decide +kernel
theorem dX2_meanLeft_36 : decode cX2_meanLeft 36 = .ok (.i2d, 1) := by decide +kernel
theorem dX2_meanLeft_37 : decode cX2_meanLeft 37 = .ok (.ddiv, 1) := by decide +kernel
theorem dX2_meanLeft_38 : decode cX2_meanLeft 38 = .ok (.dreturn, 1) := by decide +kernel
theorem dX2_checksum_0 : decode cX2_checksum 0 = .ok (.ldc2_w 194, 3) := by decide +kernel
theorem dX2_checksum_3 : decode cX2_checksum 3 = .ok (.lstore_n 1, 1) := by decide +kernel
theorem dX2_checksum_4 : decode cX2_checksum 4 = .ok (.aload_n 0, 1) := by decide +kernel
theorem dX2_checksum_5 : decode cX2_checksum 5 = .ok (.getfield 15, 3) := by decide +kernel
theorem dX2_checksum_8 : decode cX2_checksum 8 = .ok (.astore_n 3, 1) := by decide +kernel
theorem dX2_checksum_9 : decode cX2_checksum 9 = .ok (.aload_n 3, 1) := by decide +kernel
theorem dX2_checksum_10 : decode cX2_checksum 10 = .ok (.arraylength, 1) := by decide +kernel
theorem dX2_checksum_11 : decode cX2_checksum 11 = .ok (.istore 4, 2) := by decide +kernel
theorem dX2_checksum_13 : decode cX2_checksum 13 = .ok (.iconst 0, 1) := by decide +kernel
theorem dX2_checksum_14 : decode cX2_checksum 14 = .ok (.istore 5, 2) := by decide +kernel
theorem dX2_checksum_16 : decode cX2_checksum 16 = .ok (.iload 5, 2) := by decide +kernel
theorem dX2_checksum_18 : decode cX2_checksum 18 = .ok (.iload 4, 2) := by decide +kernel
theorem dX2_checksum_20 : decode cX2_checksum 20 = .ok (.if_icmp .ge 22, 3) := by decide +kernel
theorem dX2_checksum_23 : decode cX2_checksum 23 = .ok (.aload_n 3, 1) := by decide +kernel
theorem dX2_checksum_24 : decode cX2_checksum 24 = .ok (.iload 5, 2) := by decide +kernel
theorem dX2_checksum_26 : decode cX2_checksum 26 = .ok (.aaload, 1) := by decide +kernel
theorem dX2_checksum_27 : decode cX2_checksum 27 = .ok (.astore 6, 2) := by decide +kernel
theorem dX2_checksum_29 : decode cX2_checksum 29 = .ok (.aload 6, 2) := by decide +kernel
theorem dX2_checksum_31 : decode cX2_checksum 31 = .ok (.lload_n 1, 1) := by decide +kernel
theorem dX2_checksum_32 : decode cX2_checksum 32 = .ok (.invokevirtual 196, 3) := by decide +kernel
theorem dX2_checksum_35 : decode cX2_checksum 35 = .ok (.lstore_n 1, 1) := by decide +kernel
theorem dX2_checksum_36 : decode cX2_checksum 36 = .ok (.iinc 5 1, 3) := by decide +kernel
theorem dX2_checksum_39 : decode cX2_checksum 39 = .ok (.goto (-23), 3) := by decide +kernel
theorem dX2_checksum_42 : decode cX2_checksum 42 = .ok (.aload_n 0, 1) := by decide +kernel
theorem dX2_checksum_43 : decode cX2_checksum 43 = .ok (.getfield 21, 3) := by decide +kernel
theorem dX2_checksum_46 : decode cX2_checksum 46 = .ok (.astore_n 3, 1) := by decide +kernel
theorem dX2_checksum_47 : decode cX2_checksum 47 = .ok (.aload_n 3, 1) := by decide +kernel
theorem dX2_checksum_48 : decode cX2_checksum 48 = .ok (.arraylength, 1) := by decide +kernel
theorem dX2_checksum_49 : decode cX2_checksum 49 = .ok (.istore 4, 2) := by decide +kernel
theorem dX2_checksum_51 : decode cX2_checksum 51 = .ok (.iconst 0, 1) := by decide +kernel
theorem dX2_checksum_52 : decode cX2_checksum 52 = .ok (.istore 5, 2) := by decide +kernel
theorem dX2_checksum_54 : decode cX2_checksum 54 = .ok (.iload 5, 2) := by decide +kernel
theorem dX2_checksum_56 : decode cX2_checksum 56 = .ok (.iload 4, 2) := by decide +kernel
theorem dX2_checksum_58 : decode cX2_checksum 58 = .ok (.if_icmp .ge 22, 3) := by decide +kernel
theorem dX2_checksum_61 : decode cX2_checksum 61 = .ok (.aload_n 3, 1) := by decide +kernel
theorem dX2_checksum_62 : decode cX2_checksum 62 = .ok (.iload 5, 2) := by decide +kernel
theorem dX2_checksum_64 : decode cX2_checksum 64 = .ok (.aaload, 1) := by decide +kernel
theorem dX2_checksum_65 : decode cX2_checksum 65 = .ok (.astore 6, 2) := by decide +kernel
theorem dX2_checksum_67 : decode cX2_checksum 67 = .ok (.aload 6, 2) := by decide +kernel
theorem dX2_checksum_69 : decode cX2_checksum 69 = .ok (.lload_n 1, 1) := by decide +kernel
theorem dX2_checksum_70 : decode cX2_checksum 70 = .ok (.invokevirtual 200, 3) := by decide +kernel
theorem dX2_checksum_73 : decode cX2_checksum 73 = .ok (.lstore_n 1, 1) := by decide +kernel
theorem dX2_checksum_74 : decode cX2_checksum 74 = .ok (.iinc 5 1, 3) := by decide +kernel
theorem dX2_checksum_77 : decode cX2_checksum 77 = .ok (.goto (-23), 3) := by decide +kernel
theorem dX2_checksum_80 : decode cX2_checksum 80 = .ok (.lload_n 1, 1) := by decide +kernel
theorem dX2_checksum_81 : decode cX2_checksum 81 = .ok (.lreturn, 1) := by decide +kernel
theorem dX2_isSound_0 : decode cX2_isSound 0 = .ok (.aload_n 0, 1) := by decide +kernel
theorem dX2_isSound_1 : decode cX2_isSound 1 = .ok (.getfield 21, 3) := by decide +kernel
theorem dX2_isSound_4 : decode cX2_isSound 4 = .ok (.astore_n 1, 1) := by decide +kernel
theorem dX2_isSound_5 : decode cX2_isSound 5 = .ok (.aload_n 1, 1) := by decide +kernel
theorem dX2_isSound_6 : decode cX2_isSound 6 = .ok (.arraylength, 1) := by decide +kernel
theorem dX2_isSound_7 : decode cX2_isSound 7 = .ok (.istore_n 2, 1) := by decide +kernel
theorem dX2_isSound_8 : decode cX2_isSound 8 = .ok (.iconst 0, 1) := by decide +kernel
theorem dX2_isSound_9 : decode cX2_isSound 9 = .ok (.istore_n 3, 1) := by decide +kernel
theorem dX2_isSound_10 : decode cX2_isSound 10 = .ok (.iload_n 3, 1) := by decide +kernel
theorem dX2_isSound_11 : decode cX2_isSound 11 = .ok (.iload_n 2, 1) := by decide +kernel
theorem dX2_isSound_12 : decode cX2_isSound 12 = .ok (.if_icmp .ge 24, 3) := by decide +kernel
theorem dX2_isSound_15 : decode cX2_isSound 15 = .ok (.aload_n 1, 1) := by decide +kernel
theorem dX2_isSound_16 : decode cX2_isSound 16 = .ok (.iload_n 3, 1) := by decide +kernel
theorem dX2_isSound_17 : decode cX2_isSound 17 = .ok (.aaload, 1) := by decide +kernel
theorem dX2_isSound_18 : decode cX2_isSound 18 = .ok (.astore 4, 2) := by decide +kernel
theorem dX2_isSound_20 : decode cX2_isSound 20 = .ok (.aload 4, 2) := by decide +kernel
theorem dX2_isSound_22 : decode cX2_isSound 22 = .ok (.invokevirtual 201, 3) := by decide +kernel
theorem dX2_isSound_25 : decode cX2_isSound 25 = .ok (.ifCond .ne 5, 3) := by decide +kernel
theorem dX2_isSound_28 : decode cX2_isSound 28 = .ok (.iconst 0, 1) := by decide +kernel
theorem dX2_isSound_29 : decode cX2_isSound 29 = .ok (.ireturn, 1) := by decide +kernel
theorem dX2_isSound_30 : decode cX2_isSound 30 = .ok (.iinc 3 1, 3) := by decide +kernel
theorem dX2_isSound_33 : decode cX2_isSound 33 = .ok (.goto (-23), 3) := by decide +kernel
theorem dX2_isSound_36 : decode cX2_isSound 36 = .ok (.aload_n 0, 1) := by decide +kernel
theorem dX2_isSound_37 : decode cX2_isSound 37 = .ok (.getfield 15, 3) := by decide +kernel
theorem dX2_isSound_40 : decode cX2_isSound 40 = .ok (.astore_n 1, 1) := by decide +kernel
theorem dX2_isSound_41 : decode cX2_isSound 41 = .ok (.aload_n 1, 1) := by decide +kernel
theorem dX2_isSound_42 : decode cX2_isSound 42 = .ok (.arraylength, 1) := by decide +kernel
theorem dX2_isSound_43 : decode cX2_isSound 43 = .ok (.istore_n 2, 1) := by decide +kernel
theorem dX2_isSound_44 : decode cX2_isSound 44 = .ok (.iconst 0, 1) := by decide +kernel
theorem dX2_isSound_45 : decode cX2_isSound 45 = .ok (.istore_n 3, 1) := by decide +kernel
theorem dX2_isSound_46 : decode cX2_isSound 46 = .ok (.iload_n 3, 1) := by decide +kernel
theorem dX2_isSound_47 : decode cX2_isSound 47 = .ok (.iload_n 2, 1) := by decide +kernel
theorem dX2_isSound_48 : decode cX2_isSound 48 = .ok (.if_icmp .ge 33, 3) := by decide +kernel
theorem dX2_isSound_51 : decode cX2_isSound 51 = .ok (.aload_n 1, 1) := by decide +kernel
theorem dX2_isSound_52 : decode cX2_isSound 52 = .ok (.iload_n 3, 1) := by decide +kernel
theorem dX2_isSound_53 : decode cX2_isSound 53 = .ok (.aaload, 1) := by decide +kernel
theorem dX2_isSound_54 : decode cX2_isSound 54 = .ok (.astore 4, 2) := by decide +kernel
theorem dX2_isSound_56 : decode cX2_isSound 56 = .ok (.aload 4, 2) := by decide +kernel
theorem dX2_isSound_58 : decode cX2_isSound 58 = .ok (.invokestatic 204, 3) := by decide +kernel
theorem dX2_isSound_61 : decode cX2_isSound 61 = .ok (.ifCond .eq 12, 3) := by decide +kernel
theorem dX2_isSound_64 : decode cX2_isSound 64 = .ok (.aload_n 0, 1) := by decide +kernel
theorem dX2_isSound_65 : decode cX2_isSound 65 = .ok (.aload 4, 2) := by decide +kernel
theorem dX2_isSound_67 : decode cX2_isSound 67 = .ok (.invokevirtual 208, 3) := by decide +kernel
theorem dX2_isSound_70 : decode cX2_isSound 70 = .ok (.ifCond .ne 5, 3) := by decide +kernel
theorem dX2_isSound_73 : decode cX2_isSound 73 = .ok (.iconst 0, 1) := by decide +kernel
theorem dX2_isSound_74 : decode cX2_isSound 74 = .ok (.ireturn, 1) := by decide +kernel
theorem dX2_isSound_75 : decode cX2_isSound 75 = .ok (.iinc 3 1, 3) := by decide +kernel
theorem dX2_isSound_78 : decode cX2_isSound 78 = .ok (.goto (-32), 3) := by decide +kernel
theorem dX2_isSound_81 : decode cX2_isSound 81 = .ok (.iconst 1, 1) := by decide +kernel
theorem dX2_isSound_82 : decode cX2_isSound 82 = .ok (.ireturn, 1) := by decide +kernel
theorem dX2_indexIn_0 : decode cX2_indexIn 0 = .ok (.iconst 0, 1) := by decide +kernel
theorem dX2_indexIn_1 : decode cX2_indexIn 1 = .ok (.istore_n 2, 1) := by decide +kernel
theorem dX2_indexIn_2 : decode cX2_indexIn 2 = .ok (.iload_n 2, 1) := by decide +kernel
theorem dX2_indexIn_3 : decode cX2_indexIn 3 = .ok (.aload_n 0, 1) := by decide +kernel
theorem dX2_indexIn_4 : decode cX2_indexIn 4 = .ok (.arraylength, 1) := by decide +kernel
theorem dX2_indexIn_5 : decode cX2_indexIn 5 = .ok (.if_icmp .ge 18, 3) := by decide +kernel
theorem dX2_indexIn_8 : decode cX2_indexIn 8 = .ok (.aload_n 0, 1) := by decide +kernel
theorem dX2_indexIn_9 : decode cX2_indexIn 9 = .ok (.iload_n 2, 1) := by decide +kernel
theorem dX2_indexIn_10 : decode cX2_indexIn 10 = .ok (.caload, 1) := by decide +kernel
theorem dX2_indexIn_11 : decode cX2_indexIn 11 = .ok (.iload_n 1, 1) := by decide +kernel
theorem dX2_indexIn_12 : decode cX2_indexIn 12 = .ok (.if_icmp .ne 5, 3) := by decide +kernel
theorem dX2_indexIn_15 : decode cX2_indexIn 15 = .ok (.iload_n 2, 1) := by decide +kernel
theorem dX2_indexIn_16 : decode cX2_indexIn 16 = .ok (.ireturn, 1) := by decide +kernel
theorem dX2_indexIn_17 : decode cX2_indexIn 17 = .ok (.iinc 2 1, 3) := by decide +kernel
theorem dX2_indexIn_20 : decode cX2_indexIn 20 = .ok (.goto (-18), 3) := by decide +kernel
theorem dX2_indexIn_23 : decode cX2_indexIn 23 = .ok (.iconst (-1), 1) := by decide +kernel
theorem dX2_indexIn_24 : decode cX2_indexIn 24 = .ok (.ireturn, 1) := by decide +kernel
theorem dX2_requirePieceSize_0 : decode cX2_requirePieceSize 0 = .ok (.iload_n 0, 1) := by decide +kernel
theorem dX2_requirePieceSize_1 : decode cX2_requirePieceSize 1 = .ok (.iconst 1, 1) := by decide +kernel
theorem dX2_requirePieceSize_2 : decode cX2_requirePieceSize 2 = .ok (.if_icmp .lt 9, 3) := by decide +kernel
theorem dX2_requirePieceSize_5 : decode cX2_requirePieceSize 5 = .ok (.iload_n 0, 1) := by decide +kernel
theorem dX2_requirePieceSize_6 : decode cX2_requirePieceSize 6 = .ok (.bipush 48, 2) := by decide +kernel
theorem dX2_requirePieceSize_8 : decode cX2_requirePieceSize 8 = .ok (.if_icmp .le 13, 3) := by decide +kernel
theorem dX2_requirePieceSize_11 : decode cX2_requirePieceSize 11 = .ok (.new 35, 3) := by decide +kernel
theorem dX2_requirePieceSize_14 : decode cX2_requirePieceSize 14 = .ok (.dup, 1) := by decide +kernel
theorem dX2_requirePieceSize_15 : decode cX2_requirePieceSize 15 = .ok (.ldc 211, 2) := by decide +kernel
theorem dX2_requirePieceSize_17 : decode cX2_requirePieceSize 17 = .ok (.invokespecial 39, 3) := by decide +kernel
theorem dX2_requirePieceSize_20 : decode cX2_requirePieceSize 20 = .ok (.athrow, 1) := by decide +kernel
theorem dX2_requirePieceSize_21 : decode cX2_requirePieceSize 21 = .ok (.return_, 1) := by decide +kernel
theorem dX2_isOfInts_0 : decode cX2_isOfInts 0 = .ok (.iload_n 0, 1) := by decide +kernel
theorem dX2_isOfInts_1 : decode cX2_isOfInts 1 = .ok (.bipush 108, 2) := by decide +kernel
theorem dX2_isOfInts_3 : decode cX2_isOfInts 3 = .ok (.if_icmp .eq 7, 3) := by decide +kernel
theorem dX2_isOfInts_6 : decode cX2_isOfInts 6 = .ok (.iconst 1, 1) := by decide +kernel
theorem dX2_isOfInts_7 : decode cX2_isOfInts 7 = .ok (.goto 4, 3) := by decide +kernel
theorem dX2_isOfInts_10 : decode cX2_isOfInts 10 = .ok (.iconst 0, 1) := by decide +kernel
theorem dX2_isOfInts_11 : decode cX2_isOfInts 11 = .ok (.ireturn, 1) := by decide +kernel
theorem dX2_characteristicsOf_0 : decode cX2_characteristicsOf 0 = .ok (.iload_n 0, 1) := by decide +kernel
theorem dX2_characteristicsOf_1 : decode cX2_characteristicsOf 1 = .ok (.lookupswitch 69 #[(97, 65), (105, 61), (111, 51), (115, 54), (117, 57)], 51) := by decide +kernel
theorem dX2_characteristicsOf_52 : decode cX2_characteristicsOf 52 = .ok (.bipush 16, 2) := by decide +kernel
theorem dX2_characteristicsOf_54 : decode cX2_characteristicsOf 54 = .ok (.ireturn, 1) := by decide +kernel
theorem dX2_characteristicsOf_55 : decode cX2_characteristicsOf 55 = .ok (.bipush 64, 2) := by decide +kernel
theorem dX2_characteristicsOf_57 : decode cX2_characteristicsOf 57 = .ok (.ireturn, 1) := by decide +kernel
theorem dX2_characteristicsOf_58 : decode cX2_characteristicsOf 58 = .ok (.sipush 16384, 3) := by decide +kernel
theorem dX2_characteristicsOf_61 : decode cX2_characteristicsOf 61 = .ok (.ireturn, 1) := by decide +kernel
theorem dX2_characteristicsOf_62 : decode cX2_characteristicsOf 62 = .ok (.sipush 1024, 3) := by decide +kernel
theorem dX2_characteristicsOf_65 : decode cX2_characteristicsOf 65 = .ok (.ireturn, 1) := by decide +kernel
theorem dX2_characteristicsOf_66 : decode cX2_characteristicsOf 66 = .ok (.sipush 17488, 3) := by decide +kernel
theorem dX2_characteristicsOf_69 : decode cX2_characteristicsOf 69 = .ok (.ireturn, 1) := by decide +kernel
theorem dX2_characteristicsOf_70 : decode cX2_characteristicsOf 70 = .ok (.iconst 0, 1) := by decide +kernel
theorem dX2_characteristicsOf_71 : decode cX2_characteristicsOf 71 = .ok (.ireturn, 1) := by decide +kernel
theorem dX2_rowOf_0 : decode cX2_rowOf 0 = .ok (.getstatic 9, 3) := by decide +kernel
theorem dX2_rowOf_3 : decode cX2_rowOf 3 = .ok (.iload_n 1, 1) := by decide +kernel
theorem dX2_rowOf_4 : decode cX2_rowOf 4 = .ok (.invokestatic 167, 3) := by decide +kernel
theorem dX2_rowOf_7 : decode cX2_rowOf 7 = .ok (.istore_n 3, 1) := by decide +kernel
theorem dX2_rowOf_8 : decode cX2_rowOf 8 = .ok (.iload_n 3, 1) := by decide +kernel
theorem dX2_rowOf_9 : decode cX2_rowOf 9 = .ok (.ifCond .ge 13, 3) := by decide +kernel
theorem dX2_rowOf_12 : decode cX2_rowOf 12 = .ok (.new 35, 3) := by decide +kernel
theorem dX2_rowOf_15 : decode cX2_rowOf 15 = .ok (.dup, 1) := by decide +kernel
theorem dX2_rowOf_16 : decode cX2_rowOf 16 = .ok (.ldc 213, 2) := by decide +kernel
theorem dX2_rowOf_18 : decode cX2_rowOf 18 = .ok (.invokespecial 39, 3) := by decide +kernel
theorem dX2_rowOf_21 : decode cX2_rowOf 21 = .ok (.athrow, 1) := by decide +kernel
theorem dX2_rowOf_22 : decode cX2_rowOf 22 = .ok (.iload_n 2, 1) := by decide +kernel
theorem dX2_rowOf_23 : decode cX2_rowOf 23 = .ok (.ifCond .lt 8, 3) := by decide +kernel
theorem dX2_rowOf_26 : decode cX2_rowOf 26 = .ok (.iload_n 2, 1) := by decide +kernel
theorem dX2_rowOf_27 : decode cX2_rowOf 27 = .ok (.iconst 4, 1) := by decide +kernel
theorem dX2_rowOf_28 : decode cX2_rowOf 28 = .ok (.if_icmp .lt 13, 3) := by decide +kernel
theorem dX2_rowOf_31 : decode cX2_rowOf 31 = .ok (.new 67, 3) := by decide +kernel
theorem dX2_rowOf_34 : decode cX2_rowOf 34 = .ok (.dup, 1) := by decide +kernel
theorem dX2_rowOf_35 : decode cX2_rowOf 35 = .ok (.ldc 215, 2) := by decide +kernel
theorem dX2_rowOf_37 : decode cX2_rowOf 37 = .ok (.invokespecial 71, 3) := by decide +kernel
theorem dX2_rowOf_40 : decode cX2_rowOf 40 = .ok (.athrow, 1) := by decide +kernel
theorem dX2_rowOf_41 : decode cX2_rowOf 41 = .ok (.aload_n 0, 1) := by decide +kernel
theorem dX2_rowOf_42 : decode cX2_rowOf 42 = .ok (.getfield 15, 3) := by decide +kernel
theorem dX2_rowOf_45 : decode cX2_rowOf 45 = .ok (.iload_n 3, 1) := by decide +kernel
theorem dX2_rowOf_46 : decode cX2_rowOf 46 = .ok (.iconst 4, 1) := by decide +kernel
theorem dX2_rowOf_47 : decode cX2_rowOf 47 = .ok (.imul, 1) := by decide +kernel
theorem dX2_rowOf_48 : decode cX2_rowOf 48 = .ok (.iload_n 2, 1) := by decide +kernel
theorem dX2_rowOf_49 : decode cX2_rowOf 49 = .ok (.iadd, 1) := by decide +kernel
theorem dX2_rowOf_50 : decode cX2_rowOf 50 = .ok (.aaload, 1) := by decide +kernel
theorem dX2_rowOf_51 : decode cX2_rowOf 51 = .ok (.areturn, 1) := by decide +kernel
theorem dX2_benchAt_0 : decode cX2_benchAt 0 = .ok (.iload_n 1, 1) := by decide +kernel
theorem dX2_benchAt_1 : decode cX2_benchAt 1 = .ok (.ifCond .lt 12, 3) := by decide +kernel
theorem dX2_benchAt_4 : decode cX2_benchAt 4 = .ok (.iload_n 1, 1) := by decide +kernel
theorem dX2_benchAt_5 : decode cX2_benchAt 5 = .ok (.aload_n 0, 1) := by decide +kernel
theorem dX2_benchAt_6 : decode cX2_benchAt 6 = .ok (.getfield 21, 3) := by decide +kernel
theorem dX2_benchAt_9 : decode cX2_benchAt 9 = .ok (.arraylength, 1) := by decide +kernel
theorem dX2_benchAt_10 : decode cX2_benchAt 10 = .ok (.if_icmp .lt 13, 3) := by decide +kernel
theorem dX2_benchAt_13 : decode cX2_benchAt 13 = .ok (.new 67, 3) := by decide +kernel
theorem dX2_benchAt_16 : decode cX2_benchAt 16 = .ok (.dup, 1) := by decide +kernel
theorem dX2_benchAt_17 : decode cX2_benchAt 17 = .ok (.ldc 217, 2) := by decide +kernel
theorem dX2_benchAt_19 : decode cX2_benchAt 19 = .ok (.invokespecial 71, 3) := by decide +kernel
theorem dX2_benchAt_22 : decode cX2_benchAt 22 = .ok (.athrow, 1) := by decide +kernel
theorem dX2_benchAt_23 : decode cX2_benchAt 23 = .ok (.aload_n 0, 1) := by decide +kernel
theorem dX2_benchAt_24 : decode cX2_benchAt 24 = .ok (.getfield 21, 3) := by decide +kernel
theorem dX2_benchAt_27 : decode cX2_benchAt 27 = .ok (.iload_n 1, 1) := by decide +kernel
theorem dX2_benchAt_28 : decode cX2_benchAt 28 = .ok (.aaload, 1) := by decide +kernel
theorem dX2_benchAt_29 : decode cX2_benchAt 29 = .ok (.areturn, 1) := by decide +kernel
theorem dX2_benchWithItem_0 : decode cX2_benchWithItem 0 = .ok (.aload_n 0, 1) := by decide +kernel
theorem dX2_benchWithItem_1 : decode cX2_benchWithItem 1 = .ok (.iload_n 1, 1) := by decide +kernel
theorem dX2_benchWithItem_2 : decode cX2_benchWithItem 2 = .ok (.invokevirtual 76, 3) := by decide +kernel
theorem dX2_benchWithItem_5 : decode cX2_benchWithItem 5 = .ok (.astore_n 3, 1) := by decide +kernel
theorem dX2_benchWithItem_6 : decode cX2_benchWithItem 6 = .ok (.iload_n 2, 1) := by decide +kernel
theorem dX2_benchWithItem_7 : decode cX2_benchWithItem 7 = .ok (.ifCond .lt 11, 3) := by decide +kernel
theorem dX2_benchWithItem_10 : decode cX2_benchWithItem 10 = .ok (.iload_n 2, 1) := by decide +kernel
theorem dX2_benchWithItem_11 : decode cX2_benchWithItem 11 = .ok (.aload_n 3, 1) := by decide +kernel
theorem dX2_benchWithItem_12 : decode cX2_benchWithItem 12 = .ok (.getfield 89, 3) := by decide +kernel
theorem dX2_benchWithItem_15 : decode cX2_benchWithItem 15 = .ok (.if_icmp .lt 13, 3) := by decide +kernel
theorem dX2_benchWithItem_18 : decode cX2_benchWithItem 18 = .ok (.new 67, 3) := by decide +kernel
theorem dX2_benchWithItem_21 : decode cX2_benchWithItem 21 = .ok (.dup, 1) := by decide +kernel
theorem dX2_benchWithItem_22 : decode cX2_benchWithItem 22 = .ok (.ldc 219, 2) := by decide +kernel
theorem dX2_benchWithItem_24 : decode cX2_benchWithItem 24 = .ok (.invokespecial 71, 3) := by decide +kernel
theorem dX2_benchWithItem_27 : decode cX2_benchWithItem 27 = .ok (.athrow, 1) := by decide +kernel
theorem dX2_benchWithItem_28 : decode cX2_benchWithItem 28 = .ok (.aload_n 3, 1) := by decide +kernel
theorem dX2_benchWithItem_29 : decode cX2_benchWithItem 29 = .ok (.areturn, 1) := by decide +kernel
theorem dX2_benchWithAnyPiece_0 : decode cX2_benchWithAnyPiece 0 = .ok (.aload_n 0, 1) := by decide +kernel
theorem dX2_benchWithAnyPiece_1 : decode cX2_benchWithAnyPiece 1 = .ok (.iload_n 1, 1) := by decide +kernel
theorem dX2_benchWithAnyPiece_2 : decode cX2_benchWithAnyPiece 2 = .ok (.iload_n 2, 1) := by decide +kernel
theorem dX2_benchWithAnyPiece_3 : decode cX2_benchWithAnyPiece 3 = .ok (.invokevirtual 90, 3) := by decide +kernel
theorem dX2_benchWithAnyPiece_6 : decode cX2_benchWithAnyPiece 6 = .ok (.astore_n 3, 1) := by decide +kernel
theorem dX2_benchWithAnyPiece_7 : decode cX2_benchWithAnyPiece 7 = .ok (.aload_n 3, 1) := by decide +kernel
theorem dX2_benchWithAnyPiece_8 : decode cX2_benchWithAnyPiece 8 = .ok (.iload_n 2, 1) := by decide +kernel
theorem dX2_benchWithAnyPiece_9 : decode cX2_benchWithAnyPiece 9 = .ok (.invokevirtual 98, 3) := by decide +kernel
theorem dX2_benchWithAnyPiece_12 : decode cX2_benchWithAnyPiece 12 = .ok (.ifCond .eq 13, 3) := by decide +kernel
theorem dX2_benchWithAnyPiece_15 : decode cX2_benchWithAnyPiece 15 = .ok (.new 50, 3) := by decide +kernel
theorem dX2_benchWithAnyPiece_18 : decode cX2_benchWithAnyPiece 18 = .ok (.dup, 1) := by decide +kernel
theorem dX2_benchWithAnyPiece_19 : decode cX2_benchWithAnyPiece 19 = .ok (.ldc 221, 2) := by decide +kernel
theorem dX2_benchWithAnyPiece_21 : decode cX2_benchWithAnyPiece 21 = .ok (.invokespecial 54, 3) := by decide +kernel
theorem dX2_benchWithAnyPiece_24 : decode cX2_benchWithAnyPiece 24 = .ok (.athrow, 1) := by decide +kernel
theorem dX2_benchWithAnyPiece_25 : decode cX2_benchWithAnyPiece 25 = .ok (.aload_n 3, 1) := by decide +kernel
theorem dX2_benchWithAnyPiece_26 : decode cX2_benchWithAnyPiece 26 = .ok (.areturn, 1) := by decide +kernel
theorem dX2_benchWithPiece_0 : decode cX2_benchWithPiece 0 = .ok (.aload_n 0, 1) := by decide +kernel
theorem dX2_benchWithPiece_1 : decode cX2_benchWithPiece 1 = .ok (.iload_n 1, 1) := by decide +kernel
theorem dX2_benchWithPiece_2 : decode cX2_benchWithPiece 2 = .ok (.iload_n 2, 1) := by decide +kernel
theorem dX2_benchWithPiece_3 : decode cX2_benchWithPiece 3 = .ok (.invokevirtual 90, 3) := by decide +kernel
theorem dX2_benchWithPiece_6 : decode cX2_benchWithPiece 6 = .ok (.astore_n 3, 1) := by decide +kernel
theorem dX2_benchWithPiece_7 : decode cX2_benchWithPiece 7 = .ok (.aload_n 3, 1) := by decide +kernel
theorem dX2_benchWithPiece_8 : decode cX2_benchWithPiece 8 = .ok (.getfield 94, 3) := by decide +kernel
theorem dX2_benchWithPiece_11 : decode cX2_benchWithPiece 11 = .ok (.iload_n 2, 1) := by decide +kernel
theorem dX2_benchWithPiece_12 : decode cX2_benchWithPiece 12 = .ok (.iaload, 1) := by decide +kernel
theorem dX2_benchWithPiece_13 : decode cX2_benchWithPiece 13 = .ok (.bipush 112, 2) := by decide +kernel
theorem dX2_benchWithPiece_15 : decode cX2_benchWithPiece 15 = .ok (.if_icmp .eq 13, 3) := by decide +kernel
theorem dX2_benchWithPiece_18 : decode cX2_benchWithPiece 18 = .ok (.new 50, 3) := by decide +kernel
theorem dX2_benchWithPiece_21 : decode cX2_benchWithPiece 21 = .ok (.dup, 1) := by decide +kernel
theorem dX2_benchWithPiece_22 : decode cX2_benchWithPiece 22 = .ok (.ldc 223, 2) := by decide +kernel
theorem dX2_benchWithPiece_24 : decode cX2_benchWithPiece 24 = .ok (.invokespecial 54, 3) := by decide +kernel
theorem dX2_benchWithPiece_27 : decode cX2_benchWithPiece 27 = .ok (.athrow, 1) := by decide +kernel
theorem dX2_benchWithPiece_28 : decode cX2_benchWithPiece 28 = .ok (.aload_n 3, 1) := by decide +kernel
theorem dX2_benchWithPiece_29 : decode cX2_benchWithPiece 29 = .ok (.areturn, 1) := by decide +kernel
theorem dX2_foldPart_0 : decode cX2_foldPart 0 = .ok (.iload_n 2, 1) := by decide +kernel
theorem dX2_foldPart_1 : decode cX2_foldPart 1 = .ok (.iload_n 1, 1) := by decide +kernel
theorem dX2_foldPart_2 : decode cX2_foldPart 2 = .ok (.isub, 1) := by decide +kernel
theorem dX2_foldPart_3 : decode cX2_foldPart 3 = .ok (.istore 6, 2) := by decide +kernel
theorem dX2_foldPart_5 : decode cX2_foldPart 5 = .ok (.iload 6, 2) := by decide +kernel
theorem dX2_foldPart_7 : decode cX2_foldPart 7 = .ok (.iload_n 3, 1) := by decide +kernel
theorem dX2_foldPart_8 : decode cX2_foldPart 8 = .ok (.if_icmp .le 10, 3) := by decide +kernel
theorem dX2_foldPart_11 : decode cX2_foldPart 11 = .ok (.iload 5, 2) := by decide +kernel
theorem dX2_foldPart_13 : decode cX2_foldPart 13 = .ok (.bipush 8, 2) := by decide +kernel
theorem dX2_foldPart_15 : decode cX2_foldPart 15 = .ok (.if_icmp .lt 12, 3) := by decide +kernel
theorem dX2_foldPart_18 : decode cX2_foldPart 18 = .ok (.aload_n 0, 1) := by decide +kernel
theorem dX2_foldPart_19 : decode cX2_foldPart 19 = .ok (.iload_n 1, 1) := by decide +kernel
theorem dX2_foldPart_20 : decode cX2_foldPart 20 = .ok (.iload_n 2, 1) := by decide +kernel
theorem dX2_foldPart_21 : decode cX2_foldPart 21 = .ok (.iload 4, 2) := by decide +kernel
theorem dX2_foldPart_23 : decode cX2_foldPart 23 = .ok (.invokestatic 225, 3) := by decide +kernel
theorem dX2_foldPart_26 : decode cX2_foldPart 26 = .ok (.lreturn, 1) := by decide +kernel
theorem dX2_foldPart_27 : decode cX2_foldPart 27 = .ok (.iload_n 1, 1) := by decide +kernel
theorem dX2_foldPart_28 : decode cX2_foldPart 28 = .ok (.iload 6, 2) := by decide +kernel
theorem dX2_foldPart_30 : decode cX2_foldPart 30 = .ok (.iconst 2, 1) := by decide +kernel
theorem dX2_foldPart_31 : decode cX2_foldPart 31 = .ok (.idiv, 1) := by decide +kernel
theorem dX2_foldPart_32 : decode cX2_foldPart 32 = .ok (.iadd, 1) := by decide +kernel
theorem dX2_foldPart_33 : decode cX2_foldPart 33 = .ok (.istore 7, 2) := by decide +kernel
theorem dX2_foldPart_35 : decode cX2_foldPart 35 = .ok (.aload_n 0, 1) := by decide +kernel
theorem dX2_foldPart_36 : decode cX2_foldPart 36 = .ok (.iload_n 1, 1) := by decide +kernel
theorem dX2_foldPart_37 : decode cX2_foldPart 37 = .ok (.iload 7, 2) := by decide +kernel
theorem dX2_foldPart_39 : decode cX2_foldPart 39 = .ok (.iload_n 3, 1) := by decide +kernel
theorem dX2_foldPart_40 : decode cX2_foldPart 40 = .ok (.iload 4, 2) := by decide +kernel
theorem dX2_foldPart_42 : decode cX2_foldPart 42 = .ok (.iload 5, 2) := by decide +kernel
theorem dX2_foldPart_44 : decode cX2_foldPart 44 = .ok (.iconst 1, 1) := by decide +kernel
theorem dX2_foldPart_45 : decode cX2_foldPart 45 = .ok (.iadd, 1) := by decide +kernel
theorem dX2_foldPart_46 : decode cX2_foldPart 46 = .ok (.invokestatic 173, 3) := by decide +kernel
theorem dX2_foldPart_49 : decode cX2_foldPart 49 = .ok (.lstore 8, 2) := by decide +kernel
theorem dX2_foldPart_51 : decode cX2_foldPart 51 = .ok (.aload_n 0, 1) := by decide +kernel
theorem dX2_foldPart_52 : decode cX2_foldPart 52 = .ok (.iload 7, 2) := by decide +kernel
theorem dX2_foldPart_54 : decode cX2_foldPart 54 = .ok (.iload_n 2, 1) := by decide +kernel
theorem dX2_foldPart_55 : decode cX2_foldPart 55 = .ok (.iload_n 3, 1) := by decide +kernel
theorem dX2_foldPart_56 : decode cX2_foldPart 56 = .ok (.iload 4, 2) := by decide +kernel
theorem dX2_foldPart_58 : decode cX2_foldPart 58 = .ok (.iload 5, 2) := by decide +kernel
theorem dX2_foldPart_60 : decode cX2_foldPart 60 = .ok (.iconst 1, 1) := by decide +kernel
theorem dX2_foldPart_61 : decode cX2_foldPart 61 = .ok (.iadd, 1) := by decide +kernel
theorem dX2_foldPart_62 : decode cX2_foldPart 62 = .ok (.invokestatic 173, 3) := by decide +kernel
theorem dX2_foldPart_65 : decode cX2_foldPart 65 = .ok (.lstore 10, 2) := by decide +kernel
theorem dX2_foldPart_67 : decode cX2_foldPart 67 = .ok (.aload_n 0, 1) := by decide +kernel
theorem dX2_foldPart_68 : decode cX2_foldPart 68 = .ok (.iload 4, 2) := by decide +kernel
theorem dX2_foldPart_70 : decode cX2_foldPart 70 = .ok (.lload 8, 2) := by decide +kernel
theorem dX2_foldPart_72 : decode cX2_foldPart 72 = .ok (.lload 10, 2) := by decide +kernel
theorem dX2_foldPart_74 : decode cX2_foldPart 74 = .ok (.iload_n 2, 1) := by decide +kernel
theorem dX2_foldPart_75 : decode cX2_foldPart 75 = .ok (.iload 7, 2) := by decide +kernel
theorem dX2_foldPart_77 : decode cX2_foldPart 77 = .ok (.isub, 1) := by decide +kernel
theorem dX2_foldPart_78 : decode cX2_foldPart 78 = .ok (.invokestatic 229, 3) := by decide +kernel
theorem dX2_foldPart_81 : decode cX2_foldPart 81 = .ok (.lreturn, 1) := by decide +kernel
theorem dX2_foldByNumber_0 : decode cX2_foldByNumber 0 = .ok (.iload_n 3, 1) := by decide +kernel
theorem dX2_foldByNumber_1 : decode cX2_foldByNumber 1 = .ok (.bipush 102, 2) := by decide +kernel
theorem dX2_foldByNumber_3 : decode cX2_foldByNumber 3 = .ok (.if_icmp .ne 9, 3) := by decide +kernel
theorem dX2_foldByNumber_6 : decode cX2_foldByNumber 6 = .ok (.ldc2_w 233, 3) := by decide +kernel
theorem dX2_foldByNumber_9 : decode cX2_foldByNumber 9 = .ok (.goto 4, 3) := by decide +kernel
theorem dX2_foldByNumber_12 : decode cX2_foldByNumber 12 = .ok (.lconst 0, 1) := by decide +kernel
theorem dX2_foldByNumber_13 : decode cX2_foldByNumber 13 = .ok (.lstore 4, 2) := by decide +kernel
theorem dX2_foldByNumber_15 : decode cX2_foldByNumber 15 = .ok (.iload_n 1, 1) := by decide +kernel
theorem dX2_foldByNumber_16 : decode cX2_foldByNumber 16 = .ok (.istore 6, 2) := by decide +kernel
theorem dX2_foldByNumber_18 : decode cX2_foldByNumber 18 = .ok (.iload 6, 2) := by decide +kernel
theorem dX2_foldByNumber_20 : decode cX2_foldByNumber 20 = .ok (.iload_n 2, 1) := by decide +kernel
theorem dX2_foldByNumber_21 : decode cX2_foldByNumber 21 = .ok (.if_icmp .ge 20, 3) := by decide +kernel
theorem dX2_foldByNumber_24 : decode cX2_foldByNumber 24 = .ok (.aload_n 0, 1) := by decide +kernel
theorem dX2_foldByNumber_25 : decode cX2_foldByNumber 25 = .ok (.iload_n 3, 1) := by decide +kernel
theorem dX2_foldByNumber_26 : decode cX2_foldByNumber 26 = .ok (.lload 4, 2) := by decide +kernel
theorem dX2_foldByNumber_28 : decode cX2_foldByNumber 28 = .ok (.iload 6, 2) := by decide +kernel
theorem dX2_foldByNumber_30 : decode cX2_foldByNumber 30 = .ok (.invokestatic 235, 3) := by decide +kernel
theorem dX2_foldByNumber_33 : decode cX2_foldByNumber 33 = .ok (.lstore 4, 2) := by decide +kernel
theorem dX2_foldByNumber_35 : decode cX2_foldByNumber 35 = .ok (.iinc 6 1, 3) := by decide +kernel
theorem dX2_foldByNumber_38 : decode cX2_foldByNumber 38 = .ok (.goto (-20), 3) := by decide +kernel
theorem dX2_foldByNumber_41 : decode cX2_foldByNumber 41 = .ok (.lload 4, 2) := by decide +kernel
theorem dX2_foldByNumber_43 : decode cX2_foldByNumber 43 = .ok (.lreturn, 1) := by decide +kernel
theorem dX2_foldNext_0 : decode cX2_foldNext 0 = .ok (.aload_n 0, 1) := by decide +kernel
theorem dX2_foldNext_1 : decode cX2_foldNext 1 = .ok (.iload 4, 2) := by decide +kernel
theorem dX2_foldNext_3 : decode cX2_foldNext 3 = .ok (.invokevirtual 72, 3) := by decide +kernel
theorem dX2_foldNext_6 : decode cX2_foldNext 6 = .ok (.lstore 5, 2) := by decide +kernel
theorem dX2_foldNext_8 : decode cX2_foldNext 8 = .ok (.iload_n 1, 1) := by decide +kernel
theorem dX2_foldNext_9 : decode cX2_foldNext 9 = .ok (.lookupswitch 54 #[(104, 45), (115, 35), (120, 40)], 35) := by decide +kernel
theorem dX2_foldNext_44 : decode cX2_foldNext 44 = .ok (.lload_n 2, 1) := by decide +kernel
theorem dX2_foldNext_45 : decode cX2_foldNext 45 = .ok (.lload 5, 2) := by decide +kernel
theorem dX2_foldNext_47 : decode cX2_foldNext 47 = .ok (.ladd, 1) := by decide +kernel
theorem dX2_foldNext_48 : decode cX2_foldNext 48 = .ok (.lreturn, 1) := by decide +kernel
theorem dX2_foldNext_49 : decode cX2_foldNext 49 = .ok (.lload_n 2, 1) := by decide +kernel
theorem dX2_foldNext_50 : decode cX2_foldNext 50 = .ok (.lload 5, 2) := by decide +kernel
theorem dX2_foldNext_52 : decode cX2_foldNext 52 = .ok (.lxor, 1) := by decide +kernel
theorem dX2_foldNext_53 : decode cX2_foldNext 53 = .ok (.lreturn, 1) := by decide +kernel
theorem dX2_foldNext_54 : decode cX2_foldNext 54 = .ok (.ldc2_w 239, 3) := by decide +kernel
theorem dX2_foldNext_57 : decode cX2_foldNext 57 = .ok (.lload_n 2, 1) := by decide +kernel
theorem dX2_foldNext_58 : decode cX2_foldNext 58 = .ok (.lmul, 1) := by decide +kernel
theorem dX2_foldNext_59 : decode cX2_foldNext 59 = .ok (.lload 5, 2) := by decide +kernel
theorem dX2_foldNext_61 : decode cX2_foldNext 61 = .ok (.ladd, 1) := by decide +kernel
theorem dX2_foldNext_62 : decode cX2_foldNext 62 = .ok (.lreturn, 1) := by decide +kernel
theorem dX2_foldNext_63 : decode cX2_foldNext 63 = .ok (.lload_n 2, 1) := by decide +kernel
theorem dX2_foldNext_64 : decode cX2_foldNext 64 = .ok (.lconst 0, 1) := by decide +kernel
theorem dX2_foldNext_65 : decode cX2_foldNext 65 = .ok (.lcmp, 1) := by decide +kernel
theorem dX2_foldNext_66 : decode cX2_foldNext 66 = .ok (.ifCond .lt 15, 3) := by decide +kernel
theorem dX2_foldNext_69 : decode cX2_foldNext 69 = .ok (.lload 5, 2) := by decide +kernel
theorem dX2_foldNext_71 : decode cX2_foldNext 71 = .ok (.aload_n 0, 1) := by decide +kernel
theorem dX2_foldNext_72 : decode cX2_foldNext 72 = .ok (.lload_n 2, 1) := by decide +kernel
theorem dX2_foldNext_73 : decode cX2_foldNext 73 = .ok (.l2i, 1) := by decide +kernel
theorem dX2_foldNext_74 : decode cX2_foldNext 74 = .ok (.invokevirtual 72, 3) := by decide +kernel
theorem dX2_foldNext_77 : decode cX2_foldNext 77 = .ok (.lcmp, 1) := by decide +kernel
theorem dX2_foldNext_78 : decode cX2_foldNext 78 = .ok (.ifCond .le 9, 3) := by decide +kernel
theorem dX2_foldNext_81 : decode cX2_foldNext 81 = .ok (.iload 4, 2) := by decide +kernel
theorem dX2_foldNext_83 : decode cX2_foldNext 83 = .ok (.i2l, 1) := by decide +kernel
theorem dX2_foldNext_84 : decode cX2_foldNext 84 = .ok (.goto 4, 3) := by decide +kernel
theorem dX2_foldNext_87 : decode cX2_foldNext 87 = .ok (.lload_n 2, 1) := by decide +kernel
theorem dX2_foldNext_88 : decode cX2_foldNext 88 = .ok (.lreturn, 1) := by decide +kernel
theorem dX2_join_0 : decode cX2_join 0 = .ok (.iload_n 1, 1) := by decide +kernel
theorem dX2_join_1 : decode cX2_join 1 = .ok (.lookupswitch 56 #[(104, 45), (115, 35), (120, 40)], 35) := by decide +kernel
theorem dX2_join_36 : decode cX2_join 36 = .ok (.lload_n 2, 1) := by decide +kernel
theorem dX2_join_37 : decode cX2_join 37 = .ok (.lload 4, 2) := by decide +kernel
theorem dX2_join_39 : decode cX2_join 39 = .ok (.ladd, 1) := by decide +kernel
theorem dX2_join_40 : decode cX2_join 40 = .ok (.lreturn, 1) := by decide +kernel
theorem dX2_join_41 : decode cX2_join 41 = .ok (.lload_n 2, 1) := by decide +kernel
theorem dX2_join_42 : decode cX2_join 42 = .ok (.lload 4, 2) := by decide +kernel
theorem dX2_join_44 : decode cX2_join 44 = .ok (.lxor, 1) := by decide +kernel
theorem dX2_join_45 : decode cX2_join 45 = .ok (.lreturn, 1) := by decide +kernel
theorem dX2_join_46 : decode cX2_join 46 = .ok (.lload_n 2, 1) := by decide +kernel
theorem dX2_join_47 : decode cX2_join 47 = .ok (.iload 6, 2) := by decide +kernel
theorem dX2_join_49 : decode cX2_join 49 = .ok (.invokestatic 241, 3) := by decide +kernel
theorem dX2_join_52 : decode cX2_join 52 = .ok (.lmul, 1) := by decide +kernel
theorem dX2_join_53 : decode cX2_join 53 = .ok (.lload 4, 2) := by decide +kernel
theorem dX2_join_55 : decode cX2_join 55 = .ok (.ladd, 1) := by decide +kernel
theorem dX2_join_56 : decode cX2_join 56 = .ok (.lreturn, 1) := by decide +kernel
theorem dX2_join_57 : decode cX2_join 57 = .ok (.aload_n 0, 1) := by decide +kernel
theorem dX2_join_58 : decode cX2_join 58 = .ok (.lload_n 2, 1) := by decide +kernel
theorem dX2_join_59 : decode cX2_join 59 = .ok (.lload 4, 2) := by decide +kernel
theorem dX2_join_61 : decode cX2_join 61 = .ok (.invokestatic 244, 3) := by decide +kernel
theorem dX2_join_64 : decode cX2_join 64 = .ok (.lreturn, 1) := by decide +kernel
theorem dX2_powerOf31_0 : decode cX2_powerOf31 0 = .ok (.lconst 1, 1) := by decide +kernel
theorem dX2_powerOf31_1 : decode cX2_powerOf31 1 = .ok (.lstore_n 1, 1) := by decide +kernel
theorem dX2_powerOf31_2 : decode cX2_powerOf31 2 = .ok (.iconst 0, 1) := by decide +kernel
theorem dX2_powerOf31_3 : decode cX2_powerOf31 3 = .ok (.istore_n 3, 1) := by decide +kernel
theorem dX2_powerOf31_4 : decode cX2_powerOf31 4 = .ok (.iload_n 3, 1) := by decide +kernel
theorem dX2_powerOf31_5 : decode cX2_powerOf31 5 = .ok (.iload_n 0, 1) := by decide +kernel
theorem dX2_powerOf31_6 : decode cX2_powerOf31 6 = .ok (.if_icmp .ge 15, 3) := by decide +kernel
theorem dX2_powerOf31_9 : decode cX2_powerOf31 9 = .ok (.lload_n 1, 1) := by decide +kernel
theorem dX2_powerOf31_10 : decode cX2_powerOf31 10 = .ok (.ldc2_w 239, 3) := by decide +kernel
theorem dX2_powerOf31_13 : decode cX2_powerOf31 13 = .ok (.lmul, 1) := by decide +kernel
theorem dX2_powerOf31_14 : decode cX2_powerOf31 14 = .ok (.lstore_n 1, 1) := by decide +kernel
theorem dX2_powerOf31_15 : decode cX2_powerOf31 15 = .ok (.iinc 3 1, 3) := by decide +kernel
theorem dX2_powerOf31_18 : decode cX2_powerOf31 18 = .ok (.goto (-14), 3) := by decide +kernel
theorem dX2_powerOf31_21 : decode cX2_powerOf31 21 = .ok (.lload_n 1, 1) := by decide +kernel
theorem dX2_powerOf31_22 : decode cX2_powerOf31 22 = .ok (.lreturn, 1) := by decide +kernel
theorem dX2_greaterPlace_0 : decode cX2_greaterPlace 0 = .ok (.lload_n 1, 1) := by decide +kernel
theorem dX2_greaterPlace_1 : decode cX2_greaterPlace 1 = .ok (.lconst 0, 1) := by decide +kernel
theorem dX2_greaterPlace_2 : decode cX2_greaterPlace 2 = .ok (.lcmp, 1) := by decide +kernel
theorem dX2_greaterPlace_3 : decode cX2_greaterPlace 3 = .ok (.ifCond .lt 9, 3) := by decide +kernel
theorem dX2_greaterPlace_6 : decode cX2_greaterPlace 6 = .ok (.lload_n 3, 1) := by decide +kernel
theorem dX2_greaterPlace_7 : decode cX2_greaterPlace 7 = .ok (.lconst 0, 1) := by decide +kernel
theorem dX2_greaterPlace_8 : decode cX2_greaterPlace 8 = .ok (.lcmp, 1) := by decide +kernel
theorem dX2_greaterPlace_9 : decode cX2_greaterPlace 9 = .ok (.ifCond .ge 9, 3) := by decide +kernel
theorem dX2_greaterPlace_12 : decode cX2_greaterPlace 12 = .ok (.lload_n 1, 1) := by decide +kernel
theorem dX2_greaterPlace_13 : decode cX2_greaterPlace 13 = .ok (.lload_n 3, 1) := by decide +kernel
theorem dX2_greaterPlace_14 : decode cX2_greaterPlace 14 = .ok (.invokestatic 248, 3) := by decide +kernel
theorem dX2_greaterPlace_17 : decode cX2_greaterPlace 17 = .ok (.lreturn, 1) := by decide +kernel
theorem dX2_greaterPlace_18 : decode cX2_greaterPlace 18 = .ok (.aload_n 0, 1) := by decide +kernel
theorem dX2_greaterPlace_19 : decode cX2_greaterPlace 19 = .ok (.lload_n 3, 1) := by decide +kernel
theorem dX2_greaterPlace_20 : decode cX2_greaterPlace 20 = .ok (.l2i, 1) := by decide +kernel
theorem dX2_greaterPlace_21 : decode cX2_greaterPlace 21 = .ok (.invokevirtual 72, 3) := by decide +kernel
theorem dX2_greaterPlace_24 : decode cX2_greaterPlace 24 = .ok (.aload_n 0, 1) := by decide +kernel
theorem dX2_greaterPlace_25 : decode cX2_greaterPlace 25 = .ok (.lload_n 1, 1) := by decide +kernel
theorem dX2_greaterPlace_26 : decode cX2_greaterPlace 26 = .ok (.l2i, 1) := by decide +kernel
theorem dX2_greaterPlace_27 : decode cX2_greaterPlace 27 = .ok (.invokevirtual 72, 3) := by decide +kernel
theorem dX2_greaterPlace_30 : decode cX2_greaterPlace 30 = .ok (.lcmp, 1) := by decide +kernel
theorem dX2_greaterPlace_31 : decode cX2_greaterPlace 31 = .ok (.ifCond .le 7, 3) := by decide +kernel
theorem dX2_greaterPlace_34 : decode cX2_greaterPlace 34 = .ok (.lload_n 3, 1) := by decide +kernel
theorem dX2_greaterPlace_35 : decode cX2_greaterPlace 35 = .ok (.goto 4, 3) := by decide +kernel
theorem dX2_greaterPlace_38 : decode cX2_greaterPlace 38 = .ok (.lload_n 1, 1) := by decide +kernel
theorem dX2_greaterPlace_39 : decode cX2_greaterPlace 39 = .ok (.lreturn, 1) := by decide +kernel
theorem dX2_countBySplitting_0 : decode cX2_countBySplitting 0 = .ok (.aload_n 0, 1) := by decide +kernel
theorem dX2_countBySplitting_1 : decode cX2_countBySplitting 1 = .ok (.getfield 26, 3) := by decide +kernel
theorem dX2_countBySplitting_4 : decode cX2_countBySplitting 4 = .ok (.aload_n 1, 1) := by decide +kernel
theorem dX2_countBySplitting_5 : decode cX2_countBySplitting 5 = .ok (.iconst 0, 1) := by decide +kernel
theorem dX2_countBySplitting_6 : decode cX2_countBySplitting 6 = .ok (.aload_n 1, 1) := by decide +kernel
theorem dX2_countBySplitting_7 : decode cX2_countBySplitting 7 = .ok (.getfield 55, 3) := by decide +kernel
theorem dX2_countBySplitting_10 : decode cX2_countBySplitting 10 = .ok (.iconst 0, 1) := by decide +kernel
theorem dX2_countBySplitting_11 : decode cX2_countBySplitting 11 = .ok (.invokevirtual 82, 3) := by decide +kernel
theorem dX2_countBySplitting_14 : decode cX2_countBySplitting 14 = .ok (.aload_n 0, 1) := by decide +kernel
theorem dX2_countBySplitting_15 : decode cX2_countBySplitting 15 = .ok (.getfield 26, 3) := by decide +kernel
theorem dX2_countBySplitting_18 : decode cX2_countBySplitting 18 = .ok (.iload_n 2, 1) := by decide +kernel
theorem dX2_countBySplitting_19 : decode cX2_countBySplitting 19 = .ok (.invokevirtual 153, 3) := by decide +kernel
theorem dX2_countBySplitting_22 : decode cX2_countBySplitting 22 = .ok (.pop, 1) := by decide +kernel
theorem dX2_countBySplitting_23 : decode cX2_countBySplitting 23 = .ok (.aload_n 0, 1) := by decide +kernel
theorem dX2_countBySplitting_24 : decode cX2_countBySplitting 24 = .ok (.getfield 26, 3) := by decide +kernel
theorem dX2_countBySplitting_27 : decode cX2_countBySplitting 27 = .ok (.getfield 89, 3) := by decide +kernel
theorem dX2_countBySplitting_30 : decode cX2_countBySplitting 30 = .ok (.ireturn, 1) := by decide +kernel
theorem dX2_countByTheorem_0 : decode cX2_countByTheorem 0 = .ok (.iload_n 0, 1) := by decide +kernel
theorem dX2_countByTheorem_1 : decode cX2_countByTheorem 1 = .ok (.iload_n 1, 1) := by decide +kernel
theorem dX2_countByTheorem_2 : decode cX2_countByTheorem 2 = .ok (.if_icmp .le 9, 3) := by decide +kernel
theorem dX2_countByTheorem_5 : decode cX2_countByTheorem 5 = .ok (.iload_n 2, 1) := by decide +kernel
theorem dX2_countByTheorem_6 : decode cX2_countByTheorem 6 = .ok (.bipush 8, 2) := by decide +kernel
theorem dX2_countByTheorem_8 : decode cX2_countByTheorem 8 = .ok (.if_icmp .lt 5, 3) := by decide +kernel
theorem dX2_countByTheorem_11 : decode cX2_countByTheorem 11 = .ok (.iconst 1, 1) := by decide +kernel
theorem dX2_countByTheorem_12 : decode cX2_countByTheorem 12 = .ok (.ireturn, 1) := by decide +kernel
theorem dX2_countByTheorem_13 : decode cX2_countByTheorem 13 = .ok (.iload_n 0, 1) := by decide +kernel
theorem dX2_countByTheorem_14 : decode cX2_countByTheorem 14 = .ok (.iconst 2, 1) := by decide +kernel
theorem dX2_countByTheorem_15 : decode cX2_countByTheorem 15 = .ok (.idiv, 1) := by decide +kernel
theorem dX2_countByTheorem_16 : decode cX2_countByTheorem 16 = .ok (.istore_n 3, 1) := by decide +kernel
theorem dX2_countByTheorem_17 : decode cX2_countByTheorem 17 = .ok (.iload_n 3, 1) := by decide +kernel
theorem dX2_countByTheorem_18 : decode cX2_countByTheorem 18 = .ok (.iload_n 1, 1) := by decide +kernel
theorem dX2_countByTheorem_19 : decode cX2_countByTheorem 19 = .ok (.iload_n 2, 1) := by decide +kernel
theorem dX2_countByTheorem_20 : decode cX2_countByTheorem 20 = .ok (.iconst 1, 1) := by decide +kernel
theorem dX2_countByTheorem_21 : decode cX2_countByTheorem 21 = .ok (.iadd, 1) := by decide +kernel
theorem dX2_countByTheorem_22 : decode cX2_countByTheorem 22 = .ok (.invokestatic 254, 3) := by decide +kernel
theorem dX2_countByTheorem_25 : decode cX2_countByTheorem 25 = .ok (.iload_n 0, 1) := by decide +kernel
theorem dX2_countByTheorem_26 : decode cX2_countByTheorem 26 = .ok (.iload_n 3, 1) := by decide +kernel
theorem dX2_countByTheorem_27 : decode cX2_countByTheorem 27 = .ok (.isub, 1) := by decide +kernel
theorem dX2_countByTheorem_28 : decode cX2_countByTheorem 28 = .ok (.iload_n 1, 1) := by decide +kernel
theorem dX2_countByTheorem_29 : decode cX2_countByTheorem 29 = .ok (.iload_n 2, 1) := by decide +kernel
theorem dX2_countByTheorem_30 : decode cX2_countByTheorem 30 = .ok (.iconst 1, 1) := by decide +kernel
theorem dX2_countByTheorem_31 : decode cX2_countByTheorem 31 = .ok (.iadd, 1) := by decide +kernel
theorem dX2_countByTheorem_32 : decode cX2_countByTheorem 32 = .ok (.invokestatic 254, 3) := by decide +kernel
theorem dX2_countByTheorem_35 : decode cX2_countByTheorem 35 = .ok (.iadd, 1) := by decide +kernel
theorem dX2_countByTheorem_36 : decode cX2_countByTheorem 36 = .ok (.ireturn, 1) := by decide +kernel
theorem dX2_foldsAgree_0 : decode cX2_foldsAgree 0 = .ok (.getstatic 164, 3) := by decide +kernel
theorem dX2_foldsAgree_3 : decode cX2_foldsAgree 3 = .ok (.astore_n 1, 1) := by decide +kernel
theorem dX2_foldsAgree_4 : decode cX2_foldsAgree 4 = .ok (.aload_n 1, 1) := by decide +kernel
theorem dX2_foldsAgree_5 : decode cX2_foldsAgree 5 = .ok (.arraylength, 1) := by decide +kernel
theorem dX2_foldsAgree_6 : decode cX2_foldsAgree 6 = .ok (.istore_n 2, 1) := by decide +kernel
theorem dX2_foldsAgree_7 : decode cX2_foldsAgree 7 = .ok (.iconst 0, 1) := by decide +kernel
theorem dX2_foldsAgree_8 : decode cX2_foldsAgree 8 = .ok (.istore_n 3, 1) := by decide +kernel
theorem dX2_foldsAgree_9 : decode cX2_foldsAgree 9 = .ok (.iload_n 3, 1) := by decide +kernel
theorem dX2_foldsAgree_10 : decode cX2_foldsAgree 10 = .ok (.iload_n 2, 1) := by decide +kernel
theorem dX2_foldsAgree_11 : decode cX2_foldsAgree 11 = .ok (.if_icmp .ge 82, 3) := by decide +kernel
theorem dX2_foldsAgree_14 : decode cX2_foldsAgree 14 = .ok (.aload_n 1, 1) := by decide +kernel
theorem dX2_foldsAgree_15 : decode cX2_foldsAgree 15 = .ok (.iload_n 3, 1) := by decide +kernel
theorem dX2_foldsAgree_16 : decode cX2_foldsAgree 16 = .ok (.caload, 1) := by decide +kernel
theorem dX2_foldsAgree_17 : decode cX2_foldsAgree 17 = .ok (.istore 4, 2) := by decide +kernel
theorem dX2_foldsAgree_19 : decode cX2_foldsAgree 19 = .ok (.aload_n 0, 1) := by decide +kernel
theorem dX2_foldsAgree_20 : decode cX2_foldsAgree 20 = .ok (.iconst 0, 1) := by decide +kernel
theorem dX2_foldsAgree_21 : decode cX2_foldsAgree 21 = .ok (.aload_n 0, 1) := by decide +kernel
theorem dX2_foldsAgree_22 : decode cX2_foldsAgree 22 = .ok (.getfield 55, 3) := by decide +kernel
theorem dX2_foldsAgree_25 : decode cX2_foldsAgree 25 = .ok (.iload 4, 2) := by decide +kernel
theorem dX2_foldsAgree_27 : decode cX2_foldsAgree 27 = .ok (.invokestatic 225, 3) := by decide +kernel
theorem dX2_foldsAgree_30 : decode cX2_foldsAgree 30 = .ok (.lstore 5, 2) := by decide +kernel
theorem dX2_foldsAgree_32 : decode cX2_foldsAgree 32 = .ok (.getstatic 258, 3) := by decide +kernel
theorem dX2_foldsAgree_35 : decode cX2_foldsAgree 35 = .ok (.astore 7, 2) := by decide +kernel
theorem dX2_foldsAgree_37 : decode cX2_foldsAgree 37 = .ok (.aload 7, 2) := by decide +kernel
theorem dX2_foldsAgree_39 : decode cX2_foldsAgree 39 = .ok (.arraylength, 1) := by decide +kernel
theorem dX2_foldsAgree_40 : decode cX2_foldsAgree 40 = .ok (.istore 8, 2) := by decide +kernel
theorem dX2_foldsAgree_42 : decode cX2_foldsAgree 42 = .ok (.iconst 0, 1) := by decide +kernel
theorem dX2_foldsAgree_43 : decode cX2_foldsAgree 43 = .ok (.istore 9, 2) := by decide +kernel
theorem dX2_foldsAgree_45 : decode cX2_foldsAgree 45 = .ok (.iload 9, 2) := by decide +kernel
theorem dX2_foldsAgree_47 : decode cX2_foldsAgree 47 = .ok (.iload 8, 2) := by decide +kernel
theorem dX2_foldsAgree_49 : decode cX2_foldsAgree 49 = .ok (.if_icmp .ge 38, 3) := by decide +kernel
theorem dX2_foldsAgree_52 : decode cX2_foldsAgree 52 = .ok (.aload 7, 2) := by decide +kernel
theorem dX2_foldsAgree_54 : decode cX2_foldsAgree 54 = .ok (.iload 9, 2) := by decide +kernel
theorem dX2_foldsAgree_56 : decode cX2_foldsAgree 56 = .ok (.iaload, 1) := by decide +kernel
theorem dX2_foldsAgree_57 : decode cX2_foldsAgree 57 = .ok (.istore 10, 2) := by decide +kernel
theorem dX2_foldsAgree_59 : decode cX2_foldsAgree 59 = .ok (.aload_n 0, 1) := by decide +kernel
theorem dX2_foldsAgree_60 : decode cX2_foldsAgree 60 = .ok (.iconst 0, 1) := by decide +kernel
theorem dX2_foldsAgree_61 : decode cX2_foldsAgree 61 = .ok (.aload_n 0, 1) := by decide +kernel
theorem dX2_foldsAgree_62 : decode cX2_foldsAgree 62 = .ok (.getfield 55, 3) := by decide +kernel
theorem dX2_foldsAgree_65 : decode cX2_foldsAgree 65 = .ok (.iload 10, 2) := by decide +kernel
theorem dX2_foldsAgree_67 : decode cX2_foldsAgree 67 = .ok (.iload 4, 2) := by decide +kernel
theorem dX2_foldsAgree_69 : decode cX2_foldsAgree 69 = .ok (.iconst 0, 1) := by decide +kernel
theorem dX2_foldsAgree_70 : decode cX2_foldsAgree 70 = .ok (.invokestatic 173, 3) := by decide +kernel
theorem dX2_foldsAgree_73 : decode cX2_foldsAgree 73 = .ok (.lload 5, 2) := by decide +kernel
theorem dX2_foldsAgree_75 : decode cX2_foldsAgree 75 = .ok (.lcmp, 1) := by decide +kernel
theorem dX2_foldsAgree_76 : decode cX2_foldsAgree 76 = .ok (.ifCond .eq 5, 3) := by decide +kernel
theorem dX2_foldsAgree_79 : decode cX2_foldsAgree 79 = .ok (.iconst 0, 1) := by decide +kernel
end
section
theorem dX2_foldsAgree_80 : decode cX2_foldsAgree 80 = .ok (.ireturn, 1) := by decide +kernel
theorem dX2_foldsAgree_81 : decode cX2_foldsAgree 81 = .ok (.iinc 9 1, 3) := by decide +kernel
theorem dX2_foldsAgree_84 : decode cX2_foldsAgree 84 = .ok (.goto (-39), 3) := by decide +kernel
theorem dX2_foldsAgree_87 : decode cX2_foldsAgree 87 = .ok (.iinc 3 1, 3) := by decide +kernel
theorem dX2_foldsAgree_90 : decode cX2_foldsAgree 90 = .ok (.goto (-81), 3) := by decide +kernel
theorem dX2_foldsAgree_93 : decode cX2_foldsAgree 93 = .ok (.iconst 1, 1) := by decide +kernel
theorem dX2_foldsAgree_94 : decode cX2_foldsAgree 94 = .ok (.ireturn, 1) := by decide +kernel
theorem dX2_piecesAgree_0 : decode cX2_piecesAgree 0 = .ok (.getstatic 258, 3) := by decide +kernel
theorem dX2_piecesAgree_3 : decode cX2_piecesAgree 3 = .ok (.astore_n 2, 1) := by decide +kernel
theorem dX2_piecesAgree_4 : decode cX2_piecesAgree 4 = .ok (.aload_n 2, 1) := by decide +kernel
theorem dX2_piecesAgree_5 : decode cX2_piecesAgree 5 = .ok (.arraylength, 1) := by decide +kernel
theorem dX2_piecesAgree_6 : decode cX2_piecesAgree 6 = .ok (.istore_n 3, 1) := by decide +kernel
theorem dX2_piecesAgree_7 : decode cX2_piecesAgree 7 = .ok (.iconst 0, 1) := by decide +kernel
theorem dX2_piecesAgree_8 : decode cX2_piecesAgree 8 = .ok (.istore 4, 2) := by decide +kernel
theorem dX2_piecesAgree_10 : decode cX2_piecesAgree 10 = .ok (.iload 4, 2) := by decide +kernel
theorem dX2_piecesAgree_12 : decode cX2_piecesAgree 12 = .ok (.iload_n 3, 1) := by decide +kernel
theorem dX2_piecesAgree_13 : decode cX2_piecesAgree 13 = .ok (.if_icmp .ge 37, 3) := by decide +kernel
theorem dX2_piecesAgree_16 : decode cX2_piecesAgree 16 = .ok (.aload_n 2, 1) := by decide +kernel
theorem dX2_piecesAgree_17 : decode cX2_piecesAgree 17 = .ok (.iload 4, 2) := by decide +kernel
theorem dX2_piecesAgree_19 : decode cX2_piecesAgree 19 = .ok (.iaload, 1) := by decide +kernel
theorem dX2_piecesAgree_20 : decode cX2_piecesAgree 20 = .ok (.istore 5, 2) := by decide +kernel
theorem dX2_piecesAgree_22 : decode cX2_piecesAgree 22 = .ok (.aload_n 0, 1) := by decide +kernel
theorem dX2_piecesAgree_23 : decode cX2_piecesAgree 23 = .ok (.aload_n 1, 1) := by decide +kernel
theorem dX2_piecesAgree_24 : decode cX2_piecesAgree 24 = .ok (.iload 5, 2) := by decide +kernel
theorem dX2_piecesAgree_26 : decode cX2_piecesAgree 26 = .ok (.invokevirtual 177, 3) := by decide +kernel
theorem dX2_piecesAgree_29 : decode cX2_piecesAgree 29 = .ok (.aload_n 1, 1) := by decide +kernel
theorem dX2_piecesAgree_30 : decode cX2_piecesAgree 30 = .ok (.getfield 55, 3) := by decide +kernel
theorem dX2_piecesAgree_33 : decode cX2_piecesAgree 33 = .ok (.iload 5, 2) := by decide +kernel
theorem dX2_piecesAgree_35 : decode cX2_piecesAgree 35 = .ok (.iconst 0, 1) := by decide +kernel
theorem dX2_piecesAgree_36 : decode cX2_piecesAgree 36 = .ok (.invokestatic 254, 3) := by decide +kernel
theorem dX2_piecesAgree_39 : decode cX2_piecesAgree 39 = .ok (.if_icmp .eq 5, 3) := by decide +kernel
theorem dX2_piecesAgree_42 : decode cX2_piecesAgree 42 = .ok (.iconst 0, 1) := by decide +kernel
theorem dX2_piecesAgree_43 : decode cX2_piecesAgree 43 = .ok (.ireturn, 1) := by decide +kernel
theorem dX2_piecesAgree_44 : decode cX2_piecesAgree 44 = .ok (.iinc 4 1, 3) := by decide +kernel
theorem dX2_piecesAgree_47 : decode cX2_piecesAgree 47 = .ok (.goto (-37), 3) := by decide +kernel
theorem dX2_piecesAgree_50 : decode cX2_piecesAgree 50 = .ok (.iconst 1, 1) := by decide +kernel
theorem dX2_piecesAgree_51 : decode cX2_piecesAgree 51 = .ok (.ireturn, 1) := by decide +kernel
theorem dX3_init_0 : decode cX3_init 0 = .ok (.aload_n 0, 1) := by decide +kernel
theorem dX3_init_1 : decode cX3_init 1 = .ok (.invokespecial 1, 3) := by decide +kernel
theorem dX3_init_4 : decode cX3_init 4 = .ok (.aload_n 0, 1) := by decide +kernel
theorem dX3_init_5 : decode cX3_init 5 = .ok (.iconst 3, 1) := by decide +kernel
theorem dX3_init_6 : decode cX3_init 6 = .ok (.iconst 4, 1) := by decide +kernel
theorem dX3_init_7 : decode cX3_init 7 = .ok (.bipush 48, 2) := by decide +kernel
theorem dX3_init_9 : decode cX3_init 9 = .ok (.multianewarray 9 3, 4) := by decide +kernel
theorem dX3_init_13 : decode cX3_init 13 = .ok (.putfield 11, 3) := by decide +kernel
theorem dX3_init_16 : decode cX3_init 16 = .ok (.aload_n 0, 1) := by decide +kernel
theorem dX3_init_17 : decode cX3_init 17 = .ok (.iconst 3, 1) := by decide +kernel
theorem dX3_init_18 : decode cX3_init 18 = .ok (.iconst 4, 1) := by decide +kernel
theorem dX3_init_19 : decode cX3_init 19 = .ok (.multianewarray 14 2, 4) := by decide +kernel
theorem dX3_init_23 : decode cX3_init 23 = .ok (.putfield 16, 3) := by decide +kernel
theorem dX3_init_26 : decode cX3_init 26 = .ok (.aload_n 0, 1) := by decide +kernel
theorem dX3_init_27 : decode cX3_init 27 = .ok (.bipush 6, 2) := by decide +kernel
theorem dX3_init_29 : decode cX3_init 29 = .ok (.bipush 48, 2) := by decide +kernel
theorem dX3_init_31 : decode cX3_init 31 = .ok (.multianewarray 19 2, 4) := by decide +kernel
theorem dX3_init_35 : decode cX3_init 35 = .ok (.putfield 21, 3) := by decide +kernel
theorem dX3_init_38 : decode cX3_init 38 = .ok (.aload_n 0, 1) := by decide +kernel
theorem dX3_init_39 : decode cX3_init 39 = .ok (.bipush 6, 2) := by decide +kernel
theorem dX3_init_41 : decode cX3_init 41 = .ok (.newarray .int, 2) := by decide +kernel
theorem dX3_init_43 : decode cX3_init 43 = .ok (.putfield 24, 3) := by decide +kernel
theorem dX3_init_46 : decode cX3_init 46 = .ok (.aload_n 0, 1) := by decide +kernel
theorem dX3_init_47 : decode cX3_init 47 = .ok (.bipush 6, 2) := by decide +kernel
theorem dX3_init_49 : decode cX3_init 49 = .ok (.newarray .boolean, 2) := by decide +kernel
theorem dX3_init_51 : decode cX3_init 51 = .ok (.putfield 28, 3) := by decide +kernel
theorem dX3_init_54 : decode cX3_init 54 = .ok (.aload_n 0, 1) := by decide +kernel
theorem dX3_init_55 : decode cX3_init 55 = .ok (.bipush 6, 2) := by decide +kernel
theorem dX3_init_57 : decode cX3_init 57 = .ok (.sipush 128, 3) := by decide +kernel
theorem dX3_init_60 : decode cX3_init 60 = .ok (.multianewarray 32 2, 4) := by decide +kernel
theorem dX3_init_64 : decode cX3_init 64 = .ok (.putfield 34, 3) := by decide +kernel
theorem dX3_init_67 : decode cX3_init 67 = .ok (.aload_n 0, 1) := by decide +kernel
theorem dX3_init_68 : decode cX3_init 68 = .ok (.bipush 6, 2) := by decide +kernel
theorem dX3_init_70 : decode cX3_init 70 = .ok (.sipush 128, 3) := by decide +kernel
theorem dX3_init_73 : decode cX3_init 73 = .ok (.multianewarray 14 2, 4) := by decide +kernel
theorem dX3_init_77 : decode cX3_init 77 = .ok (.putfield 37, 3) := by decide +kernel
theorem dX3_init_80 : decode cX3_init 80 = .ok (.aload_n 0, 1) := by decide +kernel
theorem dX3_init_81 : decode cX3_init 81 = .ok (.bipush 6, 2) := by decide +kernel
theorem dX3_init_83 : decode cX3_init 83 = .ok (.newarray .int, 2) := by decide +kernel
theorem dX3_init_85 : decode cX3_init 85 = .ok (.putfield 40, 3) := by decide +kernel
theorem dX3_init_88 : decode cX3_init 88 = .ok (.return_, 1) := by decide +kernel
theorem dX3_thrown_0 : decode cX3_thrown 0 = .ok (.aload_n 0, 1) := by decide +kernel
theorem dX3_thrown_1 : decode cX3_thrown 1 = .ok (.getfield 43, 3) := by decide +kernel
theorem dX3_thrown_4 : decode cX3_thrown 4 = .ok (.ireturn, 1) := by decide +kernel
theorem dX3_can_0 : decode cX3_can 0 = .ok (.aload_n 0, 1) := by decide +kernel
theorem dX3_can_1 : decode cX3_can 1 = .ok (.iload_n 1, 1) := by decide +kernel
theorem dX3_can_2 : decode cX3_can 2 = .ok (.ifCond .ne 7, 3) := by decide +kernel
theorem dX3_can_5 : decode cX3_can 5 = .ok (.iconst 1, 1) := by decide +kernel
theorem dX3_can_6 : decode cX3_can 6 = .ok (.goto 20, 3) := by decide +kernel
theorem dX3_can_9 : decode cX3_can 9 = .ok (.iload_n 2, 1) := by decide +kernel
theorem dX3_can_10 : decode cX3_can 10 = .ok (.ifCond .ne 7, 3) := by decide +kernel
theorem dX3_can_13 : decode cX3_can 13 = .ok (.iconst 2, 1) := by decide +kernel
theorem dX3_can_14 : decode cX3_can 14 = .ok (.goto 12, 3) := by decide +kernel
theorem dX3_can_17 : decode cX3_can 17 = .ok (.iload_n 3, 1) := by decide +kernel
theorem dX3_can_18 : decode cX3_can 18 = .ok (.ifCond .ne 7, 3) := by decide +kernel
theorem dX3_can_21 : decode cX3_can 21 = .ok (.iconst 3, 1) := by decide +kernel
theorem dX3_can_22 : decode cX3_can 22 = .ok (.goto 4, 3) := by decide +kernel
theorem dX3_can_25 : decode cX3_can 25 = .ok (.iconst 0, 1) := by decide +kernel
theorem dX3_can_26 : decode cX3_can 26 = .ok (.putfield 43, 3) := by decide +kernel
theorem dX3_can_29 : decode cX3_can 29 = .ok (.aload_n 0, 1) := by decide +kernel
theorem dX3_can_30 : decode cX3_can 30 = .ok (.getfield 43, 3) := by decide +kernel
theorem dX3_can_33 : decode cX3_can 33 = .ok (.ifCond .ne 7, 3) := by decide +kernel
theorem dX3_can_36 : decode cX3_can 36 = .ok (.iconst 1, 1) := by decide +kernel
theorem dX3_can_37 : decode cX3_can 37 = .ok (.goto 4, 3) := by decide +kernel
theorem dX3_can_40 : decode cX3_can 40 = .ok (.iconst 0, 1) := by decide +kernel
theorem dX3_can_41 : decode cX3_can 41 = .ok (.ireturn, 1) := by decide +kernel
theorem dX3_kind_0 : decode cX3_kind 0 = .ok (.iload_n 0, 1) := by decide +kernel
theorem dX3_kind_1 : decode cX3_kind 1 = .ok (.bipush 105, 2) := by decide +kernel
theorem dX3_kind_3 : decode cX3_kind 3 = .ok (.if_icmp .ne 7, 3) := by decide +kernel
theorem dX3_kind_6 : decode cX3_kind 6 = .ok (.iconst 0, 1) := by decide +kernel
theorem dX3_kind_7 : decode cX3_kind 7 = .ok (.goto 24, 3) := by decide +kernel
theorem dX3_kind_10 : decode cX3_kind 10 = .ok (.iload_n 0, 1) := by decide +kernel
theorem dX3_kind_11 : decode cX3_kind 11 = .ok (.bipush 108, 2) := by decide +kernel
theorem dX3_kind_13 : decode cX3_kind 13 = .ok (.if_icmp .ne 7, 3) := by decide +kernel
theorem dX3_kind_16 : decode cX3_kind 16 = .ok (.iconst 1, 1) := by decide +kernel
theorem dX3_kind_17 : decode cX3_kind 17 = .ok (.goto 14, 3) := by decide +kernel
theorem dX3_kind_20 : decode cX3_kind 20 = .ok (.iload_n 0, 1) := by decide +kernel
theorem dX3_kind_21 : decode cX3_kind 21 = .ok (.bipush 111, 2) := by decide +kernel
theorem dX3_kind_23 : decode cX3_kind 23 = .ok (.if_icmp .ne 7, 3) := by decide +kernel
theorem dX3_kind_26 : decode cX3_kind 26 = .ok (.iconst 2, 1) := by decide +kernel
theorem dX3_kind_27 : decode cX3_kind 27 = .ok (.goto 4, 3) := by decide +kernel
theorem dX3_kind_30 : decode cX3_kind 30 = .ok (.iconst (-1), 1) := by decide +kernel
theorem dX3_kind_31 : decode cX3_kind 31 = .ok (.ireturn, 1) := by decide +kernel
theorem dX3_isRow_0 : decode cX3_isRow 0 = .ok (.iload_n 0, 1) := by decide +kernel
theorem dX3_isRow_1 : decode cX3_isRow 1 = .ok (.ifCond .lt 12, 3) := by decide +kernel
theorem dX3_isRow_4 : decode cX3_isRow 4 = .ok (.iload_n 0, 1) := by decide +kernel
theorem dX3_isRow_5 : decode cX3_isRow 5 = .ok (.iconst 4, 1) := by decide +kernel
theorem dX3_isRow_6 : decode cX3_isRow 6 = .ok (.if_icmp .ge 7, 3) := by decide +kernel
theorem dX3_isRow_9 : decode cX3_isRow 9 = .ok (.iconst 1, 1) := by decide +kernel
theorem dX3_isRow_10 : decode cX3_isRow 10 = .ok (.goto 4, 3) := by decide +kernel
theorem dX3_isRow_13 : decode cX3_isRow 13 = .ok (.iconst 0, 1) := by decide +kernel
theorem dX3_isRow_14 : decode cX3_isRow 14 = .ok (.ireturn, 1) := by decide +kernel
theorem dX3_isNumber_0 : decode cX3_isNumber 0 = .ok (.iload_n 0, 1) := by decide +kernel
theorem dX3_isNumber_1 : decode cX3_isNumber 1 = .ok (.iconst 1, 1) := by decide +kernel
theorem dX3_isNumber_2 : decode cX3_isNumber 2 = .ok (.if_icmp .eq 19, 3) := by decide +kernel
theorem dX3_isNumber_5 : decode cX3_isNumber 5 = .ok (.lload_n 1, 1) := by decide +kernel
theorem dX3_isNumber_6 : decode cX3_isNumber 6 = .ok (.ldc2_w 47, 3) := by decide +kernel
theorem dX3_isNumber_9 : decode cX3_isNumber 9 = .ok (.lcmp, 1) := by decide +kernel
theorem dX3_isNumber_10 : decode cX3_isNumber 10 = .ok (.ifCond .lt 15, 3) := by decide +kernel
theorem dX3_isNumber_13 : decode cX3_isNumber 13 = .ok (.lload_n 1, 1) := by decide +kernel
theorem dX3_isNumber_14 : decode cX3_isNumber 14 = .ok (.ldc2_w 49, 3) := by decide +kernel
theorem dX3_isNumber_17 : decode cX3_isNumber 17 = .ok (.lcmp, 1) := by decide +kernel
theorem dX3_isNumber_18 : decode cX3_isNumber 18 = .ok (.ifCond .gt 7, 3) := by decide +kernel
theorem dX3_isNumber_21 : decode cX3_isNumber 21 = .ok (.iconst 1, 1) := by decide +kernel
theorem dX3_isNumber_22 : decode cX3_isNumber 22 = .ok (.goto 4, 3) := by decide +kernel
theorem dX3_isNumber_25 : decode cX3_isNumber 25 = .ok (.iconst 0, 1) := by decide +kernel
theorem dX3_isNumber_26 : decode cX3_isNumber 26 = .ok (.ireturn, 1) := by decide +kernel
theorem dX3_append_0 : decode cX3_append 0 = .ok (.iload_n 1, 1) := by decide +kernel
theorem dX3_append_1 : decode cX3_append 1 = .ok (.invokestatic 51, 3) := by decide +kernel
theorem dX3_append_4 : decode cX3_append 4 = .ok (.istore 5, 2) := by decide +kernel
theorem dX3_append_6 : decode cX3_append 6 = .ok (.aload_n 0, 1) := by decide +kernel
theorem dX3_append_7 : decode cX3_append 7 = .ok (.iload 5, 2) := by decide +kernel
theorem dX3_append_9 : decode cX3_append 9 = .ok (.ifCond .lt 16, 3) := by decide +kernel
theorem dX3_append_12 : decode cX3_append 12 = .ok (.iload 5, 2) := by decide +kernel
theorem dX3_append_14 : decode cX3_append 14 = .ok (.lload_n 3, 1) := by decide +kernel
theorem dX3_append_15 : decode cX3_append 15 = .ok (.invokestatic 55, 3) := by decide +kernel
theorem dX3_append_18 : decode cX3_append 18 = .ok (.ifCond .eq 7, 3) := by decide +kernel
theorem dX3_append_21 : decode cX3_append 21 = .ok (.iconst 1, 1) := by decide +kernel
theorem dX3_append_22 : decode cX3_append 22 = .ok (.goto 4, 3) := by decide +kernel
theorem dX3_append_25 : decode cX3_append 25 = .ok (.iconst 0, 1) := by decide +kernel
theorem dX3_append_26 : decode cX3_append 26 = .ok (.iload_n 2, 1) := by decide +kernel
theorem dX3_append_27 : decode cX3_append 27 = .ok (.invokestatic 59, 3) := by decide +kernel
theorem dX3_append_30 : decode cX3_append 30 = .ok (.iconst 1, 1) := by decide +kernel
theorem dX3_append_31 : decode cX3_append 31 = .ok (.invokevirtual 63, 3) := by decide +kernel
theorem dX3_append_34 : decode cX3_append 34 = .ok (.ifCond .eq 31, 3) := by decide +kernel
theorem dX3_append_37 : decode cX3_append 37 = .ok (.aload_n 0, 1) := by decide +kernel
theorem dX3_append_38 : decode cX3_append 38 = .ok (.iconst 1, 1) := by decide +kernel
theorem dX3_append_39 : decode cX3_append 39 = .ok (.iconst 1, 1) := by decide +kernel
theorem dX3_append_40 : decode cX3_append 40 = .ok (.aload_n 0, 1) := by decide +kernel
theorem dX3_append_41 : decode cX3_append 41 = .ok (.getfield 16, 3) := by decide +kernel
theorem dX3_append_44 : decode cX3_append 44 = .ok (.iload 5, 2) := by decide +kernel
theorem dX3_append_46 : decode cX3_append 46 = .ok (.aaload, 1) := by decide +kernel
theorem dX3_append_47 : decode cX3_append 47 = .ok (.iload_n 2, 1) := by decide +kernel
theorem dX3_append_48 : decode cX3_append 48 = .ok (.iaload, 1) := by decide +kernel
theorem dX3_append_49 : decode cX3_append 49 = .ok (.bipush 48, 2) := by decide +kernel
theorem dX3_append_51 : decode cX3_append 51 = .ok (.if_icmp .ge 7, 3) := by decide +kernel
theorem dX3_append_54 : decode cX3_append 54 = .ok (.iconst 1, 1) := by decide +kernel
theorem dX3_append_55 : decode cX3_append 55 = .ok (.goto 4, 3) := by decide +kernel
theorem dX3_append_58 : decode cX3_append 58 = .ok (.iconst 0, 1) := by decide +kernel
theorem dX3_append_59 : decode cX3_append 59 = .ok (.invokevirtual 63, 3) := by decide +kernel
theorem dX3_append_62 : decode cX3_append 62 = .ok (.ifCond .ne 5, 3) := by decide +kernel
theorem dX3_append_65 : decode cX3_append 65 = .ok (.iconst 0, 1) := by decide +kernel
theorem dX3_append_66 : decode cX3_append 66 = .ok (.ireturn, 1) := by decide +kernel
theorem dX3_append_67 : decode cX3_append 67 = .ok (.aload_n 0, 1) := by decide +kernel
theorem dX3_append_68 : decode cX3_append 68 = .ok (.getfield 11, 3) := by decide +kernel
theorem dX3_append_71 : decode cX3_append 71 = .ok (.iload 5, 2) := by decide +kernel
theorem dX3_append_73 : decode cX3_append 73 = .ok (.aaload, 1) := by decide +kernel
theorem dX3_append_74 : decode cX3_append 74 = .ok (.iload_n 2, 1) := by decide +kernel
theorem dX3_append_75 : decode cX3_append 75 = .ok (.aaload, 1) := by decide +kernel
theorem dX3_append_76 : decode cX3_append 76 = .ok (.aload_n 0, 1) := by decide +kernel
theorem dX3_append_77 : decode cX3_append 77 = .ok (.getfield 16, 3) := by decide +kernel
theorem dX3_append_80 : decode cX3_append 80 = .ok (.iload 5, 2) := by decide +kernel
theorem dX3_append_82 : decode cX3_append 82 = .ok (.aaload, 1) := by decide +kernel
theorem dX3_append_83 : decode cX3_append 83 = .ok (.iload_n 2, 1) := by decide +kernel
theorem dX3_append_84 : decode cX3_append 84 = .ok (.iaload, 1) := by decide +kernel
theorem dX3_append_85 : decode cX3_append 85 = .ok (.lload_n 3, 1) := by decide +kernel
theorem dX3_append_86 : decode cX3_append 86 = .ok (.lastore, 1) := by decide +kernel
theorem dX3_append_87 : decode cX3_append 87 = .ok (.aload_n 0, 1) := by decide +kernel
theorem dX3_append_88 : decode cX3_append 88 = .ok (.getfield 16, 3) := by decide +kernel
theorem dX3_append_91 : decode cX3_append 91 = .ok (.iload 5, 2) := by decide +kernel
theorem dX3_append_93 : decode cX3_append 93 = .ok (.aaload, 1) := by decide +kernel
theorem dX3_append_94 : decode cX3_append 94 = .ok (.iload_n 2, 1) := by decide +kernel
theorem dX3_append_95 : decode cX3_append 95 = .ok (.dup2, 1) := by decide +kernel
theorem dX3_append_96 : decode cX3_append 96 = .ok (.iaload, 1) := by decide +kernel
theorem dX3_append_97 : decode cX3_append 97 = .ok (.iconst 1, 1) := by decide +kernel
theorem dX3_append_98 : decode cX3_append 98 = .ok (.iadd, 1) := by decide +kernel
theorem dX3_append_99 : decode cX3_append 99 = .ok (.iastore, 1) := by decide +kernel
theorem dX3_append_100 : decode cX3_append 100 = .ok (.aload_n 0, 1) := by decide +kernel
theorem dX3_append_101 : decode cX3_append 101 = .ok (.getfield 16, 3) := by decide +kernel
theorem dX3_append_104 : decode cX3_append 104 = .ok (.iload 5, 2) := by decide +kernel
theorem dX3_append_106 : decode cX3_append 106 = .ok (.aaload, 1) := by decide +kernel
theorem dX3_append_107 : decode cX3_append 107 = .ok (.iload_n 2, 1) := by decide +kernel
theorem dX3_append_108 : decode cX3_append 108 = .ok (.iaload, 1) := by decide +kernel
theorem dX3_append_109 : decode cX3_append 109 = .ok (.ireturn, 1) := by decide +kernel
theorem dX3_lay_0 : decode cX3_lay 0 = .ok (.iload_n 1, 1) := by decide +kernel
theorem dX3_lay_1 : decode cX3_lay 1 = .ok (.invokestatic 51, 3) := by decide +kernel
theorem dX3_lay_4 : decode cX3_lay 4 = .ok (.istore 8, 2) := by decide +kernel
theorem dX3_lay_6 : decode cX3_lay 6 = .ok (.aload_n 0, 1) := by decide +kernel
theorem dX3_lay_7 : decode cX3_lay 7 = .ok (.iload 8, 2) := by decide +kernel
theorem dX3_lay_9 : decode cX3_lay 9 = .ok (.ifCond .lt 17, 3) := by decide +kernel
theorem dX3_lay_12 : decode cX3_lay 12 = .ok (.iload_n 3, 1) := by decide +kernel
theorem dX3_lay_13 : decode cX3_lay 13 = .ok (.ifCond .lt 13, 3) := by decide +kernel
theorem dX3_lay_16 : decode cX3_lay 16 = .ok (.iload_n 3, 1) := by decide +kernel
theorem dX3_lay_17 : decode cX3_lay 17 = .ok (.bipush 48, 2) := by decide +kernel
theorem dX3_lay_19 : decode cX3_lay 19 = .ok (.if_icmp .gt 7, 3) := by decide +kernel
theorem dX3_lay_22 : decode cX3_lay 22 = .ok (.iconst 1, 1) := by decide +kernel
theorem dX3_lay_23 : decode cX3_lay 23 = .ok (.goto 4, 3) := by decide +kernel
theorem dX3_lay_26 : decode cX3_lay 26 = .ok (.iconst 0, 1) := by decide +kernel
theorem dX3_lay_27 : decode cX3_lay 27 = .ok (.iload_n 2, 1) := by decide +kernel
theorem dX3_lay_28 : decode cX3_lay 28 = .ok (.invokestatic 59, 3) := by decide +kernel
theorem dX3_lay_31 : decode cX3_lay 31 = .ok (.iconst 1, 1) := by decide +kernel
theorem dX3_lay_32 : decode cX3_lay 32 = .ok (.invokevirtual 63, 3) := by decide +kernel
theorem dX3_lay_35 : decode cX3_lay 35 = .ok (.ifCond .ne 5, 3) := by decide +kernel
theorem dX3_lay_38 : decode cX3_lay 38 = .ok (.iconst 0, 1) := by decide +kernel
theorem dX3_lay_39 : decode cX3_lay 39 = .ok (.ireturn, 1) := by decide +kernel
theorem dX3_lay_40 : decode cX3_lay 40 = .ok (.aload_n 0, 1) := by decide +kernel
theorem dX3_lay_41 : decode cX3_lay 41 = .ok (.getfield 16, 3) := by decide +kernel
theorem dX3_lay_44 : decode cX3_lay 44 = .ok (.iload 8, 2) := by decide +kernel
theorem dX3_lay_46 : decode cX3_lay 46 = .ok (.aaload, 1) := by decide +kernel
theorem dX3_lay_47 : decode cX3_lay 47 = .ok (.iload_n 2, 1) := by decide +kernel
theorem dX3_lay_48 : decode cX3_lay 48 = .ok (.iaload, 1) := by decide +kernel
theorem dX3_lay_49 : decode cX3_lay 49 = .ok (.istore 9, 2) := by decide +kernel
theorem dX3_lay_51 : decode cX3_lay 51 = .ok (.lload 4, 2) := by decide +kernel
theorem dX3_lay_53 : decode cX3_lay 53 = .ok (.lstore 10, 2) := by decide +kernel
theorem dX3_lay_55 : decode cX3_lay 55 = .ok (.iconst 0, 1) := by decide +kernel
theorem dX3_lay_56 : decode cX3_lay 56 = .ok (.istore 12, 2) := by decide +kernel
theorem dX3_lay_58 : decode cX3_lay 58 = .ok (.iload 12, 2) := by decide +kernel
theorem dX3_lay_60 : decode cX3_lay 60 = .ok (.iload_n 3, 1) := by decide +kernel
theorem dX3_lay_61 : decode cX3_lay 61 = .ok (.if_icmp .ge 43, 3) := by decide +kernel
theorem dX3_lay_64 : decode cX3_lay 64 = .ok (.aload_n 0, 1) := by decide +kernel
theorem dX3_lay_65 : decode cX3_lay 65 = .ok (.getfield 11, 3) := by decide +kernel
theorem dX3_lay_68 : decode cX3_lay 68 = .ok (.iload 8, 2) := by decide +kernel
theorem dX3_lay_70 : decode cX3_lay 70 = .ok (.aaload, 1) := by decide +kernel
theorem dX3_lay_71 : decode cX3_lay 71 = .ok (.iload_n 2, 1) := by decide +kernel
theorem dX3_lay_72 : decode cX3_lay 72 = .ok (.aaload, 1) := by decide +kernel
theorem dX3_lay_73 : decode cX3_lay 73 = .ok (.iload 12, 2) := by decide +kernel
theorem dX3_lay_75 : decode cX3_lay 75 = .ok (.iload 8, 2) := by decide +kernel
theorem dX3_lay_77 : decode cX3_lay 77 = .ok (.iconst 1, 1) := by decide +kernel
theorem dX3_lay_78 : decode cX3_lay 78 = .ok (.if_icmp .ne 8, 3) := by decide +kernel
theorem dX3_lay_81 : decode cX3_lay 81 = .ok (.lload 10, 2) := by decide +kernel
theorem dX3_lay_83 : decode cX3_lay 83 = .ok (.goto 7, 3) := by decide +kernel
theorem dX3_lay_86 : decode cX3_lay 86 = .ok (.lload 10, 2) := by decide +kernel
theorem dX3_lay_88 : decode cX3_lay 88 = .ok (.l2i, 1) := by decide +kernel
theorem dX3_lay_89 : decode cX3_lay 89 = .ok (.i2l, 1) := by decide +kernel
theorem dX3_lay_90 : decode cX3_lay 90 = .ok (.lastore, 1) := by decide +kernel
theorem dX3_lay_91 : decode cX3_lay 91 = .ok (.lload 10, 2) := by decide +kernel
theorem dX3_lay_93 : decode cX3_lay 93 = .ok (.lload 6, 2) := by decide +kernel
theorem dX3_lay_95 : decode cX3_lay 95 = .ok (.ladd, 1) := by decide +kernel
theorem dX3_lay_96 : decode cX3_lay 96 = .ok (.lstore 10, 2) := by decide +kernel
theorem dX3_lay_98 : decode cX3_lay 98 = .ok (.iinc 12 1, 3) := by decide +kernel
theorem dX3_lay_101 : decode cX3_lay 101 = .ok (.goto (-43), 3) := by decide +kernel
theorem dX3_lay_104 : decode cX3_lay 104 = .ok (.aload_n 0, 1) := by decide +kernel
theorem dX3_lay_105 : decode cX3_lay 105 = .ok (.getfield 16, 3) := by decide +kernel
theorem dX3_lay_108 : decode cX3_lay 108 = .ok (.iload 8, 2) := by decide +kernel
theorem dX3_lay_110 : decode cX3_lay 110 = .ok (.aaload, 1) := by decide +kernel
theorem dX3_lay_111 : decode cX3_lay 111 = .ok (.iload_n 2, 1) := by decide +kernel
theorem dX3_lay_112 : decode cX3_lay 112 = .ok (.iload_n 3, 1) := by decide +kernel
theorem dX3_lay_113 : decode cX3_lay 113 = .ok (.iastore, 1) := by decide +kernel
theorem dX3_lay_114 : decode cX3_lay 114 = .ok (.iload 9, 2) := by decide +kernel
theorem dX3_lay_116 : decode cX3_lay 116 = .ok (.ireturn, 1) := by decide +kernel
theorem dX3_turn_0 : decode cX3_turn 0 = .ok (.iload_n 1, 1) := by decide +kernel
theorem dX3_turn_1 : decode cX3_turn 1 = .ok (.invokestatic 51, 3) := by decide +kernel
theorem dX3_turn_4 : decode cX3_turn 4 = .ok (.istore_n 3, 1) := by decide +kernel
theorem dX3_turn_5 : decode cX3_turn 5 = .ok (.aload_n 0, 1) := by decide +kernel
theorem dX3_turn_6 : decode cX3_turn 6 = .ok (.iload_n 3, 1) := by decide +kernel
theorem dX3_turn_7 : decode cX3_turn 7 = .ok (.ifCond .lt 7, 3) := by decide +kernel
theorem dX3_turn_10 : decode cX3_turn 10 = .ok (.iconst 1, 1) := by decide +kernel
theorem dX3_turn_11 : decode cX3_turn 11 = .ok (.goto 4, 3) := by decide +kernel
theorem dX3_turn_14 : decode cX3_turn 14 = .ok (.iconst 0, 1) := by decide +kernel
theorem dX3_turn_15 : decode cX3_turn 15 = .ok (.iload_n 2, 1) := by decide +kernel
theorem dX3_turn_16 : decode cX3_turn 16 = .ok (.invokestatic 59, 3) := by decide +kernel
theorem dX3_turn_19 : decode cX3_turn 19 = .ok (.iconst 1, 1) := by decide +kernel
theorem dX3_turn_20 : decode cX3_turn 20 = .ok (.invokevirtual 63, 3) := by decide +kernel
theorem dX3_turn_23 : decode cX3_turn 23 = .ok (.ifCond .ne 5, 3) := by decide +kernel
theorem dX3_turn_26 : decode cX3_turn 26 = .ok (.iconst 0, 1) := by decide +kernel
theorem dX3_turn_27 : decode cX3_turn 27 = .ok (.ireturn, 1) := by decide +kernel
theorem dX3_turn_28 : decode cX3_turn 28 = .ok (.aload_n 0, 1) := by decide +kernel
theorem dX3_turn_29 : decode cX3_turn 29 = .ok (.getfield 16, 3) := by decide +kernel
theorem dX3_turn_32 : decode cX3_turn 32 = .ok (.iload_n 3, 1) := by decide +kernel
theorem dX3_turn_33 : decode cX3_turn 33 = .ok (.aaload, 1) := by decide +kernel
theorem dX3_turn_34 : decode cX3_turn 34 = .ok (.iload_n 2, 1) := by decide +kernel
theorem dX3_turn_35 : decode cX3_turn 35 = .ok (.iaload, 1) := by decide +kernel
theorem dX3_turn_36 : decode cX3_turn 36 = .ok (.istore 4, 2) := by decide +kernel
theorem dX3_turn_38 : decode cX3_turn 38 = .ok (.iload 4, 2) := by decide +kernel
theorem dX3_turn_40 : decode cX3_turn 40 = .ok (.newarray .long, 2) := by decide +kernel
theorem dX3_turn_42 : decode cX3_turn 42 = .ok (.astore 5, 2) := by decide +kernel
theorem dX3_turn_44 : decode cX3_turn 44 = .ok (.iconst 0, 1) := by decide +kernel
theorem dX3_turn_45 : decode cX3_turn 45 = .ok (.istore 6, 2) := by decide +kernel
theorem dX3_turn_47 : decode cX3_turn 47 = .ok (.iload 6, 2) := by decide +kernel
theorem dX3_turn_49 : decode cX3_turn 49 = .ok (.iload 4, 2) := by decide +kernel
theorem dX3_turn_51 : decode cX3_turn 51 = .ok (.if_icmp .ge 25, 3) := by decide +kernel
theorem dX3_turn_54 : decode cX3_turn 54 = .ok (.aload 5, 2) := by decide +kernel
theorem dX3_turn_56 : decode cX3_turn 56 = .ok (.iload 6, 2) := by decide +kernel
theorem dX3_turn_58 : decode cX3_turn 58 = .ok (.aload_n 0, 1) := by decide +kernel
theorem dX3_turn_59 : decode cX3_turn 59 = .ok (.getfield 11, 3) := by decide +kernel
theorem dX3_turn_62 : decode cX3_turn 62 = .ok (.iload_n 3, 1) := by decide +kernel
theorem dX3_turn_63 : decode cX3_turn 63 = .ok (.aaload, 1) := by decide +kernel
theorem dX3_turn_64 : decode cX3_turn 64 = .ok (.iload_n 2, 1) := by decide +kernel
theorem dX3_turn_65 : decode cX3_turn 65 = .ok (.aaload, 1) := by decide +kernel
theorem dX3_turn_66 : decode cX3_turn 66 = .ok (.iload 6, 2) := by decide +kernel
theorem dX3_turn_68 : decode cX3_turn 68 = .ok (.laload, 1) := by decide +kernel
theorem dX3_turn_69 : decode cX3_turn 69 = .ok (.lastore, 1) := by decide +kernel
theorem dX3_turn_70 : decode cX3_turn 70 = .ok (.iinc 6 1, 3) := by decide +kernel
theorem dX3_turn_73 : decode cX3_turn 73 = .ok (.goto (-26), 3) := by decide +kernel
theorem dX3_turn_76 : decode cX3_turn 76 = .ok (.iconst 0, 1) := by decide +kernel
theorem dX3_turn_77 : decode cX3_turn 77 = .ok (.istore 6, 2) := by decide +kernel
theorem dX3_turn_79 : decode cX3_turn 79 = .ok (.iload 6, 2) := by decide +kernel
theorem dX3_turn_81 : decode cX3_turn 81 = .ok (.iload 4, 2) := by decide +kernel
theorem dX3_turn_83 : decode cX3_turn 83 = .ok (.if_icmp .ge 30, 3) := by decide +kernel
theorem dX3_turn_86 : decode cX3_turn 86 = .ok (.aload_n 0, 1) := by decide +kernel
theorem dX3_turn_87 : decode cX3_turn 87 = .ok (.getfield 11, 3) := by decide +kernel
theorem dX3_turn_90 : decode cX3_turn 90 = .ok (.iload_n 3, 1) := by decide +kernel
theorem dX3_turn_91 : decode cX3_turn 91 = .ok (.aaload, 1) := by decide +kernel
theorem dX3_turn_92 : decode cX3_turn 92 = .ok (.iload_n 2, 1) := by decide +kernel
theorem dX3_turn_93 : decode cX3_turn 93 = .ok (.aaload, 1) := by decide +kernel
theorem dX3_turn_94 : decode cX3_turn 94 = .ok (.iload 6, 2) := by decide +kernel
theorem dX3_turn_96 : decode cX3_turn 96 = .ok (.aload 5, 2) := by decide +kernel
theorem dX3_turn_98 : decode cX3_turn 98 = .ok (.iload 4, 2) := by decide +kernel
theorem dX3_turn_100 : decode cX3_turn 100 = .ok (.iconst 1, 1) := by decide +kernel
theorem dX3_turn_101 : decode cX3_turn 101 = .ok (.isub, 1) := by decide +kernel
theorem dX3_turn_102 : decode cX3_turn 102 = .ok (.iload 6, 2) := by decide +kernel
theorem dX3_turn_104 : decode cX3_turn 104 = .ok (.isub, 1) := by decide +kernel
theorem dX3_turn_105 : decode cX3_turn 105 = .ok (.laload, 1) := by decide +kernel
theorem dX3_turn_106 : decode cX3_turn 106 = .ok (.lastore, 1) := by decide +kernel
theorem dX3_turn_107 : decode cX3_turn 107 = .ok (.iinc 6 1, 3) := by decide +kernel
theorem dX3_turn_110 : decode cX3_turn 110 = .ok (.goto (-31), 3) := by decide +kernel
theorem dX3_turn_113 : decode cX3_turn 113 = .ok (.iload 4, 2) := by decide +kernel
theorem dX3_turn_115 : decode cX3_turn 115 = .ok (.ireturn, 1) := by decide +kernel
theorem dX3_length_0 : decode cX3_length 0 = .ok (.iload_n 1, 1) := by decide +kernel
theorem dX3_length_1 : decode cX3_length 1 = .ok (.invokestatic 51, 3) := by decide +kernel
theorem dX3_length_4 : decode cX3_length 4 = .ok (.istore_n 3, 1) := by decide +kernel
theorem dX3_length_5 : decode cX3_length 5 = .ok (.aload_n 0, 1) := by decide +kernel
theorem dX3_length_6 : decode cX3_length 6 = .ok (.iload_n 3, 1) := by decide +kernel
theorem dX3_length_7 : decode cX3_length 7 = .ok (.ifCond .lt 7, 3) := by decide +kernel
theorem dX3_length_10 : decode cX3_length 10 = .ok (.iconst 1, 1) := by decide +kernel
theorem dX3_length_11 : decode cX3_length 11 = .ok (.goto 4, 3) := by decide +kernel
theorem dX3_length_14 : decode cX3_length 14 = .ok (.iconst 0, 1) := by decide +kernel
theorem dX3_length_15 : decode cX3_length 15 = .ok (.iload_n 2, 1) := by decide +kernel
theorem dX3_length_16 : decode cX3_length 16 = .ok (.invokestatic 59, 3) := by decide +kernel
theorem dX3_length_19 : decode cX3_length 19 = .ok (.iconst 1, 1) := by decide +kernel
theorem dX3_length_20 : decode cX3_length 20 = .ok (.invokevirtual 63, 3) := by decide +kernel
theorem dX3_length_23 : decode cX3_length 23 = .ok (.ifCond .eq 14, 3) := by decide +kernel
theorem dX3_length_26 : decode cX3_length 26 = .ok (.aload_n 0, 1) := by decide +kernel
theorem dX3_length_27 : decode cX3_length 27 = .ok (.getfield 16, 3) := by decide +kernel
theorem dX3_length_30 : decode cX3_length 30 = .ok (.iload_n 3, 1) := by decide +kernel
theorem dX3_length_31 : decode cX3_length 31 = .ok (.aaload, 1) := by decide +kernel
theorem dX3_length_32 : decode cX3_length 32 = .ok (.iload_n 2, 1) := by decide +kernel
theorem dX3_length_33 : decode cX3_length 33 = .ok (.iaload, 1) := by decide +kernel
theorem dX3_length_34 : decode cX3_length 34 = .ok (.goto 4, 3) := by decide +kernel
theorem dX3_length_37 : decode cX3_length 37 = .ok (.iconst 0, 1) := by decide +kernel
theorem dX3_length_38 : decode cX3_length 38 = .ok (.ireturn, 1) := by decide +kernel
theorem dX3_number_0 : decode cX3_number 0 = .ok (.iload_n 1, 1) := by decide +kernel
theorem dX3_number_1 : decode cX3_number 1 = .ok (.invokestatic 51, 3) := by decide +kernel
theorem dX3_number_4 : decode cX3_number 4 = .ok (.istore 4, 2) := by decide +kernel
theorem dX3_number_6 : decode cX3_number 6 = .ok (.aload_n 0, 1) := by decide +kernel
theorem dX3_number_7 : decode cX3_number 7 = .ok (.iload 4, 2) := by decide +kernel
theorem dX3_number_9 : decode cX3_number 9 = .ok (.ifCond .lt 7, 3) := by decide +kernel
theorem dX3_number_12 : decode cX3_number 12 = .ok (.iconst 1, 1) := by decide +kernel
theorem dX3_number_13 : decode cX3_number 13 = .ok (.goto 4, 3) := by decide +kernel
theorem dX3_number_16 : decode cX3_number 16 = .ok (.iconst 0, 1) := by decide +kernel
theorem dX3_number_17 : decode cX3_number 17 = .ok (.iload_n 2, 1) := by decide +kernel
theorem dX3_number_18 : decode cX3_number 18 = .ok (.invokestatic 59, 3) := by decide +kernel
theorem dX3_number_21 : decode cX3_number 21 = .ok (.iconst 1, 1) := by decide +kernel
theorem dX3_number_22 : decode cX3_number 22 = .ok (.invokevirtual 63, 3) := by decide +kernel
theorem dX3_number_25 : decode cX3_number 25 = .ok (.ifCond .eq 34, 3) := by decide +kernel
theorem dX3_number_28 : decode cX3_number 28 = .ok (.aload_n 0, 1) := by decide +kernel
theorem dX3_number_29 : decode cX3_number 29 = .ok (.iconst 1, 1) := by decide +kernel
theorem dX3_number_30 : decode cX3_number 30 = .ok (.iload_n 3, 1) := by decide +kernel
theorem dX3_number_31 : decode cX3_number 31 = .ok (.ifCond .lt 20, 3) := by decide +kernel
theorem dX3_number_34 : decode cX3_number 34 = .ok (.iload_n 3, 1) := by decide +kernel
theorem dX3_number_35 : decode cX3_number 35 = .ok (.aload_n 0, 1) := by decide +kernel
theorem dX3_number_36 : decode cX3_number 36 = .ok (.getfield 16, 3) := by decide +kernel
theorem dX3_number_39 : decode cX3_number 39 = .ok (.iload 4, 2) := by decide +kernel
theorem dX3_number_41 : decode cX3_number 41 = .ok (.aaload, 1) := by decide +kernel
theorem dX3_number_42 : decode cX3_number 42 = .ok (.iload_n 2, 1) := by decide +kernel
theorem dX3_number_43 : decode cX3_number 43 = .ok (.iaload, 1) := by decide +kernel
theorem dX3_number_44 : decode cX3_number 44 = .ok (.if_icmp .ge 7, 3) := by decide +kernel
theorem dX3_number_47 : decode cX3_number 47 = .ok (.iconst 1, 1) := by decide +kernel
theorem dX3_number_48 : decode cX3_number 48 = .ok (.goto 4, 3) := by decide +kernel
theorem dX3_number_51 : decode cX3_number 51 = .ok (.iconst 0, 1) := by decide +kernel
theorem dX3_number_52 : decode cX3_number 52 = .ok (.iconst 1, 1) := by decide +kernel
theorem dX3_number_53 : decode cX3_number 53 = .ok (.invokevirtual 63, 3) := by decide +kernel
theorem dX3_number_56 : decode cX3_number 56 = .ok (.ifCond .ne 5, 3) := by decide +kernel
theorem dX3_number_59 : decode cX3_number 59 = .ok (.lconst 0, 1) := by decide +kernel
theorem dX3_number_60 : decode cX3_number 60 = .ok (.lreturn, 1) := by decide +kernel
theorem dX3_number_61 : decode cX3_number 61 = .ok (.aload_n 0, 1) := by decide +kernel
theorem dX3_number_62 : decode cX3_number 62 = .ok (.getfield 11, 3) := by decide +kernel
theorem dX3_number_65 : decode cX3_number 65 = .ok (.iload 4, 2) := by decide +kernel
theorem dX3_number_67 : decode cX3_number 67 = .ok (.aaload, 1) := by decide +kernel
theorem dX3_number_68 : decode cX3_number 68 = .ok (.iload_n 2, 1) := by decide +kernel
theorem dX3_number_69 : decode cX3_number 69 = .ok (.aaload, 1) := by decide +kernel
theorem dX3_number_70 : decode cX3_number 70 = .ok (.iload_n 3, 1) := by decide +kernel
theorem dX3_number_71 : decode cX3_number 71 = .ok (.laload, 1) := by decide +kernel
theorem dX3_number_72 : decode cX3_number 72 = .ok (.lreturn, 1) := by decide +kernel
theorem dX3_isBench_0 : decode cX3_isBench 0 = .ok (.iload_n 0, 1) := by decide +kernel
theorem dX3_isBench_1 : decode cX3_isBench 1 = .ok (.ifCond .lt 13, 3) := by decide +kernel
theorem dX3_isBench_4 : decode cX3_isBench 4 = .ok (.iload_n 0, 1) := by decide +kernel
theorem dX3_isBench_5 : decode cX3_isBench 5 = .ok (.bipush 6, 2) := by decide +kernel
theorem dX3_isBench_7 : decode cX3_isBench 7 = .ok (.if_icmp .ge 7, 3) := by decide +kernel
theorem dX3_isBench_10 : decode cX3_isBench 10 = .ok (.iconst 1, 1) := by decide +kernel
theorem dX3_isBench_11 : decode cX3_isBench 11 = .ok (.goto 4, 3) := by decide +kernel
theorem dX3_isBench_14 : decode cX3_isBench 14 = .ok (.iconst 0, 1) := by decide +kernel
theorem dX3_isBench_15 : decode cX3_isBench 15 = .ok (.ireturn, 1) := by decide +kernel
theorem dX3_opened_0 : decode cX3_opened 0 = .ok (.aload_n 0, 1) := by decide +kernel
theorem dX3_opened_1 : decode cX3_opened 1 = .ok (.getfield 24, 3) := by decide +kernel
theorem dX3_opened_4 : decode cX3_opened 4 = .ok (.iload_n 1, 1) := by decide +kernel
theorem dX3_opened_5 : decode cX3_opened 5 = .ok (.iload 5, 2) := by decide +kernel
theorem dX3_opened_7 : decode cX3_opened 7 = .ok (.iload 4, 2) := by decide +kernel
theorem dX3_opened_9 : decode cX3_opened 9 = .ok (.isub, 1) := by decide +kernel
theorem dX3_opened_10 : decode cX3_opened 10 = .ok (.iastore, 1) := by decide +kernel
theorem dX3_opened_11 : decode cX3_opened 11 = .ok (.iload 4, 2) := by decide +kernel
theorem dX3_opened_13 : decode cX3_opened 13 = .ok (.istore 6, 2) := by decide +kernel
theorem dX3_opened_15 : decode cX3_opened 15 = .ok (.iload 6, 2) := by decide +kernel
theorem dX3_opened_17 : decode cX3_opened 17 = .ok (.iload 5, 2) := by decide +kernel
theorem dX3_opened_19 : decode cX3_opened 19 = .ok (.if_icmp .ge 32, 3) := by decide +kernel
theorem dX3_opened_22 : decode cX3_opened 22 = .ok (.aload_n 0, 1) := by decide +kernel
theorem dX3_opened_23 : decode cX3_opened 23 = .ok (.getfield 21, 3) := by decide +kernel
theorem dX3_opened_26 : decode cX3_opened 26 = .ok (.iload_n 1, 1) := by decide +kernel
theorem dX3_opened_27 : decode cX3_opened 27 = .ok (.aaload, 1) := by decide +kernel
theorem dX3_opened_28 : decode cX3_opened 28 = .ok (.iload 6, 2) := by decide +kernel
theorem dX3_opened_30 : decode cX3_opened 30 = .ok (.iload 4, 2) := by decide +kernel
theorem dX3_opened_32 : decode cX3_opened 32 = .ok (.isub, 1) := by decide +kernel
theorem dX3_opened_33 : decode cX3_opened 33 = .ok (.aload_n 0, 1) := by decide +kernel
theorem dX3_opened_34 : decode cX3_opened 34 = .ok (.getfield 11, 3) := by decide +kernel
theorem dX3_opened_37 : decode cX3_opened 37 = .ok (.iload_n 2, 1) := by decide +kernel
theorem dX3_opened_38 : decode cX3_opened 38 = .ok (.aaload, 1) := by decide +kernel
theorem dX3_opened_39 : decode cX3_opened 39 = .ok (.iload_n 3, 1) := by decide +kernel
theorem dX3_opened_40 : decode cX3_opened 40 = .ok (.aaload, 1) := by decide +kernel
theorem dX3_opened_41 : decode cX3_opened 41 = .ok (.iload 6, 2) := by decide +kernel
theorem dX3_opened_43 : decode cX3_opened 43 = .ok (.laload, 1) := by decide +kernel
theorem dX3_opened_44 : decode cX3_opened 44 = .ok (.lastore, 1) := by decide +kernel
theorem dX3_opened_45 : decode cX3_opened 45 = .ok (.iinc 6 1, 3) := by decide +kernel
theorem dX3_opened_48 : decode cX3_opened 48 = .ok (.goto (-33), 3) := by decide +kernel
theorem dX3_opened_51 : decode cX3_opened 51 = .ok (.aload_n 0, 1) := by decide +kernel
theorem dX3_opened_52 : decode cX3_opened 52 = .ok (.getfield 28, 3) := by decide +kernel
theorem dX3_opened_55 : decode cX3_opened 55 = .ok (.iload_n 1, 1) := by decide +kernel
theorem dX3_opened_56 : decode cX3_opened 56 = .ok (.iload_n 2, 1) := by decide +kernel
theorem dX3_opened_57 : decode cX3_opened 57 = .ok (.iconst 2, 1) := by decide +kernel
theorem dX3_opened_58 : decode cX3_opened 58 = .ok (.if_icmp .ne 7, 3) := by decide +kernel
theorem dX3_opened_61 : decode cX3_opened 61 = .ok (.iconst 1, 1) := by decide +kernel
theorem dX3_opened_62 : decode cX3_opened 62 = .ok (.goto 4, 3) := by decide +kernel
theorem dX3_opened_65 : decode cX3_opened 65 = .ok (.iconst 0, 1) := by decide +kernel
theorem dX3_opened_66 : decode cX3_opened 66 = .ok (.bastore, 1) := by decide +kernel
theorem dX3_opened_67 : decode cX3_opened 67 = .ok (.aload_n 0, 1) := by decide +kernel
theorem dX3_opened_68 : decode cX3_opened 68 = .ok (.getfield 34, 3) := by decide +kernel
theorem dX3_opened_71 : decode cX3_opened 71 = .ok (.iload_n 1, 1) := by decide +kernel
theorem dX3_opened_72 : decode cX3_opened 72 = .ok (.aaload, 1) := by decide +kernel
theorem dX3_opened_73 : decode cX3_opened 73 = .ok (.iconst 0, 1) := by decide +kernel
theorem dX3_opened_74 : decode cX3_opened 74 = .ok (.bipush 112, 2) := by decide +kernel
theorem dX3_opened_76 : decode cX3_opened 76 = .ok (.castore, 1) := by decide +kernel
theorem dX3_opened_77 : decode cX3_opened 77 = .ok (.aload_n 0, 1) := by decide +kernel
theorem dX3_opened_78 : decode cX3_opened 78 = .ok (.getfield 37, 3) := by decide +kernel
theorem dX3_opened_81 : decode cX3_opened 81 = .ok (.iload_n 1, 1) := by decide +kernel
theorem dX3_opened_82 : decode cX3_opened 82 = .ok (.aaload, 1) := by decide +kernel
theorem dX3_opened_83 : decode cX3_opened 83 = .ok (.iconst 0, 1) := by decide +kernel
theorem dX3_opened_84 : decode cX3_opened 84 = .ok (.iload 5, 2) := by decide +kernel
theorem dX3_opened_86 : decode cX3_opened 86 = .ok (.iload 4, 2) := by decide +kernel
theorem dX3_opened_88 : decode cX3_opened 88 = .ok (.isub, 1) := by decide +kernel
theorem dX3_opened_89 : decode cX3_opened 89 = .ok (.iastore, 1) := by decide +kernel
theorem dX3_opened_90 : decode cX3_opened 90 = .ok (.aload_n 0, 1) := by decide +kernel
theorem dX3_opened_91 : decode cX3_opened 91 = .ok (.getfield 40, 3) := by decide +kernel
theorem dX3_opened_94 : decode cX3_opened 94 = .ok (.iload_n 1, 1) := by decide +kernel
theorem dX3_opened_95 : decode cX3_opened 95 = .ok (.iconst 1, 1) := by decide +kernel
theorem dX3_opened_96 : decode cX3_opened 96 = .ok (.iastore, 1) := by decide +kernel
theorem dX3_opened_97 : decode cX3_opened 97 = .ok (.iload 5, 2) := by decide +kernel
theorem dX3_opened_99 : decode cX3_opened 99 = .ok (.iload 4, 2) := by decide +kernel
theorem dX3_opened_101 : decode cX3_opened 101 = .ok (.isub, 1) := by decide +kernel
theorem dX3_opened_102 : decode cX3_opened 102 = .ok (.ireturn, 1) := by decide +kernel
theorem dX3_open_0 : decode cX3_open 0 = .ok (.iload_n 2, 1) := by decide +kernel
theorem dX3_open_1 : decode cX3_open 1 = .ok (.invokestatic 51, 3) := by decide +kernel
theorem dX3_open_4 : decode cX3_open 4 = .ok (.istore 6, 2) := by decide +kernel
theorem dX3_open_6 : decode cX3_open 6 = .ok (.aload_n 0, 1) := by decide +kernel
theorem dX3_open_7 : decode cX3_open 7 = .ok (.iload 6, 2) := by decide +kernel
theorem dX3_open_9 : decode cX3_open 9 = .ok (.ifCond .lt 7, 3) := by decide +kernel
theorem dX3_open_12 : decode cX3_open 12 = .ok (.iconst 1, 1) := by decide +kernel
theorem dX3_open_13 : decode cX3_open 13 = .ok (.goto 4, 3) := by decide +kernel
theorem dX3_open_16 : decode cX3_open 16 = .ok (.iconst 0, 1) := by decide +kernel
theorem dX3_open_17 : decode cX3_open 17 = .ok (.iload_n 1, 1) := by decide +kernel
theorem dX3_open_18 : decode cX3_open 18 = .ok (.invokestatic 67, 3) := by decide +kernel
theorem dX3_open_21 : decode cX3_open 21 = .ok (.ifCond .eq 26, 3) := by decide +kernel
theorem dX3_open_24 : decode cX3_open 24 = .ok (.iload_n 3, 1) := by decide +kernel
theorem dX3_open_25 : decode cX3_open 25 = .ok (.invokestatic 59, 3) := by decide +kernel
theorem dX3_open_28 : decode cX3_open 28 = .ok (.ifCond .eq 19, 3) := by decide +kernel
theorem dX3_open_31 : decode cX3_open 31 = .ok (.iload 4, 2) := by decide +kernel
theorem dX3_open_33 : decode cX3_open 33 = .ok (.ifCond .lt 14, 3) := by decide +kernel
theorem dX3_open_36 : decode cX3_open 36 = .ok (.iload 4, 2) := by decide +kernel
theorem dX3_open_38 : decode cX3_open 38 = .ok (.iload 5, 2) := by decide +kernel
theorem dX3_open_40 : decode cX3_open 40 = .ok (.if_icmp .gt 7, 3) := by decide +kernel
theorem dX3_open_43 : decode cX3_open 43 = .ok (.iconst 1, 1) := by decide +kernel
theorem dX3_open_44 : decode cX3_open 44 = .ok (.goto 4, 3) := by decide +kernel
theorem dX3_open_47 : decode cX3_open 47 = .ok (.iconst 0, 1) := by decide +kernel
theorem dX3_open_48 : decode cX3_open 48 = .ok (.iconst 1, 1) := by decide +kernel
theorem dX3_open_49 : decode cX3_open 49 = .ok (.invokevirtual 63, 3) := by decide +kernel
theorem dX3_open_52 : decode cX3_open 52 = .ok (.ifCond .eq 31, 3) := by decide +kernel
theorem dX3_open_55 : decode cX3_open 55 = .ok (.aload_n 0, 1) := by decide +kernel
theorem dX3_open_56 : decode cX3_open 56 = .ok (.iconst 1, 1) := by decide +kernel
theorem dX3_open_57 : decode cX3_open 57 = .ok (.iload 5, 2) := by decide +kernel
theorem dX3_open_59 : decode cX3_open 59 = .ok (.aload_n 0, 1) := by decide +kernel
theorem dX3_open_60 : decode cX3_open 60 = .ok (.getfield 16, 3) := by decide +kernel
theorem dX3_open_63 : decode cX3_open 63 = .ok (.iload 6, 2) := by decide +kernel
theorem dX3_open_65 : decode cX3_open 65 = .ok (.aaload, 1) := by decide +kernel
theorem dX3_open_66 : decode cX3_open 66 = .ok (.iload_n 3, 1) := by decide +kernel
theorem dX3_open_67 : decode cX3_open 67 = .ok (.iaload, 1) := by decide +kernel
theorem dX3_open_68 : decode cX3_open 68 = .ok (.if_icmp .gt 7, 3) := by decide +kernel
theorem dX3_open_71 : decode cX3_open 71 = .ok (.iconst 1, 1) := by decide +kernel
theorem dX3_open_72 : decode cX3_open 72 = .ok (.goto 4, 3) := by decide +kernel
theorem dX3_open_75 : decode cX3_open 75 = .ok (.iconst 0, 1) := by decide +kernel
theorem dX3_open_76 : decode cX3_open 76 = .ok (.iconst 1, 1) := by decide +kernel
theorem dX3_open_77 : decode cX3_open 77 = .ok (.invokevirtual 63, 3) := by decide +kernel
theorem dX3_open_80 : decode cX3_open 80 = .ok (.ifCond .ne 5, 3) := by decide +kernel
theorem dX3_open_83 : decode cX3_open 83 = .ok (.iconst 0, 1) := by decide +kernel
theorem dX3_open_84 : decode cX3_open 84 = .ok (.ireturn, 1) := by decide +kernel
theorem dX3_open_85 : decode cX3_open 85 = .ok (.aload_n 0, 1) := by decide +kernel
theorem dX3_open_86 : decode cX3_open 86 = .ok (.iload_n 1, 1) := by decide +kernel
theorem dX3_open_87 : decode cX3_open 87 = .ok (.iload 6, 2) := by decide +kernel
theorem dX3_open_89 : decode cX3_open 89 = .ok (.iload_n 3, 1) := by decide +kernel
theorem dX3_open_90 : decode cX3_open 90 = .ok (.iload 4, 2) := by decide +kernel
theorem dX3_open_92 : decode cX3_open 92 = .ok (.iload 5, 2) := by decide +kernel
theorem dX3_open_94 : decode cX3_open 94 = .ok (.invokevirtual 70, 3) := by decide +kernel
theorem dX3_open_97 : decode cX3_open 97 = .ok (.ireturn, 1) := by decide +kernel
theorem dX3_openAll_0 : decode cX3_openAll 0 = .ok (.iload_n 2, 1) := by decide +kernel
theorem dX3_openAll_1 : decode cX3_openAll 1 = .ok (.invokestatic 51, 3) := by decide +kernel
theorem dX3_openAll_4 : decode cX3_openAll 4 = .ok (.istore 4, 2) := by decide +kernel
theorem dX3_openAll_6 : decode cX3_openAll 6 = .ok (.aload_n 0, 1) := by decide +kernel
theorem dX3_openAll_7 : decode cX3_openAll 7 = .ok (.iload 4, 2) := by decide +kernel
theorem dX3_openAll_9 : decode cX3_openAll 9 = .ok (.ifCond .lt 7, 3) := by decide +kernel
theorem dX3_openAll_12 : decode cX3_openAll 12 = .ok (.iconst 1, 1) := by decide +kernel
theorem dX3_openAll_13 : decode cX3_openAll 13 = .ok (.goto 4, 3) := by decide +kernel
theorem dX3_openAll_16 : decode cX3_openAll 16 = .ok (.iconst 0, 1) := by decide +kernel
theorem dX3_openAll_17 : decode cX3_openAll 17 = .ok (.iload_n 1, 1) := by decide +kernel
theorem dX3_openAll_18 : decode cX3_openAll 18 = .ok (.invokestatic 67, 3) := by decide +kernel
theorem dX3_openAll_21 : decode cX3_openAll 21 = .ok (.ifCond .eq 14, 3) := by decide +kernel
theorem dX3_openAll_24 : decode cX3_openAll 24 = .ok (.iload_n 3, 1) := by decide +kernel
theorem dX3_openAll_25 : decode cX3_openAll 25 = .ok (.invokestatic 59, 3) := by decide +kernel
theorem dX3_openAll_28 : decode cX3_openAll 28 = .ok (.ifCond .eq 7, 3) := by decide +kernel
theorem dX3_openAll_31 : decode cX3_openAll 31 = .ok (.iconst 1, 1) := by decide +kernel
theorem dX3_openAll_32 : decode cX3_openAll 32 = .ok (.goto 4, 3) := by decide +kernel
theorem dX3_openAll_35 : decode cX3_openAll 35 = .ok (.iconst 0, 1) := by decide +kernel
theorem dX3_openAll_36 : decode cX3_openAll 36 = .ok (.iconst 1, 1) := by decide +kernel
theorem dX3_openAll_37 : decode cX3_openAll 37 = .ok (.invokevirtual 63, 3) := by decide +kernel
theorem dX3_openAll_40 : decode cX3_openAll 40 = .ok (.ifCond .eq 24, 3) := by decide +kernel
theorem dX3_openAll_43 : decode cX3_openAll 43 = .ok (.aload_n 0, 1) := by decide +kernel
theorem dX3_openAll_44 : decode cX3_openAll 44 = .ok (.iload_n 1, 1) := by decide +kernel
theorem dX3_openAll_45 : decode cX3_openAll 45 = .ok (.iload 4, 2) := by decide +kernel
theorem dX3_openAll_47 : decode cX3_openAll 47 = .ok (.iload_n 3, 1) := by decide +kernel
theorem dX3_openAll_48 : decode cX3_openAll 48 = .ok (.iconst 0, 1) := by decide +kernel
theorem dX3_openAll_49 : decode cX3_openAll 49 = .ok (.aload_n 0, 1) := by decide +kernel
theorem dX3_openAll_50 : decode cX3_openAll 50 = .ok (.getfield 16, 3) := by decide +kernel
theorem dX3_openAll_53 : decode cX3_openAll 53 = .ok (.iload 4, 2) := by decide +kernel
theorem dX3_openAll_55 : decode cX3_openAll 55 = .ok (.aaload, 1) := by decide +kernel
theorem dX3_openAll_56 : decode cX3_openAll 56 = .ok (.iload_n 3, 1) := by decide +kernel
theorem dX3_openAll_57 : decode cX3_openAll 57 = .ok (.iaload, 1) := by decide +kernel
theorem dX3_openAll_58 : decode cX3_openAll 58 = .ok (.invokevirtual 70, 3) := by decide +kernel
theorem dX3_openAll_61 : decode cX3_openAll 61 = .ok (.goto 4, 3) := by decide +kernel
theorem dX3_openAll_64 : decode cX3_openAll 64 = .ok (.iconst 0, 1) := by decide +kernel
theorem dX3_openAll_65 : decode cX3_openAll 65 = .ok (.ireturn, 1) := by decide +kernel
theorem dX3_items_0 : decode cX3_items 0 = .ok (.aload_n 0, 1) := by decide +kernel
theorem dX3_items_1 : decode cX3_items 1 = .ok (.iload_n 1, 1) := by decide +kernel
theorem dX3_items_2 : decode cX3_items 2 = .ok (.invokestatic 67, 3) := by decide +kernel
theorem dX3_items_5 : decode cX3_items 5 = .ok (.iconst 1, 1) := by decide +kernel
theorem dX3_items_6 : decode cX3_items 6 = .ok (.iconst 1, 1) := by decide +kernel
theorem dX3_items_7 : decode cX3_items 7 = .ok (.invokevirtual 63, 3) := by decide +kernel
theorem dX3_items_10 : decode cX3_items 10 = .ok (.ifCond .eq 12, 3) := by decide +kernel
theorem dX3_items_13 : decode cX3_items 13 = .ok (.aload_n 0, 1) := by decide +kernel
theorem dX3_items_14 : decode cX3_items 14 = .ok (.getfield 40, 3) := by decide +kernel
theorem dX3_items_17 : decode cX3_items 17 = .ok (.iload_n 1, 1) := by decide +kernel
theorem dX3_items_18 : decode cX3_items 18 = .ok (.iaload, 1) := by decide +kernel
theorem dX3_items_19 : decode cX3_items 19 = .ok (.goto 4, 3) := by decide +kernel
theorem dX3_items_22 : decode cX3_items 22 = .ok (.iconst 0, 1) := by decide +kernel
theorem dX3_items_23 : decode cX3_items 23 = .ok (.ireturn, 1) := by decide +kernel
theorem dX3_isItem_0 : decode cX3_isItem 0 = .ok (.iload_n 1, 1) := by decide +kernel
theorem dX3_isItem_1 : decode cX3_isItem 1 = .ok (.invokestatic 67, 3) := by decide +kernel
theorem dX3_isItem_4 : decode cX3_isItem 4 = .ok (.ifCond .eq 21, 3) := by decide +kernel
theorem dX3_isItem_7 : decode cX3_isItem 7 = .ok (.iload_n 2, 1) := by decide +kernel
theorem dX3_isItem_8 : decode cX3_isItem 8 = .ok (.ifCond .lt 17, 3) := by decide +kernel
theorem dX3_isItem_11 : decode cX3_isItem 11 = .ok (.iload_n 2, 1) := by decide +kernel
theorem dX3_isItem_12 : decode cX3_isItem 12 = .ok (.aload_n 0, 1) := by decide +kernel
theorem dX3_isItem_13 : decode cX3_isItem 13 = .ok (.getfield 40, 3) := by decide +kernel
theorem dX3_isItem_16 : decode cX3_isItem 16 = .ok (.iload_n 1, 1) := by decide +kernel
theorem dX3_isItem_17 : decode cX3_isItem 17 = .ok (.iaload, 1) := by decide +kernel
theorem dX3_isItem_18 : decode cX3_isItem 18 = .ok (.if_icmp .ge 7, 3) := by decide +kernel
theorem dX3_isItem_21 : decode cX3_isItem 21 = .ok (.iconst 1, 1) := by decide +kernel
theorem dX3_isItem_22 : decode cX3_isItem 22 = .ok (.goto 4, 3) := by decide +kernel
theorem dX3_isItem_25 : decode cX3_isItem 25 = .ok (.iconst 0, 1) := by decide +kernel
theorem dX3_isItem_26 : decode cX3_isItem 26 = .ok (.ireturn, 1) := by decide +kernel
theorem dX3_isOf_0 : decode cX3_isOf 0 = .ok (.aload_n 0, 1) := by decide +kernel
theorem dX3_isOf_1 : decode cX3_isOf 1 = .ok (.aload_n 0, 1) := by decide +kernel
theorem dX3_isOf_2 : decode cX3_isOf 2 = .ok (.iload_n 1, 1) := by decide +kernel
theorem dX3_isOf_3 : decode cX3_isOf 3 = .ok (.iload_n 2, 1) := by decide +kernel
theorem dX3_isOf_4 : decode cX3_isOf 4 = .ok (.invokevirtual 74, 3) := by decide +kernel
theorem dX3_isOf_7 : decode cX3_isOf 7 = .ok (.iconst 1, 1) := by decide +kernel
theorem dX3_isOf_8 : decode cX3_isOf 8 = .ok (.iconst 1, 1) := by decide +kernel
theorem dX3_isOf_9 : decode cX3_isOf 9 = .ok (.invokevirtual 63, 3) := by decide +kernel
theorem dX3_isOf_12 : decode cX3_isOf 12 = .ok (.ifCond .ne 5, 3) := by decide +kernel
theorem dX3_isOf_15 : decode cX3_isOf 15 = .ok (.iconst 0, 1) := by decide +kernel
theorem dX3_isOf_16 : decode cX3_isOf 16 = .ok (.ireturn, 1) := by decide +kernel
theorem dX3_isOf_17 : decode cX3_isOf 17 = .ok (.aload_n 0, 1) := by decide +kernel
theorem dX3_isOf_18 : decode cX3_isOf 18 = .ok (.iconst 1, 1) := by decide +kernel
theorem dX3_isOf_19 : decode cX3_isOf 19 = .ok (.aload_n 0, 1) := by decide +kernel
theorem dX3_isOf_20 : decode cX3_isOf 20 = .ok (.getfield 34, 3) := by decide +kernel
theorem dX3_isOf_23 : decode cX3_isOf 23 = .ok (.iload_n 1, 1) := by decide +kernel
theorem dX3_isOf_24 : decode cX3_isOf 24 = .ok (.aaload, 1) := by decide +kernel
theorem dX3_isOf_25 : decode cX3_isOf 25 = .ok (.iload_n 2, 1) := by decide +kernel
theorem dX3_isOf_26 : decode cX3_isOf 26 = .ok (.caload, 1) := by decide +kernel
theorem dX3_isOf_27 : decode cX3_isOf 27 = .ok (.iload_n 3, 1) := by decide +kernel
theorem dX3_isOf_28 : decode cX3_isOf 28 = .ok (.if_icmp .eq 16, 3) := by decide +kernel
theorem dX3_isOf_31 : decode cX3_isOf 31 = .ok (.aload_n 0, 1) := by decide +kernel
theorem dX3_isOf_32 : decode cX3_isOf 32 = .ok (.getfield 34, 3) := by decide +kernel
theorem dX3_isOf_35 : decode cX3_isOf 35 = .ok (.iload_n 1, 1) := by decide +kernel
theorem dX3_isOf_36 : decode cX3_isOf 36 = .ok (.aaload, 1) := by decide +kernel
theorem dX3_isOf_37 : decode cX3_isOf 37 = .ok (.iload_n 2, 1) := by decide +kernel
theorem dX3_isOf_38 : decode cX3_isOf 38 = .ok (.caload, 1) := by decide +kernel
theorem dX3_isOf_39 : decode cX3_isOf 39 = .ok (.iload 4, 2) := by decide +kernel
theorem dX3_isOf_41 : decode cX3_isOf 41 = .ok (.if_icmp .ne 7, 3) := by decide +kernel
theorem dX3_isOf_44 : decode cX3_isOf 44 = .ok (.iconst 1, 1) := by decide +kernel
theorem dX3_isOf_45 : decode cX3_isOf 45 = .ok (.goto 4, 3) := by decide +kernel
theorem dX3_isOf_48 : decode cX3_isOf 48 = .ok (.iconst 0, 1) := by decide +kernel
theorem dX3_isOf_49 : decode cX3_isOf 49 = .ok (.iconst 1, 1) := by decide +kernel
theorem dX3_isOf_50 : decode cX3_isOf 50 = .ok (.invokevirtual 63, 3) := by decide +kernel
theorem dX3_isOf_53 : decode cX3_isOf 53 = .ok (.ireturn, 1) := by decide +kernel
theorem dX3_kindOf_0 : decode cX3_kindOf 0 = .ok (.aload_n 0, 1) := by decide +kernel
theorem dX3_kindOf_1 : decode cX3_kindOf 1 = .ok (.aload_n 0, 1) := by decide +kernel
theorem dX3_kindOf_2 : decode cX3_kindOf 2 = .ok (.iload_n 1, 1) := by decide +kernel
theorem dX3_kindOf_3 : decode cX3_kindOf 3 = .ok (.iload_n 2, 1) := by decide +kernel
theorem dX3_kindOf_4 : decode cX3_kindOf 4 = .ok (.invokevirtual 74, 3) := by decide +kernel
theorem dX3_kindOf_7 : decode cX3_kindOf 7 = .ok (.iconst 1, 1) := by decide +kernel
theorem dX3_kindOf_8 : decode cX3_kindOf 8 = .ok (.iconst 1, 1) := by decide +kernel
theorem dX3_kindOf_9 : decode cX3_kindOf 9 = .ok (.invokevirtual 63, 3) := by decide +kernel
theorem dX3_kindOf_12 : decode cX3_kindOf 12 = .ok (.ifCond .eq 14, 3) := by decide +kernel
theorem dX3_kindOf_15 : decode cX3_kindOf 15 = .ok (.aload_n 0, 1) := by decide +kernel
theorem dX3_kindOf_16 : decode cX3_kindOf 16 = .ok (.getfield 34, 3) := by decide +kernel
theorem dX3_kindOf_19 : decode cX3_kindOf 19 = .ok (.iload_n 1, 1) := by decide +kernel
theorem dX3_kindOf_20 : decode cX3_kindOf 20 = .ok (.aaload, 1) := by decide +kernel
theorem dX3_kindOf_21 : decode cX3_kindOf 21 = .ok (.iload_n 2, 1) := by decide +kernel
theorem dX3_kindOf_22 : decode cX3_kindOf 22 = .ok (.caload, 1) := by decide +kernel
theorem dX3_kindOf_23 : decode cX3_kindOf 23 = .ok (.goto 4, 3) := by decide +kernel
theorem dX3_kindOf_26 : decode cX3_kindOf 26 = .ok (.iconst 0, 1) := by decide +kernel
theorem dX3_kindOf_27 : decode cX3_kindOf 27 = .ok (.ireturn, 1) := by decide +kernel
theorem dX3_before_0 : decode cX3_before 0 = .ok (.iconst 0, 1) := by decide +kernel
theorem dX3_before_1 : decode cX3_before 1 = .ok (.istore_n 3, 1) := by decide +kernel
theorem dX3_before_2 : decode cX3_before 2 = .ok (.iconst 0, 1) := by decide +kernel
theorem dX3_before_3 : decode cX3_before 3 = .ok (.istore 4, 2) := by decide +kernel
theorem dX3_before_5 : decode cX3_before 5 = .ok (.iload 4, 2) := by decide +kernel
theorem dX3_before_7 : decode cX3_before 7 = .ok (.iload_n 2, 1) := by decide +kernel
theorem dX3_before_8 : decode cX3_before 8 = .ok (.if_icmp .ge 21, 3) := by decide +kernel
theorem dX3_before_11 : decode cX3_before 11 = .ok (.iload_n 3, 1) := by decide +kernel
theorem dX3_before_12 : decode cX3_before 12 = .ok (.aload_n 0, 1) := by decide +kernel
theorem dX3_before_13 : decode cX3_before 13 = .ok (.getfield 37, 3) := by decide +kernel
theorem dX3_before_16 : decode cX3_before 16 = .ok (.iload_n 1, 1) := by decide +kernel
theorem dX3_before_17 : decode cX3_before 17 = .ok (.aaload, 1) := by decide +kernel
theorem dX3_before_18 : decode cX3_before 18 = .ok (.iload 4, 2) := by decide +kernel
theorem dX3_before_20 : decode cX3_before 20 = .ok (.iaload, 1) := by decide +kernel
theorem dX3_before_21 : decode cX3_before 21 = .ok (.iadd, 1) := by decide +kernel
theorem dX3_before_22 : decode cX3_before 22 = .ok (.istore_n 3, 1) := by decide +kernel
theorem dX3_before_23 : decode cX3_before 23 = .ok (.iinc 4 1, 3) := by decide +kernel
theorem dX3_before_26 : decode cX3_before 26 = .ok (.goto (-21), 3) := by decide +kernel
theorem dX3_before_29 : decode cX3_before 29 = .ok (.iload_n 3, 1) := by decide +kernel
theorem dX3_before_30 : decode cX3_before 30 = .ok (.ireturn, 1) := by decide +kernel
theorem dX3_given_0 : decode cX3_given 0 = .ok (.aload_n 0, 1) := by decide +kernel
theorem dX3_given_1 : decode cX3_given 1 = .ok (.iload_n 1, 1) := by decide +kernel
theorem dX3_given_2 : decode cX3_given 2 = .ok (.iload_n 2, 1) := by decide +kernel
theorem dX3_given_3 : decode cX3_given 3 = .ok (.bipush 110, 2) := by decide +kernel
theorem dX3_given_5 : decode cX3_given 5 = .ok (.bipush 110, 2) := by decide +kernel
theorem dX3_given_7 : decode cX3_given 7 = .ok (.invokevirtual 78, 3) := by decide +kernel
theorem dX3_given_10 : decode cX3_given 10 = .ok (.ifCond .eq 19, 3) := by decide +kernel
theorem dX3_given_13 : decode cX3_given 13 = .ok (.aload_n 0, 1) := by decide +kernel
theorem dX3_given_14 : decode cX3_given 14 = .ok (.getfield 21, 3) := by decide +kernel
theorem dX3_given_17 : decode cX3_given 17 = .ok (.iload_n 1, 1) := by decide +kernel
theorem dX3_given_18 : decode cX3_given 18 = .ok (.aaload, 1) := by decide +kernel
theorem dX3_given_19 : decode cX3_given 19 = .ok (.aload_n 0, 1) := by decide +kernel
theorem dX3_given_20 : decode cX3_given 20 = .ok (.iload_n 1, 1) := by decide +kernel
theorem dX3_given_21 : decode cX3_given 21 = .ok (.iload_n 2, 1) := by decide +kernel
theorem dX3_given_22 : decode cX3_given 22 = .ok (.invokevirtual 82, 3) := by decide +kernel
theorem dX3_given_25 : decode cX3_given 25 = .ok (.laload, 1) := by decide +kernel
theorem dX3_given_26 : decode cX3_given 26 = .ok (.goto 4, 3) := by decide +kernel
theorem dX3_given_29 : decode cX3_given 29 = .ok (.lconst 0, 1) := by decide +kernel
theorem dX3_given_30 : decode cX3_given 30 = .ok (.lreturn, 1) := by decide +kernel
theorem dX3_left_0 : decode cX3_left 0 = .ok (.aload_n 0, 1) := by decide +kernel
theorem dX3_left_1 : decode cX3_left 1 = .ok (.iload_n 1, 1) := by decide +kernel
theorem dX3_left_2 : decode cX3_left 2 = .ok (.iload_n 2, 1) := by decide +kernel
theorem dX3_left_3 : decode cX3_left 3 = .ok (.bipush 112, 2) := by decide +kernel
theorem dX3_left_5 : decode cX3_left 5 = .ok (.bipush 116, 2) := by decide +kernel
theorem dX3_left_7 : decode cX3_left 7 = .ok (.invokevirtual 78, 3) := by decide +kernel
theorem dX3_left_10 : decode cX3_left 10 = .ok (.ifCond .eq 14, 3) := by decide +kernel
theorem dX3_left_13 : decode cX3_left 13 = .ok (.aload_n 0, 1) := by decide +kernel
theorem dX3_left_14 : decode cX3_left 14 = .ok (.getfield 37, 3) := by decide +kernel
theorem dX3_left_17 : decode cX3_left 17 = .ok (.iload_n 1, 1) := by decide +kernel
theorem dX3_left_18 : decode cX3_left 18 = .ok (.aaload, 1) := by decide +kernel
theorem dX3_left_19 : decode cX3_left 19 = .ok (.iload_n 2, 1) := by decide +kernel
theorem dX3_left_20 : decode cX3_left 20 = .ok (.iaload, 1) := by decide +kernel
theorem dX3_left_21 : decode cX3_left 21 = .ok (.goto 4, 3) := by decide +kernel
theorem dX3_left_24 : decode cX3_left 24 = .ok (.iconst 0, 1) := by decide +kernel
theorem dX3_left_25 : decode cX3_left 25 = .ok (.ireturn, 1) := by decide +kernel
theorem dX3_ahead_0 : decode cX3_ahead 0 = .ok (.aload_n 0, 1) := by decide +kernel
theorem dX3_ahead_1 : decode cX3_ahead 1 = .ok (.aload_n 0, 1) := by decide +kernel
theorem dX3_ahead_2 : decode cX3_ahead 2 = .ok (.iload_n 1, 1) := by decide +kernel
theorem dX3_ahead_3 : decode cX3_ahead 3 = .ok (.iload_n 2, 1) := by decide +kernel
theorem dX3_ahead_4 : decode cX3_ahead 4 = .ok (.invokevirtual 74, 3) := by decide +kernel
theorem dX3_ahead_7 : decode cX3_ahead 7 = .ok (.iconst 1, 1) := by decide +kernel
theorem dX3_ahead_8 : decode cX3_ahead 8 = .ok (.iconst 1, 1) := by decide +kernel
theorem dX3_ahead_9 : decode cX3_ahead 9 = .ok (.invokevirtual 63, 3) := by decide +kernel
theorem dX3_ahead_12 : decode cX3_ahead 12 = .ok (.ifCond .eq 12, 3) := by decide +kernel
theorem dX3_ahead_15 : decode cX3_ahead 15 = .ok (.aload_n 0, 1) := by decide +kernel
theorem dX3_ahead_16 : decode cX3_ahead 16 = .ok (.iload_n 1, 1) := by decide +kernel
theorem dX3_ahead_17 : decode cX3_ahead 17 = .ok (.iload_n 2, 1) := by decide +kernel
theorem dX3_ahead_18 : decode cX3_ahead 18 = .ok (.invokevirtual 82, 3) := by decide +kernel
theorem dX3_ahead_21 : decode cX3_ahead 21 = .ok (.goto 4, 3) := by decide +kernel
theorem dX3_ahead_24 : decode cX3_ahead 24 = .ok (.iconst 0, 1) := by decide +kernel
theorem dX3_ahead_25 : decode cX3_ahead 25 = .ok (.ireturn, 1) := by decide +kernel
theorem dX3_has_0 : decode cX3_has 0 = .ok (.aload_n 0, 1) := by decide +kernel
theorem dX3_has_1 : decode cX3_has 1 = .ok (.iload_n 1, 1) := by decide +kernel
theorem dX3_has_2 : decode cX3_has 2 = .ok (.iload_n 2, 1) := by decide +kernel
theorem dX3_has_3 : decode cX3_has 3 = .ok (.bipush 112, 2) := by decide +kernel
theorem dX3_has_5 : decode cX3_has 5 = .ok (.bipush 112, 2) := by decide +kernel
theorem dX3_has_7 : decode cX3_has 7 = .ok (.invokevirtual 78, 3) := by decide +kernel
theorem dX3_has_10 : decode cX3_has 10 = .ok (.ifCond .eq 51, 3) := by decide +kernel
theorem dX3_has_13 : decode cX3_has 13 = .ok (.aload_n 0, 1) := by decide +kernel
theorem dX3_has_14 : decode cX3_has 14 = .ok (.iconst 1, 1) := by decide +kernel
theorem dX3_has_15 : decode cX3_has 15 = .ok (.iconst 1, 1) := by decide +kernel
theorem dX3_has_16 : decode cX3_has 16 = .ok (.iload_n 3, 1) := by decide +kernel
theorem dX3_has_17 : decode cX3_has 17 = .ok (.bipush 111, 2) := by decide +kernel
theorem dX3_has_19 : decode cX3_has 19 = .ok (.if_icmp .eq 27, 3) := by decide +kernel
theorem dX3_has_22 : decode cX3_has 22 = .ok (.iload_n 3, 1) := by decide +kernel
theorem dX3_has_23 : decode cX3_has 23 = .ok (.bipush 115, 2) := by decide +kernel
theorem dX3_has_25 : decode cX3_has 25 = .ok (.if_icmp .eq 21, 3) := by decide +kernel
theorem dX3_has_28 : decode cX3_has 28 = .ok (.iload_n 3, 1) := by decide +kernel
theorem dX3_has_29 : decode cX3_has 29 = .ok (.bipush 117, 2) := by decide +kernel
theorem dX3_has_31 : decode cX3_has 31 = .ok (.if_icmp .eq 15, 3) := by decide +kernel
theorem dX3_has_34 : decode cX3_has 34 = .ok (.iload_n 3, 1) := by decide +kernel
theorem dX3_has_35 : decode cX3_has 35 = .ok (.bipush 105, 2) := by decide +kernel
theorem dX3_has_37 : decode cX3_has 37 = .ok (.if_icmp .eq 9, 3) := by decide +kernel
theorem dX3_has_40 : decode cX3_has 40 = .ok (.iload_n 3, 1) := by decide +kernel
theorem dX3_has_41 : decode cX3_has 41 = .ok (.bipush 97, 2) := by decide +kernel
theorem dX3_has_43 : decode cX3_has 43 = .ok (.if_icmp .ne 7, 3) := by decide +kernel
theorem dX3_has_46 : decode cX3_has 46 = .ok (.iconst 1, 1) := by decide +kernel
theorem dX3_has_47 : decode cX3_has 47 = .ok (.goto 4, 3) := by decide +kernel
theorem dX3_has_50 : decode cX3_has 50 = .ok (.iconst 0, 1) := by decide +kernel
theorem dX3_has_51 : decode cX3_has 51 = .ok (.invokevirtual 63, 3) := by decide +kernel
theorem dX3_has_54 : decode cX3_has 54 = .ok (.ifCond .eq 7, 3) := by decide +kernel
theorem dX3_has_57 : decode cX3_has 57 = .ok (.iconst 1, 1) := by decide +kernel
theorem dX3_has_58 : decode cX3_has 58 = .ok (.goto 4, 3) := by decide +kernel
theorem dX3_has_61 : decode cX3_has 61 = .ok (.iconst 0, 1) := by decide +kernel
theorem dX3_has_62 : decode cX3_has 62 = .ok (.ireturn, 1) := by decide +kernel
theorem dX3_isExact_0 : decode cX3_isExact 0 = .ok (.aload_n 0, 1) := by decide +kernel
theorem dX3_isExact_1 : decode cX3_isExact 1 = .ok (.iload_n 1, 1) := by decide +kernel
theorem dX3_isExact_2 : decode cX3_isExact 2 = .ok (.iload_n 2, 1) := by decide +kernel
theorem dX3_isExact_3 : decode cX3_isExact 3 = .ok (.bipush 112, 2) := by decide +kernel
theorem dX3_isExact_5 : decode cX3_isExact 5 = .ok (.bipush 112, 2) := by decide +kernel
theorem dX3_isExact_7 : decode cX3_isExact 7 = .ok (.invokevirtual 78, 3) := by decide +kernel
theorem dX3_isExact_10 : decode cX3_isExact 10 = .ok (.ireturn, 1) := by decide +kernel
theorem dX3_enter_0 : decode cX3_enter 0 = .ok (.aload_n 0, 1) := by decide +kernel
theorem dX3_enter_1 : decode cX3_enter 1 = .ok (.getfield 40, 3) := by decide +kernel
theorem dX3_enter_4 : decode cX3_enter 4 = .ok (.iload_n 1, 1) := by decide +kernel
theorem dX3_enter_5 : decode cX3_enter 5 = .ok (.iaload, 1) := by decide +kernel
theorem dX3_enter_6 : decode cX3_enter 6 = .ok (.istore 5, 2) := by decide +kernel
theorem dX3_enter_8 : decode cX3_enter 8 = .ok (.iload 5, 2) := by decide +kernel
theorem dX3_enter_10 : decode cX3_enter 10 = .ok (.iload_n 2, 1) := by decide +kernel
theorem dX3_enter_11 : decode cX3_enter 11 = .ok (.if_icmp .le 49, 3) := by decide +kernel
theorem dX3_enter_14 : decode cX3_enter 14 = .ok (.aload_n 0, 1) := by decide +kernel
theorem dX3_enter_15 : decode cX3_enter 15 = .ok (.getfield 34, 3) := by decide +kernel
theorem dX3_enter_18 : decode cX3_enter 18 = .ok (.iload_n 1, 1) := by decide +kernel
theorem dX3_enter_19 : decode cX3_enter 19 = .ok (.aaload, 1) := by decide +kernel
theorem dX3_enter_20 : decode cX3_enter 20 = .ok (.iload 5, 2) := by decide +kernel
theorem dX3_enter_22 : decode cX3_enter 22 = .ok (.aload_n 0, 1) := by decide +kernel
theorem dX3_enter_23 : decode cX3_enter 23 = .ok (.getfield 34, 3) := by decide +kernel
theorem dX3_enter_26 : decode cX3_enter 26 = .ok (.iload_n 1, 1) := by decide +kernel
theorem dX3_enter_27 : decode cX3_enter 27 = .ok (.aaload, 1) := by decide +kernel
theorem dX3_enter_28 : decode cX3_enter 28 = .ok (.iload 5, 2) := by decide +kernel
theorem dX3_enter_30 : decode cX3_enter 30 = .ok (.iconst 1, 1) := by decide +kernel
theorem dX3_enter_31 : decode cX3_enter 31 = .ok (.isub, 1) := by decide +kernel
theorem dX3_enter_32 : decode cX3_enter 32 = .ok (.caload, 1) := by decide +kernel
theorem dX3_enter_33 : decode cX3_enter 33 = .ok (.castore, 1) := by decide +kernel
theorem dX3_enter_34 : decode cX3_enter 34 = .ok (.aload_n 0, 1) := by decide +kernel
theorem dX3_enter_35 : decode cX3_enter 35 = .ok (.getfield 37, 3) := by decide +kernel
theorem dX3_enter_38 : decode cX3_enter 38 = .ok (.iload_n 1, 1) := by decide +kernel
theorem dX3_enter_39 : decode cX3_enter 39 = .ok (.aaload, 1) := by decide +kernel
theorem dX3_enter_40 : decode cX3_enter 40 = .ok (.iload 5, 2) := by decide +kernel
theorem dX3_enter_42 : decode cX3_enter 42 = .ok (.aload_n 0, 1) := by decide +kernel
theorem dX3_enter_43 : decode cX3_enter 43 = .ok (.getfield 37, 3) := by decide +kernel
theorem dX3_enter_46 : decode cX3_enter 46 = .ok (.iload_n 1, 1) := by decide +kernel
theorem dX3_enter_47 : decode cX3_enter 47 = .ok (.aaload, 1) := by decide +kernel
theorem dX3_enter_48 : decode cX3_enter 48 = .ok (.iload 5, 2) := by decide +kernel
theorem dX3_enter_50 : decode cX3_enter 50 = .ok (.iconst 1, 1) := by decide +kernel
theorem dX3_enter_51 : decode cX3_enter 51 = .ok (.isub, 1) := by decide +kernel
theorem dX3_enter_52 : decode cX3_enter 52 = .ok (.iaload, 1) := by decide +kernel
theorem dX3_enter_53 : decode cX3_enter 53 = .ok (.iastore, 1) := by decide +kernel
theorem dX3_enter_54 : decode cX3_enter 54 = .ok (.iinc 5 (-1), 3) := by decide +kernel
theorem dX3_enter_57 : decode cX3_enter 57 = .ok (.goto (-49), 3) := by decide +kernel
theorem dX3_enter_60 : decode cX3_enter 60 = .ok (.aload_n 0, 1) := by decide +kernel
theorem dX3_enter_61 : decode cX3_enter 61 = .ok (.getfield 34, 3) := by decide +kernel
theorem dX3_enter_64 : decode cX3_enter 64 = .ok (.iload_n 1, 1) := by decide +kernel
theorem dX3_enter_65 : decode cX3_enter 65 = .ok (.aaload, 1) := by decide +kernel
theorem dX3_enter_66 : decode cX3_enter 66 = .ok (.iload_n 2, 1) := by decide +kernel
theorem dX3_enter_67 : decode cX3_enter 67 = .ok (.iload_n 3, 1) := by decide +kernel
theorem dX3_enter_68 : decode cX3_enter 68 = .ok (.castore, 1) := by decide +kernel
theorem dX3_enter_69 : decode cX3_enter 69 = .ok (.aload_n 0, 1) := by decide +kernel
theorem dX3_enter_70 : decode cX3_enter 70 = .ok (.getfield 37, 3) := by decide +kernel
theorem dX3_enter_73 : decode cX3_enter 73 = .ok (.iload_n 1, 1) := by decide +kernel
theorem dX3_enter_74 : decode cX3_enter 74 = .ok (.aaload, 1) := by decide +kernel
theorem dX3_enter_75 : decode cX3_enter 75 = .ok (.iload_n 2, 1) := by decide +kernel
theorem dX3_enter_76 : decode cX3_enter 76 = .ok (.iload 4, 2) := by decide +kernel
theorem dX3_enter_78 : decode cX3_enter 78 = .ok (.iastore, 1) := by decide +kernel
theorem dX3_enter_79 : decode cX3_enter 79 = .ok (.aload_n 0, 1) := by decide +kernel
theorem dX3_enter_80 : decode cX3_enter 80 = .ok (.getfield 40, 3) := by decide +kernel
theorem dX3_enter_83 : decode cX3_enter 83 = .ok (.iload_n 1, 1) := by decide +kernel
theorem dX3_enter_84 : decode cX3_enter 84 = .ok (.dup2, 1) := by decide +kernel
theorem dX3_enter_85 : decode cX3_enter 85 = .ok (.iaload, 1) := by decide +kernel
theorem dX3_enter_86 : decode cX3_enter 86 = .ok (.iconst 1, 1) := by decide +kernel
theorem dX3_enter_87 : decode cX3_enter 87 = .ok (.iadd, 1) := by decide +kernel
theorem dX3_enter_88 : decode cX3_enter 88 = .ok (.iastore, 1) := by decide +kernel
theorem dX3_enter_89 : decode cX3_enter 89 = .ok (.return_, 1) := by decide +kernel
theorem dX3_halved_0 : decode cX3_halved 0 = .ok (.aload_n 0, 1) := by decide +kernel
theorem dX3_halved_1 : decode cX3_halved 1 = .ok (.getfield 37, 3) := by decide +kernel
theorem dX3_halved_4 : decode cX3_halved 4 = .ok (.iload_n 1, 1) := by decide +kernel
theorem dX3_halved_5 : decode cX3_halved 5 = .ok (.aaload, 1) := by decide +kernel
theorem dX3_halved_6 : decode cX3_halved 6 = .ok (.iload_n 2, 1) := by decide +kernel
theorem dX3_halved_7 : decode cX3_halved 7 = .ok (.iaload, 1) := by decide +kernel
theorem dX3_halved_8 : decode cX3_halved 8 = .ok (.iconst 2, 1) := by decide +kernel
theorem dX3_halved_9 : decode cX3_halved 9 = .ok (.idiv, 1) := by decide +kernel
theorem dX3_halved_10 : decode cX3_halved 10 = .ok (.istore_n 3, 1) := by decide +kernel
theorem dX3_halved_11 : decode cX3_halved 11 = .ok (.aload_n 0, 1) := by decide +kernel
theorem dX3_halved_12 : decode cX3_halved 12 = .ok (.getfield 37, 3) := by decide +kernel
theorem dX3_halved_15 : decode cX3_halved 15 = .ok (.iload_n 1, 1) := by decide +kernel
theorem dX3_halved_16 : decode cX3_halved 16 = .ok (.aaload, 1) := by decide +kernel
theorem dX3_halved_17 : decode cX3_halved 17 = .ok (.iload_n 2, 1) := by decide +kernel
theorem dX3_halved_18 : decode cX3_halved 18 = .ok (.dup2, 1) := by decide +kernel
theorem dX3_halved_19 : decode cX3_halved 19 = .ok (.iaload, 1) := by decide +kernel
theorem dX3_halved_20 : decode cX3_halved 20 = .ok (.iload_n 3, 1) := by decide +kernel
theorem dX3_halved_21 : decode cX3_halved 21 = .ok (.isub, 1) := by decide +kernel
theorem dX3_halved_22 : decode cX3_halved 22 = .ok (.iastore, 1) := by decide +kernel
theorem dX3_halved_23 : decode cX3_halved 23 = .ok (.aload_n 0, 1) := by decide +kernel
theorem dX3_halved_24 : decode cX3_halved 24 = .ok (.iload_n 1, 1) := by decide +kernel
theorem dX3_halved_25 : decode cX3_halved 25 = .ok (.iload_n 2, 1) := by decide +kernel
theorem dX3_halved_26 : decode cX3_halved 26 = .ok (.bipush 112, 2) := by decide +kernel
theorem dX3_halved_28 : decode cX3_halved 28 = .ok (.iload_n 3, 1) := by decide +kernel
theorem dX3_halved_29 : decode cX3_halved 29 = .ok (.invokevirtual 86, 3) := by decide +kernel
theorem dX3_halved_32 : decode cX3_halved 32 = .ok (.iload_n 3, 1) := by decide +kernel
theorem dX3_halved_33 : decode cX3_halved 33 = .ok (.ireturn, 1) := by decide +kernel
theorem dX3_split_0 : decode cX3_split 0 = .ok (.aload_n 0, 1) := by decide +kernel
theorem dX3_split_1 : decode cX3_split 1 = .ok (.iload_n 1, 1) := by decide +kernel
theorem dX3_split_2 : decode cX3_split 2 = .ok (.iload_n 2, 1) := by decide +kernel
theorem dX3_split_3 : decode cX3_split 3 = .ok (.bipush 112, 2) := by decide +kernel
theorem dX3_split_5 : decode cX3_split 5 = .ok (.bipush 112, 2) := by decide +kernel
theorem dX3_split_7 : decode cX3_split 7 = .ok (.invokevirtual 78, 3) := by decide +kernel
theorem dX3_split_10 : decode cX3_split 10 = .ok (.ifCond .ne 5, 3) := by decide +kernel
theorem dX3_split_13 : decode cX3_split 13 = .ok (.iconst 0, 1) := by decide +kernel
theorem dX3_split_14 : decode cX3_split 14 = .ok (.ireturn, 1) := by decide +kernel
theorem dX3_split_15 : decode cX3_split 15 = .ok (.aload_n 0, 1) := by decide +kernel
theorem dX3_split_16 : decode cX3_split 16 = .ok (.getfield 37, 3) := by decide +kernel
end
section
theorem dX3_split_19 : decode cX3_split 19 = .ok (.iload_n 1, 1) := by decide +kernel
theorem dX3_split_20 : decode cX3_split 20 = .ok (.aaload, 1) := by decide +kernel
theorem dX3_split_21 : decode cX3_split 21 = .ok (.iload_n 2, 1) := by decide +kernel
theorem dX3_split_22 : decode cX3_split 22 = .ok (.iaload, 1) := by decide +kernel
theorem dX3_split_23 : decode cX3_split 23 = .ok (.iconst 2, 1) := by decide +kernel
theorem dX3_split_24 : decode cX3_split 24 = .ok (.if_icmp .ge 7, 3) := by decide +kernel
theorem dX3_split_27 : decode cX3_split 27 = .ok (.iconst (-1), 1) := by decide +kernel
theorem dX3_split_28 : decode cX3_split 28 = .ok (.goto 9, 3) := by decide +kernel
theorem dX3_split_31 : decode cX3_split 31 = .ok (.aload_n 0, 1) := by decide +kernel
theorem dX3_split_32 : decode cX3_split 32 = .ok (.iload_n 1, 1) := by decide +kernel
theorem dX3_split_33 : decode cX3_split 33 = .ok (.iload_n 2, 1) := by decide +kernel
theorem dX3_split_34 : decode cX3_split 34 = .ok (.invokevirtual 90, 3) := by decide +kernel
theorem dX3_split_37 : decode cX3_split 37 = .ok (.ireturn, 1) := by decide +kernel
theorem dX3_step_0 : decode cX3_step 0 = .ok (.aload_n 0, 1) := by decide +kernel
theorem dX3_step_1 : decode cX3_step 1 = .ok (.iload_n 1, 1) := by decide +kernel
theorem dX3_step_2 : decode cX3_step 2 = .ok (.iload_n 2, 1) := by decide +kernel
theorem dX3_step_3 : decode cX3_step 3 = .ok (.bipush 112, 2) := by decide +kernel
theorem dX3_step_5 : decode cX3_step 5 = .ok (.bipush 116, 2) := by decide +kernel
theorem dX3_step_7 : decode cX3_step 7 = .ok (.invokevirtual 78, 3) := by decide +kernel
theorem dX3_step_10 : decode cX3_step 10 = .ok (.ifCond .eq 14, 3) := by decide +kernel
theorem dX3_step_13 : decode cX3_step 13 = .ok (.aload_n 0, 1) := by decide +kernel
theorem dX3_step_14 : decode cX3_step 14 = .ok (.getfield 37, 3) := by decide +kernel
theorem dX3_step_17 : decode cX3_step 17 = .ok (.iload_n 1, 1) := by decide +kernel
theorem dX3_step_18 : decode cX3_step 18 = .ok (.aaload, 1) := by decide +kernel
theorem dX3_step_19 : decode cX3_step 19 = .ok (.iload_n 2, 1) := by decide +kernel
theorem dX3_step_20 : decode cX3_step 20 = .ok (.iaload, 1) := by decide +kernel
theorem dX3_step_21 : decode cX3_step 21 = .ok (.ifCond .ne 5, 3) := by decide +kernel
theorem dX3_step_24 : decode cX3_step 24 = .ok (.iconst 0, 1) := by decide +kernel
theorem dX3_step_25 : decode cX3_step 25 = .ok (.ireturn, 1) := by decide +kernel
theorem dX3_step_26 : decode cX3_step 26 = .ok (.aload_n 0, 1) := by decide +kernel
theorem dX3_step_27 : decode cX3_step 27 = .ok (.getfield 37, 3) := by decide +kernel
theorem dX3_step_30 : decode cX3_step 30 = .ok (.iload_n 1, 1) := by decide +kernel
theorem dX3_step_31 : decode cX3_step 31 = .ok (.aaload, 1) := by decide +kernel
theorem dX3_step_32 : decode cX3_step 32 = .ok (.iload_n 2, 1) := by decide +kernel
theorem dX3_step_33 : decode cX3_step 33 = .ok (.dup2, 1) := by decide +kernel
theorem dX3_step_34 : decode cX3_step 34 = .ok (.iaload, 1) := by decide +kernel
theorem dX3_step_35 : decode cX3_step 35 = .ok (.iconst 1, 1) := by decide +kernel
theorem dX3_step_36 : decode cX3_step 36 = .ok (.isub, 1) := by decide +kernel
theorem dX3_step_37 : decode cX3_step 37 = .ok (.iastore, 1) := by decide +kernel
theorem dX3_step_38 : decode cX3_step 38 = .ok (.aload_n 0, 1) := by decide +kernel
theorem dX3_step_39 : decode cX3_step 39 = .ok (.iload_n 1, 1) := by decide +kernel
theorem dX3_step_40 : decode cX3_step 40 = .ok (.iload_n 2, 1) := by decide +kernel
theorem dX3_step_41 : decode cX3_step 41 = .ok (.bipush 110, 2) := by decide +kernel
theorem dX3_step_43 : decode cX3_step 43 = .ok (.iconst 1, 1) := by decide +kernel
theorem dX3_step_44 : decode cX3_step 44 = .ok (.invokevirtual 86, 3) := by decide +kernel
theorem dX3_step_47 : decode cX3_step 47 = .ok (.iconst 1, 1) := by decide +kernel
theorem dX3_step_48 : decode cX3_step 48 = .ok (.ireturn, 1) := by decide +kernel
theorem dX3_drain_0 : decode cX3_drain 0 = .ok (.aload_n 0, 1) := by decide +kernel
theorem dX3_drain_1 : decode cX3_drain 1 = .ok (.iload_n 1, 1) := by decide +kernel
theorem dX3_drain_2 : decode cX3_drain 2 = .ok (.iload_n 2, 1) := by decide +kernel
theorem dX3_drain_3 : decode cX3_drain 3 = .ok (.bipush 112, 2) := by decide +kernel
theorem dX3_drain_5 : decode cX3_drain 5 = .ok (.bipush 116, 2) := by decide +kernel
theorem dX3_drain_7 : decode cX3_drain 7 = .ok (.invokevirtual 78, 3) := by decide +kernel
theorem dX3_drain_10 : decode cX3_drain 10 = .ok (.ifCond .ne 5, 3) := by decide +kernel
theorem dX3_drain_13 : decode cX3_drain 13 = .ok (.iconst 0, 1) := by decide +kernel
theorem dX3_drain_14 : decode cX3_drain 14 = .ok (.ireturn, 1) := by decide +kernel
theorem dX3_drain_15 : decode cX3_drain 15 = .ok (.aload_n 0, 1) := by decide +kernel
theorem dX3_drain_16 : decode cX3_drain 16 = .ok (.getfield 37, 3) := by decide +kernel
theorem dX3_drain_19 : decode cX3_drain 19 = .ok (.iload_n 1, 1) := by decide +kernel
theorem dX3_drain_20 : decode cX3_drain 20 = .ok (.aaload, 1) := by decide +kernel
theorem dX3_drain_21 : decode cX3_drain 21 = .ok (.iload_n 2, 1) := by decide +kernel
theorem dX3_drain_22 : decode cX3_drain 22 = .ok (.iaload, 1) := by decide +kernel
theorem dX3_drain_23 : decode cX3_drain 23 = .ok (.istore_n 3, 1) := by decide +kernel
theorem dX3_drain_24 : decode cX3_drain 24 = .ok (.aload_n 0, 1) := by decide +kernel
theorem dX3_drain_25 : decode cX3_drain 25 = .ok (.getfield 37, 3) := by decide +kernel
theorem dX3_drain_28 : decode cX3_drain 28 = .ok (.iload_n 1, 1) := by decide +kernel
theorem dX3_drain_29 : decode cX3_drain 29 = .ok (.aaload, 1) := by decide +kernel
theorem dX3_drain_30 : decode cX3_drain 30 = .ok (.iload_n 2, 1) := by decide +kernel
theorem dX3_drain_31 : decode cX3_drain 31 = .ok (.iconst 0, 1) := by decide +kernel
theorem dX3_drain_32 : decode cX3_drain 32 = .ok (.iastore, 1) := by decide +kernel
theorem dX3_drain_33 : decode cX3_drain 33 = .ok (.iconst 0, 1) := by decide +kernel
theorem dX3_drain_34 : decode cX3_drain 34 = .ok (.istore 4, 2) := by decide +kernel
theorem dX3_drain_36 : decode cX3_drain 36 = .ok (.iload 4, 2) := by decide +kernel
theorem dX3_drain_38 : decode cX3_drain 38 = .ok (.iload_n 3, 1) := by decide +kernel
theorem dX3_drain_39 : decode cX3_drain 39 = .ok (.if_icmp .ge 18, 3) := by decide +kernel
theorem dX3_drain_42 : decode cX3_drain 42 = .ok (.aload_n 0, 1) := by decide +kernel
theorem dX3_drain_43 : decode cX3_drain 43 = .ok (.iload_n 1, 1) := by decide +kernel
theorem dX3_drain_44 : decode cX3_drain 44 = .ok (.iload_n 2, 1) := by decide +kernel
theorem dX3_drain_45 : decode cX3_drain 45 = .ok (.bipush 110, 2) := by decide +kernel
theorem dX3_drain_47 : decode cX3_drain 47 = .ok (.iconst 1, 1) := by decide +kernel
theorem dX3_drain_48 : decode cX3_drain 48 = .ok (.invokevirtual 86, 3) := by decide +kernel
theorem dX3_drain_51 : decode cX3_drain 51 = .ok (.iinc 4 1, 3) := by decide +kernel
theorem dX3_drain_54 : decode cX3_drain 54 = .ok (.goto (-18), 3) := by decide +kernel
theorem dX3_drain_57 : decode cX3_drain 57 = .ok (.iload_n 3, 1) := by decide +kernel
theorem dX3_drain_58 : decode cX3_drain 58 = .ok (.ireturn, 1) := by decide +kernel
theorem dX3_iterate_0 : decode cX3_iterate 0 = .ok (.aload_n 0, 1) := by decide +kernel
theorem dX3_iterate_1 : decode cX3_iterate 1 = .ok (.iload_n 1, 1) := by decide +kernel
theorem dX3_iterate_2 : decode cX3_iterate 2 = .ok (.iload_n 2, 1) := by decide +kernel
theorem dX3_iterate_3 : decode cX3_iterate 3 = .ok (.bipush 112, 2) := by decide +kernel
theorem dX3_iterate_5 : decode cX3_iterate 5 = .ok (.bipush 112, 2) := by decide +kernel
theorem dX3_iterate_7 : decode cX3_iterate 7 = .ok (.invokevirtual 78, 3) := by decide +kernel
theorem dX3_iterate_10 : decode cX3_iterate 10 = .ok (.ifCond .eq 26, 3) := by decide +kernel
theorem dX3_iterate_13 : decode cX3_iterate 13 = .ok (.aload_n 0, 1) := by decide +kernel
theorem dX3_iterate_14 : decode cX3_iterate 14 = .ok (.iconst 1, 1) := by decide +kernel
theorem dX3_iterate_15 : decode cX3_iterate 15 = .ok (.iconst 1, 1) := by decide +kernel
theorem dX3_iterate_16 : decode cX3_iterate 16 = .ok (.aload_n 0, 1) := by decide +kernel
theorem dX3_iterate_17 : decode cX3_iterate 17 = .ok (.getfield 28, 3) := by decide +kernel
theorem dX3_iterate_20 : decode cX3_iterate 20 = .ok (.iload_n 1, 1) := by decide +kernel
theorem dX3_iterate_21 : decode cX3_iterate 21 = .ok (.baload, 1) := by decide +kernel
theorem dX3_iterate_22 : decode cX3_iterate 22 = .ok (.ifCond .ne 7, 3) := by decide +kernel
theorem dX3_iterate_25 : decode cX3_iterate 25 = .ok (.iconst 1, 1) := by decide +kernel
theorem dX3_iterate_26 : decode cX3_iterate 26 = .ok (.goto 4, 3) := by decide +kernel
theorem dX3_iterate_29 : decode cX3_iterate 29 = .ok (.iconst 0, 1) := by decide +kernel
theorem dX3_iterate_30 : decode cX3_iterate 30 = .ok (.invokevirtual 63, 3) := by decide +kernel
theorem dX3_iterate_33 : decode cX3_iterate 33 = .ok (.ifCond .ne 5, 3) := by decide +kernel
theorem dX3_iterate_36 : decode cX3_iterate 36 = .ok (.iconst 0, 1) := by decide +kernel
theorem dX3_iterate_37 : decode cX3_iterate 37 = .ok (.ireturn, 1) := by decide +kernel
theorem dX3_iterate_38 : decode cX3_iterate 38 = .ok (.aload_n 0, 1) := by decide +kernel
theorem dX3_iterate_39 : decode cX3_iterate 39 = .ok (.getfield 34, 3) := by decide +kernel
theorem dX3_iterate_42 : decode cX3_iterate 42 = .ok (.iload_n 1, 1) := by decide +kernel
theorem dX3_iterate_43 : decode cX3_iterate 43 = .ok (.aaload, 1) := by decide +kernel
theorem dX3_iterate_44 : decode cX3_iterate 44 = .ok (.iload_n 2, 1) := by decide +kernel
theorem dX3_iterate_45 : decode cX3_iterate 45 = .ok (.bipush 116, 2) := by decide +kernel
theorem dX3_iterate_47 : decode cX3_iterate 47 = .ok (.castore, 1) := by decide +kernel
theorem dX3_iterate_48 : decode cX3_iterate 48 = .ok (.aload_n 0, 1) := by decide +kernel
theorem dX3_iterate_49 : decode cX3_iterate 49 = .ok (.getfield 37, 3) := by decide +kernel
theorem dX3_iterate_52 : decode cX3_iterate 52 = .ok (.iload_n 1, 1) := by decide +kernel
theorem dX3_iterate_53 : decode cX3_iterate 53 = .ok (.aaload, 1) := by decide +kernel
theorem dX3_iterate_54 : decode cX3_iterate 54 = .ok (.iload_n 2, 1) := by decide +kernel
theorem dX3_iterate_55 : decode cX3_iterate 55 = .ok (.iaload, 1) := by decide +kernel
theorem dX3_iterate_56 : decode cX3_iterate 56 = .ok (.ireturn, 1) := by decide +kernel
theorem dX3_hasNext_0 : decode cX3_hasNext 0 = .ok (.aload_n 0, 1) := by decide +kernel
theorem dX3_hasNext_1 : decode cX3_hasNext 1 = .ok (.iload_n 1, 1) := by decide +kernel
theorem dX3_hasNext_2 : decode cX3_hasNext 2 = .ok (.iload_n 2, 1) := by decide +kernel
theorem dX3_hasNext_3 : decode cX3_hasNext 3 = .ok (.bipush 116, 2) := by decide +kernel
theorem dX3_hasNext_5 : decode cX3_hasNext 5 = .ok (.bipush 116, 2) := by decide +kernel
theorem dX3_hasNext_7 : decode cX3_hasNext 7 = .ok (.invokevirtual 78, 3) := by decide +kernel
theorem dX3_hasNext_10 : decode cX3_hasNext 10 = .ok (.ifCond .eq 18, 3) := by decide +kernel
theorem dX3_hasNext_13 : decode cX3_hasNext 13 = .ok (.aload_n 0, 1) := by decide +kernel
theorem dX3_hasNext_14 : decode cX3_hasNext 14 = .ok (.getfield 37, 3) := by decide +kernel
theorem dX3_hasNext_17 : decode cX3_hasNext 17 = .ok (.iload_n 1, 1) := by decide +kernel
theorem dX3_hasNext_18 : decode cX3_hasNext 18 = .ok (.aaload, 1) := by decide +kernel
theorem dX3_hasNext_19 : decode cX3_hasNext 19 = .ok (.iload_n 2, 1) := by decide +kernel
theorem dX3_hasNext_20 : decode cX3_hasNext 20 = .ok (.iaload, 1) := by decide +kernel
theorem dX3_hasNext_21 : decode cX3_hasNext 21 = .ok (.ifCond .le 7, 3) := by decide +kernel
theorem dX3_hasNext_24 : decode cX3_hasNext 24 = .ok (.iconst 1, 1) := by decide +kernel
theorem dX3_hasNext_25 : decode cX3_hasNext 25 = .ok (.goto 4, 3) := by decide +kernel
theorem dX3_hasNext_28 : decode cX3_hasNext 28 = .ok (.iconst 0, 1) := by decide +kernel
theorem dX3_hasNext_29 : decode cX3_hasNext 29 = .ok (.ireturn, 1) := by decide +kernel
theorem dX3_isMost_0 : decode cX3_isMost 0 = .ok (.iload_n 0, 1) := by decide +kernel
theorem dX3_isMost_1 : decode cX3_isMost 1 = .ok (.iconst 1, 1) := by decide +kernel
theorem dX3_isMost_2 : decode cX3_isMost 2 = .ok (.if_icmp .lt 13, 3) := by decide +kernel
theorem dX3_isMost_5 : decode cX3_isMost 5 = .ok (.iload_n 0, 1) := by decide +kernel
theorem dX3_isMost_6 : decode cX3_isMost 6 = .ok (.bipush 48, 2) := by decide +kernel
theorem dX3_isMost_8 : decode cX3_isMost 8 = .ok (.if_icmp .gt 7, 3) := by decide +kernel
theorem dX3_isMost_11 : decode cX3_isMost 11 = .ok (.iconst 1, 1) := by decide +kernel
theorem dX3_isMost_12 : decode cX3_isMost 12 = .ok (.goto 4, 3) := by decide +kernel
theorem dX3_isMost_15 : decode cX3_isMost 15 = .ok (.iconst 0, 1) := by decide +kernel
theorem dX3_isMost_16 : decode cX3_isMost 16 = .ok (.ireturn, 1) := by decide +kernel
theorem dX3_crumble_0 : decode cX3_crumble 0 = .ok (.aload_n 0, 1) := by decide +kernel
theorem dX3_crumble_1 : decode cX3_crumble 1 = .ok (.iload_n 1, 1) := by decide +kernel
theorem dX3_crumble_2 : decode cX3_crumble 2 = .ok (.invokestatic 67, 3) := by decide +kernel
theorem dX3_crumble_5 : decode cX3_crumble 5 = .ok (.iload_n 2, 1) := by decide +kernel
theorem dX3_crumble_6 : decode cX3_crumble 6 = .ok (.invokestatic 93, 3) := by decide +kernel
theorem dX3_crumble_9 : decode cX3_crumble 9 = .ok (.iconst 1, 1) := by decide +kernel
theorem dX3_crumble_10 : decode cX3_crumble 10 = .ok (.invokevirtual 63, 3) := by decide +kernel
theorem dX3_crumble_13 : decode cX3_crumble 13 = .ok (.ifCond .ne 5, 3) := by decide +kernel
theorem dX3_crumble_16 : decode cX3_crumble 16 = .ok (.iconst 0, 1) := by decide +kernel
theorem dX3_crumble_17 : decode cX3_crumble 17 = .ok (.ireturn, 1) := by decide +kernel
theorem dX3_crumble_18 : decode cX3_crumble 18 = .ok (.iconst 0, 1) := by decide +kernel
theorem dX3_crumble_19 : decode cX3_crumble 19 = .ok (.istore_n 3, 1) := by decide +kernel
theorem dX3_crumble_20 : decode cX3_crumble 20 = .ok (.iconst 0, 1) := by decide +kernel
theorem dX3_crumble_21 : decode cX3_crumble 21 = .ok (.istore 4, 2) := by decide +kernel
theorem dX3_crumble_23 : decode cX3_crumble 23 = .ok (.iload 4, 2) := by decide +kernel
theorem dX3_crumble_25 : decode cX3_crumble 25 = .ok (.aload_n 0, 1) := by decide +kernel
theorem dX3_crumble_26 : decode cX3_crumble 26 = .ok (.getfield 40, 3) := by decide +kernel
theorem dX3_crumble_29 : decode cX3_crumble 29 = .ok (.iload_n 1, 1) := by decide +kernel
theorem dX3_crumble_30 : decode cX3_crumble 30 = .ok (.iaload, 1) := by decide +kernel
theorem dX3_crumble_31 : decode cX3_crumble 31 = .ok (.if_icmp .ge 50, 3) := by decide +kernel
theorem dX3_crumble_34 : decode cX3_crumble 34 = .ok (.aload_n 0, 1) := by decide +kernel
theorem dX3_crumble_35 : decode cX3_crumble 35 = .ok (.getfield 34, 3) := by decide +kernel
theorem dX3_crumble_38 : decode cX3_crumble 38 = .ok (.iload_n 1, 1) := by decide +kernel
theorem dX3_crumble_39 : decode cX3_crumble 39 = .ok (.aaload, 1) := by decide +kernel
theorem dX3_crumble_40 : decode cX3_crumble 40 = .ok (.iload 4, 2) := by decide +kernel
theorem dX3_crumble_42 : decode cX3_crumble 42 = .ok (.caload, 1) := by decide +kernel
theorem dX3_crumble_43 : decode cX3_crumble 43 = .ok (.bipush 112, 2) := by decide +kernel
theorem dX3_crumble_45 : decode cX3_crumble 45 = .ok (.if_icmp .ne 30, 3) := by decide +kernel
theorem dX3_crumble_48 : decode cX3_crumble 48 = .ok (.aload_n 0, 1) := by decide +kernel
theorem dX3_crumble_49 : decode cX3_crumble 49 = .ok (.getfield 37, 3) := by decide +kernel
theorem dX3_crumble_52 : decode cX3_crumble 52 = .ok (.iload_n 1, 1) := by decide +kernel
theorem dX3_crumble_53 : decode cX3_crumble 53 = .ok (.aaload, 1) := by decide +kernel
theorem dX3_crumble_54 : decode cX3_crumble 54 = .ok (.iload 4, 2) := by decide +kernel
theorem dX3_crumble_56 : decode cX3_crumble 56 = .ok (.iaload, 1) := by decide +kernel
theorem dX3_crumble_57 : decode cX3_crumble 57 = .ok (.iload_n 2, 1) := by decide +kernel
theorem dX3_crumble_58 : decode cX3_crumble 58 = .ok (.if_icmp .le 17, 3) := by decide +kernel
theorem dX3_crumble_61 : decode cX3_crumble 61 = .ok (.aload_n 0, 1) := by decide +kernel
theorem dX3_crumble_62 : decode cX3_crumble 62 = .ok (.iload_n 1, 1) := by decide +kernel
theorem dX3_crumble_63 : decode cX3_crumble 63 = .ok (.iload 4, 2) := by decide +kernel
theorem dX3_crumble_65 : decode cX3_crumble 65 = .ok (.invokevirtual 90, 3) := by decide +kernel
theorem dX3_crumble_68 : decode cX3_crumble 68 = .ok (.pop, 1) := by decide +kernel
theorem dX3_crumble_69 : decode cX3_crumble 69 = .ok (.iinc 3 1, 3) := by decide +kernel
theorem dX3_crumble_72 : decode cX3_crumble 72 = .ok (.goto (-49), 3) := by decide +kernel
theorem dX3_crumble_75 : decode cX3_crumble 75 = .ok (.iinc 4 1, 3) := by decide +kernel
theorem dX3_crumble_78 : decode cX3_crumble 78 = .ok (.goto (-55), 3) := by decide +kernel
theorem dX3_crumble_81 : decode cX3_crumble 81 = .ok (.iload_n 3, 1) := by decide +kernel
theorem dX3_crumble_82 : decode cX3_crumble 82 = .ok (.ireturn, 1) := by decide +kernel
theorem dX3_sweep_0 : decode cX3_sweep 0 = .ok (.aload_n 0, 1) := by decide +kernel
theorem dX3_sweep_1 : decode cX3_sweep 1 = .ok (.iload_n 1, 1) := by decide +kernel
theorem dX3_sweep_2 : decode cX3_sweep 2 = .ok (.invokestatic 67, 3) := by decide +kernel
theorem dX3_sweep_5 : decode cX3_sweep 5 = .ok (.iconst 1, 1) := by decide +kernel
theorem dX3_sweep_6 : decode cX3_sweep 6 = .ok (.iconst 1, 1) := by decide +kernel
theorem dX3_sweep_7 : decode cX3_sweep 7 = .ok (.invokevirtual 63, 3) := by decide +kernel
theorem dX3_sweep_10 : decode cX3_sweep 10 = .ok (.ifCond .ne 5, 3) := by decide +kernel
theorem dX3_sweep_13 : decode cX3_sweep 13 = .ok (.iconst 0, 1) := by decide +kernel
theorem dX3_sweep_14 : decode cX3_sweep 14 = .ok (.ireturn, 1) := by decide +kernel
theorem dX3_sweep_15 : decode cX3_sweep 15 = .ok (.iconst 0, 1) := by decide +kernel
theorem dX3_sweep_16 : decode cX3_sweep 16 = .ok (.istore_n 2, 1) := by decide +kernel
theorem dX3_sweep_17 : decode cX3_sweep 17 = .ok (.iconst 0, 1) := by decide +kernel
theorem dX3_sweep_18 : decode cX3_sweep 18 = .ok (.istore_n 3, 1) := by decide +kernel
theorem dX3_sweep_19 : decode cX3_sweep 19 = .ok (.iload_n 3, 1) := by decide +kernel
theorem dX3_sweep_20 : decode cX3_sweep 20 = .ok (.aload_n 0, 1) := by decide +kernel
theorem dX3_sweep_21 : decode cX3_sweep 21 = .ok (.getfield 40, 3) := by decide +kernel
theorem dX3_sweep_24 : decode cX3_sweep 24 = .ok (.iload_n 1, 1) := by decide +kernel
theorem dX3_sweep_25 : decode cX3_sweep 25 = .ok (.iaload, 1) := by decide +kernel
theorem dX3_sweep_26 : decode cX3_sweep 26 = .ok (.if_icmp .ge 55, 3) := by decide +kernel
theorem dX3_sweep_29 : decode cX3_sweep 29 = .ok (.aload_n 0, 1) := by decide +kernel
theorem dX3_sweep_30 : decode cX3_sweep 30 = .ok (.getfield 37, 3) := by decide +kernel
theorem dX3_sweep_33 : decode cX3_sweep 33 = .ok (.iload_n 1, 1) := by decide +kernel
theorem dX3_sweep_34 : decode cX3_sweep 34 = .ok (.aaload, 1) := by decide +kernel
theorem dX3_sweep_35 : decode cX3_sweep 35 = .ok (.iload_n 3, 1) := by decide +kernel
theorem dX3_sweep_36 : decode cX3_sweep 36 = .ok (.iaload, 1) := by decide +kernel
theorem dX3_sweep_37 : decode cX3_sweep 37 = .ok (.ifCond .le 38, 3) := by decide +kernel
theorem dX3_sweep_40 : decode cX3_sweep 40 = .ok (.aload_n 0, 1) := by decide +kernel
theorem dX3_sweep_41 : decode cX3_sweep 41 = .ok (.getfield 34, 3) := by decide +kernel
theorem dX3_sweep_44 : decode cX3_sweep 44 = .ok (.iload_n 1, 1) := by decide +kernel
theorem dX3_sweep_45 : decode cX3_sweep 45 = .ok (.aaload, 1) := by decide +kernel
theorem dX3_sweep_46 : decode cX3_sweep 46 = .ok (.iload_n 2, 1) := by decide +kernel
theorem dX3_sweep_47 : decode cX3_sweep 47 = .ok (.aload_n 0, 1) := by decide +kernel
theorem dX3_sweep_48 : decode cX3_sweep 48 = .ok (.getfield 34, 3) := by decide +kernel
theorem dX3_sweep_51 : decode cX3_sweep 51 = .ok (.iload_n 1, 1) := by decide +kernel
theorem dX3_sweep_52 : decode cX3_sweep 52 = .ok (.aaload, 1) := by decide +kernel
theorem dX3_sweep_53 : decode cX3_sweep 53 = .ok (.iload_n 3, 1) := by decide +kernel
theorem dX3_sweep_54 : decode cX3_sweep 54 = .ok (.caload, 1) := by decide +kernel
theorem dX3_sweep_55 : decode cX3_sweep 55 = .ok (.castore, 1) := by decide +kernel
theorem dX3_sweep_56 : decode cX3_sweep 56 = .ok (.aload_n 0, 1) := by decide +kernel
theorem dX3_sweep_57 : decode cX3_sweep 57 = .ok (.getfield 37, 3) := by decide +kernel
theorem dX3_sweep_60 : decode cX3_sweep 60 = .ok (.iload_n 1, 1) := by decide +kernel
theorem dX3_sweep_61 : decode cX3_sweep 61 = .ok (.aaload, 1) := by decide +kernel
theorem dX3_sweep_62 : decode cX3_sweep 62 = .ok (.iload_n 2, 1) := by decide +kernel
theorem dX3_sweep_63 : decode cX3_sweep 63 = .ok (.aload_n 0, 1) := by decide +kernel
theorem dX3_sweep_64 : decode cX3_sweep 64 = .ok (.getfield 37, 3) := by decide +kernel
theorem dX3_sweep_67 : decode cX3_sweep 67 = .ok (.iload_n 1, 1) := by decide +kernel
theorem dX3_sweep_68 : decode cX3_sweep 68 = .ok (.aaload, 1) := by decide +kernel
theorem dX3_sweep_69 : decode cX3_sweep 69 = .ok (.iload_n 3, 1) := by decide +kernel
theorem dX3_sweep_70 : decode cX3_sweep 70 = .ok (.iaload, 1) := by decide +kernel
theorem dX3_sweep_71 : decode cX3_sweep 71 = .ok (.iastore, 1) := by decide +kernel
theorem dX3_sweep_72 : decode cX3_sweep 72 = .ok (.iinc 2 1, 3) := by decide +kernel
theorem dX3_sweep_75 : decode cX3_sweep 75 = .ok (.iinc 3 1, 3) := by decide +kernel
theorem dX3_sweep_78 : decode cX3_sweep 78 = .ok (.goto (-59), 3) := by decide +kernel
theorem dX3_sweep_81 : decode cX3_sweep 81 = .ok (.aload_n 0, 1) := by decide +kernel
theorem dX3_sweep_82 : decode cX3_sweep 82 = .ok (.getfield 40, 3) := by decide +kernel
theorem dX3_sweep_85 : decode cX3_sweep 85 = .ok (.iload_n 1, 1) := by decide +kernel
theorem dX3_sweep_86 : decode cX3_sweep 86 = .ok (.iaload, 1) := by decide +kernel
theorem dX3_sweep_87 : decode cX3_sweep 87 = .ok (.iload_n 2, 1) := by decide +kernel
theorem dX3_sweep_88 : decode cX3_sweep 88 = .ok (.isub, 1) := by decide +kernel
theorem dX3_sweep_89 : decode cX3_sweep 89 = .ok (.istore_n 3, 1) := by decide +kernel
theorem dX3_sweep_90 : decode cX3_sweep 90 = .ok (.aload_n 0, 1) := by decide +kernel
theorem dX3_sweep_91 : decode cX3_sweep 91 = .ok (.getfield 40, 3) := by decide +kernel
theorem dX3_sweep_94 : decode cX3_sweep 94 = .ok (.iload_n 1, 1) := by decide +kernel
theorem dX3_sweep_95 : decode cX3_sweep 95 = .ok (.iload_n 2, 1) := by decide +kernel
theorem dX3_sweep_96 : decode cX3_sweep 96 = .ok (.iastore, 1) := by decide +kernel
theorem dX3_sweep_97 : decode cX3_sweep 97 = .ok (.iload_n 3, 1) := by decide +kernel
theorem dX3_sweep_98 : decode cX3_sweep 98 = .ok (.ireturn, 1) := by decide +kernel
theorem dX3_count_0 : decode cX3_count 0 = .ok (.iconst 0, 1) := by decide +kernel
theorem dX3_count_1 : decode cX3_count 1 = .ok (.istore_n 3, 1) := by decide +kernel
theorem dX3_count_2 : decode cX3_count 2 = .ok (.iconst 0, 1) := by decide +kernel
theorem dX3_count_3 : decode cX3_count 3 = .ok (.istore 4, 2) := by decide +kernel
theorem dX3_count_5 : decode cX3_count 5 = .ok (.iload 4, 2) := by decide +kernel
theorem dX3_count_7 : decode cX3_count 7 = .ok (.aload_n 0, 1) := by decide +kernel
theorem dX3_count_8 : decode cX3_count 8 = .ok (.getfield 40, 3) := by decide +kernel
theorem dX3_count_11 : decode cX3_count 11 = .ok (.iload_n 1, 1) := by decide +kernel
theorem dX3_count_12 : decode cX3_count 12 = .ok (.iaload, 1) := by decide +kernel
theorem dX3_count_13 : decode cX3_count 13 = .ok (.if_icmp .ge 30, 3) := by decide +kernel
theorem dX3_count_16 : decode cX3_count 16 = .ok (.iload_n 3, 1) := by decide +kernel
theorem dX3_count_17 : decode cX3_count 17 = .ok (.aload_n 0, 1) := by decide +kernel
theorem dX3_count_18 : decode cX3_count 18 = .ok (.getfield 34, 3) := by decide +kernel
theorem dX3_count_21 : decode cX3_count 21 = .ok (.iload_n 1, 1) := by decide +kernel
theorem dX3_count_22 : decode cX3_count 22 = .ok (.aaload, 1) := by decide +kernel
theorem dX3_count_23 : decode cX3_count 23 = .ok (.iload 4, 2) := by decide +kernel
theorem dX3_count_25 : decode cX3_count 25 = .ok (.caload, 1) := by decide +kernel
theorem dX3_count_26 : decode cX3_count 26 = .ok (.iload_n 2, 1) := by decide +kernel
theorem dX3_count_27 : decode cX3_count 27 = .ok (.if_icmp .ne 7, 3) := by decide +kernel
theorem dX3_count_30 : decode cX3_count 30 = .ok (.iconst 1, 1) := by decide +kernel
theorem dX3_count_31 : decode cX3_count 31 = .ok (.goto 4, 3) := by decide +kernel
theorem dX3_count_34 : decode cX3_count 34 = .ok (.iconst 0, 1) := by decide +kernel
theorem dX3_count_35 : decode cX3_count 35 = .ok (.iadd, 1) := by decide +kernel
theorem dX3_count_36 : decode cX3_count 36 = .ok (.istore_n 3, 1) := by decide +kernel
theorem dX3_count_37 : decode cX3_count 37 = .ok (.iinc 4 1, 3) := by decide +kernel
theorem dX3_count_40 : decode cX3_count 40 = .ok (.goto (-35), 3) := by decide +kernel
theorem dX3_count_43 : decode cX3_count 43 = .ok (.iload_n 3, 1) := by decide +kernel
theorem dX3_count_44 : decode cX3_count 44 = .ok (.ireturn, 1) := by decide +kernel
theorem dX3_isRead_0 : decode cX3_isRead 0 = .ok (.aload_n 0, 1) := by decide +kernel
theorem dX3_isRead_1 : decode cX3_isRead 1 = .ok (.iload_n 1, 1) := by decide +kernel
theorem dX3_isRead_2 : decode cX3_isRead 2 = .ok (.invokestatic 67, 3) := by decide +kernel
theorem dX3_isRead_5 : decode cX3_isRead 5 = .ok (.iconst 1, 1) := by decide +kernel
theorem dX3_isRead_6 : decode cX3_isRead 6 = .ok (.iconst 1, 1) := by decide +kernel
theorem dX3_isRead_7 : decode cX3_isRead 7 = .ok (.invokevirtual 63, 3) := by decide +kernel
theorem dX3_isRead_10 : decode cX3_isRead 10 = .ok (.ifCond .eq 23, 3) := by decide +kernel
theorem dX3_isRead_13 : decode cX3_isRead 13 = .ok (.aload_n 0, 1) := by decide +kernel
theorem dX3_isRead_14 : decode cX3_isRead 14 = .ok (.iload_n 1, 1) := by decide +kernel
theorem dX3_isRead_15 : decode cX3_isRead 15 = .ok (.bipush 110, 2) := by decide +kernel
theorem dX3_isRead_17 : decode cX3_isRead 17 = .ok (.invokevirtual 96, 3) := by decide +kernel
theorem dX3_isRead_20 : decode cX3_isRead 20 = .ok (.aload_n 0, 1) := by decide +kernel
theorem dX3_isRead_21 : decode cX3_isRead 21 = .ok (.getfield 40, 3) := by decide +kernel
theorem dX3_isRead_24 : decode cX3_isRead 24 = .ok (.iload_n 1, 1) := by decide +kernel
theorem dX3_isRead_25 : decode cX3_isRead 25 = .ok (.iaload, 1) := by decide +kernel
theorem dX3_isRead_26 : decode cX3_isRead 26 = .ok (.if_icmp .ne 7, 3) := by decide +kernel
theorem dX3_isRead_29 : decode cX3_isRead 29 = .ok (.iconst 1, 1) := by decide +kernel
theorem dX3_isRead_30 : decode cX3_isRead 30 = .ok (.goto 4, 3) := by decide +kernel
theorem dX3_isRead_33 : decode cX3_isRead 33 = .ok (.iconst 0, 1) := by decide +kernel
theorem dX3_isRead_34 : decode cX3_isRead 34 = .ok (.ireturn, 1) := by decide +kernel
theorem dX3_fold_0 : decode cX3_fold 0 = .ok (.iload_n 1, 1) := by decide +kernel
theorem dX3_fold_1 : decode cX3_fold 1 = .ok (.invokestatic 51, 3) := by decide +kernel
theorem dX3_fold_4 : decode cX3_fold 4 = .ok (.istore 5, 2) := by decide +kernel
theorem dX3_fold_6 : decode cX3_fold 6 = .ok (.aload_n 0, 1) := by decide +kernel
theorem dX3_fold_7 : decode cX3_fold 7 = .ok (.iload 5, 2) := by decide +kernel
theorem dX3_fold_9 : decode cX3_fold 9 = .ok (.ifCond .lt 42, 3) := by decide +kernel
theorem dX3_fold_12 : decode cX3_fold 12 = .ok (.iload_n 3, 1) := by decide +kernel
theorem dX3_fold_13 : decode cX3_fold 13 = .ok (.invokestatic 93, 3) := by decide +kernel
theorem dX3_fold_16 : decode cX3_fold 16 = .ok (.ifCond .eq 35, 3) := by decide +kernel
theorem dX3_fold_19 : decode cX3_fold 19 = .ok (.iload 4, 2) := by decide +kernel
theorem dX3_fold_21 : decode cX3_fold 21 = .ok (.bipush 115, 2) := by decide +kernel
theorem dX3_fold_23 : decode cX3_fold 23 = .ok (.if_icmp .eq 24, 3) := by decide +kernel
theorem dX3_fold_26 : decode cX3_fold 26 = .ok (.iload 4, 2) := by decide +kernel
theorem dX3_fold_28 : decode cX3_fold 28 = .ok (.bipush 120, 2) := by decide +kernel
theorem dX3_fold_30 : decode cX3_fold 30 = .ok (.if_icmp .eq 17, 3) := by decide +kernel
theorem dX3_fold_33 : decode cX3_fold 33 = .ok (.iload 4, 2) := by decide +kernel
theorem dX3_fold_35 : decode cX3_fold 35 = .ok (.bipush 104, 2) := by decide +kernel
theorem dX3_fold_37 : decode cX3_fold 37 = .ok (.if_icmp .eq 10, 3) := by decide +kernel
theorem dX3_fold_40 : decode cX3_fold 40 = .ok (.iload 4, 2) := by decide +kernel
theorem dX3_fold_42 : decode cX3_fold 42 = .ok (.bipush 102, 2) := by decide +kernel
theorem dX3_fold_44 : decode cX3_fold 44 = .ok (.if_icmp .ne 7, 3) := by decide +kernel
theorem dX3_fold_47 : decode cX3_fold 47 = .ok (.iconst 1, 1) := by decide +kernel
theorem dX3_fold_48 : decode cX3_fold 48 = .ok (.goto 4, 3) := by decide +kernel
theorem dX3_fold_51 : decode cX3_fold 51 = .ok (.iconst 0, 1) := by decide +kernel
theorem dX3_fold_52 : decode cX3_fold 52 = .ok (.iload_n 2, 1) := by decide +kernel
theorem dX3_fold_53 : decode cX3_fold 53 = .ok (.invokestatic 59, 3) := by decide +kernel
theorem dX3_fold_56 : decode cX3_fold 56 = .ok (.iconst 1, 1) := by decide +kernel
theorem dX3_fold_57 : decode cX3_fold 57 = .ok (.invokevirtual 63, 3) := by decide +kernel
theorem dX3_fold_60 : decode cX3_fold 60 = .ok (.ifCond .ne 5, 3) := by decide +kernel
theorem dX3_fold_63 : decode cX3_fold 63 = .ok (.lconst 0, 1) := by decide +kernel
theorem dX3_fold_64 : decode cX3_fold 64 = .ok (.lreturn, 1) := by decide +kernel
theorem dX3_fold_65 : decode cX3_fold 65 = .ok (.iload 4, 2) := by decide +kernel
theorem dX3_fold_67 : decode cX3_fold 67 = .ok (.bipush 102, 2) := by decide +kernel
theorem dX3_fold_69 : decode cX3_fold 69 = .ok (.if_icmp .ne 9, 3) := by decide +kernel
theorem dX3_fold_72 : decode cX3_fold 72 = .ok (.ldc2_w 100, 3) := by decide +kernel
theorem dX3_fold_75 : decode cX3_fold 75 = .ok (.goto 4, 3) := by decide +kernel
theorem dX3_fold_78 : decode cX3_fold 78 = .ok (.lconst 0, 1) := by decide +kernel
theorem dX3_fold_79 : decode cX3_fold 79 = .ok (.lstore 6, 2) := by decide +kernel
theorem dX3_fold_81 : decode cX3_fold 81 = .ok (.iconst 0, 1) := by decide +kernel
theorem dX3_fold_82 : decode cX3_fold 82 = .ok (.istore 8, 2) := by decide +kernel
theorem dX3_fold_84 : decode cX3_fold 84 = .ok (.iload 8, 2) := by decide +kernel
theorem dX3_fold_86 : decode cX3_fold 86 = .ok (.aload_n 0, 1) := by decide +kernel
theorem dX3_fold_87 : decode cX3_fold 87 = .ok (.getfield 16, 3) := by decide +kernel
theorem dX3_fold_90 : decode cX3_fold 90 = .ok (.iload 5, 2) := by decide +kernel
theorem dX3_fold_92 : decode cX3_fold 92 = .ok (.aaload, 1) := by decide +kernel
theorem dX3_fold_93 : decode cX3_fold 93 = .ok (.iload_n 2, 1) := by decide +kernel
theorem dX3_fold_94 : decode cX3_fold 94 = .ok (.iaload, 1) := by decide +kernel
theorem dX3_fold_95 : decode cX3_fold 95 = .ok (.if_icmp .ge 109, 3) := by decide +kernel
theorem dX3_fold_98 : decode cX3_fold 98 = .ok (.aload_n 0, 1) := by decide +kernel
theorem dX3_fold_99 : decode cX3_fold 99 = .ok (.getfield 11, 3) := by decide +kernel
theorem dX3_fold_102 : decode cX3_fold 102 = .ok (.iload 5, 2) := by decide +kernel
theorem dX3_fold_104 : decode cX3_fold 104 = .ok (.aaload, 1) := by decide +kernel
theorem dX3_fold_105 : decode cX3_fold 105 = .ok (.iload_n 2, 1) := by decide +kernel
theorem dX3_fold_106 : decode cX3_fold 106 = .ok (.aaload, 1) := by decide +kernel
theorem dX3_fold_107 : decode cX3_fold 107 = .ok (.iload 8, 2) := by decide +kernel
theorem dX3_fold_109 : decode cX3_fold 109 = .ok (.laload, 1) := by decide +kernel
theorem dX3_fold_110 : decode cX3_fold 110 = .ok (.lstore 9, 2) := by decide +kernel
theorem dX3_fold_112 : decode cX3_fold 112 = .ok (.iload 4, 2) := by decide +kernel
theorem dX3_fold_114 : decode cX3_fold 114 = .ok (.bipush 115, 2) := by decide +kernel
theorem dX3_fold_116 : decode cX3_fold 116 = .ok (.if_icmp .ne 13, 3) := by decide +kernel
theorem dX3_fold_119 : decode cX3_fold 119 = .ok (.lload 6, 2) := by decide +kernel
theorem dX3_fold_121 : decode cX3_fold 121 = .ok (.lload 9, 2) := by decide +kernel
theorem dX3_fold_123 : decode cX3_fold 123 = .ok (.ladd, 1) := by decide +kernel
theorem dX3_fold_124 : decode cX3_fold 124 = .ok (.lstore 6, 2) := by decide +kernel
theorem dX3_fold_126 : decode cX3_fold 126 = .ok (.goto 72, 3) := by decide +kernel
theorem dX3_fold_129 : decode cX3_fold 129 = .ok (.iload 4, 2) := by decide +kernel
theorem dX3_fold_131 : decode cX3_fold 131 = .ok (.bipush 120, 2) := by decide +kernel
theorem dX3_fold_133 : decode cX3_fold 133 = .ok (.if_icmp .ne 13, 3) := by decide +kernel
theorem dX3_fold_136 : decode cX3_fold 136 = .ok (.lload 6, 2) := by decide +kernel
theorem dX3_fold_138 : decode cX3_fold 138 = .ok (.lload 9, 2) := by decide +kernel
theorem dX3_fold_140 : decode cX3_fold 140 = .ok (.lxor, 1) := by decide +kernel
theorem dX3_fold_141 : decode cX3_fold 141 = .ok (.lstore 6, 2) := by decide +kernel
theorem dX3_fold_143 : decode cX3_fold 143 = .ok (.goto 55, 3) := by decide +kernel
theorem dX3_fold_146 : decode cX3_fold 146 = .ok (.iload 4, 2) := by decide +kernel
theorem dX3_fold_148 : decode cX3_fold 148 = .ok (.bipush 104, 2) := by decide +kernel
theorem dX3_fold_150 : decode cX3_fold 150 = .ok (.if_icmp .ne 17, 3) := by decide +kernel
theorem dX3_fold_153 : decode cX3_fold 153 = .ok (.ldc2_w 102, 3) := by decide +kernel
theorem dX3_fold_156 : decode cX3_fold 156 = .ok (.lload 6, 2) := by decide +kernel
theorem dX3_fold_158 : decode cX3_fold 158 = .ok (.lmul, 1) := by decide +kernel
theorem dX3_fold_159 : decode cX3_fold 159 = .ok (.lload 9, 2) := by decide +kernel
theorem dX3_fold_161 : decode cX3_fold 161 = .ok (.ladd, 1) := by decide +kernel
theorem dX3_fold_162 : decode cX3_fold 162 = .ok (.lstore 6, 2) := by decide +kernel
theorem dX3_fold_164 : decode cX3_fold 164 = .ok (.goto 34, 3) := by decide +kernel
theorem dX3_fold_167 : decode cX3_fold 167 = .ok (.lload 6, 2) := by decide +kernel
theorem dX3_fold_169 : decode cX3_fold 169 = .ok (.lconst 0, 1) := by decide +kernel
theorem dX3_fold_170 : decode cX3_fold 170 = .ok (.lcmp, 1) := by decide +kernel
theorem dX3_fold_171 : decode cX3_fold 171 = .ok (.ifCond .lt 22, 3) := by decide +kernel
theorem dX3_fold_174 : decode cX3_fold 174 = .ok (.lload 9, 2) := by decide +kernel
theorem dX3_fold_176 : decode cX3_fold 176 = .ok (.aload_n 0, 1) := by decide +kernel
theorem dX3_fold_177 : decode cX3_fold 177 = .ok (.getfield 11, 3) := by decide +kernel
theorem dX3_fold_180 : decode cX3_fold 180 = .ok (.iload 5, 2) := by decide +kernel
theorem dX3_fold_182 : decode cX3_fold 182 = .ok (.aaload, 1) := by decide +kernel
theorem dX3_fold_183 : decode cX3_fold 183 = .ok (.iload_n 2, 1) := by decide +kernel
theorem dX3_fold_184 : decode cX3_fold 184 = .ok (.aaload, 1) := by decide +kernel
theorem dX3_fold_185 : decode cX3_fold 185 = .ok (.lload 6, 2) := by decide +kernel
theorem dX3_fold_187 : decode cX3_fold 187 = .ok (.l2i, 1) := by decide +kernel
theorem dX3_fold_188 : decode cX3_fold 188 = .ok (.laload, 1) := by decide +kernel
theorem dX3_fold_189 : decode cX3_fold 189 = .ok (.lcmp, 1) := by decide +kernel
theorem dX3_fold_190 : decode cX3_fold 190 = .ok (.ifCond .le 8, 3) := by decide +kernel
theorem dX3_fold_193 : decode cX3_fold 193 = .ok (.iload 8, 2) := by decide +kernel
theorem dX3_fold_195 : decode cX3_fold 195 = .ok (.i2l, 1) := by decide +kernel
theorem dX3_fold_196 : decode cX3_fold 196 = .ok (.lstore 6, 2) := by decide +kernel
theorem dX3_fold_198 : decode cX3_fold 198 = .ok (.iinc 8 1, 3) := by decide +kernel
theorem dX3_fold_201 : decode cX3_fold 201 = .ok (.goto (-117), 3) := by decide +kernel
theorem dX3_fold_204 : decode cX3_fold 204 = .ok (.lload 6, 2) := by decide +kernel
theorem dX3_fold_206 : decode cX3_fold 206 = .ok (.lreturn, 1) := by decide +kernel
theorem dX3_pieces_0 : decode cX3_pieces 0 = .ok (.iload_n 1, 1) := by decide +kernel
theorem dX3_pieces_1 : decode cX3_pieces 1 = .ok (.invokestatic 51, 3) := by decide +kernel
theorem dX3_pieces_4 : decode cX3_pieces 4 = .ok (.istore 4, 2) := by decide +kernel
theorem dX3_pieces_6 : decode cX3_pieces 6 = .ok (.aload_n 0, 1) := by decide +kernel
theorem dX3_pieces_7 : decode cX3_pieces 7 = .ok (.iload 4, 2) := by decide +kernel
theorem dX3_pieces_9 : decode cX3_pieces 9 = .ok (.ifCond .lt 14, 3) := by decide +kernel
theorem dX3_pieces_12 : decode cX3_pieces 12 = .ok (.iload_n 3, 1) := by decide +kernel
theorem dX3_pieces_13 : decode cX3_pieces 13 = .ok (.invokestatic 93, 3) := by decide +kernel
theorem dX3_pieces_16 : decode cX3_pieces 16 = .ok (.ifCond .eq 7, 3) := by decide +kernel
theorem dX3_pieces_19 : decode cX3_pieces 19 = .ok (.iconst 1, 1) := by decide +kernel
theorem dX3_pieces_20 : decode cX3_pieces 20 = .ok (.goto 4, 3) := by decide +kernel
theorem dX3_pieces_23 : decode cX3_pieces 23 = .ok (.iconst 0, 1) := by decide +kernel
theorem dX3_pieces_24 : decode cX3_pieces 24 = .ok (.iload_n 2, 1) := by decide +kernel
theorem dX3_pieces_25 : decode cX3_pieces 25 = .ok (.invokestatic 59, 3) := by decide +kernel
theorem dX3_pieces_28 : decode cX3_pieces 28 = .ok (.iconst 1, 1) := by decide +kernel
theorem dX3_pieces_29 : decode cX3_pieces 29 = .ok (.invokevirtual 63, 3) := by decide +kernel
theorem dX3_pieces_32 : decode cX3_pieces 32 = .ok (.ifCond .ne 5, 3) := by decide +kernel
theorem dX3_pieces_35 : decode cX3_pieces 35 = .ok (.iconst 0, 1) := by decide +kernel
theorem dX3_pieces_36 : decode cX3_pieces 36 = .ok (.ireturn, 1) := by decide +kernel
theorem dX3_pieces_37 : decode cX3_pieces 37 = .ok (.bipush 49, 2) := by decide +kernel
theorem dX3_pieces_39 : decode cX3_pieces 39 = .ok (.newarray .int, 2) := by decide +kernel
theorem dX3_pieces_41 : decode cX3_pieces 41 = .ok (.astore 5, 2) := by decide +kernel
theorem dX3_pieces_43 : decode cX3_pieces 43 = .ok (.aload 5, 2) := by decide +kernel
theorem dX3_pieces_45 : decode cX3_pieces 45 = .ok (.aload_n 0, 1) := by decide +kernel
theorem dX3_pieces_46 : decode cX3_pieces 46 = .ok (.getfield 16, 3) := by decide +kernel
theorem dX3_pieces_49 : decode cX3_pieces 49 = .ok (.iload 4, 2) := by decide +kernel
theorem dX3_pieces_51 : decode cX3_pieces 51 = .ok (.aaload, 1) := by decide +kernel
theorem dX3_pieces_52 : decode cX3_pieces 52 = .ok (.iload_n 2, 1) := by decide +kernel
theorem dX3_pieces_53 : decode cX3_pieces 53 = .ok (.iaload, 1) := by decide +kernel
theorem dX3_pieces_54 : decode cX3_pieces 54 = .ok (.iconst 1, 1) := by decide +kernel
theorem dX3_pieces_55 : decode cX3_pieces 55 = .ok (.iastore, 1) := by decide +kernel
theorem dX3_pieces_56 : decode cX3_pieces 56 = .ok (.iconst 0, 1) := by decide +kernel
theorem dX3_pieces_57 : decode cX3_pieces 57 = .ok (.istore 6, 2) := by decide +kernel
theorem dX3_pieces_59 : decode cX3_pieces 59 = .ok (.bipush 48, 2) := by decide +kernel
theorem dX3_pieces_61 : decode cX3_pieces 61 = .ok (.istore 7, 2) := by decide +kernel
theorem dX3_pieces_63 : decode cX3_pieces 63 = .ok (.iload 7, 2) := by decide +kernel
theorem dX3_pieces_65 : decode cX3_pieces 65 = .ok (.ifCond .lt 61, 3) := by decide +kernel
theorem dX3_pieces_68 : decode cX3_pieces 68 = .ok (.iload 7, 2) := by decide +kernel
theorem dX3_pieces_70 : decode cX3_pieces 70 = .ok (.iload_n 3, 1) := by decide +kernel
theorem dX3_pieces_71 : decode cX3_pieces 71 = .ok (.if_icmp .le 39, 3) := by decide +kernel
theorem dX3_pieces_74 : decode cX3_pieces 74 = .ok (.aload 5, 2) := by decide +kernel
theorem dX3_pieces_76 : decode cX3_pieces 76 = .ok (.iload 7, 2) := by decide +kernel
theorem dX3_pieces_78 : decode cX3_pieces 78 = .ok (.iconst 2, 1) := by decide +kernel
theorem dX3_pieces_79 : decode cX3_pieces 79 = .ok (.idiv, 1) := by decide +kernel
theorem dX3_pieces_80 : decode cX3_pieces 80 = .ok (.dup2, 1) := by decide +kernel
theorem dX3_pieces_81 : decode cX3_pieces 81 = .ok (.iaload, 1) := by decide +kernel
theorem dX3_pieces_82 : decode cX3_pieces 82 = .ok (.aload 5, 2) := by decide +kernel
theorem dX3_pieces_84 : decode cX3_pieces 84 = .ok (.iload 7, 2) := by decide +kernel
theorem dX3_pieces_86 : decode cX3_pieces 86 = .ok (.iaload, 1) := by decide +kernel
theorem dX3_pieces_87 : decode cX3_pieces 87 = .ok (.iadd, 1) := by decide +kernel
theorem dX3_pieces_88 : decode cX3_pieces 88 = .ok (.iastore, 1) := by decide +kernel
theorem dX3_pieces_89 : decode cX3_pieces 89 = .ok (.aload 5, 2) := by decide +kernel
theorem dX3_pieces_91 : decode cX3_pieces 91 = .ok (.iload 7, 2) := by decide +kernel
theorem dX3_pieces_93 : decode cX3_pieces 93 = .ok (.iload 7, 2) := by decide +kernel
theorem dX3_pieces_95 : decode cX3_pieces 95 = .ok (.iconst 2, 1) := by decide +kernel
theorem dX3_pieces_96 : decode cX3_pieces 96 = .ok (.idiv, 1) := by decide +kernel
theorem dX3_pieces_97 : decode cX3_pieces 97 = .ok (.isub, 1) := by decide +kernel
theorem dX3_pieces_98 : decode cX3_pieces 98 = .ok (.dup2, 1) := by decide +kernel
theorem dX3_pieces_99 : decode cX3_pieces 99 = .ok (.iaload, 1) := by decide +kernel
theorem dX3_pieces_100 : decode cX3_pieces 100 = .ok (.aload 5, 2) := by decide +kernel
theorem dX3_pieces_102 : decode cX3_pieces 102 = .ok (.iload 7, 2) := by decide +kernel
theorem dX3_pieces_104 : decode cX3_pieces 104 = .ok (.iaload, 1) := by decide +kernel
theorem dX3_pieces_105 : decode cX3_pieces 105 = .ok (.iadd, 1) := by decide +kernel
theorem dX3_pieces_106 : decode cX3_pieces 106 = .ok (.iastore, 1) := by decide +kernel
theorem dX3_pieces_107 : decode cX3_pieces 107 = .ok (.goto 13, 3) := by decide +kernel
theorem dX3_pieces_110 : decode cX3_pieces 110 = .ok (.iload 6, 2) := by decide +kernel
theorem dX3_pieces_112 : decode cX3_pieces 112 = .ok (.aload 5, 2) := by decide +kernel
theorem dX3_pieces_114 : decode cX3_pieces 114 = .ok (.iload 7, 2) := by decide +kernel
theorem dX3_pieces_116 : decode cX3_pieces 116 = .ok (.iaload, 1) := by decide +kernel
theorem dX3_pieces_117 : decode cX3_pieces 117 = .ok (.iadd, 1) := by decide +kernel
theorem dX3_pieces_118 : decode cX3_pieces 118 = .ok (.istore 6, 2) := by decide +kernel
theorem dX3_pieces_120 : decode cX3_pieces 120 = .ok (.iinc 7 (-1), 3) := by decide +kernel
theorem dX3_pieces_123 : decode cX3_pieces 123 = .ok (.goto (-60), 3) := by decide +kernel
theorem dX3_pieces_126 : decode cX3_pieces 126 = .ok (.iload 6, 2) := by decide +kernel
theorem dX3_pieces_128 : decode cX3_pieces 128 = .ok (.ireturn, 1) := by decide +kernel
theorem dX3_share_0 : decode cX3_share 0 = .ok (.aload_n 0, 1) := by decide +kernel
theorem dX3_share_1 : decode cX3_share 1 = .ok (.iload_n 1, 1) := by decide +kernel
theorem dX3_share_2 : decode cX3_share 2 = .ok (.invokestatic 67, 3) := by decide +kernel
theorem dX3_share_5 : decode cX3_share 5 = .ok (.iconst 1, 1) := by decide +kernel
theorem dX3_share_6 : decode cX3_share 6 = .ok (.iconst 1, 1) := by decide +kernel
theorem dX3_share_7 : decode cX3_share 7 = .ok (.invokevirtual 63, 3) := by decide +kernel
theorem dX3_share_10 : decode cX3_share 10 = .ok (.ifCond .eq 26, 3) := by decide +kernel
theorem dX3_share_13 : decode cX3_share 13 = .ok (.aload_n 0, 1) := by decide +kernel
theorem dX3_share_14 : decode cX3_share 14 = .ok (.iconst 1, 1) := by decide +kernel
theorem dX3_share_15 : decode cX3_share 15 = .ok (.aload_n 0, 1) := by decide +kernel
theorem dX3_share_16 : decode cX3_share 16 = .ok (.getfield 24, 3) := by decide +kernel
theorem dX3_share_19 : decode cX3_share 19 = .ok (.iload_n 1, 1) := by decide +kernel
theorem dX3_share_20 : decode cX3_share 20 = .ok (.iaload, 1) := by decide +kernel
theorem dX3_share_21 : decode cX3_share 21 = .ok (.ifCond .le 7, 3) := by decide +kernel
theorem dX3_share_24 : decode cX3_share 24 = .ok (.iconst 1, 1) := by decide +kernel
theorem dX3_share_25 : decode cX3_share 25 = .ok (.goto 4, 3) := by decide +kernel
theorem dX3_share_28 : decode cX3_share 28 = .ok (.iconst 0, 1) := by decide +kernel
theorem dX3_share_29 : decode cX3_share 29 = .ok (.iconst 1, 1) := by decide +kernel
theorem dX3_share_30 : decode cX3_share 30 = .ok (.invokevirtual 63, 3) := by decide +kernel
theorem dX3_share_33 : decode cX3_share 33 = .ok (.ifCond .ne 5, 3) := by decide +kernel
theorem dX3_share_36 : decode cX3_share 36 = .ok (.fconst 0, 1) := by decide +kernel
theorem dX3_share_37 : decode cX3_share 37 = .ok (.freturn, 1) := by decide +kernel
theorem dX3_share_38 : decode cX3_share 38 = .ok (.aload_n 0, 1) := by decide +kernel
theorem dX3_share_39 : decode cX3_share 39 = .ok (.iload_n 1, 1) := by decide +kernel
theorem dX3_share_40 : decode cX3_share 40 = .ok (.bipush 110, 2) := by decide +kernel
theorem dX3_share_42 : decode cX3_share 42 = .ok (.invokevirtual 96, 3) := by decide +kernel
theorem dX3_share_45 : decode cX3_share 45 = .ok (.i2f, 1) := by decide +kernel
theorem dX3_share_46 : decode cX3_share 46 = .ok (.aload_n 0, 1) := by decide +kernel
theorem dX3_share_47 : decode cX3_share 47 = .ok (.getfield 24, 3) := by decide +kernel
theorem dX3_share_50 : decode cX3_share 50 = .ok (.iload_n 1, 1) := by decide +kernel
theorem dX3_share_51 : decode cX3_share 51 = .ok (.iaload, 1) := by decide +kernel
theorem dX3_share_52 : decode cX3_share 52 = .ok (.i2f, 1) := by decide +kernel
theorem dX3_share_53 : decode cX3_share 53 = .ok (.fdiv, 1) := by decide +kernel
theorem dX3_share_54 : decode cX3_share 54 = .ok (.freturn, 1) := by decide +kernel
theorem dX3_meanLeft_0 : decode cX3_meanLeft 0 = .ok (.aload_n 0, 1) := by decide +kernel
theorem dX3_meanLeft_1 : decode cX3_meanLeft 1 = .ok (.iload_n 1, 1) := by decide +kernel
theorem dX3_meanLeft_2 : decode cX3_meanLeft 2 = .ok (.invokestatic 67, 3) := by decide +kernel
theorem dX3_meanLeft_5 : decode cX3_meanLeft 5 = .ok (.iconst 1, 1) := by decide +kernel
theorem dX3_meanLeft_6 : decode cX3_meanLeft 6 = .ok (.iconst 1, 1) := by decide +kernel
theorem dX3_meanLeft_7 : decode cX3_meanLeft 7 = .ok (.invokevirtual 63, 3) := by decide +kernel
theorem dX3_meanLeft_10 : decode cX3_meanLeft 10 = .ok (.ifCond .ne 5, 3) := by decide +kernel
theorem dX3_meanLeft_13 : decode cX3_meanLeft 13 = .ok (.dconst 0, 1) := by decide +kernel
theorem dX3_meanLeft_14 : decode cX3_meanLeft 14 = .ok (.dreturn, 1) := by decide +kernel
theorem dX3_meanLeft_15 : decode cX3_meanLeft 15 = .ok (.aload_n 0, 1) := by decide +kernel
theorem dX3_meanLeft_16 : decode cX3_meanLeft 16 = .ok (.iload_n 1, 1) := by decide +kernel
theorem dX3_meanLeft_17 : decode cX3_meanLeft 17 = .ok (.bipush 110, 2) := by decide +kernel
theorem dX3_meanLeft_19 : decode cX3_meanLeft 19 = .ok (.invokevirtual 96, 3) := by decide +kernel
theorem dX3_meanLeft_22 : decode cX3_meanLeft 22 = .ok (.istore_n 2, 1) := by decide +kernel
theorem dX3_meanLeft_23 : decode cX3_meanLeft 23 = .ok (.aload_n 0, 1) := by decide +kernel
theorem dX3_meanLeft_24 : decode cX3_meanLeft 24 = .ok (.iconst 1, 1) := by decide +kernel
theorem dX3_meanLeft_25 : decode cX3_meanLeft 25 = .ok (.iload_n 2, 1) := by decide +kernel
theorem dX3_meanLeft_26 : decode cX3_meanLeft 26 = .ok (.aload_n 0, 1) := by decide +kernel
theorem dX3_meanLeft_27 : decode cX3_meanLeft 27 = .ok (.getfield 40, 3) := by decide +kernel
theorem dX3_meanLeft_30 : decode cX3_meanLeft 30 = .ok (.iload_n 1, 1) := by decide +kernel
theorem dX3_meanLeft_31 : decode cX3_meanLeft 31 = .ok (.iaload, 1) := by decide +kernel
theorem dX3_meanLeft_32 : decode cX3_meanLeft 32 = .ok (.if_icmp .ge 7, 3) := by decide +kernel
theorem dX3_meanLeft_35 : decode cX3_meanLeft 35 = .ok (.iconst 1, 1) := by decide +kernel
theorem dX3_meanLeft_36 : decode cX3_meanLeft 36 = .ok (.goto 4, 3) := by decide +kernel
theorem dX3_meanLeft_39 : decode cX3_meanLeft 39 = .ok (.iconst 0, 1) := by decide +kernel
theorem dX3_meanLeft_40 : decode cX3_meanLeft 40 = .ok (.iconst 1, 1) := by decide +kernel
theorem dX3_meanLeft_41 : decode cX3_meanLeft 41 = .ok (.invokevirtual 63, 3) := by decide +kernel
theorem dX3_meanLeft_44 : decode cX3_meanLeft 44 = .ok (.ifCond .ne 5, 3) := by decide +kernel
theorem dX3_meanLeft_47 : decode cX3_meanLeft 47 = .ok (.dconst 0, 1) := by decide +kernel
theorem dX3_meanLeft_48 : decode cX3_meanLeft 48 = .ok (.dreturn, 1) := by decide +kernel
theorem dX3_meanLeft_49 : decode cX3_meanLeft 49 = .ok (.aload_n 0, 1) := by decide +kernel
theorem dX3_meanLeft_50 : decode cX3_meanLeft 50 = .ok (.getfield 24, 3) := by decide +kernel
theorem dX3_meanLeft_53 : decode cX3_meanLeft 53 = .ok (.iload_n 1, 1) := by decide +kernel
theorem dX3_meanLeft_54 : decode cX3_meanLeft 54 = .ok (.iaload, 1) := by decide +kernel
theorem dX3_meanLeft_55 : decode cX3_meanLeft 55 = .ok (.iload_n 2, 1) := by decide +kernel
theorem dX3_meanLeft_56 : decode cX3_meanLeft 56 = .ok (.isub, 1) := by decide +kernel
theorem dX3_meanLeft_57 : decode cX3_meanLeft 57 = .ok (.i2d, 1) := by decide +kernel
theorem dX3_meanLeft_58 : decode cX3_meanLeft 58 = .ok (.aload_n 0, 1) := by decide +kernel
theorem dX3_meanLeft_59 : decode cX3_meanLeft 59 = .ok (.getfield 40, 3) := by decide +kernel
theorem dX3_meanLeft_62 : decode cX3_meanLeft 62 = .ok (.iload_n 1, 1) := by decide +kernel
theorem dX3_meanLeft_63 : decode cX3_meanLeft 63 = .ok (.iaload, 1) := by decide +kernel
theorem dX3_meanLeft_64 : decode cX3_meanLeft 64 = .ok (.iload_n 2, 1) := by decide +kernel
theorem dX3_meanLeft_65 : decode cX3_meanLeft 65 = .ok (.isub, 1) := by decide +kernel
theorem dX3_meanLeft_66 : decode cX3_meanLeft 66 = .ok (.i2d, 1) := by decide +kernel
theorem dX3_meanLeft_67 : decode cX3_meanLeft 67 = .ok (.ddiv, 1) := by decide +kernel
theorem dX3_meanLeft_68 : decode cX3_meanLeft 68 = .ok (.dreturn, 1) := by decide +kernel
theorem dX3_checksum_0 : decode cX3_checksum 0 = .ok (.aload_n 0, 1) := by decide +kernel
theorem dX3_checksum_1 : decode cX3_checksum 1 = .ok (.iconst 0, 1) := by decide +kernel
theorem dX3_checksum_2 : decode cX3_checksum 2 = .ok (.putfield 43, 3) := by decide +kernel
theorem dX3_checksum_5 : decode cX3_checksum 5 = .ok (.ldc2_w 104, 3) := by decide +kernel
theorem dX3_checksum_8 : decode cX3_checksum 8 = .ok (.lstore_n 1, 1) := by decide +kernel
theorem dX3_checksum_9 : decode cX3_checksum 9 = .ok (.iconst 0, 1) := by decide +kernel
theorem dX3_checksum_10 : decode cX3_checksum 10 = .ok (.istore_n 3, 1) := by decide +kernel
theorem dX3_checksum_11 : decode cX3_checksum 11 = .ok (.iload_n 3, 1) := by decide +kernel
theorem dX3_checksum_12 : decode cX3_checksum 12 = .ok (.iconst 3, 1) := by decide +kernel
theorem dX3_checksum_13 : decode cX3_checksum 13 = .ok (.if_icmp .ge 83, 3) := by decide +kernel
theorem dX3_checksum_16 : decode cX3_checksum 16 = .ok (.iconst 0, 1) := by decide +kernel
theorem dX3_checksum_17 : decode cX3_checksum 17 = .ok (.istore 4, 2) := by decide +kernel
theorem dX3_checksum_19 : decode cX3_checksum 19 = .ok (.iload 4, 2) := by decide +kernel
theorem dX3_checksum_21 : decode cX3_checksum 21 = .ok (.iconst 4, 1) := by decide +kernel
theorem dX3_checksum_22 : decode cX3_checksum 22 = .ok (.if_icmp .ge 68, 3) := by decide +kernel
theorem dX3_checksum_25 : decode cX3_checksum 25 = .ok (.ldc2_w 102, 3) := by decide +kernel
theorem dX3_checksum_28 : decode cX3_checksum 28 = .ok (.lload_n 1, 1) := by decide +kernel
theorem dX3_checksum_29 : decode cX3_checksum 29 = .ok (.lmul, 1) := by decide +kernel
theorem dX3_checksum_30 : decode cX3_checksum 30 = .ok (.aload_n 0, 1) := by decide +kernel
theorem dX3_checksum_31 : decode cX3_checksum 31 = .ok (.getfield 16, 3) := by decide +kernel
theorem dX3_checksum_34 : decode cX3_checksum 34 = .ok (.iload_n 3, 1) := by decide +kernel
theorem dX3_checksum_35 : decode cX3_checksum 35 = .ok (.aaload, 1) := by decide +kernel
theorem dX3_checksum_36 : decode cX3_checksum 36 = .ok (.iload 4, 2) := by decide +kernel
theorem dX3_checksum_38 : decode cX3_checksum 38 = .ok (.iaload, 1) := by decide +kernel
theorem dX3_checksum_39 : decode cX3_checksum 39 = .ok (.i2l, 1) := by decide +kernel
theorem dX3_checksum_40 : decode cX3_checksum 40 = .ok (.ladd, 1) := by decide +kernel
theorem dX3_checksum_41 : decode cX3_checksum 41 = .ok (.lstore_n 1, 1) := by decide +kernel
theorem dX3_checksum_42 : decode cX3_checksum 42 = .ok (.iconst 0, 1) := by decide +kernel
theorem dX3_checksum_43 : decode cX3_checksum 43 = .ok (.istore 5, 2) := by decide +kernel
theorem dX3_checksum_45 : decode cX3_checksum 45 = .ok (.iload 5, 2) := by decide +kernel
theorem dX3_checksum_47 : decode cX3_checksum 47 = .ok (.aload_n 0, 1) := by decide +kernel
theorem dX3_checksum_48 : decode cX3_checksum 48 = .ok (.getfield 16, 3) := by decide +kernel
theorem dX3_checksum_51 : decode cX3_checksum 51 = .ok (.iload_n 3, 1) := by decide +kernel
theorem dX3_checksum_52 : decode cX3_checksum 52 = .ok (.aaload, 1) := by decide +kernel
theorem dX3_checksum_53 : decode cX3_checksum 53 = .ok (.iload 4, 2) := by decide +kernel
theorem dX3_checksum_55 : decode cX3_checksum 55 = .ok (.iaload, 1) := by decide +kernel
theorem dX3_checksum_56 : decode cX3_checksum 56 = .ok (.if_icmp .ge 28, 3) := by decide +kernel
theorem dX3_checksum_59 : decode cX3_checksum 59 = .ok (.ldc2_w 102, 3) := by decide +kernel
theorem dX3_checksum_62 : decode cX3_checksum 62 = .ok (.lload_n 1, 1) := by decide +kernel
theorem dX3_checksum_63 : decode cX3_checksum 63 = .ok (.lmul, 1) := by decide +kernel
theorem dX3_checksum_64 : decode cX3_checksum 64 = .ok (.aload_n 0, 1) := by decide +kernel
theorem dX3_checksum_65 : decode cX3_checksum 65 = .ok (.getfield 11, 3) := by decide +kernel
theorem dX3_checksum_68 : decode cX3_checksum 68 = .ok (.iload_n 3, 1) := by decide +kernel
theorem dX3_checksum_69 : decode cX3_checksum 69 = .ok (.aaload, 1) := by decide +kernel
theorem dX3_checksum_70 : decode cX3_checksum 70 = .ok (.iload 4, 2) := by decide +kernel
theorem dX3_checksum_72 : decode cX3_checksum 72 = .ok (.aaload, 1) := by decide +kernel
theorem dX3_checksum_73 : decode cX3_checksum 73 = .ok (.iload 5, 2) := by decide +kernel
theorem dX3_checksum_75 : decode cX3_checksum 75 = .ok (.laload, 1) := by decide +kernel
theorem dX3_checksum_76 : decode cX3_checksum 76 = .ok (.ladd, 1) := by decide +kernel
theorem dX3_checksum_77 : decode cX3_checksum 77 = .ok (.lstore_n 1, 1) := by decide +kernel
theorem dX3_checksum_78 : decode cX3_checksum 78 = .ok (.iinc 5 1, 3) := by decide +kernel
theorem dX3_checksum_81 : decode cX3_checksum 81 = .ok (.goto (-36), 3) := by decide +kernel
theorem dX3_checksum_84 : decode cX3_checksum 84 = .ok (.iinc 4 1, 3) := by decide +kernel
theorem dX3_checksum_87 : decode cX3_checksum 87 = .ok (.goto (-68), 3) := by decide +kernel
theorem dX3_checksum_90 : decode cX3_checksum 90 = .ok (.iinc 3 1, 3) := by decide +kernel
theorem dX3_checksum_93 : decode cX3_checksum 93 = .ok (.goto (-82), 3) := by decide +kernel
theorem dX3_checksum_96 : decode cX3_checksum 96 = .ok (.iconst 0, 1) := by decide +kernel
theorem dX3_checksum_97 : decode cX3_checksum 97 = .ok (.istore_n 3, 1) := by decide +kernel
theorem dX3_checksum_98 : decode cX3_checksum 98 = .ok (.iload_n 3, 1) := by decide +kernel
theorem dX3_checksum_99 : decode cX3_checksum 99 = .ok (.bipush 6, 2) := by decide +kernel
theorem dX3_checksum_101 : decode cX3_checksum 101 = .ok (.if_icmp .ge 120, 3) := by decide +kernel
theorem dX3_checksum_104 : decode cX3_checksum 104 = .ok (.ldc2_w 102, 3) := by decide +kernel
theorem dX3_checksum_107 : decode cX3_checksum 107 = .ok (.lload_n 1, 1) := by decide +kernel
theorem dX3_checksum_108 : decode cX3_checksum 108 = .ok (.lmul, 1) := by decide +kernel
theorem dX3_checksum_109 : decode cX3_checksum 109 = .ok (.aload_n 0, 1) := by decide +kernel
theorem dX3_checksum_110 : decode cX3_checksum 110 = .ok (.getfield 40, 3) := by decide +kernel
theorem dX3_checksum_113 : decode cX3_checksum 113 = .ok (.iload_n 3, 1) := by decide +kernel
theorem dX3_checksum_114 : decode cX3_checksum 114 = .ok (.iaload, 1) := by decide +kernel
theorem dX3_checksum_115 : decode cX3_checksum 115 = .ok (.i2l, 1) := by decide +kernel
theorem dX3_checksum_116 : decode cX3_checksum 116 = .ok (.ladd, 1) := by decide +kernel
theorem dX3_checksum_117 : decode cX3_checksum 117 = .ok (.lstore_n 1, 1) := by decide +kernel
theorem dX3_checksum_118 : decode cX3_checksum 118 = .ok (.iconst 0, 1) := by decide +kernel
theorem dX3_checksum_119 : decode cX3_checksum 119 = .ok (.istore 4, 2) := by decide +kernel
theorem dX3_checksum_121 : decode cX3_checksum 121 = .ok (.iconst 0, 1) := by decide +kernel
theorem dX3_checksum_122 : decode cX3_checksum 122 = .ok (.istore 5, 2) := by decide +kernel
theorem dX3_checksum_124 : decode cX3_checksum 124 = .ok (.iload 5, 2) := by decide +kernel
theorem dX3_checksum_126 : decode cX3_checksum 126 = .ok (.aload_n 0, 1) := by decide +kernel
theorem dX3_checksum_127 : decode cX3_checksum 127 = .ok (.getfield 40, 3) := by decide +kernel
theorem dX3_checksum_130 : decode cX3_checksum 130 = .ok (.iload_n 3, 1) := by decide +kernel
theorem dX3_checksum_131 : decode cX3_checksum 131 = .ok (.iaload, 1) := by decide +kernel
theorem dX3_checksum_132 : decode cX3_checksum 132 = .ok (.if_icmp .ge 83, 3) := by decide +kernel
theorem dX3_checksum_135 : decode cX3_checksum 135 = .ok (.ldc2_w 102, 3) := by decide +kernel
theorem dX3_checksum_138 : decode cX3_checksum 138 = .ok (.lload_n 1, 1) := by decide +kernel
theorem dX3_checksum_139 : decode cX3_checksum 139 = .ok (.lmul, 1) := by decide +kernel
theorem dX3_checksum_140 : decode cX3_checksum 140 = .ok (.aload_n 0, 1) := by decide +kernel
theorem dX3_checksum_141 : decode cX3_checksum 141 = .ok (.getfield 34, 3) := by decide +kernel
theorem dX3_checksum_144 : decode cX3_checksum 144 = .ok (.iload_n 3, 1) := by decide +kernel
theorem dX3_checksum_145 : decode cX3_checksum 145 = .ok (.aaload, 1) := by decide +kernel
theorem dX3_checksum_146 : decode cX3_checksum 146 = .ok (.iload 5, 2) := by decide +kernel
theorem dX3_checksum_148 : decode cX3_checksum 148 = .ok (.caload, 1) := by decide +kernel
theorem dX3_checksum_149 : decode cX3_checksum 149 = .ok (.i2l, 1) := by decide +kernel
theorem dX3_checksum_150 : decode cX3_checksum 150 = .ok (.ladd, 1) := by decide +kernel
theorem dX3_checksum_151 : decode cX3_checksum 151 = .ok (.lstore_n 1, 1) := by decide +kernel
theorem dX3_checksum_152 : decode cX3_checksum 152 = .ok (.ldc2_w 102, 3) := by decide +kernel
theorem dX3_checksum_155 : decode cX3_checksum 155 = .ok (.lload_n 1, 1) := by decide +kernel
theorem dX3_checksum_156 : decode cX3_checksum 156 = .ok (.lmul, 1) := by decide +kernel
theorem dX3_checksum_157 : decode cX3_checksum 157 = .ok (.aload_n 0, 1) := by decide +kernel
theorem dX3_checksum_158 : decode cX3_checksum 158 = .ok (.getfield 34, 3) := by decide +kernel
theorem dX3_checksum_161 : decode cX3_checksum 161 = .ok (.iload_n 3, 1) := by decide +kernel
theorem dX3_checksum_162 : decode cX3_checksum 162 = .ok (.aaload, 1) := by decide +kernel
theorem dX3_checksum_163 : decode cX3_checksum 163 = .ok (.iload 5, 2) := by decide +kernel
theorem dX3_checksum_165 : decode cX3_checksum 165 = .ok (.caload, 1) := by decide +kernel
theorem dX3_checksum_166 : decode cX3_checksum 166 = .ok (.bipush 110, 2) := by decide +kernel
theorem dX3_checksum_168 : decode cX3_checksum 168 = .ok (.if_icmp .ne 15, 3) := by decide +kernel
theorem dX3_checksum_171 : decode cX3_checksum 171 = .ok (.aload_n 0, 1) := by decide +kernel
theorem dX3_checksum_172 : decode cX3_checksum 172 = .ok (.getfield 21, 3) := by decide +kernel
theorem dX3_checksum_175 : decode cX3_checksum 175 = .ok (.iload_n 3, 1) := by decide +kernel
theorem dX3_checksum_176 : decode cX3_checksum 176 = .ok (.aaload, 1) := by decide +kernel
theorem dX3_checksum_177 : decode cX3_checksum 177 = .ok (.iload 4, 2) := by decide +kernel
theorem dX3_checksum_179 : decode cX3_checksum 179 = .ok (.laload, 1) := by decide +kernel
theorem dX3_checksum_180 : decode cX3_checksum 180 = .ok (.goto 13, 3) := by decide +kernel
theorem dX3_checksum_183 : decode cX3_checksum 183 = .ok (.aload_n 0, 1) := by decide +kernel
theorem dX3_checksum_184 : decode cX3_checksum 184 = .ok (.getfield 37, 3) := by decide +kernel
theorem dX3_checksum_187 : decode cX3_checksum 187 = .ok (.iload_n 3, 1) := by decide +kernel
theorem dX3_checksum_188 : decode cX3_checksum 188 = .ok (.aaload, 1) := by decide +kernel
theorem dX3_checksum_189 : decode cX3_checksum 189 = .ok (.iload 5, 2) := by decide +kernel
theorem dX3_checksum_191 : decode cX3_checksum 191 = .ok (.iaload, 1) := by decide +kernel
theorem dX3_checksum_192 : decode cX3_checksum 192 = .ok (.i2l, 1) := by decide +kernel
theorem dX3_checksum_193 : decode cX3_checksum 193 = .ok (.ladd, 1) := by decide +kernel
theorem dX3_checksum_194 : decode cX3_checksum 194 = .ok (.lstore_n 1, 1) := by decide +kernel
theorem dX3_checksum_195 : decode cX3_checksum 195 = .ok (.iload 4, 2) := by decide +kernel
theorem dX3_checksum_197 : decode cX3_checksum 197 = .ok (.aload_n 0, 1) := by decide +kernel
theorem dX3_checksum_198 : decode cX3_checksum 198 = .ok (.getfield 37, 3) := by decide +kernel
theorem dX3_checksum_201 : decode cX3_checksum 201 = .ok (.iload_n 3, 1) := by decide +kernel
theorem dX3_checksum_202 : decode cX3_checksum 202 = .ok (.aaload, 1) := by decide +kernel
theorem dX3_checksum_203 : decode cX3_checksum 203 = .ok (.iload 5, 2) := by decide +kernel
theorem dX3_checksum_205 : decode cX3_checksum 205 = .ok (.iaload, 1) := by decide +kernel
theorem dX3_checksum_206 : decode cX3_checksum 206 = .ok (.iadd, 1) := by decide +kernel
theorem dX3_checksum_207 : decode cX3_checksum 207 = .ok (.istore 4, 2) := by decide +kernel
theorem dX3_checksum_209 : decode cX3_checksum 209 = .ok (.iinc 5 1, 3) := by decide +kernel
theorem dX3_checksum_212 : decode cX3_checksum 212 = .ok (.goto (-88), 3) := by decide +kernel
theorem dX3_checksum_215 : decode cX3_checksum 215 = .ok (.iinc 3 1, 3) := by decide +kernel
theorem dX3_checksum_218 : decode cX3_checksum 218 = .ok (.goto (-120), 3) := by decide +kernel
theorem dX3_checksum_221 : decode cX3_checksum 221 = .ok (.lload_n 1, 1) := by decide +kernel
theorem dX3_checksum_222 : decode cX3_checksum 222 = .ok (.lreturn, 1) := by decide +kernel
theorem dX3_isSound_0 : decode cX3_isSound 0 = .ok (.aload_n 0, 1) := by decide +kernel
theorem dX3_isSound_1 : decode cX3_isSound 1 = .ok (.iconst 0, 1) := by decide +kernel
theorem dX3_isSound_2 : decode cX3_isSound 2 = .ok (.putfield 43, 3) := by decide +kernel
theorem dX3_isSound_5 : decode cX3_isSound 5 = .ok (.iconst 1, 1) := by decide +kernel
theorem dX3_isSound_6 : decode cX3_isSound 6 = .ok (.ireturn, 1) := by decide +kernel
theorem dL_append_0 : decode cL_append 0 = .ok (.aload 5, 2) := by decide +kernel
theorem dL_append_2 : decode cL_append 2 = .ok (.iconst 0, 1) := by decide +kernel
theorem dL_append_3 : decode cL_append 3 = .ok (.aload_n 0, 1) := by decide +kernel
theorem dL_append_4 : decode cL_append 4 = .ok (.iload_n 1, 1) := by decide +kernel
theorem dL_append_5 : decode cL_append 5 = .ok (.iload_n 2, 1) := by decide +kernel
theorem dL_append_6 : decode cL_append 6 = .ok (.lload_n 3, 1) := by decide +kernel
theorem dL_append_7 : decode cL_append 7 = .ok (.invokevirtual 7, 3) := by decide +kernel
theorem dL_append_10 : decode cL_append 10 = .ok (.i2l, 1) := by decide +kernel
theorem dL_append_11 : decode cL_append 11 = .ok (.lastore, 1) := by decide +kernel
theorem dL_append_12 : decode cL_append 12 = .ok (.goto 15, 3) := by decide +kernel
theorem dL_append_15 : decode cL_append 15 = .ok (.astore 6, 2) := by decide +kernel
theorem dL_append_17 : decode cL_append 17 = .ok (.iconst 1, 1) := by decide +kernel
theorem dL_append_18 : decode cL_append 18 = .ok (.ireturn, 1) := by decide +kernel
theorem dL_append_19 : decode cL_append 19 = .ok (.astore 6, 2) := by decide +kernel
theorem dL_append_21 : decode cL_append 21 = .ok (.iconst 2, 1) := by decide +kernel
theorem dL_append_22 : decode cL_append 22 = .ok (.ireturn, 1) := by decide +kernel
theorem dL_append_23 : decode cL_append 23 = .ok (.astore 6, 2) := by decide +kernel
theorem dL_append_25 : decode cL_append 25 = .ok (.iconst 3, 1) := by decide +kernel
theorem dL_append_26 : decode cL_append 26 = .ok (.ireturn, 1) := by decide +kernel
theorem dL_append_27 : decode cL_append 27 = .ok (.iconst 0, 1) := by decide +kernel
theorem dL_append_28 : decode cL_append 28 = .ok (.ireturn, 1) := by decide +kernel
theorem dL_lay_0 : decode cL_lay 0 = .ok (.aload 8, 2) := by decide +kernel
theorem dL_lay_2 : decode cL_lay 2 = .ok (.iconst 0, 1) := by decide +kernel
theorem dL_lay_3 : decode cL_lay 3 = .ok (.aload_n 0, 1) := by decide +kernel
theorem dL_lay_4 : decode cL_lay 4 = .ok (.iload_n 1, 1) := by decide +kernel
theorem dL_lay_5 : decode cL_lay 5 = .ok (.iload_n 2, 1) := by decide +kernel
theorem dL_lay_6 : decode cL_lay 6 = .ok (.iload_n 3, 1) := by decide +kernel
theorem dL_lay_7 : decode cL_lay 7 = .ok (.lload 4, 2) := by decide +kernel
theorem dL_lay_9 : decode cL_lay 9 = .ok (.lload 6, 2) := by decide +kernel
theorem dL_lay_11 : decode cL_lay 11 = .ok (.invokevirtual 19, 3) := by decide +kernel
theorem dL_lay_14 : decode cL_lay 14 = .ok (.i2l, 1) := by decide +kernel
theorem dL_lay_15 : decode cL_lay 15 = .ok (.lastore, 1) := by decide +kernel
theorem dL_lay_16 : decode cL_lay 16 = .ok (.goto 11, 3) := by decide +kernel
theorem dL_lay_19 : decode cL_lay 19 = .ok (.astore 9, 2) := by decide +kernel
theorem dL_lay_21 : decode cL_lay 21 = .ok (.iconst 1, 1) := by decide +kernel
theorem dL_lay_22 : decode cL_lay 22 = .ok (.ireturn, 1) := by decide +kernel
theorem dL_lay_23 : decode cL_lay 23 = .ok (.astore 9, 2) := by decide +kernel
theorem dL_lay_25 : decode cL_lay 25 = .ok (.iconst 2, 1) := by decide +kernel
theorem dL_lay_26 : decode cL_lay 26 = .ok (.ireturn, 1) := by decide +kernel
theorem dL_lay_27 : decode cL_lay 27 = .ok (.iconst 0, 1) := by decide +kernel
theorem dL_lay_28 : decode cL_lay 28 = .ok (.ireturn, 1) := by decide +kernel
theorem dL_turn_0 : decode cL_turn 0 = .ok (.aload_n 3, 1) := by decide +kernel
theorem dL_turn_1 : decode cL_turn 1 = .ok (.iconst 0, 1) := by decide +kernel
theorem dL_turn_2 : decode cL_turn 2 = .ok (.aload_n 0, 1) := by decide +kernel
theorem dL_turn_3 : decode cL_turn 3 = .ok (.iload_n 1, 1) := by decide +kernel
theorem dL_turn_4 : decode cL_turn 4 = .ok (.iload_n 2, 1) := by decide +kernel
theorem dL_turn_5 : decode cL_turn 5 = .ok (.invokevirtual 23, 3) := by decide +kernel
theorem dL_turn_8 : decode cL_turn 8 = .ok (.i2l, 1) := by decide +kernel
theorem dL_turn_9 : decode cL_turn 9 = .ok (.lastore, 1) := by decide +kernel
theorem dL_turn_10 : decode cL_turn 10 = .ok (.goto 11, 3) := by decide +kernel
theorem dL_turn_13 : decode cL_turn 13 = .ok (.astore 4, 2) := by decide +kernel
theorem dL_turn_15 : decode cL_turn 15 = .ok (.iconst 1, 1) := by decide +kernel
theorem dL_turn_16 : decode cL_turn 16 = .ok (.ireturn, 1) := by decide +kernel
theorem dL_turn_17 : decode cL_turn 17 = .ok (.astore 4, 2) := by decide +kernel
theorem dL_turn_19 : decode cL_turn 19 = .ok (.iconst 2, 1) := by decide +kernel
theorem dL_turn_20 : decode cL_turn 20 = .ok (.ireturn, 1) := by decide +kernel
theorem dL_turn_21 : decode cL_turn 21 = .ok (.iconst 0, 1) := by decide +kernel
theorem dL_turn_22 : decode cL_turn 22 = .ok (.ireturn, 1) := by decide +kernel
theorem dL_length_0 : decode cL_length 0 = .ok (.aload_n 3, 1) := by decide +kernel
theorem dL_length_1 : decode cL_length 1 = .ok (.iconst 0, 1) := by decide +kernel
theorem dL_length_2 : decode cL_length 2 = .ok (.aload_n 0, 1) := by decide +kernel
theorem dL_length_3 : decode cL_length 3 = .ok (.iload_n 1, 1) := by decide +kernel
theorem dL_length_4 : decode cL_length 4 = .ok (.iload_n 2, 1) := by decide +kernel
theorem dL_length_5 : decode cL_length 5 = .ok (.invokevirtual 27, 3) := by decide +kernel
theorem dL_length_8 : decode cL_length 8 = .ok (.i2l, 1) := by decide +kernel
theorem dL_length_9 : decode cL_length 9 = .ok (.lastore, 1) := by decide +kernel
theorem dL_length_10 : decode cL_length 10 = .ok (.goto 11, 3) := by decide +kernel
theorem dL_length_13 : decode cL_length 13 = .ok (.astore 4, 2) := by decide +kernel
theorem dL_length_15 : decode cL_length 15 = .ok (.iconst 1, 1) := by decide +kernel
theorem dL_length_16 : decode cL_length 16 = .ok (.ireturn, 1) := by decide +kernel
theorem dL_length_17 : decode cL_length 17 = .ok (.astore 4, 2) := by decide +kernel
theorem dL_length_19 : decode cL_length 19 = .ok (.iconst 2, 1) := by decide +kernel
theorem dL_length_20 : decode cL_length 20 = .ok (.ireturn, 1) := by decide +kernel
theorem dL_length_21 : decode cL_length 21 = .ok (.iconst 0, 1) := by decide +kernel
theorem dL_length_22 : decode cL_length 22 = .ok (.ireturn, 1) := by decide +kernel
theorem dL_number_0 : decode cL_number 0 = .ok (.aload 4, 2) := by decide +kernel
theorem dL_number_2 : decode cL_number 2 = .ok (.iconst 0, 1) := by decide +kernel
theorem dL_number_3 : decode cL_number 3 = .ok (.aload_n 0, 1) := by decide +kernel
theorem dL_number_4 : decode cL_number 4 = .ok (.iload_n 1, 1) := by decide +kernel
theorem dL_number_5 : decode cL_number 5 = .ok (.iload_n 2, 1) := by decide +kernel
theorem dL_number_6 : decode cL_number 6 = .ok (.iload_n 3, 1) := by decide +kernel
theorem dL_number_7 : decode cL_number 7 = .ok (.invokevirtual 30, 3) := by decide +kernel
theorem dL_number_10 : decode cL_number 10 = .ok (.lastore, 1) := by decide +kernel
theorem dL_number_11 : decode cL_number 11 = .ok (.goto 11, 3) := by decide +kernel
theorem dL_number_14 : decode cL_number 14 = .ok (.astore 5, 2) := by decide +kernel
theorem dL_number_16 : decode cL_number 16 = .ok (.iconst 1, 1) := by decide +kernel
theorem dL_number_17 : decode cL_number 17 = .ok (.ireturn, 1) := by decide +kernel
theorem dL_number_18 : decode cL_number 18 = .ok (.astore 5, 2) := by decide +kernel
theorem dL_number_20 : decode cL_number 20 = .ok (.iconst 2, 1) := by decide +kernel
theorem dL_number_21 : decode cL_number 21 = .ok (.ireturn, 1) := by decide +kernel
theorem dL_number_22 : decode cL_number 22 = .ok (.iconst 0, 1) := by decide +kernel
theorem dL_number_23 : decode cL_number 23 = .ok (.ireturn, 1) := by decide +kernel
theorem dL_open_0 : decode cL_open 0 = .ok (.aload 6, 2) := by decide +kernel
theorem dL_open_2 : decode cL_open 2 = .ok (.iconst 0, 1) := by decide +kernel
theorem dL_open_3 : decode cL_open 3 = .ok (.aload_n 0, 1) := by decide +kernel
theorem dL_open_4 : decode cL_open 4 = .ok (.iload_n 1, 1) := by decide +kernel
theorem dL_open_5 : decode cL_open 5 = .ok (.iload_n 2, 1) := by decide +kernel
theorem dL_open_6 : decode cL_open 6 = .ok (.iload_n 3, 1) := by decide +kernel
theorem dL_open_7 : decode cL_open 7 = .ok (.iload 4, 2) := by decide +kernel
theorem dL_open_9 : decode cL_open 9 = .ok (.iload 5, 2) := by decide +kernel
theorem dL_open_11 : decode cL_open 11 = .ok (.invokevirtual 34, 3) := by decide +kernel
theorem dL_open_14 : decode cL_open 14 = .ok (.i2l, 1) := by decide +kernel
theorem dL_open_15 : decode cL_open 15 = .ok (.lastore, 1) := by decide +kernel
theorem dL_open_16 : decode cL_open 16 = .ok (.goto 11, 3) := by decide +kernel
theorem dL_open_19 : decode cL_open 19 = .ok (.astore 7, 2) := by decide +kernel
theorem dL_open_21 : decode cL_open 21 = .ok (.iconst 1, 1) := by decide +kernel
theorem dL_open_22 : decode cL_open 22 = .ok (.ireturn, 1) := by decide +kernel
theorem dL_open_23 : decode cL_open 23 = .ok (.astore 7, 2) := by decide +kernel
theorem dL_open_25 : decode cL_open 25 = .ok (.iconst 2, 1) := by decide +kernel
theorem dL_open_26 : decode cL_open 26 = .ok (.ireturn, 1) := by decide +kernel
theorem dL_open_27 : decode cL_open 27 = .ok (.iconst 0, 1) := by decide +kernel
theorem dL_open_28 : decode cL_open 28 = .ok (.ireturn, 1) := by decide +kernel
theorem dL_openAll_0 : decode cL_openAll 0 = .ok (.aload 4, 2) := by decide +kernel
theorem dL_openAll_2 : decode cL_openAll 2 = .ok (.iconst 0, 1) := by decide +kernel
theorem dL_openAll_3 : decode cL_openAll 3 = .ok (.aload_n 0, 1) := by decide +kernel
theorem dL_openAll_4 : decode cL_openAll 4 = .ok (.iload_n 1, 1) := by decide +kernel
theorem dL_openAll_5 : decode cL_openAll 5 = .ok (.iload_n 2, 1) := by decide +kernel
theorem dL_openAll_6 : decode cL_openAll 6 = .ok (.iload_n 3, 1) := by decide +kernel
theorem dL_openAll_7 : decode cL_openAll 7 = .ok (.invokevirtual 38, 3) := by decide +kernel
theorem dL_openAll_10 : decode cL_openAll 10 = .ok (.i2l, 1) := by decide +kernel
theorem dL_openAll_11 : decode cL_openAll 11 = .ok (.lastore, 1) := by decide +kernel
theorem dL_openAll_12 : decode cL_openAll 12 = .ok (.goto 11, 3) := by decide +kernel
theorem dL_openAll_15 : decode cL_openAll 15 = .ok (.astore 5, 2) := by decide +kernel
theorem dL_openAll_17 : decode cL_openAll 17 = .ok (.iconst 1, 1) := by decide +kernel
theorem dL_openAll_18 : decode cL_openAll 18 = .ok (.ireturn, 1) := by decide +kernel
theorem dL_openAll_19 : decode cL_openAll 19 = .ok (.astore 5, 2) := by decide +kernel
theorem dL_openAll_21 : decode cL_openAll 21 = .ok (.iconst 2, 1) := by decide +kernel
theorem dL_openAll_22 : decode cL_openAll 22 = .ok (.ireturn, 1) := by decide +kernel
theorem dL_openAll_23 : decode cL_openAll 23 = .ok (.iconst 0, 1) := by decide +kernel
theorem dL_openAll_24 : decode cL_openAll 24 = .ok (.ireturn, 1) := by decide +kernel
theorem dL_items_0 : decode cL_items 0 = .ok (.aload_n 2, 1) := by decide +kernel
theorem dL_items_1 : decode cL_items 1 = .ok (.iconst 0, 1) := by decide +kernel
theorem dL_items_2 : decode cL_items 2 = .ok (.aload_n 0, 1) := by decide +kernel
theorem dL_items_3 : decode cL_items 3 = .ok (.iload_n 1, 1) := by decide +kernel
theorem dL_items_4 : decode cL_items 4 = .ok (.invokevirtual 42, 3) := by decide +kernel
theorem dL_items_7 : decode cL_items 7 = .ok (.i2l, 1) := by decide +kernel
theorem dL_items_8 : decode cL_items 8 = .ok (.lastore, 1) := by decide +kernel
theorem dL_items_9 : decode cL_items 9 = .ok (.goto 6, 3) := by decide +kernel
theorem dL_items_12 : decode cL_items 12 = .ok (.astore_n 3, 1) := by decide +kernel
theorem dL_items_13 : decode cL_items 13 = .ok (.iconst 1, 1) := by decide +kernel
theorem dL_items_14 : decode cL_items 14 = .ok (.ireturn, 1) := by decide +kernel
theorem dL_items_15 : decode cL_items 15 = .ok (.iconst 0, 1) := by decide +kernel
theorem dL_items_16 : decode cL_items 16 = .ok (.ireturn, 1) := by decide +kernel
theorem dL_kindOf_0 : decode cL_kindOf 0 = .ok (.aload_n 3, 1) := by decide +kernel
theorem dL_kindOf_1 : decode cL_kindOf 1 = .ok (.iconst 0, 1) := by decide +kernel
theorem dL_kindOf_2 : decode cL_kindOf 2 = .ok (.aload_n 0, 1) := by decide +kernel
theorem dL_kindOf_3 : decode cL_kindOf 3 = .ok (.iload_n 1, 1) := by decide +kernel
theorem dL_kindOf_4 : decode cL_kindOf 4 = .ok (.iload_n 2, 1) := by decide +kernel
theorem dL_kindOf_5 : decode cL_kindOf 5 = .ok (.invokevirtual 46, 3) := by decide +kernel
theorem dL_kindOf_8 : decode cL_kindOf 8 = .ok (.i2l, 1) := by decide +kernel
theorem dL_kindOf_9 : decode cL_kindOf 9 = .ok (.lastore, 1) := by decide +kernel
theorem dL_kindOf_10 : decode cL_kindOf 10 = .ok (.goto 7, 3) := by decide +kernel
theorem dL_kindOf_13 : decode cL_kindOf 13 = .ok (.astore 4, 2) := by decide +kernel
theorem dL_kindOf_15 : decode cL_kindOf 15 = .ok (.iconst 1, 1) := by decide +kernel
end
section
theorem dL_kindOf_16 : decode cL_kindOf 16 = .ok (.ireturn, 1) := by decide +kernel
theorem dL_kindOf_17 : decode cL_kindOf 17 = .ok (.iconst 0, 1) := by decide +kernel
theorem dL_kindOf_18 : decode cL_kindOf 18 = .ok (.ireturn, 1) := by decide +kernel
theorem dL_given_0 : decode cL_given 0 = .ok (.aload_n 3, 1) := by decide +kernel
theorem dL_given_1 : decode cL_given 1 = .ok (.iconst 0, 1) := by decide +kernel
theorem dL_given_2 : decode cL_given 2 = .ok (.aload_n 0, 1) := by decide +kernel
theorem dL_given_3 : decode cL_given 3 = .ok (.iload_n 1, 1) := by decide +kernel
theorem dL_given_4 : decode cL_given 4 = .ok (.iload_n 2, 1) := by decide +kernel
theorem dL_given_5 : decode cL_given 5 = .ok (.invokevirtual 50, 3) := by decide +kernel
theorem dL_given_8 : decode cL_given 8 = .ok (.lastore, 1) := by decide +kernel
theorem dL_given_9 : decode cL_given 9 = .ok (.goto 11, 3) := by decide +kernel
theorem dL_given_12 : decode cL_given 12 = .ok (.astore 4, 2) := by decide +kernel
theorem dL_given_14 : decode cL_given 14 = .ok (.iconst 1, 1) := by decide +kernel
theorem dL_given_15 : decode cL_given 15 = .ok (.ireturn, 1) := by decide +kernel
theorem dL_given_16 : decode cL_given 16 = .ok (.astore 4, 2) := by decide +kernel
theorem dL_given_18 : decode cL_given 18 = .ok (.iconst 2, 1) := by decide +kernel
theorem dL_given_19 : decode cL_given 19 = .ok (.ireturn, 1) := by decide +kernel
theorem dL_given_20 : decode cL_given 20 = .ok (.iconst 0, 1) := by decide +kernel
theorem dL_given_21 : decode cL_given 21 = .ok (.ireturn, 1) := by decide +kernel
theorem dL_left_0 : decode cL_left 0 = .ok (.aload_n 3, 1) := by decide +kernel
theorem dL_left_1 : decode cL_left 1 = .ok (.iconst 0, 1) := by decide +kernel
theorem dL_left_2 : decode cL_left 2 = .ok (.aload_n 0, 1) := by decide +kernel
theorem dL_left_3 : decode cL_left 3 = .ok (.iload_n 1, 1) := by decide +kernel
theorem dL_left_4 : decode cL_left 4 = .ok (.iload_n 2, 1) := by decide +kernel
theorem dL_left_5 : decode cL_left 5 = .ok (.invokevirtual 54, 3) := by decide +kernel
theorem dL_left_8 : decode cL_left 8 = .ok (.i2l, 1) := by decide +kernel
theorem dL_left_9 : decode cL_left 9 = .ok (.lastore, 1) := by decide +kernel
theorem dL_left_10 : decode cL_left 10 = .ok (.goto 11, 3) := by decide +kernel
theorem dL_left_13 : decode cL_left 13 = .ok (.astore 4, 2) := by decide +kernel
theorem dL_left_15 : decode cL_left 15 = .ok (.iconst 1, 1) := by decide +kernel
theorem dL_left_16 : decode cL_left 16 = .ok (.ireturn, 1) := by decide +kernel
theorem dL_left_17 : decode cL_left 17 = .ok (.astore 4, 2) := by decide +kernel
theorem dL_left_19 : decode cL_left 19 = .ok (.iconst 2, 1) := by decide +kernel
theorem dL_left_20 : decode cL_left 20 = .ok (.ireturn, 1) := by decide +kernel
theorem dL_left_21 : decode cL_left 21 = .ok (.iconst 0, 1) := by decide +kernel
theorem dL_left_22 : decode cL_left 22 = .ok (.ireturn, 1) := by decide +kernel
theorem dL_ahead_0 : decode cL_ahead 0 = .ok (.aload_n 3, 1) := by decide +kernel
theorem dL_ahead_1 : decode cL_ahead 1 = .ok (.iconst 0, 1) := by decide +kernel
theorem dL_ahead_2 : decode cL_ahead 2 = .ok (.aload_n 0, 1) := by decide +kernel
theorem dL_ahead_3 : decode cL_ahead 3 = .ok (.iload_n 1, 1) := by decide +kernel
theorem dL_ahead_4 : decode cL_ahead 4 = .ok (.iload_n 2, 1) := by decide +kernel
theorem dL_ahead_5 : decode cL_ahead 5 = .ok (.invokevirtual 58, 3) := by decide +kernel
theorem dL_ahead_8 : decode cL_ahead 8 = .ok (.i2l, 1) := by decide +kernel
theorem dL_ahead_9 : decode cL_ahead 9 = .ok (.lastore, 1) := by decide +kernel
theorem dL_ahead_10 : decode cL_ahead 10 = .ok (.goto 7, 3) := by decide +kernel
theorem dL_ahead_13 : decode cL_ahead 13 = .ok (.astore 4, 2) := by decide +kernel
theorem dL_ahead_15 : decode cL_ahead 15 = .ok (.iconst 1, 1) := by decide +kernel
theorem dL_ahead_16 : decode cL_ahead 16 = .ok (.ireturn, 1) := by decide +kernel
theorem dL_ahead_17 : decode cL_ahead 17 = .ok (.iconst 0, 1) := by decide +kernel
theorem dL_ahead_18 : decode cL_ahead 18 = .ok (.ireturn, 1) := by decide +kernel
theorem dL_has_0 : decode cL_has 0 = .ok (.aload 4, 2) := by decide +kernel
theorem dL_has_2 : decode cL_has 2 = .ok (.iconst 0, 1) := by decide +kernel
theorem dL_has_3 : decode cL_has 3 = .ok (.aload_n 0, 1) := by decide +kernel
theorem dL_has_4 : decode cL_has 4 = .ok (.iload_n 1, 1) := by decide +kernel
theorem dL_has_5 : decode cL_has 5 = .ok (.iload_n 2, 1) := by decide +kernel
theorem dL_has_6 : decode cL_has 6 = .ok (.iload_n 3, 1) := by decide +kernel
theorem dL_has_7 : decode cL_has 7 = .ok (.invokevirtual 61, 3) := by decide +kernel
theorem dL_has_10 : decode cL_has 10 = .ok (.ifCond .eq 7, 3) := by decide +kernel
theorem dL_has_13 : decode cL_has 13 = .ok (.lconst 1, 1) := by decide +kernel
theorem dL_has_14 : decode cL_has 14 = .ok (.goto 4, 3) := by decide +kernel
theorem dL_has_17 : decode cL_has 17 = .ok (.lconst 0, 1) := by decide +kernel
theorem dL_has_18 : decode cL_has 18 = .ok (.lastore, 1) := by decide +kernel
theorem dL_has_19 : decode cL_has 19 = .ok (.goto 15, 3) := by decide +kernel
theorem dL_has_22 : decode cL_has 22 = .ok (.astore 5, 2) := by decide +kernel
theorem dL_has_24 : decode cL_has 24 = .ok (.iconst 1, 1) := by decide +kernel
theorem dL_has_25 : decode cL_has 25 = .ok (.ireturn, 1) := by decide +kernel
theorem dL_has_26 : decode cL_has 26 = .ok (.astore 5, 2) := by decide +kernel
theorem dL_has_28 : decode cL_has 28 = .ok (.iconst 2, 1) := by decide +kernel
theorem dL_has_29 : decode cL_has 29 = .ok (.ireturn, 1) := by decide +kernel
theorem dL_has_30 : decode cL_has 30 = .ok (.astore 5, 2) := by decide +kernel
theorem dL_has_32 : decode cL_has 32 = .ok (.iconst 3, 1) := by decide +kernel
theorem dL_has_33 : decode cL_has 33 = .ok (.ireturn, 1) := by decide +kernel
theorem dL_has_34 : decode cL_has 34 = .ok (.iconst 0, 1) := by decide +kernel
theorem dL_has_35 : decode cL_has 35 = .ok (.ireturn, 1) := by decide +kernel
theorem dL_isExact_0 : decode cL_isExact 0 = .ok (.aload_n 3, 1) := by decide +kernel
theorem dL_isExact_1 : decode cL_isExact 1 = .ok (.iconst 0, 1) := by decide +kernel
theorem dL_isExact_2 : decode cL_isExact 2 = .ok (.aload_n 0, 1) := by decide +kernel
theorem dL_isExact_3 : decode cL_isExact 3 = .ok (.iload_n 1, 1) := by decide +kernel
theorem dL_isExact_4 : decode cL_isExact 4 = .ok (.iload_n 2, 1) := by decide +kernel
theorem dL_isExact_5 : decode cL_isExact 5 = .ok (.invokevirtual 65, 3) := by decide +kernel
theorem dL_isExact_8 : decode cL_isExact 8 = .ok (.ifCond .eq 7, 3) := by decide +kernel
theorem dL_isExact_11 : decode cL_isExact 11 = .ok (.lconst 1, 1) := by decide +kernel
theorem dL_isExact_12 : decode cL_isExact 12 = .ok (.goto 4, 3) := by decide +kernel
theorem dL_isExact_15 : decode cL_isExact 15 = .ok (.lconst 0, 1) := by decide +kernel
theorem dL_isExact_16 : decode cL_isExact 16 = .ok (.lastore, 1) := by decide +kernel
theorem dL_isExact_17 : decode cL_isExact 17 = .ok (.goto 11, 3) := by decide +kernel
theorem dL_isExact_20 : decode cL_isExact 20 = .ok (.astore 4, 2) := by decide +kernel
theorem dL_isExact_22 : decode cL_isExact 22 = .ok (.iconst 1, 1) := by decide +kernel
theorem dL_isExact_23 : decode cL_isExact 23 = .ok (.ireturn, 1) := by decide +kernel
theorem dL_isExact_24 : decode cL_isExact 24 = .ok (.astore 4, 2) := by decide +kernel
theorem dL_isExact_26 : decode cL_isExact 26 = .ok (.iconst 2, 1) := by decide +kernel
theorem dL_isExact_27 : decode cL_isExact 27 = .ok (.ireturn, 1) := by decide +kernel
theorem dL_isExact_28 : decode cL_isExact 28 = .ok (.iconst 0, 1) := by decide +kernel
theorem dL_isExact_29 : decode cL_isExact 29 = .ok (.ireturn, 1) := by decide +kernel
theorem dL_split_0 : decode cL_split 0 = .ok (.aload_n 3, 1) := by decide +kernel
theorem dL_split_1 : decode cL_split 1 = .ok (.iconst 0, 1) := by decide +kernel
theorem dL_split_2 : decode cL_split 2 = .ok (.aload_n 0, 1) := by decide +kernel
theorem dL_split_3 : decode cL_split 3 = .ok (.iload_n 1, 1) := by decide +kernel
theorem dL_split_4 : decode cL_split 4 = .ok (.iload_n 2, 1) := by decide +kernel
theorem dL_split_5 : decode cL_split 5 = .ok (.invokevirtual 69, 3) := by decide +kernel
theorem dL_split_8 : decode cL_split 8 = .ok (.i2l, 1) := by decide +kernel
theorem dL_split_9 : decode cL_split 9 = .ok (.lastore, 1) := by decide +kernel
theorem dL_split_10 : decode cL_split 10 = .ok (.goto 11, 3) := by decide +kernel
theorem dL_split_13 : decode cL_split 13 = .ok (.astore 4, 2) := by decide +kernel
theorem dL_split_15 : decode cL_split 15 = .ok (.iconst 1, 1) := by decide +kernel
theorem dL_split_16 : decode cL_split 16 = .ok (.ireturn, 1) := by decide +kernel
theorem dL_split_17 : decode cL_split 17 = .ok (.astore 4, 2) := by decide +kernel
theorem dL_split_19 : decode cL_split 19 = .ok (.iconst 2, 1) := by decide +kernel
theorem dL_split_20 : decode cL_split 20 = .ok (.ireturn, 1) := by decide +kernel
theorem dL_split_21 : decode cL_split 21 = .ok (.iconst 0, 1) := by decide +kernel
theorem dL_split_22 : decode cL_split 22 = .ok (.ireturn, 1) := by decide +kernel
theorem dL_step_0 : decode cL_step 0 = .ok (.aload_n 3, 1) := by decide +kernel
theorem dL_step_1 : decode cL_step 1 = .ok (.iconst 0, 1) := by decide +kernel
theorem dL_step_2 : decode cL_step 2 = .ok (.aload_n 0, 1) := by decide +kernel
theorem dL_step_3 : decode cL_step 3 = .ok (.iload_n 1, 1) := by decide +kernel
theorem dL_step_4 : decode cL_step 4 = .ok (.iload_n 2, 1) := by decide +kernel
theorem dL_step_5 : decode cL_step 5 = .ok (.invokevirtual 72, 3) := by decide +kernel
theorem dL_step_8 : decode cL_step 8 = .ok (.ifCond .eq 7, 3) := by decide +kernel
theorem dL_step_11 : decode cL_step 11 = .ok (.lconst 1, 1) := by decide +kernel
theorem dL_step_12 : decode cL_step 12 = .ok (.goto 4, 3) := by decide +kernel
theorem dL_step_15 : decode cL_step 15 = .ok (.lconst 0, 1) := by decide +kernel
theorem dL_step_16 : decode cL_step 16 = .ok (.lastore, 1) := by decide +kernel
theorem dL_step_17 : decode cL_step 17 = .ok (.goto 11, 3) := by decide +kernel
theorem dL_step_20 : decode cL_step 20 = .ok (.astore 4, 2) := by decide +kernel
theorem dL_step_22 : decode cL_step 22 = .ok (.iconst 1, 1) := by decide +kernel
theorem dL_step_23 : decode cL_step 23 = .ok (.ireturn, 1) := by decide +kernel
theorem dL_step_24 : decode cL_step 24 = .ok (.astore 4, 2) := by decide +kernel
theorem dL_step_26 : decode cL_step 26 = .ok (.iconst 2, 1) := by decide +kernel
theorem dL_step_27 : decode cL_step 27 = .ok (.ireturn, 1) := by decide +kernel
theorem dL_step_28 : decode cL_step 28 = .ok (.iconst 0, 1) := by decide +kernel
theorem dL_step_29 : decode cL_step 29 = .ok (.ireturn, 1) := by decide +kernel
theorem dL_drain_0 : decode cL_drain 0 = .ok (.aload_n 3, 1) := by decide +kernel
theorem dL_drain_1 : decode cL_drain 1 = .ok (.iconst 0, 1) := by decide +kernel
theorem dL_drain_2 : decode cL_drain 2 = .ok (.aload_n 0, 1) := by decide +kernel
theorem dL_drain_3 : decode cL_drain 3 = .ok (.iload_n 1, 1) := by decide +kernel
theorem dL_drain_4 : decode cL_drain 4 = .ok (.iload_n 2, 1) := by decide +kernel
theorem dL_drain_5 : decode cL_drain 5 = .ok (.invokevirtual 75, 3) := by decide +kernel
theorem dL_drain_8 : decode cL_drain 8 = .ok (.i2l, 1) := by decide +kernel
theorem dL_drain_9 : decode cL_drain 9 = .ok (.lastore, 1) := by decide +kernel
theorem dL_drain_10 : decode cL_drain 10 = .ok (.goto 11, 3) := by decide +kernel
theorem dL_drain_13 : decode cL_drain 13 = .ok (.astore 4, 2) := by decide +kernel
theorem dL_drain_15 : decode cL_drain 15 = .ok (.iconst 1, 1) := by decide +kernel
theorem dL_drain_16 : decode cL_drain 16 = .ok (.ireturn, 1) := by decide +kernel
theorem dL_drain_17 : decode cL_drain 17 = .ok (.astore 4, 2) := by decide +kernel
theorem dL_drain_19 : decode cL_drain 19 = .ok (.iconst 2, 1) := by decide +kernel
theorem dL_drain_20 : decode cL_drain 20 = .ok (.ireturn, 1) := by decide +kernel
theorem dL_drain_21 : decode cL_drain 21 = .ok (.iconst 0, 1) := by decide +kernel
theorem dL_drain_22 : decode cL_drain 22 = .ok (.ireturn, 1) := by decide +kernel
theorem dL_iterate_0 : decode cL_iterate 0 = .ok (.aload_n 3, 1) := by decide +kernel
theorem dL_iterate_1 : decode cL_iterate 1 = .ok (.iconst 0, 1) := by decide +kernel
theorem dL_iterate_2 : decode cL_iterate 2 = .ok (.aload_n 0, 1) := by decide +kernel
theorem dL_iterate_3 : decode cL_iterate 3 = .ok (.iload_n 1, 1) := by decide +kernel
theorem dL_iterate_4 : decode cL_iterate 4 = .ok (.iload_n 2, 1) := by decide +kernel
theorem dL_iterate_5 : decode cL_iterate 5 = .ok (.invokevirtual 78, 3) := by decide +kernel
theorem dL_iterate_8 : decode cL_iterate 8 = .ok (.i2l, 1) := by decide +kernel
theorem dL_iterate_9 : decode cL_iterate 9 = .ok (.lastore, 1) := by decide +kernel
theorem dL_iterate_10 : decode cL_iterate 10 = .ok (.goto 15, 3) := by decide +kernel
theorem dL_iterate_13 : decode cL_iterate 13 = .ok (.astore 4, 2) := by decide +kernel
theorem dL_iterate_15 : decode cL_iterate 15 = .ok (.iconst 1, 1) := by decide +kernel
theorem dL_iterate_16 : decode cL_iterate 16 = .ok (.ireturn, 1) := by decide +kernel
theorem dL_iterate_17 : decode cL_iterate 17 = .ok (.astore 4, 2) := by decide +kernel
theorem dL_iterate_19 : decode cL_iterate 19 = .ok (.iconst 2, 1) := by decide +kernel
theorem dL_iterate_20 : decode cL_iterate 20 = .ok (.ireturn, 1) := by decide +kernel
theorem dL_iterate_21 : decode cL_iterate 21 = .ok (.astore 4, 2) := by decide +kernel
theorem dL_iterate_23 : decode cL_iterate 23 = .ok (.iconst 3, 1) := by decide +kernel
theorem dL_iterate_24 : decode cL_iterate 24 = .ok (.ireturn, 1) := by decide +kernel
theorem dL_iterate_25 : decode cL_iterate 25 = .ok (.iconst 0, 1) := by decide +kernel
theorem dL_iterate_26 : decode cL_iterate 26 = .ok (.ireturn, 1) := by decide +kernel
theorem dL_hasNext_0 : decode cL_hasNext 0 = .ok (.aload_n 3, 1) := by decide +kernel
theorem dL_hasNext_1 : decode cL_hasNext 1 = .ok (.iconst 0, 1) := by decide +kernel
theorem dL_hasNext_2 : decode cL_hasNext 2 = .ok (.aload_n 0, 1) := by decide +kernel
theorem dL_hasNext_3 : decode cL_hasNext 3 = .ok (.iload_n 1, 1) := by decide +kernel
theorem dL_hasNext_4 : decode cL_hasNext 4 = .ok (.iload_n 2, 1) := by decide +kernel
theorem dL_hasNext_5 : decode cL_hasNext 5 = .ok (.invokevirtual 83, 3) := by decide +kernel
theorem dL_hasNext_8 : decode cL_hasNext 8 = .ok (.ifCond .eq 7, 3) := by decide +kernel
theorem dL_hasNext_11 : decode cL_hasNext 11 = .ok (.lconst 1, 1) := by decide +kernel
theorem dL_hasNext_12 : decode cL_hasNext 12 = .ok (.goto 4, 3) := by decide +kernel
theorem dL_hasNext_15 : decode cL_hasNext 15 = .ok (.lconst 0, 1) := by decide +kernel
theorem dL_hasNext_16 : decode cL_hasNext 16 = .ok (.lastore, 1) := by decide +kernel
theorem dL_hasNext_17 : decode cL_hasNext 17 = .ok (.goto 11, 3) := by decide +kernel
theorem dL_hasNext_20 : decode cL_hasNext 20 = .ok (.astore 4, 2) := by decide +kernel
theorem dL_hasNext_22 : decode cL_hasNext 22 = .ok (.iconst 1, 1) := by decide +kernel
theorem dL_hasNext_23 : decode cL_hasNext 23 = .ok (.ireturn, 1) := by decide +kernel
theorem dL_hasNext_24 : decode cL_hasNext 24 = .ok (.astore 4, 2) := by decide +kernel
theorem dL_hasNext_26 : decode cL_hasNext 26 = .ok (.iconst 2, 1) := by decide +kernel
theorem dL_hasNext_27 : decode cL_hasNext 27 = .ok (.ireturn, 1) := by decide +kernel
theorem dL_hasNext_28 : decode cL_hasNext 28 = .ok (.iconst 0, 1) := by decide +kernel
theorem dL_hasNext_29 : decode cL_hasNext 29 = .ok (.ireturn, 1) := by decide +kernel
theorem dL_crumble_0 : decode cL_crumble 0 = .ok (.aload_n 3, 1) := by decide +kernel
theorem dL_crumble_1 : decode cL_crumble 1 = .ok (.iconst 0, 1) := by decide +kernel
theorem dL_crumble_2 : decode cL_crumble 2 = .ok (.aload_n 0, 1) := by decide +kernel
theorem dL_crumble_3 : decode cL_crumble 3 = .ok (.iload_n 1, 1) := by decide +kernel
theorem dL_crumble_4 : decode cL_crumble 4 = .ok (.iload_n 2, 1) := by decide +kernel
theorem dL_crumble_5 : decode cL_crumble 5 = .ok (.invokevirtual 86, 3) := by decide +kernel
theorem dL_crumble_8 : decode cL_crumble 8 = .ok (.i2l, 1) := by decide +kernel
theorem dL_crumble_9 : decode cL_crumble 9 = .ok (.lastore, 1) := by decide +kernel
theorem dL_crumble_10 : decode cL_crumble 10 = .ok (.goto 11, 3) := by decide +kernel
theorem dL_crumble_13 : decode cL_crumble 13 = .ok (.astore 4, 2) := by decide +kernel
theorem dL_crumble_15 : decode cL_crumble 15 = .ok (.iconst 1, 1) := by decide +kernel
theorem dL_crumble_16 : decode cL_crumble 16 = .ok (.ireturn, 1) := by decide +kernel
theorem dL_crumble_17 : decode cL_crumble 17 = .ok (.astore 4, 2) := by decide +kernel
theorem dL_crumble_19 : decode cL_crumble 19 = .ok (.iconst 2, 1) := by decide +kernel
theorem dL_crumble_20 : decode cL_crumble 20 = .ok (.ireturn, 1) := by decide +kernel
theorem dL_crumble_21 : decode cL_crumble 21 = .ok (.iconst 0, 1) := by decide +kernel
theorem dL_crumble_22 : decode cL_crumble 22 = .ok (.ireturn, 1) := by decide +kernel
theorem dL_sweep_0 : decode cL_sweep 0 = .ok (.aload_n 2, 1) := by decide +kernel
theorem dL_sweep_1 : decode cL_sweep 1 = .ok (.iconst 0, 1) := by decide +kernel
theorem dL_sweep_2 : decode cL_sweep 2 = .ok (.aload_n 0, 1) := by decide +kernel
theorem dL_sweep_3 : decode cL_sweep 3 = .ok (.iload_n 1, 1) := by decide +kernel
theorem dL_sweep_4 : decode cL_sweep 4 = .ok (.invokevirtual 89, 3) := by decide +kernel
theorem dL_sweep_7 : decode cL_sweep 7 = .ok (.i2l, 1) := by decide +kernel
theorem dL_sweep_8 : decode cL_sweep 8 = .ok (.lastore, 1) := by decide +kernel
theorem dL_sweep_9 : decode cL_sweep 9 = .ok (.goto 6, 3) := by decide +kernel
theorem dL_sweep_12 : decode cL_sweep 12 = .ok (.astore_n 3, 1) := by decide +kernel
theorem dL_sweep_13 : decode cL_sweep 13 = .ok (.iconst 1, 1) := by decide +kernel
theorem dL_sweep_14 : decode cL_sweep 14 = .ok (.ireturn, 1) := by decide +kernel
theorem dL_sweep_15 : decode cL_sweep 15 = .ok (.iconst 0, 1) := by decide +kernel
theorem dL_sweep_16 : decode cL_sweep 16 = .ok (.ireturn, 1) := by decide +kernel
theorem dL_isRead_0 : decode cL_isRead 0 = .ok (.aload_n 2, 1) := by decide +kernel
theorem dL_isRead_1 : decode cL_isRead 1 = .ok (.iconst 0, 1) := by decide +kernel
theorem dL_isRead_2 : decode cL_isRead 2 = .ok (.aload_n 0, 1) := by decide +kernel
theorem dL_isRead_3 : decode cL_isRead 3 = .ok (.iload_n 1, 1) := by decide +kernel
theorem dL_isRead_4 : decode cL_isRead 4 = .ok (.invokevirtual 92, 3) := by decide +kernel
theorem dL_isRead_7 : decode cL_isRead 7 = .ok (.ifCond .eq 7, 3) := by decide +kernel
theorem dL_isRead_10 : decode cL_isRead 10 = .ok (.lconst 1, 1) := by decide +kernel
theorem dL_isRead_11 : decode cL_isRead 11 = .ok (.goto 4, 3) := by decide +kernel
theorem dL_isRead_14 : decode cL_isRead 14 = .ok (.lconst 0, 1) := by decide +kernel
theorem dL_isRead_15 : decode cL_isRead 15 = .ok (.lastore, 1) := by decide +kernel
theorem dL_isRead_16 : decode cL_isRead 16 = .ok (.goto 6, 3) := by decide +kernel
theorem dL_isRead_19 : decode cL_isRead 19 = .ok (.astore_n 3, 1) := by decide +kernel
theorem dL_isRead_20 : decode cL_isRead 20 = .ok (.iconst 1, 1) := by decide +kernel
theorem dL_isRead_21 : decode cL_isRead 21 = .ok (.ireturn, 1) := by decide +kernel
theorem dL_isRead_22 : decode cL_isRead 22 = .ok (.iconst 0, 1) := by decide +kernel
theorem dL_isRead_23 : decode cL_isRead 23 = .ok (.ireturn, 1) := by decide +kernel
theorem dL_fold_0 : decode cL_fold 0 = .ok (.aload 5, 2) := by decide +kernel
theorem dL_fold_2 : decode cL_fold 2 = .ok (.iconst 0, 1) := by decide +kernel
theorem dL_fold_3 : decode cL_fold 3 = .ok (.aload_n 0, 1) := by decide +kernel
theorem dL_fold_4 : decode cL_fold 4 = .ok (.iload_n 1, 1) := by decide +kernel
theorem dL_fold_5 : decode cL_fold 5 = .ok (.iload_n 2, 1) := by decide +kernel
theorem dL_fold_6 : decode cL_fold 6 = .ok (.iload_n 3, 1) := by decide +kernel
theorem dL_fold_7 : decode cL_fold 7 = .ok (.iload 4, 2) := by decide +kernel
theorem dL_fold_9 : decode cL_fold 9 = .ok (.invokevirtual 96, 3) := by decide +kernel
theorem dL_fold_12 : decode cL_fold 12 = .ok (.lastore, 1) := by decide +kernel
theorem dL_fold_13 : decode cL_fold 13 = .ok (.goto 11, 3) := by decide +kernel
theorem dL_fold_16 : decode cL_fold 16 = .ok (.astore 6, 2) := by decide +kernel
theorem dL_fold_18 : decode cL_fold 18 = .ok (.iconst 1, 1) := by decide +kernel
theorem dL_fold_19 : decode cL_fold 19 = .ok (.ireturn, 1) := by decide +kernel
theorem dL_fold_20 : decode cL_fold 20 = .ok (.astore 6, 2) := by decide +kernel
theorem dL_fold_22 : decode cL_fold 22 = .ok (.iconst 2, 1) := by decide +kernel
theorem dL_fold_23 : decode cL_fold 23 = .ok (.ireturn, 1) := by decide +kernel
theorem dL_fold_24 : decode cL_fold 24 = .ok (.iconst 0, 1) := by decide +kernel
theorem dL_fold_25 : decode cL_fold 25 = .ok (.ireturn, 1) := by decide +kernel
theorem dL_pieces_0 : decode cL_pieces 0 = .ok (.aload 4, 2) := by decide +kernel
theorem dL_pieces_2 : decode cL_pieces 2 = .ok (.iconst 0, 1) := by decide +kernel
theorem dL_pieces_3 : decode cL_pieces 3 = .ok (.aload_n 0, 1) := by decide +kernel
theorem dL_pieces_4 : decode cL_pieces 4 = .ok (.iload_n 1, 1) := by decide +kernel
theorem dL_pieces_5 : decode cL_pieces 5 = .ok (.iload_n 2, 1) := by decide +kernel
theorem dL_pieces_6 : decode cL_pieces 6 = .ok (.iload_n 3, 1) := by decide +kernel
theorem dL_pieces_7 : decode cL_pieces 7 = .ok (.invokevirtual 100, 3) := by decide +kernel
theorem dL_pieces_10 : decode cL_pieces 10 = .ok (.i2l, 1) := by decide +kernel
theorem dL_pieces_11 : decode cL_pieces 11 = .ok (.lastore, 1) := by decide +kernel
theorem dL_pieces_12 : decode cL_pieces 12 = .ok (.goto 11, 3) := by decide +kernel
theorem dL_pieces_15 : decode cL_pieces 15 = .ok (.astore 5, 2) := by decide +kernel
theorem dL_pieces_17 : decode cL_pieces 17 = .ok (.iconst 1, 1) := by decide +kernel
theorem dL_pieces_18 : decode cL_pieces 18 = .ok (.ireturn, 1) := by decide +kernel
theorem dL_pieces_19 : decode cL_pieces 19 = .ok (.astore 5, 2) := by decide +kernel
theorem dL_pieces_21 : decode cL_pieces 21 = .ok (.iconst 2, 1) := by decide +kernel
theorem dL_pieces_22 : decode cL_pieces 22 = .ok (.ireturn, 1) := by decide +kernel
theorem dL_pieces_23 : decode cL_pieces 23 = .ok (.iconst 0, 1) := by decide +kernel
theorem dL_pieces_24 : decode cL_pieces 24 = .ok (.ireturn, 1) := by decide +kernel
theorem dL_share_0 : decode cL_share 0 = .ok (.aload_n 2, 1) := by decide +kernel
theorem dL_share_1 : decode cL_share 1 = .ok (.iconst 0, 1) := by decide +kernel
theorem dL_share_2 : decode cL_share 2 = .ok (.aload_n 0, 1) := by decide +kernel
theorem dL_share_3 : decode cL_share 3 = .ok (.iload_n 1, 1) := by decide +kernel
theorem dL_share_4 : decode cL_share 4 = .ok (.invokevirtual 104, 3) := by decide +kernel
theorem dL_share_7 : decode cL_share 7 = .ok (.f2d, 1) := by decide +kernel
theorem dL_share_8 : decode cL_share 8 = .ok (.dastore, 1) := by decide +kernel
theorem dL_share_9 : decode cL_share 9 = .ok (.goto 9, 3) := by decide +kernel
theorem dL_share_12 : decode cL_share 12 = .ok (.astore_n 3, 1) := by decide +kernel
theorem dL_share_13 : decode cL_share 13 = .ok (.iconst 1, 1) := by decide +kernel
theorem dL_share_14 : decode cL_share 14 = .ok (.ireturn, 1) := by decide +kernel
theorem dL_share_15 : decode cL_share 15 = .ok (.astore_n 3, 1) := by decide +kernel
theorem dL_share_16 : decode cL_share 16 = .ok (.iconst 2, 1) := by decide +kernel
theorem dL_share_17 : decode cL_share 17 = .ok (.ireturn, 1) := by decide +kernel
theorem dL_share_18 : decode cL_share 18 = .ok (.iconst 0, 1) := by decide +kernel
theorem dL_share_19 : decode cL_share 19 = .ok (.ireturn, 1) := by decide +kernel
theorem dL_meanLeft_0 : decode cL_meanLeft 0 = .ok (.aload_n 2, 1) := by decide +kernel
theorem dL_meanLeft_1 : decode cL_meanLeft 1 = .ok (.iconst 0, 1) := by decide +kernel
theorem dL_meanLeft_2 : decode cL_meanLeft 2 = .ok (.aload_n 0, 1) := by decide +kernel
theorem dL_meanLeft_3 : decode cL_meanLeft 3 = .ok (.iload_n 1, 1) := by decide +kernel
theorem dL_meanLeft_4 : decode cL_meanLeft 4 = .ok (.invokevirtual 110, 3) := by decide +kernel
theorem dL_meanLeft_7 : decode cL_meanLeft 7 = .ok (.dastore, 1) := by decide +kernel
theorem dL_meanLeft_8 : decode cL_meanLeft 8 = .ok (.goto 9, 3) := by decide +kernel
theorem dL_meanLeft_11 : decode cL_meanLeft 11 = .ok (.astore_n 3, 1) := by decide +kernel
theorem dL_meanLeft_12 : decode cL_meanLeft 12 = .ok (.iconst 1, 1) := by decide +kernel
theorem dL_meanLeft_13 : decode cL_meanLeft 13 = .ok (.ireturn, 1) := by decide +kernel
theorem dL_meanLeft_14 : decode cL_meanLeft 14 = .ok (.astore_n 3, 1) := by decide +kernel
theorem dL_meanLeft_15 : decode cL_meanLeft 15 = .ok (.iconst 2, 1) := by decide +kernel
theorem dL_meanLeft_16 : decode cL_meanLeft 16 = .ok (.ireturn, 1) := by decide +kernel
theorem dL_meanLeft_17 : decode cL_meanLeft 17 = .ok (.iconst 0, 1) := by decide +kernel
theorem dL_meanLeft_18 : decode cL_meanLeft 18 = .ok (.ireturn, 1) := by decide +kernel
theorem dL_law_0 : decode cL_law 0 = .ok (.new 8, 3) := by decide +kernel
theorem dL_law_3 : decode cL_law 3 = .ok (.dup, 1) := by decide +kernel
theorem dL_law_4 : decode cL_law 4 = .ok (.invokespecial 114, 3) := by decide +kernel
theorem dL_law_7 : decode cL_law 7 = .ok (.astore_n 1, 1) := by decide +kernel
theorem dL_law_8 : decode cL_law 8 = .ok (.new 115, 3) := by decide +kernel
theorem dL_law_11 : decode cL_law 11 = .ok (.dup, 1) := by decide +kernel
theorem dL_law_12 : decode cL_law 12 = .ok (.invokespecial 117, 3) := by decide +kernel
theorem dL_law_15 : decode cL_law 15 = .ok (.astore_n 2, 1) := by decide +kernel
theorem dL_law_16 : decode cL_law 16 = .ok (.iconst 1, 1) := by decide +kernel
theorem dL_law_17 : decode cL_law 17 = .ok (.newarray .long, 2) := by decide +kernel
theorem dL_law_19 : decode cL_law 19 = .ok (.astore_n 3, 1) := by decide +kernel
theorem dL_law_20 : decode cL_law 20 = .ok (.iconst 1, 1) := by decide +kernel
theorem dL_law_21 : decode cL_law 21 = .ok (.newarray .double, 2) := by decide +kernel
theorem dL_law_23 : decode cL_law 23 = .ok (.astore 4, 2) := by decide +kernel
theorem dL_law_25 : decode cL_law 25 = .ok (.iconst 0, 1) := by decide +kernel
theorem dL_law_26 : decode cL_law 26 = .ok (.istore 5, 2) := by decide +kernel
theorem dL_law_28 : decode cL_law 28 = .ok (.iload 5, 2) := by decide +kernel
theorem dL_law_30 : decode cL_law 30 = .ok (.aload_n 0, 1) := by decide +kernel
theorem dL_law_31 : decode cL_law 31 = .ok (.arraylength, 1) := by decide +kernel
theorem dL_law_32 : decode cL_law 32 = .ok (.bipush 8, 2) := by decide +kernel
theorem dL_law_34 : decode cL_law 34 = .ok (.isub, 1) := by decide +kernel
theorem dL_law_35 : decode cL_law 35 = .ok (.if_icmp .gt 2231, 3) := by decide +kernel
theorem dL_law_38 : decode cL_law 38 = .ok (.aload_n 0, 1) := by decide +kernel
theorem dL_law_39 : decode cL_law 39 = .ok (.iload 5, 2) := by decide +kernel
theorem dL_law_41 : decode cL_law 41 = .ok (.iaload, 1) := by decide +kernel
theorem dL_law_42 : decode cL_law 42 = .ok (.bipush 31, 2) := by decide +kernel
theorem dL_law_44 : decode cL_law 44 = .ok (.iand, 1) := by decide +kernel
theorem dL_law_45 : decode cL_law 45 = .ok (.tableswitch 2215 0 27 #[127, 241, 415, 485, 555, 636, 742, 824, 880, 948, 1015, 1083, 1151, 1240, 1315, 1383, 1458, 1526, 1594, 1669, 1737, 1793, 1856, 1951, 2033, 2111, 2188, 2202], 127) := by decide +kernel
theorem dL_law_172 : decode cL_law 172 = .ok (.aload_n 1, 1) := by decide +kernel
theorem dL_law_173 : decode cL_law 173 = .ok (.aload_n 0, 1) := by decide +kernel
theorem dL_law_174 : decode cL_law 174 = .ok (.iload 5, 2) := by decide +kernel
theorem dL_law_176 : decode cL_law 176 = .ok (.iconst 1, 1) := by decide +kernel
theorem dL_law_177 : decode cL_law 177 = .ok (.iadd, 1) := by decide +kernel
theorem dL_law_178 : decode cL_law 178 = .ok (.iaload, 1) := by decide +kernel
theorem dL_law_179 : decode cL_law 179 = .ok (.i2c, 1) := by decide +kernel
theorem dL_law_180 : decode cL_law 180 = .ok (.aload_n 0, 1) := by decide +kernel
theorem dL_law_181 : decode cL_law 181 = .ok (.iload 5, 2) := by decide +kernel
theorem dL_law_183 : decode cL_law 183 = .ok (.iconst 2, 1) := by decide +kernel
theorem dL_law_184 : decode cL_law 184 = .ok (.iadd, 1) := by decide +kernel
theorem dL_law_185 : decode cL_law 185 = .ok (.iaload, 1) := by decide +kernel
theorem dL_law_186 : decode cL_law 186 = .ok (.aload_n 0, 1) := by decide +kernel
theorem dL_law_187 : decode cL_law 187 = .ok (.iload 5, 2) := by decide +kernel
theorem dL_law_189 : decode cL_law 189 = .ok (.iconst 3, 1) := by decide +kernel
theorem dL_law_190 : decode cL_law 190 = .ok (.iadd, 1) := by decide +kernel
theorem dL_law_191 : decode cL_law 191 = .ok (.iaload, 1) := by decide +kernel
theorem dL_law_192 : decode cL_law 192 = .ok (.i2l, 1) := by decide +kernel
theorem dL_law_193 : decode cL_law 193 = .ok (.bipush 32, 2) := by decide +kernel
theorem dL_law_195 : decode cL_law 195 = .ok (.lshl, 1) := by decide +kernel
theorem dL_law_196 : decode cL_law 196 = .ok (.aload_n 0, 1) := by decide +kernel
theorem dL_law_197 : decode cL_law 197 = .ok (.iload 5, 2) := by decide +kernel
theorem dL_law_199 : decode cL_law 199 = .ok (.iconst 4, 1) := by decide +kernel
theorem dL_law_200 : decode cL_law 200 = .ok (.iadd, 1) := by decide +kernel
theorem dL_law_201 : decode cL_law 201 = .ok (.iaload, 1) := by decide +kernel
theorem dL_law_202 : decode cL_law 202 = .ok (.i2l, 1) := by decide +kernel
theorem dL_law_203 : decode cL_law 203 = .ok (.ldc2_w 118, 3) := by decide +kernel
theorem dL_law_206 : decode cL_law 206 = .ok (.land, 1) := by decide +kernel
theorem dL_law_207 : decode cL_law 207 = .ok (.lor, 1) := by decide +kernel
theorem dL_law_208 : decode cL_law 208 = .ok (.aload_n 3, 1) := by decide +kernel
theorem dL_law_209 : decode cL_law 209 = .ok (.invokestatic 120, 3) := by decide +kernel
theorem dL_law_212 : decode cL_law 212 = .ok (.istore 6, 2) := by decide +kernel
theorem dL_law_214 : decode cL_law 214 = .ok (.aload_n 2, 1) := by decide +kernel
theorem dL_law_215 : decode cL_law 215 = .ok (.aload_n 0, 1) := by decide +kernel
theorem dL_law_216 : decode cL_law 216 = .ok (.iload 5, 2) := by decide +kernel
theorem dL_law_218 : decode cL_law 218 = .ok (.iconst 1, 1) := by decide +kernel
theorem dL_law_219 : decode cL_law 219 = .ok (.iadd, 1) := by decide +kernel
theorem dL_law_220 : decode cL_law 220 = .ok (.iaload, 1) := by decide +kernel
theorem dL_law_221 : decode cL_law 221 = .ok (.i2c, 1) := by decide +kernel
theorem dL_law_222 : decode cL_law 222 = .ok (.aload_n 0, 1) := by decide +kernel
theorem dL_law_223 : decode cL_law 223 = .ok (.iload 5, 2) := by decide +kernel
theorem dL_law_225 : decode cL_law 225 = .ok (.iconst 2, 1) := by decide +kernel
theorem dL_law_226 : decode cL_law 226 = .ok (.iadd, 1) := by decide +kernel
theorem dL_law_227 : decode cL_law 227 = .ok (.iaload, 1) := by decide +kernel
theorem dL_law_228 : decode cL_law 228 = .ok (.aload_n 0, 1) := by decide +kernel
theorem dL_law_229 : decode cL_law 229 = .ok (.iload 5, 2) := by decide +kernel
theorem dL_law_231 : decode cL_law 231 = .ok (.iconst 3, 1) := by decide +kernel
theorem dL_law_232 : decode cL_law 232 = .ok (.iadd, 1) := by decide +kernel
theorem dL_law_233 : decode cL_law 233 = .ok (.iaload, 1) := by decide +kernel
theorem dL_law_234 : decode cL_law 234 = .ok (.i2l, 1) := by decide +kernel
theorem dL_law_235 : decode cL_law 235 = .ok (.bipush 32, 2) := by decide +kernel
theorem dL_law_237 : decode cL_law 237 = .ok (.lshl, 1) := by decide +kernel
theorem dL_law_238 : decode cL_law 238 = .ok (.aload_n 0, 1) := by decide +kernel
theorem dL_law_239 : decode cL_law 239 = .ok (.iload 5, 2) := by decide +kernel
theorem dL_law_241 : decode cL_law 241 = .ok (.iconst 4, 1) := by decide +kernel
theorem dL_law_242 : decode cL_law 242 = .ok (.iadd, 1) := by decide +kernel
theorem dL_law_243 : decode cL_law 243 = .ok (.iaload, 1) := by decide +kernel
theorem dL_law_244 : decode cL_law 244 = .ok (.i2l, 1) := by decide +kernel
theorem dL_law_245 : decode cL_law 245 = .ok (.ldc2_w 118, 3) := by decide +kernel
theorem dL_law_248 : decode cL_law 248 = .ok (.land, 1) := by decide +kernel
theorem dL_law_249 : decode cL_law 249 = .ok (.lor, 1) := by decide +kernel
theorem dL_law_250 : decode cL_law 250 = .ok (.invokevirtual 125, 3) := by decide +kernel
theorem dL_law_253 : decode cL_law 253 = .ok (.istore 7, 2) := by decide +kernel
theorem dL_law_255 : decode cL_law 255 = .ok (.aload_n 2, 1) := by decide +kernel
theorem dL_law_256 : decode cL_law 256 = .ok (.invokevirtual 126, 3) := by decide +kernel
theorem dL_law_259 : decode cL_law 259 = .ok (.iload 6, 2) := by decide +kernel
theorem dL_law_261 : decode cL_law 261 = .ok (.if_icmp .eq 5, 3) := by decide +kernel
theorem dL_law_264 : decode cL_law 264 = .ok (.iconst 0, 1) := by decide +kernel
theorem dL_law_265 : decode cL_law 265 = .ok (.ireturn, 1) := by decide +kernel
theorem dL_law_266 : decode cL_law 266 = .ok (.iload 6, 2) := by decide +kernel
theorem dL_law_268 : decode cL_law 268 = .ok (.ifCond .ne 15, 3) := by decide +kernel
theorem dL_law_271 : decode cL_law 271 = .ok (.aload_n 3, 1) := by decide +kernel
theorem dL_law_272 : decode cL_law 272 = .ok (.iconst 0, 1) := by decide +kernel
theorem dL_law_273 : decode cL_law 273 = .ok (.laload, 1) := by decide +kernel
theorem dL_law_274 : decode cL_law 274 = .ok (.iload 7, 2) := by decide +kernel
theorem dL_law_276 : decode cL_law 276 = .ok (.i2l, 1) := by decide +kernel
theorem dL_law_277 : decode cL_law 277 = .ok (.lcmp, 1) := by decide +kernel
theorem dL_law_278 : decode cL_law 278 = .ok (.ifCond .eq 5, 3) := by decide +kernel
theorem dL_law_281 : decode cL_law 281 = .ok (.iconst 0, 1) := by decide +kernel
theorem dL_law_282 : decode cL_law 282 = .ok (.ireturn, 1) := by decide +kernel
theorem dL_law_283 : decode cL_law 283 = .ok (.goto 1977, 3) := by decide +kernel
theorem dL_law_286 : decode cL_law 286 = .ok (.aload_n 1, 1) := by decide +kernel
theorem dL_law_287 : decode cL_law 287 = .ok (.aload_n 0, 1) := by decide +kernel
theorem dL_law_288 : decode cL_law 288 = .ok (.iload 5, 2) := by decide +kernel
theorem dL_law_290 : decode cL_law 290 = .ok (.iconst 1, 1) := by decide +kernel
theorem dL_law_291 : decode cL_law 291 = .ok (.iadd, 1) := by decide +kernel
theorem dL_law_292 : decode cL_law 292 = .ok (.iaload, 1) := by decide +kernel
theorem dL_law_293 : decode cL_law 293 = .ok (.i2c, 1) := by decide +kernel
theorem dL_law_294 : decode cL_law 294 = .ok (.aload_n 0, 1) := by decide +kernel
theorem dL_law_295 : decode cL_law 295 = .ok (.iload 5, 2) := by decide +kernel
theorem dL_law_297 : decode cL_law 297 = .ok (.iconst 2, 1) := by decide +kernel
theorem dL_law_298 : decode cL_law 298 = .ok (.iadd, 1) := by decide +kernel
theorem dL_law_299 : decode cL_law 299 = .ok (.iaload, 1) := by decide +kernel
theorem dL_law_300 : decode cL_law 300 = .ok (.aload_n 0, 1) := by decide +kernel
theorem dL_law_301 : decode cL_law 301 = .ok (.iload 5, 2) := by decide +kernel
theorem dL_law_303 : decode cL_law 303 = .ok (.iconst 3, 1) := by decide +kernel
theorem dL_law_304 : decode cL_law 304 = .ok (.iadd, 1) := by decide +kernel
theorem dL_law_305 : decode cL_law 305 = .ok (.iaload, 1) := by decide +kernel
theorem dL_law_306 : decode cL_law 306 = .ok (.aload_n 0, 1) := by decide +kernel
theorem dL_law_307 : decode cL_law 307 = .ok (.iload 5, 2) := by decide +kernel
theorem dL_law_309 : decode cL_law 309 = .ok (.iconst 4, 1) := by decide +kernel
theorem dL_law_310 : decode cL_law 310 = .ok (.iadd, 1) := by decide +kernel
theorem dL_law_311 : decode cL_law 311 = .ok (.iaload, 1) := by decide +kernel
theorem dL_law_312 : decode cL_law 312 = .ok (.i2l, 1) := by decide +kernel
theorem dL_law_313 : decode cL_law 313 = .ok (.bipush 32, 2) := by decide +kernel
theorem dL_law_315 : decode cL_law 315 = .ok (.lshl, 1) := by decide +kernel
theorem dL_law_316 : decode cL_law 316 = .ok (.aload_n 0, 1) := by decide +kernel
theorem dL_law_317 : decode cL_law 317 = .ok (.iload 5, 2) := by decide +kernel
theorem dL_law_319 : decode cL_law 319 = .ok (.iconst 5, 1) := by decide +kernel
theorem dL_law_320 : decode cL_law 320 = .ok (.iadd, 1) := by decide +kernel
theorem dL_law_321 : decode cL_law 321 = .ok (.iaload, 1) := by decide +kernel
theorem dL_law_322 : decode cL_law 322 = .ok (.i2l, 1) := by decide +kernel
theorem dL_law_323 : decode cL_law 323 = .ok (.ldc2_w 118, 3) := by decide +kernel
theorem dL_law_326 : decode cL_law 326 = .ok (.land, 1) := by decide +kernel
theorem dL_law_327 : decode cL_law 327 = .ok (.lor, 1) := by decide +kernel
theorem dL_law_328 : decode cL_law 328 = .ok (.aload_n 0, 1) := by decide +kernel
theorem dL_law_329 : decode cL_law 329 = .ok (.iload 5, 2) := by decide +kernel
theorem dL_law_331 : decode cL_law 331 = .ok (.bipush 6, 2) := by decide +kernel
theorem dL_law_333 : decode cL_law 333 = .ok (.iadd, 1) := by decide +kernel
theorem dL_law_334 : decode cL_law 334 = .ok (.iaload, 1) := by decide +kernel
theorem dL_law_335 : decode cL_law 335 = .ok (.i2l, 1) := by decide +kernel
theorem dL_law_336 : decode cL_law 336 = .ok (.bipush 32, 2) := by decide +kernel
theorem dL_law_338 : decode cL_law 338 = .ok (.lshl, 1) := by decide +kernel
theorem dL_law_339 : decode cL_law 339 = .ok (.aload_n 0, 1) := by decide +kernel
theorem dL_law_340 : decode cL_law 340 = .ok (.iload 5, 2) := by decide +kernel
theorem dL_law_342 : decode cL_law 342 = .ok (.bipush 7, 2) := by decide +kernel
theorem dL_law_344 : decode cL_law 344 = .ok (.iadd, 1) := by decide +kernel
theorem dL_law_345 : decode cL_law 345 = .ok (.iaload, 1) := by decide +kernel
theorem dL_law_346 : decode cL_law 346 = .ok (.i2l, 1) := by decide +kernel
theorem dL_law_347 : decode cL_law 347 = .ok (.ldc2_w 118, 3) := by decide +kernel
theorem dL_law_350 : decode cL_law 350 = .ok (.land, 1) := by decide +kernel
theorem dL_law_351 : decode cL_law 351 = .ok (.lor, 1) := by decide +kernel
theorem dL_law_352 : decode cL_law 352 = .ok (.aload_n 3, 1) := by decide +kernel
theorem dL_law_353 : decode cL_law 353 = .ok (.invokestatic 130, 3) := by decide +kernel
theorem dL_law_356 : decode cL_law 356 = .ok (.istore 6, 2) := by decide +kernel
theorem dL_law_358 : decode cL_law 358 = .ok (.aload_n 2, 1) := by decide +kernel
theorem dL_law_359 : decode cL_law 359 = .ok (.aload_n 0, 1) := by decide +kernel
theorem dL_law_360 : decode cL_law 360 = .ok (.iload 5, 2) := by decide +kernel
theorem dL_law_362 : decode cL_law 362 = .ok (.iconst 1, 1) := by decide +kernel
theorem dL_law_363 : decode cL_law 363 = .ok (.iadd, 1) := by decide +kernel
theorem dL_law_364 : decode cL_law 364 = .ok (.iaload, 1) := by decide +kernel
theorem dL_law_365 : decode cL_law 365 = .ok (.i2c, 1) := by decide +kernel
theorem dL_law_366 : decode cL_law 366 = .ok (.aload_n 0, 1) := by decide +kernel
theorem dL_law_367 : decode cL_law 367 = .ok (.iload 5, 2) := by decide +kernel
theorem dL_law_369 : decode cL_law 369 = .ok (.iconst 2, 1) := by decide +kernel
theorem dL_law_370 : decode cL_law 370 = .ok (.iadd, 1) := by decide +kernel
theorem dL_law_371 : decode cL_law 371 = .ok (.iaload, 1) := by decide +kernel
theorem dL_law_372 : decode cL_law 372 = .ok (.aload_n 0, 1) := by decide +kernel
theorem dL_law_373 : decode cL_law 373 = .ok (.iload 5, 2) := by decide +kernel
theorem dL_law_375 : decode cL_law 375 = .ok (.iconst 3, 1) := by decide +kernel
theorem dL_law_376 : decode cL_law 376 = .ok (.iadd, 1) := by decide +kernel
theorem dL_law_377 : decode cL_law 377 = .ok (.iaload, 1) := by decide +kernel
theorem dL_law_378 : decode cL_law 378 = .ok (.aload_n 0, 1) := by decide +kernel
theorem dL_law_379 : decode cL_law 379 = .ok (.iload 5, 2) := by decide +kernel
theorem dL_law_381 : decode cL_law 381 = .ok (.iconst 4, 1) := by decide +kernel
theorem dL_law_382 : decode cL_law 382 = .ok (.iadd, 1) := by decide +kernel
theorem dL_law_383 : decode cL_law 383 = .ok (.iaload, 1) := by decide +kernel
theorem dL_law_384 : decode cL_law 384 = .ok (.i2l, 1) := by decide +kernel
theorem dL_law_385 : decode cL_law 385 = .ok (.bipush 32, 2) := by decide +kernel
theorem dL_law_387 : decode cL_law 387 = .ok (.lshl, 1) := by decide +kernel
theorem dL_law_388 : decode cL_law 388 = .ok (.aload_n 0, 1) := by decide +kernel
theorem dL_law_389 : decode cL_law 389 = .ok (.iload 5, 2) := by decide +kernel
theorem dL_law_391 : decode cL_law 391 = .ok (.iconst 5, 1) := by decide +kernel
theorem dL_law_392 : decode cL_law 392 = .ok (.iadd, 1) := by decide +kernel
theorem dL_law_393 : decode cL_law 393 = .ok (.iaload, 1) := by decide +kernel
theorem dL_law_394 : decode cL_law 394 = .ok (.i2l, 1) := by decide +kernel
theorem dL_law_395 : decode cL_law 395 = .ok (.ldc2_w 118, 3) := by decide +kernel
theorem dL_law_398 : decode cL_law 398 = .ok (.land, 1) := by decide +kernel
theorem dL_law_399 : decode cL_law 399 = .ok (.lor, 1) := by decide +kernel
theorem dL_law_400 : decode cL_law 400 = .ok (.aload_n 0, 1) := by decide +kernel
theorem dL_law_401 : decode cL_law 401 = .ok (.iload 5, 2) := by decide +kernel
theorem dL_law_403 : decode cL_law 403 = .ok (.bipush 6, 2) := by decide +kernel
theorem dL_law_405 : decode cL_law 405 = .ok (.iadd, 1) := by decide +kernel
theorem dL_law_406 : decode cL_law 406 = .ok (.iaload, 1) := by decide +kernel
theorem dL_law_407 : decode cL_law 407 = .ok (.i2l, 1) := by decide +kernel
theorem dL_law_408 : decode cL_law 408 = .ok (.bipush 32, 2) := by decide +kernel
theorem dL_law_410 : decode cL_law 410 = .ok (.lshl, 1) := by decide +kernel
theorem dL_law_411 : decode cL_law 411 = .ok (.aload_n 0, 1) := by decide +kernel
theorem dL_law_412 : decode cL_law 412 = .ok (.iload 5, 2) := by decide +kernel
theorem dL_law_414 : decode cL_law 414 = .ok (.bipush 7, 2) := by decide +kernel
theorem dL_law_416 : decode cL_law 416 = .ok (.iadd, 1) := by decide +kernel
theorem dL_law_417 : decode cL_law 417 = .ok (.iaload, 1) := by decide +kernel
theorem dL_law_418 : decode cL_law 418 = .ok (.i2l, 1) := by decide +kernel
theorem dL_law_419 : decode cL_law 419 = .ok (.ldc2_w 118, 3) := by decide +kernel
theorem dL_law_422 : decode cL_law 422 = .ok (.land, 1) := by decide +kernel
theorem dL_law_423 : decode cL_law 423 = .ok (.lor, 1) := by decide +kernel
theorem dL_law_424 : decode cL_law 424 = .ok (.invokevirtual 133, 3) := by decide +kernel
theorem dL_law_427 : decode cL_law 427 = .ok (.istore 7, 2) := by decide +kernel
theorem dL_law_429 : decode cL_law 429 = .ok (.aload_n 2, 1) := by decide +kernel
theorem dL_law_430 : decode cL_law 430 = .ok (.invokevirtual 126, 3) := by decide +kernel
theorem dL_law_433 : decode cL_law 433 = .ok (.iload 6, 2) := by decide +kernel
theorem dL_law_435 : decode cL_law 435 = .ok (.if_icmp .eq 5, 3) := by decide +kernel
theorem dL_law_438 : decode cL_law 438 = .ok (.iconst 0, 1) := by decide +kernel
theorem dL_law_439 : decode cL_law 439 = .ok (.ireturn, 1) := by decide +kernel
theorem dL_law_440 : decode cL_law 440 = .ok (.iload 6, 2) := by decide +kernel
theorem dL_law_442 : decode cL_law 442 = .ok (.ifCond .ne 15, 3) := by decide +kernel
theorem dL_law_445 : decode cL_law 445 = .ok (.aload_n 3, 1) := by decide +kernel
theorem dL_law_446 : decode cL_law 446 = .ok (.iconst 0, 1) := by decide +kernel
theorem dL_law_447 : decode cL_law 447 = .ok (.laload, 1) := by decide +kernel
theorem dL_law_448 : decode cL_law 448 = .ok (.iload 7, 2) := by decide +kernel
theorem dL_law_450 : decode cL_law 450 = .ok (.i2l, 1) := by decide +kernel
theorem dL_law_451 : decode cL_law 451 = .ok (.lcmp, 1) := by decide +kernel
theorem dL_law_452 : decode cL_law 452 = .ok (.ifCond .eq 5, 3) := by decide +kernel
theorem dL_law_455 : decode cL_law 455 = .ok (.iconst 0, 1) := by decide +kernel
theorem dL_law_456 : decode cL_law 456 = .ok (.ireturn, 1) := by decide +kernel
theorem dL_law_457 : decode cL_law 457 = .ok (.goto 1803, 3) := by decide +kernel
theorem dL_law_460 : decode cL_law 460 = .ok (.aload_n 1, 1) := by decide +kernel
theorem dL_law_461 : decode cL_law 461 = .ok (.aload_n 0, 1) := by decide +kernel
theorem dL_law_462 : decode cL_law 462 = .ok (.iload 5, 2) := by decide +kernel
theorem dL_law_464 : decode cL_law 464 = .ok (.iconst 1, 1) := by decide +kernel
theorem dL_law_465 : decode cL_law 465 = .ok (.iadd, 1) := by decide +kernel
theorem dL_law_466 : decode cL_law 466 = .ok (.iaload, 1) := by decide +kernel
theorem dL_law_467 : decode cL_law 467 = .ok (.i2c, 1) := by decide +kernel
theorem dL_law_468 : decode cL_law 468 = .ok (.aload_n 0, 1) := by decide +kernel
theorem dL_law_469 : decode cL_law 469 = .ok (.iload 5, 2) := by decide +kernel
theorem dL_law_471 : decode cL_law 471 = .ok (.iconst 2, 1) := by decide +kernel
theorem dL_law_472 : decode cL_law 472 = .ok (.iadd, 1) := by decide +kernel
theorem dL_law_473 : decode cL_law 473 = .ok (.iaload, 1) := by decide +kernel
theorem dL_law_474 : decode cL_law 474 = .ok (.aload_n 3, 1) := by decide +kernel
theorem dL_law_475 : decode cL_law 475 = .ok (.invokestatic 134, 3) := by decide +kernel
theorem dL_law_478 : decode cL_law 478 = .ok (.istore 6, 2) := by decide +kernel
theorem dL_law_480 : decode cL_law 480 = .ok (.aload_n 2, 1) := by decide +kernel
theorem dL_law_481 : decode cL_law 481 = .ok (.aload_n 0, 1) := by decide +kernel
theorem dL_law_482 : decode cL_law 482 = .ok (.iload 5, 2) := by decide +kernel
theorem dL_law_484 : decode cL_law 484 = .ok (.iconst 1, 1) := by decide +kernel
theorem dL_law_485 : decode cL_law 485 = .ok (.iadd, 1) := by decide +kernel
theorem dL_law_486 : decode cL_law 486 = .ok (.iaload, 1) := by decide +kernel
theorem dL_law_487 : decode cL_law 487 = .ok (.i2c, 1) := by decide +kernel
theorem dL_law_488 : decode cL_law 488 = .ok (.aload_n 0, 1) := by decide +kernel
theorem dL_law_489 : decode cL_law 489 = .ok (.iload 5, 2) := by decide +kernel
theorem dL_law_491 : decode cL_law 491 = .ok (.iconst 2, 1) := by decide +kernel
theorem dL_law_492 : decode cL_law 492 = .ok (.iadd, 1) := by decide +kernel
theorem dL_law_493 : decode cL_law 493 = .ok (.iaload, 1) := by decide +kernel
theorem dL_law_494 : decode cL_law 494 = .ok (.invokevirtual 137, 3) := by decide +kernel
theorem dL_law_497 : decode cL_law 497 = .ok (.istore 7, 2) := by decide +kernel
theorem dL_law_499 : decode cL_law 499 = .ok (.aload_n 2, 1) := by decide +kernel
theorem dL_law_500 : decode cL_law 500 = .ok (.invokevirtual 126, 3) := by decide +kernel
theorem dL_law_503 : decode cL_law 503 = .ok (.iload 6, 2) := by decide +kernel
theorem dL_law_505 : decode cL_law 505 = .ok (.if_icmp .eq 5, 3) := by decide +kernel
theorem dL_law_508 : decode cL_law 508 = .ok (.iconst 0, 1) := by decide +kernel
theorem dL_law_509 : decode cL_law 509 = .ok (.ireturn, 1) := by decide +kernel
theorem dL_law_510 : decode cL_law 510 = .ok (.iload 6, 2) := by decide +kernel
theorem dL_law_512 : decode cL_law 512 = .ok (.ifCond .ne 15, 3) := by decide +kernel
theorem dL_law_515 : decode cL_law 515 = .ok (.aload_n 3, 1) := by decide +kernel
theorem dL_law_516 : decode cL_law 516 = .ok (.iconst 0, 1) := by decide +kernel
theorem dL_law_517 : decode cL_law 517 = .ok (.laload, 1) := by decide +kernel
theorem dL_law_518 : decode cL_law 518 = .ok (.iload 7, 2) := by decide +kernel
theorem dL_law_520 : decode cL_law 520 = .ok (.i2l, 1) := by decide +kernel
theorem dL_law_521 : decode cL_law 521 = .ok (.lcmp, 1) := by decide +kernel
theorem dL_law_522 : decode cL_law 522 = .ok (.ifCond .eq 5, 3) := by decide +kernel
theorem dL_law_525 : decode cL_law 525 = .ok (.iconst 0, 1) := by decide +kernel
theorem dL_law_526 : decode cL_law 526 = .ok (.ireturn, 1) := by decide +kernel
theorem dL_law_527 : decode cL_law 527 = .ok (.goto 1733, 3) := by decide +kernel
theorem dL_law_530 : decode cL_law 530 = .ok (.aload_n 1, 1) := by decide +kernel
theorem dL_law_531 : decode cL_law 531 = .ok (.aload_n 0, 1) := by decide +kernel
theorem dL_law_532 : decode cL_law 532 = .ok (.iload 5, 2) := by decide +kernel
theorem dL_law_534 : decode cL_law 534 = .ok (.iconst 1, 1) := by decide +kernel
theorem dL_law_535 : decode cL_law 535 = .ok (.iadd, 1) := by decide +kernel
theorem dL_law_536 : decode cL_law 536 = .ok (.iaload, 1) := by decide +kernel
theorem dL_law_537 : decode cL_law 537 = .ok (.i2c, 1) := by decide +kernel
theorem dL_law_538 : decode cL_law 538 = .ok (.aload_n 0, 1) := by decide +kernel
theorem dL_law_539 : decode cL_law 539 = .ok (.iload 5, 2) := by decide +kernel
theorem dL_law_541 : decode cL_law 541 = .ok (.iconst 2, 1) := by decide +kernel
theorem dL_law_542 : decode cL_law 542 = .ok (.iadd, 1) := by decide +kernel
theorem dL_law_543 : decode cL_law 543 = .ok (.iaload, 1) := by decide +kernel
theorem dL_law_544 : decode cL_law 544 = .ok (.aload_n 3, 1) := by decide +kernel
theorem dL_law_545 : decode cL_law 545 = .ok (.invokestatic 138, 3) := by decide +kernel
theorem dL_law_548 : decode cL_law 548 = .ok (.istore 6, 2) := by decide +kernel
theorem dL_law_550 : decode cL_law 550 = .ok (.aload_n 2, 1) := by decide +kernel
theorem dL_law_551 : decode cL_law 551 = .ok (.aload_n 0, 1) := by decide +kernel
theorem dL_law_552 : decode cL_law 552 = .ok (.iload 5, 2) := by decide +kernel
theorem dL_law_554 : decode cL_law 554 = .ok (.iconst 1, 1) := by decide +kernel
theorem dL_law_555 : decode cL_law 555 = .ok (.iadd, 1) := by decide +kernel
theorem dL_law_556 : decode cL_law 556 = .ok (.iaload, 1) := by decide +kernel
theorem dL_law_557 : decode cL_law 557 = .ok (.i2c, 1) := by decide +kernel
theorem dL_law_558 : decode cL_law 558 = .ok (.aload_n 0, 1) := by decide +kernel
theorem dL_law_559 : decode cL_law 559 = .ok (.iload 5, 2) := by decide +kernel
theorem dL_law_561 : decode cL_law 561 = .ok (.iconst 2, 1) := by decide +kernel
theorem dL_law_562 : decode cL_law 562 = .ok (.iadd, 1) := by decide +kernel
theorem dL_law_563 : decode cL_law 563 = .ok (.iaload, 1) := by decide +kernel
theorem dL_law_564 : decode cL_law 564 = .ok (.invokevirtual 140, 3) := by decide +kernel
theorem dL_law_567 : decode cL_law 567 = .ok (.istore 7, 2) := by decide +kernel
theorem dL_law_569 : decode cL_law 569 = .ok (.aload_n 2, 1) := by decide +kernel
theorem dL_law_570 : decode cL_law 570 = .ok (.invokevirtual 126, 3) := by decide +kernel
theorem dL_law_573 : decode cL_law 573 = .ok (.iload 6, 2) := by decide +kernel
theorem dL_law_575 : decode cL_law 575 = .ok (.if_icmp .eq 5, 3) := by decide +kernel
theorem dL_law_578 : decode cL_law 578 = .ok (.iconst 0, 1) := by decide +kernel
theorem dL_law_579 : decode cL_law 579 = .ok (.ireturn, 1) := by decide +kernel
theorem dL_law_580 : decode cL_law 580 = .ok (.iload 6, 2) := by decide +kernel
theorem dL_law_582 : decode cL_law 582 = .ok (.ifCond .ne 15, 3) := by decide +kernel
theorem dL_law_585 : decode cL_law 585 = .ok (.aload_n 3, 1) := by decide +kernel
theorem dL_law_586 : decode cL_law 586 = .ok (.iconst 0, 1) := by decide +kernel
theorem dL_law_587 : decode cL_law 587 = .ok (.laload, 1) := by decide +kernel
theorem dL_law_588 : decode cL_law 588 = .ok (.iload 7, 2) := by decide +kernel
theorem dL_law_590 : decode cL_law 590 = .ok (.i2l, 1) := by decide +kernel
theorem dL_law_591 : decode cL_law 591 = .ok (.lcmp, 1) := by decide +kernel
theorem dL_law_592 : decode cL_law 592 = .ok (.ifCond .eq 5, 3) := by decide +kernel
theorem dL_law_595 : decode cL_law 595 = .ok (.iconst 0, 1) := by decide +kernel
theorem dL_law_596 : decode cL_law 596 = .ok (.ireturn, 1) := by decide +kernel
theorem dL_law_597 : decode cL_law 597 = .ok (.goto 1663, 3) := by decide +kernel
theorem dL_law_600 : decode cL_law 600 = .ok (.aload_n 1, 1) := by decide +kernel
theorem dL_law_601 : decode cL_law 601 = .ok (.aload_n 0, 1) := by decide +kernel
theorem dL_law_602 : decode cL_law 602 = .ok (.iload 5, 2) := by decide +kernel
theorem dL_law_604 : decode cL_law 604 = .ok (.iconst 1, 1) := by decide +kernel
theorem dL_law_605 : decode cL_law 605 = .ok (.iadd, 1) := by decide +kernel
theorem dL_law_606 : decode cL_law 606 = .ok (.iaload, 1) := by decide +kernel
theorem dL_law_607 : decode cL_law 607 = .ok (.i2c, 1) := by decide +kernel
theorem dL_law_608 : decode cL_law 608 = .ok (.aload_n 0, 1) := by decide +kernel
theorem dL_law_609 : decode cL_law 609 = .ok (.iload 5, 2) := by decide +kernel
theorem dL_law_611 : decode cL_law 611 = .ok (.iconst 2, 1) := by decide +kernel
theorem dL_law_612 : decode cL_law 612 = .ok (.iadd, 1) := by decide +kernel
theorem dL_law_613 : decode cL_law 613 = .ok (.iaload, 1) := by decide +kernel
theorem dL_law_614 : decode cL_law 614 = .ok (.aload_n 0, 1) := by decide +kernel
theorem dL_law_615 : decode cL_law 615 = .ok (.iload 5, 2) := by decide +kernel
theorem dL_law_617 : decode cL_law 617 = .ok (.iconst 3, 1) := by decide +kernel
theorem dL_law_618 : decode cL_law 618 = .ok (.iadd, 1) := by decide +kernel
theorem dL_law_619 : decode cL_law 619 = .ok (.iaload, 1) := by decide +kernel
theorem dL_law_620 : decode cL_law 620 = .ok (.aload_n 3, 1) := by decide +kernel
theorem dL_law_621 : decode cL_law 621 = .ok (.invokestatic 141, 3) := by decide +kernel
theorem dL_law_624 : decode cL_law 624 = .ok (.istore 6, 2) := by decide +kernel
theorem dL_law_626 : decode cL_law 626 = .ok (.aload_n 2, 1) := by decide +kernel
theorem dL_law_627 : decode cL_law 627 = .ok (.aload_n 0, 1) := by decide +kernel
theorem dL_law_628 : decode cL_law 628 = .ok (.iload 5, 2) := by decide +kernel
theorem dL_law_630 : decode cL_law 630 = .ok (.iconst 1, 1) := by decide +kernel
theorem dL_law_631 : decode cL_law 631 = .ok (.iadd, 1) := by decide +kernel
theorem dL_law_632 : decode cL_law 632 = .ok (.iaload, 1) := by decide +kernel
theorem dL_law_633 : decode cL_law 633 = .ok (.i2c, 1) := by decide +kernel
theorem dL_law_634 : decode cL_law 634 = .ok (.aload_n 0, 1) := by decide +kernel
theorem dL_law_635 : decode cL_law 635 = .ok (.iload 5, 2) := by decide +kernel
theorem dL_law_637 : decode cL_law 637 = .ok (.iconst 2, 1) := by decide +kernel
theorem dL_law_638 : decode cL_law 638 = .ok (.iadd, 1) := by decide +kernel
theorem dL_law_639 : decode cL_law 639 = .ok (.iaload, 1) := by decide +kernel
theorem dL_law_640 : decode cL_law 640 = .ok (.aload_n 0, 1) := by decide +kernel
theorem dL_law_641 : decode cL_law 641 = .ok (.iload 5, 2) := by decide +kernel
theorem dL_law_643 : decode cL_law 643 = .ok (.iconst 3, 1) := by decide +kernel
theorem dL_law_644 : decode cL_law 644 = .ok (.iadd, 1) := by decide +kernel
theorem dL_law_645 : decode cL_law 645 = .ok (.iaload, 1) := by decide +kernel
theorem dL_law_646 : decode cL_law 646 = .ok (.invokevirtual 144, 3) := by decide +kernel
theorem dL_law_649 : decode cL_law 649 = .ok (.lstore 7, 2) := by decide +kernel
theorem dL_law_651 : decode cL_law 651 = .ok (.aload_n 2, 1) := by decide +kernel
theorem dL_law_652 : decode cL_law 652 = .ok (.invokevirtual 126, 3) := by decide +kernel
theorem dL_law_655 : decode cL_law 655 = .ok (.iload 6, 2) := by decide +kernel
theorem dL_law_657 : decode cL_law 657 = .ok (.if_icmp .eq 5, 3) := by decide +kernel
theorem dL_law_660 : decode cL_law 660 = .ok (.iconst 0, 1) := by decide +kernel
theorem dL_law_661 : decode cL_law 661 = .ok (.ireturn, 1) := by decide +kernel
theorem dL_law_662 : decode cL_law 662 = .ok (.iload 6, 2) := by decide +kernel
theorem dL_law_664 : decode cL_law 664 = .ok (.ifCond .ne 14, 3) := by decide +kernel
theorem dL_law_667 : decode cL_law 667 = .ok (.aload_n 3, 1) := by decide +kernel
theorem dL_law_668 : decode cL_law 668 = .ok (.iconst 0, 1) := by decide +kernel
theorem dL_law_669 : decode cL_law 669 = .ok (.laload, 1) := by decide +kernel
theorem dL_law_670 : decode cL_law 670 = .ok (.lload 7, 2) := by decide +kernel
theorem dL_law_672 : decode cL_law 672 = .ok (.lcmp, 1) := by decide +kernel
theorem dL_law_673 : decode cL_law 673 = .ok (.ifCond .eq 5, 3) := by decide +kernel
theorem dL_law_676 : decode cL_law 676 = .ok (.iconst 0, 1) := by decide +kernel
theorem dL_law_677 : decode cL_law 677 = .ok (.ireturn, 1) := by decide +kernel
theorem dL_law_678 : decode cL_law 678 = .ok (.goto 1582, 3) := by decide +kernel
theorem dL_law_681 : decode cL_law 681 = .ok (.aload_n 1, 1) := by decide +kernel
theorem dL_law_682 : decode cL_law 682 = .ok (.aload_n 0, 1) := by decide +kernel
theorem dL_law_683 : decode cL_law 683 = .ok (.iload 5, 2) := by decide +kernel
theorem dL_law_685 : decode cL_law 685 = .ok (.iconst 1, 1) := by decide +kernel
theorem dL_law_686 : decode cL_law 686 = .ok (.iadd, 1) := by decide +kernel
theorem dL_law_687 : decode cL_law 687 = .ok (.iaload, 1) := by decide +kernel
theorem dL_law_688 : decode cL_law 688 = .ok (.aload_n 0, 1) := by decide +kernel
theorem dL_law_689 : decode cL_law 689 = .ok (.iload 5, 2) := by decide +kernel
theorem dL_law_691 : decode cL_law 691 = .ok (.iconst 2, 1) := by decide +kernel
theorem dL_law_692 : decode cL_law 692 = .ok (.iadd, 1) := by decide +kernel
theorem dL_law_693 : decode cL_law 693 = .ok (.iaload, 1) := by decide +kernel
theorem dL_law_694 : decode cL_law 694 = .ok (.i2c, 1) := by decide +kernel
theorem dL_law_695 : decode cL_law 695 = .ok (.aload_n 0, 1) := by decide +kernel
theorem dL_law_696 : decode cL_law 696 = .ok (.iload 5, 2) := by decide +kernel
theorem dL_law_698 : decode cL_law 698 = .ok (.iconst 3, 1) := by decide +kernel
theorem dL_law_699 : decode cL_law 699 = .ok (.iadd, 1) := by decide +kernel
theorem dL_law_700 : decode cL_law 700 = .ok (.iaload, 1) := by decide +kernel
theorem dL_law_701 : decode cL_law 701 = .ok (.aload_n 0, 1) := by decide +kernel
theorem dL_law_702 : decode cL_law 702 = .ok (.iload 5, 2) := by decide +kernel
theorem dL_law_704 : decode cL_law 704 = .ok (.iconst 4, 1) := by decide +kernel
theorem dL_law_705 : decode cL_law 705 = .ok (.iadd, 1) := by decide +kernel
theorem dL_law_706 : decode cL_law 706 = .ok (.iaload, 1) := by decide +kernel
theorem dL_law_707 : decode cL_law 707 = .ok (.aload_n 0, 1) := by decide +kernel
theorem dL_law_708 : decode cL_law 708 = .ok (.iload 5, 2) := by decide +kernel
theorem dL_law_710 : decode cL_law 710 = .ok (.iconst 5, 1) := by decide +kernel
theorem dL_law_711 : decode cL_law 711 = .ok (.iadd, 1) := by decide +kernel
theorem dL_law_712 : decode cL_law 712 = .ok (.iaload, 1) := by decide +kernel
theorem dL_law_713 : decode cL_law 713 = .ok (.aload_n 3, 1) := by decide +kernel
theorem dL_law_714 : decode cL_law 714 = .ok (.invokestatic 145, 3) := by decide +kernel
theorem dL_law_717 : decode cL_law 717 = .ok (.istore 6, 2) := by decide +kernel
theorem dL_law_719 : decode cL_law 719 = .ok (.aload_n 2, 1) := by decide +kernel
theorem dL_law_720 : decode cL_law 720 = .ok (.aload_n 0, 1) := by decide +kernel
theorem dL_law_721 : decode cL_law 721 = .ok (.iload 5, 2) := by decide +kernel
theorem dL_law_723 : decode cL_law 723 = .ok (.iconst 1, 1) := by decide +kernel
theorem dL_law_724 : decode cL_law 724 = .ok (.iadd, 1) := by decide +kernel
theorem dL_law_725 : decode cL_law 725 = .ok (.iaload, 1) := by decide +kernel
theorem dL_law_726 : decode cL_law 726 = .ok (.aload_n 0, 1) := by decide +kernel
theorem dL_law_727 : decode cL_law 727 = .ok (.iload 5, 2) := by decide +kernel
theorem dL_law_729 : decode cL_law 729 = .ok (.iconst 2, 1) := by decide +kernel
theorem dL_law_730 : decode cL_law 730 = .ok (.iadd, 1) := by decide +kernel
theorem dL_law_731 : decode cL_law 731 = .ok (.iaload, 1) := by decide +kernel
theorem dL_law_732 : decode cL_law 732 = .ok (.i2c, 1) := by decide +kernel
theorem dL_law_733 : decode cL_law 733 = .ok (.aload_n 0, 1) := by decide +kernel
theorem dL_law_734 : decode cL_law 734 = .ok (.iload 5, 2) := by decide +kernel
theorem dL_law_736 : decode cL_law 736 = .ok (.iconst 3, 1) := by decide +kernel
theorem dL_law_737 : decode cL_law 737 = .ok (.iadd, 1) := by decide +kernel
theorem dL_law_738 : decode cL_law 738 = .ok (.iaload, 1) := by decide +kernel
theorem dL_law_739 : decode cL_law 739 = .ok (.aload_n 0, 1) := by decide +kernel
theorem dL_law_740 : decode cL_law 740 = .ok (.iload 5, 2) := by decide +kernel
theorem dL_law_742 : decode cL_law 742 = .ok (.iconst 4, 1) := by decide +kernel
theorem dL_law_743 : decode cL_law 743 = .ok (.iadd, 1) := by decide +kernel
theorem dL_law_744 : decode cL_law 744 = .ok (.iaload, 1) := by decide +kernel
theorem dL_law_745 : decode cL_law 745 = .ok (.aload_n 0, 1) := by decide +kernel
theorem dL_law_746 : decode cL_law 746 = .ok (.iload 5, 2) := by decide +kernel
theorem dL_law_748 : decode cL_law 748 = .ok (.iconst 5, 1) := by decide +kernel
theorem dL_law_749 : decode cL_law 749 = .ok (.iadd, 1) := by decide +kernel
theorem dL_law_750 : decode cL_law 750 = .ok (.iaload, 1) := by decide +kernel
theorem dL_law_751 : decode cL_law 751 = .ok (.invokevirtual 148, 3) := by decide +kernel
theorem dL_law_754 : decode cL_law 754 = .ok (.istore 7, 2) := by decide +kernel
theorem dL_law_756 : decode cL_law 756 = .ok (.aload_n 2, 1) := by decide +kernel
theorem dL_law_757 : decode cL_law 757 = .ok (.invokevirtual 126, 3) := by decide +kernel
theorem dL_law_760 : decode cL_law 760 = .ok (.iload 6, 2) := by decide +kernel
theorem dL_law_762 : decode cL_law 762 = .ok (.if_icmp .eq 5, 3) := by decide +kernel
theorem dL_law_765 : decode cL_law 765 = .ok (.iconst 0, 1) := by decide +kernel
theorem dL_law_766 : decode cL_law 766 = .ok (.ireturn, 1) := by decide +kernel
theorem dL_law_767 : decode cL_law 767 = .ok (.iload 6, 2) := by decide +kernel
theorem dL_law_769 : decode cL_law 769 = .ok (.ifCond .ne 15, 3) := by decide +kernel
theorem dL_law_772 : decode cL_law 772 = .ok (.aload_n 3, 1) := by decide +kernel
theorem dL_law_773 : decode cL_law 773 = .ok (.iconst 0, 1) := by decide +kernel
theorem dL_law_774 : decode cL_law 774 = .ok (.laload, 1) := by decide +kernel
theorem dL_law_775 : decode cL_law 775 = .ok (.iload 7, 2) := by decide +kernel
theorem dL_law_777 : decode cL_law 777 = .ok (.i2l, 1) := by decide +kernel
theorem dL_law_778 : decode cL_law 778 = .ok (.lcmp, 1) := by decide +kernel
theorem dL_law_779 : decode cL_law 779 = .ok (.ifCond .eq 5, 3) := by decide +kernel
theorem dL_law_782 : decode cL_law 782 = .ok (.iconst 0, 1) := by decide +kernel
theorem dL_law_783 : decode cL_law 783 = .ok (.ireturn, 1) := by decide +kernel
theorem dL_law_784 : decode cL_law 784 = .ok (.goto 1476, 3) := by decide +kernel
theorem dL_law_787 : decode cL_law 787 = .ok (.aload_n 1, 1) := by decide +kernel
theorem dL_law_788 : decode cL_law 788 = .ok (.aload_n 0, 1) := by decide +kernel
theorem dL_law_789 : decode cL_law 789 = .ok (.iload 5, 2) := by decide +kernel
theorem dL_law_791 : decode cL_law 791 = .ok (.iconst 1, 1) := by decide +kernel
theorem dL_law_792 : decode cL_law 792 = .ok (.iadd, 1) := by decide +kernel
theorem dL_law_793 : decode cL_law 793 = .ok (.iaload, 1) := by decide +kernel
theorem dL_law_794 : decode cL_law 794 = .ok (.aload_n 0, 1) := by decide +kernel
theorem dL_law_795 : decode cL_law 795 = .ok (.iload 5, 2) := by decide +kernel
theorem dL_law_797 : decode cL_law 797 = .ok (.iconst 2, 1) := by decide +kernel
theorem dL_law_798 : decode cL_law 798 = .ok (.iadd, 1) := by decide +kernel
theorem dL_law_799 : decode cL_law 799 = .ok (.iaload, 1) := by decide +kernel
theorem dL_law_800 : decode cL_law 800 = .ok (.i2c, 1) := by decide +kernel
theorem dL_law_801 : decode cL_law 801 = .ok (.aload_n 0, 1) := by decide +kernel
theorem dL_law_802 : decode cL_law 802 = .ok (.iload 5, 2) := by decide +kernel
theorem dL_law_804 : decode cL_law 804 = .ok (.iconst 3, 1) := by decide +kernel
theorem dL_law_805 : decode cL_law 805 = .ok (.iadd, 1) := by decide +kernel
theorem dL_law_806 : decode cL_law 806 = .ok (.iaload, 1) := by decide +kernel
theorem dL_law_807 : decode cL_law 807 = .ok (.aload_n 3, 1) := by decide +kernel
theorem dL_law_808 : decode cL_law 808 = .ok (.invokestatic 149, 3) := by decide +kernel
theorem dL_law_811 : decode cL_law 811 = .ok (.istore 6, 2) := by decide +kernel
theorem dL_law_813 : decode cL_law 813 = .ok (.aload_n 2, 1) := by decide +kernel
theorem dL_law_814 : decode cL_law 814 = .ok (.aload_n 0, 1) := by decide +kernel
theorem dL_law_815 : decode cL_law 815 = .ok (.iload 5, 2) := by decide +kernel
theorem dL_law_817 : decode cL_law 817 = .ok (.iconst 1, 1) := by decide +kernel
theorem dL_law_818 : decode cL_law 818 = .ok (.iadd, 1) := by decide +kernel
theorem dL_law_819 : decode cL_law 819 = .ok (.iaload, 1) := by decide +kernel
theorem dL_law_820 : decode cL_law 820 = .ok (.aload_n 0, 1) := by decide +kernel
theorem dL_law_821 : decode cL_law 821 = .ok (.iload 5, 2) := by decide +kernel
theorem dL_law_823 : decode cL_law 823 = .ok (.iconst 2, 1) := by decide +kernel
theorem dL_law_824 : decode cL_law 824 = .ok (.iadd, 1) := by decide +kernel
theorem dL_law_825 : decode cL_law 825 = .ok (.iaload, 1) := by decide +kernel
theorem dL_law_826 : decode cL_law 826 = .ok (.i2c, 1) := by decide +kernel
theorem dL_law_827 : decode cL_law 827 = .ok (.aload_n 0, 1) := by decide +kernel
theorem dL_law_828 : decode cL_law 828 = .ok (.iload 5, 2) := by decide +kernel
theorem dL_law_830 : decode cL_law 830 = .ok (.iconst 3, 1) := by decide +kernel
theorem dL_law_831 : decode cL_law 831 = .ok (.iadd, 1) := by decide +kernel
theorem dL_law_832 : decode cL_law 832 = .ok (.iaload, 1) := by decide +kernel
theorem dL_law_833 : decode cL_law 833 = .ok (.invokevirtual 152, 3) := by decide +kernel
theorem dL_law_836 : decode cL_law 836 = .ok (.istore 7, 2) := by decide +kernel
theorem dL_law_838 : decode cL_law 838 = .ok (.aload_n 2, 1) := by decide +kernel
theorem dL_law_839 : decode cL_law 839 = .ok (.invokevirtual 126, 3) := by decide +kernel
theorem dL_law_842 : decode cL_law 842 = .ok (.iload 6, 2) := by decide +kernel
theorem dL_law_844 : decode cL_law 844 = .ok (.if_icmp .eq 5, 3) := by decide +kernel
theorem dL_law_847 : decode cL_law 847 = .ok (.iconst 0, 1) := by decide +kernel
theorem dL_law_848 : decode cL_law 848 = .ok (.ireturn, 1) := by decide +kernel
theorem dL_law_849 : decode cL_law 849 = .ok (.iload 6, 2) := by decide +kernel
theorem dL_law_851 : decode cL_law 851 = .ok (.ifCond .ne 15, 3) := by decide +kernel
theorem dL_law_854 : decode cL_law 854 = .ok (.aload_n 3, 1) := by decide +kernel
theorem dL_law_855 : decode cL_law 855 = .ok (.iconst 0, 1) := by decide +kernel
theorem dL_law_856 : decode cL_law 856 = .ok (.laload, 1) := by decide +kernel
theorem dL_law_857 : decode cL_law 857 = .ok (.iload 7, 2) := by decide +kernel
theorem dL_law_859 : decode cL_law 859 = .ok (.i2l, 1) := by decide +kernel
theorem dL_law_860 : decode cL_law 860 = .ok (.lcmp, 1) := by decide +kernel
theorem dL_law_861 : decode cL_law 861 = .ok (.ifCond .eq 5, 3) := by decide +kernel
theorem dL_law_864 : decode cL_law 864 = .ok (.iconst 0, 1) := by decide +kernel
theorem dL_law_865 : decode cL_law 865 = .ok (.ireturn, 1) := by decide +kernel
theorem dL_law_866 : decode cL_law 866 = .ok (.goto 1394, 3) := by decide +kernel
theorem dL_law_869 : decode cL_law 869 = .ok (.aload_n 1, 1) := by decide +kernel
theorem dL_law_870 : decode cL_law 870 = .ok (.aload_n 0, 1) := by decide +kernel
theorem dL_law_871 : decode cL_law 871 = .ok (.iload 5, 2) := by decide +kernel
theorem dL_law_873 : decode cL_law 873 = .ok (.iconst 1, 1) := by decide +kernel
theorem dL_law_874 : decode cL_law 874 = .ok (.iadd, 1) := by decide +kernel
theorem dL_law_875 : decode cL_law 875 = .ok (.iaload, 1) := by decide +kernel
theorem dL_law_876 : decode cL_law 876 = .ok (.aload_n 3, 1) := by decide +kernel
theorem dL_law_877 : decode cL_law 877 = .ok (.invokestatic 153, 3) := by decide +kernel
theorem dL_law_880 : decode cL_law 880 = .ok (.istore 6, 2) := by decide +kernel
theorem dL_law_882 : decode cL_law 882 = .ok (.aload_n 2, 1) := by decide +kernel
theorem dL_law_883 : decode cL_law 883 = .ok (.aload_n 0, 1) := by decide +kernel
theorem dL_law_884 : decode cL_law 884 = .ok (.iload 5, 2) := by decide +kernel
theorem dL_law_886 : decode cL_law 886 = .ok (.iconst 1, 1) := by decide +kernel
theorem dL_law_887 : decode cL_law 887 = .ok (.iadd, 1) := by decide +kernel
theorem dL_law_888 : decode cL_law 888 = .ok (.iaload, 1) := by decide +kernel
theorem dL_law_889 : decode cL_law 889 = .ok (.invokevirtual 156, 3) := by decide +kernel
theorem dL_law_892 : decode cL_law 892 = .ok (.istore 7, 2) := by decide +kernel
theorem dL_law_894 : decode cL_law 894 = .ok (.aload_n 2, 1) := by decide +kernel
theorem dL_law_895 : decode cL_law 895 = .ok (.invokevirtual 126, 3) := by decide +kernel
theorem dL_law_898 : decode cL_law 898 = .ok (.iload 6, 2) := by decide +kernel
theorem dL_law_900 : decode cL_law 900 = .ok (.if_icmp .eq 5, 3) := by decide +kernel
theorem dL_law_903 : decode cL_law 903 = .ok (.iconst 0, 1) := by decide +kernel
theorem dL_law_904 : decode cL_law 904 = .ok (.ireturn, 1) := by decide +kernel
theorem dL_law_905 : decode cL_law 905 = .ok (.iload 6, 2) := by decide +kernel
theorem dL_law_907 : decode cL_law 907 = .ok (.ifCond .ne 15, 3) := by decide +kernel
theorem dL_law_910 : decode cL_law 910 = .ok (.aload_n 3, 1) := by decide +kernel
theorem dL_law_911 : decode cL_law 911 = .ok (.iconst 0, 1) := by decide +kernel
theorem dL_law_912 : decode cL_law 912 = .ok (.laload, 1) := by decide +kernel
theorem dL_law_913 : decode cL_law 913 = .ok (.iload 7, 2) := by decide +kernel
theorem dL_law_915 : decode cL_law 915 = .ok (.i2l, 1) := by decide +kernel
theorem dL_law_916 : decode cL_law 916 = .ok (.lcmp, 1) := by decide +kernel
theorem dL_law_917 : decode cL_law 917 = .ok (.ifCond .eq 5, 3) := by decide +kernel
theorem dL_law_920 : decode cL_law 920 = .ok (.iconst 0, 1) := by decide +kernel
theorem dL_law_921 : decode cL_law 921 = .ok (.ireturn, 1) := by decide +kernel
theorem dL_law_922 : decode cL_law 922 = .ok (.goto 1338, 3) := by decide +kernel
theorem dL_law_925 : decode cL_law 925 = .ok (.aload_n 1, 1) := by decide +kernel
theorem dL_law_926 : decode cL_law 926 = .ok (.aload_n 0, 1) := by decide +kernel
theorem dL_law_927 : decode cL_law 927 = .ok (.iload 5, 2) := by decide +kernel
theorem dL_law_929 : decode cL_law 929 = .ok (.iconst 1, 1) := by decide +kernel
theorem dL_law_930 : decode cL_law 930 = .ok (.iadd, 1) := by decide +kernel
theorem dL_law_931 : decode cL_law 931 = .ok (.iaload, 1) := by decide +kernel
theorem dL_law_932 : decode cL_law 932 = .ok (.aload_n 0, 1) := by decide +kernel
theorem dL_law_933 : decode cL_law 933 = .ok (.iload 5, 2) := by decide +kernel
theorem dL_law_935 : decode cL_law 935 = .ok (.iconst 2, 1) := by decide +kernel
theorem dL_law_936 : decode cL_law 936 = .ok (.iadd, 1) := by decide +kernel
theorem dL_law_937 : decode cL_law 937 = .ok (.iaload, 1) := by decide +kernel
theorem dL_law_938 : decode cL_law 938 = .ok (.aload_n 3, 1) := by decide +kernel
end
section
theorem dL_law_939 : decode cL_law 939 = .ok (.invokestatic 157, 3) := by decide +kernel
theorem dL_law_942 : decode cL_law 942 = .ok (.istore 6, 2) := by decide +kernel
theorem dL_law_944 : decode cL_law 944 = .ok (.aload_n 2, 1) := by decide +kernel
theorem dL_law_945 : decode cL_law 945 = .ok (.aload_n 0, 1) := by decide +kernel
theorem dL_law_946 : decode cL_law 946 = .ok (.iload 5, 2) := by decide +kernel
theorem dL_law_948 : decode cL_law 948 = .ok (.iconst 1, 1) := by decide +kernel
theorem dL_law_949 : decode cL_law 949 = .ok (.iadd, 1) := by decide +kernel
theorem dL_law_950 : decode cL_law 950 = .ok (.iaload, 1) := by decide +kernel
theorem dL_law_951 : decode cL_law 951 = .ok (.aload_n 0, 1) := by decide +kernel
theorem dL_law_952 : decode cL_law 952 = .ok (.iload 5, 2) := by decide +kernel
theorem dL_law_954 : decode cL_law 954 = .ok (.iconst 2, 1) := by decide +kernel
theorem dL_law_955 : decode cL_law 955 = .ok (.iadd, 1) := by decide +kernel
theorem dL_law_956 : decode cL_law 956 = .ok (.iaload, 1) := by decide +kernel
theorem dL_law_957 : decode cL_law 957 = .ok (.invokevirtual 160, 3) := by decide +kernel
theorem dL_law_960 : decode cL_law 960 = .ok (.istore 7, 2) := by decide +kernel
theorem dL_law_962 : decode cL_law 962 = .ok (.aload_n 2, 1) := by decide +kernel
theorem dL_law_963 : decode cL_law 963 = .ok (.invokevirtual 126, 3) := by decide +kernel
theorem dL_law_966 : decode cL_law 966 = .ok (.iload 6, 2) := by decide +kernel
theorem dL_law_968 : decode cL_law 968 = .ok (.if_icmp .eq 5, 3) := by decide +kernel
theorem dL_law_971 : decode cL_law 971 = .ok (.iconst 0, 1) := by decide +kernel
theorem dL_law_972 : decode cL_law 972 = .ok (.ireturn, 1) := by decide +kernel
theorem dL_law_973 : decode cL_law 973 = .ok (.iload 6, 2) := by decide +kernel
theorem dL_law_975 : decode cL_law 975 = .ok (.ifCond .ne 15, 3) := by decide +kernel
theorem dL_law_978 : decode cL_law 978 = .ok (.aload_n 3, 1) := by decide +kernel
theorem dL_law_979 : decode cL_law 979 = .ok (.iconst 0, 1) := by decide +kernel
theorem dL_law_980 : decode cL_law 980 = .ok (.laload, 1) := by decide +kernel
theorem dL_law_981 : decode cL_law 981 = .ok (.iload 7, 2) := by decide +kernel
theorem dL_law_983 : decode cL_law 983 = .ok (.i2l, 1) := by decide +kernel
theorem dL_law_984 : decode cL_law 984 = .ok (.lcmp, 1) := by decide +kernel
theorem dL_law_985 : decode cL_law 985 = .ok (.ifCond .eq 5, 3) := by decide +kernel
theorem dL_law_988 : decode cL_law 988 = .ok (.iconst 0, 1) := by decide +kernel
theorem dL_law_989 : decode cL_law 989 = .ok (.ireturn, 1) := by decide +kernel
theorem dL_law_990 : decode cL_law 990 = .ok (.goto 1270, 3) := by decide +kernel
theorem dL_law_993 : decode cL_law 993 = .ok (.aload_n 1, 1) := by decide +kernel
theorem dL_law_994 : decode cL_law 994 = .ok (.aload_n 0, 1) := by decide +kernel
theorem dL_law_995 : decode cL_law 995 = .ok (.iload 5, 2) := by decide +kernel
theorem dL_law_997 : decode cL_law 997 = .ok (.iconst 1, 1) := by decide +kernel
theorem dL_law_998 : decode cL_law 998 = .ok (.iadd, 1) := by decide +kernel
theorem dL_law_999 : decode cL_law 999 = .ok (.iaload, 1) := by decide +kernel
theorem dL_law_1000 : decode cL_law 1000 = .ok (.aload_n 0, 1) := by decide +kernel
theorem dL_law_1001 : decode cL_law 1001 = .ok (.iload 5, 2) := by decide +kernel
theorem dL_law_1003 : decode cL_law 1003 = .ok (.iconst 2, 1) := by decide +kernel
theorem dL_law_1004 : decode cL_law 1004 = .ok (.iadd, 1) := by decide +kernel
theorem dL_law_1005 : decode cL_law 1005 = .ok (.iaload, 1) := by decide +kernel
theorem dL_law_1006 : decode cL_law 1006 = .ok (.aload_n 3, 1) := by decide +kernel
theorem dL_law_1007 : decode cL_law 1007 = .ok (.invokestatic 161, 3) := by decide +kernel
theorem dL_law_1010 : decode cL_law 1010 = .ok (.istore 6, 2) := by decide +kernel
theorem dL_law_1012 : decode cL_law 1012 = .ok (.aload_n 2, 1) := by decide +kernel
theorem dL_law_1013 : decode cL_law 1013 = .ok (.aload_n 0, 1) := by decide +kernel
theorem dL_law_1014 : decode cL_law 1014 = .ok (.iload 5, 2) := by decide +kernel
theorem dL_law_1016 : decode cL_law 1016 = .ok (.iconst 1, 1) := by decide +kernel
theorem dL_law_1017 : decode cL_law 1017 = .ok (.iadd, 1) := by decide +kernel
theorem dL_law_1018 : decode cL_law 1018 = .ok (.iaload, 1) := by decide +kernel
theorem dL_law_1019 : decode cL_law 1019 = .ok (.aload_n 0, 1) := by decide +kernel
theorem dL_law_1020 : decode cL_law 1020 = .ok (.iload 5, 2) := by decide +kernel
theorem dL_law_1022 : decode cL_law 1022 = .ok (.iconst 2, 1) := by decide +kernel
theorem dL_law_1023 : decode cL_law 1023 = .ok (.iadd, 1) := by decide +kernel
theorem dL_law_1024 : decode cL_law 1024 = .ok (.iaload, 1) := by decide +kernel
theorem dL_law_1025 : decode cL_law 1025 = .ok (.invokevirtual 163, 3) := by decide +kernel
theorem dL_law_1028 : decode cL_law 1028 = .ok (.lstore 7, 2) := by decide +kernel
theorem dL_law_1030 : decode cL_law 1030 = .ok (.aload_n 2, 1) := by decide +kernel
theorem dL_law_1031 : decode cL_law 1031 = .ok (.invokevirtual 126, 3) := by decide +kernel
theorem dL_law_1034 : decode cL_law 1034 = .ok (.iload 6, 2) := by decide +kernel
theorem dL_law_1036 : decode cL_law 1036 = .ok (.if_icmp .eq 5, 3) := by decide +kernel
theorem dL_law_1039 : decode cL_law 1039 = .ok (.iconst 0, 1) := by decide +kernel
theorem dL_law_1040 : decode cL_law 1040 = .ok (.ireturn, 1) := by decide +kernel
theorem dL_law_1041 : decode cL_law 1041 = .ok (.iload 6, 2) := by decide +kernel
theorem dL_law_1043 : decode cL_law 1043 = .ok (.ifCond .ne 14, 3) := by decide +kernel
theorem dL_law_1046 : decode cL_law 1046 = .ok (.aload_n 3, 1) := by decide +kernel
theorem dL_law_1047 : decode cL_law 1047 = .ok (.iconst 0, 1) := by decide +kernel
theorem dL_law_1048 : decode cL_law 1048 = .ok (.laload, 1) := by decide +kernel
theorem dL_law_1049 : decode cL_law 1049 = .ok (.lload 7, 2) := by decide +kernel
theorem dL_law_1051 : decode cL_law 1051 = .ok (.lcmp, 1) := by decide +kernel
theorem dL_law_1052 : decode cL_law 1052 = .ok (.ifCond .eq 5, 3) := by decide +kernel
theorem dL_law_1055 : decode cL_law 1055 = .ok (.iconst 0, 1) := by decide +kernel
theorem dL_law_1056 : decode cL_law 1056 = .ok (.ireturn, 1) := by decide +kernel
theorem dL_law_1057 : decode cL_law 1057 = .ok (.goto 1203, 3) := by decide +kernel
theorem dL_law_1060 : decode cL_law 1060 = .ok (.aload_n 1, 1) := by decide +kernel
theorem dL_law_1061 : decode cL_law 1061 = .ok (.aload_n 0, 1) := by decide +kernel
theorem dL_law_1062 : decode cL_law 1062 = .ok (.iload 5, 2) := by decide +kernel
theorem dL_law_1064 : decode cL_law 1064 = .ok (.iconst 1, 1) := by decide +kernel
theorem dL_law_1065 : decode cL_law 1065 = .ok (.iadd, 1) := by decide +kernel
theorem dL_law_1066 : decode cL_law 1066 = .ok (.iaload, 1) := by decide +kernel
theorem dL_law_1067 : decode cL_law 1067 = .ok (.aload_n 0, 1) := by decide +kernel
theorem dL_law_1068 : decode cL_law 1068 = .ok (.iload 5, 2) := by decide +kernel
theorem dL_law_1070 : decode cL_law 1070 = .ok (.iconst 2, 1) := by decide +kernel
theorem dL_law_1071 : decode cL_law 1071 = .ok (.iadd, 1) := by decide +kernel
theorem dL_law_1072 : decode cL_law 1072 = .ok (.iaload, 1) := by decide +kernel
theorem dL_law_1073 : decode cL_law 1073 = .ok (.aload_n 3, 1) := by decide +kernel
theorem dL_law_1074 : decode cL_law 1074 = .ok (.invokestatic 164, 3) := by decide +kernel
theorem dL_law_1077 : decode cL_law 1077 = .ok (.istore 6, 2) := by decide +kernel
theorem dL_law_1079 : decode cL_law 1079 = .ok (.aload_n 2, 1) := by decide +kernel
theorem dL_law_1080 : decode cL_law 1080 = .ok (.aload_n 0, 1) := by decide +kernel
theorem dL_law_1081 : decode cL_law 1081 = .ok (.iload 5, 2) := by decide +kernel
theorem dL_law_1083 : decode cL_law 1083 = .ok (.iconst 1, 1) := by decide +kernel
theorem dL_law_1084 : decode cL_law 1084 = .ok (.iadd, 1) := by decide +kernel
theorem dL_law_1085 : decode cL_law 1085 = .ok (.iaload, 1) := by decide +kernel
theorem dL_law_1086 : decode cL_law 1086 = .ok (.aload_n 0, 1) := by decide +kernel
theorem dL_law_1087 : decode cL_law 1087 = .ok (.iload 5, 2) := by decide +kernel
theorem dL_law_1089 : decode cL_law 1089 = .ok (.iconst 2, 1) := by decide +kernel
theorem dL_law_1090 : decode cL_law 1090 = .ok (.iadd, 1) := by decide +kernel
theorem dL_law_1091 : decode cL_law 1091 = .ok (.iaload, 1) := by decide +kernel
theorem dL_law_1092 : decode cL_law 1092 = .ok (.invokevirtual 166, 3) := by decide +kernel
theorem dL_law_1095 : decode cL_law 1095 = .ok (.istore 7, 2) := by decide +kernel
theorem dL_law_1097 : decode cL_law 1097 = .ok (.aload_n 2, 1) := by decide +kernel
theorem dL_law_1098 : decode cL_law 1098 = .ok (.invokevirtual 126, 3) := by decide +kernel
theorem dL_law_1101 : decode cL_law 1101 = .ok (.iload 6, 2) := by decide +kernel
theorem dL_law_1103 : decode cL_law 1103 = .ok (.if_icmp .eq 5, 3) := by decide +kernel
theorem dL_law_1106 : decode cL_law 1106 = .ok (.iconst 0, 1) := by decide +kernel
theorem dL_law_1107 : decode cL_law 1107 = .ok (.ireturn, 1) := by decide +kernel
theorem dL_law_1108 : decode cL_law 1108 = .ok (.iload 6, 2) := by decide +kernel
theorem dL_law_1110 : decode cL_law 1110 = .ok (.ifCond .ne 15, 3) := by decide +kernel
theorem dL_law_1113 : decode cL_law 1113 = .ok (.aload_n 3, 1) := by decide +kernel
theorem dL_law_1114 : decode cL_law 1114 = .ok (.iconst 0, 1) := by decide +kernel
theorem dL_law_1115 : decode cL_law 1115 = .ok (.laload, 1) := by decide +kernel
theorem dL_law_1116 : decode cL_law 1116 = .ok (.iload 7, 2) := by decide +kernel
theorem dL_law_1118 : decode cL_law 1118 = .ok (.i2l, 1) := by decide +kernel
theorem dL_law_1119 : decode cL_law 1119 = .ok (.lcmp, 1) := by decide +kernel
theorem dL_law_1120 : decode cL_law 1120 = .ok (.ifCond .eq 5, 3) := by decide +kernel
theorem dL_law_1123 : decode cL_law 1123 = .ok (.iconst 0, 1) := by decide +kernel
theorem dL_law_1124 : decode cL_law 1124 = .ok (.ireturn, 1) := by decide +kernel
theorem dL_law_1125 : decode cL_law 1125 = .ok (.goto 1135, 3) := by decide +kernel
theorem dL_law_1128 : decode cL_law 1128 = .ok (.aload_n 1, 1) := by decide +kernel
theorem dL_law_1129 : decode cL_law 1129 = .ok (.aload_n 0, 1) := by decide +kernel
theorem dL_law_1130 : decode cL_law 1130 = .ok (.iload 5, 2) := by decide +kernel
theorem dL_law_1132 : decode cL_law 1132 = .ok (.iconst 1, 1) := by decide +kernel
theorem dL_law_1133 : decode cL_law 1133 = .ok (.iadd, 1) := by decide +kernel
theorem dL_law_1134 : decode cL_law 1134 = .ok (.iaload, 1) := by decide +kernel
theorem dL_law_1135 : decode cL_law 1135 = .ok (.aload_n 0, 1) := by decide +kernel
theorem dL_law_1136 : decode cL_law 1136 = .ok (.iload 5, 2) := by decide +kernel
theorem dL_law_1138 : decode cL_law 1138 = .ok (.iconst 2, 1) := by decide +kernel
theorem dL_law_1139 : decode cL_law 1139 = .ok (.iadd, 1) := by decide +kernel
theorem dL_law_1140 : decode cL_law 1140 = .ok (.iaload, 1) := by decide +kernel
theorem dL_law_1141 : decode cL_law 1141 = .ok (.aload_n 3, 1) := by decide +kernel
theorem dL_law_1142 : decode cL_law 1142 = .ok (.invokestatic 167, 3) := by decide +kernel
theorem dL_law_1145 : decode cL_law 1145 = .ok (.istore 6, 2) := by decide +kernel
theorem dL_law_1147 : decode cL_law 1147 = .ok (.aload_n 2, 1) := by decide +kernel
theorem dL_law_1148 : decode cL_law 1148 = .ok (.aload_n 0, 1) := by decide +kernel
theorem dL_law_1149 : decode cL_law 1149 = .ok (.iload 5, 2) := by decide +kernel
theorem dL_law_1151 : decode cL_law 1151 = .ok (.iconst 1, 1) := by decide +kernel
theorem dL_law_1152 : decode cL_law 1152 = .ok (.iadd, 1) := by decide +kernel
theorem dL_law_1153 : decode cL_law 1153 = .ok (.iaload, 1) := by decide +kernel
theorem dL_law_1154 : decode cL_law 1154 = .ok (.aload_n 0, 1) := by decide +kernel
theorem dL_law_1155 : decode cL_law 1155 = .ok (.iload 5, 2) := by decide +kernel
theorem dL_law_1157 : decode cL_law 1157 = .ok (.iconst 2, 1) := by decide +kernel
theorem dL_law_1158 : decode cL_law 1158 = .ok (.iadd, 1) := by decide +kernel
theorem dL_law_1159 : decode cL_law 1159 = .ok (.iaload, 1) := by decide +kernel
theorem dL_law_1160 : decode cL_law 1160 = .ok (.invokevirtual 169, 3) := by decide +kernel
theorem dL_law_1163 : decode cL_law 1163 = .ok (.istore 7, 2) := by decide +kernel
theorem dL_law_1165 : decode cL_law 1165 = .ok (.aload_n 2, 1) := by decide +kernel
theorem dL_law_1166 : decode cL_law 1166 = .ok (.invokevirtual 126, 3) := by decide +kernel
theorem dL_law_1169 : decode cL_law 1169 = .ok (.iload 6, 2) := by decide +kernel
theorem dL_law_1171 : decode cL_law 1171 = .ok (.if_icmp .eq 5, 3) := by decide +kernel
theorem dL_law_1174 : decode cL_law 1174 = .ok (.iconst 0, 1) := by decide +kernel
theorem dL_law_1175 : decode cL_law 1175 = .ok (.ireturn, 1) := by decide +kernel
theorem dL_law_1176 : decode cL_law 1176 = .ok (.iload 6, 2) := by decide +kernel
theorem dL_law_1178 : decode cL_law 1178 = .ok (.ifCond .ne 15, 3) := by decide +kernel
theorem dL_law_1181 : decode cL_law 1181 = .ok (.aload_n 3, 1) := by decide +kernel
theorem dL_law_1182 : decode cL_law 1182 = .ok (.iconst 0, 1) := by decide +kernel
theorem dL_law_1183 : decode cL_law 1183 = .ok (.laload, 1) := by decide +kernel
theorem dL_law_1184 : decode cL_law 1184 = .ok (.iload 7, 2) := by decide +kernel
theorem dL_law_1186 : decode cL_law 1186 = .ok (.i2l, 1) := by decide +kernel
theorem dL_law_1187 : decode cL_law 1187 = .ok (.lcmp, 1) := by decide +kernel
theorem dL_law_1188 : decode cL_law 1188 = .ok (.ifCond .eq 5, 3) := by decide +kernel
theorem dL_law_1191 : decode cL_law 1191 = .ok (.iconst 0, 1) := by decide +kernel
theorem dL_law_1192 : decode cL_law 1192 = .ok (.ireturn, 1) := by decide +kernel
theorem dL_law_1193 : decode cL_law 1193 = .ok (.goto 1067, 3) := by decide +kernel
theorem dL_law_1196 : decode cL_law 1196 = .ok (.aload_n 1, 1) := by decide +kernel
theorem dL_law_1197 : decode cL_law 1197 = .ok (.aload_n 0, 1) := by decide +kernel
theorem dL_law_1198 : decode cL_law 1198 = .ok (.iload 5, 2) := by decide +kernel
theorem dL_law_1200 : decode cL_law 1200 = .ok (.iconst 1, 1) := by decide +kernel
theorem dL_law_1201 : decode cL_law 1201 = .ok (.iadd, 1) := by decide +kernel
theorem dL_law_1202 : decode cL_law 1202 = .ok (.iaload, 1) := by decide +kernel
theorem dL_law_1203 : decode cL_law 1203 = .ok (.aload_n 0, 1) := by decide +kernel
theorem dL_law_1204 : decode cL_law 1204 = .ok (.iload 5, 2) := by decide +kernel
theorem dL_law_1206 : decode cL_law 1206 = .ok (.iconst 2, 1) := by decide +kernel
theorem dL_law_1207 : decode cL_law 1207 = .ok (.iadd, 1) := by decide +kernel
theorem dL_law_1208 : decode cL_law 1208 = .ok (.iaload, 1) := by decide +kernel
theorem dL_law_1209 : decode cL_law 1209 = .ok (.aload_n 0, 1) := by decide +kernel
theorem dL_law_1210 : decode cL_law 1210 = .ok (.iload 5, 2) := by decide +kernel
theorem dL_law_1212 : decode cL_law 1212 = .ok (.iconst 3, 1) := by decide +kernel
theorem dL_law_1213 : decode cL_law 1213 = .ok (.iadd, 1) := by decide +kernel
theorem dL_law_1214 : decode cL_law 1214 = .ok (.iaload, 1) := by decide +kernel
theorem dL_law_1215 : decode cL_law 1215 = .ok (.i2c, 1) := by decide +kernel
theorem dL_law_1216 : decode cL_law 1216 = .ok (.aload_n 3, 1) := by decide +kernel
theorem dL_law_1217 : decode cL_law 1217 = .ok (.invokestatic 170, 3) := by decide +kernel
theorem dL_law_1220 : decode cL_law 1220 = .ok (.istore 6, 2) := by decide +kernel
theorem dL_law_1222 : decode cL_law 1222 = .ok (.aload_n 2, 1) := by decide +kernel
theorem dL_law_1223 : decode cL_law 1223 = .ok (.aload_n 0, 1) := by decide +kernel
theorem dL_law_1224 : decode cL_law 1224 = .ok (.iload 5, 2) := by decide +kernel
theorem dL_law_1226 : decode cL_law 1226 = .ok (.iconst 1, 1) := by decide +kernel
theorem dL_law_1227 : decode cL_law 1227 = .ok (.iadd, 1) := by decide +kernel
theorem dL_law_1228 : decode cL_law 1228 = .ok (.iaload, 1) := by decide +kernel
theorem dL_law_1229 : decode cL_law 1229 = .ok (.aload_n 0, 1) := by decide +kernel
theorem dL_law_1230 : decode cL_law 1230 = .ok (.iload 5, 2) := by decide +kernel
theorem dL_law_1232 : decode cL_law 1232 = .ok (.iconst 2, 1) := by decide +kernel
theorem dL_law_1233 : decode cL_law 1233 = .ok (.iadd, 1) := by decide +kernel
theorem dL_law_1234 : decode cL_law 1234 = .ok (.iaload, 1) := by decide +kernel
theorem dL_law_1235 : decode cL_law 1235 = .ok (.aload_n 0, 1) := by decide +kernel
theorem dL_law_1236 : decode cL_law 1236 = .ok (.iload 5, 2) := by decide +kernel
theorem dL_law_1238 : decode cL_law 1238 = .ok (.iconst 3, 1) := by decide +kernel
theorem dL_law_1239 : decode cL_law 1239 = .ok (.iadd, 1) := by decide +kernel
theorem dL_law_1240 : decode cL_law 1240 = .ok (.iaload, 1) := by decide +kernel
theorem dL_law_1241 : decode cL_law 1241 = .ok (.i2c, 1) := by decide +kernel
theorem dL_law_1242 : decode cL_law 1242 = .ok (.invokevirtual 173, 3) := by decide +kernel
theorem dL_law_1245 : decode cL_law 1245 = .ok (.istore 7, 2) := by decide +kernel
theorem dL_law_1247 : decode cL_law 1247 = .ok (.aload_n 2, 1) := by decide +kernel
theorem dL_law_1248 : decode cL_law 1248 = .ok (.invokevirtual 126, 3) := by decide +kernel
theorem dL_law_1251 : decode cL_law 1251 = .ok (.iload 6, 2) := by decide +kernel
theorem dL_law_1253 : decode cL_law 1253 = .ok (.if_icmp .eq 5, 3) := by decide +kernel
theorem dL_law_1256 : decode cL_law 1256 = .ok (.iconst 0, 1) := by decide +kernel
theorem dL_law_1257 : decode cL_law 1257 = .ok (.ireturn, 1) := by decide +kernel
theorem dL_law_1258 : decode cL_law 1258 = .ok (.iload 6, 2) := by decide +kernel
theorem dL_law_1260 : decode cL_law 1260 = .ok (.ifCond .ne 22, 3) := by decide +kernel
theorem dL_law_1263 : decode cL_law 1263 = .ok (.aload_n 3, 1) := by decide +kernel
theorem dL_law_1264 : decode cL_law 1264 = .ok (.iconst 0, 1) := by decide +kernel
theorem dL_law_1265 : decode cL_law 1265 = .ok (.laload, 1) := by decide +kernel
theorem dL_law_1266 : decode cL_law 1266 = .ok (.iload 7, 2) := by decide +kernel
theorem dL_law_1268 : decode cL_law 1268 = .ok (.ifCond .eq 7, 3) := by decide +kernel
theorem dL_law_1271 : decode cL_law 1271 = .ok (.lconst 1, 1) := by decide +kernel
theorem dL_law_1272 : decode cL_law 1272 = .ok (.goto 4, 3) := by decide +kernel
theorem dL_law_1275 : decode cL_law 1275 = .ok (.lconst 0, 1) := by decide +kernel
theorem dL_law_1276 : decode cL_law 1276 = .ok (.lcmp, 1) := by decide +kernel
theorem dL_law_1277 : decode cL_law 1277 = .ok (.ifCond .eq 5, 3) := by decide +kernel
theorem dL_law_1280 : decode cL_law 1280 = .ok (.iconst 0, 1) := by decide +kernel
theorem dL_law_1281 : decode cL_law 1281 = .ok (.ireturn, 1) := by decide +kernel
theorem dL_law_1282 : decode cL_law 1282 = .ok (.goto 978, 3) := by decide +kernel
theorem dL_law_1285 : decode cL_law 1285 = .ok (.aload_n 1, 1) := by decide +kernel
theorem dL_law_1286 : decode cL_law 1286 = .ok (.aload_n 0, 1) := by decide +kernel
theorem dL_law_1287 : decode cL_law 1287 = .ok (.iload 5, 2) := by decide +kernel
theorem dL_law_1289 : decode cL_law 1289 = .ok (.iconst 1, 1) := by decide +kernel
theorem dL_law_1290 : decode cL_law 1290 = .ok (.iadd, 1) := by decide +kernel
theorem dL_law_1291 : decode cL_law 1291 = .ok (.iaload, 1) := by decide +kernel
theorem dL_law_1292 : decode cL_law 1292 = .ok (.aload_n 0, 1) := by decide +kernel
theorem dL_law_1293 : decode cL_law 1293 = .ok (.iload 5, 2) := by decide +kernel
theorem dL_law_1295 : decode cL_law 1295 = .ok (.iconst 2, 1) := by decide +kernel
theorem dL_law_1296 : decode cL_law 1296 = .ok (.iadd, 1) := by decide +kernel
theorem dL_law_1297 : decode cL_law 1297 = .ok (.iaload, 1) := by decide +kernel
theorem dL_law_1298 : decode cL_law 1298 = .ok (.aload_n 3, 1) := by decide +kernel
theorem dL_law_1299 : decode cL_law 1299 = .ok (.invokestatic 174, 3) := by decide +kernel
theorem dL_law_1302 : decode cL_law 1302 = .ok (.istore 6, 2) := by decide +kernel
theorem dL_law_1304 : decode cL_law 1304 = .ok (.aload_n 2, 1) := by decide +kernel
theorem dL_law_1305 : decode cL_law 1305 = .ok (.aload_n 0, 1) := by decide +kernel
theorem dL_law_1306 : decode cL_law 1306 = .ok (.iload 5, 2) := by decide +kernel
theorem dL_law_1308 : decode cL_law 1308 = .ok (.iconst 1, 1) := by decide +kernel
theorem dL_law_1309 : decode cL_law 1309 = .ok (.iadd, 1) := by decide +kernel
theorem dL_law_1310 : decode cL_law 1310 = .ok (.iaload, 1) := by decide +kernel
theorem dL_law_1311 : decode cL_law 1311 = .ok (.aload_n 0, 1) := by decide +kernel
theorem dL_law_1312 : decode cL_law 1312 = .ok (.iload 5, 2) := by decide +kernel
theorem dL_law_1314 : decode cL_law 1314 = .ok (.iconst 2, 1) := by decide +kernel
theorem dL_law_1315 : decode cL_law 1315 = .ok (.iadd, 1) := by decide +kernel
theorem dL_law_1316 : decode cL_law 1316 = .ok (.iaload, 1) := by decide +kernel
theorem dL_law_1317 : decode cL_law 1317 = .ok (.invokevirtual 176, 3) := by decide +kernel
theorem dL_law_1320 : decode cL_law 1320 = .ok (.istore 7, 2) := by decide +kernel
theorem dL_law_1322 : decode cL_law 1322 = .ok (.aload_n 2, 1) := by decide +kernel
theorem dL_law_1323 : decode cL_law 1323 = .ok (.invokevirtual 126, 3) := by decide +kernel
theorem dL_law_1326 : decode cL_law 1326 = .ok (.iload 6, 2) := by decide +kernel
theorem dL_law_1328 : decode cL_law 1328 = .ok (.if_icmp .eq 5, 3) := by decide +kernel
theorem dL_law_1331 : decode cL_law 1331 = .ok (.iconst 0, 1) := by decide +kernel
theorem dL_law_1332 : decode cL_law 1332 = .ok (.ireturn, 1) := by decide +kernel
theorem dL_law_1333 : decode cL_law 1333 = .ok (.iload 6, 2) := by decide +kernel
theorem dL_law_1335 : decode cL_law 1335 = .ok (.ifCond .ne 22, 3) := by decide +kernel
theorem dL_law_1338 : decode cL_law 1338 = .ok (.aload_n 3, 1) := by decide +kernel
theorem dL_law_1339 : decode cL_law 1339 = .ok (.iconst 0, 1) := by decide +kernel
theorem dL_law_1340 : decode cL_law 1340 = .ok (.laload, 1) := by decide +kernel
theorem dL_law_1341 : decode cL_law 1341 = .ok (.iload 7, 2) := by decide +kernel
theorem dL_law_1343 : decode cL_law 1343 = .ok (.ifCond .eq 7, 3) := by decide +kernel
theorem dL_law_1346 : decode cL_law 1346 = .ok (.lconst 1, 1) := by decide +kernel
theorem dL_law_1347 : decode cL_law 1347 = .ok (.goto 4, 3) := by decide +kernel
theorem dL_law_1350 : decode cL_law 1350 = .ok (.lconst 0, 1) := by decide +kernel
theorem dL_law_1351 : decode cL_law 1351 = .ok (.lcmp, 1) := by decide +kernel
theorem dL_law_1352 : decode cL_law 1352 = .ok (.ifCond .eq 5, 3) := by decide +kernel
theorem dL_law_1355 : decode cL_law 1355 = .ok (.iconst 0, 1) := by decide +kernel
theorem dL_law_1356 : decode cL_law 1356 = .ok (.ireturn, 1) := by decide +kernel
theorem dL_law_1357 : decode cL_law 1357 = .ok (.goto 903, 3) := by decide +kernel
theorem dL_law_1360 : decode cL_law 1360 = .ok (.aload_n 1, 1) := by decide +kernel
theorem dL_law_1361 : decode cL_law 1361 = .ok (.aload_n 0, 1) := by decide +kernel
theorem dL_law_1362 : decode cL_law 1362 = .ok (.iload 5, 2) := by decide +kernel
theorem dL_law_1364 : decode cL_law 1364 = .ok (.iconst 1, 1) := by decide +kernel
theorem dL_law_1365 : decode cL_law 1365 = .ok (.iadd, 1) := by decide +kernel
theorem dL_law_1366 : decode cL_law 1366 = .ok (.iaload, 1) := by decide +kernel
theorem dL_law_1367 : decode cL_law 1367 = .ok (.aload_n 0, 1) := by decide +kernel
theorem dL_law_1368 : decode cL_law 1368 = .ok (.iload 5, 2) := by decide +kernel
theorem dL_law_1370 : decode cL_law 1370 = .ok (.iconst 2, 1) := by decide +kernel
theorem dL_law_1371 : decode cL_law 1371 = .ok (.iadd, 1) := by decide +kernel
theorem dL_law_1372 : decode cL_law 1372 = .ok (.iaload, 1) := by decide +kernel
theorem dL_law_1373 : decode cL_law 1373 = .ok (.aload_n 3, 1) := by decide +kernel
theorem dL_law_1374 : decode cL_law 1374 = .ok (.invokestatic 177, 3) := by decide +kernel
theorem dL_law_1377 : decode cL_law 1377 = .ok (.istore 6, 2) := by decide +kernel
theorem dL_law_1379 : decode cL_law 1379 = .ok (.aload_n 2, 1) := by decide +kernel
theorem dL_law_1380 : decode cL_law 1380 = .ok (.aload_n 0, 1) := by decide +kernel
theorem dL_law_1381 : decode cL_law 1381 = .ok (.iload 5, 2) := by decide +kernel
theorem dL_law_1383 : decode cL_law 1383 = .ok (.iconst 1, 1) := by decide +kernel
theorem dL_law_1384 : decode cL_law 1384 = .ok (.iadd, 1) := by decide +kernel
theorem dL_law_1385 : decode cL_law 1385 = .ok (.iaload, 1) := by decide +kernel
theorem dL_law_1386 : decode cL_law 1386 = .ok (.aload_n 0, 1) := by decide +kernel
theorem dL_law_1387 : decode cL_law 1387 = .ok (.iload 5, 2) := by decide +kernel
theorem dL_law_1389 : decode cL_law 1389 = .ok (.iconst 2, 1) := by decide +kernel
theorem dL_law_1390 : decode cL_law 1390 = .ok (.iadd, 1) := by decide +kernel
theorem dL_law_1391 : decode cL_law 1391 = .ok (.iaload, 1) := by decide +kernel
theorem dL_law_1392 : decode cL_law 1392 = .ok (.invokevirtual 179, 3) := by decide +kernel
theorem dL_law_1395 : decode cL_law 1395 = .ok (.istore 7, 2) := by decide +kernel
theorem dL_law_1397 : decode cL_law 1397 = .ok (.aload_n 2, 1) := by decide +kernel
theorem dL_law_1398 : decode cL_law 1398 = .ok (.invokevirtual 126, 3) := by decide +kernel
theorem dL_law_1401 : decode cL_law 1401 = .ok (.iload 6, 2) := by decide +kernel
theorem dL_law_1403 : decode cL_law 1403 = .ok (.if_icmp .eq 5, 3) := by decide +kernel
theorem dL_law_1406 : decode cL_law 1406 = .ok (.iconst 0, 1) := by decide +kernel
theorem dL_law_1407 : decode cL_law 1407 = .ok (.ireturn, 1) := by decide +kernel
theorem dL_law_1408 : decode cL_law 1408 = .ok (.iload 6, 2) := by decide +kernel
theorem dL_law_1410 : decode cL_law 1410 = .ok (.ifCond .ne 15, 3) := by decide +kernel
theorem dL_law_1413 : decode cL_law 1413 = .ok (.aload_n 3, 1) := by decide +kernel
theorem dL_law_1414 : decode cL_law 1414 = .ok (.iconst 0, 1) := by decide +kernel
theorem dL_law_1415 : decode cL_law 1415 = .ok (.laload, 1) := by decide +kernel
theorem dL_law_1416 : decode cL_law 1416 = .ok (.iload 7, 2) := by decide +kernel
theorem dL_law_1418 : decode cL_law 1418 = .ok (.i2l, 1) := by decide +kernel
theorem dL_law_1419 : decode cL_law 1419 = .ok (.lcmp, 1) := by decide +kernel
theorem dL_law_1420 : decode cL_law 1420 = .ok (.ifCond .eq 5, 3) := by decide +kernel
theorem dL_law_1423 : decode cL_law 1423 = .ok (.iconst 0, 1) := by decide +kernel
theorem dL_law_1424 : decode cL_law 1424 = .ok (.ireturn, 1) := by decide +kernel
theorem dL_law_1425 : decode cL_law 1425 = .ok (.goto 835, 3) := by decide +kernel
theorem dL_law_1428 : decode cL_law 1428 = .ok (.aload_n 1, 1) := by decide +kernel
theorem dL_law_1429 : decode cL_law 1429 = .ok (.aload_n 0, 1) := by decide +kernel
theorem dL_law_1430 : decode cL_law 1430 = .ok (.iload 5, 2) := by decide +kernel
theorem dL_law_1432 : decode cL_law 1432 = .ok (.iconst 1, 1) := by decide +kernel
theorem dL_law_1433 : decode cL_law 1433 = .ok (.iadd, 1) := by decide +kernel
theorem dL_law_1434 : decode cL_law 1434 = .ok (.iaload, 1) := by decide +kernel
theorem dL_law_1435 : decode cL_law 1435 = .ok (.aload_n 0, 1) := by decide +kernel
theorem dL_law_1436 : decode cL_law 1436 = .ok (.iload 5, 2) := by decide +kernel
theorem dL_law_1438 : decode cL_law 1438 = .ok (.iconst 2, 1) := by decide +kernel
theorem dL_law_1439 : decode cL_law 1439 = .ok (.iadd, 1) := by decide +kernel
theorem dL_law_1440 : decode cL_law 1440 = .ok (.iaload, 1) := by decide +kernel
theorem dL_law_1441 : decode cL_law 1441 = .ok (.aload_n 3, 1) := by decide +kernel
theorem dL_law_1442 : decode cL_law 1442 = .ok (.invokestatic 180, 3) := by decide +kernel
theorem dL_law_1445 : decode cL_law 1445 = .ok (.istore 6, 2) := by decide +kernel
theorem dL_law_1447 : decode cL_law 1447 = .ok (.aload_n 2, 1) := by decide +kernel
theorem dL_law_1448 : decode cL_law 1448 = .ok (.aload_n 0, 1) := by decide +kernel
theorem dL_law_1449 : decode cL_law 1449 = .ok (.iload 5, 2) := by decide +kernel
theorem dL_law_1451 : decode cL_law 1451 = .ok (.iconst 1, 1) := by decide +kernel
theorem dL_law_1452 : decode cL_law 1452 = .ok (.iadd, 1) := by decide +kernel
theorem dL_law_1453 : decode cL_law 1453 = .ok (.iaload, 1) := by decide +kernel
theorem dL_law_1454 : decode cL_law 1454 = .ok (.aload_n 0, 1) := by decide +kernel
theorem dL_law_1455 : decode cL_law 1455 = .ok (.iload 5, 2) := by decide +kernel
theorem dL_law_1457 : decode cL_law 1457 = .ok (.iconst 2, 1) := by decide +kernel
theorem dL_law_1458 : decode cL_law 1458 = .ok (.iadd, 1) := by decide +kernel
theorem dL_law_1459 : decode cL_law 1459 = .ok (.iaload, 1) := by decide +kernel
theorem dL_law_1460 : decode cL_law 1460 = .ok (.invokevirtual 182, 3) := by decide +kernel
theorem dL_law_1463 : decode cL_law 1463 = .ok (.istore 7, 2) := by decide +kernel
theorem dL_law_1465 : decode cL_law 1465 = .ok (.aload_n 2, 1) := by decide +kernel
theorem dL_law_1466 : decode cL_law 1466 = .ok (.invokevirtual 126, 3) := by decide +kernel
theorem dL_law_1469 : decode cL_law 1469 = .ok (.iload 6, 2) := by decide +kernel
theorem dL_law_1471 : decode cL_law 1471 = .ok (.if_icmp .eq 5, 3) := by decide +kernel
theorem dL_law_1474 : decode cL_law 1474 = .ok (.iconst 0, 1) := by decide +kernel
theorem dL_law_1475 : decode cL_law 1475 = .ok (.ireturn, 1) := by decide +kernel
theorem dL_law_1476 : decode cL_law 1476 = .ok (.iload 6, 2) := by decide +kernel
theorem dL_law_1478 : decode cL_law 1478 = .ok (.ifCond .ne 22, 3) := by decide +kernel
theorem dL_law_1481 : decode cL_law 1481 = .ok (.aload_n 3, 1) := by decide +kernel
theorem dL_law_1482 : decode cL_law 1482 = .ok (.iconst 0, 1) := by decide +kernel
theorem dL_law_1483 : decode cL_law 1483 = .ok (.laload, 1) := by decide +kernel
theorem dL_law_1484 : decode cL_law 1484 = .ok (.iload 7, 2) := by decide +kernel
theorem dL_law_1486 : decode cL_law 1486 = .ok (.ifCond .eq 7, 3) := by decide +kernel
theorem dL_law_1489 : decode cL_law 1489 = .ok (.lconst 1, 1) := by decide +kernel
theorem dL_law_1490 : decode cL_law 1490 = .ok (.goto 4, 3) := by decide +kernel
theorem dL_law_1493 : decode cL_law 1493 = .ok (.lconst 0, 1) := by decide +kernel
theorem dL_law_1494 : decode cL_law 1494 = .ok (.lcmp, 1) := by decide +kernel
theorem dL_law_1495 : decode cL_law 1495 = .ok (.ifCond .eq 5, 3) := by decide +kernel
theorem dL_law_1498 : decode cL_law 1498 = .ok (.iconst 0, 1) := by decide +kernel
theorem dL_law_1499 : decode cL_law 1499 = .ok (.ireturn, 1) := by decide +kernel
theorem dL_law_1500 : decode cL_law 1500 = .ok (.goto 760, 3) := by decide +kernel
theorem dL_law_1503 : decode cL_law 1503 = .ok (.aload_n 1, 1) := by decide +kernel
theorem dL_law_1504 : decode cL_law 1504 = .ok (.aload_n 0, 1) := by decide +kernel
theorem dL_law_1505 : decode cL_law 1505 = .ok (.iload 5, 2) := by decide +kernel
theorem dL_law_1507 : decode cL_law 1507 = .ok (.iconst 1, 1) := by decide +kernel
theorem dL_law_1508 : decode cL_law 1508 = .ok (.iadd, 1) := by decide +kernel
theorem dL_law_1509 : decode cL_law 1509 = .ok (.iaload, 1) := by decide +kernel
theorem dL_law_1510 : decode cL_law 1510 = .ok (.aload_n 0, 1) := by decide +kernel
theorem dL_law_1511 : decode cL_law 1511 = .ok (.iload 5, 2) := by decide +kernel
theorem dL_law_1513 : decode cL_law 1513 = .ok (.iconst 2, 1) := by decide +kernel
theorem dL_law_1514 : decode cL_law 1514 = .ok (.iadd, 1) := by decide +kernel
theorem dL_law_1515 : decode cL_law 1515 = .ok (.iaload, 1) := by decide +kernel
theorem dL_law_1516 : decode cL_law 1516 = .ok (.aload_n 3, 1) := by decide +kernel
theorem dL_law_1517 : decode cL_law 1517 = .ok (.invokestatic 183, 3) := by decide +kernel
theorem dL_law_1520 : decode cL_law 1520 = .ok (.istore 6, 2) := by decide +kernel
theorem dL_law_1522 : decode cL_law 1522 = .ok (.aload_n 2, 1) := by decide +kernel
theorem dL_law_1523 : decode cL_law 1523 = .ok (.aload_n 0, 1) := by decide +kernel
theorem dL_law_1524 : decode cL_law 1524 = .ok (.iload 5, 2) := by decide +kernel
theorem dL_law_1526 : decode cL_law 1526 = .ok (.iconst 1, 1) := by decide +kernel
theorem dL_law_1527 : decode cL_law 1527 = .ok (.iadd, 1) := by decide +kernel
theorem dL_law_1528 : decode cL_law 1528 = .ok (.iaload, 1) := by decide +kernel
theorem dL_law_1529 : decode cL_law 1529 = .ok (.aload_n 0, 1) := by decide +kernel
theorem dL_law_1530 : decode cL_law 1530 = .ok (.iload 5, 2) := by decide +kernel
theorem dL_law_1532 : decode cL_law 1532 = .ok (.iconst 2, 1) := by decide +kernel
theorem dL_law_1533 : decode cL_law 1533 = .ok (.iadd, 1) := by decide +kernel
theorem dL_law_1534 : decode cL_law 1534 = .ok (.iaload, 1) := by decide +kernel
theorem dL_law_1535 : decode cL_law 1535 = .ok (.invokevirtual 185, 3) := by decide +kernel
theorem dL_law_1538 : decode cL_law 1538 = .ok (.istore 7, 2) := by decide +kernel
theorem dL_law_1540 : decode cL_law 1540 = .ok (.aload_n 2, 1) := by decide +kernel
theorem dL_law_1541 : decode cL_law 1541 = .ok (.invokevirtual 126, 3) := by decide +kernel
theorem dL_law_1544 : decode cL_law 1544 = .ok (.iload 6, 2) := by decide +kernel
theorem dL_law_1546 : decode cL_law 1546 = .ok (.if_icmp .eq 5, 3) := by decide +kernel
theorem dL_law_1549 : decode cL_law 1549 = .ok (.iconst 0, 1) := by decide +kernel
theorem dL_law_1550 : decode cL_law 1550 = .ok (.ireturn, 1) := by decide +kernel
theorem dL_law_1551 : decode cL_law 1551 = .ok (.iload 6, 2) := by decide +kernel
theorem dL_law_1553 : decode cL_law 1553 = .ok (.ifCond .ne 15, 3) := by decide +kernel
theorem dL_law_1556 : decode cL_law 1556 = .ok (.aload_n 3, 1) := by decide +kernel
theorem dL_law_1557 : decode cL_law 1557 = .ok (.iconst 0, 1) := by decide +kernel
theorem dL_law_1558 : decode cL_law 1558 = .ok (.laload, 1) := by decide +kernel
theorem dL_law_1559 : decode cL_law 1559 = .ok (.iload 7, 2) := by decide +kernel
theorem dL_law_1561 : decode cL_law 1561 = .ok (.i2l, 1) := by decide +kernel
theorem dL_law_1562 : decode cL_law 1562 = .ok (.lcmp, 1) := by decide +kernel
theorem dL_law_1563 : decode cL_law 1563 = .ok (.ifCond .eq 5, 3) := by decide +kernel
theorem dL_law_1566 : decode cL_law 1566 = .ok (.iconst 0, 1) := by decide +kernel
theorem dL_law_1567 : decode cL_law 1567 = .ok (.ireturn, 1) := by decide +kernel
theorem dL_law_1568 : decode cL_law 1568 = .ok (.goto 692, 3) := by decide +kernel
theorem dL_law_1571 : decode cL_law 1571 = .ok (.aload_n 1, 1) := by decide +kernel
theorem dL_law_1572 : decode cL_law 1572 = .ok (.aload_n 0, 1) := by decide +kernel
theorem dL_law_1573 : decode cL_law 1573 = .ok (.iload 5, 2) := by decide +kernel
theorem dL_law_1575 : decode cL_law 1575 = .ok (.iconst 1, 1) := by decide +kernel
theorem dL_law_1576 : decode cL_law 1576 = .ok (.iadd, 1) := by decide +kernel
theorem dL_law_1577 : decode cL_law 1577 = .ok (.iaload, 1) := by decide +kernel
theorem dL_law_1578 : decode cL_law 1578 = .ok (.aload_n 0, 1) := by decide +kernel
theorem dL_law_1579 : decode cL_law 1579 = .ok (.iload 5, 2) := by decide +kernel
theorem dL_law_1581 : decode cL_law 1581 = .ok (.iconst 2, 1) := by decide +kernel
theorem dL_law_1582 : decode cL_law 1582 = .ok (.iadd, 1) := by decide +kernel
theorem dL_law_1583 : decode cL_law 1583 = .ok (.iaload, 1) := by decide +kernel
theorem dL_law_1584 : decode cL_law 1584 = .ok (.aload_n 3, 1) := by decide +kernel
theorem dL_law_1585 : decode cL_law 1585 = .ok (.invokestatic 186, 3) := by decide +kernel
theorem dL_law_1588 : decode cL_law 1588 = .ok (.istore 6, 2) := by decide +kernel
theorem dL_law_1590 : decode cL_law 1590 = .ok (.aload_n 2, 1) := by decide +kernel
theorem dL_law_1591 : decode cL_law 1591 = .ok (.aload_n 0, 1) := by decide +kernel
theorem dL_law_1592 : decode cL_law 1592 = .ok (.iload 5, 2) := by decide +kernel
theorem dL_law_1594 : decode cL_law 1594 = .ok (.iconst 1, 1) := by decide +kernel
theorem dL_law_1595 : decode cL_law 1595 = .ok (.iadd, 1) := by decide +kernel
theorem dL_law_1596 : decode cL_law 1596 = .ok (.iaload, 1) := by decide +kernel
theorem dL_law_1597 : decode cL_law 1597 = .ok (.aload_n 0, 1) := by decide +kernel
theorem dL_law_1598 : decode cL_law 1598 = .ok (.iload 5, 2) := by decide +kernel
theorem dL_law_1600 : decode cL_law 1600 = .ok (.iconst 2, 1) := by decide +kernel
theorem dL_law_1601 : decode cL_law 1601 = .ok (.iadd, 1) := by decide +kernel
theorem dL_law_1602 : decode cL_law 1602 = .ok (.iaload, 1) := by decide +kernel
theorem dL_law_1603 : decode cL_law 1603 = .ok (.invokevirtual 188, 3) := by decide +kernel
theorem dL_law_1606 : decode cL_law 1606 = .ok (.istore 7, 2) := by decide +kernel
theorem dL_law_1608 : decode cL_law 1608 = .ok (.aload_n 2, 1) := by decide +kernel
theorem dL_law_1609 : decode cL_law 1609 = .ok (.invokevirtual 126, 3) := by decide +kernel
theorem dL_law_1612 : decode cL_law 1612 = .ok (.iload 6, 2) := by decide +kernel
theorem dL_law_1614 : decode cL_law 1614 = .ok (.if_icmp .eq 5, 3) := by decide +kernel
theorem dL_law_1617 : decode cL_law 1617 = .ok (.iconst 0, 1) := by decide +kernel
theorem dL_law_1618 : decode cL_law 1618 = .ok (.ireturn, 1) := by decide +kernel
theorem dL_law_1619 : decode cL_law 1619 = .ok (.iload 6, 2) := by decide +kernel
theorem dL_law_1621 : decode cL_law 1621 = .ok (.ifCond .ne 15, 3) := by decide +kernel
theorem dL_law_1624 : decode cL_law 1624 = .ok (.aload_n 3, 1) := by decide +kernel
theorem dL_law_1625 : decode cL_law 1625 = .ok (.iconst 0, 1) := by decide +kernel
theorem dL_law_1626 : decode cL_law 1626 = .ok (.laload, 1) := by decide +kernel
theorem dL_law_1627 : decode cL_law 1627 = .ok (.iload 7, 2) := by decide +kernel
theorem dL_law_1629 : decode cL_law 1629 = .ok (.i2l, 1) := by decide +kernel
theorem dL_law_1630 : decode cL_law 1630 = .ok (.lcmp, 1) := by decide +kernel
theorem dL_law_1631 : decode cL_law 1631 = .ok (.ifCond .eq 5, 3) := by decide +kernel
theorem dL_law_1634 : decode cL_law 1634 = .ok (.iconst 0, 1) := by decide +kernel
theorem dL_law_1635 : decode cL_law 1635 = .ok (.ireturn, 1) := by decide +kernel
theorem dL_law_1636 : decode cL_law 1636 = .ok (.goto 624, 3) := by decide +kernel
theorem dL_law_1639 : decode cL_law 1639 = .ok (.aload_n 1, 1) := by decide +kernel
theorem dL_law_1640 : decode cL_law 1640 = .ok (.aload_n 0, 1) := by decide +kernel
theorem dL_law_1641 : decode cL_law 1641 = .ok (.iload 5, 2) := by decide +kernel
theorem dL_law_1643 : decode cL_law 1643 = .ok (.iconst 1, 1) := by decide +kernel
theorem dL_law_1644 : decode cL_law 1644 = .ok (.iadd, 1) := by decide +kernel
theorem dL_law_1645 : decode cL_law 1645 = .ok (.iaload, 1) := by decide +kernel
theorem dL_law_1646 : decode cL_law 1646 = .ok (.aload_n 0, 1) := by decide +kernel
theorem dL_law_1647 : decode cL_law 1647 = .ok (.iload 5, 2) := by decide +kernel
theorem dL_law_1649 : decode cL_law 1649 = .ok (.iconst 2, 1) := by decide +kernel
theorem dL_law_1650 : decode cL_law 1650 = .ok (.iadd, 1) := by decide +kernel
theorem dL_law_1651 : decode cL_law 1651 = .ok (.iaload, 1) := by decide +kernel
theorem dL_law_1652 : decode cL_law 1652 = .ok (.aload_n 3, 1) := by decide +kernel
theorem dL_law_1653 : decode cL_law 1653 = .ok (.invokestatic 189, 3) := by decide +kernel
theorem dL_law_1656 : decode cL_law 1656 = .ok (.istore 6, 2) := by decide +kernel
theorem dL_law_1658 : decode cL_law 1658 = .ok (.aload_n 2, 1) := by decide +kernel
theorem dL_law_1659 : decode cL_law 1659 = .ok (.aload_n 0, 1) := by decide +kernel
theorem dL_law_1660 : decode cL_law 1660 = .ok (.iload 5, 2) := by decide +kernel
theorem dL_law_1662 : decode cL_law 1662 = .ok (.iconst 1, 1) := by decide +kernel
theorem dL_law_1663 : decode cL_law 1663 = .ok (.iadd, 1) := by decide +kernel
theorem dL_law_1664 : decode cL_law 1664 = .ok (.iaload, 1) := by decide +kernel
theorem dL_law_1665 : decode cL_law 1665 = .ok (.aload_n 0, 1) := by decide +kernel
theorem dL_law_1666 : decode cL_law 1666 = .ok (.iload 5, 2) := by decide +kernel
theorem dL_law_1668 : decode cL_law 1668 = .ok (.iconst 2, 1) := by decide +kernel
theorem dL_law_1669 : decode cL_law 1669 = .ok (.iadd, 1) := by decide +kernel
theorem dL_law_1670 : decode cL_law 1670 = .ok (.iaload, 1) := by decide +kernel
theorem dL_law_1671 : decode cL_law 1671 = .ok (.invokevirtual 191, 3) := by decide +kernel
theorem dL_law_1674 : decode cL_law 1674 = .ok (.istore 7, 2) := by decide +kernel
theorem dL_law_1676 : decode cL_law 1676 = .ok (.aload_n 2, 1) := by decide +kernel
theorem dL_law_1677 : decode cL_law 1677 = .ok (.invokevirtual 126, 3) := by decide +kernel
theorem dL_law_1680 : decode cL_law 1680 = .ok (.iload 6, 2) := by decide +kernel
theorem dL_law_1682 : decode cL_law 1682 = .ok (.if_icmp .eq 5, 3) := by decide +kernel
theorem dL_law_1685 : decode cL_law 1685 = .ok (.iconst 0, 1) := by decide +kernel
theorem dL_law_1686 : decode cL_law 1686 = .ok (.ireturn, 1) := by decide +kernel
theorem dL_law_1687 : decode cL_law 1687 = .ok (.iload 6, 2) := by decide +kernel
theorem dL_law_1689 : decode cL_law 1689 = .ok (.ifCond .ne 22, 3) := by decide +kernel
theorem dL_law_1692 : decode cL_law 1692 = .ok (.aload_n 3, 1) := by decide +kernel
theorem dL_law_1693 : decode cL_law 1693 = .ok (.iconst 0, 1) := by decide +kernel
theorem dL_law_1694 : decode cL_law 1694 = .ok (.laload, 1) := by decide +kernel
theorem dL_law_1695 : decode cL_law 1695 = .ok (.iload 7, 2) := by decide +kernel
theorem dL_law_1697 : decode cL_law 1697 = .ok (.ifCond .eq 7, 3) := by decide +kernel
theorem dL_law_1700 : decode cL_law 1700 = .ok (.lconst 1, 1) := by decide +kernel
theorem dL_law_1701 : decode cL_law 1701 = .ok (.goto 4, 3) := by decide +kernel
theorem dL_law_1704 : decode cL_law 1704 = .ok (.lconst 0, 1) := by decide +kernel
theorem dL_law_1705 : decode cL_law 1705 = .ok (.lcmp, 1) := by decide +kernel
theorem dL_law_1706 : decode cL_law 1706 = .ok (.ifCond .eq 5, 3) := by decide +kernel
theorem dL_law_1709 : decode cL_law 1709 = .ok (.iconst 0, 1) := by decide +kernel
theorem dL_law_1710 : decode cL_law 1710 = .ok (.ireturn, 1) := by decide +kernel
theorem dL_law_1711 : decode cL_law 1711 = .ok (.goto 549, 3) := by decide +kernel
theorem dL_law_1714 : decode cL_law 1714 = .ok (.aload_n 1, 1) := by decide +kernel
theorem dL_law_1715 : decode cL_law 1715 = .ok (.aload_n 0, 1) := by decide +kernel
theorem dL_law_1716 : decode cL_law 1716 = .ok (.iload 5, 2) := by decide +kernel
theorem dL_law_1718 : decode cL_law 1718 = .ok (.iconst 1, 1) := by decide +kernel
theorem dL_law_1719 : decode cL_law 1719 = .ok (.iadd, 1) := by decide +kernel
theorem dL_law_1720 : decode cL_law 1720 = .ok (.iaload, 1) := by decide +kernel
theorem dL_law_1721 : decode cL_law 1721 = .ok (.aload_n 0, 1) := by decide +kernel
theorem dL_law_1722 : decode cL_law 1722 = .ok (.iload 5, 2) := by decide +kernel
theorem dL_law_1724 : decode cL_law 1724 = .ok (.iconst 2, 1) := by decide +kernel
theorem dL_law_1725 : decode cL_law 1725 = .ok (.iadd, 1) := by decide +kernel
theorem dL_law_1726 : decode cL_law 1726 = .ok (.iaload, 1) := by decide +kernel
theorem dL_law_1727 : decode cL_law 1727 = .ok (.aload_n 3, 1) := by decide +kernel
theorem dL_law_1728 : decode cL_law 1728 = .ok (.invokestatic 192, 3) := by decide +kernel
theorem dL_law_1731 : decode cL_law 1731 = .ok (.istore 6, 2) := by decide +kernel
theorem dL_law_1733 : decode cL_law 1733 = .ok (.aload_n 2, 1) := by decide +kernel
theorem dL_law_1734 : decode cL_law 1734 = .ok (.aload_n 0, 1) := by decide +kernel
theorem dL_law_1735 : decode cL_law 1735 = .ok (.iload 5, 2) := by decide +kernel
theorem dL_law_1737 : decode cL_law 1737 = .ok (.iconst 1, 1) := by decide +kernel
theorem dL_law_1738 : decode cL_law 1738 = .ok (.iadd, 1) := by decide +kernel
theorem dL_law_1739 : decode cL_law 1739 = .ok (.iaload, 1) := by decide +kernel
theorem dL_law_1740 : decode cL_law 1740 = .ok (.aload_n 0, 1) := by decide +kernel
theorem dL_law_1741 : decode cL_law 1741 = .ok (.iload 5, 2) := by decide +kernel
theorem dL_law_1743 : decode cL_law 1743 = .ok (.iconst 2, 1) := by decide +kernel
theorem dL_law_1744 : decode cL_law 1744 = .ok (.iadd, 1) := by decide +kernel
theorem dL_law_1745 : decode cL_law 1745 = .ok (.iaload, 1) := by decide +kernel
theorem dL_law_1746 : decode cL_law 1746 = .ok (.invokevirtual 194, 3) := by decide +kernel
theorem dL_law_1749 : decode cL_law 1749 = .ok (.istore 7, 2) := by decide +kernel
theorem dL_law_1751 : decode cL_law 1751 = .ok (.aload_n 2, 1) := by decide +kernel
theorem dL_law_1752 : decode cL_law 1752 = .ok (.invokevirtual 126, 3) := by decide +kernel
theorem dL_law_1755 : decode cL_law 1755 = .ok (.iload 6, 2) := by decide +kernel
theorem dL_law_1757 : decode cL_law 1757 = .ok (.if_icmp .eq 5, 3) := by decide +kernel
theorem dL_law_1760 : decode cL_law 1760 = .ok (.iconst 0, 1) := by decide +kernel
theorem dL_law_1761 : decode cL_law 1761 = .ok (.ireturn, 1) := by decide +kernel
theorem dL_law_1762 : decode cL_law 1762 = .ok (.iload 6, 2) := by decide +kernel
theorem dL_law_1764 : decode cL_law 1764 = .ok (.ifCond .ne 15, 3) := by decide +kernel
theorem dL_law_1767 : decode cL_law 1767 = .ok (.aload_n 3, 1) := by decide +kernel
theorem dL_law_1768 : decode cL_law 1768 = .ok (.iconst 0, 1) := by decide +kernel
theorem dL_law_1769 : decode cL_law 1769 = .ok (.laload, 1) := by decide +kernel
theorem dL_law_1770 : decode cL_law 1770 = .ok (.iload 7, 2) := by decide +kernel
theorem dL_law_1772 : decode cL_law 1772 = .ok (.i2l, 1) := by decide +kernel
theorem dL_law_1773 : decode cL_law 1773 = .ok (.lcmp, 1) := by decide +kernel
theorem dL_law_1774 : decode cL_law 1774 = .ok (.ifCond .eq 5, 3) := by decide +kernel
theorem dL_law_1777 : decode cL_law 1777 = .ok (.iconst 0, 1) := by decide +kernel
theorem dL_law_1778 : decode cL_law 1778 = .ok (.ireturn, 1) := by decide +kernel
theorem dL_law_1779 : decode cL_law 1779 = .ok (.goto 481, 3) := by decide +kernel
theorem dL_law_1782 : decode cL_law 1782 = .ok (.aload_n 1, 1) := by decide +kernel
theorem dL_law_1783 : decode cL_law 1783 = .ok (.aload_n 0, 1) := by decide +kernel
theorem dL_law_1784 : decode cL_law 1784 = .ok (.iload 5, 2) := by decide +kernel
theorem dL_law_1786 : decode cL_law 1786 = .ok (.iconst 1, 1) := by decide +kernel
theorem dL_law_1787 : decode cL_law 1787 = .ok (.iadd, 1) := by decide +kernel
theorem dL_law_1788 : decode cL_law 1788 = .ok (.iaload, 1) := by decide +kernel
theorem dL_law_1789 : decode cL_law 1789 = .ok (.aload_n 3, 1) := by decide +kernel
theorem dL_law_1790 : decode cL_law 1790 = .ok (.invokestatic 195, 3) := by decide +kernel
theorem dL_law_1793 : decode cL_law 1793 = .ok (.istore 6, 2) := by decide +kernel
theorem dL_law_1795 : decode cL_law 1795 = .ok (.aload_n 2, 1) := by decide +kernel
theorem dL_law_1796 : decode cL_law 1796 = .ok (.aload_n 0, 1) := by decide +kernel
theorem dL_law_1797 : decode cL_law 1797 = .ok (.iload 5, 2) := by decide +kernel
theorem dL_law_1799 : decode cL_law 1799 = .ok (.iconst 1, 1) := by decide +kernel
theorem dL_law_1800 : decode cL_law 1800 = .ok (.iadd, 1) := by decide +kernel
theorem dL_law_1801 : decode cL_law 1801 = .ok (.iaload, 1) := by decide +kernel
theorem dL_law_1802 : decode cL_law 1802 = .ok (.invokevirtual 197, 3) := by decide +kernel
theorem dL_law_1805 : decode cL_law 1805 = .ok (.istore 7, 2) := by decide +kernel
theorem dL_law_1807 : decode cL_law 1807 = .ok (.aload_n 2, 1) := by decide +kernel
theorem dL_law_1808 : decode cL_law 1808 = .ok (.invokevirtual 126, 3) := by decide +kernel
theorem dL_law_1811 : decode cL_law 1811 = .ok (.iload 6, 2) := by decide +kernel
theorem dL_law_1813 : decode cL_law 1813 = .ok (.if_icmp .eq 5, 3) := by decide +kernel
theorem dL_law_1816 : decode cL_law 1816 = .ok (.iconst 0, 1) := by decide +kernel
theorem dL_law_1817 : decode cL_law 1817 = .ok (.ireturn, 1) := by decide +kernel
theorem dL_law_1818 : decode cL_law 1818 = .ok (.iload 6, 2) := by decide +kernel
theorem dL_law_1820 : decode cL_law 1820 = .ok (.ifCond .ne 15, 3) := by decide +kernel
theorem dL_law_1823 : decode cL_law 1823 = .ok (.aload_n 3, 1) := by decide +kernel
theorem dL_law_1824 : decode cL_law 1824 = .ok (.iconst 0, 1) := by decide +kernel
theorem dL_law_1825 : decode cL_law 1825 = .ok (.laload, 1) := by decide +kernel
theorem dL_law_1826 : decode cL_law 1826 = .ok (.iload 7, 2) := by decide +kernel
theorem dL_law_1828 : decode cL_law 1828 = .ok (.i2l, 1) := by decide +kernel
theorem dL_law_1829 : decode cL_law 1829 = .ok (.lcmp, 1) := by decide +kernel
theorem dL_law_1830 : decode cL_law 1830 = .ok (.ifCond .eq 5, 3) := by decide +kernel
theorem dL_law_1833 : decode cL_law 1833 = .ok (.iconst 0, 1) := by decide +kernel
theorem dL_law_1834 : decode cL_law 1834 = .ok (.ireturn, 1) := by decide +kernel
theorem dL_law_1835 : decode cL_law 1835 = .ok (.goto 425, 3) := by decide +kernel
theorem dL_law_1838 : decode cL_law 1838 = .ok (.aload_n 1, 1) := by decide +kernel
theorem dL_law_1839 : decode cL_law 1839 = .ok (.aload_n 0, 1) := by decide +kernel
theorem dL_law_1840 : decode cL_law 1840 = .ok (.iload 5, 2) := by decide +kernel
theorem dL_law_1842 : decode cL_law 1842 = .ok (.iconst 1, 1) := by decide +kernel
theorem dL_law_1843 : decode cL_law 1843 = .ok (.iadd, 1) := by decide +kernel
theorem dL_law_1844 : decode cL_law 1844 = .ok (.iaload, 1) := by decide +kernel
theorem dL_law_1845 : decode cL_law 1845 = .ok (.aload_n 3, 1) := by decide +kernel
theorem dL_law_1846 : decode cL_law 1846 = .ok (.invokestatic 198, 3) := by decide +kernel
theorem dL_law_1849 : decode cL_law 1849 = .ok (.istore 6, 2) := by decide +kernel
theorem dL_law_1851 : decode cL_law 1851 = .ok (.aload_n 2, 1) := by decide +kernel
theorem dL_law_1852 : decode cL_law 1852 = .ok (.aload_n 0, 1) := by decide +kernel
theorem dL_law_1853 : decode cL_law 1853 = .ok (.iload 5, 2) := by decide +kernel
theorem dL_law_1855 : decode cL_law 1855 = .ok (.iconst 1, 1) := by decide +kernel
theorem dL_law_1856 : decode cL_law 1856 = .ok (.iadd, 1) := by decide +kernel
theorem dL_law_1857 : decode cL_law 1857 = .ok (.iaload, 1) := by decide +kernel
theorem dL_law_1858 : decode cL_law 1858 = .ok (.invokevirtual 200, 3) := by decide +kernel
theorem dL_law_1861 : decode cL_law 1861 = .ok (.istore 7, 2) := by decide +kernel
theorem dL_law_1863 : decode cL_law 1863 = .ok (.aload_n 2, 1) := by decide +kernel
theorem dL_law_1864 : decode cL_law 1864 = .ok (.invokevirtual 126, 3) := by decide +kernel
theorem dL_law_1867 : decode cL_law 1867 = .ok (.iload 6, 2) := by decide +kernel
theorem dL_law_1869 : decode cL_law 1869 = .ok (.if_icmp .eq 5, 3) := by decide +kernel
theorem dL_law_1872 : decode cL_law 1872 = .ok (.iconst 0, 1) := by decide +kernel
theorem dL_law_1873 : decode cL_law 1873 = .ok (.ireturn, 1) := by decide +kernel
theorem dL_law_1874 : decode cL_law 1874 = .ok (.iload 6, 2) := by decide +kernel
theorem dL_law_1876 : decode cL_law 1876 = .ok (.ifCond .ne 22, 3) := by decide +kernel
theorem dL_law_1879 : decode cL_law 1879 = .ok (.aload_n 3, 1) := by decide +kernel
theorem dL_law_1880 : decode cL_law 1880 = .ok (.iconst 0, 1) := by decide +kernel
theorem dL_law_1881 : decode cL_law 1881 = .ok (.laload, 1) := by decide +kernel
theorem dL_law_1882 : decode cL_law 1882 = .ok (.iload 7, 2) := by decide +kernel
theorem dL_law_1884 : decode cL_law 1884 = .ok (.ifCond .eq 7, 3) := by decide +kernel
theorem dL_law_1887 : decode cL_law 1887 = .ok (.lconst 1, 1) := by decide +kernel
theorem dL_law_1888 : decode cL_law 1888 = .ok (.goto 4, 3) := by decide +kernel
theorem dL_law_1891 : decode cL_law 1891 = .ok (.lconst 0, 1) := by decide +kernel
theorem dL_law_1892 : decode cL_law 1892 = .ok (.lcmp, 1) := by decide +kernel
theorem dL_law_1893 : decode cL_law 1893 = .ok (.ifCond .eq 5, 3) := by decide +kernel
theorem dL_law_1896 : decode cL_law 1896 = .ok (.iconst 0, 1) := by decide +kernel
theorem dL_law_1897 : decode cL_law 1897 = .ok (.ireturn, 1) := by decide +kernel
theorem dL_law_1898 : decode cL_law 1898 = .ok (.goto 362, 3) := by decide +kernel
theorem dL_law_1901 : decode cL_law 1901 = .ok (.aload_n 1, 1) := by decide +kernel
theorem dL_law_1902 : decode cL_law 1902 = .ok (.aload_n 0, 1) := by decide +kernel
theorem dL_law_1903 : decode cL_law 1903 = .ok (.iload 5, 2) := by decide +kernel
theorem dL_law_1905 : decode cL_law 1905 = .ok (.iconst 1, 1) := by decide +kernel
theorem dL_law_1906 : decode cL_law 1906 = .ok (.iadd, 1) := by decide +kernel
theorem dL_law_1907 : decode cL_law 1907 = .ok (.iaload, 1) := by decide +kernel
theorem dL_law_1908 : decode cL_law 1908 = .ok (.i2c, 1) := by decide +kernel
theorem dL_law_1909 : decode cL_law 1909 = .ok (.aload_n 0, 1) := by decide +kernel
theorem dL_law_1910 : decode cL_law 1910 = .ok (.iload 5, 2) := by decide +kernel
theorem dL_law_1912 : decode cL_law 1912 = .ok (.iconst 2, 1) := by decide +kernel
theorem dL_law_1913 : decode cL_law 1913 = .ok (.iadd, 1) := by decide +kernel
theorem dL_law_1914 : decode cL_law 1914 = .ok (.iaload, 1) := by decide +kernel
theorem dL_law_1915 : decode cL_law 1915 = .ok (.aload_n 0, 1) := by decide +kernel
theorem dL_law_1916 : decode cL_law 1916 = .ok (.iload 5, 2) := by decide +kernel
theorem dL_law_1918 : decode cL_law 1918 = .ok (.iconst 3, 1) := by decide +kernel
theorem dL_law_1919 : decode cL_law 1919 = .ok (.iadd, 1) := by decide +kernel
theorem dL_law_1920 : decode cL_law 1920 = .ok (.iaload, 1) := by decide +kernel
theorem dL_law_1921 : decode cL_law 1921 = .ok (.aload_n 0, 1) := by decide +kernel
theorem dL_law_1922 : decode cL_law 1922 = .ok (.iload 5, 2) := by decide +kernel
theorem dL_law_1924 : decode cL_law 1924 = .ok (.iconst 4, 1) := by decide +kernel
theorem dL_law_1925 : decode cL_law 1925 = .ok (.iadd, 1) := by decide +kernel
theorem dL_law_1926 : decode cL_law 1926 = .ok (.iaload, 1) := by decide +kernel
theorem dL_law_1927 : decode cL_law 1927 = .ok (.i2c, 1) := by decide +kernel
theorem dL_law_1928 : decode cL_law 1928 = .ok (.aload_n 3, 1) := by decide +kernel
theorem dL_law_1929 : decode cL_law 1929 = .ok (.invokestatic 201, 3) := by decide +kernel
theorem dL_law_1932 : decode cL_law 1932 = .ok (.istore 6, 2) := by decide +kernel
theorem dL_law_1934 : decode cL_law 1934 = .ok (.aload_n 2, 1) := by decide +kernel
theorem dL_law_1935 : decode cL_law 1935 = .ok (.aload_n 0, 1) := by decide +kernel
theorem dL_law_1936 : decode cL_law 1936 = .ok (.iload 5, 2) := by decide +kernel
theorem dL_law_1938 : decode cL_law 1938 = .ok (.iconst 1, 1) := by decide +kernel
theorem dL_law_1939 : decode cL_law 1939 = .ok (.iadd, 1) := by decide +kernel
theorem dL_law_1940 : decode cL_law 1940 = .ok (.iaload, 1) := by decide +kernel
theorem dL_law_1941 : decode cL_law 1941 = .ok (.i2c, 1) := by decide +kernel
theorem dL_law_1942 : decode cL_law 1942 = .ok (.aload_n 0, 1) := by decide +kernel
theorem dL_law_1943 : decode cL_law 1943 = .ok (.iload 5, 2) := by decide +kernel
theorem dL_law_1945 : decode cL_law 1945 = .ok (.iconst 2, 1) := by decide +kernel
theorem dL_law_1946 : decode cL_law 1946 = .ok (.iadd, 1) := by decide +kernel
theorem dL_law_1947 : decode cL_law 1947 = .ok (.iaload, 1) := by decide +kernel
theorem dL_law_1948 : decode cL_law 1948 = .ok (.aload_n 0, 1) := by decide +kernel
theorem dL_law_1949 : decode cL_law 1949 = .ok (.iload 5, 2) := by decide +kernel
theorem dL_law_1951 : decode cL_law 1951 = .ok (.iconst 3, 1) := by decide +kernel
theorem dL_law_1952 : decode cL_law 1952 = .ok (.iadd, 1) := by decide +kernel
theorem dL_law_1953 : decode cL_law 1953 = .ok (.iaload, 1) := by decide +kernel
theorem dL_law_1954 : decode cL_law 1954 = .ok (.aload_n 0, 1) := by decide +kernel
theorem dL_law_1955 : decode cL_law 1955 = .ok (.iload 5, 2) := by decide +kernel
theorem dL_law_1957 : decode cL_law 1957 = .ok (.iconst 4, 1) := by decide +kernel
theorem dL_law_1958 : decode cL_law 1958 = .ok (.iadd, 1) := by decide +kernel
theorem dL_law_1959 : decode cL_law 1959 = .ok (.iaload, 1) := by decide +kernel
theorem dL_law_1960 : decode cL_law 1960 = .ok (.i2c, 1) := by decide +kernel
theorem dL_law_1961 : decode cL_law 1961 = .ok (.invokevirtual 204, 3) := by decide +kernel
theorem dL_law_1964 : decode cL_law 1964 = .ok (.lstore 7, 2) := by decide +kernel
theorem dL_law_1966 : decode cL_law 1966 = .ok (.aload_n 2, 1) := by decide +kernel
theorem dL_law_1967 : decode cL_law 1967 = .ok (.invokevirtual 126, 3) := by decide +kernel
theorem dL_law_1970 : decode cL_law 1970 = .ok (.iload 6, 2) := by decide +kernel
theorem dL_law_1972 : decode cL_law 1972 = .ok (.if_icmp .eq 5, 3) := by decide +kernel
theorem dL_law_1975 : decode cL_law 1975 = .ok (.iconst 0, 1) := by decide +kernel
theorem dL_law_1976 : decode cL_law 1976 = .ok (.ireturn, 1) := by decide +kernel
theorem dL_law_1977 : decode cL_law 1977 = .ok (.iload 6, 2) := by decide +kernel
theorem dL_law_1979 : decode cL_law 1979 = .ok (.ifCond .ne 14, 3) := by decide +kernel
theorem dL_law_1982 : decode cL_law 1982 = .ok (.aload_n 3, 1) := by decide +kernel
theorem dL_law_1983 : decode cL_law 1983 = .ok (.iconst 0, 1) := by decide +kernel
theorem dL_law_1984 : decode cL_law 1984 = .ok (.laload, 1) := by decide +kernel
theorem dL_law_1985 : decode cL_law 1985 = .ok (.lload 7, 2) := by decide +kernel
theorem dL_law_1987 : decode cL_law 1987 = .ok (.lcmp, 1) := by decide +kernel
theorem dL_law_1988 : decode cL_law 1988 = .ok (.ifCond .eq 5, 3) := by decide +kernel
theorem dL_law_1991 : decode cL_law 1991 = .ok (.iconst 0, 1) := by decide +kernel
theorem dL_law_1992 : decode cL_law 1992 = .ok (.ireturn, 1) := by decide +kernel
theorem dL_law_1993 : decode cL_law 1993 = .ok (.goto 267, 3) := by decide +kernel
theorem dL_law_1996 : decode cL_law 1996 = .ok (.aload_n 1, 1) := by decide +kernel
theorem dL_law_1997 : decode cL_law 1997 = .ok (.aload_n 0, 1) := by decide +kernel
theorem dL_law_1998 : decode cL_law 1998 = .ok (.iload 5, 2) := by decide +kernel
theorem dL_law_2000 : decode cL_law 2000 = .ok (.iconst 1, 1) := by decide +kernel
theorem dL_law_2001 : decode cL_law 2001 = .ok (.iadd, 1) := by decide +kernel
theorem dL_law_2002 : decode cL_law 2002 = .ok (.iaload, 1) := by decide +kernel
theorem dL_law_2003 : decode cL_law 2003 = .ok (.i2c, 1) := by decide +kernel
theorem dL_law_2004 : decode cL_law 2004 = .ok (.aload_n 0, 1) := by decide +kernel
theorem dL_law_2005 : decode cL_law 2005 = .ok (.iload 5, 2) := by decide +kernel
theorem dL_law_2007 : decode cL_law 2007 = .ok (.iconst 2, 1) := by decide +kernel
theorem dL_law_2008 : decode cL_law 2008 = .ok (.iadd, 1) := by decide +kernel
theorem dL_law_2009 : decode cL_law 2009 = .ok (.iaload, 1) := by decide +kernel
theorem dL_law_2010 : decode cL_law 2010 = .ok (.aload_n 0, 1) := by decide +kernel
theorem dL_law_2011 : decode cL_law 2011 = .ok (.iload 5, 2) := by decide +kernel
theorem dL_law_2013 : decode cL_law 2013 = .ok (.iconst 3, 1) := by decide +kernel
theorem dL_law_2014 : decode cL_law 2014 = .ok (.iadd, 1) := by decide +kernel
theorem dL_law_2015 : decode cL_law 2015 = .ok (.iaload, 1) := by decide +kernel
theorem dL_law_2016 : decode cL_law 2016 = .ok (.aload_n 3, 1) := by decide +kernel
theorem dL_law_2017 : decode cL_law 2017 = .ok (.invokestatic 205, 3) := by decide +kernel
theorem dL_law_2020 : decode cL_law 2020 = .ok (.istore 6, 2) := by decide +kernel
theorem dL_law_2022 : decode cL_law 2022 = .ok (.aload_n 2, 1) := by decide +kernel
theorem dL_law_2023 : decode cL_law 2023 = .ok (.aload_n 0, 1) := by decide +kernel
theorem dL_law_2024 : decode cL_law 2024 = .ok (.iload 5, 2) := by decide +kernel
theorem dL_law_2026 : decode cL_law 2026 = .ok (.iconst 1, 1) := by decide +kernel
theorem dL_law_2027 : decode cL_law 2027 = .ok (.iadd, 1) := by decide +kernel
theorem dL_law_2028 : decode cL_law 2028 = .ok (.iaload, 1) := by decide +kernel
theorem dL_law_2029 : decode cL_law 2029 = .ok (.i2c, 1) := by decide +kernel
theorem dL_law_2030 : decode cL_law 2030 = .ok (.aload_n 0, 1) := by decide +kernel
theorem dL_law_2031 : decode cL_law 2031 = .ok (.iload 5, 2) := by decide +kernel
theorem dL_law_2033 : decode cL_law 2033 = .ok (.iconst 2, 1) := by decide +kernel
theorem dL_law_2034 : decode cL_law 2034 = .ok (.iadd, 1) := by decide +kernel
theorem dL_law_2035 : decode cL_law 2035 = .ok (.iaload, 1) := by decide +kernel
theorem dL_law_2036 : decode cL_law 2036 = .ok (.aload_n 0, 1) := by decide +kernel
theorem dL_law_2037 : decode cL_law 2037 = .ok (.iload 5, 2) := by decide +kernel
theorem dL_law_2039 : decode cL_law 2039 = .ok (.iconst 3, 1) := by decide +kernel
theorem dL_law_2040 : decode cL_law 2040 = .ok (.iadd, 1) := by decide +kernel
theorem dL_law_2041 : decode cL_law 2041 = .ok (.iaload, 1) := by decide +kernel
theorem dL_law_2042 : decode cL_law 2042 = .ok (.invokevirtual 207, 3) := by decide +kernel
theorem dL_law_2045 : decode cL_law 2045 = .ok (.istore 7, 2) := by decide +kernel
theorem dL_law_2047 : decode cL_law 2047 = .ok (.aload_n 2, 1) := by decide +kernel
theorem dL_law_2048 : decode cL_law 2048 = .ok (.invokevirtual 126, 3) := by decide +kernel
theorem dL_law_2051 : decode cL_law 2051 = .ok (.iload 6, 2) := by decide +kernel
theorem dL_law_2053 : decode cL_law 2053 = .ok (.if_icmp .eq 5, 3) := by decide +kernel
theorem dL_law_2056 : decode cL_law 2056 = .ok (.iconst 0, 1) := by decide +kernel
theorem dL_law_2057 : decode cL_law 2057 = .ok (.ireturn, 1) := by decide +kernel
theorem dL_law_2058 : decode cL_law 2058 = .ok (.iload 6, 2) := by decide +kernel
theorem dL_law_2060 : decode cL_law 2060 = .ok (.ifCond .ne 15, 3) := by decide +kernel
theorem dL_law_2063 : decode cL_law 2063 = .ok (.aload_n 3, 1) := by decide +kernel
theorem dL_law_2064 : decode cL_law 2064 = .ok (.iconst 0, 1) := by decide +kernel
theorem dL_law_2065 : decode cL_law 2065 = .ok (.laload, 1) := by decide +kernel
theorem dL_law_2066 : decode cL_law 2066 = .ok (.iload 7, 2) := by decide +kernel
theorem dL_law_2068 : decode cL_law 2068 = .ok (.i2l, 1) := by decide +kernel
theorem dL_law_2069 : decode cL_law 2069 = .ok (.lcmp, 1) := by decide +kernel
theorem dL_law_2070 : decode cL_law 2070 = .ok (.ifCond .eq 5, 3) := by decide +kernel
theorem dL_law_2073 : decode cL_law 2073 = .ok (.iconst 0, 1) := by decide +kernel
theorem dL_law_2074 : decode cL_law 2074 = .ok (.ireturn, 1) := by decide +kernel
theorem dL_law_2075 : decode cL_law 2075 = .ok (.goto 185, 3) := by decide +kernel
theorem dL_law_2078 : decode cL_law 2078 = .ok (.aload_n 1, 1) := by decide +kernel
theorem dL_law_2079 : decode cL_law 2079 = .ok (.aload_n 0, 1) := by decide +kernel
theorem dL_law_2080 : decode cL_law 2080 = .ok (.iload 5, 2) := by decide +kernel
theorem dL_law_2082 : decode cL_law 2082 = .ok (.iconst 1, 1) := by decide +kernel
theorem dL_law_2083 : decode cL_law 2083 = .ok (.iadd, 1) := by decide +kernel
theorem dL_law_2084 : decode cL_law 2084 = .ok (.iaload, 1) := by decide +kernel
theorem dL_law_2085 : decode cL_law 2085 = .ok (.aload 4, 2) := by decide +kernel
theorem dL_law_2087 : decode cL_law 2087 = .ok (.invokestatic 208, 3) := by decide +kernel
theorem dL_law_2090 : decode cL_law 2090 = .ok (.istore 6, 2) := by decide +kernel
theorem dL_law_2092 : decode cL_law 2092 = .ok (.aload_n 2, 1) := by decide +kernel
theorem dL_law_2093 : decode cL_law 2093 = .ok (.aload_n 0, 1) := by decide +kernel
theorem dL_law_2094 : decode cL_law 2094 = .ok (.iload 5, 2) := by decide +kernel
theorem dL_law_2096 : decode cL_law 2096 = .ok (.iconst 1, 1) := by decide +kernel
theorem dL_law_2097 : decode cL_law 2097 = .ok (.iadd, 1) := by decide +kernel
theorem dL_law_2098 : decode cL_law 2098 = .ok (.iaload, 1) := by decide +kernel
theorem dL_law_2099 : decode cL_law 2099 = .ok (.invokevirtual 211, 3) := by decide +kernel
theorem dL_law_2102 : decode cL_law 2102 = .ok (.fstore 7, 2) := by decide +kernel
theorem dL_law_2104 : decode cL_law 2104 = .ok (.aload_n 2, 1) := by decide +kernel
theorem dL_law_2105 : decode cL_law 2105 = .ok (.invokevirtual 126, 3) := by decide +kernel
theorem dL_law_2108 : decode cL_law 2108 = .ok (.iload 6, 2) := by decide +kernel
theorem dL_law_2110 : decode cL_law 2110 = .ok (.if_icmp .eq 5, 3) := by decide +kernel
theorem dL_law_2113 : decode cL_law 2113 = .ok (.iconst 0, 1) := by decide +kernel
theorem dL_law_2114 : decode cL_law 2114 = .ok (.ireturn, 1) := by decide +kernel
theorem dL_law_2115 : decode cL_law 2115 = .ok (.iload 6, 2) := by decide +kernel
theorem dL_law_2117 : decode cL_law 2117 = .ok (.ifCond .ne 36, 3) := by decide +kernel
theorem dL_law_2120 : decode cL_law 2120 = .ok (.aload 4, 2) := by decide +kernel
theorem dL_law_2122 : decode cL_law 2122 = .ok (.iconst 0, 1) := by decide +kernel
theorem dL_law_2123 : decode cL_law 2123 = .ok (.daload, 1) := by decide +kernel
theorem dL_law_2124 : decode cL_law 2124 = .ok (.fload 7, 2) := by decide +kernel
theorem dL_law_2126 : decode cL_law 2126 = .ok (.f2d, 1) := by decide +kernel
theorem dL_law_2127 : decode cL_law 2127 = .ok (.dcmp .l, 1) := by decide +kernel
theorem dL_law_2128 : decode cL_law 2128 = .ok (.ifCond .eq 25, 3) := by decide +kernel
theorem dL_law_2131 : decode cL_law 2131 = .ok (.aload 4, 2) := by decide +kernel
theorem dL_law_2133 : decode cL_law 2133 = .ok (.iconst 0, 1) := by decide +kernel
theorem dL_law_2134 : decode cL_law 2134 = .ok (.daload, 1) := by decide +kernel
theorem dL_law_2135 : decode cL_law 2135 = .ok (.aload 4, 2) := by decide +kernel
theorem dL_law_2137 : decode cL_law 2137 = .ok (.iconst 0, 1) := by decide +kernel
theorem dL_law_2138 : decode cL_law 2138 = .ok (.daload, 1) := by decide +kernel
theorem dL_law_2139 : decode cL_law 2139 = .ok (.dcmp .l, 1) := by decide +kernel
theorem dL_law_2140 : decode cL_law 2140 = .ok (.ifCond .eq 11, 3) := by decide +kernel
theorem dL_law_2143 : decode cL_law 2143 = .ok (.fload 7, 2) := by decide +kernel
theorem dL_law_2145 : decode cL_law 2145 = .ok (.fload 7, 2) := by decide +kernel
theorem dL_law_2147 : decode cL_law 2147 = .ok (.fcmp .l, 1) := by decide +kernel
theorem dL_law_2148 : decode cL_law 2148 = .ok (.ifCond .ne 5, 3) := by decide +kernel
theorem dL_law_2151 : decode cL_law 2151 = .ok (.iconst 0, 1) := by decide +kernel
theorem dL_law_2152 : decode cL_law 2152 = .ok (.ireturn, 1) := by decide +kernel
theorem dL_law_2153 : decode cL_law 2153 = .ok (.goto 107, 3) := by decide +kernel
theorem dL_law_2156 : decode cL_law 2156 = .ok (.aload_n 1, 1) := by decide +kernel
theorem dL_law_2157 : decode cL_law 2157 = .ok (.aload_n 0, 1) := by decide +kernel
theorem dL_law_2158 : decode cL_law 2158 = .ok (.iload 5, 2) := by decide +kernel
theorem dL_law_2160 : decode cL_law 2160 = .ok (.iconst 1, 1) := by decide +kernel
theorem dL_law_2161 : decode cL_law 2161 = .ok (.iadd, 1) := by decide +kernel
theorem dL_law_2162 : decode cL_law 2162 = .ok (.iaload, 1) := by decide +kernel
theorem dL_law_2163 : decode cL_law 2163 = .ok (.aload 4, 2) := by decide +kernel
theorem dL_law_2165 : decode cL_law 2165 = .ok (.invokestatic 212, 3) := by decide +kernel
theorem dL_law_2168 : decode cL_law 2168 = .ok (.istore 6, 2) := by decide +kernel
theorem dL_law_2170 : decode cL_law 2170 = .ok (.aload_n 2, 1) := by decide +kernel
theorem dL_law_2171 : decode cL_law 2171 = .ok (.aload_n 0, 1) := by decide +kernel
theorem dL_law_2172 : decode cL_law 2172 = .ok (.iload 5, 2) := by decide +kernel
theorem dL_law_2174 : decode cL_law 2174 = .ok (.iconst 1, 1) := by decide +kernel
theorem dL_law_2175 : decode cL_law 2175 = .ok (.iadd, 1) := by decide +kernel
theorem dL_law_2176 : decode cL_law 2176 = .ok (.iaload, 1) := by decide +kernel
theorem dL_law_2177 : decode cL_law 2177 = .ok (.invokevirtual 214, 3) := by decide +kernel
theorem dL_law_2180 : decode cL_law 2180 = .ok (.dstore 7, 2) := by decide +kernel
theorem dL_law_2182 : decode cL_law 2182 = .ok (.aload_n 2, 1) := by decide +kernel
theorem dL_law_2183 : decode cL_law 2183 = .ok (.invokevirtual 126, 3) := by decide +kernel
theorem dL_law_2186 : decode cL_law 2186 = .ok (.iload 6, 2) := by decide +kernel
theorem dL_law_2188 : decode cL_law 2188 = .ok (.if_icmp .eq 5, 3) := by decide +kernel
theorem dL_law_2191 : decode cL_law 2191 = .ok (.iconst 0, 1) := by decide +kernel
theorem dL_law_2192 : decode cL_law 2192 = .ok (.ireturn, 1) := by decide +kernel
theorem dL_law_2193 : decode cL_law 2193 = .ok (.iload 6, 2) := by decide +kernel
theorem dL_law_2195 : decode cL_law 2195 = .ok (.ifCond .ne 35, 3) := by decide +kernel
theorem dL_law_2198 : decode cL_law 2198 = .ok (.aload 4, 2) := by decide +kernel
theorem dL_law_2200 : decode cL_law 2200 = .ok (.iconst 0, 1) := by decide +kernel
theorem dL_law_2201 : decode cL_law 2201 = .ok (.daload, 1) := by decide +kernel
theorem dL_law_2202 : decode cL_law 2202 = .ok (.dload 7, 2) := by decide +kernel
theorem dL_law_2204 : decode cL_law 2204 = .ok (.dcmp .l, 1) := by decide +kernel
theorem dL_law_2205 : decode cL_law 2205 = .ok (.ifCond .eq 25, 3) := by decide +kernel
theorem dL_law_2208 : decode cL_law 2208 = .ok (.aload 4, 2) := by decide +kernel
theorem dL_law_2210 : decode cL_law 2210 = .ok (.iconst 0, 1) := by decide +kernel
theorem dL_law_2211 : decode cL_law 2211 = .ok (.daload, 1) := by decide +kernel
theorem dL_law_2212 : decode cL_law 2212 = .ok (.aload 4, 2) := by decide +kernel
theorem dL_law_2214 : decode cL_law 2214 = .ok (.iconst 0, 1) := by decide +kernel
theorem dL_law_2215 : decode cL_law 2215 = .ok (.daload, 1) := by decide +kernel
theorem dL_law_2216 : decode cL_law 2216 = .ok (.dcmp .l, 1) := by decide +kernel
theorem dL_law_2217 : decode cL_law 2217 = .ok (.ifCond .eq 11, 3) := by decide +kernel
theorem dL_law_2220 : decode cL_law 2220 = .ok (.dload 7, 2) := by decide +kernel
theorem dL_law_2222 : decode cL_law 2222 = .ok (.dload 7, 2) := by decide +kernel
theorem dL_law_2224 : decode cL_law 2224 = .ok (.dcmp .l, 1) := by decide +kernel
theorem dL_law_2225 : decode cL_law 2225 = .ok (.ifCond .ne 5, 3) := by decide +kernel
theorem dL_law_2228 : decode cL_law 2228 = .ok (.iconst 0, 1) := by decide +kernel
theorem dL_law_2229 : decode cL_law 2229 = .ok (.ireturn, 1) := by decide +kernel
theorem dL_law_2230 : decode cL_law 2230 = .ok (.goto 30, 3) := by decide +kernel
theorem dL_law_2233 : decode cL_law 2233 = .ok (.aload_n 1, 1) := by decide +kernel
theorem dL_law_2234 : decode cL_law 2234 = .ok (.invokevirtual 215, 3) := by decide +kernel
theorem dL_law_2237 : decode cL_law 2237 = .ok (.aload_n 2, 1) := by decide +kernel
theorem dL_law_2238 : decode cL_law 2238 = .ok (.invokevirtual 219, 3) := by decide +kernel
theorem dL_law_2241 : decode cL_law 2241 = .ok (.lcmp, 1) := by decide +kernel
theorem dL_law_2242 : decode cL_law 2242 = .ok (.ifCond .eq 18, 3) := by decide +kernel
theorem dL_law_2245 : decode cL_law 2245 = .ok (.iconst 0, 1) := by decide +kernel
theorem dL_law_2246 : decode cL_law 2246 = .ok (.ireturn, 1) := by decide +kernel
theorem dL_law_2247 : decode cL_law 2247 = .ok (.aload_n 1, 1) := by decide +kernel
theorem dL_law_2248 : decode cL_law 2248 = .ok (.invokevirtual 220, 3) := by decide +kernel
theorem dL_law_2251 : decode cL_law 2251 = .ok (.aload_n 2, 1) := by decide +kernel
theorem dL_law_2252 : decode cL_law 2252 = .ok (.invokevirtual 224, 3) := by decide +kernel
theorem dL_law_2255 : decode cL_law 2255 = .ok (.if_icmp .eq 5, 3) := by decide +kernel
theorem dL_law_2258 : decode cL_law 2258 = .ok (.iconst 0, 1) := by decide +kernel
theorem dL_law_2259 : decode cL_law 2259 = .ok (.ireturn, 1) := by decide +kernel
theorem dL_law_2260 : decode cL_law 2260 = .ok (.iinc 5 8, 3) := by decide +kernel
theorem dL_law_2263 : decode cL_law 2263 = .ok (.goto (-2235), 3) := by decide +kernel
theorem dL_law_2266 : decode cL_law 2266 = .ok (.iconst 1, 1) := by decide +kernel
theorem dL_law_2267 : decode cL_law 2267 = .ok (.ireturn, 1) := by decide +kernel
end
section
def gw (n : Nat) (ad : Nat → Nat) (G : Nat → va_E) : va_W := (List.range n).map (fun i => (ad i, G i))
theorem gw_get {n : Nat} {ad : Nat → Nat} {G : Nat → va_E} {i : Nat} (h : i < n) {e : va_E} (hG : G i = e) : (gw n ad G)[i]? = some (ad i, e) := by
  unfold gw
  rw [List.getElem?_map, List.getElem?_range h, ← hG]
  rfl
theorem gw_set {n : Nat} {ad : Nat → Nat} {G : Nat → va_E} {i : Nat} (e : va_E) (h : i < n) : (gw n ad G).set i (ad i, e) = gw n ad (va_up G i e) := by
  unfold gw
  apply List.ext_getElem?
  intro j
  by_cases hj : j = i
  · subst hj
    rw [List.getElem?_set_self (by rw [List.length_map, List.length_range]; exact h), List.getElem?_map, List.getElem?_range h]
    simp [va_up]
  · rw [List.getElem?_set_ne (Ne.symm hj), List.getElem?_map, List.getElem?_map]
    by_cases hn : j < n
    · rw [List.getElem?_range hn]
      simp [va_up, hj]
    · rw [List.getElem?_eq_none (by rw [List.length_range]; omega)]
      rfl
theorem gw_push {n : Nat} {ad : Nat → Nat} {G : Nat → va_E} (q : Nat) (e : va_E) : gw n ad G ++ [(q, e)] = gw (n + 1) (va_up ad n q) (va_up G n e) := by
  unfold gw
  rw [List.range_succ, List.map_append]
  congr 1
  · apply List.map_congr_left
    intro i hi
    have h := List.mem_range.mp hi
    rw [va_up_ne _ _ (by omega), va_up_ne _ _ (by omega)]
  · simp [va_up]
theorem gw_pre {D : va_G} {cl : List vw_C} {n m : Nat} {ad : Nat → Nat} {G : Nat → va_E} {H : Heap} (hm : m ≤ n) (h : va_P D cl (gw n ad G) H) : va_P D cl (gw m ad G) H := by
  intro k q hk
  have hl : k < m := by
    have := (List.getElem?_eq_some_iff.mp hk).1
    simpa [gw] using this
  rw [gw_get hl rfl] at hk
  exact h k q (by rw [gw_get (by omega) rfl]; exact hk)
theorem gw_dis {A : Nat → Prop} {n : Nat} {ad : Nat → Nat} {G : Nat → va_E} (h : va_D A (gw n ad G)) : (∀ i j, i < n → j < n → ad i = ad j → i = j) ∧ ∀ i, i < n → A (ad i) := by
  refine ⟨fun i j hi hj e => h.1 i j (ad i, G i) (ad j, G j) (gw_get hi rfl) (gw_get hj rfl) e, fun i hi => h.2 i (ad i, G i) (gw_get hi rfl)⟩
theorem gw_of_dis {A : Nat → Prop} {n : Nat} {ad : Nat → Nat} (h1 : ∀ i j, i < n → j < n → ad i = ad j → i = j) (h2 : ∀ i, i < n → A (ad i)) (G : Nat → va_E) : va_D A (gw n ad G) := by
  have key : ∀ (i : Nat) (p : Nat × va_E), (gw n ad G)[i]? = some p → i < n ∧ p = (ad i, G i) := by
    intro i p hp
    have hl : i < n := by
      have := (List.getElem?_eq_some_iff.mp hp).1
      simpa [gw] using this
    rw [gw_get hl rfl] at hp
    exact ⟨hl, (Option.some.inj hp).symm⟩
  refine ⟨fun i j p q hi hj e => ?_, fun k q hk => ?_⟩
  · obtain ⟨a1, rfl⟩ := key i p hi
    obtain ⟨a2, rfl⟩ := key j q hj
    exact h1 i j a1 a2 e
  · obtain ⟨a1, rfl⟩ := key k q hk
    exact h2 k a1
def tysC (cT : Nat → ClassId) : List (ClassId × FieldType) := [(cT 0, .long), (cT 1, .int), (cT 2, .char), (cT 3, .boolean), (cT 4, .double), (cT 5, .object RX1), (cT 6, .object RX0), (cT 7, .array .long), (cT 8, .array .int), (cT 9, .array .char), (cT 10, .array (.array .long))]
def strL : List (Nat × String) := [(37, "no number of this kind"), (213, "no such kind"), (215, "no such row"), (52, "the row is full"), (59, "no such length of a row"), (69, "no such place"), (217, "no such bench"), (80, "no such part"), (219, "no such item"), (102, "the item is a piece"), (221, "the item is a number"), (223, "the item is a number or an iterator"), (125, "no such characteristic"), (144, "no iterator over a piece of a row of Integer"), (147, "the item is no iterator"), (211, "no such size of a piece"), (171, "nothing such to reckon"), (183, "the part is empty"), (189, "the bench has no piece")]
def nstF : List (Nat × String × String × String) := [(86, "Splityard$Bench", "size", "I"), (138, "Splityard$Bench", "ofInteger", "Z"), (94, "Splityard$Bench", "whats", "[I"), (104, "Splityard$Bench", "numbers", "[J"), (89, "Splityard$Bench", "count", "I"), (55, "Splityard$Row", "count", "I")]
def nstM : List (Nat × MethodName) := [(25, yX0_init), (30, yX1_init)]
def xIA : String := "java/lang/IllegalArgumentException"
def xIO : String := "java/lang/IndexOutOfBoundsException"
def xIS : String := "java/lang/IllegalStateException"
def xUO : String := "java/lang/UnsupportedOperationException"
def xAR : String := "java/lang/ArithmeticException"
def xcL : List String := [xIA, xIO, xIS, xUO, xAR]
def fKI : Nat → Value := fun j => .int (nI (if j = 0 then 105 else if j = 1 then 108 else 111))
def fHO : Nat → Value := fun j => .int (nI (if j = 0 then 115 else if j = 1 then 120 else if j = 2 then 104 else 102))
def fSZ : Nat → Value := fun j => .int (nI (if j = 0 then 1 else if j = 1 then 2 else if j = 2 then 3 else 7))
def EXa (A : Nat → Prop) (U : State) (H : Heap) : Prop := vx_Zq Bundle.tN "UNASSIGNED_STACK" Bundle.steD A U H ∧ vx_Zq Bundle.tN "SUPPRESSED_SENTINEL" Bundle.listD A U H ∧ (∃ t : Nat, va_Z "Splityard" "KINDS" "[C" (.ref t) A U H ∧ va_T .char t 3 fKI A U H) ∧ (∃ t : Nat, va_Z "Splityard" "HOWS" "[C" (.ref t) A U H ∧ va_T .char t 4 fHO A U H) ∧ (∃ t : Nat, va_Z "Splityard" "SIZES_TO_CHECK" "[I" (.ref t) A U H ∧ va_T .int t 4 fSZ A U H)
def EXb (U : State) : Prop := (∀ q ∈ strL, ∃ sa, vk_R RX2 q.1 q.2 sa U) ∧ (∀ q ∈ nstF, va_Nw (.fieldLinkNest RX2 q.1 q.2.1 q.2.2.1 q.2.2.2 "Splityard") U) ∧ (∀ q ∈ nstM, va_Nw (.methodLinkNest RX2 q.1 q.2 "Splityard") U) ∧ (∀ x ∈ xcL, va_Nw (.castable x x) U) ∧ (∀ x ∈ xcL, ∀ y ∈ xcL, x ≠ y → va_Nc x y U)
def EX (A : Nat → Prop) (U : State) : Prop := EXa A U U.heap ∧ EXb U
theorem EXa.moved {A : Nat → Prop} {s U : State} {H H1 : Heap} (h : EXa A s H) (hvm : s.vm.Alike U.vm) (hq : ∀ a : Nat, a < H.size → ¬ A a → H1[a]? = H[a]?) : EXa A U H1 := by
  obtain ⟨h1, h2, ⟨t3, h3, h3'⟩, ⟨t4, h4, h4'⟩, ⟨t5, h5, h5'⟩⟩ := h
  exact ⟨vx_Zq.moved hvm (h1.kept hq), vx_Zq.moved hvm (h2.kept hq), ⟨t3, va_Z.moved hvm (h3.kept hq), va_T.moved hvm (h3'.kept hq)⟩, ⟨t4, va_Z.moved hvm (h4.kept hq), va_T.moved hvm (h4'.kept hq)⟩, ⟨t5, va_Z.moved hvm (h5.kept hq), va_T.moved hvm (h5'.kept hq)⟩⟩
theorem EXb.warm {s U : State} (h : EXb s) (hW : s.WarmedH U.vm) : EXb U := by
  obtain ⟨h1, h2, h3, h4, h5⟩ := h
  exact ⟨fun q hq => by obtain ⟨sa, h⟩ := h1 q hq; exact ⟨sa, vk_R.warm hW h⟩, fun q hq => va_Nw.warmF hW (h2 q hq), fun q hq => va_Nw.warmM hW (h3 q hq), fun x hx => va_Nw.warmC hW (h4 x hx), fun x hx y hy hn => va_Nc.moved hW.alike (h5 x hx y hy hn)⟩
theorem EXb.same {s U : State} (h : EXb s) (hv : U.vm = s.vm) : EXb U := by
  obtain ⟨h1, h2, h3, h4, h5⟩ := h
  exact ⟨fun q hq => by obtain ⟨sa, h⟩ := h1 q hq; exact ⟨sa, vk_R.same hv h⟩, fun q hq => va_Nw.same rfl hv.symm (h2 q hq), fun q hq => va_Nw.same rfl hv.symm (h3 q hq), fun x hx => va_Nw.same rfl hv.symm (h4 x hx), fun x hx y hy hn => va_Nc.moved (by rw [hv]; exact Vm.Alike.refl _) (h5 x hx y hy hn)⟩
def QG (D : va_G) (n : Nat) (ad : Nat → Nat) (A : Nat → Prop) (post : Option Value → (Nat → va_E) → Prop) : Array Value → State → Outcome → State → Prop := fun _ st oc t => (∃ (v : Option Value) (G : Nat → va_E), oc = .returned v ∧ post v G ∧ va_P D vwCl (gw n ad G) t.heap) ∧ va_F A st t
def PG (D : va_G) (cT : Nat → ClassId) (n : Nat) (ad : Nat → Nat) (A : Nat → Prop) (G : Nat → va_E) (as : List Value) : Array Value → State → Prop := va_Pc as (fun U => va_P D vwCl (gw n ad G) U.heap ∧ va_K D vwCl (tysC cT) U ∧ EX A U ∧ ∀ q, U.heap.size ≤ q → A q)
theorem EX.kept {A : Nat → Prop} {s U : State} {H0 : Heap} {locs : List Loc} (h : EX A s) (hW : s.WarmedH U.vm) (hS : va_S A s.heap H0 locs) (hU : U.heap = H0) : EX A U :=
  ⟨h.1.moved hW.alike (fun a h1 h2 => by rw [hU]; exact hS.2.1 a h1 h2), h.2.warm hW⟩
theorem PG_blind {D : va_G} {cT : Nat → ClassId} {n : Nat} {ad : Nat → Nat} {A : Nat → Prop} {G : Nat → va_E} {as : List Value} : FrameBlind (PG D cT n ad A G as) := by
  intro a U g mk h
  obtain ⟨h1, h2, h3, h4, h5⟩ := h
  exact ⟨h1, h2, va_K.moved (u := U) (U := U.calling g mk a) (Vm.Alike.refl U.vm) h3, ⟨EXa.moved (s := U) (U := U.calling g mk a) h4.1 (Vm.Alike.refl U.vm) (fun _ _ _ => rfl), EXb.same (U := U.calling g mk a) h4.2 rfl⟩, h5⟩
section GB
variable {p : Program} {l : Launch} {e : Env} {R : Room} {s : State} {m : MethodId} {args : Array Value} {below : List Frame} {meth : Method} {c : Code} {H : Heap} {locs : List Loc} {cells slots : Nat} {Q : State → Prop}
variable {cc : ByteArray} {pc : Nat} {ls : Array Slot} {rest st0 : List Value} {D : va_G} {cT : Nat → ClassId} {n : Nat} {ad : Nat → Nat} {A : Nat → Prop} {G : Nat → va_E} {post : Option Value → (Nat → va_E) → Prop} {mc ms : Nat}
theorem Met.ofG {y : MethodName} {rm : Room} {maxL : Nat} {ret : Option FieldType} {as : List Value}
    (hy : plainName y.cls = true) (hlen : (lg_sl as).length ≤ maxL)
    (body : ∀ (p : Program) (e : Env) (s : State) (m : MethodId) (args : Array Value) (below : List Frame) (meth : Method) (c : Code) (Q : State → Prop), (∀ t, MQ below (QG D n ad A post) args s mc ms A t → Q t) → p.tables.exec = Jvm.exec → c.code = cc → meth.sig.returnType = ret → c.maxLocals = maxL → meth.locks = false → s.vm.findClass y.cls = some m.cls → (∀ w ∈ WA, w.before args s = true) →
      va_P D vwCl (gw n ad G) s.heap → va_K D vwCl (tysC cT) s → EX A s → (∀ q, s.heap.size ≤ q → A q) → va_S A s.heap s.heap [] → ∀ ls : Array Slot, lv_has ls maxL (lv_args 0 as) →
      W p l e rm s m args below meth c s.heap [] 0 0 Q (F0 m 0 ls [])) : Met l y (wA y cc maxL ret) rm (PG D cT n ad A G as) (QG D n ad A post) mc ms A := by
  refine Met.ofW (cc := cc) (maxL := maxL) (ret := ret) hy rfl ?_
  intro p e s m args below meth c s₁ B hml hv
  obtain ⟨rfl, hP, hK, hE, hA⟩ := hv
  have hl := lv_entry as (n := maxL) hlen
  rw [lg_entry_eq]
  exact body p e s m _ below meth c _ (fun _ h => h) B.exec B.bytes B.returns hml B.notSynchronized (findClass_of_methodNamed B.named) (fun w hw => atoms_spec (ws := wA y cc maxL ret) B.pre w (List.mem_cons_of_mem _ hw)) hP hK hE hA va_S.rf _ hl
theorem W.toQ {Q2 : State → Prop} {g : JFrame} (hQ : ∀ t, Q2 t → Q t) (h : W p l e R s m args below meth c H locs cells slots Q2 g) : W p l e R s m args below meth c H locs cells slots Q g := fun T hT X => by
  obtain ⟨t, a, b⟩ := h T hT X
  exact ⟨t, a, hQ t b⟩
theorem g_ret {ty : FieldType} {x : Int32} (hQ : ∀ t, MQ below (QG D n ad A post) args s mc ms A t → Q t) (hx : p.tables.exec = Jvm.exec) (hb : c.code = cc) (hr : meth.sig.returnType = some ty) (hlocks : meth.locks = false) (hn : narrow ty (.int x) = .int x) (hP : va_P D vwCl (gw n ad G) H) (hS : va_S A s.heap H locs) (hp : post (some (.int x)) G) (hc : cells ≤ mc) (hs : slots ≤ ms) (hdg : decode cc pc = .ok (.ireturn, 1)) :
    W p l e R s m args below meth c H locs cells slots Q (F0 m pc ls [.int x]) :=
  W.toQ hQ (W.widen hc hs (W.zret hx hb hr hn (fun t ht _ => ⟨⟨some (.int x), G, rfl, hp, by rw [ht]; exact hP⟩, hS.F ht⟩) hS.2.2 hdg hlocks))
theorem g_retv (hQ : ∀ t, MQ below (QG D n ad A post) args s mc ms A t → Q t) (hx : p.tables.exec = Jvm.exec) (hb : c.code = cc) (hr : meth.sig.returnType = none) (hlocks : meth.locks = false) (hP : va_P D vwCl (gw n ad G) H) (hS : va_S A s.heap H locs) (hp : post none G) (hc : cells ≤ mc) (hs : slots ≤ ms) (hdg : decode cc pc = .ok (.return_, 1)) :
    W p l e R s m args below meth c H locs cells slots Q (F0 m pc ls []) :=
  W.toQ hQ (W.widen hc hs (W.vret hx hb hr (fun t ht _ => ⟨⟨none, G, rfl, hp, by rw [ht]; exact hP⟩, hS.F ht⟩) hS.2.2 hdg hlocks))
theorem g_retl {x : Int64} (hQ : ∀ t, MQ below (QG D n ad A post) args s mc ms A t → Q t) (hx : p.tables.exec = Jvm.exec) (hb : c.code = cc) (hr : meth.sig.returnType = some .long) (hlocks : meth.locks = false) (hP : va_P D vwCl (gw n ad G) H) (hS : va_S A s.heap H locs) (hp : post (some (.long x)) G) (hc : cells ≤ mc) (hs : slots ≤ ms) (hdg : decode cc pc = .ok (.lreturn, 1)) :
    W p l e R s m args below meth c H locs cells slots Q (F0 m pc ls [.long x]) :=
  W.toQ hQ (W.widen hc hs (W.lret hx hb hr (fun t ht _ => ⟨⟨some (.long x), G, rfl, hp, by rw [ht]; exact hP⟩, hS.F ht⟩) hS.2.2 hdg hlocks))
theorem g_retd {x : UInt64} (hQ : ∀ t, MQ below (QG D n ad A post) args s mc ms A t → Q t) (hx : p.tables.exec = Jvm.exec) (hb : c.code = cc) (hr : meth.sig.returnType = some .double) (hlocks : meth.locks = false) (hP : va_P D vwCl (gw n ad G) H) (hS : va_S A s.heap H locs) (hp : post (some (.double x)) G) (hc : cells ≤ mc) (hs : slots ≤ ms) (hdg : decode cc pc = .ok (.dreturn, 1)) :
    W p l e R s m args below meth c H locs cells slots Q (F0 m pc ls [.double x]) :=
  W.toQ hQ (W.widen hc hs (W.dret hx hb hr (fun t ht _ => ⟨⟨some (.double x), G, rfl, hp, by rw [ht]; exact hP⟩, hS.F ht⟩) hS.2.2 hdg hlocks))
theorem g_retf {x : UInt32} (hQ : ∀ t, MQ below (QG D n ad A post) args s mc ms A t → Q t) (hx : p.tables.exec = Jvm.exec) (hb : c.code = cc) (hr : meth.sig.returnType = some .float) (hlocks : meth.locks = false) (hP : va_P D vwCl (gw n ad G) H) (hS : va_S A s.heap H locs) (hp : post (some (.float x)) G) (hc : cells ≤ mc) (hs : slots ≤ ms) (hdg : decode cc pc = .ok (.freturn, 1)) :
    W p l e R s m args below meth c H locs cells slots Q (F0 m pc ls [.float x]) :=
  W.toQ hQ (W.widen hc hs (W.fret hx hb hr (fun t ht _ => ⟨⟨some (.float x), G, rfl, hp, by rw [ht]; exact hP⟩, hS.F ht⟩) hS.2.2 hdg hlocks))
theorem g_reta {a : Nat} {rt : String} (hQ : ∀ t, MQ below (QG D n ad A post) args s mc ms A t → Q t) (hx : p.tables.exec = Jvm.exec) (hb : c.code = cc) (hr : meth.sig.returnType = some (.object rt)) (hlocks : meth.locks = false) (hP : va_P D vwCl (gw n ad G) H) (hS : va_S A s.heap H locs) (hp : post (some (.ref a)) G) (hc : cells ≤ mc) (hs : slots ≤ ms) (hdg : decode cc pc = .ok (.areturn, 1)) :
    W p l e R s m args below meth c H locs cells slots Q (F0 m pc ls [.ref a]) :=
  W.toQ hQ (W.widen hc hs (W.aret hx hb hr (Or.inl ⟨rt, rfl⟩) (Or.inr ⟨a, rfl⟩) (fun t ht _ => ⟨⟨some (.ref a), G, rfl, hp, by rw [ht]; exact hP⟩, hS.F ht⟩) hS.2.2 hdg hlocks))
theorem g_callR {a : Array Value} (hr : va_Run p l e R s m args below meth c H locs cells slots mc ms (F0 m pc ls st0) rest (QG D n ad A post a) A) (hS : va_S A s.heap H locs)
    (kk : ∀ (v : Option Value) (G1 : Nat → va_E) (H1 : Heap) (locs1 : List Loc), post v G1 → va_P D vwCl (gw n ad G1) H1 → va_S A s.heap H1 locs1 → W p l e R s m args below meth c H1 locs1 (cells + mc) (slots + ms) Q (F0 m (pc + 3) ls (v.toList ++ rest))) : W p l e R s m args below meth c H locs cells slots Q (F0 m pc ls st0) := by
  intro T hT X
  obtain ⟨v, st₀, t, T', L, h0, X', hL, e1, e2, ⟨⟨r, G1, hv, hp, hb⟩, hz, hk⟩, st⟩ := hr T hT X
  cases hv
  rw [h0] at hz hk
  obtain ⟨t2, a1, b1⟩ := kk v G1 T'.heap (locs ++ L) hp (by rw [e1]; exact hb)
    ⟨Nat.le_trans hS.1 (by rw [e1]; exact hz), fun q h1 h2 => by rw [e1, hk q (Nat.lt_of_lt_of_le h1 hS.1) h2]; exact hS.2.1 q h1 h2, fun q hq => by
      rcases List.mem_append.mp hq with h | h
      · exact hS.2.2 q h
      · exact hL q h⟩ T' rfl X'
  exact ⟨t2, st t2 a1, b1⟩
theorem PG_at {as : List Value} (hK : va_K D vwCl (tysC cT) s) (hE : EX A s) (hA : ∀ q, s.heap.size ≤ q → A q) (hP : va_P D vwCl (gw n ad G) H) (hS : va_S A s.heap H locs) : ∀ U : State, U.heap = H → s.WarmedH U.vm → PG D cT n ad A G as as.toArray U := fun U hU hW =>
  ⟨rfl, by rw [hU]; exact hP, va_K.moved hW.alike hK, hE.kept hW hS hU, fun q hq => hA q (Nat.le_trans hS.1 (by rw [← hU]; exact hq))⟩
theorem g_callV {y : MethodName} {bytes : ByteArray} {maxL nL index na : Nat} {ret : Option FieldType} {ws Ts : List Cond} {rm : Room} {own : String} {As : List Value} {k ci : Nat} {fs : List Value} {q : vw_C}
    (S : CallFix p m c cc nL s args Ts own) (hM : Met l y ws rm (PG D cT n ad A G (.ref (ad k) :: As)) (QG D n ad A post) mc ms A) (cw : CallW R s args own q.1 index y bytes maxL ret ws rm mc ms na)
    (hK : va_K D vwCl (tysC cT) s) (hE : EX A s) (hA : ∀ q, s.heap.size ≤ q → A q) (hP : va_P D vwCl (gw n ad G) H) (hS : va_S A s.heap H locs) (hk : k < n) (hG : G k = .inr (ci, fs)) (hc : vwCl[ci]? = some q)
    (hn : As.length = na) (hsize : ls.size = nL) (hW : 2 * (F0 m pc ls (As.reverse ++ .ref (ad k) :: rest)).monitorRoom + (rest.map fun v => v.category).sum ≤ 8) (hdg : decode cc pc = .ok (.invokevirtual index, 3)) (hf : cells + mc ≤ R.cells ∧ slots + ms ≤ R.slots)
    (kk : ∀ (v : Option Value) (G1 : Nat → va_E) (H1 : Heap) (locs1 : List Loc), post v G1 → va_P D vwCl (gw n ad G1) H1 → va_S A s.heap H1 locs1 → W p l e R s m args below meth c H1 locs1 (cells + mc) (slots + ms) Q (F0 m (pc + 3) ls (v.toList ++ rest))) : W p l e R s m args below meth c H locs cells slots Q (F0 m pc ls (As.reverse ++ .ref (ad k) :: rest)) :=
  g_callR (va_runV (As := As) (rest := rest) (g := F0 m pc ls (As.reverse ++ .ref (ad k) :: rest)) S hM cw ⟨PG_blind, va_recv hK hP hc (q0 := k) (gw_get hk hG), PG_at hK hE hA hP hS⟩ rfl hn hsize rfl hW hdg hf) hS kk
theorem g_callS {y : MethodName} {bytes : ByteArray} {maxL nL index na : Nat} {ret : Option FieldType} {ws Ts : List Cond} {rm : Room} {own : String} {As : List Value}
    (S : CallFix p m c cc nL s args Ts own) (hM : Met l y ws rm (PG D cT n ad A G As) (QG D n ad A post) mc ms A) (cw : CallB R s args own index y bytes maxL ret ws rm mc ms na ∧ (Cond.static y).before args s = true)
    (hK : va_K D vwCl (tysC cT) s) (hE : EX A s) (hA : ∀ q, s.heap.size ≤ q → A q) (hP : va_P D vwCl (gw n ad G) H) (hS : va_S A s.heap H locs)
    (hn : As.length = na) (hsize : ls.size = nL) (hW : 2 * (F0 m pc ls (As.reverse ++ rest)).monitorRoom + (rest.map fun v => v.category).sum ≤ 8) (hdg : decode cc pc = .ok (.invokestatic index, 3)) (hf : cells + mc ≤ R.cells ∧ slots + ms ≤ R.slots)
    (kk : ∀ (v : Option Value) (G1 : Nat → va_E) (H1 : Heap) (locs1 : List Loc), post v G1 → va_P D vwCl (gw n ad G1) H1 → va_S A s.heap H1 locs1 → W p l e R s m args below meth c H1 locs1 (cells + mc) (slots + ms) Q (F0 m (pc + 3) ls (v.toList ++ rest))) : W p l e R s m args below meth c H locs cells slots Q (F0 m pc ls (As.reverse ++ rest)) :=
  g_callR (va_runS (As := As) (rest := rest) (g := F0 m pc ls (As.reverse ++ rest)) S hM cw ⟨PG_blind, PG_at hK hE hA hP hS⟩ rfl hn hsize rfl hW hdg hf) hS kk
end GB
end
section
def aI (cT : Nat → ClassId) (N : Nat) (w : Nat → Nat) : va_E := .inl (cT 1, N, .inl (fun j => nI (w j)))
def aC (cT : Nat → ClassId) (N : Nat) (w : Nat → Nat) : va_E := .inl (cT 2, N, .inl (fun j => nI (w j)))
def aZ (cT : Nat → ClassId) (N : Nat) (w : Nat → Nat) : va_E := .inl (cT 3, N, .inl (fun j => nI (w j)))
def aJ (cT : Nat → ClassId) (N : Nat) (f : Nat → Int64) : va_E := .inl (cT 0, N, .inr (.inl f))
def aD (cT : Nat → ClassId) (N : Nat) (f : Nat → UInt64) : va_E := .inl (cT 4, N, .inr (.inr (.inr (.inl f))))
def aQ (c : ClassId) (N : Nat) (r : Nat → Option Nat) : va_E := .inl (c, N, .inr (.inr (.inr (.inr r))))
theorem upd_nI (w : Nat → Nat) (j v : Nat) : upd (fun k => nI (w k)) j (nI v) = fun k => nI (va_up w j v k) := by
  funext k
  by_cases h : k = j <;> simp [upd, va_up, h]
theorem updL_up (f : Nat → Int64) (j : Nat) (v : Int64) : vp_updL f j v = va_up f j v := rfl
theorem cpy_nI (f g : Nat → Nat) (sp dp k : Nat) : va_cpy (fun j => nI (f j)) (fun j => nI (g j)) sp dp k = fun j => nI (va_cpy f g sp dp k j) := by
  funext j
  unfold va_cpy
  split <;> rfl
section GI
variable {p : Program} {l : Launch} {e : Env} {R : Room} {s : State} {m : MethodId} {args : Array Value} {below : List Frame} {meth : Method} {c : Code} {H : Heap} {locs : List Loc} {cells slots : Nat} {Q : State → Prop}
variable {cc : ByteArray} {pc : Nat} {ls : Array Slot} {rest : List Value} {D : va_G} {cT : Nat → ClassId} {n : Nat} {ad : Nat → Nat} {A : Nat → Prop} {G : Nat → va_E}
theorem t_eqi {x : Int32} (v : Int32) (h : x = v) (k : W p l e R s m args below meth c H locs cells slots Q (F0 m pc ls (.int v :: rest))) : W p l e R s m args below meth c H locs cells slots Q (F0 m pc ls (.int x :: rest)) := by
  rw [h]; exact k
theorem t_eql {x : Int64} (v : Int64) (h : x = v) (k : W p l e R s m args below meth c H locs cells slots Q (F0 m pc ls (.long v :: rest))) : W p l e R s m args below meth c H locs cells slots Q (F0 m pc ls (.long x :: rest)) := by
  rw [h]; exact k
theorem t_icmp_ge (hx : p.tables.exec = Jvm.exec) (hb : c.code = cc) {a b : Nat} {off : Int} {tgt : Nat} (hdg : decode cc pc = .ok (.if_icmp .ge off, 3)) (ht : (pc : Int) + off = (tgt : Int)) (ha2 : a < 2 ^ 31) (hb2 : b < 2 ^ 31)
    (K1 : b ≤ a → W p l e R s m args below meth c H locs cells slots Q (F0 m tgt ls rest)) (K2 : a < b → W p l e R s m args below meth c H locs cells slots Q (F0 m (pc + 3) ls rest)) : W p l e R s m args below meth c H locs cells slots Q (F0 m pc ls (.int (nI b) :: .int (nI a) :: rest)) :=
  lv_icmp_ge hx hb hdg ht (fun h => K1 ((nI_leI hb2 ha2).mp h)) (fun h => K2 (Nat.lt_of_not_le (fun z => h ((nI_leI hb2 ha2).mpr z))))
theorem t_icmp_lt (hx : p.tables.exec = Jvm.exec) (hb : c.code = cc) {a b : Nat} {off : Int} {tgt : Nat} (hdg : decode cc pc = .ok (.if_icmp .lt off, 3)) (ht : (pc : Int) + off = (tgt : Int)) (ha2 : a < 2 ^ 31) (hb2 : b < 2 ^ 31)
    (K1 : a < b → W p l e R s m args below meth c H locs cells slots Q (F0 m tgt ls rest)) (K2 : b ≤ a → W p l e R s m args below meth c H locs cells slots Q (F0 m (pc + 3) ls rest)) : W p l e R s m args below meth c H locs cells slots Q (F0 m pc ls (.int (nI b) :: .int (nI a) :: rest)) :=
  lv_icmp_lt hx hb hdg ht (fun h => K1 ((nI_ltI ha2 hb2).mp h)) (fun h => K2 (Nat.le_of_not_lt (fun z => h ((nI_ltI ha2 hb2).mpr z))))
theorem t_icmp_gt (hx : p.tables.exec = Jvm.exec) (hb : c.code = cc) {a b : Nat} {off : Int} {tgt : Nat} (hdg : decode cc pc = .ok (.if_icmp .gt off, 3)) (ht : (pc : Int) + off = (tgt : Int)) (ha2 : a < 2 ^ 31) (hb2 : b < 2 ^ 31)
    (K1 : b < a → W p l e R s m args below meth c H locs cells slots Q (F0 m tgt ls rest)) (K2 : a ≤ b → W p l e R s m args below meth c H locs cells slots Q (F0 m (pc + 3) ls rest)) : W p l e R s m args below meth c H locs cells slots Q (F0 m pc ls (.int (nI b) :: .int (nI a) :: rest)) :=
  lv_icmp_gt hx hb hdg ht (fun h => K1 ((nI_ltI hb2 ha2).mp h)) (fun h => K2 (Nat.le_of_not_lt (fun z => h ((nI_ltI hb2 ha2).mpr z))))
theorem t_icmp_le (hx : p.tables.exec = Jvm.exec) (hb : c.code = cc) {a b : Nat} {off : Int} {tgt : Nat} (hdg : decode cc pc = .ok (.if_icmp .le off, 3)) (ht : (pc : Int) + off = (tgt : Int)) (ha2 : a < 2 ^ 31) (hb2 : b < 2 ^ 31)
    (K1 : a ≤ b → W p l e R s m args below meth c H locs cells slots Q (F0 m tgt ls rest)) (K2 : b < a → W p l e R s m args below meth c H locs cells slots Q (F0 m (pc + 3) ls rest)) : W p l e R s m args below meth c H locs cells slots Q (F0 m pc ls (.int (nI b) :: .int (nI a) :: rest)) :=
  lv_icmp_le hx hb hdg ht (fun h => K1 ((nI_leI ha2 hb2).mp h)) (fun h => K2 (Nat.lt_of_not_le (fun z => h ((nI_leI ha2 hb2).mpr z))))
theorem t_icmp_eq (hx : p.tables.exec = Jvm.exec) (hb : c.code = cc) {a b : Nat} {off : Int} {tgt : Nat} (hdg : decode cc pc = .ok (.if_icmp .eq off, 3)) (ht : (pc : Int) + off = (tgt : Int)) (ha2 : a < 2 ^ 31) (hb2 : b < 2 ^ 31)
    (K1 : a = b → W p l e R s m args below meth c H locs cells slots Q (F0 m tgt ls rest)) (K2 : a ≠ b → W p l e R s m args below meth c H locs cells slots Q (F0 m (pc + 3) ls rest)) : W p l e R s m args below meth c H locs cells slots Q (F0 m pc ls (.int (nI b) :: .int (nI a) :: rest)) :=
  lv_icmp_eq hx hb hdg ht (fun h => K1 ((nI_eq ha2 hb2).mp h)) (fun h => K2 (fun z => h ((nI_eq ha2 hb2).mpr z)))
theorem t_icmp_ne (hx : p.tables.exec = Jvm.exec) (hb : c.code = cc) {a b : Nat} {off : Int} {tgt : Nat} (hdg : decode cc pc = .ok (.if_icmp .ne off, 3)) (ht : (pc : Int) + off = (tgt : Int)) (ha2 : a < 2 ^ 31) (hb2 : b < 2 ^ 31)
    (K1 : a ≠ b → W p l e R s m args below meth c H locs cells slots Q (F0 m tgt ls rest)) (K2 : a = b → W p l e R s m args below meth c H locs cells slots Q (F0 m (pc + 3) ls rest)) : W p l e R s m args below meth c H locs cells slots Q (F0 m pc ls (.int (nI b) :: .int (nI a) :: rest)) :=
  lv_icmp_ne hx hb hdg ht (fun h => K1 (fun z => h ((nI_eq ha2 hb2).mpr z))) (fun h => K2 ((nI_eq ha2 hb2).mp h))
theorem t_if_lt (hx : p.tables.exec = Jvm.exec) (hb : c.code = cc) {a : Nat} {off : Int} {tgt : Nat} (hdg : decode cc pc = .ok (.ifCond .lt off, 3)) (ht : (pc : Int) + off = (tgt : Int)) (ha2 : a < 2 ^ 31)
    (K2 : W p l e R s m args below meth c H locs cells slots Q (F0 m (pc + 3) ls rest)) : W p l e R s m args below meth c H locs cells slots Q (F0 m pc ls (.int (nI a) :: rest)) :=
  lv_if_lt hx hb hdg ht (fun h => absurd h (nI_pos ha2)) (fun _ => K2)
theorem t_if_ge (hx : p.tables.exec = Jvm.exec) (hb : c.code = cc) {a : Nat} {off : Int} {tgt : Nat} (hdg : decode cc pc = .ok (.ifCond .ge off, 3)) (ht : (pc : Int) + off = (tgt : Int)) (ha2 : a < 2 ^ 31)
    (K1 : W p l e R s m args below meth c H locs cells slots Q (F0 m tgt ls rest)) : W p l e R s m args below meth c H locs cells slots Q (F0 m pc ls (.int (nI a) :: rest)) :=
  lv_if_ge hx hb hdg ht (fun _ => K1) (fun h => absurd (nI_pos' ha2) h)
theorem t_if_eq (hx : p.tables.exec = Jvm.exec) (hb : c.code = cc) {a : Nat} {off : Int} {tgt : Nat} (hdg : decode cc pc = .ok (.ifCond .eq off, 3)) (ht : (pc : Int) + off = (tgt : Int)) (ha2 : a < 2 ^ 31)
    (K1 : a = 0 → W p l e R s m args below meth c H locs cells slots Q (F0 m tgt ls rest)) (K2 : 0 < a → W p l e R s m args below meth c H locs cells slots Q (F0 m (pc + 3) ls rest)) : W p l e R s m args below meth c H locs cells slots Q (F0 m pc ls (.int (nI a) :: rest)) :=
  lv_if_eq hx hb hdg ht (fun h => K1 (by rcases Nat.eq_zero_or_pos a with q | q; exact q; exact absurd h (nI_ne0 q ha2))) (fun h => K2 (by rcases Nat.eq_zero_or_pos a with q | q; exact absurd (by rw [q]; rfl) h; exact q))
theorem t_if_ne (hx : p.tables.exec = Jvm.exec) (hb : c.code = cc) {a : Nat} {off : Int} {tgt : Nat} (hdg : decode cc pc = .ok (.ifCond .ne off, 3)) (ht : (pc : Int) + off = (tgt : Int)) (ha2 : a < 2 ^ 31)
    (K1 : 0 < a → W p l e R s m args below meth c H locs cells slots Q (F0 m tgt ls rest)) (K2 : a = 0 → W p l e R s m args below meth c H locs cells slots Q (F0 m (pc + 3) ls rest)) : W p l e R s m args below meth c H locs cells slots Q (F0 m pc ls (.int (nI a) :: rest)) :=
  lv_if_ne hx hb hdg ht (fun h => K1 (by rcases Nat.eq_zero_or_pos a with q | q; exact absurd (by rw [q]; rfl) h; exact q)) (fun h => K2 (by rcases Nat.eq_zero_or_pos a with q | q; exact q; exact absurd h (nI_ne0 q ha2)))
theorem t_if_le (hx : p.tables.exec = Jvm.exec) (hb : c.code = cc) {a : Nat} {off : Int} {tgt : Nat} (hdg : decode cc pc = .ok (.ifCond .le off, 3)) (ht : (pc : Int) + off = (tgt : Int)) (ha2 : a < 2 ^ 31)
    (K1 : a = 0 → W p l e R s m args below meth c H locs cells slots Q (F0 m tgt ls rest)) (K2 : 0 < a → W p l e R s m args below meth c H locs cells slots Q (F0 m (pc + 3) ls rest)) : W p l e R s m args below meth c H locs cells slots Q (F0 m pc ls (.int (nI a) :: rest)) :=
  lv_if_le hx hb hdg ht (fun h => K1 (by rcases Nat.eq_zero_or_pos a with q | q; exact q; exact absurd h (nI_nle q ha2))) (fun h => K2 (by rcases Nat.eq_zero_or_pos a with q | q; exact absurd (by rw [q]; decide) h; exact q))
theorem t_if_gt (hx : p.tables.exec = Jvm.exec) (hb : c.code = cc) {a : Nat} {off : Int} {tgt : Nat} (hdg : decode cc pc = .ok (.ifCond .gt off, 3)) (ht : (pc : Int) + off = (tgt : Int)) (ha2 : a < 2 ^ 31)
    (K1 : 0 < a → W p l e R s m args below meth c H locs cells slots Q (F0 m tgt ls rest)) (K2 : a = 0 → W p l e R s m args below meth c H locs cells slots Q (F0 m (pc + 3) ls rest)) : W p l e R s m args below meth c H locs cells slots Q (F0 m pc ls (.int (nI a) :: rest)) :=
  lv_if_gt hx hb hdg ht (fun h => K1 (by rcases Nat.eq_zero_or_pos a with q | q; exact absurd h (by rw [q]; decide); exact q)) (fun h => K2 (by rcases Nat.eq_zero_or_pos a with q | q; exact q; exact absurd (by have h1 := nI_lt q ha2; rw [nI_0] at h1; exact h1) h))
theorem t_bool_eq (hx : p.tables.exec = Jvm.exec) (hb : c.code = cc) {q : Prop} [hq : Decidable q] {off : Int} {tgt : Nat} (hdg : decode cc pc = .ok (.ifCond .eq off, 3)) (ht : (pc : Int) + off = (tgt : Int))
    (K1 : ¬ q → W p l e R s m args below meth c H locs cells slots Q (F0 m tgt ls rest)) (K2 : q → W p l e R s m args below meth c H locs cells slots Q (F0 m (pc + 3) ls rest)) : W p l e R s m args below meth c H locs cells slots Q (F0 m pc ls (.int (if q then 1 else 0) :: rest)) :=
  lv_if_eq hx hb hdg ht (fun h => K1 (fun z => by rw [if_pos z] at h; exact absurd h (by decide))) (fun h => K2 (by by_cases z : q; exact z; rw [if_neg z] at h; exact absurd rfl h))
theorem t_bool_ne (hx : p.tables.exec = Jvm.exec) (hb : c.code = cc) {q : Prop} [hq : Decidable q] {off : Int} {tgt : Nat} (hdg : decode cc pc = .ok (.ifCond .ne off, 3)) (ht : (pc : Int) + off = (tgt : Int))
    (K1 : q → W p l e R s m args below meth c H locs cells slots Q (F0 m tgt ls rest)) (K2 : ¬ q → W p l e R s m args below meth c H locs cells slots Q (F0 m (pc + 3) ls rest)) : W p l e R s m args below meth c H locs cells slots Q (F0 m pc ls (.int (if q then 1 else 0) :: rest)) :=
  lv_if_ne hx hb hdg ht (fun h => K1 (by by_cases z : q; exact z; rw [if_neg z] at h; exact absurd rfl h)) (fun h => K2 (fun z => by rw [if_pos z] at h; exact absurd h (by decide)))
theorem g_get (hx : p.tables.exec = Jvm.exec) (hb : c.code = cc) {own C : String} {T : u_T} {N ci index : Nat} {Ts : List Cond} (hts : ∀ w ∈ Ts, w.before args s = true) (hin : ∀ w ∈ u_ws C T N, w ∈ Ts) (hown : s.vm.findClass own = some m.cls) (hK : va_K D vwCl (tysC cT) s) (hP : va_P D vwCl (gw n ad G) H) {i : Nat} (hi : i < n) {fs : List Value} (hG : G i = .inr (ci, fs)) (hc : vwCl[ci]? = some (C, T, N)) (k : Nat) (hk : k < N) (hlink : (Cond.fieldLink own index (T k).1 (T k).2.1 (T k).2.2.1).before args s = true) {v : Value} (hv : fs[k]? = some v) (hdg : decode cc pc = .ok (.getfield index, 3))
    (kk : W p l e R s m args below meth c H locs cells slots Q (F0 m (pc + 3) ls (v :: rest))) : W p l e R s m args below meth c H locs cells slots Q (F0 m pc ls (.ref (ad i) :: rest)) :=
  va_get hx hb hts hin hown hK hP i (gw_get hi hG) hc k hk hlink (fun _ h => h) hv hdg kk
theorem g_put (hx : p.tables.exec = Jvm.exec) (hb : c.code = cc) {own C : String} {T : u_T} {N ci index : Nat} {Ts : List Cond} (hts : ∀ w ∈ Ts, w.before args s = true) (hin : ∀ w ∈ u_ws C T N, w ∈ Ts) (ty0 : Nat → FieldType) (hty : ∀ k, k < N → parseFieldDescriptor (T k).2.2.1 = some (ty0 k)) (hnm : ∀ a, a < N → ∀ b, b < N → a ≠ b → (T a).2.1 ≠ (T b).2.1) (hown : s.vm.findClass own = some m.cls) (hK : va_K D vwCl (tysC cT) s) (hP : va_P D vwCl (gw n ad G) H) (hD : ∀ G, va_D A (gw n ad G)) (hS : va_S A s.heap H locs) {i : Nat} (hi : i < n) {fs : List Value} (hG : G i = .inr (ci, fs)) (hc : vwCl[ci]? = some (C, T, N)) (k : Nat) (hk : k < N) (hlink : (Cond.fieldLink own index (T k).1 (T k).2.1 (T k).2.2.1).before args s = true) (hfin : (T k).2.2.2 = false) {ty : FieldType} {v : Value} (hd : parseFieldDescriptor (T k).2.2.1 = some ty) (hn : narrow ty v = v) (hfit : fits ty v = true) (hl : k < fs.length) (hdg : decode cc pc = .ok (.putfield index, 3))
    (kk : ∀ (G1 : Nat → va_E) (H1 : Heap) (locs1 : List Loc), G1 i = .inr (ci, fs.set k v) → (∀ j, j ≠ i → G1 j = G j) → va_P D vwCl (gw n ad G1) H1 → va_S A s.heap H1 locs1 → W p l e R s m args below meth c H1 locs1 cells slots Q (F0 m (pc + 3) ls rest)) : W p l e R s m args below meth c H locs cells slots Q (F0 m pc ls (v :: .ref (ad i) :: rest)) :=
  va_put hx hb hts hin ty0 hty hnm hown hK hP (hD G) hS i (gw_get hi hG) hc k hk hlink (fun _ h => h) hfin hd hn hfit hl hdg (fun H1 locs1 h1 _ h3 => kk (va_up G i (.inr (ci, fs.set k v))) H1 locs1 (va_up_self _ _ _) (fun j hj => va_up_ne _ _ hj) (by rw [← gw_set _ hi]; exact h1) h3)
theorem g_iald (hx : p.tables.exec = Jvm.exec) (hb : c.code = cc) (hK : va_K D vwCl (tysC cT) s) (hP : va_P D vwCl (gw n ad G) H) {i N : Nat} (hi : i < n) {f : Nat → Nat} (hG : G i = aI cT N f) {j : Nat} (hj : j < N) (hN : N < 2 ^ 31) (hdg : decode cc pc = .ok (.iaload, 1))
    (kk : W p l e R s m args below meth c H locs cells slots Q (F0 m (pc + 1) ls (.int (nI (f j)) :: rest))) : W p l e R s m args below meth c H locs cells slots Q (F0 m pc ls (.int (nI j) :: .ref (ad i) :: rest)) := by
  refine va_iald hx hb hK hP i 1 (gw_get hi hG) rfl (vp_in_nI hj hN) hdg ?_
  rw [nI_clamp (Nat.lt_trans hj hN)]
  exact kk
theorem g_cald (hx : p.tables.exec = Jvm.exec) (hb : c.code = cc) (hK : va_K D vwCl (tysC cT) s) (hP : va_P D vwCl (gw n ad G) H) {i N : Nat} (hi : i < n) {f : Nat → Nat} (hG : G i = aC cT N f) {j : Nat} (hj : j < N) (hN : N < 2 ^ 31) (hdg : decode cc pc = .ok (.caload, 1))
    (kk : W p l e R s m args below meth c H locs cells slots Q (F0 m (pc + 1) ls (.int (nI (f j)) :: rest))) : W p l e R s m args below meth c H locs cells slots Q (F0 m pc ls (.int (nI j) :: .ref (ad i) :: rest)) := by
  refine va_cald hx hb hK hP i 2 (gw_get hi hG) rfl (vp_in_nI hj hN) hdg ?_
  rw [nI_clamp (Nat.lt_trans hj hN)]
  exact kk
theorem g_zald (hx : p.tables.exec = Jvm.exec) (hb : c.code = cc) (hK : va_K D vwCl (tysC cT) s) (hP : va_P D vwCl (gw n ad G) H) {i N : Nat} (hi : i < n) {f : Nat → Nat} (hG : G i = aZ cT N f) {j : Nat} (hj : j < N) (hN : N < 2 ^ 31) (hdg : decode cc pc = .ok (.baload, 1))
    (kk : W p l e R s m args below meth c H locs cells slots Q (F0 m (pc + 1) ls (.int (nI (f j)) :: rest))) : W p l e R s m args below meth c H locs cells slots Q (F0 m pc ls (.int (nI j) :: .ref (ad i) :: rest)) := by
  refine va_zald hx hb hK hP i 3 (gw_get hi hG) rfl (vp_in_nI hj hN) hdg ?_
  rw [nI_clamp (Nat.lt_trans hj hN)]
  exact kk
theorem g_lald (hx : p.tables.exec = Jvm.exec) (hb : c.code = cc) (hK : va_K D vwCl (tysC cT) s) (hP : va_P D vwCl (gw n ad G) H) {i N : Nat} (hi : i < n) {f : Nat → Int64} (hG : G i = aJ cT N f) {j : Nat} (hj : j < N) (hN : N < 2 ^ 31) (hdg : decode cc pc = .ok (.laload, 1))
    (kk : W p l e R s m args below meth c H locs cells slots Q (F0 m (pc + 1) ls (.long (f j) :: rest))) : W p l e R s m args below meth c H locs cells slots Q (F0 m pc ls (.int (nI j) :: .ref (ad i) :: rest)) := by
  refine va_lald hx hb hK hP i 0 (gw_get hi hG) rfl (vp_in_nI hj hN) hdg ?_
  rw [nI_clamp (Nat.lt_trans hj hN)]
  exact kk
theorem g_dald (hx : p.tables.exec = Jvm.exec) (hb : c.code = cc) (hK : va_K D vwCl (tysC cT) s) (hP : va_P D vwCl (gw n ad G) H) {i N : Nat} (hi : i < n) {f : Nat → UInt64} (hG : G i = aD cT N f) {j : Nat} (hj : j < N) (hN : N < 2 ^ 31) (hdg : decode cc pc = .ok (.daload, 1))
    (kk : W p l e R s m args below meth c H locs cells slots Q (F0 m (pc + 1) ls (.double (f j) :: rest))) : W p l e R s m args below meth c H locs cells slots Q (F0 m pc ls (.int (nI j) :: .ref (ad i) :: rest)) := by
  refine va_dald hx hb hK hP i 4 (gw_get hi hG) rfl (vp_in_nI hj hN) hdg ?_
  rw [nI_clamp (Nat.lt_trans hj hN)]
  exact kk
theorem g_aald (hx : p.tables.exec = Jvm.exec) (hb : c.code = cc) (hK : va_K D vwCl (tysC cT) s) (hP : va_P D vwCl (gw n ad G) H) (t0 : Nat) {ty : FieldType} {i N : Nat} (hi : i < n) {cA : ClassId} {r : Nat → Option Nat} (hG : G i = aQ cA N r) (ht : (tysC cT)[t0]? = some (cA, ty)) (hty : ty.isReference = true) {j k : Nat} (hj : j < N) (hN : N < 2 ^ 31) (hr : r j = some k) (hdg : decode cc pc = .ok (.aaload, 1))
    (kk : W p l e R s m args below meth c H locs cells slots Q (F0 m (pc + 1) ls (.ref k :: rest))) : W p l e R s m args below meth c H locs cells slots Q (F0 m pc ls (.int (nI j) :: .ref (ad i) :: rest)) := by
  have hcl : (nI j).toNatClampNeg = j := nI_clamp (Nat.lt_trans hj hN)
  exact W.aald (v := .ref k) (ty := ty) hx hb (hP i _ (gw_get hi hG)) ((hK.2 t0 _ ht).1 N (fun j => va_rf (r j))) hty (fun q => by cases q) (by show ¬ (nI j < 0 ∨ (arrV _ _ _).slots.size ≤ _); rw [arrV_size]; exact vp_in_nI hj hN) (by show (arrV _ _ _).slots[_]? = _; rw [hcl, arrV_read _ _ hj, hr]; rfl) rfl rfl hdg kk
theorem g_iast (hx : p.tables.exec = Jvm.exec) (hb : c.code = cc) (hK : va_K D vwCl (tysC cT) s) (hP : va_P D vwCl (gw n ad G) H) (hD : ∀ G, va_D A (gw n ad G)) (hS : va_S A s.heap H locs) {i N : Nat} (hi : i < n) {f : Nat → Nat} (hG : G i = aI cT N f) {j : Nat} {x : Nat} (hj : j < N) (hN : N < 2 ^ 31) (hdg : decode cc pc = .ok (.iastore, 1))
    (kk : ∀ (G1 : Nat → va_E) (H1 : Heap) (locs1 : List Loc), G1 i = aI cT N (va_up f j x) → (∀ k, k ≠ i → G1 k = G k) → va_P D vwCl (gw n ad G1) H1 → va_S A s.heap H1 locs1 → W p l e R s m args below meth c H1 locs1 cells slots Q (F0 m (pc + 1) ls rest)) : W p l e R s m args below meth c H locs cells slots Q (F0 m pc ls (.int (nI x) :: .int (nI j) :: .ref (ad i) :: rest)) := by
  refine va_iast hx hb hK hP (hD G) hS i 1 (gw_get hi hG) rfl (vp_in_nI hj hN) hdg (fun H1 locs1 h1 _ h3 => ?_)
  rw [nI_clamp (Nat.lt_trans hj hN), gw_set _ hi] at h1
  refine kk _ H1 locs1 ?_ (fun k hk => va_up_ne _ _ hk) h1 h3
  rw [va_up_self]
  rw [upd_nI]; rfl
theorem g_last (hx : p.tables.exec = Jvm.exec) (hb : c.code = cc) (hK : va_K D vwCl (tysC cT) s) (hP : va_P D vwCl (gw n ad G) H) (hD : ∀ G, va_D A (gw n ad G)) (hS : va_S A s.heap H locs) {i N : Nat} (hi : i < n) {f : Nat → Int64} (hG : G i = aJ cT N f) {j : Nat} {x : Int64} (hj : j < N) (hN : N < 2 ^ 31) (hdg : decode cc pc = .ok (.lastore, 1))
    (kk : ∀ (G1 : Nat → va_E) (H1 : Heap) (locs1 : List Loc), G1 i = aJ cT N (va_up f j x) → (∀ k, k ≠ i → G1 k = G k) → va_P D vwCl (gw n ad G1) H1 → va_S A s.heap H1 locs1 → W p l e R s m args below meth c H1 locs1 cells slots Q (F0 m (pc + 1) ls rest)) : W p l e R s m args below meth c H locs cells slots Q (F0 m pc ls (.long x :: .int (nI j) :: .ref (ad i) :: rest)) := by
  refine va_last hx hb hK hP (hD G) hS i 0 (gw_get hi hG) rfl (vp_in_nI hj hN) hdg (fun H1 locs1 h1 _ h3 => ?_)
  rw [nI_clamp (Nat.lt_trans hj hN), gw_set _ hi] at h1
  refine kk _ H1 locs1 ?_ (fun k hk => va_up_ne _ _ hk) h1 h3
  rw [va_up_self]
  rfl
theorem g_dast (hx : p.tables.exec = Jvm.exec) (hb : c.code = cc) (hK : va_K D vwCl (tysC cT) s) (hP : va_P D vwCl (gw n ad G) H) (hD : ∀ G, va_D A (gw n ad G)) (hS : va_S A s.heap H locs) {i N : Nat} (hi : i < n) {f : Nat → UInt64} (hG : G i = aD cT N f) {j : Nat} {x : UInt64} (hj : j < N) (hN : N < 2 ^ 31) (hdg : decode cc pc = .ok (.dastore, 1))
    (kk : ∀ (G1 : Nat → va_E) (H1 : Heap) (locs1 : List Loc), G1 i = aD cT N (va_up f j x) → (∀ k, k ≠ i → G1 k = G k) → va_P D vwCl (gw n ad G1) H1 → va_S A s.heap H1 locs1 → W p l e R s m args below meth c H1 locs1 cells slots Q (F0 m (pc + 1) ls rest)) : W p l e R s m args below meth c H locs cells slots Q (F0 m pc ls (.double x :: .int (nI j) :: .ref (ad i) :: rest)) := by
  refine va_dast hx hb hK hP (hD G) hS i 4 (gw_get hi hG) rfl (vp_in_nI hj hN) hdg (fun H1 locs1 h1 _ h3 => ?_)
  rw [nI_clamp (Nat.lt_trans hj hN), gw_set _ hi] at h1
  refine kk _ H1 locs1 ?_ (fun k hk => va_up_ne _ _ hk) h1 h3
  rw [va_up_self]
  rfl
theorem g_cast (hx : p.tables.exec = Jvm.exec) (hb : c.code = cc) (hK : va_K D vwCl (tysC cT) s) (hP : va_P D vwCl (gw n ad G) H) (hD : ∀ G, va_D A (gw n ad G)) (hS : va_S A s.heap H locs) {i N : Nat} (hi : i < n) {f : Nat → Nat} (hG : G i = aC cT N f) {j : Nat} {x : Nat} (hx16 : x < 65536) (hj : j < N) (hN : N < 2 ^ 31) (hdg : decode cc pc = .ok (.castore, 1))
    (kk : ∀ (G1 : Nat → va_E) (H1 : Heap) (locs1 : List Loc), G1 i = aC cT N (va_up f j x) → (∀ k, k ≠ i → G1 k = G k) → va_P D vwCl (gw n ad G1) H1 → va_S A s.heap H1 locs1 → W p l e R s m args below meth c H1 locs1 cells slots Q (F0 m (pc + 1) ls rest)) : W p l e R s m args below meth c H locs cells slots Q (F0 m pc ls (.int (nI x) :: .int (nI j) :: .ref (ad i) :: rest)) := by
  refine va_cast hx hb hK hP (hD G) hS i 2 (gw_get hi hG) rfl (vp_in_nI hj hN) hdg (fun H1 locs1 h1 _ h3 => ?_)
  rw [nI_clamp (Nat.lt_trans hj hN), gw_set _ hi] at h1
  refine kk _ H1 locs1 ?_ (fun k hk => va_up_ne _ _ hk) h1 h3
  rw [va_up_self]
  have e9 : vp_nar .char (nI x) = nI x := by (unfold vp_nar; rw [(pk_charN hx16).1])
  rw [e9, upd_nI]; rfl
theorem g_copyi (hx : p.tables.exec = Jvm.exec) (hb : c.code = cc) (hml : c.maxLocals = ls.size) {own : String} {index : Nat} (hown : s.vm.findClass own = some m.cls) (hlink : (Cond.methodLink own index arraycopyName).before args s = true) (hnat : (Cond.native arraycopyName).before args s = true) (hstat : (Cond.static arraycopyName).before args s = true) (hini : (Cond.initialized "java/lang/System").before args s = true)
    (hK : va_K D vwCl (tysC cT) s) (hP : va_P D vwCl (gw n ad G) H) (hD : ∀ G, va_D A (gw n ad G)) (hS : va_S A s.heap H locs) {i N : Nat} (hi : i < n) {f : Nat → Nat} (hG : G i = aI cT N f) {sp dp k : Nat} (h4 : sp + k ≤ N) (h5 : dp + k ≤ N) (hN : N < 2 ^ 31)
    (hframes : 1 ≤ R.frames) (hlocals : (rest.map fun v => v.category).sum + (nativeFrameWords "java/lang/System" "arraycopy" 5 + 11) ≤ R.locals) (hdg : decode cc pc = .ok (.invokestatic index, 3))
    (kk : ∀ (G1 : Nat → va_E) (H1 : Heap) (locs1 : List Loc), G1 i = aI cT N (va_cpy f f sp dp k) → (∀ j, j ≠ i → G1 j = G j) → va_P D vwCl (gw n ad G1) H1 → va_S A s.heap H1 locs1 → W p l e R s m args below meth c H1 locs1 cells slots Q (F0 m (pc + 3) ls rest)) : W p l e R s m args below meth c H locs cells slots Q (F0 m pc ls (.int (nI k) :: .int (nI dp) :: .ref (ad i) :: .int (nI sp) :: .ref (ad i) :: rest)) := by
  have e1 : (nI sp).toNatClampNeg = sp := nI_clamp (by omega)
  have e2 : (nI dp).toNatClampNeg = dp := nI_clamp (by omega)
  have e3 : (nI k).toNatClampNeg = k := nI_clamp (by omega)
  refine va_copyi hx hb hml hown hlink hnat hstat hini hK hP (hD G) hS i i 1 1 (gw_get hi hG) (gw_get hi hG) rfl rfl rfl (nI_pos (by omega)) (nI_pos (by omega)) (nI_pos (by omega)) (by rw [e1, e3]; exact h4) (by rw [e2, e3]; exact h5) (fun _ _ => rfl) hframes hlocals hdg (fun H1 locs1 h1 _ h3 => ?_)
  rw [e1, e2, e3, gw_set _ hi] at h1
  refine kk _ H1 locs1 ?_ (fun k hk => va_up_ne _ _ hk) h1 h3
  rw [va_up_self]
  rw [cpy_nI]; rfl
theorem g_copyl (hx : p.tables.exec = Jvm.exec) (hb : c.code = cc) (hml : c.maxLocals = ls.size) {own : String} {index : Nat} (hown : s.vm.findClass own = some m.cls) (hlink : (Cond.methodLink own index arraycopyName).before args s = true) (hnat : (Cond.native arraycopyName).before args s = true) (hstat : (Cond.static arraycopyName).before args s = true) (hini : (Cond.initialized "java/lang/System").before args s = true)
    (hK : va_K D vwCl (tysC cT) s) (hP : va_P D vwCl (gw n ad G) H) (hD : ∀ G, va_D A (gw n ad G)) (hS : va_S A s.heap H locs) {i N : Nat} (hi : i < n) {f : Nat → Int64} (hG : G i = aJ cT N f) {sp dp k : Nat} (h4 : sp + k ≤ N) (h5 : dp + k ≤ N) (hN : N < 2 ^ 31)
    (hframes : 1 ≤ R.frames) (hlocals : (rest.map fun v => v.category).sum + (nativeFrameWords "java/lang/System" "arraycopy" 5 + 11) ≤ R.locals) (hdg : decode cc pc = .ok (.invokestatic index, 3))
    (kk : ∀ (G1 : Nat → va_E) (H1 : Heap) (locs1 : List Loc), G1 i = aJ cT N (va_cpy f f sp dp k) → (∀ j, j ≠ i → G1 j = G j) → va_P D vwCl (gw n ad G1) H1 → va_S A s.heap H1 locs1 → W p l e R s m args below meth c H1 locs1 cells slots Q (F0 m (pc + 3) ls rest)) : W p l e R s m args below meth c H locs cells slots Q (F0 m pc ls (.int (nI k) :: .int (nI dp) :: .ref (ad i) :: .int (nI sp) :: .ref (ad i) :: rest)) := by
  have e1 : (nI sp).toNatClampNeg = sp := nI_clamp (by omega)
  have e2 : (nI dp).toNatClampNeg = dp := nI_clamp (by omega)
  have e3 : (nI k).toNatClampNeg = k := nI_clamp (by omega)
  refine va_copyl hx hb hml hown hlink hnat hstat hini hK hP (hD G) hS i i 0 0 (gw_get hi hG) (gw_get hi hG) rfl rfl rfl (nI_pos (by omega)) (nI_pos (by omega)) (nI_pos (by omega)) (by rw [e1, e3]; exact h4) (by rw [e2, e3]; exact h5) (fun _ _ => rfl) hframes hlocals hdg (fun H1 locs1 h1 _ h3 => ?_)
  rw [e1, e2, e3, gw_set _ hi] at h1
  refine kk _ H1 locs1 ?_ (fun k hk => va_up_ne _ _ hk) h1 h3
  rw [va_up_self]
  rfl
end GI
end
section
def RB (cT : Nat → ClassId) (ad : Nat → Nat) (G : Nat → va_E) (k sz cn bx : Nat) (pt : Nat → Int64) (w : Nat → Nat) (nu : Nat → Int64) (ne en : Nat → Nat) : Prop :=
  G k = .inr (2, [.ref (ad (k + 1)), .int (nI sz), .int (nI bx), .ref (ad (k + 2)), .ref (ad (k + 3)), .ref (ad (k + 4)), .ref (ad (k + 5)), .int (nI cn)]) ∧ G (k + 1) = aJ cT 48 pt ∧ G (k + 2) = aI cT 96 w ∧ G (k + 3) = aJ cT 96 nu ∧ G (k + 4) = aI cT 96 ne ∧ G (k + 5) = aI cT 96 en ∧ (∀ j, w j < 2 ^ 31) ∧ (∀ j, ne j < 2 ^ 31) ∧ (∀ j, en j < 2 ^ 31)
def RR (cT : Nat → ClassId) (ad : Nat → Nat) (G : Nat → va_E) (k cn : Nat) (f : Nat → Int64) : Prop :=
  G k = .inr (3, [.ref (ad (k + 1)), .int (nI cn)]) ∧ G (k + 1) = aJ cT 48 f
theorem RB.keep {cT : Nat → ClassId} {ad : Nat → Nat} {G G' : Nat → va_E} {k sz cn bx : Nat} {pt : Nat → Int64} {w : Nat → Nat} {nu : Nat → Int64} {ne en : Nat → Nat} (h : RB cT ad G k sz cn bx pt w nu ne en) (hG : ∀ j, k ≤ j → j < k + 6 → G' j = G j) : RB cT ad G' k sz cn bx pt w nu ne en := by
  obtain ⟨h1, h2, h3, h4, h5, h6, h7⟩ := h
  exact ⟨(hG _ (by omega) (by omega)).trans h1, (hG _ (by omega) (by omega)).trans h2, (hG _ (by omega) (by omega)).trans h3, (hG _ (by omega) (by omega)).trans h4, (hG _ (by omega) (by omega)).trans h5, (hG _ (by omega) (by omega)).trans h6, h7⟩
theorem RR.keep {cT : Nat → ClassId} {ad : Nat → Nat} {G G' : Nat → va_E} {k cn : Nat} {f : Nat → Int64} (h : RR cT ad G k cn f) (hG : ∀ j, k ≤ j → j < k + 2 → G' j = G j) : RR cT ad G' k cn f := by
  obtain ⟨h1, h2⟩ := h
  exact ⟨(hG _ (by omega) (by omega)).trans h1, (hG _ (by omega) (by omega)).trans h2⟩
theorem up_lt {N : Nat} {w : Nat → Nat} {i v : Nat} (h : ∀ j, w j < N) (hv : v < N) : ∀ j, va_up w i v j < N := fun j => by
  by_cases q : j = i
  · subst q; rw [va_up_self]; exact hv
  · rw [va_up_ne _ _ q]; exact h j
theorem cpy_lt {N : Nat} {w : Nat → Nat} {sp dp k : Nat} (h : ∀ j, w j < N) : ∀ j, va_cpy w w sp dp k j < N := fun j => by
  unfold va_cpy
  split
  · exact h _
  · exact h _
theorem and0 (x : Int32) : nI 0 &&& x = nI 0 := by
  rw [show nI 0 = 0 from rfl]
  exact Int32.zero_and
def rsum (f : Nat → Int64) (a : Int64) : Nat → Int64
  | 0 => a
  | i + 1 => 31 * rsum f a i + f i
def revP (f : Nat → Int64) (cn i : Nat) : Nat → Int64 := fun j => if j < i ∨ (cn - i ≤ j ∧ j < cn) then f (cn - 1 - j) else f j
def revA (f : Nat → Int64) (cn : Nat) : Nat → Int64 := fun j => if j < cn then f (cn - 1 - j) else f j
theorem revP_0 (f : Nat → Int64) (cn : Nat) : revP f cn 0 = f := by
  funext j
  unfold revP
  rw [if_neg (by omega)]
theorem revP_end (f : Nat → Int64) (cn : Nat) : revP f cn (cn / 2) = revA f cn := by
  funext j
  unfold revP revA
  by_cases h : j < cn
  · rw [if_pos h]
    by_cases h2 : j < cn / 2 ∨ (cn - cn / 2 ≤ j ∧ j < cn)
    · rw [if_pos h2]
    · rw [if_neg h2, show cn - 1 - j = j by omega]
  · rw [if_neg h, if_neg (by omega)]
theorem revP_step {f : Nat → Int64} {cn i : Nat} (h : i < cn / 2) : va_up (va_up (revP f cn i) i (revP f cn i (cn - 1 - i))) (cn - 1 - i) (revP f cn i i) = revP f cn (i + 1) := by
  funext j
  by_cases h1 : j = cn - 1 - i
  · subst h1
    rw [va_up_self]
    unfold revP
    rw [if_neg (by omega), if_pos (by omega), show cn - 1 - (cn - 1 - i) = i by omega]
  · rw [va_up_ne _ _ h1]
    by_cases h2 : j = i
    · subst h2
      rw [va_up_self]
      unfold revP
      rw [if_neg (by omega), if_pos (by omega)]
    · rw [va_up_ne _ _ h2]
      unfold revP
      by_cases h3 : j < i ∨ (cn - i ≤ j ∧ j < cn)
      · rw [if_pos h3, if_pos (by omega)]
      · rw [if_neg h3, if_neg (by omega)]
end
section
def ps (L : Nat → Nat) : Nat → Nat
  | 0 => 0
  | i + 1 => ps L i + L i
def cnt (K : Nat → Nat) : Nat → Nat
  | 0 => 0
  | i + 1 => cnt K i + (if K i = 110 then 1 else 0)
def lft (K L : Nat → Nat) : Nat → Nat
  | 0 => 0
  | i + 1 => lft K L i + (if K i = 110 then 0 else L i)
def bsum (K L : Nat → Nat) (pt : Nat → Int64) (a : Int64) : Nat → Int64
  | 0 => a
  | i + 1 => 31 * (31 * bsum K L pt a i + lN (K i)) + (if K i = 110 then pt (ps L i) else lN (L i))
def insN (F : Nat → Nat) (i m v : Nat) : Nat → Nat := fun j => if j < i then F j else if j < i + m then v else F (j - m)
def swk (L : Nat → Nat) : Nat → Nat
  | 0 => 0
  | i + 1 => swk L i + (if 0 < L i then 1 else 0)
def swF {α : Type} (F : Nat → α) (L : Nat → Nat) : Nat → (Nat → α)
  | 0 => F
  | i + 1 => if 0 < L i then va_up (swF F L i) (swk L i) (F i) else swF F L i
def BL (sz cn : Nat) (pt : Nat → Int64) (K L : Nat → Nat) (p : Nat → Int64) (w : Nat → Nat) (nu : Nat → Int64) (ne en : Nat → Nat) : Prop :=
  (∀ j, j < sz → p j = pt j) ∧ ∀ i, i < cn → w i = K i ∧ (K i = 110 → nu i = pt (ps L i)) ∧ (K i ≠ 110 → ne i = ps L i ∧ en i = ps L i + L i)
def BR (cT : Nat → ClassId) (ad : Nat → Nat) (G : Nat → va_E) (k sz cn bx : Nat) (pt : Nat → Int64) (K L : Nat → Nat) : Prop :=
  ∃ (p : Nat → Int64) (w : Nat → Nat) (nu : Nat → Int64) (ne en : Nat → Nat), RB cT ad G k sz cn bx p w nu ne en ∧ BL sz cn pt K L p w nu ne en
def BI (sz cn : Nat) (K L : Nat → Nat) : Prop :=
  sz ≤ 48 ∧ ps L cn = sz ∧ (∀ i, i < cn → (K i = 110 ∨ K i = 112 ∨ K i = 116) ∧ (K i = 110 → L i = 1)) ∧ (sz = 0 → cn ≤ 1) ∧ (0 < sz → ∀ i, i < cn → K i ≠ 110 → L i = 0 → 0 < i ∧ K (i - 1) = 110)
theorem cnt_1 {K : Nat → Nat} {i : Nat} (h : K i = 110) : cnt K (i + 1) = cnt K i + 1 := by
  show cnt K i + _ = _
  rw [if_pos h]
theorem cnt_0 {K : Nat → Nat} {i : Nat} (h : K i ≠ 110) : cnt K (i + 1) = cnt K i + 0 := by
  show cnt K i + _ = _
  rw [if_neg h]
theorem cnt_le (K : Nat → Nat) : ∀ n, cnt K n ≤ n
  | 0 => Nat.le_refl 0
  | n + 1 => by
    have h := cnt_le K n
    show cnt K n + _ ≤ _
    split <;> omega
theorem lft_1 {K L : Nat → Nat} {i : Nat} (h : K i = 110) : lft K L (i + 1) = lft K L i + 0 := by
  show lft K L i + _ = _
  rw [if_pos h]
theorem lft_0 {K L : Nat → Nat} {i : Nat} (h : K i ≠ 110) : lft K L (i + 1) = lft K L i + L i := by
  show lft K L i + _ = _
  rw [if_neg h]
theorem ps_mono (L : Nat → Nat) {a b : Nat} (h : a ≤ b) : ps L a ≤ ps L b := by
  induction b with
  | zero =>
    rw [show a = 0 by omega]
    exact Nat.le_refl _
  | succ b ih =>
    rcases Nat.lt_or_ge b a with q | q
    · rw [show a = b + 1 by omega]
      exact Nat.le_refl _
    · have h1 := ih q
      show ps L a ≤ ps L b + L b
      omega
theorem ps_step (L : Nat → Nat) {a b : Nat} (h : a < b) : ps L a + L a ≤ ps L b := ps_mono L (show a + 1 ≤ b from h)
theorem ps_cong {L M : Nat → Nat} {n : Nat} (h : ∀ j, j < n → L j = M j) : ps L n = ps M n := by
  induction n with
  | zero => rfl
  | succ n ih =>
    show ps L n + L n = ps M n + M n
    rw [ih (fun j hj => h j (by omega)), h n (by omega)]
theorem lft_le (K L : Nat → Nat) : ∀ n, lft K L n ≤ ps L n
  | 0 => Nat.le_refl 0
  | n + 1 => by
    have h := lft_le K L n
    show lft K L n + _ ≤ ps L n + L n
    split <;> omega
theorem lft_cnt {K L : Nat → Nat} {n : Nat} (h : ∀ i, i < n → K i = 110 → L i = 1) : lft K L n + cnt K n = ps L n := by
  induction n with
  | zero => rfl
  | succ n ih =>
    have h1 := ih (fun i hi => h i (by omega))
    show lft K L n + _ + (cnt K n + _) = ps L n + L n
    by_cases q : K n = 110
    · rw [if_pos q, if_pos q, h n (by omega) q]; omega
    · rw [if_neg q, if_neg q]; omega
theorem insN_lo {F : Nat → Nat} {i m v j : Nat} (h : j < i) : insN F i m v j = F j := if_pos h
theorem insN_in {F : Nat → Nat} {i m v j : Nat} (h : i ≤ j) (h2 : j < i + m) : insN F i m v j = v := by
  unfold insN
  rw [if_neg (by omega), if_pos h2]
theorem insN_hi {F : Nat → Nat} {i m v j : Nat} (h : i + m ≤ j) : insN F i m v j = F (j - m) := by
  unfold insN
  rw [if_neg (by omega), if_neg (by omega)]
theorem ps_ins_lo {F : Nat → Nat} {i m v j : Nat} (h : j ≤ i) : ps (insN F i m v) j = ps F j := ps_cong (fun a ha => insN_lo (by omega))
theorem ps_ins_in {F : Nat → Nat} {i m v : Nat} : ∀ t, t ≤ m → ps (insN F i m v) (i + t) = ps F i + t * v
  | 0, _ => by
    rw [Nat.zero_mul]
    exact ps_ins_lo (Nat.le_refl _)
  | t + 1, h => by
    show ps (insN F i m v) (i + t) + insN F i m v (i + t) = _
    rw [ps_ins_in t (by omega), insN_in (by omega) (by omega), Nat.succ_mul]
    omega
theorem ps_ins_hi {F : Nat → Nat} {i m v : Nat} : ∀ t, ps (insN F i m v) (i + m + t) = ps F (i + t) + m * v
  | 0 => ps_ins_in m (Nat.le_refl _)
  | t + 1 => by
    show ps (insN F i m v) (i + m + t) + insN F i m v (i + m + t) = ps F (i + t) + F (i + t) + m * v
    rw [ps_ins_hi t, insN_hi (by omega), show i + m + t - m = i + t by omega]
    omega
theorem ps_up_lo {F : Nat → Nat} {i v j : Nat} (h : j ≤ i) : ps (va_up F i v) j = ps F j := ps_cong (fun a ha => va_up_ne _ _ (by omega))
theorem ps_up_hi {F : Nat → Nat} {i v : Nat} (hv : v ≤ F i) : ∀ t, ps (va_up F i v) (i + 1 + t) + (F i - v) = ps F (i + 1 + t)
  | 0 => by
    show ps (va_up F i v) i + va_up F i v i + _ = ps F i + F i
    rw [ps_up_lo (Nat.le_refl _), va_up_self]
    omega
  | t + 1 => by
    have h := ps_up_hi hv t
    show ps (va_up F i v) (i + 1 + t) + va_up F i v (i + 1 + t) + _ = ps F (i + 1 + t) + F (i + 1 + t)
    rw [va_up_ne _ _ (by omega)]
    omega
theorem BI_cap {sz cn : Nat} {K L : Nat → Nat} (h : BI sz cn K L) : cn ≤ 96 := by
  obtain ⟨h1, h2, h3, h4, h5⟩ := h
  rcases Nat.eq_zero_or_pos sz with q | q
  · have := h4 q
    omega
  · have key : ∀ i, i ≤ cn → i ≤ 2 * ps L i ∧ (0 < i → 0 < L (i - 1) → i + 1 ≤ 2 * ps L i) := by
      intro i
      induction i using Nat.strongRecOn with
      | _ i ih =>
        intro hi
        rcases Nat.eq_zero_or_pos i with z | z
        · subst z
          exact ⟨Nat.zero_le _, fun h => absurd h (Nat.lt_irrefl 0)⟩
        · obtain ⟨j, rfl⟩ : ∃ j, i = j + 1 := ⟨i - 1, by omega⟩
          have hj := ih j (by omega) (by omega)
          have e : ps L (j + 1) = ps L j + L j := rfl
          rw [e, Nat.add_sub_cancel]
          rcases Nat.eq_zero_or_pos (L j) with zl | zl
          · obtain ⟨hk, hk2⟩ := h3 j (by omega)
            have hne : K j ≠ 110 := fun w => by
              have := hk2 w
              omega
            obtain ⟨p1, p2⟩ := h5 q j (by omega) hne zl
            have h6 := (h3 (j - 1) (by omega)).2 p2
            have h7 := hj.2 p1 (by omega)
            exact ⟨by omega, fun _ => by omega⟩
          · exact ⟨by omega, fun _ _ => by omega⟩
    have := (key cn (Nat.le_refl _)).1
    omega
theorem BI_give {sz cn : Nat} {K L : Nat → Nat} (h : BI sz cn K L) {i m : Nat} (hi : i < cn) (hk : K i ≠ 110) (hm : m ≤ L i) : BI sz (cn + m) (insN K i m 110) (insN (va_up L i (L i - m)) i m 1) := by
  obtain ⟨h1, h2, h3, h4, h5⟩ := h
  rcases Nat.eq_zero_or_pos m with rfl | hm0
  · have e1 : insN K i 0 110 = K := by
      funext j
      rcases Nat.lt_or_ge j i with q | q
      · exact insN_lo q
      · exact insN_hi (by omega)
    have e2 : insN (va_up L i (L i - 0)) i 0 1 = L := by
      funext j
      have e3 : va_up L i (L i - 0) = L := by
        funext a
        by_cases q : a = i
        · subst q; rw [va_up_self]; rfl
        · rw [va_up_ne _ _ q]
      rw [e3]
      rcases Nat.lt_or_ge j i with q | q
      · exact insN_lo q
      · exact insN_hi (by omega)
    rw [e1, e2]
    exact ⟨h1, h2, h3, h4, h5⟩
  · have hls := ps_step L hi
    refine ⟨h1, ?_, ?_, fun z => by omega, ?_⟩
    · obtain ⟨t, ht⟩ : ∃ t, cn = i + 1 + t := ⟨cn - (i + 1), by omega⟩
      have e1 := ps_ins_hi (F := va_up L i (L i - m)) (i := i) (m := m) (v := 1) (1 + t)
      have e2 := ps_up_hi (F := L) (i := i) (v := L i - m) (by omega) t
      rw [show cn + m = i + m + (1 + t) by omega, e1, show i + (1 + t) = i + 1 + t by omega]
      rw [← ht] at e2 ⊢
      omega
    · intro j hj
      rcases Nat.lt_or_ge j i with q | q
      · rw [insN_lo q, insN_lo q, va_up_ne _ _ (by omega)]
        exact h3 j (by omega)
      · rcases Nat.lt_or_ge j (i + m) with q2 | q2
        · rw [insN_in q q2, insN_in q q2]
          exact ⟨Or.inl rfl, fun _ => rfl⟩
        · rw [insN_hi q2, insN_hi q2]
          by_cases e : j - m = i
          · rw [e, va_up_self]
            exact ⟨(h3 i hi).1, fun z => absurd z hk⟩
          · rw [va_up_ne _ _ e]
            exact h3 (j - m) (by omega)
    · intro hs j hj
      rcases Nat.lt_or_ge j i with q | q
      · rw [insN_lo q, insN_lo q, va_up_ne _ _ (by omega)]
        intro a b
        obtain ⟨c, d⟩ := h5 hs j (by omega) a b
        exact ⟨c, by rw [insN_lo (by omega)]; exact d⟩
      · rcases Nat.lt_or_ge j (i + m) with q2 | q2
        · rw [insN_in q q2]
          intro a
          exact absurd rfl a
        · rw [insN_hi q2, insN_hi q2]
          intro a b
          refine ⟨by omega, ?_⟩
          by_cases e : j - m = i
          · rw [insN_in (by omega) (by omega)]
          · rw [va_up_ne _ _ e] at b
            obtain ⟨c, d⟩ := h5 hs (j - m) (by omega) a b
            by_cases e2 : j - m - 1 = i
            · rw [e2] at d
              exact absurd d hk
            · rw [insN_hi (by omega), show j - 1 - m = j - m - 1 by omega]
              exact d
theorem BI_half {sz cn : Nat} {K L : Nat → Nat} (h : BI sz cn K L) {i : Nat} (hi : i < cn) (hk : K i = 112) (hm : 2 ≤ L i) : BI sz (cn + 1) (insN K i 1 112) (insN (va_up L i (L i - L i / 2)) i 1 (L i / 2)) := by
  obtain ⟨h1, h2, h3, h4, h5⟩ := h
  have hls := ps_step L hi
  have hle : ps L i + L i ≤ sz := by
    rw [← h2]
    exact hls
  refine ⟨h1, ?_, ?_, fun z => by omega, ?_⟩
  · obtain ⟨t, ht⟩ : ∃ t, cn = i + 1 + t := ⟨cn - (i + 1), by omega⟩
    have e1 := ps_ins_hi (F := va_up L i (L i - L i / 2)) (i := i) (m := 1) (v := L i / 2) (1 + t)
    have e2 := ps_up_hi (F := L) (i := i) (v := L i - L i / 2) (by omega) t
    rw [show cn + 1 = i + 1 + (1 + t) by omega, e1, show i + (1 + t) = i + 1 + t by omega]
    rw [← ht] at e2 ⊢
    omega
  · intro j hj
    rcases Nat.lt_or_ge j i with q | q
    · rw [insN_lo q, insN_lo q, va_up_ne _ _ (by omega)]
      exact h3 j (by omega)
    · rcases Nat.lt_or_ge j (i + 1) with q2 | q2
      · rw [insN_in q q2]
        exact ⟨Or.inr (Or.inl rfl), fun z => by omega⟩
      · rw [insN_hi q2, insN_hi q2]
        by_cases e : j - 1 = i
        · rw [e, va_up_self]
          exact ⟨(h3 i hi).1, fun z => by omega⟩
        · rw [va_up_ne _ _ e]
          exact h3 (j - 1) (by omega)
  · intro hs j hj
    rcases Nat.lt_or_ge j i with q | q
    · rw [insN_lo q, insN_lo q, va_up_ne _ _ (by omega)]
      intro a b
      obtain ⟨c, d⟩ := h5 hs j (by omega) a b
      exact ⟨c, by rw [insN_lo (by omega)]; exact d⟩
    · rcases Nat.lt_or_ge j (i + 1) with q2 | q2
      · rw [insN_in q q2, insN_in q q2]
        intro a b
        omega
      · rw [insN_hi q2, insN_hi q2]
        intro a b
        refine ⟨by omega, ?_⟩
        by_cases e : j - 1 = i
        · rw [e, va_up_self] at b
          omega
        · rw [va_up_ne _ _ e] at b
          obtain ⟨c, d⟩ := h5 hs (j - 1) (by omega) a b
          by_cases e2 : j - 1 - 1 = i
          · rw [e2] at d
            omega
          · rw [insN_hi (by omega)]
            exact d
def gvF {α : Type} (F : Nat → α) (i t : Nat) (g : Nat → α) : Nat → α := fun j => if i ≤ j ∧ j < i + t then g (j - i) else F j
theorem gvF_0 {α : Type} (F : Nat → α) (i : Nat) (g : Nat → α) : gvF F i 0 g = F := by
  funext j
  unfold gvF
  rw [if_neg (by omega)]
theorem gvF_step {α : Type} (F : Nat → α) (i t : Nat) (g : Nat → α) : va_up (gvF F i t g) (i + t) (g t) = gvF F i (t + 1) g := by
  funext j
  by_cases h : j = i + t
  · subst h
    rw [va_up_self]
    unfold gvF
    rw [if_pos (by omega), show i + t - i = t by omega]
  · rw [va_up_ne _ _ h]
    unfold gvF
    by_cases h2 : i ≤ j ∧ j < i + t
    · rw [if_pos h2, if_pos (by omega)]
    · rw [if_neg h2, if_neg (by omega)]
theorem gvF_in {α : Type} {F : Nat → α} {i t j : Nat} {g : Nat → α} (h : i ≤ j) (h2 : j < i + t) : gvF F i t g j = g (j - i) := if_pos ⟨h, h2⟩
theorem gvF_out {α : Type} {F : Nat → α} {i t j : Nat} {g : Nat → α} (h : j < i ∨ i + t ≤ j) : gvF F i t g j = F j := if_neg (by omega)
theorem gvF_lt {N : Nat} {w g : Nat → Nat} {i t : Nat} (h : ∀ j, w j < N) (h2 : ∀ j, g j < N) : ∀ j, gvF w i t g j < N := fun j => by
  unfold gvF
  split
  · exact h2 _
  · exact h _
theorem cpy_lo {α : Type} {f : Nat → α} {i m k j : Nat} (h : j < i) : va_cpy f f i (i + m) k j = f j := pk_cpy_out (by omega)
theorem cpy_hi {α : Type} {f : Nat → α} {i m k j : Nat} (h : i + m ≤ j) (h2 : j < i + m + k) : va_cpy f f i (i + m) k j = f (j - m) := by
  rw [pk_cpy_in h (by omega), show i + (j - (i + m)) = j - m by omega]
theorem BL_half {sz cn : Nat} {pt : Nat → Int64} {K L : Nat → Nat} {p : Nat → Int64} {w : Nat → Nat} {nu : Nat → Int64} {ne en : Nat → Nat} (h : BL sz cn pt K L p w nu ne en) {i : Nat} (hi : i < cn) (hk : K i = 112) (hm : 2 ≤ L i) :
    BL sz (cn + 1) pt (insN K i 1 112) (insN (va_up L i (L i - L i / 2)) i 1 (L i / 2)) p (va_up (va_cpy w w i (i + 1) (cn - i)) i 112) (va_cpy nu nu i (i + 1) (cn - i)) (va_up (va_up (va_cpy ne ne i (i + 1) (cn - i)) i (ps L i)) (i + 1) (ps L i + L i / 2)) (va_up (va_cpy en en i (i + 1) (cn - i)) i (ps L i + L i / 2)) := by
  obtain ⟨h1, h2⟩ := h
  refine ⟨h1, fun j hj => ?_⟩
  rcases Nat.lt_trichotomy j i with q | q | q
  · rw [insN_lo q, insN_lo q, va_up_ne _ _ (by omega), va_up_ne _ _ (by omega), va_up_ne _ _ (by omega), va_up_ne _ _ (by omega), va_up_ne _ _ (by omega), cpy_lo q, cpy_lo q, cpy_lo q, cpy_lo q, ps_ins_lo (by omega), ps_up_lo (by omega)]
    exact h2 j (by omega)
  · subst q
    rw [insN_in (Nat.le_refl _) (by omega), insN_in (Nat.le_refl _) (by omega), va_up_self, va_up_ne _ _ (by omega), va_up_self, va_up_self, ps_ins_lo (Nat.le_refl _), ps_up_lo (Nat.le_refl _)]
    exact ⟨rfl, fun z => by omega, fun _ => ⟨rfl, rfl⟩⟩
  · have e1 : ps (insN (va_up L i (L i - L i / 2)) i 1 (L i / 2)) (i + 1) = ps L i + L i / 2 := by
      have e := ps_ins_in (F := va_up L i (L i - L i / 2)) (i := i) (m := 1) (v := L i / 2) 1 (Nat.le_refl _)
      rw [e, ps_up_lo (Nat.le_refl _)]
      omega
    by_cases q2 : j = i + 1
    · subst q2
      obtain ⟨g1, g2, g3⟩ := h2 i hi
      obtain ⟨g4, g5⟩ := g3 (by omega)
      rw [e1, insN_hi (by omega), insN_hi (by omega), Nat.add_sub_cancel, va_up_self, va_up_self, va_up_ne _ _ (by omega), va_up_ne _ _ (by omega), cpy_hi (by omega) (by omega), cpy_hi (by omega) (by omega), cpy_hi (by omega) (by omega), Nat.add_sub_cancel]
      exact ⟨g1, fun z => by omega, fun _ => ⟨rfl, by omega⟩⟩
    · obtain ⟨t, rfl⟩ : ∃ t, j = i + 1 + (1 + t) := ⟨j - (i + 2), by omega⟩
      have e2 := ps_ins_hi (F := va_up L i (L i - L i / 2)) (i := i) (m := 1) (v := L i / 2) (1 + t)
      have e3 := ps_up_hi (F := L) (i := i) (v := L i - L i / 2) (by omega) t
      have e4 : ps (insN (va_up L i (L i - L i / 2)) i 1 (L i / 2)) (i + 1 + (1 + t)) = ps L (i + 1 + t) := by
        rw [e2, show i + (1 + t) = i + 1 + t by omega]
        omega
      have h9 := h2 (i + 1 + t) (by omega)
      rw [e4, insN_hi (by omega), insN_hi (by omega), va_up_ne _ _ (by omega), va_up_ne _ _ (by omega), va_up_ne _ _ (by omega), va_up_ne _ _ (by omega), va_up_ne _ _ (by omega), cpy_hi (by omega) (by omega), cpy_hi (by omega) (by omega), cpy_hi (by omega) (by omega), cpy_hi (by omega) (by omega), show i + 1 + (1 + t) - 1 = i + 1 + t by omega]
      exact h9
theorem BL_give {sz cn : Nat} {pt : Nat → Int64} {K L : Nat → Nat} {p : Nat → Int64} {w : Nat → Nat} {nu : Nat → Int64} {ne en : Nat → Nat} (h : BL sz cn pt K L p w nu ne en) (hz : ps L cn = sz) {i m : Nat} (hi : i < cn) (hk : K i ≠ 110) (hm : m ≤ L i) :
    BL sz (cn + m) pt (insN K i m 110) (insN (va_up L i (L i - m)) i m 1) p (gvF (va_cpy w w i (i + m) (cn - i)) i m (fun _ => 110)) (gvF (va_cpy nu nu i (i + m) (cn - i)) i m (fun t => p (ps L i + t))) (va_up (va_cpy ne ne i (i + m) (cn - i)) (i + m) (ps L i + m)) (va_cpy en en i (i + m) (cn - i)) := by
  obtain ⟨h1, h2⟩ := h
  have hls := ps_step L hi
  refine ⟨h1, fun j hj => ?_⟩
  rcases Nat.lt_or_ge j i with q | q
  · rw [insN_lo q, insN_lo q, va_up_ne _ _ (by omega), va_up_ne _ _ (by omega), gvF_out (Or.inl q), gvF_out (Or.inl q), cpy_lo q, cpy_lo q, cpy_lo q, cpy_lo q, ps_ins_lo (by omega), ps_up_lo (by omega)]
    exact h2 j (by omega)
  · rcases Nat.lt_or_ge j (i + m) with q2 | q2
    · obtain ⟨t, rfl⟩ : ∃ t, j = i + t := ⟨j - i, by omega⟩
      rw [insN_in q q2, gvF_in q q2, gvF_in q q2, ps_ins_in t (by omega), ps_up_lo (Nat.le_refl _), show i + t - i = t by omega, Nat.mul_one]
      exact ⟨rfl, fun _ => h1 _ (by omega), fun z => absurd rfl z⟩
    · have e1 := ps_ins_in (F := va_up L i (L i - m)) (i := i) (m := m) (v := 1) m (Nat.le_refl _)
      rw [ps_up_lo (Nat.le_refl _), Nat.mul_one] at e1
      by_cases q3 : j = i + m
      · subst q3
        obtain ⟨g1, g2, g3⟩ := h2 i hi
        obtain ⟨g4, g5⟩ := g3 hk
        rw [e1, insN_hi q2, insN_hi q2, Nat.add_sub_cancel, va_up_self, va_up_self, gvF_out (by omega), gvF_out (by omega), cpy_hi q2 (by omega), cpy_hi q2 (by omega), cpy_hi q2 (by omega), Nat.add_sub_cancel]
        exact ⟨g1, fun z => absurd z hk, fun _ => ⟨rfl, by omega⟩⟩
      · obtain ⟨t, rfl⟩ : ∃ t, j = i + m + (1 + t) := ⟨j - (i + m + 1), by omega⟩
        have e2 := ps_ins_hi (F := va_up L i (L i - m)) (i := i) (m := m) (v := 1) (1 + t)
        have e3 := ps_up_hi (F := L) (i := i) (v := L i - m) (by omega) t
        have e4 : ps (insN (va_up L i (L i - m)) i m 1) (i + m + (1 + t)) = ps L (i + 1 + t) := by
          rw [e2, show i + (1 + t) = i + 1 + t by omega]
          omega
        have h9 := h2 (i + 1 + t) (by omega)
        rw [e4, insN_hi q2, insN_hi q2, va_up_ne _ _ (by omega), va_up_ne _ _ (by omega), gvF_out (by omega), gvF_out (by omega), cpy_hi q2 (by omega), cpy_hi q2 (by omega), cpy_hi q2 (by omega), cpy_hi q2 (by omega), show i + m + (1 + t) - m = i + 1 + t by omega]
        exact h9
theorem swk_le (L : Nat → Nat) : ∀ n, swk L n ≤ n
  | 0 => Nat.le_refl 0
  | n + 1 => by
    have h := swk_le L n
    show swk L n + _ ≤ _
    split <;> omega
theorem swF_hi {α : Type} (F : Nat → α) (L : Nat → Nat) : ∀ (n j : Nat), n ≤ j → swF F L n j = F j
  | 0, _, _ => rfl
  | n + 1, j, h => by
    have h1 := swk_le L n
    show (if 0 < L n then va_up (swF F L n) (swk L n) (F n) else swF F L n) j = _
    split
    · rw [va_up_ne _ _ (by omega), swF_hi F L n j (by omega)]
    · exact swF_hi F L n j (by omega)
theorem swF_1 {α : Type} (F : Nat → α) {L : Nat → Nat} {n : Nat} (h : 0 < L n) : swF F L (n + 1) = va_up (swF F L n) (swk L n) (F n) := if_pos h
theorem swF_0 {α : Type} (F : Nat → α) {L : Nat → Nat} {n : Nat} (h : ¬ 0 < L n) : swF F L (n + 1) = swF F L n := if_neg h
theorem swk_1 {L : Nat → Nat} {n : Nat} (h : 0 < L n) : swk L (n + 1) = swk L n + 1 := by
  show swk L n + _ = _
  rw [if_pos h]
theorem swk_0 {L : Nat → Nat} {n : Nat} (h : ¬ 0 < L n) : swk L (n + 1) = swk L n := by
  show swk L n + _ = _
  rw [if_neg h, Nat.add_zero]
theorem sw_ps (L : Nat → Nat) : ∀ n, ps (swF L L n) (swk L n) = ps L n
  | 0 => rfl
  | n + 1 => by
    by_cases h : 0 < L n
    · rw [swF_1 L h, swk_1 h]
      show ps (va_up (swF L L n) (swk L n) (L n)) (swk L n) + va_up (swF L L n) (swk L n) (L n) (swk L n) = ps L n + L n
      rw [ps_up_lo (Nat.le_refl _), va_up_self, sw_ps L n]
    · rw [swF_0 L h, swk_0 h, sw_ps L n]
      show ps L n = ps L n + L n
      omega
theorem BL_sweep {sz cn : Nat} {pt : Nat → Int64} {K L : Nat → Nat} {p : Nat → Int64} {w : Nat → Nat} {nu : Nat → Int64} {ne en : Nat → Nat} (h : BL sz cn pt K L p w nu ne en) : ∀ n, n ≤ cn → BL sz (swk L n) pt (swF K L n) (swF L L n) p (swF w L n) (swF nu L n) (swF ne L n) (swF en L n)
  | 0, _ => ⟨h.1, fun i hi => absurd hi (Nat.not_lt_zero _)⟩
  | n + 1, hn => by
    have ih := BL_sweep h n (by omega)
    by_cases hl : 0 < L n
    · rw [swF_1 K hl, swF_1 L hl, swF_1 w hl, swF_1 nu hl, swF_1 ne hl, swF_1 en hl, swk_1 hl]
      refine ⟨h.1, fun i hi => ?_⟩
      by_cases e : i = swk L n
      · subst e
        rw [va_up_self, va_up_self, va_up_self, va_up_self, va_up_self, va_up_self, ps_up_lo (Nat.le_refl _), sw_ps L n]
        exact h.2 n (by omega)
      · rw [va_up_ne _ _ e, va_up_ne _ _ e, va_up_ne _ _ e, va_up_ne _ _ e, va_up_ne _ _ e, va_up_ne _ _ e, ps_up_lo (by omega)]
        exact ih.2 i (by omega)
    · rw [swF_0 K hl, swF_0 L hl, swF_0 w hl, swF_0 nu hl, swF_0 ne hl, swF_0 en hl, swk_0 hl]
      exact ih
theorem sw_each {K L : Nat → Nat} {P : Nat → Nat → Prop} : ∀ (n : Nat), (∀ i, i < n → 0 < L i → P (K i) (L i)) → ∀ i, i < swk L n → 0 < swF L L n i ∧ P (swF K L n i) (swF L L n i)
  | 0, _, i, hi => absurd hi (Nat.not_lt_zero _)
  | n + 1, h, i, hi => by
    have ih := sw_each (K := K) (L := L) (P := P) n (fun j hj => h j (by omega))
    by_cases hl : 0 < L n
    · rw [swk_1 hl] at hi
      rw [swF_1 K hl, swF_1 L hl]
      by_cases e : i = swk L n
      · subst e
        rw [va_up_self, va_up_self]
        exact ⟨hl, h n (by omega) hl⟩
      · rw [va_up_ne _ _ e, va_up_ne _ _ e]
        exact ih i (by omega)
    · rw [swk_0 hl] at hi
      rw [swF_0 K hl, swF_0 L hl]
      exact ih i hi
theorem BI_sweep {sz cn : Nat} {K L : Nat → Nat} (h : BI sz cn K L) : BI sz (swk L cn) (swF K L cn) (swF L L cn) := by
  obtain ⟨h1, h2, h3, h4, h5⟩ := h
  have key := sw_each (K := K) (L := L) (P := fun a b => (a = 110 ∨ a = 112 ∨ a = 116) ∧ (a = 110 → b = 1)) cn (fun i hi _ => h3 i hi)
  refine ⟨h1, by rw [sw_ps]; exact h2, fun i hi => (key i hi).2, fun z => ?_, fun _ i hi _ z => ?_⟩
  · have := swk_le L cn
    have := h4 z
    omega
  · have := (key i hi).1
    omega
theorem lgc_eq {x y : Int64} (h : x = y) : lg_cmp x y = nI 0 := (lg_cmp_eq x y).mpr h
theorem up_same {α : Type} {F : Nat → α} {j : Nat} {v : α} (h : F j = v) : va_up F j v = F := by
  funext a
  by_cases q : a = j
  · subst q; rw [va_up_self, h]
  · rw [va_up_ne _ _ q]
theorem min_nI {a b : Nat} (ha : a < 2 ^ 31) (hb : b < 2 ^ 31) : (if nI b < nI a then nI b else nI a) = nI (min a b) := by
  by_cases h : b < a
  · rw [if_pos (nI_lt h ha), Nat.min_eq_right (by omega)]
  · rw [if_neg (nI_nlt (by omega) hb), Nat.min_eq_left (by omega)]
def crum (most : Nat) : Nat → Nat → Nat → (Nat → Nat) → (Nat → Nat) → Nat × (Nat → Nat) × (Nat → Nat)
  | 0, _, cn, K, L => (cn, K, L)
  | f + 1, i, cn, K, L => if i < cn then (if K i = 112 ∧ most < L i then crum most f i (cn + 1) (insN K i 1 112) (insN (va_up L i (L i - L i / 2)) i 1 (L i / 2)) else crum most f (i + 1) cn K L) else (cn, K, L)
theorem crum_split {most f i cn : Nat} {K L : Nat → Nat} (hf : 0 < f) (hi : i < cn) (h : K i = 112 ∧ most < L i) : crum most f i cn K L = crum most (f - 1) i (cn + 1) (insN K i 1 112) (insN (va_up L i (L i - L i / 2)) i 1 (L i / 2)) := by
  obtain ⟨g, rfl⟩ : ∃ g, f = g + 1 := ⟨f - 1, by omega⟩
  show (if i < cn then _ else _) = _
  rw [if_pos hi, if_pos h]
  rfl
theorem crum_next {most f i cn : Nat} {K L : Nat → Nat} (hf : 0 < f) (hi : i < cn) (h : ¬ (K i = 112 ∧ most < L i)) : crum most f i cn K L = crum most (f - 1) (i + 1) cn K L := by
  obtain ⟨g, rfl⟩ : ∃ g, f = g + 1 := ⟨f - 1, by omega⟩
  show (if i < cn then _ else _) = _
  rw [if_pos hi, if_neg h]
  rfl
theorem crum_end {most f i cn : Nat} {K L : Nat → Nat} (hi : cn ≤ i) : crum most f i cn K L = (cn, K, L) := by
  cases f with
  | zero => rfl
  | succ g =>
    show (if i < cn then _ else _) = _
    rw [if_neg (by omega)]
theorem crum_BI {most sz : Nat} (hm : 0 < most) : ∀ (f i cn : Nat) (K L : Nat → Nat), BI sz cn K L → BI sz (crum most f i cn K L).1 (crum most f i cn K L).2.1 (crum most f i cn K L).2.2
  | 0, _, _, _, _, h => h
  | f + 1, i, cn, K, L, h => by
    by_cases hi : i < cn
    · by_cases hk : K i = 112 ∧ most < L i
      · rw [crum_split (Nat.succ_pos _) hi hk]
        exact crum_BI hm f i _ _ _ (BI_half h hi hk.1 (by omega))
      · rw [crum_next (Nat.succ_pos _) hi hk]
        exact crum_BI hm f (i + 1) _ _ _ h
    · rw [crum_end (by omega)]
      exact h
end
section
set_option maxHeartbeats 4000000 in
set_option maxRecDepth 100000 in
theorem mX0_isNumber (l : Launch) (D : va_G) (cT : Nat → ClassId) (n : Nat) (ad : Nat → Nat) (A : Nat → Prop) (hD : ∀ G, va_D A (gw n ad G)) (G : Nat → va_E) (k sz cn bx : Nat) (pt : Nat → Int64) (w : Nat → Nat) (nu : Nat → Int64) (ne en : Nat → Nat) (hk : k + 6 ≤ n) (hR : RB cT ad G k sz cn bx pt w nu ne en) (i : Nat) (hi : i < 96) : Met l yX0_isNumber (wA yX0_isNumber cX0_isNumber 2 (some .boolean)) ({ frames := 0, cells := 0, slots := 0, locals := 0 } : Room) (PG D cT n ad A G [.ref (ad k), .int (nI i)]) (QG D n ad A (fun v G1 => v = some (.int (if w i = 110 then 1 else 0)) ∧ G1 = G)) 0 0 A := by
  refine Met.ofG (cc := cX0_isNumber) (maxL := 2) (ret := (some .boolean)) (by decide) (Nat.le_of_ble_eq_true rfl) ?_
  intro p e s m args below meth c Q hQ hx hb hr hml hlocks hown hw hP hK hE hA hS ls hl
  have hl : lv_has ls 2 [(0, .ref (ad k)), (1, .int (nI i))] := hl
  obtain ⟨hB, hB1, hB2, hB3, hB4, hB5, hB6, hB7, hB8⟩ := hR
  refine lv_aload_n hx hb dX0_isNumber_0 rfl (lv_at hl 0 rfl) ?_
  refine g_get (C := RX0) (T := TX0) (N := 8) hx hb hw inX0 hown hK hP (i := k) (by omega) hB rfl 3 (by decide) (hw _ wf_X0_15) rfl dX0_isNumber_1 ?_
  refine lv_iload_n hx hb dX0_isNumber_4 rfl (lv_at hl 1 rfl) ?_
  refine g_iald hx hb hK hP (i := (k + 2)) (by omega) hB2 (by omega) (by omega) dX0_isNumber_5 ?_
  have hbd_1 := hB6 i
  refine lv_bipush (v := nI 110) hx hb dX0_isNumber_6 (by decide) ?_
  refine t_icmp_ne (tgt := 15) hx hb dX0_isNumber_8 (by decide) (by omega) (by omega) (fun c_2 => ?_) (fun c_2 => ?_)
  · skip
    refine lv_iconst (v := nI 0) hx hb dX0_isNumber_15 (by decide) ?_
    refine g_ret hQ hx hb hr hlocks rfl hP hS (⟨by rw [if_neg (by omega)]; rfl, rfl⟩) (Nat.le_of_ble_eq_true rfl) (Nat.le_of_ble_eq_true rfl) dX0_isNumber_16
  · skip
    refine lv_iconst (v := nI 1) hx hb dX0_isNumber_11 (by decide) ?_
    refine lv_goto (tgt := 16) hx hb dX0_isNumber_12 (by decide) ?_
    refine g_ret hQ hx hb hr hlocks rfl hP hS (⟨by rw [if_pos (by omega)]; rfl, rfl⟩) (Nat.le_of_ble_eq_true rfl) (Nat.le_of_ble_eq_true rfl) dX0_isNumber_16

set_option maxHeartbeats 4000000 in
set_option maxRecDepth 100000 in
theorem mX0_remaining (l : Launch) (D : va_G) (cT : Nat → ClassId) (n : Nat) (ad : Nat → Nat) (A : Nat → Prop) (hD : ∀ G, va_D A (gw n ad G)) (G : Nat → va_E) (k sz cn bx : Nat) (pt : Nat → Int64) (w : Nat → Nat) (nu : Nat → Int64) (ne en : Nat → Nat) (hk : k + 6 ≤ n) (hR : RB cT ad G k sz cn bx pt w nu ne en) (i : Nat) (hi : i < 96) (hne : w i ≠ 110 → ne i ≤ en i) : Met l yX0_remaining (wA yX0_remaining cX0_remaining 2 (some .int)) ({ frames := 1, cells := 0, slots := 0, locals := 21 } : Room) (PG D cT n ad A G [.ref (ad k), .int (nI i)]) (QG D n ad A (fun v G1 => v = some (.int (nI (if w i = 110 then 0 else en i - ne i))) ∧ G1 = G)) 0 0 A := by
  refine Met.ofG (cc := cX0_remaining) (maxL := 2) (ret := (some .int)) (by decide) (Nat.le_of_ble_eq_true rfl) ?_
  intro p e s m args below meth c Q hQ hx hb hr hml hlocks hown hw hP hK hE hA hS ls hl
  have hl : lv_has ls 2 [(0, .ref (ad k)), (1, .int (nI i))] := hl
  obtain ⟨hB, hB1, hB2, hB3, hB4, hB5, hB6, hB7, hB8⟩ := hR
  refine lv_aload_n hx hb dX0_remaining_0 rfl (lv_at hl 0 rfl) ?_
  refine lv_iload_n hx hb dX0_remaining_1 rfl (lv_at hl 1 rfl) ?_
  refine g_callV (As := [.int (nI i)]) (rest := []) ⟨hx, hb, hml, hown, hw⟩ (mX0_isNumber l D cT n ad A hD G k sz cn bx pt w nu ne en (by omega) ⟨hB, hB1, hB2, hB3, hB4, hB5, hB6, hB7, hB8⟩ i (by omega)) (cwV 1 hw (gWV wm_X0_49 wi_X0_isNumber wse_X0_isNumber wini_X0 wc_X0_isNumber) rfl rfl rfl (by decide +kernel) ⟨Nat.le_of_ble_eq_true rfl, Nat.le_of_ble_eq_true rfl⟩) hK hE hA hP hS (k := k) (by omega) hB rfl rfl hl.1 (lv_room (Nat.le_of_ble_eq_true rfl)) dX0_remaining_2 ⟨Nat.le_of_ble_eq_true rfl, Nat.le_of_ble_eq_true rfl⟩ (fun v_2 G_1 H locs hp hP hS => ?_)
  obtain ⟨hv, hg⟩ := hp
  subst hv
  rw [hg] at hP
  refine t_bool_eq (tgt := 12) hx hb dX0_remaining_5 (by decide) (fun c_3 => ?_) (fun c_3 => ?_)
  · skip
    refine lv_aload_n hx hb dX0_remaining_12 rfl (lv_at hl 0 rfl) ?_
    refine g_get (C := RX0) (T := TX0) (N := 8) hx hb hw inX0 hown hK hP (i := k) (by omega) hB rfl 6 (by decide) (hw _ wf_X0_25) rfl dX0_remaining_13 ?_
    refine lv_iload_n hx hb dX0_remaining_16 rfl (lv_at hl 1 rfl) ?_
    refine g_iald hx hb hK hP (i := (k + 5)) (by omega) hB5 (by omega) (by omega) dX0_remaining_17 ?_
    have hbd_4 := hB8 i
    refine lv_aload_n hx hb dX0_remaining_18 rfl (lv_at hl 0 rfl) ?_
    refine g_get (C := RX0) (T := TX0) (N := 8) hx hb hw inX0 hown hK hP (i := k) (by omega) hB rfl 5 (by decide) (hw _ wf_X0_22) rfl dX0_remaining_19 ?_
    refine lv_iload_n hx hb dX0_remaining_22 rfl (lv_at hl 1 rfl) ?_
    refine g_iald hx hb hK hP (i := (k + 4)) (by omega) hB4 (by omega) (by omega) dX0_remaining_23 ?_
    have hbd_5 := hB7 i
    refine lv_isub hx hb dX0_remaining_24 ?_
    refine t_eqi (nI ((en i) - (ne i))) (pk_sub (by omega)) ?_
    refine g_ret hQ hx hb hr hlocks rfl hP hS (⟨by first | rw [if_pos (by assumption)] | rw [if_neg (by assumption)], rfl⟩) (Nat.le_of_ble_eq_true rfl) (Nat.le_of_ble_eq_true rfl) dX0_remaining_25
  · skip
    refine lv_iconst (v := nI 0) hx hb dX0_remaining_8 (by decide) ?_
    refine lv_goto (tgt := 25) hx hb dX0_remaining_9 (by decide) ?_
    refine g_ret hQ hx hb hr hlocks rfl hP hS (⟨by first | rw [if_pos (by assumption)] | rw [if_neg (by assumption)], rfl⟩) (Nat.le_of_ble_eq_true rfl) (Nat.le_of_ble_eq_true rfl) dX0_remaining_25

set_option maxHeartbeats 4000000 in
set_option maxRecDepth 100000 in
theorem mX0_width (l : Launch) (D : va_G) (cT : Nat → ClassId) (n : Nat) (ad : Nat → Nat) (A : Nat → Prop) (hD : ∀ G, va_D A (gw n ad G)) (G : Nat → va_E) (k sz cn bx : Nat) (pt : Nat → Int64) (w : Nat → Nat) (nu : Nat → Int64) (ne en : Nat → Nat) (hk : k + 6 ≤ n) (hR : RB cT ad G k sz cn bx pt w nu ne en) (i : Nat) (hi : i < 96) (hne : w i ≠ 110 → ne i ≤ en i) : Met l yX0_width (wA yX0_width cX0_width 2 (some .int)) ({ frames := 2, cells := 0, slots := 0, locals := 42 } : Room) (PG D cT n ad A G [.ref (ad k), .int (nI i)]) (QG D n ad A (fun v G1 => v = some (.int (nI (if w i = 110 then 1 else en i - ne i))) ∧ G1 = G)) 0 0 A := by
  refine Met.ofG (cc := cX0_width) (maxL := 2) (ret := (some .int)) (by decide) (Nat.le_of_ble_eq_true rfl) ?_
  intro p e s m args below meth c Q hQ hx hb hr hml hlocks hown hw hP hK hE hA hS ls hl
  have hl : lv_has ls 2 [(0, .ref (ad k)), (1, .int (nI i))] := hl
  obtain ⟨hB, hB1, hB2, hB3, hB4, hB5, hB6, hB7, hB8⟩ := hR
  refine lv_aload_n hx hb dX0_width_0 rfl (lv_at hl 0 rfl) ?_
  refine lv_iload_n hx hb dX0_width_1 rfl (lv_at hl 1 rfl) ?_
  refine g_callV (As := [.int (nI i)]) (rest := []) ⟨hx, hb, hml, hown, hw⟩ (mX0_isNumber l D cT n ad A hD G k sz cn bx pt w nu ne en (by omega) ⟨hB, hB1, hB2, hB3, hB4, hB5, hB6, hB7, hB8⟩ i (by omega)) (cwV 1 hw (gWV wm_X0_49 wi_X0_isNumber wse_X0_isNumber wini_X0 wc_X0_isNumber) rfl rfl rfl (by decide +kernel) ⟨Nat.le_of_ble_eq_true rfl, Nat.le_of_ble_eq_true rfl⟩) hK hE hA hP hS (k := k) (by omega) hB rfl rfl hl.1 (lv_room (Nat.le_of_ble_eq_true rfl)) dX0_width_2 ⟨Nat.le_of_ble_eq_true rfl, Nat.le_of_ble_eq_true rfl⟩ (fun v_2 G_1 H locs hp hP hS => ?_)
  obtain ⟨hv, hg⟩ := hp
  subst hv
  rw [hg] at hP
  refine t_bool_eq (tgt := 12) hx hb dX0_width_5 (by decide) (fun c_3 => ?_) (fun c_3 => ?_)
  · skip
    refine lv_aload_n hx hb dX0_width_12 rfl (lv_at hl 0 rfl) ?_
    refine lv_iload_n hx hb dX0_width_13 rfl (lv_at hl 1 rfl) ?_
    have hbd_4 := hB8 i
    refine g_callV (As := [.int (nI i)]) (rest := []) ⟨hx, hb, hml, hown, hw⟩ (mX0_remaining l D cT n ad A hD G k sz cn bx pt w nu ne en (by omega) ⟨hB, hB1, hB2, hB3, hB4, hB5, hB6, hB7, hB8⟩ i (by omega) (by omega)) (cwV 1 hw (gWV wm_X0_57 wi_X0_remaining wse_X0_remaining wini_X0 wc_X0_remaining) rfl rfl rfl (by decide +kernel) ⟨Nat.le_of_ble_eq_true rfl, Nat.le_of_ble_eq_true rfl⟩) hK hE hA hP hS (k := k) (by omega) hB rfl rfl hl.1 (lv_room (Nat.le_of_ble_eq_true rfl)) dX0_width_14 ⟨Nat.le_of_ble_eq_true rfl, Nat.le_of_ble_eq_true rfl⟩ (fun v_6 G_5 H locs hp hP hS => ?_)
    obtain ⟨hv, hg⟩ := hp
    subst hv
    rw [hg] at hP
    refine g_ret hQ hx hb hr hlocks rfl hP hS (⟨by first | rw [if_pos (by assumption)] | (rw [if_neg (by assumption), if_neg (by assumption)]), rfl⟩) (Nat.le_of_ble_eq_true rfl) (Nat.le_of_ble_eq_true rfl) dX0_width_17
  · skip
    refine lv_iconst (v := nI 1) hx hb dX0_width_8 (by decide) ?_
    refine lv_goto (tgt := 17) hx hb dX0_width_9 (by decide) ?_
    refine g_ret hQ hx hb hr hlocks rfl hP hS (⟨by first | rw [if_pos (by assumption)] | (rw [if_neg (by assumption), if_neg (by assumption)]), rfl⟩) (Nat.le_of_ble_eq_true rfl) (Nat.le_of_ble_eq_true rfl) dX0_width_17

set_option maxHeartbeats 4000000 in
set_option maxRecDepth 100000 in
theorem mX0_partAt (l : Launch) (D : va_G) (cT : Nat → ClassId) (n : Nat) (ad : Nat → Nat) (A : Nat → Prop) (hD : ∀ G, va_D A (gw n ad G)) (G : Nat → va_E) (k sz cn bx : Nat) (pt : Nat → Int64) (w : Nat → Nat) (nu : Nat → Int64) (ne en : Nat → Nat) (hk : k + 6 ≤ n) (hR : RB cT ad G k sz cn bx pt w nu ne en) (i : Nat) (hi : i < sz) (hsz : sz ≤ 48) : Met l yX0_partAt (wA yX0_partAt cX0_partAt 2 (some .long)) ({ frames := 0, cells := 0, slots := 0, locals := 0 } : Room) (PG D cT n ad A G [.ref (ad k), .int (nI i)]) (QG D n ad A (fun v G1 => v = some (.long (pt i)) ∧ G1 = G)) 0 0 A := by
  refine Met.ofG (cc := cX0_partAt) (maxL := 2) (ret := (some .long)) (by decide) (Nat.le_of_ble_eq_true rfl) ?_
  intro p e s m args below meth c Q hQ hx hb hr hml hlocks hown hw hP hK hE hA hS ls hl
  have hl : lv_has ls 2 [(0, .ref (ad k)), (1, .int (nI i))] := hl
  obtain ⟨hB, hB1, hB2, hB3, hB4, hB5, hB6, hB7, hB8⟩ := hR
  refine lv_iload_n hx hb dX0_partAt_0 rfl (lv_at hl 1 rfl) ?_
  refine t_if_lt (tgt := 21) hx hb dX0_partAt_1 (by decide) (by omega) ?_
  refine lv_iload_n hx hb dX0_partAt_4 rfl (lv_at hl 1 rfl) ?_
  refine lv_aload_n hx hb dX0_partAt_5 rfl (lv_at hl 0 rfl) ?_
  refine g_get (C := RX0) (T := TX0) (N := 8) hx hb hw inX0 hown hK hP (i := k) (by omega) hB rfl 1 (by decide) (hw _ wf_X0_28) rfl dX0_partAt_6 ?_
  refine t_icmp_ge (tgt := 21) hx hb dX0_partAt_9 (by decide) (by omega) (by omega) (fun c_2 => ?_) (fun c_2 => ?_)
  · exfalso; omega
  · skip
    refine lv_aload_n hx hb dX0_partAt_12 rfl (lv_at hl 0 rfl) ?_
    refine g_get (C := RX0) (T := TX0) (N := 8) hx hb hw inX0 hown hK hP (i := k) (by omega) hB rfl 0 (by decide) (hw _ wf_X0_9) rfl dX0_partAt_13 ?_
    refine lv_iload_n hx hb dX0_partAt_16 rfl (lv_at hl 1 rfl) ?_
    refine g_lald hx hb hK hP (i := (k + 1)) (by omega) hB1 (by omega) (by omega) dX0_partAt_17 ?_
    refine lv_goto (tgt := 22) hx hb dX0_partAt_18 (by decide) ?_
    refine g_retl hQ hx hb hr hlocks hP hS (⟨rfl, rfl⟩) (Nat.le_of_ble_eq_true rfl) (Nat.le_of_ble_eq_true rfl) dX0_partAt_22

set_option maxHeartbeats 4000000 in
set_option maxRecDepth 100000 in
theorem mX0_putPiece (l : Launch) (D : va_G) (cT : Nat → ClassId) (n : Nat) (ad : Nat → Nat) (A : Nat → Prop) (hD : ∀ G, va_D A (gw n ad G)) (G : Nat → va_E) (k sz cn bx : Nat) (pt : Nat → Int64) (w : Nat → Nat) (nu : Nat → Int64) (ne en : Nat → Nat) (hk : k + 6 ≤ n) (hR : RB cT ad G k sz cn bx pt w nu ne en) (i a b : Nat) (hi : i < 96) (ha : a < 2 ^ 31) (hb2 : b < 2 ^ 31) : Met l yX0_putPiece (wA yX0_putPiece cX0_putPiece 4 none) ({ frames := 0, cells := 0, slots := 0, locals := 0 } : Room) (PG D cT n ad A G [.ref (ad k), .int (nI i), .int (nI a), .int (nI b)]) (QG D n ad A (fun v G1 => v = none ∧ (∀ j, (j < k ∨ k + 6 ≤ j) → G1 j = G j) ∧ RB cT ad G1 k sz cn bx pt (va_up w i 112) nu (va_up ne i a) (va_up en i b))) 0 0 A := by
  refine Met.ofG (cc := cX0_putPiece) (maxL := 4) (ret := none) (by decide) (Nat.le_of_ble_eq_true rfl) ?_
  intro p e s m args below meth c Q hQ hx hb hr hml hlocks hown hw hP hK hE hA hS ls hl
  have hl : lv_has ls 4 [(0, .ref (ad k)), (1, .int (nI i)), (2, .int (nI a)), (3, .int (nI b))] := hl
  obtain ⟨hB, hB1, hB2, hB3, hB4, hB5, hB6, hB7, hB8⟩ := hR
  refine lv_aload_n hx hb dX0_putPiece_0 rfl (lv_at hl 0 rfl) ?_
  refine g_get (C := RX0) (T := TX0) (N := 8) hx hb hw inX0 hown hK hP (i := k) (by omega) hB rfl 3 (by decide) (hw _ wf_X0_15) rfl dX0_putPiece_1 ?_
  refine lv_iload_n hx hb dX0_putPiece_4 rfl (lv_at hl 1 rfl) ?_
  refine lv_bipush (v := nI 112) hx hb dX0_putPiece_5 (by decide) ?_
  have hbd_2 := up_lt hB6 (i := i) (v := 112) (by omega)
  refine g_iast hx hb hK hP hD hS (i := (k + 2)) (by omega) hB2 (by omega) (by omega) dX0_putPiece_7 (fun G_1 H locs hg_G_1 ho_G_1 hP hS => ?_)
  have hc_3 : G_1 k = .inr (2, [.ref (ad (k + 1)), .int (nI sz), .int (nI bx), .ref (ad (k + 2)), .ref (ad (k + 3)), .ref (ad (k + 4)), .ref (ad (k + 5)), .int (nI cn)]) := (ho_G_1 _ (by omega)).trans hB
  have hc_4 : G_1 (k + 1) = aJ cT 48 pt := (ho_G_1 _ (by omega)).trans hB1
  have hc_5 : G_1 (k + 2) = aI cT 96 (va_up w i 112) := hg_G_1
  have hc_6 : G_1 (k + 3) = aJ cT 96 nu := (ho_G_1 _ (by omega)).trans hB3
  have hc_7 : G_1 (k + 4) = aI cT 96 ne := (ho_G_1 _ (by omega)).trans hB4
  have hc_8 : G_1 (k + 5) = aI cT 96 en := (ho_G_1 _ (by omega)).trans hB5
  have hfr_9 : ∀ j, (j < k ∨ k + 6 ≤ j) → G_1 j = G j := fun j hj => (ho_G_1 j (by omega)).trans (rfl)
  refine lv_aload_n hx hb dX0_putPiece_8 rfl (lv_at hl 0 rfl) ?_
  refine g_get (C := RX0) (T := TX0) (N := 8) hx hb hw inX0 hown hK hP (i := k) (by omega) hc_3 rfl 5 (by decide) (hw _ wf_X0_22) rfl dX0_putPiece_9 ?_
  refine lv_iload_n hx hb dX0_putPiece_12 rfl (lv_at hl 1 rfl) ?_
  refine lv_iload_n hx hb dX0_putPiece_13 rfl (lv_at hl 2 rfl) ?_
  have hbd_11 := up_lt hB7 (i := i) (v := a) (by omega)
  refine g_iast hx hb hK hP hD hS (i := (k + 4)) (by omega) hc_7 (by omega) (by omega) dX0_putPiece_14 (fun G_10 H locs hg_G_10 ho_G_10 hP hS => ?_)
  have hc_12 : G_10 k = .inr (2, [.ref (ad (k + 1)), .int (nI sz), .int (nI bx), .ref (ad (k + 2)), .ref (ad (k + 3)), .ref (ad (k + 4)), .ref (ad (k + 5)), .int (nI cn)]) := (ho_G_10 _ (by omega)).trans hc_3
  have hc_13 : G_10 (k + 1) = aJ cT 48 pt := (ho_G_10 _ (by omega)).trans hc_4
  have hc_14 : G_10 (k + 2) = aI cT 96 (va_up w i 112) := (ho_G_10 _ (by omega)).trans hc_5
  have hc_15 : G_10 (k + 3) = aJ cT 96 nu := (ho_G_10 _ (by omega)).trans hc_6
  have hc_16 : G_10 (k + 4) = aI cT 96 (va_up ne i a) := hg_G_10
  have hc_17 : G_10 (k + 5) = aI cT 96 en := (ho_G_10 _ (by omega)).trans hc_8
  have hfr_18 : ∀ j, (j < k ∨ k + 6 ≤ j) → G_10 j = G j := fun j hj => (ho_G_10 j (by omega)).trans (hfr_9 j hj)
  refine lv_aload_n hx hb dX0_putPiece_15 rfl (lv_at hl 0 rfl) ?_
  refine g_get (C := RX0) (T := TX0) (N := 8) hx hb hw inX0 hown hK hP (i := k) (by omega) hc_12 rfl 6 (by decide) (hw _ wf_X0_25) rfl dX0_putPiece_16 ?_
  refine lv_iload_n hx hb dX0_putPiece_19 rfl (lv_at hl 1 rfl) ?_
  refine lv_iload_n hx hb dX0_putPiece_20 rfl (lv_at hl 3 rfl) ?_
  have hbd_20 := up_lt hB8 (i := i) (v := b) (by omega)
  refine g_iast hx hb hK hP hD hS (i := (k + 5)) (by omega) hc_17 (by omega) (by omega) dX0_putPiece_21 (fun G_19 H locs hg_G_19 ho_G_19 hP hS => ?_)
  have hc_21 : G_19 k = .inr (2, [.ref (ad (k + 1)), .int (nI sz), .int (nI bx), .ref (ad (k + 2)), .ref (ad (k + 3)), .ref (ad (k + 4)), .ref (ad (k + 5)), .int (nI cn)]) := (ho_G_19 _ (by omega)).trans hc_12
  have hc_22 : G_19 (k + 1) = aJ cT 48 pt := (ho_G_19 _ (by omega)).trans hc_13
  have hc_23 : G_19 (k + 2) = aI cT 96 (va_up w i 112) := (ho_G_19 _ (by omega)).trans hc_14
  have hc_24 : G_19 (k + 3) = aJ cT 96 nu := (ho_G_19 _ (by omega)).trans hc_15
  have hc_25 : G_19 (k + 4) = aI cT 96 (va_up ne i a) := (ho_G_19 _ (by omega)).trans hc_16
  have hc_26 : G_19 (k + 5) = aI cT 96 (va_up en i b) := hg_G_19
  have hfr_27 : ∀ j, (j < k ∨ k + 6 ≤ j) → G_19 j = G j := fun j hj => (ho_G_19 j (by omega)).trans (hfr_18 j hj)
  refine g_retv hQ hx hb hr hlocks hP hS (⟨rfl, hfr_27, hc_21, hc_22, hc_23, hc_24, hc_25, hc_26, hbd_2, hbd_11, hbd_20⟩) (Nat.le_of_ble_eq_true rfl) (Nat.le_of_ble_eq_true rfl) dX0_putPiece_22

set_option maxHeartbeats 4000000 in
set_option maxRecDepth 100000 in
theorem mX0_putNumber (l : Launch) (D : va_G) (cT : Nat → ClassId) (n : Nat) (ad : Nat → Nat) (A : Nat → Prop) (hD : ∀ G, va_D A (gw n ad G)) (G : Nat → va_E) (k sz cn bx : Nat) (pt : Nat → Int64) (w : Nat → Nat) (nu : Nat → Int64) (ne en : Nat → Nat) (hk : k + 6 ≤ n) (hR : RB cT ad G k sz cn bx pt w nu ne en) (i : Nat) (x : Int64) (hi : i < 96) : Met l yX0_putNumber (wA yX0_putNumber cX0_putNumber 4 none) ({ frames := 0, cells := 0, slots := 0, locals := 0 } : Room) (PG D cT n ad A G [.ref (ad k), .int (nI i), .long x]) (QG D n ad A (fun v G1 => v = none ∧ (∀ j, (j < k ∨ k + 6 ≤ j) → G1 j = G j) ∧ RB cT ad G1 k sz cn bx pt (va_up w i 110) (va_up nu i x) ne en)) 0 0 A := by
  refine Met.ofG (cc := cX0_putNumber) (maxL := 4) (ret := none) (by decide) (Nat.le_of_ble_eq_true rfl) ?_
  intro p e s m args below meth c Q hQ hx hb hr hml hlocks hown hw hP hK hE hA hS ls hl
  have hl : lv_has ls 4 [(0, .ref (ad k)), (1, .int (nI i)), (2, .long x)] := hl
  obtain ⟨hB, hB1, hB2, hB3, hB4, hB5, hB6, hB7, hB8⟩ := hR
  refine lv_aload_n hx hb dX0_putNumber_0 rfl (lv_at hl 0 rfl) ?_
  refine g_get (C := RX0) (T := TX0) (N := 8) hx hb hw inX0 hown hK hP (i := k) (by omega) hB rfl 3 (by decide) (hw _ wf_X0_15) rfl dX0_putNumber_1 ?_
  refine lv_iload_n hx hb dX0_putNumber_4 rfl (lv_at hl 1 rfl) ?_
  refine lv_bipush (v := nI 110) hx hb dX0_putNumber_5 (by decide) ?_
  have hbd_2 := up_lt hB6 (i := i) (v := 110) (by omega)
  refine g_iast hx hb hK hP hD hS (i := (k + 2)) (by omega) hB2 (by omega) (by omega) dX0_putNumber_7 (fun G_1 H locs hg_G_1 ho_G_1 hP hS => ?_)
  have hc_3 : G_1 k = .inr (2, [.ref (ad (k + 1)), .int (nI sz), .int (nI bx), .ref (ad (k + 2)), .ref (ad (k + 3)), .ref (ad (k + 4)), .ref (ad (k + 5)), .int (nI cn)]) := (ho_G_1 _ (by omega)).trans hB
  have hc_4 : G_1 (k + 1) = aJ cT 48 pt := (ho_G_1 _ (by omega)).trans hB1
  have hc_5 : G_1 (k + 2) = aI cT 96 (va_up w i 110) := hg_G_1
  have hc_6 : G_1 (k + 3) = aJ cT 96 nu := (ho_G_1 _ (by omega)).trans hB3
  have hc_7 : G_1 (k + 4) = aI cT 96 ne := (ho_G_1 _ (by omega)).trans hB4
  have hc_8 : G_1 (k + 5) = aI cT 96 en := (ho_G_1 _ (by omega)).trans hB5
  have hfr_9 : ∀ j, (j < k ∨ k + 6 ≤ j) → G_1 j = G j := fun j hj => (ho_G_1 j (by omega)).trans (rfl)
  refine lv_aload_n hx hb dX0_putNumber_8 rfl (lv_at hl 0 rfl) ?_
  refine g_get (C := RX0) (T := TX0) (N := 8) hx hb hw inX0 hown hK hP (i := k) (by omega) hc_3 rfl 4 (by decide) (hw _ wf_X0_19) rfl dX0_putNumber_9 ?_
  refine lv_iload_n hx hb dX0_putNumber_12 rfl (lv_at hl 1 rfl) ?_
  refine lv_lload_n hx hb dX0_putNumber_13 rfl (lv_at hl 2 rfl) ?_
  refine g_last hx hb hK hP hD hS (i := (k + 3)) (by omega) hc_6 (by omega) (by omega) dX0_putNumber_14 (fun G_10 H locs hg_G_10 ho_G_10 hP hS => ?_)
  have hc_11 : G_10 k = .inr (2, [.ref (ad (k + 1)), .int (nI sz), .int (nI bx), .ref (ad (k + 2)), .ref (ad (k + 3)), .ref (ad (k + 4)), .ref (ad (k + 5)), .int (nI cn)]) := (ho_G_10 _ (by omega)).trans hc_3
  have hc_12 : G_10 (k + 1) = aJ cT 48 pt := (ho_G_10 _ (by omega)).trans hc_4
  have hc_13 : G_10 (k + 2) = aI cT 96 (va_up w i 110) := (ho_G_10 _ (by omega)).trans hc_5
  have hc_14 : G_10 (k + 3) = aJ cT 96 (va_up nu i x) := hg_G_10
  have hc_15 : G_10 (k + 4) = aI cT 96 ne := (ho_G_10 _ (by omega)).trans hc_7
  have hc_16 : G_10 (k + 5) = aI cT 96 en := (ho_G_10 _ (by omega)).trans hc_8
  have hfr_17 : ∀ j, (j < k ∨ k + 6 ≤ j) → G_10 j = G j := fun j hj => (ho_G_10 j (by omega)).trans (hfr_9 j hj)
  refine g_retv hQ hx hb hr hlocks hP hS (⟨rfl, hfr_17, hc_11, hc_12, hc_13, hc_14, hc_15, hc_16, hbd_2, hB7, hB8⟩) (Nat.le_of_ble_eq_true rfl) (Nat.le_of_ble_eq_true rfl) dX0_putNumber_15

set_option maxHeartbeats 4000000 in
set_option maxRecDepth 100000 in
theorem mX0_copyItem (l : Launch) (D : va_G) (cT : Nat → ClassId) (n : Nat) (ad : Nat → Nat) (A : Nat → Prop) (hD : ∀ G, va_D A (gw n ad G)) (G : Nat → va_E) (k sz cn bx : Nat) (pt : Nat → Int64) (w : Nat → Nat) (nu : Nat → Int64) (ne en : Nat → Nat) (hk : k + 6 ≤ n) (hR : RB cT ad G k sz cn bx pt w nu ne en) (i j : Nat) (hi : i < 96) (hj : j < 96) : Met l yX0_copyItem (wA yX0_copyItem cX0_copyItem 3 none) ({ frames := 0, cells := 0, slots := 0, locals := 0 } : Room) (PG D cT n ad A G [.ref (ad k), .int (nI i), .int (nI j)]) (QG D n ad A (fun v G1 => v = none ∧ (∀ j, (j < k ∨ k + 6 ≤ j) → G1 j = G j) ∧ RB cT ad G1 k sz cn bx pt (va_up w j (w i)) (va_up nu j (nu i)) (va_up ne j (ne i)) (va_up en j (en i)))) 0 0 A := by
  refine Met.ofG (cc := cX0_copyItem) (maxL := 3) (ret := none) (by decide) (Nat.le_of_ble_eq_true rfl) ?_
  intro p e s m args below meth c Q hQ hx hb hr hml hlocks hown hw hP hK hE hA hS ls hl
  have hl : lv_has ls 3 [(0, .ref (ad k)), (1, .int (nI i)), (2, .int (nI j))] := hl
  obtain ⟨hB, hB1, hB2, hB3, hB4, hB5, hB6, hB7, hB8⟩ := hR
  refine lv_aload_n hx hb dX0_copyItem_0 rfl (lv_at hl 0 rfl) ?_
  refine g_get (C := RX0) (T := TX0) (N := 8) hx hb hw inX0 hown hK hP (i := k) (by omega) hB rfl 3 (by decide) (hw _ wf_X0_15) rfl dX0_copyItem_1 ?_
  refine lv_iload_n hx hb dX0_copyItem_4 rfl (lv_at hl 2 rfl) ?_
  refine lv_aload_n hx hb dX0_copyItem_5 rfl (lv_at hl 0 rfl) ?_
  refine g_get (C := RX0) (T := TX0) (N := 8) hx hb hw inX0 hown hK hP (i := k) (by omega) hB rfl 3 (by decide) (hw _ wf_X0_15) rfl dX0_copyItem_6 ?_
  refine lv_iload_n hx hb dX0_copyItem_9 rfl (lv_at hl 1 rfl) ?_
  refine g_iald hx hb hK hP (i := (k + 2)) (by omega) hB2 (by omega) (by omega) dX0_copyItem_10 ?_
  have hbd_1 := hB6 i
  have hbd_3 := up_lt hB6 (i := j) (v := (w i)) (by omega)
  refine g_iast hx hb hK hP hD hS (i := (k + 2)) (by omega) hB2 (by omega) (by omega) dX0_copyItem_11 (fun G_2 H locs hg_G_2 ho_G_2 hP hS => ?_)
  have hc_4 : G_2 k = .inr (2, [.ref (ad (k + 1)), .int (nI sz), .int (nI bx), .ref (ad (k + 2)), .ref (ad (k + 3)), .ref (ad (k + 4)), .ref (ad (k + 5)), .int (nI cn)]) := (ho_G_2 _ (by omega)).trans hB
  have hc_5 : G_2 (k + 1) = aJ cT 48 pt := (ho_G_2 _ (by omega)).trans hB1
  have hc_6 : G_2 (k + 2) = aI cT 96 (va_up w j (w i)) := hg_G_2
  have hc_7 : G_2 (k + 3) = aJ cT 96 nu := (ho_G_2 _ (by omega)).trans hB3
  have hc_8 : G_2 (k + 4) = aI cT 96 ne := (ho_G_2 _ (by omega)).trans hB4
  have hc_9 : G_2 (k + 5) = aI cT 96 en := (ho_G_2 _ (by omega)).trans hB5
  have hfr_10 : ∀ j, (j < k ∨ k + 6 ≤ j) → G_2 j = G j := fun j hj => (ho_G_2 j (by omega)).trans (rfl)
  refine lv_aload_n hx hb dX0_copyItem_12 rfl (lv_at hl 0 rfl) ?_
  refine g_get (C := RX0) (T := TX0) (N := 8) hx hb hw inX0 hown hK hP (i := k) (by omega) hc_4 rfl 4 (by decide) (hw _ wf_X0_19) rfl dX0_copyItem_13 ?_
  refine lv_iload_n hx hb dX0_copyItem_16 rfl (lv_at hl 2 rfl) ?_
  refine lv_aload_n hx hb dX0_copyItem_17 rfl (lv_at hl 0 rfl) ?_
  refine g_get (C := RX0) (T := TX0) (N := 8) hx hb hw inX0 hown hK hP (i := k) (by omega) hc_4 rfl 4 (by decide) (hw _ wf_X0_19) rfl dX0_copyItem_18 ?_
  refine lv_iload_n hx hb dX0_copyItem_21 rfl (lv_at hl 1 rfl) ?_
  refine g_lald hx hb hK hP (i := (k + 3)) (by omega) hc_7 (by omega) (by omega) dX0_copyItem_22 ?_
  refine g_last hx hb hK hP hD hS (i := (k + 3)) (by omega) hc_7 (by omega) (by omega) dX0_copyItem_23 (fun G_11 H locs hg_G_11 ho_G_11 hP hS => ?_)
  have hc_12 : G_11 k = .inr (2, [.ref (ad (k + 1)), .int (nI sz), .int (nI bx), .ref (ad (k + 2)), .ref (ad (k + 3)), .ref (ad (k + 4)), .ref (ad (k + 5)), .int (nI cn)]) := (ho_G_11 _ (by omega)).trans hc_4
  have hc_13 : G_11 (k + 1) = aJ cT 48 pt := (ho_G_11 _ (by omega)).trans hc_5
  have hc_14 : G_11 (k + 2) = aI cT 96 (va_up w j (w i)) := (ho_G_11 _ (by omega)).trans hc_6
  have hc_15 : G_11 (k + 3) = aJ cT 96 (va_up nu j (nu i)) := hg_G_11
  have hc_16 : G_11 (k + 4) = aI cT 96 ne := (ho_G_11 _ (by omega)).trans hc_8
  have hc_17 : G_11 (k + 5) = aI cT 96 en := (ho_G_11 _ (by omega)).trans hc_9
  have hfr_18 : ∀ j, (j < k ∨ k + 6 ≤ j) → G_11 j = G j := fun j hj => (ho_G_11 j (by omega)).trans (hfr_10 j hj)
  refine lv_aload_n hx hb dX0_copyItem_24 rfl (lv_at hl 0 rfl) ?_
  refine g_get (C := RX0) (T := TX0) (N := 8) hx hb hw inX0 hown hK hP (i := k) (by omega) hc_12 rfl 5 (by decide) (hw _ wf_X0_22) rfl dX0_copyItem_25 ?_
  refine lv_iload_n hx hb dX0_copyItem_28 rfl (lv_at hl 2 rfl) ?_
  refine lv_aload_n hx hb dX0_copyItem_29 rfl (lv_at hl 0 rfl) ?_
  refine g_get (C := RX0) (T := TX0) (N := 8) hx hb hw inX0 hown hK hP (i := k) (by omega) hc_12 rfl 5 (by decide) (hw _ wf_X0_22) rfl dX0_copyItem_30 ?_
  refine lv_iload_n hx hb dX0_copyItem_33 rfl (lv_at hl 1 rfl) ?_
  refine g_iald hx hb hK hP (i := (k + 4)) (by omega) hc_16 (by omega) (by omega) dX0_copyItem_34 ?_
  have hbd_19 := hB7 i
  have hbd_21 := up_lt hB7 (i := j) (v := (ne i)) (by omega)
  refine g_iast hx hb hK hP hD hS (i := (k + 4)) (by omega) hc_16 (by omega) (by omega) dX0_copyItem_35 (fun G_20 H locs hg_G_20 ho_G_20 hP hS => ?_)
  have hc_22 : G_20 k = .inr (2, [.ref (ad (k + 1)), .int (nI sz), .int (nI bx), .ref (ad (k + 2)), .ref (ad (k + 3)), .ref (ad (k + 4)), .ref (ad (k + 5)), .int (nI cn)]) := (ho_G_20 _ (by omega)).trans hc_12
  have hc_23 : G_20 (k + 1) = aJ cT 48 pt := (ho_G_20 _ (by omega)).trans hc_13
  have hc_24 : G_20 (k + 2) = aI cT 96 (va_up w j (w i)) := (ho_G_20 _ (by omega)).trans hc_14
  have hc_25 : G_20 (k + 3) = aJ cT 96 (va_up nu j (nu i)) := (ho_G_20 _ (by omega)).trans hc_15
  have hc_26 : G_20 (k + 4) = aI cT 96 (va_up ne j (ne i)) := hg_G_20
  have hc_27 : G_20 (k + 5) = aI cT 96 en := (ho_G_20 _ (by omega)).trans hc_17
  have hfr_28 : ∀ j, (j < k ∨ k + 6 ≤ j) → G_20 j = G j := fun j hj => (ho_G_20 j (by omega)).trans (hfr_18 j hj)
  refine lv_aload_n hx hb dX0_copyItem_36 rfl (lv_at hl 0 rfl) ?_
  refine g_get (C := RX0) (T := TX0) (N := 8) hx hb hw inX0 hown hK hP (i := k) (by omega) hc_22 rfl 6 (by decide) (hw _ wf_X0_25) rfl dX0_copyItem_37 ?_
  refine lv_iload_n hx hb dX0_copyItem_40 rfl (lv_at hl 2 rfl) ?_
  refine lv_aload_n hx hb dX0_copyItem_41 rfl (lv_at hl 0 rfl) ?_
  refine g_get (C := RX0) (T := TX0) (N := 8) hx hb hw inX0 hown hK hP (i := k) (by omega) hc_22 rfl 6 (by decide) (hw _ wf_X0_25) rfl dX0_copyItem_42 ?_
  refine lv_iload_n hx hb dX0_copyItem_45 rfl (lv_at hl 1 rfl) ?_
  refine g_iald hx hb hK hP (i := (k + 5)) (by omega) hc_27 (by omega) (by omega) dX0_copyItem_46 ?_
  have hbd_29 := hB8 i
  have hbd_31 := up_lt hB8 (i := j) (v := (en i)) (by omega)
  refine g_iast hx hb hK hP hD hS (i := (k + 5)) (by omega) hc_27 (by omega) (by omega) dX0_copyItem_47 (fun G_30 H locs hg_G_30 ho_G_30 hP hS => ?_)
  have hc_32 : G_30 k = .inr (2, [.ref (ad (k + 1)), .int (nI sz), .int (nI bx), .ref (ad (k + 2)), .ref (ad (k + 3)), .ref (ad (k + 4)), .ref (ad (k + 5)), .int (nI cn)]) := (ho_G_30 _ (by omega)).trans hc_22
  have hc_33 : G_30 (k + 1) = aJ cT 48 pt := (ho_G_30 _ (by omega)).trans hc_23
  have hc_34 : G_30 (k + 2) = aI cT 96 (va_up w j (w i)) := (ho_G_30 _ (by omega)).trans hc_24
  have hc_35 : G_30 (k + 3) = aJ cT 96 (va_up nu j (nu i)) := (ho_G_30 _ (by omega)).trans hc_25
  have hc_36 : G_30 (k + 4) = aI cT 96 (va_up ne j (ne i)) := (ho_G_30 _ (by omega)).trans hc_26
  have hc_37 : G_30 (k + 5) = aI cT 96 (va_up en j (en i)) := hg_G_30
  have hfr_38 : ∀ j, (j < k ∨ k + 6 ≤ j) → G_30 j = G j := fun j hj => (ho_G_30 j (by omega)).trans (hfr_28 j hj)
  refine g_retv hQ hx hb hr hlocks hP hS (⟨rfl, hfr_38, hc_32, hc_33, hc_34, hc_35, hc_36, hc_37, hbd_3, hbd_21, hbd_31⟩) (Nat.le_of_ble_eq_true rfl) (Nat.le_of_ble_eq_true rfl) dX0_copyItem_48
end
section
set_option maxHeartbeats 4000000 in
set_option maxRecDepth 100000 in
theorem mX0_makeRoom (l : Launch) (D : va_G) (cT : Nat → ClassId) (n : Nat) (ad : Nat → Nat) (A : Nat → Prop) (hD : ∀ G, va_D A (gw n ad G)) (G : Nat → va_E) (k sz cn bx : Nat) (pt : Nat → Int64) (w : Nat → Nat) (nu : Nat → Int64) (ne en : Nat → Nat) (hk : k + 6 ≤ n) (hR : RB cT ad G k sz cn bx pt w nu ne en) (i q : Nat) (hi : i ≤ cn) (hq : cn + q ≤ 96) : Met l yX0_makeRoom (wA yX0_makeRoom cX0_makeRoom 4 (some .boolean)) ({ frames := 1, cells := 0, slots := 0, locals := 40 } : Room) (PG D cT n ad A G [.ref (ad k), .int (nI i), .int (nI q)]) (QG D n ad A (fun v G1 => v = some (.int 1) ∧ (∀ j, (j < k ∨ k + 6 ≤ j) → G1 j = G j) ∧ RB cT ad G1 k sz (cn + q) bx pt (va_cpy w w i (i + q) (cn - i)) (va_cpy nu nu i (i + q) (cn - i)) (va_cpy ne ne i (i + q) (cn - i)) (va_cpy en en i (i + q) (cn - i)))) 0 0 A := by
  refine Met.ofG (cc := cX0_makeRoom) (maxL := 4) (ret := (some .boolean)) (by decide) (Nat.le_of_ble_eq_true rfl) ?_
  intro p e s m args below meth c Q hQ hx hb hr hml hlocks hown hw hP hK hE hA hS ls hl
  have hl : lv_has ls 4 [(0, .ref (ad k)), (1, .int (nI i)), (2, .int (nI q))] := hl
  obtain ⟨hB, hB1, hB2, hB3, hB4, hB5, hB6, hB7, hB8⟩ := hR
  refine lv_aload_n hx hb dX0_makeRoom_0 rfl (lv_at hl 0 rfl) ?_
  refine g_get (C := RX0) (T := TX0) (N := 8) hx hb hw inX0 hown hK hP (i := k) (by omega) hB rfl 7 (by decide) (hw _ wf_X0_46) rfl dX0_makeRoom_1 ?_
  refine lv_iload_n hx hb dX0_makeRoom_4 rfl (lv_at hl 1 rfl) ?_
  refine lv_isub hx hb dX0_makeRoom_5 ?_
  refine t_eqi (nI (cn - i)) (pk_sub (by omega)) ?_
  refine lv_istore_n (lv' := [(3, .int (nI (cn - i))), (0, .ref (ad k)), (1, .int (nI i)), (2, .int (nI q))]) hx hb dX0_makeRoom_6 rfl hl (by decide) rfl (fun ls hl => ?_)
  refine lv_iload_n hx hb dX0_makeRoom_7 rfl (lv_at hl 2 rfl) ?_
  refine t_if_lt (tgt := 30) hx hb dX0_makeRoom_8 (by decide) (by omega) ?_
  refine lv_iload_n hx hb dX0_makeRoom_11 rfl (lv_at hl 3 rfl) ?_
  refine t_if_lt (tgt := 30) hx hb dX0_makeRoom_12 (by decide) (by omega) ?_
  refine lv_iload_n hx hb dX0_makeRoom_15 rfl (lv_at hl 0 rfl) ?_
  refine t_if_lt (tgt := 30) hx hb dX0_makeRoom_16 (by decide) (by omega) ?_
  refine lv_aload_n hx hb dX0_makeRoom_19 rfl (lv_at hl 1 rfl) ?_
  refine g_get (C := RX0) (T := TX0) (N := 8) hx hb hw inX0 hown hK hP (i := k) (by omega) hB rfl 7 (by decide) (hw _ wf_X0_46) rfl dX0_makeRoom_20 ?_
  refine lv_iload_n hx hb dX0_makeRoom_23 rfl (lv_at hl 3 rfl) ?_
  refine lv_iadd hx hb dX0_makeRoom_24 ?_
  refine t_eqi (nI (cn + q)) (nI_add cn q) ?_
  refine lv_bipush (v := nI 96) hx hb dX0_makeRoom_25 (by decide) ?_
  refine t_icmp_le (tgt := 32) hx hb dX0_makeRoom_27 (by decide) (by omega) (by omega) (fun c_4 => ?_) (fun c_4 => ?_)
  · skip
    refine lv_aload_n hx hb dX0_makeRoom_32 rfl (lv_at hl 1 rfl) ?_
    refine g_get (C := RX0) (T := TX0) (N := 8) hx hb hw inX0 hown hK hP (i := k) (by omega) hB rfl 3 (by decide) (hw _ wf_X0_15) rfl dX0_makeRoom_33 ?_
    refine lv_iload_n hx hb dX0_makeRoom_36 rfl (lv_at hl 2 rfl) ?_
    refine lv_aload_n hx hb dX0_makeRoom_37 rfl (lv_at hl 1 rfl) ?_
    refine g_get (C := RX0) (T := TX0) (N := 8) hx hb hw inX0 hown hK hP (i := k) (by omega) hB rfl 3 (by decide) (hw _ wf_X0_15) rfl dX0_makeRoom_38 ?_
    refine lv_iload_n hx hb dX0_makeRoom_41 rfl (lv_at hl 2 rfl) ?_
    refine lv_iload_n hx hb dX0_makeRoom_42 rfl (lv_at hl 3 rfl) ?_
    refine lv_iadd hx hb dX0_makeRoom_43 ?_
    refine t_eqi (nI (i + q)) (nI_add i q) ?_
    refine lv_iload_n hx hb dX0_makeRoom_44 rfl (lv_at hl 0 rfl) ?_
    have hbd_6 := cpy_lt hB6 (sp := i) (dp := (i + q)) (k := (cn - i))
    refine g_copyi hx hb (hml.trans hl.1.symm) hown (hw _ wm_X0_103) (hw _ wnat_arraycopy) (hw _ wst_arraycopy) (hw _ wini_J10) hK hP hD hS (i := (k + 2)) (by omega) hB2 (sp := i) (dp := (i + q)) (k := (cn - i)) (by omega) (by omega) (by omega) (Nat.le_of_ble_eq_true rfl) (Nat.le_of_ble_eq_true rfl) dX0_makeRoom_45 (fun G_5 H locs hg_G_5 ho_G_5 hP hS => ?_)
    have hc_7 : G_5 k = .inr (2, [.ref (ad (k + 1)), .int (nI sz), .int (nI bx), .ref (ad (k + 2)), .ref (ad (k + 3)), .ref (ad (k + 4)), .ref (ad (k + 5)), .int (nI cn)]) := (ho_G_5 _ (by omega)).trans hB
    have hc_8 : G_5 (k + 1) = aJ cT 48 pt := (ho_G_5 _ (by omega)).trans hB1
    have hc_9 : G_5 (k + 2) = aI cT 96 (va_cpy w w i (i + q) (cn - i)) := hg_G_5
    have hc_10 : G_5 (k + 3) = aJ cT 96 nu := (ho_G_5 _ (by omega)).trans hB3
    have hc_11 : G_5 (k + 4) = aI cT 96 ne := (ho_G_5 _ (by omega)).trans hB4
    have hc_12 : G_5 (k + 5) = aI cT 96 en := (ho_G_5 _ (by omega)).trans hB5
    have hfr_13 : ∀ j, (j < k ∨ k + 6 ≤ j) → G_5 j = G j := fun j hj => (ho_G_5 j (by omega)).trans (rfl)
    refine lv_aload_n hx hb dX0_makeRoom_48 rfl (lv_at hl 1 rfl) ?_
    refine g_get (C := RX0) (T := TX0) (N := 8) hx hb hw inX0 hown hK hP (i := k) (by omega) hc_7 rfl 4 (by decide) (hw _ wf_X0_19) rfl dX0_makeRoom_49 ?_
    refine lv_iload_n hx hb dX0_makeRoom_52 rfl (lv_at hl 2 rfl) ?_
    refine lv_aload_n hx hb dX0_makeRoom_53 rfl (lv_at hl 1 rfl) ?_
    refine g_get (C := RX0) (T := TX0) (N := 8) hx hb hw inX0 hown hK hP (i := k) (by omega) hc_7 rfl 4 (by decide) (hw _ wf_X0_19) rfl dX0_makeRoom_54 ?_
    refine lv_iload_n hx hb dX0_makeRoom_57 rfl (lv_at hl 2 rfl) ?_
    refine lv_iload_n hx hb dX0_makeRoom_58 rfl (lv_at hl 3 rfl) ?_
    refine lv_iadd hx hb dX0_makeRoom_59 ?_
    refine t_eqi (nI (i + q)) (nI_add i q) ?_
    refine lv_iload_n hx hb dX0_makeRoom_60 rfl (lv_at hl 0 rfl) ?_
    refine g_copyl hx hb (hml.trans hl.1.symm) hown (hw _ wm_X0_103) (hw _ wnat_arraycopy) (hw _ wst_arraycopy) (hw _ wini_J10) hK hP hD hS (i := (k + 3)) (by omega) hc_10 (sp := i) (dp := (i + q)) (k := (cn - i)) (by omega) (by omega) (by omega) (Nat.le_of_ble_eq_true rfl) (Nat.le_of_ble_eq_true rfl) dX0_makeRoom_61 (fun G_14 H locs hg_G_14 ho_G_14 hP hS => ?_)
    have hc_15 : G_14 k = .inr (2, [.ref (ad (k + 1)), .int (nI sz), .int (nI bx), .ref (ad (k + 2)), .ref (ad (k + 3)), .ref (ad (k + 4)), .ref (ad (k + 5)), .int (nI cn)]) := (ho_G_14 _ (by omega)).trans hc_7
    have hc_16 : G_14 (k + 1) = aJ cT 48 pt := (ho_G_14 _ (by omega)).trans hc_8
    have hc_17 : G_14 (k + 2) = aI cT 96 (va_cpy w w i (i + q) (cn - i)) := (ho_G_14 _ (by omega)).trans hc_9
    have hc_18 : G_14 (k + 3) = aJ cT 96 (va_cpy nu nu i (i + q) (cn - i)) := hg_G_14
    have hc_19 : G_14 (k + 4) = aI cT 96 ne := (ho_G_14 _ (by omega)).trans hc_11
    have hc_20 : G_14 (k + 5) = aI cT 96 en := (ho_G_14 _ (by omega)).trans hc_12
    have hfr_21 : ∀ j, (j < k ∨ k + 6 ≤ j) → G_14 j = G j := fun j hj => (ho_G_14 j (by omega)).trans (hfr_13 j hj)
    refine lv_aload_n hx hb dX0_makeRoom_64 rfl (lv_at hl 1 rfl) ?_
    refine g_get (C := RX0) (T := TX0) (N := 8) hx hb hw inX0 hown hK hP (i := k) (by omega) hc_15 rfl 5 (by decide) (hw _ wf_X0_22) rfl dX0_makeRoom_65 ?_
    refine lv_iload_n hx hb dX0_makeRoom_68 rfl (lv_at hl 2 rfl) ?_
    refine lv_aload_n hx hb dX0_makeRoom_69 rfl (lv_at hl 1 rfl) ?_
    refine g_get (C := RX0) (T := TX0) (N := 8) hx hb hw inX0 hown hK hP (i := k) (by omega) hc_15 rfl 5 (by decide) (hw _ wf_X0_22) rfl dX0_makeRoom_70 ?_
    refine lv_iload_n hx hb dX0_makeRoom_73 rfl (lv_at hl 2 rfl) ?_
    refine lv_iload_n hx hb dX0_makeRoom_74 rfl (lv_at hl 3 rfl) ?_
    refine lv_iadd hx hb dX0_makeRoom_75 ?_
    refine t_eqi (nI (i + q)) (nI_add i q) ?_
    refine lv_iload_n hx hb dX0_makeRoom_76 rfl (lv_at hl 0 rfl) ?_
    have hbd_23 := cpy_lt hB7 (sp := i) (dp := (i + q)) (k := (cn - i))
    refine g_copyi hx hb (hml.trans hl.1.symm) hown (hw _ wm_X0_103) (hw _ wnat_arraycopy) (hw _ wst_arraycopy) (hw _ wini_J10) hK hP hD hS (i := (k + 4)) (by omega) hc_19 (sp := i) (dp := (i + q)) (k := (cn - i)) (by omega) (by omega) (by omega) (Nat.le_of_ble_eq_true rfl) (Nat.le_of_ble_eq_true rfl) dX0_makeRoom_77 (fun G_22 H locs hg_G_22 ho_G_22 hP hS => ?_)
    have hc_24 : G_22 k = .inr (2, [.ref (ad (k + 1)), .int (nI sz), .int (nI bx), .ref (ad (k + 2)), .ref (ad (k + 3)), .ref (ad (k + 4)), .ref (ad (k + 5)), .int (nI cn)]) := (ho_G_22 _ (by omega)).trans hc_15
    have hc_25 : G_22 (k + 1) = aJ cT 48 pt := (ho_G_22 _ (by omega)).trans hc_16
    have hc_26 : G_22 (k + 2) = aI cT 96 (va_cpy w w i (i + q) (cn - i)) := (ho_G_22 _ (by omega)).trans hc_17
    have hc_27 : G_22 (k + 3) = aJ cT 96 (va_cpy nu nu i (i + q) (cn - i)) := (ho_G_22 _ (by omega)).trans hc_18
    have hc_28 : G_22 (k + 4) = aI cT 96 (va_cpy ne ne i (i + q) (cn - i)) := hg_G_22
    have hc_29 : G_22 (k + 5) = aI cT 96 en := (ho_G_22 _ (by omega)).trans hc_20
    have hfr_30 : ∀ j, (j < k ∨ k + 6 ≤ j) → G_22 j = G j := fun j hj => (ho_G_22 j (by omega)).trans (hfr_21 j hj)
    refine lv_aload_n hx hb dX0_makeRoom_80 rfl (lv_at hl 1 rfl) ?_
    refine g_get (C := RX0) (T := TX0) (N := 8) hx hb hw inX0 hown hK hP (i := k) (by omega) hc_24 rfl 6 (by decide) (hw _ wf_X0_25) rfl dX0_makeRoom_81 ?_
    refine lv_iload_n hx hb dX0_makeRoom_84 rfl (lv_at hl 2 rfl) ?_
    refine lv_aload_n hx hb dX0_makeRoom_85 rfl (lv_at hl 1 rfl) ?_
    refine g_get (C := RX0) (T := TX0) (N := 8) hx hb hw inX0 hown hK hP (i := k) (by omega) hc_24 rfl 6 (by decide) (hw _ wf_X0_25) rfl dX0_makeRoom_86 ?_
    refine lv_iload_n hx hb dX0_makeRoom_89 rfl (lv_at hl 2 rfl) ?_
    refine lv_iload_n hx hb dX0_makeRoom_90 rfl (lv_at hl 3 rfl) ?_
    refine lv_iadd hx hb dX0_makeRoom_91 ?_
    refine t_eqi (nI (i + q)) (nI_add i q) ?_
    refine lv_iload_n hx hb dX0_makeRoom_92 rfl (lv_at hl 0 rfl) ?_
    have hbd_32 := cpy_lt hB8 (sp := i) (dp := (i + q)) (k := (cn - i))
    refine g_copyi hx hb (hml.trans hl.1.symm) hown (hw _ wm_X0_103) (hw _ wnat_arraycopy) (hw _ wst_arraycopy) (hw _ wini_J10) hK hP hD hS (i := (k + 5)) (by omega) hc_29 (sp := i) (dp := (i + q)) (k := (cn - i)) (by omega) (by omega) (by omega) (Nat.le_of_ble_eq_true rfl) (Nat.le_of_ble_eq_true rfl) dX0_makeRoom_93 (fun G_31 H locs hg_G_31 ho_G_31 hP hS => ?_)
    have hc_33 : G_31 k = .inr (2, [.ref (ad (k + 1)), .int (nI sz), .int (nI bx), .ref (ad (k + 2)), .ref (ad (k + 3)), .ref (ad (k + 4)), .ref (ad (k + 5)), .int (nI cn)]) := (ho_G_31 _ (by omega)).trans hc_24
    have hc_34 : G_31 (k + 1) = aJ cT 48 pt := (ho_G_31 _ (by omega)).trans hc_25
    have hc_35 : G_31 (k + 2) = aI cT 96 (va_cpy w w i (i + q) (cn - i)) := (ho_G_31 _ (by omega)).trans hc_26
    have hc_36 : G_31 (k + 3) = aJ cT 96 (va_cpy nu nu i (i + q) (cn - i)) := (ho_G_31 _ (by omega)).trans hc_27
    have hc_37 : G_31 (k + 4) = aI cT 96 (va_cpy ne ne i (i + q) (cn - i)) := (ho_G_31 _ (by omega)).trans hc_28
    have hc_38 : G_31 (k + 5) = aI cT 96 (va_cpy en en i (i + q) (cn - i)) := hg_G_31
    have hfr_39 : ∀ j, (j < k ∨ k + 6 ≤ j) → G_31 j = G j := fun j hj => (ho_G_31 j (by omega)).trans (hfr_30 j hj)
    refine lv_aload_n hx hb dX0_makeRoom_96 rfl (lv_at hl 1 rfl) ?_
    refine lv_dup hx hb dX0_makeRoom_97 rfl ?_
    refine g_get (C := RX0) (T := TX0) (N := 8) hx hb hw inX0 hown hK hP (i := k) (by omega) hc_33 rfl 7 (by decide) (hw _ wf_X0_46) rfl dX0_makeRoom_98 ?_
    refine lv_iload_n hx hb dX0_makeRoom_101 rfl (lv_at hl 3 rfl) ?_
    refine lv_iadd hx hb dX0_makeRoom_102 ?_
    refine t_eqi (nI (cn + q)) (nI_add cn q) ?_
    refine g_put (C := RX0) (T := TX0) (N := 8) hx hb hw inX0 tyX0 tyX0_ok nmX0 hown hK hP hD hS (i := k) (by omega) hc_33 rfl 7 (by decide) (hw _ wf_X0_46) rfl (tyX0_ok 7 (by decide)) rfl rfl (Nat.le_of_ble_eq_true rfl) dX0_makeRoom_103 (fun G_40 H locs hg_G_40 ho_G_40 hP hS => ?_)
    have hc_41 : G_40 k = .inr (2, [.ref (ad (k + 1)), .int (nI sz), .int (nI bx), .ref (ad (k + 2)), .ref (ad (k + 3)), .ref (ad (k + 4)), .ref (ad (k + 5)), .int (nI (cn + q))]) := hg_G_40
    have hc_42 : G_40 (k + 1) = aJ cT 48 pt := (ho_G_40 _ (by omega)).trans hc_34
    have hc_43 : G_40 (k + 2) = aI cT 96 (va_cpy w w i (i + q) (cn - i)) := (ho_G_40 _ (by omega)).trans hc_35
    have hc_44 : G_40 (k + 3) = aJ cT 96 (va_cpy nu nu i (i + q) (cn - i)) := (ho_G_40 _ (by omega)).trans hc_36
    have hc_45 : G_40 (k + 4) = aI cT 96 (va_cpy ne ne i (i + q) (cn - i)) := (ho_G_40 _ (by omega)).trans hc_37
    have hc_46 : G_40 (k + 5) = aI cT 96 (va_cpy en en i (i + q) (cn - i)) := (ho_G_40 _ (by omega)).trans hc_38
    have hfr_47 : ∀ j, (j < k ∨ k + 6 ≤ j) → G_40 j = G j := fun j hj => (ho_G_40 j (by omega)).trans (hfr_39 j hj)
    refine lv_iconst (v := nI 1) hx hb dX0_makeRoom_106 (by decide) ?_
    refine g_ret hQ hx hb hr hlocks rfl hP hS (⟨rfl, hfr_47, hc_41, hc_42, hc_43, hc_44, hc_45, hc_46, hbd_6, hbd_23, hbd_32⟩) (Nat.le_of_ble_eq_true rfl) (Nat.le_of_ble_eq_true rfl) dX0_makeRoom_107
  · exfalso; omega

set_option maxHeartbeats 4000000 in
set_option maxRecDepth 100000 in
theorem mX0_hasAll (l : Launch) (D : va_G) (cT : Nat → ClassId) (n : Nat) (ad : Nat → Nat) (A : Nat → Prop) (hD : ∀ G, va_D A (gw n ad G)) (G : Nat → va_E) (k sz cn bx : Nat) (pt : Nat → Int64) (w : Nat → Nat) (nu : Nat → Int64) (ne en : Nat → Nat) (hk : k + 6 ≤ n) (hR : RB cT ad G k sz cn bx pt w nu ne en) (i a : Nat) (hi : i < 96) (ha0 : 0 < a) (ha1 : a < 65536) (ha : nI 17488 &&& nI a = nI a) : Met l yX0_hasAll (wA yX0_hasAll cX0_hasAll 4 (some .boolean)) ({ frames := 0, cells := 0, slots := 0, locals := 0 } : Room) (PG D cT n ad A G [.ref (ad k), .int (nI i), .int (nI a)]) (QG D n ad A (fun v G1 => v = some (.int (if w i = 112 then 1 else 0)) ∧ G1 = G)) 0 0 A := by
  refine Met.ofG (cc := cX0_hasAll) (maxL := 4) (ret := (some .boolean)) (by decide) (Nat.le_of_ble_eq_true rfl) ?_
  intro p e s m args below meth c Q hQ hx hb hr hml hlocks hown hw hP hK hE hA hS ls hl
  have hl : lv_has ls 4 [(0, .ref (ad k)), (1, .int (nI i)), (2, .int (nI a))] := hl
  obtain ⟨hB, hB1, hB2, hB3, hB4, hB5, hB6, hB7, hB8⟩ := hR
  refine lv_aload_n hx hb dX0_hasAll_0 rfl (lv_at hl 0 rfl) ?_
  refine g_get (C := RX0) (T := TX0) (N := 8) hx hb hw inX0 hown hK hP (i := k) (by omega) hB rfl 3 (by decide) (hw _ wf_X0_15) rfl dX0_hasAll_1 ?_
  refine lv_iload_n hx hb dX0_hasAll_4 rfl (lv_at hl 1 rfl) ?_
  refine g_iald hx hb hK hP (i := (k + 2)) (by omega) hB2 (by omega) (by omega) dX0_hasAll_5 ?_
  have hbd_1 := hB6 i
  refine lv_bipush (v := nI 112) hx hb dX0_hasAll_6 (by decide) ?_
  refine t_icmp_ne (tgt := 17) hx hb dX0_hasAll_8 (by decide) (by omega) (by omega) (fun c_2 => ?_) (fun c_2 => ?_)
  · skip
    refine lv_iconst (v := nI 0) hx hb dX0_hasAll_17 (by decide) ?_
    refine lv_istore_n (lv' := [(3, .int (nI 0)), (0, .ref (ad k)), (1, .int (nI i)), (2, .int (nI a))]) hx hb dX0_hasAll_18 rfl hl (by decide) rfl (fun ls hl => ?_)
    refine lv_iload_n hx hb dX0_hasAll_19 rfl (lv_at hl 0 rfl) ?_
    refine lv_iload_n hx hb dX0_hasAll_20 rfl (lv_at hl 3 rfl) ?_
    refine lv_iand hx hb dX0_hasAll_21 ?_
    refine t_eqi (nI 0) (and0 _) ?_
    refine lv_iload_n hx hb dX0_hasAll_22 rfl (lv_at hl 3 rfl) ?_
    refine t_icmp_ne (tgt := 30) hx hb dX0_hasAll_23 (by decide) (by omega) (by omega) (fun c_3 => ?_) (fun c_3 => ?_)
    · skip
      refine lv_iconst (v := nI 0) hx hb dX0_hasAll_30 (by decide) ?_
      refine g_ret hQ hx hb hr hlocks rfl hP hS (⟨by rw [if_neg (by omega)]; rfl, rfl⟩) (Nat.le_of_ble_eq_true rfl) (Nat.le_of_ble_eq_true rfl) dX0_hasAll_31
    · skip
      refine lv_iconst (v := nI 1) hx hb dX0_hasAll_26 (by decide) ?_
      refine lv_goto (tgt := 31) hx hb dX0_hasAll_27 (by decide) ?_
      refine g_ret hQ hx hb hr hlocks rfl hP hS (⟨by rw [if_pos (by omega)]; rfl, rfl⟩) (Nat.le_of_ble_eq_true rfl) (Nat.le_of_ble_eq_true rfl) dX0_hasAll_31
  · skip
    refine lv_sipush (v := nI 17488) hx hb dX0_hasAll_11 (by decide) ?_
    refine lv_goto (tgt := 18) hx hb dX0_hasAll_14 (by decide) ?_
    refine lv_istore_n (lv' := [(3, .int (nI 17488)), (0, .ref (ad k)), (1, .int (nI i)), (2, .int (nI a))]) hx hb dX0_hasAll_18 rfl hl (by decide) rfl (fun ls hl => ?_)
    refine lv_iload_n hx hb dX0_hasAll_19 rfl (lv_at hl 0 rfl) ?_
    refine lv_iload_n hx hb dX0_hasAll_20 rfl (lv_at hl 3 rfl) ?_
    refine lv_iand hx hb dX0_hasAll_21 ?_
    refine t_eqi (nI a) (ha) ?_
    refine lv_iload_n hx hb dX0_hasAll_22 rfl (lv_at hl 3 rfl) ?_
    refine t_icmp_ne (tgt := 30) hx hb dX0_hasAll_23 (by decide) (by omega) (by omega) (fun c_4 => ?_) (fun c_4 => ?_)
    · skip
      refine lv_iconst (v := nI 0) hx hb dX0_hasAll_30 (by decide) ?_
      refine g_ret hQ hx hb hr hlocks rfl hP hS (⟨by rw [if_neg (by omega)]; rfl, rfl⟩) (Nat.le_of_ble_eq_true rfl) (Nat.le_of_ble_eq_true rfl) dX0_hasAll_31
    · skip
      refine lv_iconst (v := nI 1) hx hb dX0_hasAll_26 (by decide) ?_
      refine lv_goto (tgt := 31) hx hb dX0_hasAll_27 (by decide) ?_
      refine g_ret hQ hx hb hr hlocks rfl hP hS (⟨by rw [if_pos (by omega)]; rfl, rfl⟩) (Nat.le_of_ble_eq_true rfl) (Nat.le_of_ble_eq_true rfl) dX0_hasAll_31

set_option maxHeartbeats 4000000 in
set_option maxRecDepth 100000 in
theorem mX0_isTooLong (l : Launch) (D : va_G) (cT : Nat → ClassId) (n : Nat) (ad : Nat → Nat) (A : Nat → Prop) (hD : ∀ G, va_D A (gw n ad G)) (G : Nat → va_E) (k sz cn bx : Nat) (pt : Nat → Int64) (w : Nat → Nat) (nu : Nat → Int64) (ne en : Nat → Nat) (hk : k + 6 ≤ n) (hR : RB cT ad G k sz cn bx pt w nu ne en) (i q : Nat) (hi : i < 96) (hq : q < 2 ^ 31) (hne : w i ≠ 110 → ne i ≤ en i) : Met l yX0_isTooLong (wA yX0_isTooLong cX0_isTooLong 3 (some .boolean)) ({ frames := 2, cells := 0, slots := 0, locals := 42 } : Room) (PG D cT n ad A G [.ref (ad k), .int (nI i), .int (nI q)]) (QG D n ad A (fun v G1 => v = some (.int (if w i = 112 ∧ q < en i - ne i then 1 else 0)) ∧ G1 = G)) 0 0 A := by
  refine Met.ofG (cc := cX0_isTooLong) (maxL := 3) (ret := (some .boolean)) (by decide) (Nat.le_of_ble_eq_true rfl) ?_
  intro p e s m args below meth c Q hQ hx hb hr hml hlocks hown hw hP hK hE hA hS ls hl
  have hl : lv_has ls 3 [(0, .ref (ad k)), (1, .int (nI i)), (2, .int (nI q))] := hl
  obtain ⟨hB, hB1, hB2, hB3, hB4, hB5, hB6, hB7, hB8⟩ := hR
  refine lv_aload_n hx hb dX0_isTooLong_0 rfl (lv_at hl 0 rfl) ?_
  refine g_get (C := RX0) (T := TX0) (N := 8) hx hb hw inX0 hown hK hP (i := k) (by omega) hB rfl 3 (by decide) (hw _ wf_X0_15) rfl dX0_isTooLong_1 ?_
  refine lv_iload_n hx hb dX0_isTooLong_4 rfl (lv_at hl 1 rfl) ?_
  refine g_iald hx hb hK hP (i := (k + 2)) (by omega) hB2 (by omega) (by omega) dX0_isTooLong_5 ?_
  have hbd_1 := hB6 i
  refine lv_bipush (v := nI 112) hx hb dX0_isTooLong_6 (by decide) ?_
  refine t_icmp_ne (tgt := 24) hx hb dX0_isTooLong_8 (by decide) (by omega) (by omega) (fun c_2 => ?_) (fun c_2 => ?_)
  · skip
    refine lv_iconst (v := nI 0) hx hb dX0_isTooLong_24 (by decide) ?_
    refine g_ret hQ hx hb hr hlocks rfl hP hS (⟨by rw [if_neg (by omega)]; rfl, rfl⟩) (Nat.le_of_ble_eq_true rfl) (Nat.le_of_ble_eq_true rfl) dX0_isTooLong_25
  · skip
    refine lv_aload_n hx hb dX0_isTooLong_11 rfl (lv_at hl 0 rfl) ?_
    refine lv_iload_n hx hb dX0_isTooLong_12 rfl (lv_at hl 1 rfl) ?_
    have hbd_3 := hB8 i
    refine g_callV (As := [.int (nI i)]) (rest := []) ⟨hx, hb, hml, hown, hw⟩ (mX0_remaining l D cT n ad A hD G k sz cn bx pt w nu ne en (by omega) ⟨hB, hB1, hB2, hB3, hB4, hB5, hB6, hB7, hB8⟩ i (by omega) (by omega)) (cwV 1 hw (gWV wm_X0_57 wi_X0_remaining wse_X0_remaining wini_X0 wc_X0_remaining) rfl rfl rfl (by decide +kernel) ⟨Nat.le_of_ble_eq_true rfl, Nat.le_of_ble_eq_true rfl⟩) hK hE hA hP hS (k := k) (by omega) hB rfl rfl hl.1 (lv_room (Nat.le_of_ble_eq_true rfl)) dX0_isTooLong_13 ⟨Nat.le_of_ble_eq_true rfl, Nat.le_of_ble_eq_true rfl⟩ (fun v_5 G_4 H locs hp hP hS => ?_)
    obtain ⟨hv, hg⟩ := hp
    subst hv
    rw [hg] at hP
    refine t_eqi (nI (en i - ne i)) (by rw [if_neg (by omega)]) ?_
    refine lv_iload_n hx hb dX0_isTooLong_16 rfl (lv_at hl 2 rfl) ?_
    refine t_icmp_le (tgt := 24) hx hb dX0_isTooLong_17 (by decide) (by omega) (by omega) (fun c_6 => ?_) (fun c_6 => ?_)
    · skip
      refine lv_iconst (v := nI 0) hx hb dX0_isTooLong_24 (by decide) ?_
      refine g_ret hQ hx hb hr hlocks rfl hP hS (⟨by rw [if_neg (by omega)]; rfl, rfl⟩) (Nat.le_of_ble_eq_true rfl) (Nat.le_of_ble_eq_true rfl) dX0_isTooLong_25
    · skip
      refine lv_iconst (v := nI 1) hx hb dX0_isTooLong_20 (by decide) ?_
      refine lv_goto (tgt := 25) hx hb dX0_isTooLong_21 (by decide) ?_
      refine g_ret hQ hx hb hr hlocks rfl hP hS (⟨by rw [if_pos (by omega)]; rfl, rfl⟩) (Nat.le_of_ble_eq_true rfl) (Nat.le_of_ble_eq_true rfl) dX0_isTooLong_25
end
section
set_option maxHeartbeats 4000000 in
set_option maxRecDepth 100000 in
theorem mX1_add (l : Launch) (D : va_G) (cT : Nat → ClassId) (n : Nat) (ad : Nat → Nat) (A : Nat → Prop) (hD : ∀ G, va_D A (gw n ad G)) (G : Nat → va_E) (k cn : Nat) (f : Nat → Int64) (hk : k + 2 ≤ n) (hR : RR cT ad G k cn f) (x : Int64) (hc : cn < 48) : Met l yX1_add (wA yX1_add cX1_add 3 (some .boolean)) ({ frames := 0, cells := 0, slots := 0, locals := 0 } : Room) (PG D cT n ad A G [.ref (ad k), .long x]) (QG D n ad A (fun v G1 => v = some (.int 1) ∧ (∀ j, (j < k ∨ k + 2 ≤ j) → G1 j = G j) ∧ RR cT ad G1 k (cn + 1) (va_up f cn x))) 0 0 A := by
  refine Met.ofG (cc := cX1_add) (maxL := 3) (ret := (some .boolean)) (by decide) (Nat.le_of_ble_eq_true rfl) ?_
  intro p e s m args below meth c Q hQ hx hb hr hml hlocks hown hw hP hK hE hA hS ls hl
  have hl : lv_has ls 3 [(0, .ref (ad k)), (1, .long x)] := hl
  obtain ⟨hR1a, hR1b⟩ := hR
  refine lv_aload_n hx hb dX1_add_0 rfl (lv_at hl 0 rfl) ?_
  refine g_get (C := RX1) (T := TX1) (N := 2) hx hb hw inX1 hown hK hP (i := k) (by omega) hR1a rfl 1 (by decide) (hw _ wf_X1_15) rfl dX1_add_1 ?_
  refine lv_aload_n hx hb dX1_add_4 rfl (lv_at hl 0 rfl) ?_
  refine g_get (C := RX1) (T := TX1) (N := 2) hx hb hw inX1 hown hK hP (i := k) (by omega) hR1a rfl 0 (by decide) (hw _ wf_X1_9) rfl dX1_add_5 ?_
  refine va_alen hx hb hK hP (k + 1) 0 (gw_get (by omega) hR1b) rfl (v := nI 48) rfl dX1_add_8 ?_
  refine t_icmp_lt (tgt := 14) hx hb dX1_add_9 (by decide) (by omega) (by omega) (fun c_1 => ?_) (fun c_1 => ?_)
  · skip
    refine lv_aload_n hx hb dX1_add_14 rfl (lv_at hl 0 rfl) ?_
    refine g_get (C := RX1) (T := TX1) (N := 2) hx hb hw inX1 hown hK hP (i := k) (by omega) hR1a rfl 0 (by decide) (hw _ wf_X1_9) rfl dX1_add_15 ?_
    refine lv_aload_n hx hb dX1_add_18 rfl (lv_at hl 0 rfl) ?_
    refine g_get (C := RX1) (T := TX1) (N := 2) hx hb hw inX1 hown hK hP (i := k) (by omega) hR1a rfl 1 (by decide) (hw _ wf_X1_15) rfl dX1_add_19 ?_
    refine lv_lload_n hx hb dX1_add_22 rfl (lv_at hl 1 rfl) ?_
    refine g_last hx hb hK hP hD hS (i := (k + 1)) (by omega) hR1b (by omega) (by omega) dX1_add_23 (fun G_2 H locs hg_G_2 ho_G_2 hP hS => ?_)
    have hc_3 : G_2 k = .inr (3, [.ref (ad (k + 1)), .int (nI cn)]) := (ho_G_2 _ (by omega)).trans hR1a
    have hc_4 : G_2 (k + 1) = aJ cT 48 (va_up f cn x) := hg_G_2
    have hfr_5 : ∀ j, (j < k ∨ k + 2 ≤ j) → G_2 j = G j := fun j hj => (ho_G_2 j (by omega)).trans (rfl)
    refine lv_aload_n hx hb dX1_add_24 rfl (lv_at hl 0 rfl) ?_
    refine lv_dup hx hb dX1_add_25 rfl ?_
    refine g_get (C := RX1) (T := TX1) (N := 2) hx hb hw inX1 hown hK hP (i := k) (by omega) hc_3 rfl 1 (by decide) (hw _ wf_X1_15) rfl dX1_add_26 ?_
    refine lv_iconst (v := nI 1) hx hb dX1_add_29 (by decide) ?_
    refine lv_iadd hx hb dX1_add_30 ?_
    refine t_eqi (nI (cn + 1)) (nI_add cn 1) ?_
    refine g_put (C := RX1) (T := TX1) (N := 2) hx hb hw inX1 tyX1 tyX1_ok nmX1 hown hK hP hD hS (i := k) (by omega) hc_3 rfl 1 (by decide) (hw _ wf_X1_15) rfl (tyX1_ok 1 (by decide)) rfl rfl (Nat.le_of_ble_eq_true rfl) dX1_add_31 (fun G_6 H locs hg_G_6 ho_G_6 hP hS => ?_)
    have hc_7 : G_6 k = .inr (3, [.ref (ad (k + 1)), .int (nI (cn + 1))]) := hg_G_6
    have hc_8 : G_6 (k + 1) = aJ cT 48 (va_up f cn x) := (ho_G_6 _ (by omega)).trans hc_4
    have hfr_9 : ∀ j, (j < k ∨ k + 2 ≤ j) → G_6 j = G j := fun j hj => (ho_G_6 j (by omega)).trans (hfr_5 j hj)
    refine lv_iconst (v := nI 1) hx hb dX1_add_34 (by decide) ?_
    refine g_ret hQ hx hb hr hlocks rfl hP hS (⟨rfl, hfr_9, hc_7, hc_8⟩) (Nat.le_of_ble_eq_true rfl) (Nat.le_of_ble_eq_true rfl) dX1_add_35
  · exfalso; omega

set_option maxHeartbeats 4000000 in
set_option maxRecDepth 100000 in
theorem mX1_addF (l : Launch) (D : va_G) (cT : Nat → ClassId) (n : Nat) (ad : Nat → Nat) (A : Nat → Prop) (hD : ∀ G, va_D A (gw n ad G)) (G : Nat → va_E) (k cn : Nat) (f : Nat → Int64) (hk : k + 2 ≤ n) (hR : RR cT ad G k cn f) (x : Int64) (hc : cn = 48) : Met l yX1_add (wA yX1_add cX1_add 3 (some .boolean)) ({ frames := 0, cells := 0, slots := 0, locals := 0 } : Room) (PG D cT n ad A G [.ref (ad k), .long x]) (QG D n ad A (fun v G1 => v = some (.int 0) ∧ G1 = G)) 0 0 A := by
  refine Met.ofG (cc := cX1_add) (maxL := 3) (ret := (some .boolean)) (by decide) (Nat.le_of_ble_eq_true rfl) ?_
  intro p e s m args below meth c Q hQ hx hb hr hml hlocks hown hw hP hK hE hA hS ls hl
  have hl : lv_has ls 3 [(0, .ref (ad k)), (1, .long x)] := hl
  obtain ⟨hR1a, hR1b⟩ := hR
  refine lv_aload_n hx hb dX1_add_0 rfl (lv_at hl 0 rfl) ?_
  refine g_get (C := RX1) (T := TX1) (N := 2) hx hb hw inX1 hown hK hP (i := k) (by omega) hR1a rfl 1 (by decide) (hw _ wf_X1_15) rfl dX1_add_1 ?_
  refine lv_aload_n hx hb dX1_add_4 rfl (lv_at hl 0 rfl) ?_
  refine g_get (C := RX1) (T := TX1) (N := 2) hx hb hw inX1 hown hK hP (i := k) (by omega) hR1a rfl 0 (by decide) (hw _ wf_X1_9) rfl dX1_add_5 ?_
  refine va_alen hx hb hK hP (k + 1) 0 (gw_get (by omega) hR1b) rfl (v := nI 48) rfl dX1_add_8 ?_
  refine t_icmp_lt (tgt := 14) hx hb dX1_add_9 (by decide) (by omega) (by omega) (fun c_1 => ?_) (fun c_1 => ?_)
  · exfalso; omega
  · skip
    refine lv_iconst (v := nI 0) hx hb dX1_add_12 (by decide) ?_
    refine g_ret hQ hx hb hr hlocks rfl hP hS (⟨rfl, rfl⟩) (Nat.le_of_ble_eq_true rfl) (Nat.le_of_ble_eq_true rfl) dX1_add_13

set_option maxHeartbeats 4000000 in
set_option maxRecDepth 100000 in
theorem mX1_clear (l : Launch) (D : va_G) (cT : Nat → ClassId) (n : Nat) (ad : Nat → Nat) (A : Nat → Prop) (hD : ∀ G, va_D A (gw n ad G)) (G : Nat → va_E) (k cn : Nat) (f : Nat → Int64) (hk : k + 2 ≤ n) (hR : RR cT ad G k cn f) : Met l yX1_clear (wA yX1_clear cX1_clear 1 none) ({ frames := 0, cells := 0, slots := 0, locals := 0 } : Room) (PG D cT n ad A G [.ref (ad k)]) (QG D n ad A (fun v G1 => v = none ∧ (∀ j, (j < k ∨ k + 2 ≤ j) → G1 j = G j) ∧ RR cT ad G1 k 0 f)) 0 0 A := by
  refine Met.ofG (cc := cX1_clear) (maxL := 1) (ret := none) (by decide) (Nat.le_of_ble_eq_true rfl) ?_
  intro p e s m args below meth c Q hQ hx hb hr hml hlocks hown hw hP hK hE hA hS ls hl
  have hl : lv_has ls 1 [(0, .ref (ad k))] := hl
  obtain ⟨hR1a, hR1b⟩ := hR
  refine lv_aload_n hx hb dX1_clear_0 rfl (lv_at hl 0 rfl) ?_
  refine lv_iconst (v := nI 0) hx hb dX1_clear_1 (by decide) ?_
  refine g_put (C := RX1) (T := TX1) (N := 2) hx hb hw inX1 tyX1 tyX1_ok nmX1 hown hK hP hD hS (i := k) (by omega) hR1a rfl 1 (by decide) (hw _ wf_X1_15) rfl (tyX1_ok 1 (by decide)) rfl rfl (Nat.le_of_ble_eq_true rfl) dX1_clear_2 (fun G_1 H locs hg_G_1 ho_G_1 hP hS => ?_)
  have hc_2 : G_1 k = .inr (3, [.ref (ad (k + 1)), .int (nI 0)]) := hg_G_1
  have hc_3 : G_1 (k + 1) = aJ cT 48 f := (ho_G_1 _ (by omega)).trans hR1b
  have hfr_4 : ∀ j, (j < k ∨ k + 2 ≤ j) → G_1 j = G j := fun j hj => (ho_G_1 j (by omega)).trans (rfl)
  refine g_retv hQ hx hb hr hlocks hP hS (⟨rfl, hfr_4, hc_2, hc_3⟩) (Nat.le_of_ble_eq_true rfl) (Nat.le_of_ble_eq_true rfl) dX1_clear_5

set_option maxHeartbeats 4000000 in
set_option maxRecDepth 100000 in
theorem mX1_at (l : Launch) (D : va_G) (cT : Nat → ClassId) (n : Nat) (ad : Nat → Nat) (A : Nat → Prop) (hD : ∀ G, va_D A (gw n ad G)) (G : Nat → va_E) (k cn : Nat) (f : Nat → Int64) (hk : k + 2 ≤ n) (hR : RR cT ad G k cn f) (i : Nat) (hi : i < cn) (hc : cn ≤ 48) : Met l yX1_at (wA yX1_at cX1_at 2 (some .long)) ({ frames := 0, cells := 0, slots := 0, locals := 0 } : Room) (PG D cT n ad A G [.ref (ad k), .int (nI i)]) (QG D n ad A (fun v G1 => v = some (.long (f i)) ∧ G1 = G)) 0 0 A := by
  refine Met.ofG (cc := cX1_at) (maxL := 2) (ret := (some .long)) (by decide) (Nat.le_of_ble_eq_true rfl) ?_
  intro p e s m args below meth c Q hQ hx hb hr hml hlocks hown hw hP hK hE hA hS ls hl
  have hl : lv_has ls 2 [(0, .ref (ad k)), (1, .int (nI i))] := hl
  obtain ⟨hR1a, hR1b⟩ := hR
  refine lv_iload_n hx hb dX1_at_0 rfl (lv_at hl 1 rfl) ?_
  refine t_if_lt (tgt := 21) hx hb dX1_at_1 (by decide) (by omega) ?_
  refine lv_iload_n hx hb dX1_at_4 rfl (lv_at hl 1 rfl) ?_
  refine lv_aload_n hx hb dX1_at_5 rfl (lv_at hl 0 rfl) ?_
  refine g_get (C := RX1) (T := TX1) (N := 2) hx hb hw inX1 hown hK hP (i := k) (by omega) hR1a rfl 1 (by decide) (hw _ wf_X1_15) rfl dX1_at_6 ?_
  refine t_icmp_ge (tgt := 21) hx hb dX1_at_9 (by decide) (by omega) (by omega) (fun c_2 => ?_) (fun c_2 => ?_)
  · exfalso; omega
  · skip
    refine lv_aload_n hx hb dX1_at_12 rfl (lv_at hl 0 rfl) ?_
    refine g_get (C := RX1) (T := TX1) (N := 2) hx hb hw inX1 hown hK hP (i := k) (by omega) hR1a rfl 0 (by decide) (hw _ wf_X1_9) rfl dX1_at_13 ?_
    refine lv_iload_n hx hb dX1_at_16 rfl (lv_at hl 1 rfl) ?_
    refine g_lald hx hb hK hP (i := (k + 1)) (by omega) hR1b (by omega) (by omega) dX1_at_17 ?_
    refine lv_goto (tgt := 22) hx hb dX1_at_18 (by decide) ?_
    refine g_retl hQ hx hb hr hlocks hP hS (⟨rfl, rfl⟩) (Nat.le_of_ble_eq_true rfl) (Nat.le_of_ble_eq_true rfl) dX1_at_22

set_option maxHeartbeats 4000000 in
set_option maxRecDepth 100000 in
theorem mX1_addTo (l : Launch) (D : va_G) (cT : Nat → ClassId) (n : Nat) (ad : Nat → Nat) (A : Nat → Prop) (hD : ∀ G, va_D A (gw n ad G)) (G : Nat → va_E) (k cn : Nat) (f : Nat → Int64) (hk : k + 2 ≤ n) (hR : RR cT ad G k cn f) (x : Int64) (hc : cn ≤ 48) : Met l yX1_addTo (wA yX1_addTo cX1_addTo 6 (some .long)) ({ frames := 0, cells := 0, slots := 0, locals := 0 } : Room) (PG D cT n ad A G [.ref (ad k), .long x]) (QG D n ad A (fun v G1 => v = some (.long (rsum f (31 * x + lN cn) cn)) ∧ G1 = G)) 0 0 A := by
  refine Met.ofG (cc := cX1_addTo) (maxL := 6) (ret := (some .long)) (by decide) (Nat.le_of_ble_eq_true rfl) ?_
  intro p e s m args below meth c Q hQ hx hb hr hml hlocks hown hw hP hK hE hA hS ls hl
  have hl : lv_has ls 6 [(0, .ref (ad k)), (1, .long x)] := hl
  obtain ⟨hR1a, hR1b⟩ := hR
  refine lv_ldc2 hx hb hown (hw _ wk_X1_19) dX1_addTo_0 ?_
  refine lv_lload_n hx hb dX1_addTo_3 rfl (lv_at hl 1 rfl) ?_
  refine lv_lmul hx hb dX1_addTo_4 ?_
  refine lv_aload_n hx hb dX1_addTo_5 rfl (lv_at hl 0 rfl) ?_
  refine g_get (C := RX1) (T := TX1) (N := 2) hx hb hw inX1 hown hK hP (i := k) (by omega) hR1a rfl 1 (by decide) (hw _ wf_X1_15) rfl dX1_addTo_6 ?_
  refine lv_i2l hx hb dX1_addTo_9 rfl ?_
  refine t_eql (lN cn) (nI_l (by omega)) ?_
  refine lv_ladd hx hb dX1_addTo_10 ?_
  refine lv_lstore_n (lv' := [(3, .long ((31 * x) + (lN cn))), (0, .ref (ad k)), (1, .long x)]) hx hb dX1_addTo_11 rfl hl (by decide) rfl (fun ls hl => ?_)
  refine lv_iconst (v := nI 0) hx hb dX1_addTo_12 (by decide) ?_
  refine lv_istore (lv' := [(5, .int (nI 0)), (3, .long ((31 * x) + (lN cn))), (0, .ref (ad k)), (1, .long x)]) hx hb dX1_addTo_13 hl (by decide) rfl (fun ls hl => ?_)
  have key_1 : ∀ (fu : Nat) (i : Nat), (i ≤ cn) → (cn - i) < fu → ∀ (H : Heap) (locs : List Loc), va_P D vwCl (gw n ad G) H → va_S A s.heap H locs → ∀ ls : Array Slot, lv_has ls 6 [(5, .int (nI i)), (0, .ref (ad k)), (3, .long (rsum f (31 * x + lN cn) i))] → W p l e ({ frames := 0, cells := 0, slots := 0, locals := 0 } : Room) s m args below meth c H locs 0 0 Q (F0 m 15 ls []) := by
    intro fu_2
    induction fu_2 with
    | zero => intros; exfalso; omega
    | succ fu_2 ih_3 =>
      intro i hi hfu_4 H locs hP hS ls hl
      refine lv_iload hx hb dX1_addTo_15 (lv_at hl 0 rfl) ?_
      refine lv_aload_n hx hb dX1_addTo_17 rfl (lv_at hl 1 rfl) ?_
      refine g_get (C := RX1) (T := TX1) (N := 2) hx hb hw inX1 hown hK hP (i := k) (by omega) hR1a rfl 1 (by decide) (hw _ wf_X1_15) rfl dX1_addTo_18 ?_
      refine t_icmp_ge (tgt := 44) hx hb dX1_addTo_21 (by decide) (by omega) (by omega) (fun c_5 => ?_) (fun c_5 => ?_)
      · skip
        refine lv_lload_n hx hb dX1_addTo_44 rfl (lv_at hl 2 rfl) ?_
        refine g_retl hQ hx hb hr hlocks hP hS (⟨by rw [show i = cn by omega], rfl⟩) (Nat.le_of_ble_eq_true rfl) (Nat.le_of_ble_eq_true rfl) dX1_addTo_45
      · skip
        refine lv_ldc2 hx hb hown (hw _ wk_X1_19) dX1_addTo_24 ?_
        refine lv_lload_n hx hb dX1_addTo_27 rfl (lv_at hl 2 rfl) ?_
        refine lv_lmul hx hb dX1_addTo_28 ?_
        refine lv_aload_n hx hb dX1_addTo_29 rfl (lv_at hl 1 rfl) ?_
        refine g_get (C := RX1) (T := TX1) (N := 2) hx hb hw inX1 hown hK hP (i := k) (by omega) hR1a rfl 0 (by decide) (hw _ wf_X1_9) rfl dX1_addTo_30 ?_
        refine lv_iload hx hb dX1_addTo_33 (lv_at hl 0 rfl) ?_
        refine g_lald hx hb hK hP (i := (k + 1)) (by omega) hR1b (by omega) (by omega) dX1_addTo_35 ?_
        refine lv_ladd hx hb dX1_addTo_36 ?_
        refine lv_lstore_n (lv' := [(3, .long ((31 * (rsum f (31 * x + lN cn) i)) + (f i))), (5, .int (nI i)), (0, .ref (ad k))]) hx hb dX1_addTo_37 rfl hl (by decide) rfl (fun ls hl => ?_)
        refine lv_iinc (v := nI (i + 1)) (lv' := [(5, .int (nI (i + 1))), (3, .long ((31 * (rsum f (31 * x + lN cn) i)) + (f i))), (0, .ref (ad k))]) hx hb dX1_addTo_38 hl (k := 1) rfl (nI_add i 1) (by decide) rfl (fun ls hl => ?_)
        refine lv_goto (tgt := 15) hx hb dX1_addTo_41 (by decide) ?_
        exact ih_3 (i + 1) (by omega) (by omega) _ _ hP hS ls (lv_sub hl [0, 2, 1] rfl)
  exact key_1 _ 0 (by omega) (Nat.lt_succ_self _) _ _ hP hS ls (lv_sub hl [0, 2, 1] rfl)

set_option maxHeartbeats 4000000 in
set_option maxRecDepth 100000 in
theorem mX1_reverse (l : Launch) (D : va_G) (cT : Nat → ClassId) (n : Nat) (ad : Nat → Nat) (A : Nat → Prop) (hD : ∀ G, va_D A (gw n ad G)) (G : Nat → va_E) (k cn : Nat) (f : Nat → Int64) (hk : k + 2 ≤ n) (hR : RR cT ad G k cn f) (hc : cn ≤ 48) : Met l yX1_reverse (wA yX1_reverse cX1_reverse 5 none) ({ frames := 0, cells := 0, slots := 0, locals := 0 } : Room) (PG D cT n ad A G [.ref (ad k)]) (QG D n ad A (fun v G1 => v = none ∧ (∀ j, (j < k ∨ k + 2 ≤ j) → G1 j = G j) ∧ RR cT ad G1 k cn (revA f cn))) 0 0 A := by
  refine Met.ofG (cc := cX1_reverse) (maxL := 5) (ret := none) (by decide) (Nat.le_of_ble_eq_true rfl) ?_
  intro p e s m args below meth c Q hQ hx hb hr hml hlocks hown hw hP hK hE hA hS ls hl
  have hl : lv_has ls 5 [(0, .ref (ad k))] := hl
  obtain ⟨hR1a, hR1b⟩ := hR
  refine lv_iconst (v := nI 0) hx hb dX1_reverse_0 (by decide) ?_
  refine lv_istore_n (lv' := [(1, .int (nI 0)), (0, .ref (ad k))]) hx hb dX1_reverse_1 rfl hl (by decide) rfl (fun ls hl => ?_)
  have key_1 : ∀ (fu : Nat) (i : Nat), (i ≤ cn / 2) → (cn / 2 - i) < fu → ∀ (Gl : Nat → va_E) (H : Heap) (locs : List Loc), (∀ j, (j < k ∨ k + 2 ≤ j) → Gl j = G j) → (RR cT ad Gl k cn (revP f cn i)) → va_P D vwCl (gw n ad Gl) H → va_S A s.heap H locs → ∀ ls : Array Slot, lv_has ls 5 [(1, .int (nI i)), (0, .ref (ad k))] → W p l e ({ frames := 0, cells := 0, slots := 0, locals := 0 } : Room) s m args below meth c H locs 0 0 Q (F0 m 2 ls []) := by
    intro fu_2
    induction fu_2 with
    | zero => intros; exfalso; omega
    | succ fu_2 ih_3 =>
      intro i hi hfu_4 Gl H locs hfL hRL hP hS ls hl
      obtain ⟨hL1, hL2⟩ := hRL
      refine lv_iload_n hx hb dX1_reverse_2 rfl (lv_at hl 0 rfl) ?_
      refine lv_aload_n hx hb dX1_reverse_3 rfl (lv_at hl 1 rfl) ?_
      refine g_get (C := RX1) (T := TX1) (N := 2) hx hb hw inX1 hown hK hP (i := k) (by omega) hL1 rfl 1 (by decide) (hw _ wf_X1_15) rfl dX1_reverse_4 ?_
      refine lv_iconst (v := nI 2) hx hb dX1_reverse_7 (by decide) ?_
      refine lv_idiv hx hb dX1_reverse_8 (nI_ne0 (by omega) (by omega)) ?_
      refine t_eqi (nI (cn / 2)) (pk_div (by omega) (by omega) (by omega)) ?_
      refine t_icmp_ge (tgt := 53) hx hb dX1_reverse_9 (by decide) (by omega) (by omega) (fun c_5 => ?_) (fun c_5 => ?_)
      · skip
        refine g_retv hQ hx hb hr hlocks hP hS (⟨rfl, hfL, hL1, hL2.trans (by rw [show i = cn / 2 by omega, revP_end])⟩) (Nat.le_of_ble_eq_true rfl) (Nat.le_of_ble_eq_true rfl) dX1_reverse_53
      · skip
        refine lv_aload_n hx hb dX1_reverse_12 rfl (lv_at hl 1 rfl) ?_
        refine g_get (C := RX1) (T := TX1) (N := 2) hx hb hw inX1 hown hK hP (i := k) (by omega) hL1 rfl 1 (by decide) (hw _ wf_X1_15) rfl dX1_reverse_13 ?_
        refine lv_iconst (v := nI 1) hx hb dX1_reverse_16 (by decide) ?_
        refine lv_isub hx hb dX1_reverse_17 ?_
        refine t_eqi (nI (cn - 1)) (pk_sub (by omega)) ?_
        refine lv_iload_n hx hb dX1_reverse_18 rfl (lv_at hl 0 rfl) ?_
        refine lv_isub hx hb dX1_reverse_19 ?_
        refine t_eqi (nI ((cn - 1) - i)) (pk_sub (by omega)) ?_
        refine lv_istore_n (lv' := [(2, .int (nI ((cn - 1) - i))), (1, .int (nI i)), (0, .ref (ad k))]) hx hb dX1_reverse_20 rfl hl (by decide) rfl (fun ls hl => ?_)
        refine lv_aload_n hx hb dX1_reverse_21 rfl (lv_at hl 2 rfl) ?_
        refine g_get (C := RX1) (T := TX1) (N := 2) hx hb hw inX1 hown hK hP (i := k) (by omega) hL1 rfl 0 (by decide) (hw _ wf_X1_9) rfl dX1_reverse_22 ?_
        refine lv_iload_n hx hb dX1_reverse_25 rfl (lv_at hl 1 rfl) ?_
        refine g_lald hx hb hK hP (i := (k + 1)) (by omega) hL2 (by omega) (by omega) dX1_reverse_26 ?_
        refine lv_lstore_n (lv' := [(3, .long ((revP f cn i) i)), (2, .int (nI ((cn - 1) - i))), (1, .int (nI i)), (0, .ref (ad k))]) hx hb dX1_reverse_27 rfl hl (by decide) rfl (fun ls hl => ?_)
        refine lv_aload_n hx hb dX1_reverse_28 rfl (lv_at hl 3 rfl) ?_
        refine g_get (C := RX1) (T := TX1) (N := 2) hx hb hw inX1 hown hK hP (i := k) (by omega) hL1 rfl 0 (by decide) (hw _ wf_X1_9) rfl dX1_reverse_29 ?_
        refine lv_iload_n hx hb dX1_reverse_32 rfl (lv_at hl 2 rfl) ?_
        refine lv_aload_n hx hb dX1_reverse_33 rfl (lv_at hl 3 rfl) ?_
        refine g_get (C := RX1) (T := TX1) (N := 2) hx hb hw inX1 hown hK hP (i := k) (by omega) hL1 rfl 0 (by decide) (hw _ wf_X1_9) rfl dX1_reverse_34 ?_
        refine lv_iload_n hx hb dX1_reverse_37 rfl (lv_at hl 1 rfl) ?_
        refine g_lald hx hb hK hP (i := (k + 1)) (by omega) hL2 (by omega) (by omega) dX1_reverse_38 ?_
        refine g_last hx hb hK hP hD hS (i := (k + 1)) (by omega) hL2 (by omega) (by omega) dX1_reverse_39 (fun G_6 H locs hg_G_6 ho_G_6 hP hS => ?_)
        have hc_7 : G_6 k = .inr (3, [.ref (ad (k + 1)), .int (nI cn)]) := (ho_G_6 _ (by omega)).trans hL1
        have hc_8 : G_6 (k + 1) = aJ cT 48 (va_up (revP f cn i) i ((revP f cn i) ((cn - 1) - i))) := hg_G_6
        have hfr_9 : ∀ j, (j < k ∨ k + 2 ≤ j) → G_6 j = G j := fun j hj => (ho_G_6 j (by omega)).trans (hfL j hj)
        refine lv_aload_n hx hb dX1_reverse_40 rfl (lv_at hl 3 rfl) ?_
        refine g_get (C := RX1) (T := TX1) (N := 2) hx hb hw inX1 hown hK hP (i := k) (by omega) hc_7 rfl 0 (by decide) (hw _ wf_X1_9) rfl dX1_reverse_41 ?_
        refine lv_iload_n hx hb dX1_reverse_44 rfl (lv_at hl 1 rfl) ?_
        refine lv_lload_n hx hb dX1_reverse_45 rfl (lv_at hl 0 rfl) ?_
        refine g_last hx hb hK hP hD hS (i := (k + 1)) (by omega) hc_8 (by omega) (by omega) dX1_reverse_46 (fun G_10 H locs hg_G_10 ho_G_10 hP hS => ?_)
        have hc_11 : G_10 k = .inr (3, [.ref (ad (k + 1)), .int (nI cn)]) := (ho_G_10 _ (by omega)).trans hc_7
        have hc_12 : G_10 (k + 1) = aJ cT 48 (va_up (va_up (revP f cn i) i ((revP f cn i) ((cn - 1) - i))) ((cn - 1) - i) ((revP f cn i) i)) := hg_G_10
        have hfr_13 : ∀ j, (j < k ∨ k + 2 ≤ j) → G_10 j = G j := fun j hj => (ho_G_10 j (by omega)).trans (hfr_9 j hj)
        refine lv_iinc (v := nI (i + 1)) (lv' := [(1, .int (nI (i + 1))), (3, .long ((revP f cn i) i)), (2, .int (nI ((cn - 1) - i))), (0, .ref (ad k))]) hx hb dX1_reverse_47 hl (k := 2) rfl (nI_add i 1) (by decide) rfl (fun ls hl => ?_)
        refine lv_goto (tgt := 2) hx hb dX1_reverse_50 (by decide) ?_
        exact ih_3 (i + 1) (by omega) (by omega) _ _ _ (hfr_13) (⟨hc_11, hc_12.trans (by rw [revP_step (by omega)])⟩) hP hS ls (lv_sub hl [0, 3] rfl)
  exact key_1 _ 0 (by omega) (Nat.lt_succ_self _) _ _ _ (fun _ _ => rfl) (⟨hR1a, hR1b.trans (by rw [revP_0])⟩) hP hS ls (lv_sub hl [0, 1] rfl)
end
section
set_option maxHeartbeats 4000000 in
set_option maxRecDepth 100000 in
theorem mX0_placeOf (l : Launch) (D : va_G) (cT : Nat → ClassId) (n : Nat) (ad : Nat → Nat) (A : Nat → Prop) (hD : ∀ G, va_D A (gw n ad G)) (G : Nat → va_E) (k sz cn bx : Nat) (pt : Nat → Int64) (K L : Nat → Nat) (hk : k + 6 ≤ n) (hR : BR cT ad G k sz cn bx pt K L) (hI : BI sz cn K L) (q : Nat) (hq : q ≤ cn) : Met l yX0_placeOf (wA yX0_placeOf cX0_placeOf 4 (some .int)) ({ frames := 3, cells := 0, slots := 0, locals := 63 } : Room) (PG D cT n ad A G [.ref (ad k), .int (nI q)]) (QG D n ad A (fun v G1 => v = some (.int (nI (ps L q))) ∧ G1 = G)) 0 0 A := by
  refine Met.ofG (cc := cX0_placeOf) (maxL := 4) (ret := (some .int)) (by decide) (Nat.le_of_ble_eq_true rfl) ?_
  intro p e s m args below meth c Q hQ hx hb hr hml hlocks hown hw hP hK hE hA hS ls hl
  have hl : lv_has ls 4 [(0, .ref (ad k)), (1, .int (nI q))] := hl
  obtain ⟨p0, w, nu, ne, en, ⟨hB, hB1, hB2, hB3, hB4, hB5, hB6, hB7, hB8⟩, hBL⟩ := hR
  have hcap := BI_cap hI
  have hsz := hI.1
  have hpz := hI.2.1
  refine lv_iconst (v := nI 0) hx hb dX0_placeOf_0 (by decide) ?_
  refine lv_istore_n (lv' := [(2, .int (nI 0)), (0, .ref (ad k)), (1, .int (nI q))]) hx hb dX0_placeOf_1 rfl hl (by decide) rfl (fun ls hl => ?_)
  refine lv_iconst (v := nI 0) hx hb dX0_placeOf_2 (by decide) ?_
  refine lv_istore_n (lv' := [(3, .int (nI 0)), (2, .int (nI 0)), (0, .ref (ad k)), (1, .int (nI q))]) hx hb dX0_placeOf_3 rfl hl (by decide) rfl (fun ls hl => ?_)
  have key_1 : ∀ (fu : Nat) (i : Nat), (i ≤ q) → (q - i) < fu → ∀ (H : Heap) (locs : List Loc), va_P D vwCl (gw n ad G) H → va_S A s.heap H locs → ∀ ls : Array Slot, lv_has ls 4 [(3, .int (nI i)), (2, .int (nI (ps L i))), (1, .int (nI q)), (0, .ref (ad k))] → W p l e ({ frames := 3, cells := 0, slots := 0, locals := 63 } : Room) s m args below meth c H locs 0 0 Q (F0 m 4 ls []) := by
    intro fu_2
    induction fu_2 with
    | zero => intros; exfalso; omega
    | succ fu_2 ih_3 =>
      intro i hi hfu_4 H locs hP hS ls hl
      refine lv_iload_n hx hb dX0_placeOf_4 rfl (lv_at hl 0 rfl) ?_
      refine lv_iload_n hx hb dX0_placeOf_5 rfl (lv_at hl 2 rfl) ?_
      refine t_icmp_ge (tgt := 31) hx hb dX0_placeOf_6 (by decide) (by omega) (by omega) (fun c_5 => ?_) (fun c_5 => ?_)
      · skip
        refine lv_iload_n hx hb dX0_placeOf_31 rfl (lv_at hl 1 rfl) ?_
        refine g_ret hQ hx hb hr hlocks rfl hP hS (⟨by rw [show i = q by omega], rfl⟩) (Nat.le_of_ble_eq_true rfl) (Nat.le_of_ble_eq_true rfl) dX0_placeOf_32
      · skip
        refine lv_iload_n hx hb dX0_placeOf_9 rfl (lv_at hl 0 rfl) ?_
        refine lv_aload_n hx hb dX0_placeOf_10 rfl (lv_at hl 3 rfl) ?_
        refine g_get (C := RX0) (T := TX0) (N := 8) hx hb hw inX0 hown hK hP (i := k) (by omega) hB rfl 7 (by decide) (hw _ wf_X0_46) rfl dX0_placeOf_11 ?_
        refine t_icmp_ge (tgt := 31) hx hb dX0_placeOf_14 (by decide) (by omega) (by omega) (fun c_6 => ?_) (fun c_6 => ?_)
        · skip
          refine lv_iload_n hx hb dX0_placeOf_31 rfl (lv_at hl 1 rfl) ?_
          refine g_ret hQ hx hb hr hlocks rfl hP hS (⟨by rw [show i = q by omega], rfl⟩) (Nat.le_of_ble_eq_true rfl) (Nat.le_of_ble_eq_true rfl) dX0_placeOf_32
        · skip
          obtain ⟨hb1, hb2, hb3⟩ := hBL.2 i (by omega)
          have hi3 := hI.2.2.1 i (by omega)
          have hps := ps_step L (show i < cn by omega)
          have hq8 := hB8 i
          have hq7 := hB7 i
          have hq6 := hB6 i
          refine lv_iload_n hx hb dX0_placeOf_17 rfl (lv_at hl 1 rfl) ?_
          refine lv_aload_n hx hb dX0_placeOf_18 rfl (lv_at hl 3 rfl) ?_
          refine lv_iload_n hx hb dX0_placeOf_19 rfl (lv_at hl 0 rfl) ?_
          have hbd_7 := hB8 i
          refine g_callV (As := [.int (nI i)]) (rest := [.int (nI (ps L i))]) ⟨hx, hb, hml, hown, hw⟩ (mX0_width l D cT n ad A hD G k sz cn bx p0 w nu ne en (by omega) ⟨hB, hB1, hB2, hB3, hB4, hB5, hB6, hB7, hB8⟩ i (by omega) (by omega)) (cwV 1 hw (gWV wm_X0_53 wi_X0_width wse_X0_width wini_X0 wc_X0_width) rfl rfl rfl (by decide +kernel) ⟨Nat.le_of_ble_eq_true rfl, Nat.le_of_ble_eq_true rfl⟩) hK hE hA hP hS (k := k) (by omega) hB rfl rfl hl.1 (lv_room (Nat.le_of_ble_eq_true rfl)) dX0_placeOf_20 ⟨Nat.le_of_ble_eq_true rfl, Nat.le_of_ble_eq_true rfl⟩ (fun v_9 G_8 H locs hp hP hS => ?_)
          obtain ⟨hv, hg⟩ := hp
          subst hv
          rw [hg] at hP
          refine t_eqi (nI (L i)) (congrArg nI (by split <;> omega)) ?_
          refine lv_iadd hx hb dX0_placeOf_23 ?_
          refine t_eqi (nI ((ps L i) + (L i))) (nI_add (ps L i) (L i)) ?_
          refine lv_istore_n (lv' := [(2, .int (nI ((ps L i) + (L i)))), (3, .int (nI i)), (1, .int (nI q)), (0, .ref (ad k))]) hx hb dX0_placeOf_24 rfl hl (by decide) rfl (fun ls hl => ?_)
          refine lv_iinc (v := nI (i + 1)) (lv' := [(3, .int (nI (i + 1))), (2, .int (nI ((ps L i) + (L i)))), (1, .int (nI q)), (0, .ref (ad k))]) hx hb dX0_placeOf_25 hl (k := 1) rfl (nI_add i 1) (by decide) rfl (fun ls hl => ?_)
          refine lv_goto (tgt := 4) hx hb dX0_placeOf_28 (by decide) ?_
          exact ih_3 (i + 1) (by omega) (by omega) _ _ hP hS ls (lv_sub hl [0, 1, 2, 3] rfl)
  exact key_1 _ 0 (by omega) (Nat.lt_succ_self _) _ _ hP hS ls (lv_sub hl [0, 1, 3, 2] rfl)

set_option maxHeartbeats 4000000 in
set_option maxRecDepth 100000 in
theorem mX0_countNumbers (l : Launch) (D : va_G) (cT : Nat → ClassId) (n : Nat) (ad : Nat → Nat) (A : Nat → Prop) (hD : ∀ G, va_D A (gw n ad G)) (G : Nat → va_E) (k sz cn bx : Nat) (pt : Nat → Int64) (K L : Nat → Nat) (hk : k + 6 ≤ n) (hR : BR cT ad G k sz cn bx pt K L) (hI : BI sz cn K L) : Met l yX0_countNumbers (wA yX0_countNumbers cX0_countNumbers 3 (some .int)) ({ frames := 1, cells := 0, slots := 0, locals := 21 } : Room) (PG D cT n ad A G [.ref (ad k)]) (QG D n ad A (fun v G1 => v = some (.int (nI (cnt K cn))) ∧ G1 = G)) 0 0 A := by
  refine Met.ofG (cc := cX0_countNumbers) (maxL := 3) (ret := (some .int)) (by decide) (Nat.le_of_ble_eq_true rfl) ?_
  intro p e s m args below meth c Q hQ hx hb hr hml hlocks hown hw hP hK hE hA hS ls hl
  have hl : lv_has ls 3 [(0, .ref (ad k))] := hl
  obtain ⟨p0, w, nu, ne, en, ⟨hB, hB1, hB2, hB3, hB4, hB5, hB6, hB7, hB8⟩, hBL⟩ := hR
  have hcap := BI_cap hI
  have hsz := hI.1
  have hpz := hI.2.1
  refine lv_iconst (v := nI 0) hx hb dX0_countNumbers_0 (by decide) ?_
  refine lv_istore_n (lv' := [(1, .int (nI 0)), (0, .ref (ad k))]) hx hb dX0_countNumbers_1 rfl hl (by decide) rfl (fun ls hl => ?_)
  refine lv_iconst (v := nI 0) hx hb dX0_countNumbers_2 (by decide) ?_
  refine lv_istore_n (lv' := [(2, .int (nI 0)), (1, .int (nI 0)), (0, .ref (ad k))]) hx hb dX0_countNumbers_3 rfl hl (by decide) rfl (fun ls hl => ?_)
  have key_1 : ∀ (fu : Nat) (i : Nat), (i ≤ cn) → (cn - i) < fu → ∀ (H : Heap) (locs : List Loc), va_P D vwCl (gw n ad G) H → va_S A s.heap H locs → ∀ ls : Array Slot, lv_has ls 3 [(2, .int (nI i)), (1, .int (nI (cnt K i))), (0, .ref (ad k))] → W p l e ({ frames := 1, cells := 0, slots := 0, locals := 21 } : Room) s m args below meth c H locs 0 0 Q (F0 m 4 ls []) := by
    intro fu_2
    induction fu_2 with
    | zero => intros; exfalso; omega
    | succ fu_2 ih_3 =>
      intro i hi hfu_4 H locs hP hS ls hl
      refine lv_iload_n hx hb dX0_countNumbers_4 rfl (lv_at hl 0 rfl) ?_
      refine lv_aload_n hx hb dX0_countNumbers_5 rfl (lv_at hl 2 rfl) ?_
      refine g_get (C := RX0) (T := TX0) (N := 8) hx hb hw inX0 hown hK hP (i := k) (by omega) hB rfl 7 (by decide) (hw _ wf_X0_46) rfl dX0_countNumbers_6 ?_
      refine t_icmp_ge (tgt := 34) hx hb dX0_countNumbers_9 (by decide) (by omega) (by omega) (fun c_5 => ?_) (fun c_5 => ?_)
      · skip
        refine lv_iload_n hx hb dX0_countNumbers_34 rfl (lv_at hl 1 rfl) ?_
        refine g_ret hQ hx hb hr hlocks rfl hP hS (⟨by rw [show i = cn by omega], rfl⟩) (Nat.le_of_ble_eq_true rfl) (Nat.le_of_ble_eq_true rfl) dX0_countNumbers_35
      · skip
        obtain ⟨hb1, hb2, hb3⟩ := hBL.2 i (by omega)
        have hi3 := hI.2.2.1 i (by omega)
        have hps := ps_step L (show i < cn by omega)
        have hq8 := hB8 i
        have hq7 := hB7 i
        have hq6 := hB6 i
        refine lv_iload_n hx hb dX0_countNumbers_12 rfl (lv_at hl 1 rfl) ?_
        refine lv_aload_n hx hb dX0_countNumbers_13 rfl (lv_at hl 2 rfl) ?_
        refine lv_iload_n hx hb dX0_countNumbers_14 rfl (lv_at hl 0 rfl) ?_
        refine g_callV (As := [.int (nI i)]) (rest := [.int (nI (cnt K i))]) ⟨hx, hb, hml, hown, hw⟩ (mX0_isNumber l D cT n ad A hD G k sz cn bx p0 w nu ne en (by omega) ⟨hB, hB1, hB2, hB3, hB4, hB5, hB6, hB7, hB8⟩ i (by omega)) (cwV 1 hw (gWV wm_X0_49 wi_X0_isNumber wse_X0_isNumber wini_X0 wc_X0_isNumber) rfl rfl rfl (by decide +kernel) ⟨Nat.le_of_ble_eq_true rfl, Nat.le_of_ble_eq_true rfl⟩) hK hE hA hP hS (k := k) (by omega) hB rfl rfl hl.1 (lv_room (Nat.le_of_ble_eq_true rfl)) dX0_countNumbers_15 ⟨Nat.le_of_ble_eq_true rfl, Nat.le_of_ble_eq_true rfl⟩ (fun v_7 G_6 H locs hp hP hS => ?_)
        obtain ⟨hv, hg⟩ := hp
        subst hv
        rw [hg] at hP
        refine t_bool_eq (tgt := 25) hx hb dX0_countNumbers_18 (by decide) (fun c_8 => ?_) (fun c_8 => ?_)
        · skip
          refine lv_iconst (v := nI 0) hx hb dX0_countNumbers_25 (by decide) ?_
          refine lv_iadd hx hb dX0_countNumbers_26 ?_
          refine t_eqi (nI (cnt K (i + 1))) ((nI_add _ _).trans (congrArg nI (cnt_0 (by omega)).symm)) ?_
          refine lv_istore_n (lv' := [(1, .int (nI (cnt K (i + 1)))), (2, .int (nI i)), (0, .ref (ad k))]) hx hb dX0_countNumbers_27 rfl hl (by decide) rfl (fun ls hl => ?_)
          refine lv_iinc (v := nI (i + 1)) (lv' := [(2, .int (nI (i + 1))), (1, .int (nI (cnt K (i + 1)))), (0, .ref (ad k))]) hx hb dX0_countNumbers_28 hl (k := 1) rfl (nI_add i 1) (by decide) rfl (fun ls hl => ?_)
          refine lv_goto (tgt := 4) hx hb dX0_countNumbers_31 (by decide) ?_
          exact ih_3 (i + 1) (by omega) (by omega) _ _ hP hS ls (lv_sub hl [0, 1, 2] rfl)
        · skip
          refine lv_iconst (v := nI 1) hx hb dX0_countNumbers_21 (by decide) ?_
          refine lv_goto (tgt := 26) hx hb dX0_countNumbers_22 (by decide) ?_
          refine lv_iadd hx hb dX0_countNumbers_26 ?_
          refine t_eqi (nI (cnt K (i + 1))) ((nI_add _ _).trans (congrArg nI (cnt_1 (by omega)).symm)) ?_
          refine lv_istore_n (lv' := [(1, .int (nI (cnt K (i + 1)))), (2, .int (nI i)), (0, .ref (ad k))]) hx hb dX0_countNumbers_27 rfl hl (by decide) rfl (fun ls hl => ?_)
          refine lv_iinc (v := nI (i + 1)) (lv' := [(2, .int (nI (i + 1))), (1, .int (nI (cnt K (i + 1)))), (0, .ref (ad k))]) hx hb dX0_countNumbers_28 hl (k := 1) rfl (nI_add i 1) (by decide) rfl (fun ls hl => ?_)
          refine lv_goto (tgt := 4) hx hb dX0_countNumbers_31 (by decide) ?_
          exact ih_3 (i + 1) (by omega) (by omega) _ _ hP hS ls (lv_sub hl [0, 1, 2] rfl)
  exact key_1 _ 0 (by omega) (Nat.lt_succ_self _) _ _ hP hS ls (lv_sub hl [0, 1, 2] rfl)

set_option maxHeartbeats 4000000 in
set_option maxRecDepth 100000 in
theorem mX0_countLeft (l : Launch) (D : va_G) (cT : Nat → ClassId) (n : Nat) (ad : Nat → Nat) (A : Nat → Prop) (hD : ∀ G, va_D A (gw n ad G)) (G : Nat → va_E) (k sz cn bx : Nat) (pt : Nat → Int64) (K L : Nat → Nat) (hk : k + 6 ≤ n) (hR : BR cT ad G k sz cn bx pt K L) (hI : BI sz cn K L) : Met l yX0_countLeft (wA yX0_countLeft cX0_countLeft 3 (some .int)) ({ frames := 2, cells := 0, slots := 0, locals := 42 } : Room) (PG D cT n ad A G [.ref (ad k)]) (QG D n ad A (fun v G1 => v = some (.int (nI (lft K L cn))) ∧ G1 = G)) 0 0 A := by
  refine Met.ofG (cc := cX0_countLeft) (maxL := 3) (ret := (some .int)) (by decide) (Nat.le_of_ble_eq_true rfl) ?_
  intro p e s m args below meth c Q hQ hx hb hr hml hlocks hown hw hP hK hE hA hS ls hl
  have hl : lv_has ls 3 [(0, .ref (ad k))] := hl
  obtain ⟨p0, w, nu, ne, en, ⟨hB, hB1, hB2, hB3, hB4, hB5, hB6, hB7, hB8⟩, hBL⟩ := hR
  have hcap := BI_cap hI
  have hsz := hI.1
  have hpz := hI.2.1
  refine lv_iconst (v := nI 0) hx hb dX0_countLeft_0 (by decide) ?_
  refine lv_istore_n (lv' := [(1, .int (nI 0)), (0, .ref (ad k))]) hx hb dX0_countLeft_1 rfl hl (by decide) rfl (fun ls hl => ?_)
  refine lv_iconst (v := nI 0) hx hb dX0_countLeft_2 (by decide) ?_
  refine lv_istore_n (lv' := [(2, .int (nI 0)), (1, .int (nI 0)), (0, .ref (ad k))]) hx hb dX0_countLeft_3 rfl hl (by decide) rfl (fun ls hl => ?_)
  have key_1 : ∀ (fu : Nat) (i : Nat), (i ≤ cn) → (cn - i) < fu → ∀ (H : Heap) (locs : List Loc), va_P D vwCl (gw n ad G) H → va_S A s.heap H locs → ∀ ls : Array Slot, lv_has ls 3 [(2, .int (nI i)), (1, .int (nI (lft K L i))), (0, .ref (ad k))] → W p l e ({ frames := 2, cells := 0, slots := 0, locals := 42 } : Room) s m args below meth c H locs 0 0 Q (F0 m 4 ls []) := by
    intro fu_2
    induction fu_2 with
    | zero => intros; exfalso; omega
    | succ fu_2 ih_3 =>
      intro i hi hfu_4 H locs hP hS ls hl
      refine lv_iload_n hx hb dX0_countLeft_4 rfl (lv_at hl 0 rfl) ?_
      refine lv_aload_n hx hb dX0_countLeft_5 rfl (lv_at hl 2 rfl) ?_
      refine g_get (C := RX0) (T := TX0) (N := 8) hx hb hw inX0 hown hK hP (i := k) (by omega) hB rfl 7 (by decide) (hw _ wf_X0_46) rfl dX0_countLeft_6 ?_
      refine t_icmp_ge (tgt := 26) hx hb dX0_countLeft_9 (by decide) (by omega) (by omega) (fun c_5 => ?_) (fun c_5 => ?_)
      · skip
        refine lv_iload_n hx hb dX0_countLeft_26 rfl (lv_at hl 1 rfl) ?_
        refine g_ret hQ hx hb hr hlocks rfl hP hS (⟨by rw [show i = cn by omega], rfl⟩) (Nat.le_of_ble_eq_true rfl) (Nat.le_of_ble_eq_true rfl) dX0_countLeft_27
      · skip
        obtain ⟨hb1, hb2, hb3⟩ := hBL.2 i (by omega)
        have hi3 := hI.2.2.1 i (by omega)
        have hps := ps_step L (show i < cn by omega)
        have hq8 := hB8 i
        have hq7 := hB7 i
        have hq6 := hB6 i
        refine lv_iload_n hx hb dX0_countLeft_12 rfl (lv_at hl 1 rfl) ?_
        refine lv_aload_n hx hb dX0_countLeft_13 rfl (lv_at hl 2 rfl) ?_
        refine lv_iload_n hx hb dX0_countLeft_14 rfl (lv_at hl 0 rfl) ?_
        have hbd_6 := hB8 i
        refine g_callV (As := [.int (nI i)]) (rest := [.int (nI (lft K L i))]) ⟨hx, hb, hml, hown, hw⟩ (mX0_remaining l D cT n ad A hD G k sz cn bx p0 w nu ne en (by omega) ⟨hB, hB1, hB2, hB3, hB4, hB5, hB6, hB7, hB8⟩ i (by omega) (by omega)) (cwV 1 hw (gWV wm_X0_57 wi_X0_remaining wse_X0_remaining wini_X0 wc_X0_remaining) rfl rfl rfl (by decide +kernel) ⟨Nat.le_of_ble_eq_true rfl, Nat.le_of_ble_eq_true rfl⟩) hK hE hA hP hS (k := k) (by omega) hB rfl rfl hl.1 (lv_room (Nat.le_of_ble_eq_true rfl)) dX0_countLeft_15 ⟨Nat.le_of_ble_eq_true rfl, Nat.le_of_ble_eq_true rfl⟩ (fun v_8 G_7 H locs hp hP hS => ?_)
        obtain ⟨hv, hg⟩ := hp
        subst hv
        rw [hg] at hP
        refine t_eqi (nI (if K i = 110 then 0 else L i)) (congrArg nI (by split <;> split <;> omega)) ?_
        refine lv_iadd hx hb dX0_countLeft_18 ?_
        refine t_eqi (nI ((lft K L i) + (if K i = 110 then 0 else L i))) (nI_add (lft K L i) (if K i = 110 then 0 else L i)) ?_
        refine lv_istore_n (lv' := [(1, .int (nI ((lft K L i) + (if K i = 110 then 0 else L i)))), (2, .int (nI i)), (0, .ref (ad k))]) hx hb dX0_countLeft_19 rfl hl (by decide) rfl (fun ls hl => ?_)
        refine lv_iinc (v := nI (i + 1)) (lv' := [(2, .int (nI (i + 1))), (1, .int (nI ((lft K L i) + (if K i = 110 then 0 else L i)))), (0, .ref (ad k))]) hx hb dX0_countLeft_20 hl (k := 1) rfl (nI_add i 1) (by decide) rfl (fun ls hl => ?_)
        refine lv_goto (tgt := 4) hx hb dX0_countLeft_23 (by decide) ?_
        exact ih_3 (i + 1) (by omega) (by omega) _ _ hP hS ls (lv_sub hl [0, 1, 2] rfl)
  exact key_1 _ 0 (by omega) (Nat.lt_succ_self _) _ _ hP hS ls (lv_sub hl [0, 1, 2] rfl)

set_option maxHeartbeats 4000000 in
set_option maxRecDepth 100000 in
theorem mX0_addTo (l : Launch) (D : va_G) (cT : Nat → ClassId) (n : Nat) (ad : Nat → Nat) (A : Nat → Prop) (hD : ∀ G, va_D A (gw n ad G)) (G : Nat → va_E) (k sz cn bx : Nat) (pt : Nat → Int64) (K L : Nat → Nat) (hk : k + 6 ≤ n) (hR : BR cT ad G k sz cn bx pt K L) (hI : BI sz cn K L) (x : Int64) : Met l yX0_addTo (wA yX0_addTo cX0_addTo 6 (some .long)) ({ frames := 2, cells := 0, slots := 0, locals := 42 } : Room) (PG D cT n ad A G [.ref (ad k), .long x]) (QG D n ad A (fun v G1 => v = some (.long (bsum K L pt (31 * x + lN cn) cn)) ∧ G1 = G)) 0 0 A := by
  refine Met.ofG (cc := cX0_addTo) (maxL := 6) (ret := (some .long)) (by decide) (Nat.le_of_ble_eq_true rfl) ?_
  intro p e s m args below meth c Q hQ hx hb hr hml hlocks hown hw hP hK hE hA hS ls hl
  have hl : lv_has ls 6 [(0, .ref (ad k)), (1, .long x)] := hl
  obtain ⟨p0, w, nu, ne, en, ⟨hB, hB1, hB2, hB3, hB4, hB5, hB6, hB7, hB8⟩, hBL⟩ := hR
  have hcap := BI_cap hI
  have hsz := hI.1
  have hpz := hI.2.1
  refine lv_ldc2 hx hb hown (hw _ wk_X0_95) dX0_addTo_0 ?_
  refine lv_lload_n hx hb dX0_addTo_3 rfl (lv_at hl 1 rfl) ?_
  refine lv_lmul hx hb dX0_addTo_4 ?_
  refine lv_aload_n hx hb dX0_addTo_5 rfl (lv_at hl 0 rfl) ?_
  refine g_get (C := RX0) (T := TX0) (N := 8) hx hb hw inX0 hown hK hP (i := k) (by omega) hB rfl 7 (by decide) (hw _ wf_X0_46) rfl dX0_addTo_6 ?_
  refine lv_i2l hx hb dX0_addTo_9 rfl ?_
  refine t_eql (lN cn) (nI_l (by omega)) ?_
  refine lv_ladd hx hb dX0_addTo_10 ?_
  refine lv_lstore_n (lv' := [(3, .long ((31 * x) + (lN cn))), (0, .ref (ad k)), (1, .long x)]) hx hb dX0_addTo_11 rfl hl (by decide) rfl (fun ls hl => ?_)
  refine lv_iconst (v := nI 0) hx hb dX0_addTo_12 (by decide) ?_
  refine lv_istore (lv' := [(5, .int (nI 0)), (3, .long ((31 * x) + (lN cn))), (0, .ref (ad k)), (1, .long x)]) hx hb dX0_addTo_13 hl (by decide) rfl (fun ls hl => ?_)
  have key_1 : ∀ (fu : Nat) (i : Nat), (i ≤ cn) → (cn - i) < fu → ∀ (H : Heap) (locs : List Loc), va_P D vwCl (gw n ad G) H → va_S A s.heap H locs → ∀ ls : Array Slot, lv_has ls 6 [(5, .int (nI i)), (3, .long (bsum K L pt (31 * x + lN cn) i)), (0, .ref (ad k))] → W p l e ({ frames := 2, cells := 0, slots := 0, locals := 42 } : Room) s m args below meth c H locs 0 0 Q (F0 m 15 ls []) := by
    intro fu_2
    induction fu_2 with
    | zero => intros; exfalso; omega
    | succ fu_2 ih_3 =>
      intro i hi hfu_4 H locs hP hS ls hl
      refine lv_iload hx hb dX0_addTo_15 (lv_at hl 0 rfl) ?_
      refine lv_aload_n hx hb dX0_addTo_17 rfl (lv_at hl 2 rfl) ?_
      refine g_get (C := RX0) (T := TX0) (N := 8) hx hb hw inX0 hown hK hP (i := k) (by omega) hB rfl 7 (by decide) (hw _ wf_X0_46) rfl dX0_addTo_18 ?_
      refine t_icmp_ge (tgt := 78) hx hb dX0_addTo_21 (by decide) (by omega) (by omega) (fun c_5 => ?_) (fun c_5 => ?_)
      · skip
        refine lv_lload_n hx hb dX0_addTo_78 rfl (lv_at hl 1 rfl) ?_
        refine g_retl hQ hx hb hr hlocks hP hS (⟨by rw [show i = cn by omega], rfl⟩) (Nat.le_of_ble_eq_true rfl) (Nat.le_of_ble_eq_true rfl) dX0_addTo_79
      · skip
        obtain ⟨hb1, hb2, hb3⟩ := hBL.2 i (by omega)
        have hi3 := hI.2.2.1 i (by omega)
        have hps := ps_step L (show i < cn by omega)
        have hq8 := hB8 i
        have hq7 := hB7 i
        have hq6 := hB6 i
        refine lv_ldc2 hx hb hown (hw _ wk_X0_95) dX0_addTo_24 ?_
        refine lv_lload_n hx hb dX0_addTo_27 rfl (lv_at hl 1 rfl) ?_
        refine lv_lmul hx hb dX0_addTo_28 ?_
        refine lv_aload_n hx hb dX0_addTo_29 rfl (lv_at hl 2 rfl) ?_
        refine g_get (C := RX0) (T := TX0) (N := 8) hx hb hw inX0 hown hK hP (i := k) (by omega) hB rfl 3 (by decide) (hw _ wf_X0_15) rfl dX0_addTo_30 ?_
        refine lv_iload hx hb dX0_addTo_33 (lv_at hl 0 rfl) ?_
        refine g_iald hx hb hK hP (i := (k + 2)) (by omega) hB2 (by omega) (by omega) dX0_addTo_35 ?_
        have hbd_6 := hB6 i
        refine lv_i2l hx hb dX0_addTo_36 rfl ?_
        refine t_eql (lN (w i)) (nI_l (by omega)) ?_
        refine t_eql (lN (K i)) (by rw [hb1]) ?_
        refine lv_ladd hx hb dX0_addTo_37 ?_
        refine lv_lstore_n (lv' := [(3, .long ((31 * (bsum K L pt (31 * x + lN cn) i)) + (lN (K i)))), (5, .int (nI i)), (0, .ref (ad k))]) hx hb dX0_addTo_38 rfl hl (by decide) rfl (fun ls hl => ?_)
        refine lv_ldc2 hx hb hown (hw _ wk_X0_95) dX0_addTo_39 ?_
        refine lv_lload_n hx hb dX0_addTo_42 rfl (lv_at hl 0 rfl) ?_
        refine lv_lmul hx hb dX0_addTo_43 ?_
        refine lv_aload_n hx hb dX0_addTo_44 rfl (lv_at hl 2 rfl) ?_
        refine lv_iload hx hb dX0_addTo_45 (lv_at hl 1 rfl) ?_
        refine g_callV (As := [.int (nI i)]) (rest := [.long (31 * ((31 * (bsum K L pt (31 * x + lN cn) i)) + (lN (K i))))]) ⟨hx, hb, hml, hown, hw⟩ (mX0_isNumber l D cT n ad A hD G k sz cn bx p0 w nu ne en (by omega) ⟨hB, hB1, hB2, hB3, hB4, hB5, hB6, hB7, hB8⟩ i (by omega)) (cwV 1 hw (gWV wm_X0_49 wi_X0_isNumber wse_X0_isNumber wini_X0 wc_X0_isNumber) rfl rfl rfl (by decide +kernel) ⟨Nat.le_of_ble_eq_true rfl, Nat.le_of_ble_eq_true rfl⟩) hK hE hA hP hS (k := k) (by omega) hB rfl rfl hl.1 (lv_room (Nat.le_of_ble_eq_true rfl)) dX0_addTo_47 ⟨Nat.le_of_ble_eq_true rfl, Nat.le_of_ble_eq_true rfl⟩ (fun v_8 G_7 H locs hp hP hS => ?_)
        obtain ⟨hv, hg⟩ := hp
        subst hv
        rw [hg] at hP
        refine t_bool_eq (tgt := 63) hx hb dX0_addTo_50 (by decide) (fun c_9 => ?_) (fun c_9 => ?_)
        · skip
          refine lv_aload_n hx hb dX0_addTo_63 rfl (lv_at hl 2 rfl) ?_
          refine lv_iload hx hb dX0_addTo_64 (lv_at hl 1 rfl) ?_
          have hbd_10 := hB8 i
          refine g_callV (As := [.int (nI i)]) (rest := [.long (31 * ((31 * (bsum K L pt (31 * x + lN cn) i)) + (lN (K i))))]) ⟨hx, hb, hml, hown, hw⟩ (mX0_remaining l D cT n ad A hD G k sz cn bx p0 w nu ne en (by omega) ⟨hB, hB1, hB2, hB3, hB4, hB5, hB6, hB7, hB8⟩ i (by omega) (by omega)) (cwV 1 hw (gWV wm_X0_57 wi_X0_remaining wse_X0_remaining wini_X0 wc_X0_remaining) rfl rfl rfl (by decide +kernel) ⟨Nat.le_of_ble_eq_true rfl, Nat.le_of_ble_eq_true rfl⟩) hK hE hA hP hS (k := k) (by omega) hB rfl rfl hl.1 (lv_room (Nat.le_of_ble_eq_true rfl)) dX0_addTo_66 ⟨Nat.le_of_ble_eq_true rfl, Nat.le_of_ble_eq_true rfl⟩ (fun v_12 G_11 H locs hp hP hS => ?_)
          obtain ⟨hv, hg⟩ := hp
          subst hv
          rw [hg] at hP
          refine t_eqi (nI (L i)) (congrArg nI (by rw [if_neg (by omega)]; omega)) ?_
          refine lv_i2l hx hb dX0_addTo_69 rfl ?_
          refine t_eql (lN (L i)) (nI_l (by omega)) ?_
          refine lv_ladd hx hb dX0_addTo_70 ?_
          refine t_eql (bsum K L pt (31 * x + lN cn) (i + 1)) (by show _ = 31 * (31 * _ + lN (K i)) + _; rw [if_neg (by omega)]) ?_
          refine lv_lstore_n (lv' := [(3, .long (bsum K L pt (31 * x + lN cn) (i + 1))), (5, .int (nI i)), (0, .ref (ad k))]) hx hb dX0_addTo_71 rfl hl (by decide) rfl (fun ls hl => ?_)
          refine lv_iinc (v := nI (i + 1)) (lv' := [(5, .int (nI (i + 1))), (3, .long (bsum K L pt (31 * x + lN cn) (i + 1))), (0, .ref (ad k))]) hx hb dX0_addTo_72 hl (k := 1) rfl (nI_add i 1) (by decide) rfl (fun ls hl => ?_)
          refine lv_goto (tgt := 15) hx hb dX0_addTo_75 (by decide) ?_
          exact ih_3 (i + 1) (by omega) (by omega) _ _ hP hS ls (lv_sub hl [0, 1, 2] rfl)
        · skip
          refine lv_aload_n hx hb dX0_addTo_53 rfl (lv_at hl 2 rfl) ?_
          refine g_get (C := RX0) (T := TX0) (N := 8) hx hb hw inX0 hown hK hP (i := k) (by omega) hB rfl 4 (by decide) (hw _ wf_X0_19) rfl dX0_addTo_54 ?_
          refine lv_iload hx hb dX0_addTo_57 (lv_at hl 1 rfl) ?_
          refine g_lald hx hb hK hP (i := (k + 3)) (by omega) hB3 (by omega) (by omega) dX0_addTo_59 ?_
          refine lv_goto (tgt := 70) hx hb dX0_addTo_60 (by decide) ?_
          refine lv_ladd hx hb dX0_addTo_70 ?_
          refine t_eql (bsum K L pt (31 * x + lN cn) (i + 1)) (by show _ = 31 * (31 * _ + lN (K i)) + _; rw [if_pos (by omega), hb2 (by omega)]) ?_
          refine lv_lstore_n (lv' := [(3, .long (bsum K L pt (31 * x + lN cn) (i + 1))), (5, .int (nI i)), (0, .ref (ad k))]) hx hb dX0_addTo_71 rfl hl (by decide) rfl (fun ls hl => ?_)
          refine lv_iinc (v := nI (i + 1)) (lv' := [(5, .int (nI (i + 1))), (3, .long (bsum K L pt (31 * x + lN cn) (i + 1))), (0, .ref (ad k))]) hx hb dX0_addTo_72 hl (k := 1) rfl (nI_add i 1) (by decide) rfl (fun ls hl => ?_)
          refine lv_goto (tgt := 15) hx hb dX0_addTo_75 (by decide) ?_
          exact ih_3 (i + 1) (by omega) (by omega) _ _ hP hS ls (lv_sub hl [0, 1, 2] rfl)
  exact key_1 _ 0 (by omega) (Nat.lt_succ_self _) _ _ hP hS ls (lv_sub hl [0, 1, 2] rfl)

set_option maxHeartbeats 4000000 in
set_option maxRecDepth 100000 in
theorem mX0_standsAt (l : Launch) (D : va_G) (cT : Nat → ClassId) (n : Nat) (ad : Nat → Nat) (A : Nat → Prop) (hD : ∀ G, va_D A (gw n ad G)) (G : Nat → va_E) (k sz cn bx : Nat) (pt : Nat → Int64) (K L : Nat → Nat) (hk : k + 6 ≤ n) (hR : BR cT ad G k sz cn bx pt K L) (hI : BI sz cn K L) (i : Nat) (hi : i < cn) : Met l yX0_standsAt (wA yX0_standsAt cX0_standsAt 4 (some .boolean)) ({ frames := 1, cells := 0, slots := 0, locals := 23 } : Room) (PG D cT n ad A G [.ref (ad k), .int (nI i), .int (nI (ps L i))]) (QG D n ad A (fun v G1 => v = some (.int 1) ∧ G1 = G)) 0 0 A := by
  refine Met.ofG (cc := cX0_standsAt) (maxL := 4) (ret := (some .boolean)) (by decide) (Nat.le_of_ble_eq_true rfl) ?_
  intro p e s m args below meth c Q hQ hx hb hr hml hlocks hown hw hP hK hE hA hS ls hl
  have hl : lv_has ls 4 [(0, .ref (ad k)), (1, .int (nI i)), (2, .int (nI (ps L i)))] := hl
  obtain ⟨p0, w, nu, ne, en, ⟨hB, hB1, hB2, hB3, hB4, hB5, hB6, hB7, hB8⟩, hBL⟩ := hR
  have hcap := BI_cap hI
  have hsz := hI.1
  have hpz := hI.2.1
  obtain ⟨hb1, hb2, hb3⟩ := hBL.2 i (hi)
  have hi3 := hI.2.2.1 i (hi)
  have hps := ps_step L (show i < cn by omega)
  have hq8 := hB8 i
  have hq7 := hB7 i
  have hq6 := hB6 i
  refine lv_aload_n hx hb dX0_standsAt_0 rfl (lv_at hl 0 rfl) ?_
  refine lv_iload_n hx hb dX0_standsAt_1 rfl (lv_at hl 1 rfl) ?_
  refine g_callV (As := [.int (nI i)]) (rest := []) ⟨hx, hb, hml, hown, hw⟩ (mX0_isNumber l D cT n ad A hD G k sz cn bx p0 w nu ne en (by omega) ⟨hB, hB1, hB2, hB3, hB4, hB5, hB6, hB7, hB8⟩ i (by omega)) (cwV 1 hw (gWV wm_X0_49 wi_X0_isNumber wse_X0_isNumber wini_X0 wc_X0_isNumber) rfl rfl rfl (by decide +kernel) ⟨Nat.le_of_ble_eq_true rfl, Nat.le_of_ble_eq_true rfl⟩) hK hE hA hP hS (k := k) (by omega) hB rfl rfl hl.1 (lv_room (Nat.le_of_ble_eq_true rfl)) dX0_standsAt_2 ⟨Nat.le_of_ble_eq_true rfl, Nat.le_of_ble_eq_true rfl⟩ (fun v_2 G_1 H locs hp hP hS => ?_)
  obtain ⟨hv, hg⟩ := hp
  subst hv
  rw [hg] at hP
  refine t_bool_eq (tgt := 38) hx hb dX0_standsAt_5 (by decide) (fun c_3 => ?_) (fun c_3 => ?_)
  · skip
    refine lv_aload_n hx hb dX0_standsAt_38 rfl (lv_at hl 0 rfl) ?_
    refine g_get (C := RX0) (T := TX0) (N := 8) hx hb hw inX0 hown hK hP (i := k) (by omega) hB rfl 5 (by decide) (hw _ wf_X0_22) rfl dX0_standsAt_39 ?_
    refine lv_iload_n hx hb dX0_standsAt_42 rfl (lv_at hl 1 rfl) ?_
    refine g_iald hx hb hK hP (i := (k + 4)) (by omega) hB4 (by omega) (by omega) dX0_standsAt_43 ?_
    have hbd_4 := hB7 i
    refine lv_iload_n hx hb dX0_standsAt_44 rfl (lv_at hl 2 rfl) ?_
    refine t_icmp_ne (tgt := 75) hx hb dX0_standsAt_45 (by decide) (by omega) (by omega) (fun c_5 => ?_) (fun c_5 => ?_)
    · exfalso; omega
    · skip
      refine lv_aload_n hx hb dX0_standsAt_48 rfl (lv_at hl 0 rfl) ?_
      refine g_get (C := RX0) (T := TX0) (N := 8) hx hb hw inX0 hown hK hP (i := k) (by omega) hB rfl 6 (by decide) (hw _ wf_X0_25) rfl dX0_standsAt_49 ?_
      refine lv_iload_n hx hb dX0_standsAt_52 rfl (lv_at hl 1 rfl) ?_
      refine g_iald hx hb hK hP (i := (k + 5)) (by omega) hB5 (by omega) (by omega) dX0_standsAt_53 ?_
      have hbd_6 := hB8 i
      refine lv_iload_n hx hb dX0_standsAt_54 rfl (lv_at hl 2 rfl) ?_
      refine t_icmp_lt (tgt := 75) hx hb dX0_standsAt_55 (by decide) (by omega) (by omega) (fun c_7 => ?_) (fun c_7 => ?_)
      · exfalso; omega
      · skip
        refine lv_aload_n hx hb dX0_standsAt_58 rfl (lv_at hl 0 rfl) ?_
        refine g_get (C := RX0) (T := TX0) (N := 8) hx hb hw inX0 hown hK hP (i := k) (by omega) hB rfl 6 (by decide) (hw _ wf_X0_25) rfl dX0_standsAt_59 ?_
        refine lv_iload_n hx hb dX0_standsAt_62 rfl (lv_at hl 1 rfl) ?_
        refine g_iald hx hb hK hP (i := (k + 5)) (by omega) hB5 (by omega) (by omega) dX0_standsAt_63 ?_
        have hbd_8 := hB8 i
        refine lv_aload_n hx hb dX0_standsAt_64 rfl (lv_at hl 0 rfl) ?_
        refine g_get (C := RX0) (T := TX0) (N := 8) hx hb hw inX0 hown hK hP (i := k) (by omega) hB rfl 1 (by decide) (hw _ wf_X0_28) rfl dX0_standsAt_65 ?_
        refine t_icmp_gt (tgt := 75) hx hb dX0_standsAt_68 (by decide) (by omega) (by omega) (fun c_9 => ?_) (fun c_9 => ?_)
        · exfalso; omega
        · skip
          refine lv_iconst (v := nI 1) hx hb dX0_standsAt_71 (by decide) ?_
          refine lv_goto (tgt := 76) hx hb dX0_standsAt_72 (by decide) ?_
          refine lv_istore_n (lv' := [(3, .int (nI 1)), (0, .ref (ad k)), (1, .int (nI i)), (2, .int (nI (ps L i)))]) hx hb dX0_standsAt_76 rfl hl (by decide) rfl (fun ls hl => ?_)
          refine lv_iload_n hx hb dX0_standsAt_77 rfl (lv_at hl 0 rfl) ?_
          refine t_if_eq (tgt := 107) hx hb dX0_standsAt_78 (by decide) (by omega) (fun c_10 => absurd c_10 (by omega)) (fun c_10 => ?_)
          refine lv_aload_n hx hb dX0_standsAt_81 rfl (lv_at hl 1 rfl) ?_
          refine g_get (C := RX0) (T := TX0) (N := 8) hx hb hw inX0 hown hK hP (i := k) (by omega) hB rfl 3 (by decide) (hw _ wf_X0_15) rfl dX0_standsAt_82 ?_
          refine lv_iload_n hx hb dX0_standsAt_85 rfl (lv_at hl 2 rfl) ?_
          refine g_iald hx hb hK hP (i := (k + 2)) (by omega) hB2 (by omega) (by omega) dX0_standsAt_86 ?_
          have hbd_11 := hB6 i
          refine lv_bipush (v := nI 116) hx hb dX0_standsAt_87 (by decide) ?_
          refine t_icmp_eq (tgt := 103) hx hb dX0_standsAt_89 (by decide) (by omega) (by omega) (fun c_12 => ?_) (fun c_12 => ?_)
          · skip
            refine lv_iconst (v := nI 1) hx hb dX0_standsAt_103 (by decide) ?_
            refine lv_goto (tgt := 108) hx hb dX0_standsAt_104 (by decide) ?_
            refine g_ret hQ hx hb hr hlocks rfl hP hS (⟨rfl, rfl⟩) (Nat.le_of_ble_eq_true rfl) (Nat.le_of_ble_eq_true rfl) dX0_standsAt_108
          · skip
            refine lv_aload_n hx hb dX0_standsAt_92 rfl (lv_at hl 1 rfl) ?_
            refine lv_iload_n hx hb dX0_standsAt_93 rfl (lv_at hl 2 rfl) ?_
            refine lv_sipush (v := nI 17488) hx hb dX0_standsAt_94 (by decide) ?_
            refine g_callV (As := [.int (nI i), .int (nI 17488)]) (rest := []) ⟨hx, hb, hml, hown, hw⟩ (mX0_hasAll l D cT n ad A hD G k sz cn bx p0 w nu ne en (by omega) ⟨hB, hB1, hB2, hB3, hB4, hB5, hB6, hB7, hB8⟩ i 17488 (by omega) (by omega) (by omega) (by decide)) (cwV 2 hw (gWV wm_X0_100 wi_X0_hasAll wse_X0_hasAll wini_X0 wc_X0_hasAll) rfl rfl rfl (by decide +kernel) ⟨Nat.le_of_ble_eq_true rfl, Nat.le_of_ble_eq_true rfl⟩) hK hE hA hP hS (k := k) (by omega) hB rfl rfl hl.1 (lv_room (Nat.le_of_ble_eq_true rfl)) dX0_standsAt_97 ⟨Nat.le_of_ble_eq_true rfl, Nat.le_of_ble_eq_true rfl⟩ (fun v_14 G_13 H locs hp hP hS => ?_)
            obtain ⟨hv, hg⟩ := hp
            subst hv
            rw [hg] at hP
            refine t_bool_eq (tgt := 107) hx hb dX0_standsAt_100 (by decide) (fun c_15 => ?_) (fun c_15 => ?_)
            · exfalso; omega
            · skip
              refine lv_iconst (v := nI 1) hx hb dX0_standsAt_103 (by decide) ?_
              refine lv_goto (tgt := 108) hx hb dX0_standsAt_104 (by decide) ?_
              refine g_ret hQ hx hb hr hlocks rfl hP hS (⟨rfl, rfl⟩) (Nat.le_of_ble_eq_true rfl) (Nat.le_of_ble_eq_true rfl) dX0_standsAt_108
  · skip
    refine lv_iload_n hx hb dX0_standsAt_8 rfl (lv_at hl 2 rfl) ?_
    refine lv_aload_n hx hb dX0_standsAt_9 rfl (lv_at hl 0 rfl) ?_
    refine g_get (C := RX0) (T := TX0) (N := 8) hx hb hw inX0 hown hK hP (i := k) (by omega) hB rfl 1 (by decide) (hw _ wf_X0_28) rfl dX0_standsAt_10 ?_
    refine t_icmp_ge (tgt := 36) hx hb dX0_standsAt_13 (by decide) (by omega) (by omega) (fun c_16 => ?_) (fun c_16 => ?_)
    · exfalso; omega
    · skip
      refine lv_aload_n hx hb dX0_standsAt_16 rfl (lv_at hl 0 rfl) ?_
      refine g_get (C := RX0) (T := TX0) (N := 8) hx hb hw inX0 hown hK hP (i := k) (by omega) hB rfl 4 (by decide) (hw _ wf_X0_19) rfl dX0_standsAt_17 ?_
      refine lv_iload_n hx hb dX0_standsAt_20 rfl (lv_at hl 1 rfl) ?_
      refine g_lald hx hb hK hP (i := (k + 3)) (by omega) hB3 (by omega) (by omega) dX0_standsAt_21 ?_
      refine lv_aload_n hx hb dX0_standsAt_22 rfl (lv_at hl 0 rfl) ?_
      refine g_get (C := RX0) (T := TX0) (N := 8) hx hb hw inX0 hown hK hP (i := k) (by omega) hB rfl 0 (by decide) (hw _ wf_X0_9) rfl dX0_standsAt_23 ?_
      refine lv_iload_n hx hb dX0_standsAt_26 rfl (lv_at hl 2 rfl) ?_
      refine g_lald hx hb hK hP (i := (k + 1)) (by omega) hB1 (by omega) (by omega) dX0_standsAt_27 ?_
      refine W.lcmp hx hb dX0_standsAt_28 ?_
      refine t_eqi (nI 0) (lgc_eq ((hb2 (by omega)).trans (hBL.1 _ (by omega)).symm)) ?_
      refine t_if_ne (tgt := 36) hx hb dX0_standsAt_29 (by decide) (by omega) (fun c_17 => absurd c_17 (by omega)) (fun c_17 => ?_)
      refine lv_iconst (v := nI 1) hx hb dX0_standsAt_32 (by decide) ?_
      refine lv_goto (tgt := 37) hx hb dX0_standsAt_33 (by decide) ?_
      refine g_ret hQ hx hb hr hlocks rfl hP hS (⟨rfl, rfl⟩) (Nat.le_of_ble_eq_true rfl) (Nat.le_of_ble_eq_true rfl) dX0_standsAt_37
end
