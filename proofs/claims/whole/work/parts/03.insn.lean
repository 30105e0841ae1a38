def aI (cT : Nat → ClassId) (N : Nat) (w : Nat → Nat) : va_E := .inl (cT 1, N, .inl (fun j => nI (w j)))
def aC (cT : Nat → ClassId) (N : Nat) (w : Nat → Nat) : va_E := .inl (cT 2, N, .inl (fun j => nI (w j)))
def aZ (cT : Nat → ClassId) (N : Nat) (w : Nat → Nat) : va_E := .inl (cT 3, N, .inl (fun j => nI (w j)))
def aJ (cT : Nat → ClassId) (N : Nat) (f : Nat → Int64) : va_E := .inl (cT 0, N, .inr (.inl f))
def aD (cT : Nat → ClassId) (N : Nat) (f : Nat → UInt64) : va_E := .inl (cT 4, N, .inr (.inr (.inr (.inl f))))
def aQ (c : ClassId) (N : Nat) (r : Nat → Option Nat) : va_E := .inl (c, N, .inr (.inr (.inr (.inr r))))
theorem upd_nI (w : Nat → Nat) (j v : Nat) : upd (fun k => nI (w k)) j (nI v) = fun k => nI (va_up w j v k) := by
  funext k
  by_cases h : k = j <;> simp [upd, va_up, h]
theorem updL_up (f : Nat → Int64) (j : Nat) (v : Int64) : vp_updL f j v = va_up f j v := rfl
theorem cpy_nI (f g : Nat → Nat) (sp dp k : Nat) : va_cpy (fun j => nI (f j)) (fun j => nI (g j)) sp dp k = fun j => nI (va_cpy f g sp dp k j) := by
  funext j
  unfold va_cpy
  split <;> rfl
section GI
variable {p : Program} {l : Launch} {e : Env} {R : Room} {s : State} {m : MethodId} {args : Array Value} {below : List Frame} {meth : Method} {c : Code} {H : Heap} {locs : List Loc} {cells slots : Nat} {Q : State → Prop}
variable {cc : ByteArray} {pc : Nat} {ls : Array Slot} {rest : List Value} {D : va_G} {cT : Nat → ClassId} {n : Nat} {ad : Nat → Nat} {A : Nat → Prop} {G : Nat → va_E}
theorem t_eqi {x : Int32} (v : Int32) (h : x = v) (k : W p l e R s m args below meth c H locs cells slots Q (F0 m pc ls (.int v :: rest))) : W p l e R s m args below meth c H locs cells slots Q (F0 m pc ls (.int x :: rest)) := by
  rw [h]; exact k
theorem t_eql {x : Int64} (v : Int64) (h : x = v) (k : W p l e R s m args below meth c H locs cells slots Q (F0 m pc ls (.long v :: rest))) : W p l e R s m args below meth c H locs cells slots Q (F0 m pc ls (.long x :: rest)) := by
  rw [h]; exact k
theorem t_icmp_ge (hx : p.tables.exec = Jvm.exec) (hb : c.code = cc) {a b : Nat} {off : Int} {tgt : Nat} (hdg : decode cc pc = .ok (.if_icmp .ge off, 3)) (ht : (pc : Int) + off = (tgt : Int)) (ha2 : a < 2 ^ 31) (hb2 : b < 2 ^ 31)
    (K1 : b ≤ a → W p l e R s m args below meth c H locs cells slots Q (F0 m tgt ls rest)) (K2 : a < b → W p l e R s m args below meth c H locs cells slots Q (F0 m (pc + 3) ls rest)) : W p l e R s m args below meth c H locs cells slots Q (F0 m pc ls (.int (nI b) :: .int (nI a) :: rest)) :=
  lv_icmp_ge hx hb hdg ht (fun h => K1 ((nI_leI hb2 ha2).mp h)) (fun h => K2 (Nat.lt_of_not_le (fun z => h ((nI_leI hb2 ha2).mpr z))))
theorem t_icmp_lt (hx : p.tables.exec = Jvm.exec) (hb : c.code = cc) {a b : Nat} {off : Int} {tgt : Nat} (hdg : decode cc pc = .ok (.if_icmp .lt off, 3)) (ht : (pc : Int) + off = (tgt : Int)) (ha2 : a < 2 ^ 31) (hb2 : b < 2 ^ 31)
    (K1 : a < b → W p l e R s m args below meth c H locs cells slots Q (F0 m tgt ls rest)) (K2 : b ≤ a → W p l e R s m args below meth c H locs cells slots Q (F0 m (pc + 3) ls rest)) : W p l e R s m args below meth c H locs cells slots Q (F0 m pc ls (.int (nI b) :: .int (nI a) :: rest)) :=
  lv_icmp_lt hx hb hdg ht (fun h => K1 ((nI_ltI ha2 hb2).mp h)) (fun h => K2 (Nat.le_of_not_lt (fun z => h ((nI_ltI ha2 hb2).mpr z))))
theorem t_icmp_gt (hx : p.tables.exec = Jvm.exec) (hb : c.code = cc) {a b : Nat} {off : Int} {tgt : Nat} (hdg : decode cc pc = .ok (.if_icmp .gt off, 3)) (ht : (pc : Int) + off = (tgt : Int)) (ha2 : a < 2 ^ 31) (hb2 : b < 2 ^ 31)
    (K1 : b < a → W p l e R s m args below meth c H locs cells slots Q (F0 m tgt ls rest)) (K2 : a ≤ b → W p l e R s m args below meth c H locs cells slots Q (F0 m (pc + 3) ls rest)) : W p l e R s m args below meth c H locs cells slots Q (F0 m pc ls (.int (nI b) :: .int (nI a) :: rest)) :=
  lv_icmp_gt hx hb hdg ht (fun h => K1 ((nI_ltI hb2 ha2).mp h)) (fun h => K2 (Nat.le_of_not_lt (fun z => h ((nI_ltI hb2 ha2).mpr z))))
theorem t_icmp_le (hx : p.tables.exec = Jvm.exec) (hb : c.code = cc) {a b : Nat} {off : Int} {tgt : Nat} (hdg : decode cc pc = .ok (.if_icmp .le off, 3)) (ht : (pc : Int) + off = (tgt : Int)) (ha2 : a < 2 ^ 31) (hb2 : b < 2 ^ 31)
    (K1 : a ≤ b → W p l e R s m args below meth c H locs cells slots Q (F0 m tgt ls rest)) (K2 : b < a → W p l e R s m args below meth c H locs cells slots Q (F0 m (pc + 3) ls rest)) : W p l e R s m args below meth c H locs cells slots Q (F0 m pc ls (.int (nI b) :: .int (nI a) :: rest)) :=
  lv_icmp_le hx hb hdg ht (fun h => K1 ((nI_leI ha2 hb2).mp h)) (fun h => K2 (Nat.lt_of_not_le (fun z => h ((nI_leI ha2 hb2).mpr z))))
theorem t_icmp_eq (hx : p.tables.exec = Jvm.exec) (hb : c.code = cc) {a b : Nat} {off : Int} {tgt : Nat} (hdg : decode cc pc = .ok (.if_icmp .eq off, 3)) (ht : (pc : Int) + off = (tgt : Int)) (ha2 : a < 2 ^ 31) (hb2 : b < 2 ^ 31)
    (K1 : a = b → W p l e R s m args below meth c H locs cells slots Q (F0 m tgt ls rest)) (K2 : a ≠ b → W p l e R s m args below meth c H locs cells slots Q (F0 m (pc + 3) ls rest)) : W p l e R s m args below meth c H locs cells slots Q (F0 m pc ls (.int (nI b) :: .int (nI a) :: rest)) :=
  lv_icmp_eq hx hb hdg ht (fun h => K1 ((nI_eq ha2 hb2).mp h)) (fun h => K2 (fun z => h ((nI_eq ha2 hb2).mpr z)))
theorem t_icmp_ne (hx : p.tables.exec = Jvm.exec) (hb : c.code = cc) {a b : Nat} {off : Int} {tgt : Nat} (hdg : decode cc pc = .ok (.if_icmp .ne off, 3)) (ht : (pc : Int) + off = (tgt : Int)) (ha2 : a < 2 ^ 31) (hb2 : b < 2 ^ 31)
    (K1 : a ≠ b → W p l e R s m args below meth c H locs cells slots Q (F0 m tgt ls rest)) (K2 : a = b → W p l e R s m args below meth c H locs cells slots Q (F0 m (pc + 3) ls rest)) : W p l e R s m args below meth c H locs cells slots Q (F0 m pc ls (.int (nI b) :: .int (nI a) :: rest)) :=
  lv_icmp_ne hx hb hdg ht (fun h => K1 (fun z => h ((nI_eq ha2 hb2).mpr z))) (fun h => K2 ((nI_eq ha2 hb2).mp h))
theorem t_if_lt (hx : p.tables.exec = Jvm.exec) (hb : c.code = cc) {a : Nat} {off : Int} {tgt : Nat} (hdg : decode cc pc = .ok (.ifCond .lt off, 3)) (ht : (pc : Int) + off = (tgt : Int)) (ha2 : a < 2 ^ 31)
    (K2 : W p l e R s m args below meth c H locs cells slots Q (F0 m (pc + 3) ls rest)) : W p l e R s m args below meth c H locs cells slots Q (F0 m pc ls (.int (nI a) :: rest)) :=
  lv_if_lt hx hb hdg ht (fun h => absurd h (nI_pos ha2)) (fun _ => K2)
theorem t_if_ge (hx : p.tables.exec = Jvm.exec) (hb : c.code = cc) {a : Nat} {off : Int} {tgt : Nat} (hdg : decode cc pc = .ok (.ifCond .ge off, 3)) (ht : (pc : Int) + off = (tgt : Int)) (ha2 : a < 2 ^ 31)
    (K1 : W p l e R s m args below meth c H locs cells slots Q (F0 m tgt ls rest)) : W p l e R s m args below meth c H locs cells slots Q (F0 m pc ls (.int (nI a) :: rest)) :=
  lv_if_ge hx hb hdg ht (fun _ => K1) (fun h => absurd (nI_pos' ha2) h)
theorem t_if_eq (hx : p.tables.exec = Jvm.exec) (hb : c.code = cc) {a : Nat} {off : Int} {tgt : Nat} (hdg : decode cc pc = .ok (.ifCond .eq off, 3)) (ht : (pc : Int) + off = (tgt : Int)) (ha2 : a < 2 ^ 31)
    (K1 : a = 0 → W p l e R s m args below meth c H locs cells slots Q (F0 m tgt ls rest)) (K2 : 0 < a → W p l e R s m args below meth c H locs cells slots Q (F0 m (pc + 3) ls rest)) : W p l e R s m args below meth c H locs cells slots Q (F0 m pc ls (.int (nI a) :: rest)) :=
  lv_if_eq hx hb hdg ht (fun h => K1 (by rcases Nat.eq_zero_or_pos a with q | q; exact q; exact absurd h (nI_ne0 q ha2))) (fun h => K2 (by rcases Nat.eq_zero_or_pos a with q | q; exact absurd (by rw [q]; rfl) h; exact q))
theorem t_if_ne (hx : p.tables.exec = Jvm.exec) (hb : c.code = cc) {a : Nat} {off : Int} {tgt : Nat} (hdg : decode cc pc = .ok (.ifCond .ne off, 3)) (ht : (pc : Int) + off = (tgt : Int)) (ha2 : a < 2 ^ 31)
    (K1 : 0 < a → W p l e R s m args below meth c H locs cells slots Q (F0 m tgt ls rest)) (K2 : a = 0 → W p l e R s m args below meth c H locs cells slots Q (F0 m (pc + 3) ls rest)) : W p l e R s m args below meth c H locs cells slots Q (F0 m pc ls (.int (nI a) :: rest)) :=
  lv_if_ne hx hb hdg ht (fun h => K1 (by rcases Nat.eq_zero_or_pos a with q | q; exact absurd (by rw [q]; rfl) h; exact q)) (fun h => K2 (by rcases Nat.eq_zero_or_pos a with q | q; exact q; exact absurd h (nI_ne0 q ha2)))
theorem t_if_le (hx : p.tables.exec = Jvm.exec) (hb : c.code = cc) {a : Nat} {off : Int} {tgt : Nat} (hdg : decode cc pc = .ok (.ifCond .le off, 3)) (ht : (pc : Int) + off = (tgt : Int)) (ha2 : a < 2 ^ 31)
    (K1 : a = 0 → W p l e R s m args below meth c H locs cells slots Q (F0 m tgt ls rest)) (K2 : 0 < a → W p l e R s m args below meth c H locs cells slots Q (F0 m (pc + 3) ls rest)) : W p l e R s m args below meth c H locs cells slots Q (F0 m pc ls (.int (nI a) :: rest)) :=
  lv_if_le hx hb hdg ht (fun h => K1 (by rcases Nat.eq_zero_or_pos a with q | q; exact q; exact absurd h (nI_nle q ha2))) (fun h => K2 (by rcases Nat.eq_zero_or_pos a with q | q; exact absurd (by rw [q]; decide) h; exact q))
theorem t_if_gt (hx : p.tables.exec = Jvm.exec) (hb : c.code = cc) {a : Nat} {off : Int} {tgt : Nat} (hdg : decode cc pc = .ok (.ifCond .gt off, 3)) (ht : (pc : Int) + off = (tgt : Int)) (ha2 : a < 2 ^ 31)
    (K1 : 0 < a → W p l e R s m args below meth c H locs cells slots Q (F0 m tgt ls rest)) (K2 : a = 0 → W p l e R s m args below meth c H locs cells slots Q (F0 m (pc + 3) ls rest)) : W p l e R s m args below meth c H locs cells slots Q (F0 m pc ls (.int (nI a) :: rest)) :=
  lv_if_gt hx hb hdg ht (fun h => K1 (by rcases Nat.eq_zero_or_pos a with q | q; exact absurd h (by rw [q]; decide); exact q)) (fun h => K2 (by rcases Nat.eq_zero_or_pos a with q | q; exact q; exact absurd (by have h1 := nI_lt q ha2; rw [nI_0] at h1; exact h1) h))
theorem t_bool_eq (hx : p.tables.exec = Jvm.exec) (hb : c.code = cc) {q : Prop} [hq : Decidable q] {off : Int} {tgt : Nat} (hdg : decode cc pc = .ok (.ifCond .eq off, 3)) (ht : (pc : Int) + off = (tgt : Int))
    (K1 : ¬ q → W p l e R s m args below meth c H locs cells slots Q (F0 m tgt ls rest)) (K2 : q → W p l e R s m args below meth c H locs cells slots Q (F0 m (pc + 3) ls rest)) : W p l e R s m args below meth c H locs cells slots Q (F0 m pc ls (.int (if q then 1 else 0) :: rest)) :=
  lv_if_eq hx hb hdg ht (fun h => K1 (fun z => by rw [if_pos z] at h; exact absurd h (by decide))) (fun h => K2 (by by_cases z : q; exact z; rw [if_neg z] at h; exact absurd rfl h))
theorem t_bool_ne (hx : p.tables.exec = Jvm.exec) (hb : c.code = cc) {q : Prop} [hq : Decidable q] {off : Int} {tgt : Nat} (hdg : decode cc pc = .ok (.ifCond .ne off, 3)) (ht : (pc : Int) + off = (tgt : Int))
    (K1 : q → W p l e R s m args below meth c H locs cells slots Q (F0 m tgt ls rest)) (K2 : ¬ q → W p l e R s m args below meth c H locs cells slots Q (F0 m (pc + 3) ls rest)) : W p l e R s m args below meth c H locs cells slots Q (F0 m pc ls (.int (if q then 1 else 0) :: rest)) :=
  lv_if_ne hx hb hdg ht (fun h => K1 (by by_cases z : q; exact z; rw [if_neg z] at h; exact absurd rfl h)) (fun h => K2 (fun z => by rw [if_pos z] at h; exact absurd h (by decide)))
theorem g_get (hx : p.tables.exec = Jvm.exec) (hb : c.code = cc) {own C : String} {T : u_T} {N ci index : Nat} {Ts : List Cond} (hts : ∀ w ∈ Ts, w.before args s = true) (hin : ∀ w ∈ u_ws C T N, w ∈ Ts) (hown : s.vm.findClass own = some m.cls) (hK : va_K D vwCl (tysC cT) s) (hP : va_P D vwCl (gw n ad G) H) {i : Nat} (hi : i < n) {fs : List Value} (hG : G i = .inr (ci, fs)) (hc : vwCl[ci]? = some (C, T, N)) (k : Nat) (hk : k < N) (hlink : (Cond.fieldLink own index (T k).1 (T k).2.1 (T k).2.2.1).before args s = true) {v : Value} (hv : fs[k]? = some v) (hdg : decode cc pc = .ok (.getfield index, 3))
    (kk : W p l e R s m args below meth c H locs cells slots Q (F0 m (pc + 3) ls (v :: rest))) : W p l e R s m args below meth c H locs cells slots Q (F0 m pc ls (.ref (ad i) :: rest)) :=
  va_get hx hb hts hin hown hK hP i (gw_get hi hG) hc k hk hlink (fun _ h => h) hv hdg kk
theorem g_put (hx : p.tables.exec = Jvm.exec) (hb : c.code = cc) {own C : String} {T : u_T} {N ci index : Nat} {Ts : List Cond} (hts : ∀ w ∈ Ts, w.before args s = true) (hin : ∀ w ∈ u_ws C T N, w ∈ Ts) (ty0 : Nat → FieldType) (hty : ∀ k, k < N → parseFieldDescriptor (T k).2.2.1 = some (ty0 k)) (hnm : ∀ a, a < N → ∀ b, b < N → a ≠ b → (T a).2.1 ≠ (T b).2.1) (hown : s.vm.findClass own = some m.cls) (hK : va_K D vwCl (tysC cT) s) (hP : va_P D vwCl (gw n ad G) H) (hD : ∀ G, va_D A (gw n ad G)) (hS : va_S A s.heap H locs) {i : Nat} (hi : i < n) {fs : List Value} (hG : G i = .inr (ci, fs)) (hc : vwCl[ci]? = some (C, T, N)) (k : Nat) (hk : k < N) (hlink : (Cond.fieldLink own index (T k).1 (T k).2.1 (T k).2.2.1).before args s = true) (hfin : (T k).2.2.2 = false) {ty : FieldType} {v : Value} (hd : parseFieldDescriptor (T k).2.2.1 = some ty) (hn : narrow ty v = v) (hfit : fits ty v = true) (hl : k < fs.length) (hdg : decode cc pc = .ok (.putfield index, 3))
    (kk : ∀ (G1 : Nat → va_E) (H1 : Heap) (locs1 : List Loc), G1 i = .inr (ci, fs.set k v) → (∀ j, j ≠ i → G1 j = G j) → va_P D vwCl (gw n ad G1) H1 → va_S A s.heap H1 locs1 → W p l e R s m args below meth c H1 locs1 cells slots Q (F0 m (pc + 3) ls rest)) : W p l e R s m args below meth c H locs cells slots Q (F0 m pc ls (v :: .ref (ad i) :: rest)) :=
  va_put hx hb hts hin ty0 hty hnm hown hK hP (hD G) hS i (gw_get hi hG) hc k hk hlink (fun _ h => h) hfin hd hn hfit hl hdg (fun H1 locs1 h1 _ h3 => kk (va_up G i (.inr (ci, fs.set k v))) H1 locs1 (va_up_self _ _ _) (fun j hj => va_up_ne _ _ hj) (by rw [← gw_set _ hi]; exact h1) h3)
theorem g_iald (hx : p.tables.exec = Jvm.exec) (hb : c.code = cc) (hK : va_K D vwCl (tysC cT) s) (hP : va_P D vwCl (gw n ad G) H) {i N : Nat} (hi : i < n) {f : Nat → Nat} (hG : G i = aI cT N f) {j : Nat} (hj : j < N) (hN : N < 2 ^ 31) (hdg : decode cc pc = .ok (.iaload, 1))
    (kk : W p l e R s m args below meth c H locs cells slots Q (F0 m (pc + 1) ls (.int (nI (f j)) :: rest))) : W p l e R s m args below meth c H locs cells slots Q (F0 m pc ls (.int (nI j) :: .ref (ad i) :: rest)) := by
  refine va_iald hx hb hK hP i 1 (gw_get hi hG) rfl (vp_in_nI hj hN) hdg ?_
  rw [nI_clamp (Nat.lt_trans hj hN)]
  exact kk
theorem g_cald (hx : p.tables.exec = Jvm.exec) (hb : c.code = cc) (hK : va_K D vwCl (tysC cT) s) (hP : va_P D vwCl (gw n ad G) H) {i N : Nat} (hi : i < n) {f : Nat → Nat} (hG : G i = aC cT N f) {j : Nat} (hj : j < N) (hN : N < 2 ^ 31) (hdg : decode cc pc = .ok (.caload, 1))
    (kk : W p l e R s m args below meth c H locs cells slots Q (F0 m (pc + 1) ls (.int (nI (f j)) :: rest))) : W p l e R s m args below meth c H locs cells slots Q (F0 m pc ls (.int (nI j) :: .ref (ad i) :: rest)) := by
  refine va_cald hx hb hK hP i 2 (gw_get hi hG) rfl (vp_in_nI hj hN) hdg ?_
  rw [nI_clamp (Nat.lt_trans hj hN)]
  exact kk
theorem g_zald (hx : p.tables.exec = Jvm.exec) (hb : c.code = cc) (hK : va_K D vwCl (tysC cT) s) (hP : va_P D vwCl (gw n ad G) H) {i N : Nat} (hi : i < n) {f : Nat → Nat} (hG : G i = aZ cT N f) {j : Nat} (hj : j < N) (hN : N < 2 ^ 31) (hdg : decode cc pc = .ok (.baload, 1))
    (kk : W p l e R s m args below meth c H locs cells slots Q (F0 m (pc + 1) ls (.int (nI (f j)) :: rest))) : W p l e R s m args below meth c H locs cells slots Q (F0 m pc ls (.int (nI j) :: .ref (ad i) :: rest)) := by
  refine va_zald hx hb hK hP i 3 (gw_get hi hG) rfl (vp_in_nI hj hN) hdg ?_
  rw [nI_clamp (Nat.lt_trans hj hN)]
  exact kk
theorem g_lald (hx : p.tables.exec = Jvm.exec) (hb : c.code = cc) (hK : va_K D vwCl (tysC cT) s) (hP : va_P D vwCl (gw n ad G) H) {i N : Nat} (hi : i < n) {f : Nat → Int64} (hG : G i = aJ cT N f) {j : Nat} (hj : j < N) (hN : N < 2 ^ 31) (hdg : decode cc pc = .ok (.laload, 1))
    (kk : W p l e R s m args below meth c H locs cells slots Q (F0 m (pc + 1) ls (.long (f j) :: rest))) : W p l e R s m args below meth c H locs cells slots Q (F0 m pc ls (.int (nI j) :: .ref (ad i) :: rest)) := by
  refine va_lald hx hb hK hP i 0 (gw_get hi hG) rfl (vp_in_nI hj hN) hdg ?_
  rw [nI_clamp (Nat.lt_trans hj hN)]
  exact kk
theorem g_dald (hx : p.tables.exec = Jvm.exec) (hb : c.code = cc) (hK : va_K D vwCl (tysC cT) s) (hP : va_P D vwCl (gw n ad G) H) {i N : Nat} (hi : i < n) {f : Nat → UInt64} (hG : G i = aD cT N f) {j : Nat} (hj : j < N) (hN : N < 2 ^ 31) (hdg : decode cc pc = .ok (.daload, 1))
    (kk : W p l e R s m args below meth c H locs cells slots Q (F0 m (pc + 1) ls (.double (f j) :: rest))) : W p l e R s m args below meth c H locs cells slots Q (F0 m pc ls (.int (nI j) :: .ref (ad i) :: rest)) := by
  refine va_dald hx hb hK hP i 4 (gw_get hi hG) rfl (vp_in_nI hj hN) hdg ?_
  rw [nI_clamp (Nat.lt_trans hj hN)]
  exact kk
theorem g_aald (hx : p.tables.exec = Jvm.exec) (hb : c.code = cc) (hK : va_K D vwCl (tysC cT) s) (hP : va_P D vwCl (gw n ad G) H) (t0 : Nat) {ty : FieldType} {i N : Nat} (hi : i < n) {cA : ClassId} {r : Nat → Option Nat} (hG : G i = aQ cA N r) (ht : (tysC cT)[t0]? = some (cA, ty)) (hty : ty.isReference = true) {j k : Nat} (hj : j < N) (hN : N < 2 ^ 31) (hr : r j = some k) (hdg : decode cc pc = .ok (.aaload, 1))
    (kk : W p l e R s m args below meth c H locs cells slots Q (F0 m (pc + 1) ls (.ref k :: rest))) : W p l e R s m args below meth c H locs cells slots Q (F0 m pc ls (.int (nI j) :: .ref (ad i) :: rest)) := by
  have hcl : (nI j).toNatClampNeg = j := nI_clamp (Nat.lt_trans hj hN)
  exact W.aald (v := .ref k) (ty := ty) hx hb (hP i _ (gw_get hi hG)) ((hK.2 t0 _ ht).1 N (fun j => va_rf (r j))) hty (fun q => by cases q) (by show ¬ (nI j < 0 ∨ (arrV _ _ _).slots.size ≤ _); rw [arrV_size]; exact vp_in_nI hj hN) (by show (arrV _ _ _).slots[_]? = _; rw [hcl, arrV_read _ _ hj, hr]; rfl) rfl rfl hdg kk
theorem g_iast (hx : p.tables.exec = Jvm.exec) (hb : c.code = cc) (hK : va_K D vwCl (tysC cT) s) (hP : va_P D vwCl (gw n ad G) H) (hD : ∀ G, va_D A (gw n ad G)) (hS : va_S A s.heap H locs) {i N : Nat} (hi : i < n) {f : Nat → Nat} (hG : G i = aI cT N f) {j : Nat} {x : Nat} (hj : j < N) (hN : N < 2 ^ 31) (hdg : decode cc pc = .ok (.iastore, 1))
    (kk : ∀ (G1 : Nat → va_E) (H1 : Heap) (locs1 : List Loc), G1 i = aI cT N (va_up f j x) → (∀ k, k ≠ i → G1 k = G k) → va_P D vwCl (gw n ad G1) H1 → va_S A s.heap H1 locs1 → W p l e R s m args below meth c H1 locs1 cells slots Q (F0 m (pc + 1) ls rest)) : W p l e R s m args below meth c H locs cells slots Q (F0 m pc ls (.int (nI x) :: .int (nI j) :: .ref (ad i) :: rest)) := by
  refine va_iast hx hb hK hP (hD G) hS i 1 (gw_get hi hG) rfl (vp_in_nI hj hN) hdg (fun H1 locs1 h1 _ h3 => ?_)
  rw [nI_clamp (Nat.lt_trans hj hN), gw_set _ hi] at h1
  refine kk _ H1 locs1 ?_ (fun k hk => va_up_ne _ _ hk) h1 h3
  rw [va_up_self]
  rw [upd_nI]; rfl
theorem g_last (hx : p.tables.exec = Jvm.exec) (hb : c.code = cc) (hK : va_K D vwCl (tysC cT) s) (hP : va_P D vwCl (gw n ad G) H) (hD : ∀ G, va_D A (gw n ad G)) (hS : va_S A s.heap H locs) {i N : Nat} (hi : i < n) {f : Nat → Int64} (hG : G i = aJ cT N f) {j : Nat} {x : Int64} (hj : j < N) (hN : N < 2 ^ 31) (hdg : decode cc pc = .ok (.lastore, 1))
    (kk : ∀ (G1 : Nat → va_E) (H1 : Heap) (locs1 : List Loc), G1 i = aJ cT N (va_up f j x) → (∀ k, k ≠ i → G1 k = G k) → va_P D vwCl (gw n ad G1) H1 → va_S A s.heap H1 locs1 → W p l e R s m args below meth c H1 locs1 cells slots Q (F0 m (pc + 1) ls rest)) : W p l e R s m args below meth c H locs cells slots Q (F0 m pc ls (.long x :: .int (nI j) :: .ref (ad i) :: rest)) := by
  refine va_last hx hb hK hP (hD G) hS i 0 (gw_get hi hG) rfl (vp_in_nI hj hN) hdg (fun H1 locs1 h1 _ h3 => ?_)
  rw [nI_clamp (Nat.lt_trans hj hN), gw_set _ hi] at h1
  refine kk _ H1 locs1 ?_ (fun k hk => va_up_ne _ _ hk) h1 h3
  rw [va_up_self]
  rfl
theorem g_dast (hx : p.tables.exec = Jvm.exec) (hb : c.code = cc) (hK : va_K D vwCl (tysC cT) s) (hP : va_P D vwCl (gw n ad G) H) (hD : ∀ G, va_D A (gw n ad G)) (hS : va_S A s.heap H locs) {i N : Nat} (hi : i < n) {f : Nat → UInt64} (hG : G i = aD cT N f) {j : Nat} {x : UInt64} (hj : j < N) (hN : N < 2 ^ 31) (hdg : decode cc pc = .ok (.dastore, 1))
    (kk : ∀ (G1 : Nat → va_E) (H1 : Heap) (locs1 : List Loc), G1 i = aD cT N (va_up f j x) → (∀ k, k ≠ i → G1 k = G k) → va_P D vwCl (gw n ad G1) H1 → va_S A s.heap H1 locs1 → W p l e R s m args below meth c H1 locs1 cells slots Q (F0 m (pc + 1) ls rest)) : W p l e R s m args below meth c H locs cells slots Q (F0 m pc ls (.double x :: .int (nI j) :: .ref (ad i) :: rest)) := by
  refine va_dast hx hb hK hP (hD G) hS i 4 (gw_get hi hG) rfl (vp_in_nI hj hN) hdg (fun H1 locs1 h1 _ h3 => ?_)
  rw [nI_clamp (Nat.lt_trans hj hN), gw_set _ hi] at h1
  refine kk _ H1 locs1 ?_ (fun k hk => va_up_ne _ _ hk) h1 h3
  rw [va_up_self]
  rfl
theorem g_cast (hx : p.tables.exec = Jvm.exec) (hb : c.code = cc) (hK : va_K D vwCl (tysC cT) s) (hP : va_P D vwCl (gw n ad G) H) (hD : ∀ G, va_D A (gw n ad G)) (hS : va_S A s.heap H locs) {i N : Nat} (hi : i < n) {f : Nat → Nat} (hG : G i = aC cT N f) {j : Nat} {x : Nat} (hx16 : x < 65536) (hj : j < N) (hN : N < 2 ^ 31) (hdg : decode cc pc = .ok (.castore, 1))
    (kk : ∀ (G1 : Nat → va_E) (H1 : Heap) (locs1 : List Loc), G1 i = aC cT N (va_up f j x) → (∀ k, k ≠ i → G1 k = G k) → va_P D vwCl (gw n ad G1) H1 → va_S A s.heap H1 locs1 → W p l e R s m args below meth c H1 locs1 cells slots Q (F0 m (pc + 1) ls rest)) : W p l e R s m args below meth c H locs cells slots Q (F0 m pc ls (.int (nI x) :: .int (nI j) :: .ref (ad i) :: rest)) := by
  refine va_cast hx hb hK hP (hD G) hS i 2 (gw_get hi hG) rfl (vp_in_nI hj hN) hdg (fun H1 locs1 h1 _ h3 => ?_)
  rw [nI_clamp (Nat.lt_trans hj hN), gw_set _ hi] at h1
  refine kk _ H1 locs1 ?_ (fun k hk => va_up_ne _ _ hk) h1 h3
  rw [va_up_self]
  have e9 : vp_nar .char (nI x) = nI x := by (unfold vp_nar; rw [(pk_charN hx16).1])
  rw [e9, upd_nI]; rfl
theorem g_copyi (hx : p.tables.exec = Jvm.exec) (hb : c.code = cc) (hml : c.maxLocals = ls.size) {own : String} {index : Nat} (hown : s.vm.findClass own = some m.cls) (hlink : (Cond.methodLink own index arraycopyName).before args s = true) (hnat : (Cond.native arraycopyName).before args s = true) (hstat : (Cond.static arraycopyName).before args s = true) (hini : (Cond.initialized "java/lang/System").before args s = true)
    (hK : va_K D vwCl (tysC cT) s) (hP : va_P D vwCl (gw n ad G) H) (hD : ∀ G, va_D A (gw n ad G)) (hS : va_S A s.heap H locs) {i N : Nat} (hi : i < n) {f : Nat → Nat} (hG : G i = aI cT N f) {sp dp k : Nat} (h4 : sp + k ≤ N) (h5 : dp + k ≤ N) (hN : N < 2 ^ 31)
    (hframes : 1 ≤ R.frames) (hlocals : (rest.map fun v => v.category).sum + (nativeFrameWords "java/lang/System" "arraycopy" 5 + 11) ≤ R.locals) (hdg : decode cc pc = .ok (.invokestatic index, 3))
    (kk : ∀ (G1 : Nat → va_E) (H1 : Heap) (locs1 : List Loc), G1 i = aI cT N (va_cpy f f sp dp k) → (∀ j, j ≠ i → G1 j = G j) → va_P D vwCl (gw n ad G1) H1 → va_S A s.heap H1 locs1 → W p l e R s m args below meth c H1 locs1 cells slots Q (F0 m (pc + 3) ls rest)) : W p l e R s m args below meth c H locs cells slots Q (F0 m pc ls (.int (nI k) :: .int (nI dp) :: .ref (ad i) :: .int (nI sp) :: .ref (ad i) :: rest)) := by
  have e1 : (nI sp).toNatClampNeg = sp := nI_clamp (by omega)
  have e2 : (nI dp).toNatClampNeg = dp := nI_clamp (by omega)
  have e3 : (nI k).toNatClampNeg = k := nI_clamp (by omega)
  refine va_copyi hx hb hml hown hlink hnat hstat hini hK hP (hD G) hS i i 1 1 (gw_get hi hG) (gw_get hi hG) rfl rfl rfl (nI_pos (by omega)) (nI_pos (by omega)) (nI_pos (by omega)) (by rw [e1, e3]; exact h4) (by rw [e2, e3]; exact h5) (fun _ _ => rfl) hframes hlocals hdg (fun H1 locs1 h1 _ h3 => ?_)
  rw [e1, e2, e3, gw_set _ hi] at h1
  refine kk _ H1 locs1 ?_ (fun k hk => va_up_ne _ _ hk) h1 h3
  rw [va_up_self]
  rw [cpy_nI]; rfl
theorem g_copyl (hx : p.tables.exec = Jvm.exec) (hb : c.code = cc) (hml : c.maxLocals = ls.size) {own : String} {index : Nat} (hown : s.vm.findClass own = some m.cls) (hlink : (Cond.methodLink own index arraycopyName).before args s = true) (hnat : (Cond.native arraycopyName).before args s = true) (hstat : (Cond.static arraycopyName).before args s = true) (hini : (Cond.initialized "java/lang/System").before args s = true)
    (hK : va_K D vwCl (tysC cT) s) (hP : va_P D vwCl (gw n ad G) H) (hD : ∀ G, va_D A (gw n ad G)) (hS : va_S A s.heap H locs) {i N : Nat} (hi : i < n) {f : Nat → Int64} (hG : G i = aJ cT N f) {sp dp k : Nat} (h4 : sp + k ≤ N) (h5 : dp + k ≤ N) (hN : N < 2 ^ 31)
    (hframes : 1 ≤ R.frames) (hlocals : (rest.map fun v => v.category).sum + (nativeFrameWords "java/lang/System" "arraycopy" 5 + 11) ≤ R.locals) (hdg : decode cc pc = .ok (.invokestatic index, 3))
    (kk : ∀ (G1 : Nat → va_E) (H1 : Heap) (locs1 : List Loc), G1 i = aJ cT N (va_cpy f f sp dp k) → (∀ j, j ≠ i → G1 j = G j) → va_P D vwCl (gw n ad G1) H1 → va_S A s.heap H1 locs1 → W p l e R s m args below meth c H1 locs1 cells slots Q (F0 m (pc + 3) ls rest)) : W p l e R s m args below meth c H locs cells slots Q (F0 m pc ls (.int (nI k) :: .int (nI dp) :: .ref (ad i) :: .int (nI sp) :: .ref (ad i) :: rest)) := by
  have e1 : (nI sp).toNatClampNeg = sp := nI_clamp (by omega)
  have e2 : (nI dp).toNatClampNeg = dp := nI_clamp (by omega)
  have e3 : (nI k).toNatClampNeg = k := nI_clamp (by omega)
  refine va_copyl hx hb hml hown hlink hnat hstat hini hK hP (hD G) hS i i 0 0 (gw_get hi hG) (gw_get hi hG) rfl rfl rfl (nI_pos (by omega)) (nI_pos (by omega)) (nI_pos (by omega)) (by rw [e1, e3]; exact h4) (by rw [e2, e3]; exact h5) (fun _ _ => rfl) hframes hlocals hdg (fun H1 locs1 h1 _ h3 => ?_)
  rw [e1, e2, e3, gw_set _ hi] at h1
  refine kk _ H1 locs1 ?_ (fun k hk => va_up_ne _ _ hk) h1 h3
  rw [va_up_self]
  rfl
end GI
