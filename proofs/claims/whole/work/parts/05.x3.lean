/-! X: contracts (XM), calls, returns. -/
def xPc (Ω : xO) (av : List Value) (N : Nat) (h : xHp) : Array Value → State → Prop := va_Pc (av.map (xv Ω)) (fun U => xH Ω N h U.heap ∧ va_K Ω.1 xcl (xtys Ω.2.1) U ∧ xst Ω U)
def xQc (Ω : xO) (N : Nat) (Qp : Option Value → xHp → Prop) : Array Value → State → Outcome → State → Prop := fun _ _ o t => ∃ (r : Option Value) (h' : xHp), o = .returned (r.map (xv Ω)) ∧ Qp r h' ∧ xH Ω N h' t.heap
def xroom (d mc ms : Nat) : Room := { frames := d, cells := mc, slots := ms, locals := 48 * d }
/-- method y's contract: with arguments av over the cells h it returns r, and the cells are h', so that Qp r h'; it nests d deep at most; it makes mc cells of ms slots -/
def XM (y : MethodName) (bytes : ByteArray) (maxL : Nat) (ret : Option FieldType) (d mc ms : Nat) (av : List Value) (N : Nat) (h : xHp) (Qp : Option Value → xHp → Prop) : Prop :=
  ∀ (l : Launch) (Ω : xO), Met l y (Jvm.Cond.code y bytes maxL ret :: xBIG) (xroom d mc ms) (xPc Ω av N h) (xQc Ω (N + mc) Qp) mc ms (fun q => Ω.2.2.1 ≤ q)
def xQ (Γ : xG) (N mc ms : Nat) (Qp : Option Value → xHp → Prop) : State → Prop :=
  match Γ with
  | (_, _, _, _, s, _, args, below, _, _, Ω) => MQ below (xQc Ω N Qp) args s mc ms (fun q => Ω.2.2.1 ≤ q)
theorem xPc_blind (Ω : xO) (av : List Value) (N : Nat) (h : xHp) : FrameBlind (xPc Ω av N h) := by
  intro a U g mk q
  obtain ⟨q0, q1, q2, q3⟩ := q
  exact ⟨q0, q1, va_K.moved (u := U) (U := U.calling g mk a) (Vm.Alike.refl U.vm) q2, xst.same (u := U) (U := U.calling g mk a) rfl q3⟩
theorem xM_intro {y : MethodName} {cc : ByteArray} {nL : Nat} {ret : Option FieldType} {d mc ms : Nat} {av : List Value} {N : Nat} {h : xHp} {Qp : Option Value → xHp → Prop} (lv0 : List (Option Value)) (hy : plainName y.cls = true) (hlv : ∀ Ω, xl Ω 0 lv0 = lv_args 0 (av.map (xv Ω))) (hlen : ∀ Ω, (lg_sl (av.map (xv Ω))).length ≤ nL) (body : ∀ Γ, XW Γ y cc nL ret (d, mc, ms) (xQ Γ (N + mc) mc ms Qp) 0 0 N h 0 lv0 []) : XM y cc nL ret d mc ms av N h Qp := by
  intro l Ω
  refine Met.ofW (cc := cc) (maxL := nL) (ret := ret) hy rfl ?_
  intro p e s m args below meth c s₁ B hml hP
  obtain ⟨rfl, hH, hK, hS⟩ := hP
  have hts := atoms_spec (ws := Jvm.Cond.code y cc nL ret :: xBIG) B.pre
  have hb := body (p, l, e, (headSpec (Jvm.Cond.code y cc nL ret :: xBIG) (xroom d mc ms)).room, s, m, (av.map (xv Ω)).toArray, below, meth, c, Ω)
  rw [lg_entry_eq]
  exact hb ⟨B.exec, B.bytes, hml, findClass_of_methodNamed B.named, fun w hw => hts w (List.mem_cons_of_mem _ hw), hK, hS, B.notSynchronized, B.returns, (name_of_methodNamed B.named B.method).1, Nat.le_refl _, Nat.le_refl _, Nat.le_refl _, Nat.le_refl _⟩ s.heap [] _ hH (fun q h => by cases h) (by rw [hlv Ω]; exact lv_entry _ (hlen Ω))
theorem xM_mono {y : MethodName} {cc : ByteArray} {nL : Nat} {ret : Option FieldType} {d mc ms : Nat} {av : List Value} {N : Nat} {h : xHp} {Qp Qp' : Option Value → xHp → Prop} (M : XM y cc nL ret d mc ms av N h Qp) (hq : ∀ r h', Qp r h' → Qp' r h') : XM y cc nL ret d mc ms av N h Qp' := by
  intro l Ω p e ha hc hk s m args below h1 h2 h3 h4
  obtain ⟨t, o, a1, a2, a3, ⟨r, h', b1, b2, b3⟩, b4⟩ := M l Ω p e ha hc hk s m args below h1 h2 h3 h4
  exact ⟨t, o, a1, a2, a3, ⟨r, h', b1, hq r h' b2, b3⟩, b4⟩
theorem xgoodIn {y : MethodName} {cc : ByteArray} {nL : Nat} {ret : Option FieldType} (hc : Jvm.Cond.code y cc nL ret ∈ xBIG) : GoodIn xBIG (Jvm.Cond.code y cc nL ret :: xBIG) := by
  intro w hw
  rcases List.mem_cons.mp hw with h | h
  · subst h
    exact ⟨hc, xgood _ hc⟩
  · exact ⟨h, xgood _ h⟩
/-- the words of a call -/
def xcB (own : String) (idx : Nat) (y : MethodName) (bytes : ByteArray) (maxL : Nat) (ret : Option FieldType) (n : Nat) : Prop :=
  Jvm.Cond.methodLink own idx y ∈ xBIG ∧ Jvm.Cond.initialized y.cls ∈ xBIG ∧ Jvm.Cond.code y bytes maxL ret ∈ xBIG ∧ (y.cls ≠ "java/lang/invoke/MethodHandle" ∧ y.cls ≠ "java/lang/invoke/VarHandle" ∧ (parseMethodDescriptor y.desc).map (fun d => d.parameters.length) = some n) ∧ maxL ≤ 28
def xcN (own : String) (idx : Nat) (y : MethodName) (host : String) (bytes : ByteArray) (maxL : Nat) (ret : Option FieldType) (n : Nat) : Prop :=
  (own, idx, y, host) ∈ xml ∧ Jvm.Cond.initialized y.cls ∈ xBIG ∧ Jvm.Cond.code y bytes maxL ret ∈ xBIG ∧ (y.cls ≠ "java/lang/invoke/MethodHandle" ∧ y.cls ≠ "java/lang/invoke/VarHandle" ∧ (parseMethodDescriptor y.desc).map (fun d => d.parameters.length) = some n) ∧ maxL ≤ 28
section XR3
variable {Γ : xG} {y : MethodName} {cc : ByteArray} {nL : Nat} {ret : Option FieldType} {dd : Nat × Nat × Nat} {Q : State → Prop} {ce sl N : Nat} {h : xHp} {pc : Nat} {lv : List (Option Value)} {st : List Value}
variable {y2 : MethodName} {b2 : ByteArray} {n2 : Nat} {ret2 : Option FieldType} {d2 mc ms idx q : Nat} {As : List Value} {Qp : Option Value → xHp → Prop} {stk : List Value}
theorem x_room {R : Room} (hfr : dd.1 ≤ R.frames) (hlo : 48 * dd.1 ≤ R.locals) (hd : d2 < dd.1) (hn : n2 ≤ 28) : (xroom d2 mc ms).frames + 1 ≤ R.frames ∧ 8 + (n2 + 11) + (xroom d2 mc ms).locals ≤ R.locals := by
  show d2 + 1 ≤ R.frames ∧ 8 + (n2 + 11) + 48 * d2 ≤ R.locals
  omega
theorem x_sum (Ω : xO) (st : List Value) : ((st.map (xv Ω)).map fun v => v.category).sum = (st.map fun v => v.category).sum := by
  rw [List.map_map]
  congr 1
  exact List.map_congr_left (fun v _ => xv_cat Ω v)
theorem x_run {p : Program} {l : Launch} {e : Env} {R : Room} {s : State} {m : MethodId} {args : Array Value} {below : List Frame} {meth : Method} {c : Code} {Ω : xO} {H : Heap} {locs : List Loc} {ls : Array Slot} {a : Array Value} {stk : List Value}
    (run : va_Run p l e R s m args below meth c H locs ce sl mc ms (F0 m pc ls stk) (st.map (xv Ω)) (xQc Ω (N + mc) Qp a) (fun q => Ω.2.2.1 ≤ q)) (C : XC p R s m args meth c Ω y cc nL ret dd) (hl : ∀ q ∈ locs, Ω.2.2.1 ≤ q.base) (hv : lv_has ls nL (xl Ω 0 lv))
    (k : ∀ r h', Qp r h' → XW (p, l, e, R, s, m, args, below, meth, c, Ω) y cc nL ret dd Q (ce + mc) (sl + ms) (N + mc) h' (pc + 3) lv (r.toList ++ st)) : W p l e R s m args below meth c H locs ce sl Q (F0 m pc ls stk) := by
  intro T hT X
  obtain ⟨v, st₀, t, T', L, h0, X', hL, e1, e2, ⟨r, h', ho, hq, hH'⟩, stp⟩ := run T hT X
  have hvr : v = r.map (xv Ω) := Outcome.returned.inj ho
  subst hvr
  have hk := k r h' hq C T'.heap (locs ++ L) ls (by rw [e1]; exact hH') (fun q hq => by
    rcases List.mem_append.mp hq with z | z
    · exact hl q z
    · exact hL q z) hv
  obtain ⟨t2, a1, b1⟩ := hk T' rfl X'
  refine ⟨t2, stp t2 ?_, b1⟩
  have e5 : (r.map (xv Ω)).toList ++ st.map (xv Ω) = (r.toList ++ st).map (xv Ω) := by cases r <;> simp
  rw [e5]
  exact a1
theorem x_mapst (Ω : xO) (hst : stk = As.reverse ++ .ref q :: st) : stk.map (xv Ω) = (As.map (xv Ω)).reverse ++ .ref (xi Ω q) :: st.map (xv Ω) := by
  rw [hst, List.map_append, List.map_reverse]
  rfl
theorem x_mapst0 (Ω : xO) (hst : stk = As.reverse ++ st) : stk.map (xv Ω) = (As.map (xv Ω)).reverse ++ st.map (xv Ω) := by
  rw [hst, List.map_append, List.map_reverse]
theorem x_callV {ci : Nat} {fs : List Value} (M : XM y2 b2 n2 ret2 d2 mc ms (.ref q :: As) N h Qp) (F : xcB y.cls idx y2 b2 n2 ret2 As.length) (F2 : Jvm.Cond.instanceMethod y2 ∈ xBIG ∧ Jvm.Cond.selects y2.cls y2 y2 ∈ xBIG) (d : decode cc pc = .ok (.invokevirtual idx, 3)) (hst : stk = As.reverse ++ .ref q :: st) (hq : q < N) (hh : h q = .inr (ci, fs)) (hci : (xcl[ci]?).map (fun r => r.1) = some y2.cls) (hd : d2 < dd.1) (hr : (st.map fun v => v.category).sum ≤ 8) (hce : ce + mc ≤ dd.2.1 ∧ sl + ms ≤ dd.2.2)
    (k : ∀ r h', Qp r h' → XW Γ y cc nL ret dd Q (ce + mc) (sl + ms) (N + mc) h' (pc + 3) lv (r.toList ++ st)) : XW Γ y cc nL ret dd Q ce sl N h pc lv stk := by
  obtain ⟨p, l, e, R, s, m, args, below, meth, c, Ω⟩ := Γ
  intro C H locs ls hH hl hv
  obtain ⟨w1, w2, w3, w4, w5⟩ := F
  have hc := xH_at hH hq
  rw [hh] at hc
  obtain ⟨rc, g1, cell, g2, g3, g4, g5⟩ := hc
  rw [x_mapst Ω hst, xH_i hH hq]
  have hrc : rc.1 = y2.cls := by
    have g1' : xcl[ci]? = some rc := g1
    rw [g1'] at hci
    exact Option.some.inj hci
  refine x_run (va_runV (C := y2.cls) (b := Ω.2.2.1 + q) (As := As.map (xv Ω)) (rest := st.map (xv Ω)) ⟨C.ex, C.co, C.ml, C.ow, C.ts⟩ (M l Ω) ⟨callB_of As.length C.ts (xgoodIn w3) rfl rfl rfl (C.ts _ w2) (C.ts _ w1) w4 (x_room C.fr C.lo hd w5), C.ts _ F2.1, C.ts _ F2.2⟩ ⟨xPc_blind _ _ _ _, ⟨cell, g2, by rw [g4]; rfl, ?_⟩, fun U hU hW => ⟨?_, by rw [hU]; exact hH, va_K.moved hW.alike C.K, xst.warm hW C.st⟩⟩ rfl (by simp) hv.1 rfl (lv_room (by rw [x_sum]; exact hr)) d ⟨Nat.le_trans hce.1 C.cap.1, Nat.le_trans hce.2 C.cap.2⟩) C hl hv k
  · have := (C.K.1 ci rc g1).2.1
    rw [hrc] at this
    rw [g3]
    exact this
  · show _ = ((Value.ref q :: As).map (xv Ω)).toArray
    rw [List.map_cons]
    show _ = (Value.ref (xi Ω q) :: As.map (xv Ω)).toArray
    rw [xH_i hH hq]
theorem x_callS (M : XM y2 b2 n2 ret2 d2 mc ms As N h Qp) (F : xcB y.cls idx y2 b2 n2 ret2 As.length) (F2 : Jvm.Cond.static y2 ∈ xBIG) (d : decode cc pc = .ok (.invokestatic idx, 3)) (hst : stk = As.reverse ++ st) (hd : d2 < dd.1) (hr : (st.map fun v => v.category).sum ≤ 8) (hce : ce + mc ≤ dd.2.1 ∧ sl + ms ≤ dd.2.2)
    (k : ∀ r h', Qp r h' → XW Γ y cc nL ret dd Q (ce + mc) (sl + ms) (N + mc) h' (pc + 3) lv (r.toList ++ st)) : XW Γ y cc nL ret dd Q ce sl N h pc lv stk := by
  obtain ⟨p, l, e, R, s, m, args, below, meth, c, Ω⟩ := Γ
  intro C H locs ls hH hl hv
  obtain ⟨w1, w2, w3, w4, w5⟩ := F
  rw [x_mapst0 Ω hst]
  exact x_run (va_runS (As := As.map (xv Ω)) (rest := st.map (xv Ω)) ⟨C.ex, C.co, C.ml, C.ow, C.ts⟩ (M l Ω) ⟨callB_of As.length C.ts (xgoodIn w3) rfl rfl rfl (C.ts _ w2) (C.ts _ w1) w4 (x_room C.fr C.lo hd w5), C.ts _ F2⟩ ⟨xPc_blind _ _ _ _, fun U hU hW => ⟨rfl, by rw [hU]; exact hH, va_K.moved hW.alike C.K, xst.warm hW C.st⟩⟩ rfl (by simp) hv.1 rfl (lv_room (by rw [x_sum]; exact hr)) d ⟨Nat.le_trans hce.1 C.cap.1, Nat.le_trans hce.2 C.cap.2⟩) C hl hv k
theorem x_callI (M : XM y2 b2 n2 none d2 mc ms (.ref q :: As) N h Qp) (F : xcB y.cls idx y2 b2 n2 none As.length) (F2 : y2.name = "<init>" ∧ Jvm.Cond.instanceMethod y2 ∈ xBIG) (d : decode cc pc = .ok (.invokespecial idx, 3)) (hst : stk = As.reverse ++ .ref q :: st) (hq : q < N) (hd : d2 < dd.1) (hr : (st.map fun v => v.category).sum ≤ 8) (hce : ce + mc ≤ dd.2.1 ∧ sl + ms ≤ dd.2.2)
    (k : ∀ r h', Qp r h' → XW Γ y cc nL ret dd Q (ce + mc) (sl + ms) (N + mc) h' (pc + 3) lv (r.toList ++ st)) : XW Γ y cc nL ret dd Q ce sl N h pc lv stk := by
  obtain ⟨p, l, e, R, s, m, args, below, meth, c, Ω⟩ := Γ
  intro C H locs ls hH hl hv
  obtain ⟨w1, w2, w3, w4, w5⟩ := F
  rw [x_mapst Ω hst, xH_i hH hq]
  refine x_run (va_runI (b := Ω.2.2.1 + q) (As := As.map (xv Ω)) (rest := st.map (xv Ω)) ⟨C.ex, C.co, C.ml, C.ow, C.ts⟩ (M l Ω) ⟨callB_of As.length C.ts (xgoodIn w3) rfl rfl rfl (C.ts _ w2) (C.ts _ w1) w4 (x_room C.fr C.lo hd w5), F2.1, C.ts _ F2.2⟩ ⟨xPc_blind _ _ _ _, fun U hU hW => ⟨?_, by rw [hU]; exact hH, va_K.moved hW.alike C.K, xst.warm hW C.st⟩⟩ rfl (by simp) hv.1 rfl (lv_room (by rw [x_sum]; exact hr)) d ⟨Nat.le_trans hce.1 C.cap.1, Nat.le_trans hce.2 C.cap.2⟩) C hl hv k
  show _ = ((Value.ref q :: As).map (xv Ω)).toArray
  rw [List.map_cons]
  show _ = (Value.ref (xi Ω q) :: As.map (xv Ω)).toArray
  rw [xH_i hH hq]
theorem x_callIN {host : String} (M : XM y2 b2 n2 none d2 mc ms (.ref q :: As) N h Qp) (F : xcN y.cls idx y2 host b2 n2 none As.length) (F2 : y2.name = "<init>" ∧ Jvm.Cond.instanceMethod y2 ∈ xBIG) (d : decode cc pc = .ok (.invokespecial idx, 3)) (hst : stk = As.reverse ++ .ref q :: st) (hq : q < N) (hd : d2 < dd.1) (hr : (st.map fun v => v.category).sum ≤ 8) (hce : ce + mc ≤ dd.2.1 ∧ sl + ms ≤ dd.2.2)
    (k : ∀ r h', Qp r h' → XW Γ y cc nL ret dd Q (ce + mc) (sl + ms) (N + mc) h' (pc + 3) lv (r.toList ++ st)) : XW Γ y cc nL ret dd Q ce sl N h pc lv stk := by
  obtain ⟨p, l, e, R, s, m, args, below, meth, c, Ω⟩ := Γ
  intro C H locs ls hH hl hv
  obtain ⟨w1, w2, w3, w4, w5⟩ := F
  rw [x_mapst Ω hst, xH_i hH hq]
  refine x_run (va_runIN (b := Ω.2.2.1 + q) (As := As.map (xv Ω)) (rest := st.map (xv Ω)) ⟨C.ex, C.co, C.ml, C.ow, C.ts⟩ (M l Ω) ⟨va_cnB As.length C.ts (xgoodIn w3) rfl rfl rfl (C.st.2.1 _ w1) (C.ts _ w2) w4 (x_room C.fr C.lo hd w5), F2.1, C.ts _ F2.2⟩ ⟨xPc_blind _ _ _ _, fun U hU hW => ⟨?_, by rw [hU]; exact hH, va_K.moved hW.alike C.K, xst.warm hW C.st⟩⟩ rfl (by simp) hv.1 rfl (lv_room (by rw [x_sum]; exact hr)) d ⟨Nat.le_trans hce.1 C.cap.1, Nat.le_trans hce.2 C.cap.2⟩) C hl hv k
  show _ = ((Value.ref q :: As).map (xv Ω)).toArray
  rw [List.map_cons]
  show _ = (Value.ref (xi Ω q) :: As.map (xv Ω)).toArray
  rw [xH_i hH hq]
theorem x_objInit (F : Jvm.Cond.methodLink y.cls idx Lib.objectInit ∈ xBIG ∧ Jvm.Cond.instanceMethod Lib.objectInit ∈ xBIG ∧ Jvm.Cond.code Lib.objectInit ⟨#[0xb1]⟩ 1 none ∈ xBIG) (d : decode cc pc = .ok (.invokespecial idx, 3)) (hd : 0 < dd.1) (hr : (st.map fun v => v.category).sum ≤ 8) (k : XW Γ y cc nL ret dd Q ce sl N h (pc + 3) lv st) : XW Γ y cc nL ret dd Q ce sl N h pc lv (.ref q :: st) := by
  obtain ⟨p, l, e, R, s, m, args, below, meth, c, Ω⟩ := Γ
  intro C H locs ls hH hl hv
  have h1 := C.fr
  have h2 := C.lo
  have h3 := lv_room (m := m) (pc := pc) (ls := ls) (rest := ((Value.ref q :: st).map (xv Ω))) (st := st.map (xv Ω)) (by rw [x_sum]; exact hr)
  exact W.objInit C.ex C.co C.ow (C.ts _ F.1) (C.ts _ F.2.1) (C.ts _ F.2.2) rfl (by rw [C.ml]; exact hv.1) rfl d (by omega) (by omega) (k C H locs ls hH hl hv)
theorem x_iret {v : Int32} (d : decode cc pc = .ok (.ireturn, 1)) (hq : Qp (some (.int v)) h) : XW Γ y cc nL (some .int) dd (xQ Γ N ce sl Qp) ce sl N h pc lv [.int v] := by
  obtain ⟨p, l, e, R, s, m, args, below, meth, c, Ω⟩ := Γ
  intro C H locs ls hH hl hv
  exact W.iret C.ex C.co C.rt (fun t ht hW => ⟨some (.int v), h, rfl, hq, by rw [ht]; exact hH⟩) hl d C.lk
theorem x_zret {v : Int32} {ty : FieldType} (d : decode cc pc = .ok (.ireturn, 1)) (hn : narrow ty (.int v) = .int v) (hq : Qp (some (.int v)) h) : XW Γ y cc nL (some ty) dd (xQ Γ N ce sl Qp) ce sl N h pc lv [.int v] := by
  obtain ⟨p, l, e, R, s, m, args, below, meth, c, Ω⟩ := Γ
  intro C H locs ls hH hl hv
  exact W.zret C.ex C.co C.rt hn (fun t ht hW => ⟨some (.int v), h, rfl, hq, by rw [ht]; exact hH⟩) hl d C.lk
theorem x_lret {v : Int64} (d : decode cc pc = .ok (.lreturn, 1)) (hq : Qp (some (.long v)) h) : XW Γ y cc nL (some .long) dd (xQ Γ N ce sl Qp) ce sl N h pc lv [.long v] := by
  obtain ⟨p, l, e, R, s, m, args, below, meth, c, Ω⟩ := Γ
  intro C H locs ls hH hl hv
  exact W.lret C.ex C.co C.rt (fun t ht hW => ⟨some (.long v), h, rfl, hq, by rw [ht]; exact hH⟩) hl d C.lk
theorem x_vret (d : decode cc pc = .ok (.return_, 1)) (hq : Qp none h) : XW Γ y cc nL none dd (xQ Γ N ce sl Qp) ce sl N h pc lv [] := by
  obtain ⟨p, l, e, R, s, m, args, below, meth, c, Ω⟩ := Γ
  intro C H locs ls hH hl hv
  exact W.vret C.ex C.co C.rt (fun t ht hW => ⟨none, h, rfl, hq, by rw [ht]; exact hH⟩) hl d C.lk
theorem x_aret {v : Nat} {rt : FieldType} (hrt : (∃ n, rt = .object n) ∨ ∃ t, rt = .array t) (d : decode cc pc = .ok (.areturn, 1)) (hq : Qp (some (.ref v)) h) : XW Γ y cc nL (some rt) dd (xQ Γ N ce sl Qp) ce sl N h pc lv [.ref v] := by
  obtain ⟨p, l, e, R, s, m, args, below, meth, c, Ω⟩ := Γ
  intro C H locs ls hH hl hv
  exact W.aret C.ex C.co C.rt hrt (Or.inr ⟨_, rfl⟩) (fun t ht hW => ⟨some (.ref v), h, rfl, hq, by rw [ht]; exact hH⟩) hl d C.lk
end XR3
