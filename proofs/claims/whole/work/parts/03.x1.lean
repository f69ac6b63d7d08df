/-! X: the machine over NAMED cells. A cell's name is a number below N; values, locals, stack and cells speak of names; xi gives the address. -/
abbrev xE : Type := (Nat × vp_A) ⊕ (Nat × List Value)
abbrev xHp : Type := Nat → xE
/-- what is fixed for a run: classes' numbers and slots, array classes, the first address, the special addresses, the heap at the start -/
abbrev xO : Type := va_G × (Nat → ClassId) × Nat × (Nat → Nat) × Heap
def xi (Ω : xO) (k : Nat) : Nat := if k < 1000000 then Ω.2.2.1 + k else Ω.2.2.2.1 (k - 1000000)
def xv (Ω : xO) : Value → Value
  | .ref k => .ref (xi Ω k)
  | .int x => .int x
  | .long x => .long x
  | .float x => .float x
  | .double x => .double x
  | .null => .null
  | .retAddr x => .retAddr x
def xa (Ω : xO) (a : vp_A) : vp_A := (a.1, match a.2 with
  | .inl f => .inl f
  | .inr (.inl f) => .inr (.inl f)
  | .inr (.inr (.inl f)) => .inr (.inr (.inl f))
  | .inr (.inr (.inr (.inl f))) => .inr (.inr (.inr (.inl f)))
  | .inr (.inr (.inr (.inr f))) => .inr (.inr (.inr (.inr (fun j => (f j).map (xi Ω))))))
def xc (Ω : xO) : xE → va_E
  | .inl (t, a) => .inl (Ω.2.1 t, xa Ω a)
  | .inr (ci, fs) => .inr (ci, fs.map (xv Ω))
/-- the heap holds the cells h 0 .. h (N-1) from the first address on; what lay below is as at the start -/
def xH (Ω : xO) (N : Nat) (h : xHp) (H : Heap) : Prop :=
  N ≤ 1000000 ∧ H.size = Ω.2.2.1 + N ∧ Ω.2.2.2.2.size = Ω.2.2.1 ∧ (∀ q : Nat, q < Ω.2.2.1 → H[q]? = Ω.2.2.2.2[q]?) ∧ ∀ k : Nat, k < N → va_at Ω.1 xcl (Ω.2.2.1 + k, xc Ω (h k)) H
def xl (Ω : xO) : Nat → List (Option Value) → List (Nat × Value)
  | _, [] => []
  | i, none :: t => xl Ω (i + 1) t
  | i, some v :: t => (i, xv Ω v) :: xl Ω (i + 1) t
def xtys (tc : Nat → ClassId) : List (ClassId × FieldType) := xtl.mapIdx (fun t ty => (tc t, ty))
/-- static tables that nobody writes -/
def xst (Ω : xO) (U : State) : Prop := (∀ (i : Nat) (q : xS), xsl[i]? = some q →
  va_Z q.1 q.2.1 q.2.2.1 (.ref (Ω.2.2.2.1 (i + 1))) (fun a => Ω.2.2.1 ≤ a) U Ω.2.2.2.2 ∧ va_T q.2.2.2.1 (Ω.2.2.2.1 (i + 1)) q.2.2.2.2.1 q.2.2.2.2.2 (fun a => Ω.2.2.1 ≤ a) U Ω.2.2.2.2) ∧ (∀ q ∈ xml, va_Nw (.methodLinkNest q.1 q.2.1 q.2.2.1 q.2.2.2) U) ∧ ∀ E ∈ xao, va_AO E U
abbrev xG : Type := Program × Launch × Env × Room × State × MethodId × Array Value × List Frame × Method × Code × xO
def XC (p : Program) (R : Room) (s : State) (m : MethodId) (args : Array Value) (meth : Method) (c : Code) (Ω : xO) (y : MethodName) (cc : ByteArray) (nL : Nat) (ret : Option FieldType) (dd : Nat × Nat × Nat) : Prop :=
  p.tables.exec = Jvm.exec ∧ c.code = cc ∧ c.maxLocals = nL ∧ s.vm.findClass y.cls = some m.cls ∧ (∀ w ∈ xBIG, w.before args s = true) ∧ va_K Ω.1 xcl (xtys Ω.2.1) s ∧ xst Ω s ∧ meth.locks = false ∧ meth.sig.returnType = ret ∧ meth.name = y.name ∧ dd.1 ≤ R.frames ∧ 48 * dd.1 ≤ R.locals ∧ dd.2.1 ≤ R.cells ∧ dd.2.2 ≤ R.slots
section XCP
variable {p : Program} {R : Room} {s : State} {m : MethodId} {args : Array Value} {meth : Method} {c : Code} {Ω : xO} {y : MethodName} {cc : ByteArray} {nL : Nat} {ret : Option FieldType} {dd : Nat × Nat × Nat}
theorem XC.ex (C : XC p R s m args meth c Ω y cc nL ret dd) : p.tables.exec = Jvm.exec := And.left C
theorem XC.co (C : XC p R s m args meth c Ω y cc nL ret dd) : c.code = cc := C.2.1
theorem XC.ml (C : XC p R s m args meth c Ω y cc nL ret dd) : c.maxLocals = nL := C.2.2.1
theorem XC.ow (C : XC p R s m args meth c Ω y cc nL ret dd) : s.vm.findClass y.cls = some m.cls := C.2.2.2.1
theorem XC.ts (C : XC p R s m args meth c Ω y cc nL ret dd) : ∀ w ∈ xBIG, w.before args s = true := C.2.2.2.2.1
theorem XC.K (C : XC p R s m args meth c Ω y cc nL ret dd) : va_K Ω.1 xcl (xtys Ω.2.1) s := C.2.2.2.2.2.1
theorem XC.st (C : XC p R s m args meth c Ω y cc nL ret dd) : xst Ω s := C.2.2.2.2.2.2.1
theorem XC.lk (C : XC p R s m args meth c Ω y cc nL ret dd) : meth.locks = false := C.2.2.2.2.2.2.2.1
theorem XC.rt (C : XC p R s m args meth c Ω y cc nL ret dd) : meth.sig.returnType = ret := C.2.2.2.2.2.2.2.2.1
theorem XC.nm (C : XC p R s m args meth c Ω y cc nL ret dd) : meth.name = y.name := C.2.2.2.2.2.2.2.2.2.1
theorem XC.fr (C : XC p R s m args meth c Ω y cc nL ret dd) : dd.1 ≤ R.frames := C.2.2.2.2.2.2.2.2.2.2.1
theorem XC.lo (C : XC p R s m args meth c Ω y cc nL ret dd) : 48 * dd.1 ≤ R.locals := C.2.2.2.2.2.2.2.2.2.2.2.1
theorem XC.cap (C : XC p R s m args meth c Ω y cc nL ret dd) : dd.2.1 ≤ R.cells ∧ dd.2.2 ≤ R.slots := C.2.2.2.2.2.2.2.2.2.2.2.2
end XCP
def XW (Γ : xG) (y : MethodName) (cc : ByteArray) (nL : Nat) (ret : Option FieldType) (dd : Nat × Nat × Nat) (Q : State → Prop) (ce sl N : Nat) (h : xHp) (pc : Nat) (lv : List (Option Value)) (st : List Value) : Prop :=
  match Γ with
  | (p, l, e, R, s, m, args, below, meth, c, Ω) => XC p R s m args meth c Ω y cc nL ret dd → ∀ (H : Heap) (locs : List Loc) (ls : Array Slot), xH Ω N h H → (∀ q ∈ locs, Ω.2.2.1 ≤ q.base) → lv_has ls nL (xl Ω 0 lv) → W p l e R s m args below meth c H locs ce sl Q (F0 m pc ls (st.map (xv Ω)))
theorem xv_cat (Ω : xO) (v : Value) : (xv Ω v).category = v.category := by cases v <;> rfl
theorem xi_lt {Ω : xO} {k : Nat} (h : k < 1000000) : xi Ω k = Ω.2.2.1 + k := if_pos h
theorem xl_mem {Ω : xO} : ∀ (lv : List (Option Value)) (k i : Nat) (v : Value), lv[i]? = some (some v) → (k + i, xv Ω v) ∈ xl Ω k lv
  | [], k, i, v, h => by simp at h
  | none :: t, k, 0, v, h => by simp at h
  | none :: t, k, i + 1, v, h => by
    have h1 := xl_mem (Ω := Ω) t (k + 1) i v (by simpa using h)
    rw [show k + (i + 1) = k + 1 + i by omega]
    exact h1
  | some w :: t, k, 0, v, h => by
    have h1 : w = v := by simpa using h
    subst h1
    exact List.mem_cons_self
  | some w :: t, k, i + 1, v, h => by
    have h1 := xl_mem (Ω := Ω) t (k + 1) i v (by simpa using h)
    rw [show k + (i + 1) = k + 1 + i by omega]
    exact List.mem_cons_of_mem _ h1
theorem xl_of {Ω : xO} : ∀ (lv : List (Option Value)) (k : Nat) (q : Nat × Value), q ∈ xl Ω k lv → ∃ (i : Nat) (v : Value), q.1 = k + i ∧ lv[i]? = some (some v) ∧ q.2 = xv Ω v
  | [], k, q, h => by simp [xl] at h
  | none :: t, k, q, h => by
    obtain ⟨i, v, h1, h2, h3⟩ := xl_of t (k + 1) q h
    exact ⟨i + 1, v, by omega, by simpa using h2, h3⟩
  | some w :: t, k, q, h => by
    rcases List.mem_cons.mp h with h | h
    · subst h
      exact ⟨0, w, rfl, rfl, rfl⟩
    · obtain ⟨i, v, h1, h2, h3⟩ := xl_of t (k + 1) q h
      exact ⟨i + 1, v, by omega, by simpa using h2, h3⟩
theorem xl_at {Ω : xO} {ls : Array Slot} {nL i : Nat} {lv : List (Option Value)} {v : Value} (h : lv_has ls nL (xl Ω 0 lv)) (hl : lv[i]? = some (some v)) : ls[i]? = some (.val (xv Ω v)) := by
  have h1 := h.2.2 _ (xl_mem lv 0 i v hl)
  simpa using h1
theorem xl_sub {ls : Array Slot} {nL : Nat} {l l' : List (Nat × Value)} (h : lv_has ls nL l) (hs : ∀ q ∈ l', q ∈ l) : lv_has ls nL l' := ⟨h.1, h.2.1, fun q hq => h.2.2 q (hs q hq)⟩
/-- the place before i is no long -/
def xn2 (lv : List (Option Value)) : Nat → Bool
  | 0 => true
  | i + 1 => match lv[i]? with
    | some (some (.long _)) => false
    | some (some (.double _)) => false
    | _ => true
theorem xn2_cat {lv : List (Option Value)} {i : Nat} {v : Value} (h : xn2 lv (i + 1) = true) (hv : lv[i]? = some (some v)) : ¬ v.category = 2 := by
  simp only [xn2, hv] at h
  cases v <;> simp [Value.category] at h ⊢
theorem xl_set1 {Ω : xO} {lv : List (Option Value)} {i : Nat} {v : Value} (hn : xn2 lv i = true) : ∀ q ∈ xl Ω 0 (lv.set i (some v)), q ∈ (i, xv Ω v) :: (xl Ω 0 lv).filter (fun q => !(q.1 == i) && !(q.1 + 1 == i && q.2.category == 2)) := by
  intro q hq
  obtain ⟨j, w, h1, h2, h3⟩ := xl_of _ 0 q hq
  have hq' : q = (j, xv Ω w) := Prod.ext (by simpa using h1) h3
  subst hq'
  by_cases hj : j = i
  · subst hj
    have hl : j < lv.length := by
      have := (List.getElem?_eq_some_iff.mp h2).1
      simpa using this
    rw [List.getElem?_set_self hl] at h2
    cases h2
    exact List.mem_cons_self
  · rw [List.getElem?_set_ne (Ne.symm hj)] at h2
    refine List.mem_cons_of_mem _ (List.mem_filter.mpr ⟨by simpa using xl_mem (Ω := Ω) lv 0 j w h2, ?_⟩)
    have h5 : ¬ (j + 1 = i ∧ (xv Ω w).category = 2) := by
      rintro ⟨e1, e2⟩
      subst e1
      rw [xv_cat] at e2
      exact xn2_cat hn h2 e2
    simp only [Bool.and_eq_true, Bool.not_eq_true', beq_eq_false_iff_ne, ne_eq, Bool.and_eq_false_iff]
    refine ⟨hj, ?_⟩
    by_cases e1 : j + 1 = i
    · exact Or.inr (fun e2 => h5 ⟨e1, e2⟩)
    · exact Or.inl e1
theorem xl_set2 {Ω : xO} {lv : List (Option Value)} {i : Nat} {v : Value} (hn : xn2 lv i = true) : ∀ q ∈ xl Ω 0 ((lv.set i (some v)).set (i + 1) none), q ∈ (i, xv Ω v) :: (xl Ω 0 lv).filter (fun q => !(q.1 == i) && (!(q.1 == i + 1) && !(q.1 + 1 == i && q.2.category == 2))) := by
  intro q hq
  obtain ⟨j, w, h1, h2, h3⟩ := xl_of _ 0 q hq
  have hq' : q = (j, xv Ω w) := Prod.ext (by simpa using h1) h3
  subst hq'
  have hl2 := (List.getElem?_eq_some_iff.mp h2).1
  simp only [List.length_set] at hl2
  by_cases hj1 : j = i + 1
  · subst hj1
    rw [List.getElem?_set_self (by simpa using hl2)] at h2
    cases h2
  · rw [List.getElem?_set_ne (Ne.symm hj1)] at h2
    by_cases hj : j = i
    · subst hj
      rw [List.getElem?_set_self hl2] at h2
      cases h2
      exact List.mem_cons_self
    · rw [List.getElem?_set_ne (Ne.symm hj)] at h2
      refine List.mem_cons_of_mem _ (List.mem_filter.mpr ⟨by simpa using xl_mem (Ω := Ω) lv 0 j w h2, ?_⟩)
      have h5 : ¬ (j + 1 = i ∧ (xv Ω w).category = 2) := by
        rintro ⟨e1, e2⟩
        subst e1
        rw [xv_cat] at e2
        exact xn2_cat hn h2 e2
      simp only [Bool.and_eq_true, Bool.not_eq_true', beq_eq_false_iff_ne, ne_eq, Bool.and_eq_false_iff]
      refine ⟨hj, hj1, ?_⟩
      by_cases e1 : j + 1 = i
      · exact Or.inr (fun e2 => h5 ⟨e1, e2⟩)
      · exact Or.inl e1
section XR
variable {Γ : xG} {y : MethodName} {cc : ByteArray} {nL : Nat} {ret : Option FieldType} {dd : Nat × Nat × Nat} {Q : State → Prop} {ce sl N : Nat} {h : xHp} {pc : Nat} {lv : List (Option Value)} {st : List Value}
theorem x_iconst {n : Int} {v : Int32} (d : decode cc pc = .ok (.iconst n, 1)) (hw : Int32.ofInt n = v) (k : XW Γ y cc nL ret dd Q ce sl N h (pc + 1) lv (.int v :: st)) : XW Γ y cc nL ret dd Q ce sl N h pc lv st := by
  obtain ⟨p, l, e, R, s, m, args, below, meth, c, Ω⟩ := Γ
  intro C H locs ls hH hl hv
  exact lv_iconst C.ex C.co d hw (k C H locs ls hH hl hv)
theorem x_bipush {n : Int} {v : Int32} (d : decode cc pc = .ok (.bipush n, 2)) (hw : (Int8.ofInt n).toInt32 = v) (k : XW Γ y cc nL ret dd Q ce sl N h (pc + 2) lv (.int v :: st)) : XW Γ y cc nL ret dd Q ce sl N h pc lv st := by
  obtain ⟨p, l, e, R, s, m, args, below, meth, c, Ω⟩ := Γ
  intro C H locs ls hH hl hv
  exact lv_bipush C.ex C.co d hw (k C H locs ls hH hl hv)
theorem x_sipush {n : Int} {v : Int32} (d : decode cc pc = .ok (.sipush n, 3)) (hw : (Int16.ofInt n).toInt32 = v) (k : XW Γ y cc nL ret dd Q ce sl N h (pc + 3) lv (.int v :: st)) : XW Γ y cc nL ret dd Q ce sl N h pc lv st := by
  obtain ⟨p, l, e, R, s, m, args, below, meth, c, Ω⟩ := Γ
  intro C H locs ls hH hl hv
  exact lv_sipush C.ex C.co d hw (k C H locs ls hH hl hv)
theorem x_lconst {n : Fin 2} {v : Int64} (d : decode cc pc = .ok (.lconst n, 1)) (hw : Int64.ofNat (n : Nat) = v) (k : XW Γ y cc nL ret dd Q ce sl N h (pc + 1) lv (.long v :: st)) : XW Γ y cc nL ret dd Q ce sl N h pc lv st := by
  obtain ⟨p, l, e, R, s, m, args, below, meth, c, Ω⟩ := Γ
  intro C H locs ls hH hl hv
  exact lv_lconst C.ex C.co d hw (k C H locs ls hH hl hv)
theorem x_null  (d : decode cc pc = .ok (.aconst_null, 1)) (k : XW Γ y cc nL ret dd Q ce sl N h (pc + 1) lv (.null :: st)) : XW Γ y cc nL ret dd Q ce sl N h pc lv st := by
  obtain ⟨p, l, e, R, s, m, args, below, meth, c, Ω⟩ := Γ
  intro C H locs ls hH hl hv
  exact lv_null C.ex C.co d (k C H locs ls hH hl hv)
theorem x_ldc {index : Nat} {v : Int32} (w : Jvm.Cond.constant y.cls index v ∈ xBIG) (d : decode cc pc = .ok (.ldc index, 2)) (k : XW Γ y cc nL ret dd Q ce sl N h (pc + 2) lv (.int v :: st)) : XW Γ y cc nL ret dd Q ce sl N h pc lv st := by
  obtain ⟨p, l, e, R, s, m, args, below, meth, c, Ω⟩ := Γ
  intro C H locs ls hH hl hv
  exact lv_ldc C.ex C.co C.ow (C.ts _ w) d (k C H locs ls hH hl hv)
theorem x_ldc2 {index : Nat} {v : Int64} (w : Jvm.Cond.constantLong y.cls index v ∈ xBIG) (d : decode cc pc = .ok (.ldc2_w index, 3)) (k : XW Γ y cc nL ret dd Q ce sl N h (pc + 3) lv (.long v :: st)) : XW Γ y cc nL ret dd Q ce sl N h pc lv st := by
  obtain ⟨p, l, e, R, s, m, args, below, meth, c, Ω⟩ := Γ
  intro C H locs ls hH hl hv
  exact lv_ldc2 C.ex C.co C.ow (C.ts _ w) d (k C H locs ls hH hl hv)
theorem x_iload_n {j : Fin 4} {x : Int32} (d : decode cc pc = .ok (.iload_n j, 1)) (g : lv[(j : Nat)]? = some (some (.int x))) (k : XW Γ y cc nL ret dd Q ce sl N h (pc + 1) lv (.int x :: st)) : XW Γ y cc nL ret dd Q ce sl N h pc lv st := by
  obtain ⟨p, l, e, R, s, m, args, below, meth, c, Ω⟩ := Γ
  intro C H locs ls hH hl hv
  exact lv_iload_n C.ex C.co d rfl (xl_at hv g) (k C H locs ls hH hl hv)
theorem x_iload {i : Nat} {x : Int32} (d : decode cc pc = .ok (.iload i, 2)) (g : lv[i]? = some (some (.int x))) (k : XW Γ y cc nL ret dd Q ce sl N h (pc + 2) lv (.int x :: st)) : XW Γ y cc nL ret dd Q ce sl N h pc lv st := by
  obtain ⟨p, l, e, R, s, m, args, below, meth, c, Ω⟩ := Γ
  intro C H locs ls hH hl hv
  exact lv_iload C.ex C.co d (xl_at hv g) (k C H locs ls hH hl hv)
theorem x_lload_n {j : Fin 4} {x : Int64} (d : decode cc pc = .ok (.lload_n j, 1)) (g : lv[(j : Nat)]? = some (some (.long x))) (k : XW Γ y cc nL ret dd Q ce sl N h (pc + 1) lv (.long x :: st)) : XW Γ y cc nL ret dd Q ce sl N h pc lv st := by
  obtain ⟨p, l, e, R, s, m, args, below, meth, c, Ω⟩ := Γ
  intro C H locs ls hH hl hv
  exact lv_lload_n C.ex C.co d rfl (xl_at hv g) (k C H locs ls hH hl hv)
theorem x_lload {i : Nat} {x : Int64} (d : decode cc pc = .ok (.lload i, 2)) (g : lv[i]? = some (some (.long x))) (k : XW Γ y cc nL ret dd Q ce sl N h (pc + 2) lv (.long x :: st)) : XW Γ y cc nL ret dd Q ce sl N h pc lv st := by
  obtain ⟨p, l, e, R, s, m, args, below, meth, c, Ω⟩ := Γ
  intro C H locs ls hH hl hv
  exact lv_lload C.ex C.co d (xl_at hv g) (k C H locs ls hH hl hv)
theorem x_aload_n {j : Fin 4} {x : Nat} (d : decode cc pc = .ok (.aload_n j, 1)) (g : lv[(j : Nat)]? = some (some (.ref x))) (k : XW Γ y cc nL ret dd Q ce sl N h (pc + 1) lv (.ref x :: st)) : XW Γ y cc nL ret dd Q ce sl N h pc lv st := by
  obtain ⟨p, l, e, R, s, m, args, below, meth, c, Ω⟩ := Γ
  intro C H locs ls hH hl hv
  exact lv_aload_n C.ex C.co d rfl (xl_at hv g) (k C H locs ls hH hl hv)
theorem x_aload {i : Nat} {x : Nat} (d : decode cc pc = .ok (.aload i, 2)) (g : lv[i]? = some (some (.ref x))) (k : XW Γ y cc nL ret dd Q ce sl N h (pc + 2) lv (.ref x :: st)) : XW Γ y cc nL ret dd Q ce sl N h pc lv st := by
  obtain ⟨p, l, e, R, s, m, args, below, meth, c, Ω⟩ := Γ
  intro C H locs ls hH hl hv
  exact lv_aload C.ex C.co d (xl_at hv g) (k C H locs ls hH hl hv)
theorem x_istore_n {j : Fin 4} {x : Int32} (d : decode cc pc = .ok (.istore_n j, 1)) (hn : (j : Nat) < nL) (g : xn2 lv (j : Nat) = true) (k : XW Γ y cc nL ret dd Q ce sl N h (pc + 1) (lv.set (j : Nat) (some (.int x))) st) : XW Γ y cc nL ret dd Q ce sl N h pc lv (.int x :: st) := by
  obtain ⟨p, l, e, R, s, m, args, below, meth, c, Ω⟩ := Γ
  intro C H locs ls hH hl hv
  exact lv_istore_n C.ex C.co d rfl hv hn rfl (fun ls' hl' => k C H locs ls' hH hl (xl_sub hl' (xl_set1 g)))
theorem x_istore {i : Nat} {x : Int32} (d : decode cc pc = .ok (.istore i, 2)) (hn : i < nL) (g : xn2 lv i = true) (k : XW Γ y cc nL ret dd Q ce sl N h (pc + 2) (lv.set i (some (.int x))) st) : XW Γ y cc nL ret dd Q ce sl N h pc lv (.int x :: st) := by
  obtain ⟨p, l, e, R, s, m, args, below, meth, c, Ω⟩ := Γ
  intro C H locs ls hH hl hv
  exact lv_istore C.ex C.co d hv hn rfl (fun ls' hl' => k C H locs ls' hH hl (xl_sub hl' (xl_set1 g)))
theorem x_astore_n {j : Fin 4} {x : Nat} (d : decode cc pc = .ok (.astore_n j, 1)) (hn : (j : Nat) < nL) (g : xn2 lv (j : Nat) = true) (k : XW Γ y cc nL ret dd Q ce sl N h (pc + 1) (lv.set (j : Nat) (some (.ref x))) st) : XW Γ y cc nL ret dd Q ce sl N h pc lv (.ref x :: st) := by
  obtain ⟨p, l, e, R, s, m, args, below, meth, c, Ω⟩ := Γ
  intro C H locs ls hH hl hv
  exact lv_astore_n C.ex C.co d rfl hv hn rfl (fun ls' hl' => k C H locs ls' hH hl (xl_sub hl' (xl_set1 g)))
theorem x_astore {i : Nat} {x : Nat} (d : decode cc pc = .ok (.astore i, 2)) (hn : i < nL) (g : xn2 lv i = true) (k : XW Γ y cc nL ret dd Q ce sl N h (pc + 2) (lv.set i (some (.ref x))) st) : XW Γ y cc nL ret dd Q ce sl N h pc lv (.ref x :: st) := by
  obtain ⟨p, l, e, R, s, m, args, below, meth, c, Ω⟩ := Γ
  intro C H locs ls hH hl hv
  exact lv_astore C.ex C.co d hv hn rfl (fun ls' hl' => k C H locs ls' hH hl (xl_sub hl' (xl_set1 g)))
theorem x_lstore_n {j : Fin 4} {x : Int64} (d : decode cc pc = .ok (.lstore_n j, 1)) (hn : (j : Nat) + 1 < nL) (g : xn2 lv (j : Nat) = true) (k : XW Γ y cc nL ret dd Q ce sl N h (pc + 1) ((lv.set (j : Nat) (some (.long x))).set ((j : Nat) + 1) none) st) : XW Γ y cc nL ret dd Q ce sl N h pc lv (.long x :: st) := by
  obtain ⟨p, l, e, R, s, m, args, below, meth, c, Ω⟩ := Γ
  intro C H locs ls hH hl hv
  exact lv_lstore_n C.ex C.co d rfl hv hn rfl (fun ls' hl' => k C H locs ls' hH hl (xl_sub hl' (xl_set2 g)))
theorem x_lstore {i : Nat} {x : Int64} (d : decode cc pc = .ok (.lstore i, 2)) (hn : i + 1 < nL) (g : xn2 lv i = true) (k : XW Γ y cc nL ret dd Q ce sl N h (pc + 2) ((lv.set i (some (.long x))).set (i + 1) none) st) : XW Γ y cc nL ret dd Q ce sl N h pc lv (.long x :: st) := by
  obtain ⟨p, l, e, R, s, m, args, below, meth, c, Ω⟩ := Γ
  intro C H locs ls hH hl hv
  exact lv_lstore C.ex C.co d hv hn rfl (fun ls' hl' => k C H locs ls' hH hl (xl_sub hl' (xl_set2 g)))
theorem x_iinc {i : Nat} {n : Int} {x v : Int32} (d : decode cc pc = .ok (.iinc i n, 3)) (g : lv[i]? = some (some (.int x))) (hx : x + Int32.ofInt n = v) (hn : i < nL) (g2 : xn2 lv i = true) (k : XW Γ y cc nL ret dd Q ce sl N h (pc + 3) (lv.set i (some (.int v))) st) : XW Γ y cc nL ret dd Q ce sl N h pc lv st := by
  obtain ⟨p, l, e, R, s, m, args, below, meth, c, Ω⟩ := Γ
  intro C H locs ls hH hl hv
  obtain ⟨j, hj⟩ := List.getElem?_of_mem (xl_mem (Ω := Ω) lv 0 i _ g)
  rw [Nat.zero_add] at hj
  exact lv_iinc C.ex C.co d hv hj hx hn rfl (fun ls' hl' => k C H locs ls' hH hl (xl_sub hl' (xl_set1 g2)))
theorem x_iadd {x y₁ : Int32} (d : decode cc pc = .ok (.iadd, 1)) (k : XW Γ y cc nL ret dd Q ce sl N h (pc + 1) lv (.int (x + y₁) :: st)) : XW Γ y cc nL ret dd Q ce sl N h pc lv (.int y₁ :: .int x :: st) := by
  obtain ⟨p, l, e, R, s, m, args, below, meth, c, Ω⟩ := Γ
  intro C H locs ls hH hl hv
  exact lv_iadd C.ex C.co d (k C H locs ls hH hl hv)
theorem x_isub {x y₁ : Int32} (d : decode cc pc = .ok (.isub, 1)) (k : XW Γ y cc nL ret dd Q ce sl N h (pc + 1) lv (.int (x - y₁) :: st)) : XW Γ y cc nL ret dd Q ce sl N h pc lv (.int y₁ :: .int x :: st) := by
  obtain ⟨p, l, e, R, s, m, args, below, meth, c, Ω⟩ := Γ
  intro C H locs ls hH hl hv
  exact lv_isub C.ex C.co d (k C H locs ls hH hl hv)
theorem x_imul {x y₁ : Int32} (d : decode cc pc = .ok (.imul, 1)) (k : XW Γ y cc nL ret dd Q ce sl N h (pc + 1) lv (.int (x * y₁) :: st)) : XW Γ y cc nL ret dd Q ce sl N h pc lv (.int y₁ :: .int x :: st) := by
  obtain ⟨p, l, e, R, s, m, args, below, meth, c, Ω⟩ := Γ
  intro C H locs ls hH hl hv
  exact lv_imul C.ex C.co d (k C H locs ls hH hl hv)
theorem x_iand {x y₁ : Int32} (d : decode cc pc = .ok (.iand, 1)) (k : XW Γ y cc nL ret dd Q ce sl N h (pc + 1) lv (.int (x &&& y₁) :: st)) : XW Γ y cc nL ret dd Q ce sl N h pc lv (.int y₁ :: .int x :: st) := by
  obtain ⟨p, l, e, R, s, m, args, below, meth, c, Ω⟩ := Γ
  intro C H locs ls hH hl hv
  exact lv_iand C.ex C.co d (k C H locs ls hH hl hv)
theorem x_ior {x y₁ : Int32} (d : decode cc pc = .ok (.ior, 1)) (k : XW Γ y cc nL ret dd Q ce sl N h (pc + 1) lv (.int (x ||| y₁) :: st)) : XW Γ y cc nL ret dd Q ce sl N h pc lv (.int y₁ :: .int x :: st) := by
  obtain ⟨p, l, e, R, s, m, args, below, meth, c, Ω⟩ := Γ
  intro C H locs ls hH hl hv
  exact lv_ior C.ex C.co d (k C H locs ls hH hl hv)
theorem x_ixor {x y₁ : Int32} (d : decode cc pc = .ok (.ixor, 1)) (k : XW Γ y cc nL ret dd Q ce sl N h (pc + 1) lv (.int (x ^^^ y₁) :: st)) : XW Γ y cc nL ret dd Q ce sl N h pc lv (.int y₁ :: .int x :: st) := by
  obtain ⟨p, l, e, R, s, m, args, below, meth, c, Ω⟩ := Γ
  intro C H locs ls hH hl hv
  exact lv_ixor C.ex C.co d (k C H locs ls hH hl hv)
theorem x_ishl {x y₁ : Int32} (d : decode cc pc = .ok (.ishl, 1)) (k : XW Γ y cc nL ret dd Q ce sl N h (pc + 1) lv (.int (x <<< (y₁ &&& 31)) :: st)) : XW Γ y cc nL ret dd Q ce sl N h pc lv (.int y₁ :: .int x :: st) := by
  obtain ⟨p, l, e, R, s, m, args, below, meth, c, Ω⟩ := Γ
  intro C H locs ls hH hl hv
  exact lv_ishl C.ex C.co d (k C H locs ls hH hl hv)
theorem x_ishr {x y₁ : Int32} (d : decode cc pc = .ok (.ishr, 1)) (k : XW Γ y cc nL ret dd Q ce sl N h (pc + 1) lv (.int (x >>> (y₁ &&& 31)) :: st)) : XW Γ y cc nL ret dd Q ce sl N h pc lv (.int y₁ :: .int x :: st) := by
  obtain ⟨p, l, e, R, s, m, args, below, meth, c, Ω⟩ := Γ
  intro C H locs ls hH hl hv
  exact lv_ishr C.ex C.co d (k C H locs ls hH hl hv)
theorem x_idiv {x y₁ : Int32} (d : decode cc pc = .ok (.idiv, 1)) (hz : ¬ y₁ = 0) (k : XW Γ y cc nL ret dd Q ce sl N h (pc + 1) lv (.int (x / y₁) :: st)) : XW Γ y cc nL ret dd Q ce sl N h pc lv (.int y₁ :: .int x :: st) := by
  obtain ⟨p, l, e, R, s, m, args, below, meth, c, Ω⟩ := Γ
  intro C H locs ls hH hl hv
  exact lv_idiv C.ex C.co d hz (k C H locs ls hH hl hv)
theorem x_irem {x y₁ : Int32} (d : decode cc pc = .ok (.irem, 1)) (hz : ¬ y₁ = 0) (k : XW Γ y cc nL ret dd Q ce sl N h (pc + 1) lv (.int (x - x / y₁ * y₁) :: st)) : XW Γ y cc nL ret dd Q ce sl N h pc lv (.int y₁ :: .int x :: st) := by
  obtain ⟨p, l, e, R, s, m, args, below, meth, c, Ω⟩ := Γ
  intro C H locs ls hH hl hv
  exact lv_irem C.ex C.co d hz (k C H locs ls hH hl hv)
theorem x_ladd {x y₁ : Int64} (d : decode cc pc = .ok (.ladd, 1)) (k : XW Γ y cc nL ret dd Q ce sl N h (pc + 1) lv (.long (x + y₁) :: st)) : XW Γ y cc nL ret dd Q ce sl N h pc lv (.long y₁ :: .long x :: st) := by
  obtain ⟨p, l, e, R, s, m, args, below, meth, c, Ω⟩ := Γ
  intro C H locs ls hH hl hv
  exact lv_ladd C.ex C.co d (k C H locs ls hH hl hv)
theorem x_lsub {x y₁ : Int64} (d : decode cc pc = .ok (.lsub, 1)) (k : XW Γ y cc nL ret dd Q ce sl N h (pc + 1) lv (.long (x - y₁) :: st)) : XW Γ y cc nL ret dd Q ce sl N h pc lv (.long y₁ :: .long x :: st) := by
  obtain ⟨p, l, e, R, s, m, args, below, meth, c, Ω⟩ := Γ
  intro C H locs ls hH hl hv
  exact lv_lsub C.ex C.co d (k C H locs ls hH hl hv)
theorem x_lmul {x y₁ : Int64} (d : decode cc pc = .ok (.lmul, 1)) (k : XW Γ y cc nL ret dd Q ce sl N h (pc + 1) lv (.long (x * y₁) :: st)) : XW Γ y cc nL ret dd Q ce sl N h pc lv (.long y₁ :: .long x :: st) := by
  obtain ⟨p, l, e, R, s, m, args, below, meth, c, Ω⟩ := Γ
  intro C H locs ls hH hl hv
  exact lv_lmul C.ex C.co d (k C H locs ls hH hl hv)
theorem x_land {x y₁ : Int64} (d : decode cc pc = .ok (.land, 1)) (k : XW Γ y cc nL ret dd Q ce sl N h (pc + 1) lv (.long (x &&& y₁) :: st)) : XW Γ y cc nL ret dd Q ce sl N h pc lv (.long y₁ :: .long x :: st) := by
  obtain ⟨p, l, e, R, s, m, args, below, meth, c, Ω⟩ := Γ
  intro C H locs ls hH hl hv
  exact lv_land C.ex C.co d (k C H locs ls hH hl hv)
theorem x_lor {x y₁ : Int64} (d : decode cc pc = .ok (.lor, 1)) (k : XW Γ y cc nL ret dd Q ce sl N h (pc + 1) lv (.long (x ||| y₁) :: st)) : XW Γ y cc nL ret dd Q ce sl N h pc lv (.long y₁ :: .long x :: st) := by
  obtain ⟨p, l, e, R, s, m, args, below, meth, c, Ω⟩ := Γ
  intro C H locs ls hH hl hv
  exact lv_lor C.ex C.co d (k C H locs ls hH hl hv)
theorem x_lxor {x y₁ : Int64} (d : decode cc pc = .ok (.lxor, 1)) (k : XW Γ y cc nL ret dd Q ce sl N h (pc + 1) lv (.long (x ^^^ y₁) :: st)) : XW Γ y cc nL ret dd Q ce sl N h pc lv (.long y₁ :: .long x :: st) := by
  obtain ⟨p, l, e, R, s, m, args, below, meth, c, Ω⟩ := Γ
  intro C H locs ls hH hl hv
  exact lv_lxor C.ex C.co d (k C H locs ls hH hl hv)
theorem x_ineg {x : Int32} (d : decode cc pc = .ok (.ineg, 1)) (k : XW Γ y cc nL ret dd Q ce sl N h (pc + 1) lv (.int (-x) :: st)) : XW Γ y cc nL ret dd Q ce sl N h pc lv (.int x :: st) := by
  obtain ⟨p, l, e, R, s, m, args, below, meth, c, Ω⟩ := Γ
  intro C H locs ls hH hl hv
  exact lv_ineg C.ex C.co d (k C H locs ls hH hl hv)
theorem x_lneg {x : Int64} (d : decode cc pc = .ok (.lneg, 1)) (k : XW Γ y cc nL ret dd Q ce sl N h (pc + 1) lv (.long (-x) :: st)) : XW Γ y cc nL ret dd Q ce sl N h pc lv (.long x :: st) := by
  obtain ⟨p, l, e, R, s, m, args, below, meth, c, Ω⟩ := Γ
  intro C H locs ls hH hl hv
  exact lv_lneg C.ex C.co d (k C H locs ls hH hl hv)
theorem x_i2l {x : Int32} (d : decode cc pc = .ok (.i2l, 1)) (k : XW Γ y cc nL ret dd Q ce sl N h (pc + 1) lv (.long x.toInt64 :: st)) : XW Γ y cc nL ret dd Q ce sl N h pc lv (.int x :: st) := by
  obtain ⟨p, l, e, R, s, m, args, below, meth, c, Ω⟩ := Γ
  intro C H locs ls hH hl hv
  exact lv_i2l C.ex C.co d rfl (k C H locs ls hH hl hv)
theorem x_l2i {x : Int64} (d : decode cc pc = .ok (.l2i, 1)) (k : XW Γ y cc nL ret dd Q ce sl N h (pc + 1) lv (.int x.toInt32 :: st)) : XW Γ y cc nL ret dd Q ce sl N h pc lv (.long x :: st) := by
  obtain ⟨p, l, e, R, s, m, args, below, meth, c, Ω⟩ := Γ
  intro C H locs ls hH hl hv
  exact lv_l2i C.ex C.co d rfl (k C H locs ls hH hl hv)
theorem x_i2c {x : Int32} (d : decode cc pc = .ok (.i2c, 1)) (k : XW Γ y cc nL ret dd Q ce sl N h (pc + 1) lv (.int (x.toUInt32 % 65536).toInt32 :: st)) : XW Γ y cc nL ret dd Q ce sl N h pc lv (.int x :: st) := by
  obtain ⟨p, l, e, R, s, m, args, below, meth, c, Ω⟩ := Γ
  intro C H locs ls hH hl hv
  exact lv_i2c C.ex C.co d rfl (k C H locs ls hH hl hv)
theorem x_lcmp {x y₁ : Int64} (d : decode cc pc = .ok (.lcmp, 1)) (k : XW Γ y cc nL ret dd Q ce sl N h (pc + 1) lv (.int (lg_cmp x y₁) :: st)) : XW Γ y cc nL ret dd Q ce sl N h pc lv (.long y₁ :: .long x :: st) := by
  obtain ⟨p, l, e, R, s, m, args, below, meth, c, Ω⟩ := Γ
  intro C H locs ls hH hl hv
  exact W.lcmp C.ex C.co d (k C H locs ls hH hl hv)
theorem x_dup {a : Value} (d : decode cc pc = .ok (.dup, 1)) (ha : a.category = 1) (k : XW Γ y cc nL ret dd Q ce sl N h (pc + 1) lv (a :: a :: st)) : XW Γ y cc nL ret dd Q ce sl N h pc lv (a :: st) := by
  obtain ⟨p, l, e, R, s, m, args, below, meth, c, Ω⟩ := Γ
  intro C H locs ls hH hl hv
  exact lv_dup C.ex C.co d (by rw [xv_cat]; exact ha) (k C H locs ls hH hl hv)
theorem x_pop {a : Value} (d : decode cc pc = .ok (.pop, 1)) (ha : a.category = 1) (k : XW Γ y cc nL ret dd Q ce sl N h (pc + 1) lv st) : XW Γ y cc nL ret dd Q ce sl N h pc lv (a :: st) := by
  obtain ⟨p, l, e, R, s, m, args, below, meth, c, Ω⟩ := Γ
  intro C H locs ls hH hl hv
  exact lv_pop C.ex C.co d (by rw [xv_cat]; exact ha) (k C H locs ls hH hl hv)
theorem x_dup_x1 {a b : Value} (d : decode cc pc = .ok (.dup_x1, 1)) (ha : a.category = 1) (hb : b.category = 1) (k : XW Γ y cc nL ret dd Q ce sl N h (pc + 1) lv (a :: b :: a :: st)) : XW Γ y cc nL ret dd Q ce sl N h pc lv (a :: b :: st) := by
  obtain ⟨p, l, e, R, s, m, args, below, meth, c, Ω⟩ := Γ
  intro C H locs ls hH hl hv
  exact lv_dup_x1 C.ex C.co d (by rw [xv_cat]; exact ha) (by rw [xv_cat]; exact hb) (k C H locs ls hH hl hv)
theorem x_dup_x2 {a b b2 : Value} (d : decode cc pc = .ok (.dup_x2, 1)) (ha : a.category = 1) (hb : b.category = 1) (hb2 : b2.category = 1) (k : XW Γ y cc nL ret dd Q ce sl N h (pc + 1) lv (a :: b :: b2 :: a :: st)) : XW Γ y cc nL ret dd Q ce sl N h pc lv (a :: b :: b2 :: st) := by
  obtain ⟨p, l, e, R, s, m, args, below, meth, c, Ω⟩ := Γ
  intro C H locs ls hH hl hv
  exact lv_dup_x2 C.ex C.co d (by rw [xv_cat]; exact ha) (by rw [xv_cat]; exact hb) (by rw [xv_cat]; exact hb2) (k C H locs ls hH hl hv)
theorem x_dup2 {a b : Value} (d : decode cc pc = .ok (.dup2, 1)) (ha : a.category = 1) (hb : b.category = 1) (k : XW Γ y cc nL ret dd Q ce sl N h (pc + 1) lv (a :: b :: a :: b :: st)) : XW Γ y cc nL ret dd Q ce sl N h pc lv (a :: b :: st) := by
  obtain ⟨p, l, e, R, s, m, args, below, meth, c, Ω⟩ := Γ
  intro C H locs ls hH hl hv
  exact lv_dup2_11 C.ex C.co d (by rw [xv_cat]; exact ha) (by rw [xv_cat]; exact hb) (k C H locs ls hH hl hv)
theorem x_icmp_eq {x y₁ : Int32} {off : Int} (tgt : Nat) (d : decode cc pc = .ok (.if_icmp .eq off, 3)) (g : (pc : Int) + off = (tgt : Int)) (kt : x = y₁ → XW Γ y cc nL ret dd Q ce sl N h tgt lv st) (kf : ¬ x = y₁ → XW Γ y cc nL ret dd Q ce sl N h (pc + 3) lv st) : XW Γ y cc nL ret dd Q ce sl N h pc lv (.int y₁ :: .int x :: st) := by
  obtain ⟨p, l, e, R, s, m, args, below, meth, c, Ω⟩ := Γ
  intro C H locs ls hH hl hv
  exact lv_icmp_eq C.ex C.co d g (fun q => kt q C H locs ls hH hl hv) (fun q => kf q C H locs ls hH hl hv)
theorem x_if_eq {x : Int32} {off : Int} (tgt : Nat) (d : decode cc pc = .ok (.ifCond .eq off, 3)) (g : (pc : Int) + off = (tgt : Int)) (kt : x = 0 → XW Γ y cc nL ret dd Q ce sl N h tgt lv st) (kf : ¬ x = 0 → XW Γ y cc nL ret dd Q ce sl N h (pc + 3) lv st) : XW Γ y cc nL ret dd Q ce sl N h pc lv (.int x :: st) := by
  obtain ⟨p, l, e, R, s, m, args, below, meth, c, Ω⟩ := Γ
  intro C H locs ls hH hl hv
  exact lv_if_eq C.ex C.co d g (fun q => kt q C H locs ls hH hl hv) (fun q => kf q C H locs ls hH hl hv)
theorem x_icmp_ne {x y₁ : Int32} {off : Int} (tgt : Nat) (d : decode cc pc = .ok (.if_icmp .ne off, 3)) (g : (pc : Int) + off = (tgt : Int)) (kt : ¬ x = y₁ → XW Γ y cc nL ret dd Q ce sl N h tgt lv st) (kf : x = y₁ → XW Γ y cc nL ret dd Q ce sl N h (pc + 3) lv st) : XW Γ y cc nL ret dd Q ce sl N h pc lv (.int y₁ :: .int x :: st) := by
  obtain ⟨p, l, e, R, s, m, args, below, meth, c, Ω⟩ := Γ
  intro C H locs ls hH hl hv
  exact lv_icmp_ne C.ex C.co d g (fun q => kt q C H locs ls hH hl hv) (fun q => kf q C H locs ls hH hl hv)
theorem x_if_ne {x : Int32} {off : Int} (tgt : Nat) (d : decode cc pc = .ok (.ifCond .ne off, 3)) (g : (pc : Int) + off = (tgt : Int)) (kt : ¬ x = 0 → XW Γ y cc nL ret dd Q ce sl N h tgt lv st) (kf : x = 0 → XW Γ y cc nL ret dd Q ce sl N h (pc + 3) lv st) : XW Γ y cc nL ret dd Q ce sl N h pc lv (.int x :: st) := by
  obtain ⟨p, l, e, R, s, m, args, below, meth, c, Ω⟩ := Γ
  intro C H locs ls hH hl hv
  exact lv_if_ne C.ex C.co d g (fun q => kt q C H locs ls hH hl hv) (fun q => kf q C H locs ls hH hl hv)
theorem x_icmp_lt {x y₁ : Int32} {off : Int} (tgt : Nat) (d : decode cc pc = .ok (.if_icmp .lt off, 3)) (g : (pc : Int) + off = (tgt : Int)) (kt : x < y₁ → XW Γ y cc nL ret dd Q ce sl N h tgt lv st) (kf : ¬ x < y₁ → XW Γ y cc nL ret dd Q ce sl N h (pc + 3) lv st) : XW Γ y cc nL ret dd Q ce sl N h pc lv (.int y₁ :: .int x :: st) := by
  obtain ⟨p, l, e, R, s, m, args, below, meth, c, Ω⟩ := Γ
  intro C H locs ls hH hl hv
  exact lv_icmp_lt C.ex C.co d g (fun q => kt q C H locs ls hH hl hv) (fun q => kf q C H locs ls hH hl hv)
theorem x_if_lt {x : Int32} {off : Int} (tgt : Nat) (d : decode cc pc = .ok (.ifCond .lt off, 3)) (g : (pc : Int) + off = (tgt : Int)) (kt : x < 0 → XW Γ y cc nL ret dd Q ce sl N h tgt lv st) (kf : ¬ x < 0 → XW Γ y cc nL ret dd Q ce sl N h (pc + 3) lv st) : XW Γ y cc nL ret dd Q ce sl N h pc lv (.int x :: st) := by
  obtain ⟨p, l, e, R, s, m, args, below, meth, c, Ω⟩ := Γ
  intro C H locs ls hH hl hv
  exact lv_if_lt C.ex C.co d g (fun q => kt q C H locs ls hH hl hv) (fun q => kf q C H locs ls hH hl hv)
theorem x_icmp_ge {x y₁ : Int32} {off : Int} (tgt : Nat) (d : decode cc pc = .ok (.if_icmp .ge off, 3)) (g : (pc : Int) + off = (tgt : Int)) (kt : y₁ ≤ x → XW Γ y cc nL ret dd Q ce sl N h tgt lv st) (kf : ¬ y₁ ≤ x → XW Γ y cc nL ret dd Q ce sl N h (pc + 3) lv st) : XW Γ y cc nL ret dd Q ce sl N h pc lv (.int y₁ :: .int x :: st) := by
  obtain ⟨p, l, e, R, s, m, args, below, meth, c, Ω⟩ := Γ
  intro C H locs ls hH hl hv
  exact lv_icmp_ge C.ex C.co d g (fun q => kt q C H locs ls hH hl hv) (fun q => kf q C H locs ls hH hl hv)
theorem x_if_ge {x : Int32} {off : Int} (tgt : Nat) (d : decode cc pc = .ok (.ifCond .ge off, 3)) (g : (pc : Int) + off = (tgt : Int)) (kt : 0 ≤ x → XW Γ y cc nL ret dd Q ce sl N h tgt lv st) (kf : ¬ 0 ≤ x → XW Γ y cc nL ret dd Q ce sl N h (pc + 3) lv st) : XW Γ y cc nL ret dd Q ce sl N h pc lv (.int x :: st) := by
  obtain ⟨p, l, e, R, s, m, args, below, meth, c, Ω⟩ := Γ
  intro C H locs ls hH hl hv
  exact lv_if_ge C.ex C.co d g (fun q => kt q C H locs ls hH hl hv) (fun q => kf q C H locs ls hH hl hv)
theorem x_icmp_gt {x y₁ : Int32} {off : Int} (tgt : Nat) (d : decode cc pc = .ok (.if_icmp .gt off, 3)) (g : (pc : Int) + off = (tgt : Int)) (kt : y₁ < x → XW Γ y cc nL ret dd Q ce sl N h tgt lv st) (kf : ¬ y₁ < x → XW Γ y cc nL ret dd Q ce sl N h (pc + 3) lv st) : XW Γ y cc nL ret dd Q ce sl N h pc lv (.int y₁ :: .int x :: st) := by
  obtain ⟨p, l, e, R, s, m, args, below, meth, c, Ω⟩ := Γ
  intro C H locs ls hH hl hv
  exact lv_icmp_gt C.ex C.co d g (fun q => kt q C H locs ls hH hl hv) (fun q => kf q C H locs ls hH hl hv)
theorem x_if_gt {x : Int32} {off : Int} (tgt : Nat) (d : decode cc pc = .ok (.ifCond .gt off, 3)) (g : (pc : Int) + off = (tgt : Int)) (kt : 0 < x → XW Γ y cc nL ret dd Q ce sl N h tgt lv st) (kf : ¬ 0 < x → XW Γ y cc nL ret dd Q ce sl N h (pc + 3) lv st) : XW Γ y cc nL ret dd Q ce sl N h pc lv (.int x :: st) := by
  obtain ⟨p, l, e, R, s, m, args, below, meth, c, Ω⟩ := Γ
  intro C H locs ls hH hl hv
  exact lv_if_gt C.ex C.co d g (fun q => kt q C H locs ls hH hl hv) (fun q => kf q C H locs ls hH hl hv)
theorem x_icmp_le {x y₁ : Int32} {off : Int} (tgt : Nat) (d : decode cc pc = .ok (.if_icmp .le off, 3)) (g : (pc : Int) + off = (tgt : Int)) (kt : x ≤ y₁ → XW Γ y cc nL ret dd Q ce sl N h tgt lv st) (kf : ¬ x ≤ y₁ → XW Γ y cc nL ret dd Q ce sl N h (pc + 3) lv st) : XW Γ y cc nL ret dd Q ce sl N h pc lv (.int y₁ :: .int x :: st) := by
  obtain ⟨p, l, e, R, s, m, args, below, meth, c, Ω⟩ := Γ
  intro C H locs ls hH hl hv
  exact lv_icmp_le C.ex C.co d g (fun q => kt q C H locs ls hH hl hv) (fun q => kf q C H locs ls hH hl hv)
theorem x_if_le {x : Int32} {off : Int} (tgt : Nat) (d : decode cc pc = .ok (.ifCond .le off, 3)) (g : (pc : Int) + off = (tgt : Int)) (kt : x ≤ 0 → XW Γ y cc nL ret dd Q ce sl N h tgt lv st) (kf : ¬ x ≤ 0 → XW Γ y cc nL ret dd Q ce sl N h (pc + 3) lv st) : XW Γ y cc nL ret dd Q ce sl N h pc lv (.int x :: st) := by
  obtain ⟨p, l, e, R, s, m, args, below, meth, c, Ω⟩ := Γ
  intro C H locs ls hH hl hv
  exact lv_if_le C.ex C.co d g (fun q => kt q C H locs ls hH hl hv) (fun q => kf q C H locs ls hH hl hv)
theorem x_goto {off : Int} (tgt : Nat) (d : decode cc pc = .ok (.goto off, 3)) (g : (pc : Int) + off = (tgt : Int)) (k : XW Γ y cc nL ret dd Q ce sl N h tgt lv st) : XW Γ y cc nL ret dd Q ce sl N h pc lv st := by
  obtain ⟨p, l, e, R, s, m, args, below, meth, c, Ω⟩ := Γ
  intro C H locs ls hH hl hv
  exact lv_goto C.ex C.co d g (k C H locs ls hH hl hv)
theorem x_tableOut {dflt lo hi : Int} {offs : Array Int} {len : Nat} {x : Int32} (tgt : Nat) (d : decode cc pc = .ok (.tableswitch dflt lo hi offs, len)) (g : x.toInt < lo ∨ hi < x.toInt) (ht : (pc : Int) + dflt = (tgt : Int)) (k : XW Γ y cc nL ret dd Q ce sl N h tgt lv st) : XW Γ y cc nL ret dd Q ce sl N h pc lv (.int x :: st) := by
  obtain ⟨p, l, e, R, s, m, args, below, meth, c, Ω⟩ := Γ
  intro C H locs ls hH hl hv
  exact lv_tableOut C.ex C.co d g ht (k C H locs ls hH hl hv)
theorem x_tableIn {dflt lo hi : Int} {offs : Array Int} {len : Nat} {x : Int32} {off : Int} (tgt : Nat) (d : decode cc pc = .ok (.tableswitch dflt lo hi offs, len)) (g1 : ¬ x.toInt < lo) (g2 : ¬ hi < x.toInt) (ho : offs[(x.toInt - lo).toNat]? = some off) (ht : (pc : Int) + off = (tgt : Int)) (k : XW Γ y cc nL ret dd Q ce sl N h tgt lv st) : XW Γ y cc nL ret dd Q ce sl N h pc lv (.int x :: st) := by
  obtain ⟨p, l, e, R, s, m, args, below, meth, c, Ω⟩ := Γ
  intro C H locs ls hH hl hv
  exact lv_tableIn C.ex C.co d g1 g2 ho ht (k C H locs ls hH hl hv)
theorem x_lookup {dflt : Int} {ps : Array (Int × Int)} {len : Nat} {x : Int32} {off : Int} (tgt : Nat) (d : decode cc pc = .ok (.lookupswitch dflt ps, len)) (hp : (ps.toList.zip (ps.toList.drop 1)).all (fun (a, next) => a.1 < next.1) = true) (ho : Op.lookupswitch.offset ps.toList dflt x.toInt = off) (ht : (pc : Int) + off = (tgt : Int)) (k : XW Γ y cc nL ret dd Q ce sl N h tgt lv st) : XW Γ y cc nL ret dd Q ce sl N h pc lv (.int x :: st) := by
  obtain ⟨p, l, e, R, s, m, args, below, meth, c, Ω⟩ := Γ
  intro C H locs ls hH hl hv
  exact lv_lookup C.ex C.co d hp ho ht (k C H locs ls hH hl hv)
end XR
