/-! X: heap, calls, returns. -/
theorem xtys_at {tc : Nat → ClassId} {t : Nat} {ty : FieldType} (h : xtl[t]? = some ty) : (xtys tc)[t]? = some (tc t, ty) := by
  unfold xtys
  rw [List.getElem?_mapIdx, h]
  rfl
theorem xP1 {D : va_G} {cl : List vw_C} {x : Nat × va_E} {H : Heap} (h : va_at D cl x H) : va_P D cl [x] H := by
  intro k q hk
  cases k with
  | zero =>
    cases hk
    exact h
  | succ k => simp at hk
theorem xH_at {Ω : xO} {N : Nat} {h : xHp} {H : Heap} {k : Nat} (hH : xH Ω N h H) (hk : k < N) : va_at Ω.1 xcl (Ω.2.2.1 + k, xc Ω (h k)) H := hH.2.2.2.2 k hk
theorem xH_i {Ω : xO} {N : Nat} {h : xHp} {H : Heap} {k : Nat} (hH : xH Ω N h H) (hk : k < N) : xi Ω k = Ω.2.2.1 + k := xi_lt (Nat.lt_of_lt_of_le hk hH.1)
theorem xH_set {Ω : xO} {N : Nat} {h : xHp} {H H' : Heap} {q : Nat} {e : xE} (hH : xH Ω N h H) (hq : q < N) (hz : H'.size = H.size) (ho : ∀ a : Nat, a ≠ Ω.2.2.1 + q → H'[a]? = H[a]?) (he : va_at Ω.1 xcl (Ω.2.2.1 + q, xc Ω e) H') : xH Ω N (va_up h q e) H' := by
  obtain ⟨h1, h2, h3, h4, h5⟩ := hH
  refine ⟨h1, hz.trans h2, h3, fun a ha => (ho a (by omega)).trans (h4 a ha), fun k hk => ?_⟩
  by_cases e1 : k = q
  · subst e1
    have e2 : va_up h k e k = e := if_pos rfl
    rw [e2]
    exact he
  · have e2 : va_up h q e k = h k := if_neg e1
    rw [e2]
    exact (h5 k hk).kept (ho _ (by show Ω.2.2.1 + k ≠ _; omega))
theorem xH_push {Ω : xO} {N : Nat} {h : xHp} {H H' : Heap} {e : xE} (hH : xH Ω N h H) (hN : N < 1000000) (hz : H'.size = H.size + 1) (ho : ∀ a : Nat, a < H.size → H'[a]? = H[a]?) (he : va_at Ω.1 xcl (Ω.2.2.1 + N, xc Ω e) H') : xH Ω (N + 1) (va_up h N e) H' := by
  obtain ⟨h1, h2, h3, h4, h5⟩ := hH
  refine ⟨hN, by omega, h3, fun a ha => (ho a (by omega)).trans (h4 a ha), fun k hk => ?_⟩
  by_cases e1 : k = N
  · subst e1
    have e2 : va_up h k e k = e := if_pos rfl
    rw [e2]
    exact he
  · have e2 : va_up h N e k = h k := if_neg e1
    rw [e2]
    exact (h5 k (by omega)).kept (ho _ (by show Ω.2.2.1 + k < _; omega))
theorem xst.warm {Ω : xO} {u U : State} (hW : u.WarmedH U.vm) (h : xst Ω u) : xst Ω U := ⟨fun i q hq => ⟨(h.1 i q hq).1.moved hW.alike, (h.1 i q hq).2.moved hW.alike⟩, fun q hq => va_Nw.warmM hW (h.2.1 q hq), fun E hE => va_AO.moved hW.alike (h.2.2 E hE)⟩
theorem xst.same {Ω : xO} {u U : State} (e : u.vm = U.vm) (h : xst Ω u) : xst Ω U := by
  have hvm : u.vm.Alike U.vm := by rw [e]; exact Vm.Alike.refl _
  exact ⟨fun i q hq => ⟨(h.1 i q hq).1.moved hvm, (h.1 i q hq).2.moved hvm⟩, fun q hq => va_Nw.same rfl e (h.2.1 q hq), fun E hE => va_AO.moved hvm (h.2.2 E hE)⟩
theorem xs_i (c : ClassId) (n j : Nat) (f : Nat → Int32) (x : Int32) : (vp_cell c (n, .inl f)).setSlot j (.int x) = vp_cell c (n, .inl (upd f j x)) := by
  rw [vp_cell_i, vp_cell_i, arrV_store]
  congr 1
  funext q
  by_cases hq : q = j
  · subst hq
    simp [updV, upd]
  · simp [updV, upd, hq]
theorem xs_l (c : ClassId) (n j : Nat) (f : Nat → Int64) (x : Int64) : (vp_cell c (n, .inr (.inl f))).setSlot j (.long x) = vp_cell c (n, .inr (.inl (vp_updL f j x))) := by
  rw [vp_cell_l, vp_cell_l, arrV_store]
  congr 1
  funext q
  by_cases hq : q = j
  · subst hq
    simp [updV, vp_updL]
  · simp [updV, vp_updL, hq]
theorem xs_q (c : ClassId) (n j : Nat) (f : Nat → Option Nat) (x : Nat) : (vp_cell c (n, .inr (.inr (.inr (.inr f))))).setSlot j (.ref x) = vp_cell c (n, .inr (.inr (.inr (.inr (va_up f j (some x)))))) := by
  rw [vp_cell_q, vp_cell_q, arrV_store]
  congr 1
  funext q
  by_cases hq : q = j
  · subst hq
    simp [updV, va_up, va_rf]
  · simp [updV, va_up, hq]
theorem xlocs {b : Nat} {locs : List Loc} {a j : Nat} (hl : ∀ q ∈ locs, b ≤ q.base) (ha : b ≤ a) : ∀ q ∈ locs ++ [⟨a, j⟩], b ≤ q.base := by
  intro q hq
  rcases List.mem_append.mp hq with h | h
  · exact hl q h
  · rw [List.mem_singleton.mp h]
    exact ha
/-- a field of a class, by the constant pool of 'own': class number, slot, final, type -/
def xFld (own : String) (idx ci k : Nat) (fin : Bool) (ty : FieldType) : Prop := ∃ (C : String) (T : u_T) (Nf : Nat) (ty0 : Nat → FieldType), xcl[ci]? = some (C, T, Nf) ∧ k < Nf ∧ (∀ w ∈ u_ws C T Nf, w ∈ xBIG) ∧ Jvm.Cond.fieldLink own idx (T k).1 (T k).2.1 (T k).2.2.1 ∈ xBIG ∧ (T k).2.2.2 = fin ∧ (∀ j, j < Nf → parseFieldDescriptor (T j).2.2.1 = some (ty0 j)) ∧ ty0 k = ty ∧ (∀ a, a < Nf → ∀ b, b < Nf → a ≠ b → (T a).2.1 ≠ (T b).2.1) ∧ (fin = true → (T k).1 = own)
/-- a class that is made: its number, its fields at birth -/
def xCls (own : String) (idx ci nf : Nat) (fs : List Value) : Prop := ∃ (C : String) (T : u_T) (ty0 : Nat → FieldType), xcl[ci]? = some (C, T, nf) ∧ (∀ w ∈ u_ws C T nf, w ∈ xBIG) ∧ Jvm.Cond.classLink own idx C ∈ xBIG ∧ Jvm.Cond.instantiable C nf ∈ xBIG ∧ Jvm.Cond.initialized C ∈ xBIG ∧ (∀ j, j < nf → parseFieldDescriptor (T j).2.2.1 = some (ty0 j)) ∧ (∀ j, j < nf → defaultValue (ty0 j) = vp_V fs j) ∧ ∀ (Ω : xO) (j : Nat), vp_V (fs.map (xv Ω)) j = vp_V fs j
section XR2
variable {Γ : xG} {y : MethodName} {cc : ByteArray} {nL : Nat} {ret : Option FieldType} {dd : Nat × Nat × Nat} {Q : State → Prop} {ce sl N : Nat} {h : xHp} {pc : Nat} {lv : List (Option Value)} {st : List Value}
theorem x_get {idx ci j q : Nat} {fin : Bool} {ty : FieldType} {fs : List Value} {v : Value} (F : xFld y.cls idx ci j fin ty) (d : decode cc pc = .ok (.getfield idx, 3)) (hq : q < N) (hh : h q = .inr (ci, fs)) (g : fs[j]? = some v) (k : XW Γ y cc nL ret dd Q ce sl N h (pc + 3) lv (v :: st)) : XW Γ y cc nL ret dd Q ce sl N h pc lv (.ref q :: st) := by
  obtain ⟨p, l, e, R, s, m, args, below, meth, c, Ω⟩ := Γ
  intro C H locs ls hH hl hv
  obtain ⟨C0, T, Nf, ty0, f1, f2, f3, f4, -⟩ := F
  have hc := xH_at hH hq
  rw [hh] at hc
  show W p l e R s m args below meth c H locs ce sl Q (F0 m pc ls (.ref (xi Ω q) :: st.map (xv Ω)))
  rw [xH_i hH hq]
  exact va_get (D := Ω.1) (T := T) C.ex C.co C.ts f3 C.ow C.K (xP1 hc) 0 rfl f1 j f2 (C.ts _ f4) (fun _ h9 => h9) (by rw [List.getElem?_map, g]; rfl) d (k C H locs ls hH hl hv)
theorem x_put {idx ci j q : Nat} {ty : FieldType} {fs : List Value} {v : Value} (F : xFld y.cls idx ci j false ty) (d : decode cc pc = .ok (.putfield idx, 3)) (hq : q < N) (hh : h q = .inr (ci, fs)) (g : j < fs.length) (hn : ∀ Ω, narrow ty (xv Ω v) = xv Ω v ∧ fits ty (xv Ω v) = true) (k : XW Γ y cc nL ret dd Q ce sl N (va_up h q (.inr (ci, fs.set j v))) (pc + 3) lv st) : XW Γ y cc nL ret dd Q ce sl N h pc lv (v :: .ref q :: st) := by
  obtain ⟨p, l, e, R, s, m, args, below, meth, c, Ω⟩ := Γ
  intro C H locs ls hH hl hv
  obtain ⟨C0, T, Nf, ty0, f1, f2, f3, f4, f5, f6, f7, f8, -⟩ := F
  have hts := C.ts
  have hK := C.K
  have hap := va_apart (own := y.cls) hts f3 ty0 f6 f8 hK f1
  have hc := xH_at hH hq
  rw [hh] at hc
  obtain ⟨r, g1, cell, g2, g3, g4, g5⟩ := hc
  have hr : r = (C0, T, Nf) := Option.some.inj (g1.symm.trans f1)
  subst hr
  obtain ⟨hS, hfc, kC, hkC, hkind⟩ := hK.1 ci _ f1
  obtain ⟨cf, kf, fi, f, hi, hsl⟩ := hS j f2
  have hlay := hts _ (f3 _ (u_in_lay f2))
  unfold u_lay at hlay
  rw [if_neg (by rw [f5]; decide)] at hlay
  have hst := (u_facts hfc hkC (u_lays hts f3 f2) hi).1
  have h6 := u_store hfc hkC hkind hlay hi (by rw [f6 j f2, f7]) (hn Ω).1 (hn Ω).2
  show W p l e R s m args below meth c H locs ce sl Q (F0 m pc ls (xv Ω v :: .ref (xi Ω q) :: st.map (xv Ω)))
  rw [xH_i hH hq]
  refine W.putK C.ex C.co (f := f) ⟨C.ow, hts _ f4, ⟨_, _, _, hi⟩, hst⟩ (by rw [g3]; exact h6) g2 g4 (by rw [hsl]; exact k2_hasslot (g5 j f2)) rfl rfl d fun H' e1 e2 e3 => ?_
  rw [hsl] at e1 ⊢
  refine k C H' _ ls (xH_set hH hq e2 e3 ⟨_, f1, t_OB.to (V := updV (vp_V (fs.map (xv Ω))) j (xv Ω v)) ⟨_, e1, g3, g4, t_set g5 hap f2 _⟩ (fun i _ => ?_)⟩) (xlocs hl (Nat.le_add_right _ _)) hv
  rw [vp_updV_set (by simpa using g)]
  show _ = vp_V ((fs.set j v).map (xv Ω)) i
  rw [List.map_set]
theorem x_putF {idx ci j q : Nat} {ty : FieldType} {fs : List Value} {v : Value} (F : xFld y.cls idx ci j true ty) (hin : y.name = "<init>") (d : decode cc pc = .ok (.putfield idx, 3)) (hq : q < N) (hh : h q = .inr (ci, fs)) (g : j < fs.length) (hn : ∀ Ω, narrow ty (xv Ω v) = xv Ω v ∧ fits ty (xv Ω v) = true) (k : XW Γ y cc nL ret dd Q ce sl N (va_up h q (.inr (ci, fs.set j v))) (pc + 3) lv st) : XW Γ y cc nL ret dd Q ce sl N h pc lv (v :: .ref q :: st) := by
  obtain ⟨p, l, e, R, s, m, args, below, meth, c, Ω⟩ := Γ
  intro C H locs ls hH hl hv
  obtain ⟨C0, T, Nf, ty0, f1, f2, f3, f4, f5, f6, f7, f8, f9⟩ := F
  have hts := C.ts
  have hK := C.K
  have hap := va_apart (own := y.cls) hts f3 ty0 f6 f8 hK f1
  have hc := xH_at hH hq
  rw [hh] at hc
  obtain ⟨r, g1, cell, g2, g3, g4, g5⟩ := hc
  have hr : r = (C0, T, Nf) := Option.some.inj (g1.symm.trans f1)
  subst hr
  obtain ⟨hS, hfc, kC, hkC, hkind⟩ := hK.1 ci _ f1
  obtain ⟨cf, kf, fi, f, hi, hsl⟩ := hS j f2
  have hlay := hts _ (f3 _ (u_in_lay f2))
  unfold u_lay at hlay
  rw [if_pos f5] at hlay
  have hst := (u_facts hfc hkC (u_lays hts f3 f2) hi).1
  have hcf : m.cls = cf := by
    obtain ⟨_, _, c', _, _, _, -, -, hf', -, -, -, hown2, -⟩ := Cond.laysFinal_spec hlay
    have e1 : c' = cf := by
      have := hi.symm.trans hf'
      simp at this
      exact this.1.symm
    rw [f9 rfl] at hown2
    rw [← e1]
    exact Option.some.inj (C.ow.symm.trans hown2)
  have h6 := u_fits hfc hkC hkind (Or.inr hlay) hi (by rw [f6 j f2, f7]) (hn Ω).1 (hn Ω).2
  show W p l e R s m args below meth c H locs ce sl Q (F0 m pc ls (xv Ω v :: .ref (xi Ω q) :: st.map (xv Ω)))
  rw [xH_i hH hq]
  refine W.putFinK C.ex C.co C.ow (hts _ f4) hi hst hcf (by rw [C.nm]; exact hin) (by rw [g3]; exact h6) g2 g4 (by rw [hsl]; exact k2_hasslot (g5 j f2)) rfl rfl d fun H' e1 e2 e3 => ?_
  rw [hsl] at e1 ⊢
  refine k C H' _ ls (xH_set hH hq e2 e3 ⟨_, f1, t_OB.to (V := updV (vp_V (fs.map (xv Ω))) j (xv Ω v)) ⟨_, e1, g3, g4, t_set g5 hap f2 _⟩ (fun i _ => ?_)⟩) (xlocs hl (Nat.le_add_right _ _)) hv
  rw [vp_updV_set (by simpa using g)]
  show _ = vp_V ((fs.set j v).map (xv Ω)) i
  rw [List.map_set]
theorem x_iald {q n : Nat} {f : Nat → Int32} {i : Int32} (d : decode cc pc = .ok (.iaload, 1)) (hq : q < N) (hh : h q = .inl (0, n, .inl f)) (hi : vp_in i n) (k : XW Γ y cc nL ret dd Q ce sl N h (pc + 1) lv (.int (f i.toNatClampNeg) :: st)) : XW Γ y cc nL ret dd Q ce sl N h pc lv (.int i :: .ref q :: st) := by
  obtain ⟨p, l, e, R, s, m, args, below, meth, c, Ω⟩ := Γ
  intro C H locs ls hH hl hv
  have hc := xH_at hH hq
  rw [hh] at hc
  show W p l e R s m args below meth c H locs ce sl Q (F0 m pc ls (.int i :: .ref (xi Ω q) :: st.map (xv Ω)))
  rw [xH_i hH hq]
  exact va_iald C.ex C.co C.K (xP1 hc) 0 0 rfl (xtys_at rfl) hi d (k C H locs ls hH hl hv)
theorem x_cald {q n : Nat} {f : Nat → Int32} {i : Int32} (d : decode cc pc = .ok (.caload, 1)) (hq : q < N) (hh : h q = .inl (1, n, .inl f)) (hi : vp_in i n) (k : XW Γ y cc nL ret dd Q ce sl N h (pc + 1) lv (.int (f i.toNatClampNeg) :: st)) : XW Γ y cc nL ret dd Q ce sl N h pc lv (.int i :: .ref q :: st) := by
  obtain ⟨p, l, e, R, s, m, args, below, meth, c, Ω⟩ := Γ
  intro C H locs ls hH hl hv
  have hc := xH_at hH hq
  rw [hh] at hc
  show W p l e R s m args below meth c H locs ce sl Q (F0 m pc ls (.int i :: .ref (xi Ω q) :: st.map (xv Ω)))
  rw [xH_i hH hq]
  exact va_cald C.ex C.co C.K (xP1 hc) 0 1 rfl (xtys_at rfl) hi d (k C H locs ls hH hl hv)
theorem x_lald {q n : Nat} {f : Nat → Int64} {i : Int32} (d : decode cc pc = .ok (.laload, 1)) (hq : q < N) (hh : h q = .inl (2, n, .inr (.inl f))) (hi : vp_in i n) (k : XW Γ y cc nL ret dd Q ce sl N h (pc + 1) lv (.long (f i.toNatClampNeg) :: st)) : XW Γ y cc nL ret dd Q ce sl N h pc lv (.int i :: .ref q :: st) := by
  obtain ⟨p, l, e, R, s, m, args, below, meth, c, Ω⟩ := Γ
  intro C H locs ls hH hl hv
  have hc := xH_at hH hq
  rw [hh] at hc
  show W p l e R s m args below meth c H locs ce sl Q (F0 m pc ls (.int i :: .ref (xi Ω q) :: st.map (xv Ω)))
  rw [xH_i hH hq]
  exact va_lald C.ex C.co C.K (xP1 hc) 0 2 rfl (xtys_at rfl) hi d (k C H locs ls hH hl hv)
/-- an array of references: tag t, class E -/
theorem x_aald {t q n v : Nat} {E : String} {f : Nat → Option Nat} {i : Int32} (ht : xtl[t]? = some (.object E)) (d : decode cc pc = .ok (.aaload, 1)) (hq : q < N) (hh : h q = .inl (t, n, .inr (.inr (.inr (.inr f))))) (hi : vp_in i n) (hf : f i.toNatClampNeg = some v) (k : XW Γ y cc nL ret dd Q ce sl N h (pc + 1) lv (.ref v :: st)) : XW Γ y cc nL ret dd Q ce sl N h pc lv (.int i :: .ref q :: st) := by
  obtain ⟨p, l, e, R, s, m, args, below, meth, c, Ω⟩ := Γ
  intro C H locs ls hH hl hv
  have hc := xH_at hH hq
  rw [hh] at hc
  show W p l e R s m args below meth c H locs ce sl Q (F0 m pc ls (.int i :: .ref (xi Ω q) :: st.map (xv Ω)))
  rw [xH_i hH hq]
  refine va_aldq (f := fun j => (f j).map (xi Ω)) C.ex C.co C.K (xP1 hc) 0 t rfl (xtys_at ht) hi d ?_
  rw [hf]
  exact k C H locs ls hH hl hv
theorem x_alen {t q : Nat} {a : vp_A} {ty : FieldType} {v : Int32} (d : decode cc pc = .ok (.arraylength, 1)) (hq : q < N) (hh : h q = .inl (t, a)) (ht : xtl[t]? = some ty) (g : Int32.ofNat a.1 = v) (k : XW Γ y cc nL ret dd Q ce sl N h (pc + 1) lv (.int v :: st)) : XW Γ y cc nL ret dd Q ce sl N h pc lv (.ref q :: st) := by
  obtain ⟨p, l, e, R, s, m, args, below, meth, c, Ω⟩ := Γ
  intro C H locs ls hH hl hv
  have hc := xH_at hH hq
  rw [hh] at hc
  show W p l e R s m args below meth c H locs ce sl Q (F0 m pc ls (.ref (xi Ω q) :: st.map (xv Ω)))
  rw [xH_i hH hq]
  exact va_alen (x := xa Ω a) C.ex C.co C.K (xP1 hc) 0 t rfl (xtys_at ht) g d (k C H locs ls hH hl hv)
theorem x_iast {q n : Nat} {f : Nat → Int32} {i x : Int32} (d : decode cc pc = .ok (.iastore, 1)) (hq : q < N) (hh : h q = .inl (0, n, .inl f)) (hi : vp_in i n) (k : XW Γ y cc nL ret dd Q ce sl N (va_up h q (.inl (0, n, .inl (upd f i.toNatClampNeg x)))) (pc + 1) lv st) : XW Γ y cc nL ret dd Q ce sl N h pc lv (.int x :: .int i :: .ref q :: st) := by
  obtain ⟨p, l, e, R, s, m, args, below, meth, c, Ω⟩ := Γ
  intro C H locs ls hH hl hv
  have hc := xH_at hH hq
  rw [hh] at hc
  have hA := (C.K.2 0 _ (xtys_at rfl)).1 n (fun j => .int (f j))
  show W p l e R s m args below meth c H locs ce sl Q (F0 m pc ls (.int x :: .int i :: .ref (xi Ω q) :: st.map (xv Ω)))
  rw [xH_i hH hq]
  refine W.iast C.ex C.co hc hA (fun z => by cases z) (by show ¬ (i < 0 ∨ (arrV _ _ _).slots.size ≤ _); rw [arrV_size]; exact hi) rfl rfl d fun H' e1 e2 e3 => ?_
  refine k C H' _ ls (xH_set hH hq e2 e3 ?_) (xlocs hl (Nat.le_add_right _ _)) hv
  show H'[_]? = some (vp_cell _ (n, .inl _))
  rw [e1]
  exact congrArg some (xs_i _ _ _ _ _)
theorem x_cast {q n : Nat} {f : Nat → Int32} {i x : Int32} (d : decode cc pc = .ok (.castore, 1)) (hq : q < N) (hh : h q = .inl (1, n, .inl f)) (hi : vp_in i n) (hx : narrow .char (.int x) = .int x) (k : XW Γ y cc nL ret dd Q ce sl N (va_up h q (.inl (1, n, .inl (upd f i.toNatClampNeg x)))) (pc + 1) lv st) : XW Γ y cc nL ret dd Q ce sl N h pc lv (.int x :: .int i :: .ref q :: st) := by
  obtain ⟨p, l, e, R, s, m, args, below, meth, c, Ω⟩ := Γ
  intro C H locs ls hH hl hv
  have hc := xH_at hH hq
  rw [hh] at hc
  have hA := (C.K.2 1 _ (xtys_at rfl)).1 n (fun j => .int (f j))
  show W p l e R s m args below meth c H locs ce sl Q (F0 m pc ls (.int x :: .int i :: .ref (xi Ω q) :: st.map (xv Ω)))
  rw [xH_i hH hq]
  refine W.cast C.ex C.co hc hA (fun z => by cases z) (by show ¬ (i < 0 ∨ (arrV _ _ _).slots.size ≤ _); rw [arrV_size]; exact hi) rfl rfl d fun H' e1 e2 e3 => ?_
  rw [hx] at e1
  refine k C H' _ ls (xH_set hH hq e2 e3 ?_) (xlocs hl (Nat.le_add_right _ _)) hv
  show H'[_]? = some (vp_cell _ (n, .inl _))
  rw [e1]
  exact congrArg some (xs_i _ _ _ _ _)
theorem x_last {q n : Nat} {f : Nat → Int64} {i : Int32} {x : Int64} (d : decode cc pc = .ok (.lastore, 1)) (hq : q < N) (hh : h q = .inl (2, n, .inr (.inl f))) (hi : vp_in i n) (k : XW Γ y cc nL ret dd Q ce sl N (va_up h q (.inl (2, n, .inr (.inl (vp_updL f i.toNatClampNeg x))))) (pc + 1) lv st) : XW Γ y cc nL ret dd Q ce sl N h pc lv (.long x :: .int i :: .ref q :: st) := by
  obtain ⟨p, l, e, R, s, m, args, below, meth, c, Ω⟩ := Γ
  intro C H locs ls hH hl hv
  have hc := xH_at hH hq
  rw [hh] at hc
  have hA := (C.K.2 2 _ (xtys_at rfl)).1 n (fun j => .long (f j))
  show W p l e R s m args below meth c H locs ce sl Q (F0 m pc ls (.long x :: .int i :: .ref (xi Ω q) :: st.map (xv Ω)))
  rw [xH_i hH hq]
  refine W.last C.ex C.co hc hA (fun z => by cases z) (by show ¬ (i < 0 ∨ (arrV _ _ _).slots.size ≤ _); rw [arrV_size]; exact hi) rfl rfl d fun H' e1 e2 e3 => ?_
  refine k C H' _ ls (xH_set hH hq e2 e3 ?_) (xlocs hl (Nat.le_add_right _ _)) hv
  show H'[_]? = some (vp_cell _ (n, .inr (.inl _)))
  rw [e1]
  exact congrArg some (xs_l _ _ _ _ _)
theorem x_aast {t q n v ci : Nat} {r : vw_C} {vs : List Value} {f : Nat → Option Nat} {i : Int32} (ht : xtl[t]? = some (.object r.1)) (d : decode cc pc = .ok (.aastore, 1)) (hq : q < N) (hh : h q = .inl (t, n, .inr (.inr (.inr (.inr f))))) (hi : vp_in i n) (hv0 : v < N) (hhv : h v = .inr (ci, vs)) (hci : xcl[ci]? = some r) (k : XW Γ y cc nL ret dd Q ce sl N (va_up h q (.inl (t, n, .inr (.inr (.inr (.inr (va_up f i.toNatClampNeg (some v)))))))) (pc + 1) lv st) : XW Γ y cc nL ret dd Q ce sl N h pc lv (.ref v :: .int i :: .ref q :: st) := by
  obtain ⟨p, l, e, R, s, m, args, below, meth, c, Ω⟩ := Γ
  intro C H locs ls hH hl hv
  have hlt : i.toNatClampNeg < n := Nat.not_le.mp fun z => hi (Or.inr z)
  have h0 : ¬ i < 0 := fun z => hi (Or.inl z)
  have hc := xH_at hH hq
  rw [hh] at hc
  have hcv := xH_at hH hv0
  rw [hhv] at hcv
  have hK := C.K
  obtain ⟨r', -, cellV, g1, g2, g3, -⟩ := hcv
  have hcls := (hK.1 ci r hci).2
  obtain ⟨kA, comp, k1, k2, k3, -⟩ := (hK.2 t _ (xtys_at ht)).2
  have hcomp : comp = Ω.1.1 ci := Option.some.inj (k3.symm.trans hcls.1)
  subst hcomp
  obtain ⟨kC, hkC, -⟩ := hcls.2
  show W p l e R s m args below meth c H locs ce sl Q (F0 m pc ls (.ref (xi Ω v) :: .int i :: .ref (xi Ω q) :: st.map (xv Ω)))
  rw [xH_i hH hq, xH_i hH hv0]
  refine W.aast C.ex C.co hc (fun z w => by cases w) (fun w => by cases w) k1 k2 rfl hkC ⟨h0, by show _ < (arrV _ _ _).slots.size; rw [arrV_size]; exact hlt⟩ g1 (fun z w => by rw [g3] at w; cases w) (by rw [g2]; exact hkC) (by rw [g2]; exact va_assign hcls) rfl rfl d fun H' e1 e2 e3 => ?_
  refine k C H' _ ls (xH_set hH hq e2 e3 ?_) (xlocs hl (Nat.le_add_right _ _)) hv
  show H'[_]? = some (vp_cell _ (n, .inr (.inr (.inr (.inr _)))))
  rw [e1]
  refine congrArg some ((xs_q _ _ _ _ _).trans ?_)
  congr 6
  funext z
  by_cases hz : z = i.toNatClampNeg
  · subst hz
    simp [va_up, xH_i hH hv0]
  · simp [va_up, hz]
theorem x_new {idx ci nf : Nat} {fs : List Value} (F : xCls y.cls idx ci nf fs) (d : decode cc pc = .ok (.new idx, 3)) (hN : N < 1000000) (hce : ce + 1 ≤ dd.2.1 ∧ sl + nf ≤ dd.2.2) (k : XW Γ y cc nL ret dd Q (ce + 1) (sl + nf) (N + 1) (va_up h N (.inr (ci, fs))) (pc + 3) lv (.ref N :: st)) : XW Γ y cc nL ret dd Q ce sl N h pc lv st := by
  obtain ⟨p, l, e, R, s, m, args, below, meth, c, Ω⟩ := Γ
  intro C H locs ls hH hl hv
  obtain ⟨C0, T, ty0, f1, f2, f3, f4, f5, f6, f7, f8⟩ := F
  have hts := C.ts
  have hKn := C.K.1 ci _ f1
  have hcap := C.cap
  refine W.newcK C.ex C.co C.ow (hts _ f3) (hts _ f4) (hts _ f5) rfl d (Nat.le_trans hce.1 hcap.1) (Nat.le_trans hce.2 hcap.2) hKn.2.1 rfl fun H1 kC hkC e1 z1 o1 => ?_
  have e0 : H.size = Ω.2.2.1 + N := hH.2.1
  rw [e0] at e1 z1 o1 ⊢
  have hx : xi Ω N = Ω.2.2.1 + N := xi_lt hN
  have := k C H1 locs ls (xH_push hH hN (by rw [z1, e0]) (fun a ha => o1 a (by rw [← e0]; exact ha)) ⟨_, f1, (u_born ty0 hts f2 hKn hkC e1 f6).to (fun j hj => (f7 j hj).trans (f8 Ω j).symm)⟩) hl hv
  rw [← hx]
  exact this
theorem x_newa {t n : Nat} {i : Int32} {atype : ArrayType} {ty : FieldType} {a0 : vp_A} (hty : newarray.typeOf atype = ty) (hw : Jvm.Cond.arrayClass ty ∈ xBIG) (ht : xtl[t]? = some ty) (hobj : ∀ E, ty ≠ .object E) (ha : ∀ (Ω : xO) (cA : ClassId), vp_cell cA (xa Ω a0) = arrV cA n (fun _ => defaultValue ty)) (d : decode cc pc = .ok (.newarray atype, 2)) (hn : ¬ i < 0) (hi : i.toNatClampNeg = n) (hb : n * componentBytes ty ≤ 536870912) (hN : N < 1000000) (hce : ce + 1 ≤ dd.2.1 ∧ sl + n ≤ dd.2.2) (k : XW Γ y cc nL ret dd Q (ce + 1) (sl + n) (N + 1) (va_up h N (.inl (t, a0))) (pc + 2) lv (.ref N :: st)) : XW Γ y cc nL ret dd Q ce sl N h pc lv (.int i :: st) := by
  obtain ⟨p, l, e, R, s, m, args, below, meth, c, Ω⟩ := Γ
  intro C H locs ls hH hl hv
  have hcap := C.cap
  have hra := (C.K.2 t _ (xtys_at ht)).2
  subst hty
  refine va_newaK C.ex C.co (C.ts _ hw) rfl d rfl hn hi hb (Nat.le_trans hce.1 hcap.1) (Nat.le_trans hce.2 hcap.2) rfl fun H1 cA e1 z1 o1 hAr hNm => ?_
  have hcA : cA = Ω.2.1 t := by
    have e9 : s.vm.findClass ("[" ++ (newarray.typeOf atype).toString) = some (Ω.2.1 t) := by
      cases atype <;> exact hra
    exact Option.some.inj (hNm.symm.trans e9)
  subst hcA
  have e0 : H.size = Ω.2.2.1 + N := hH.2.1
  rw [e0] at e1 z1 o1 ⊢
  have hx : xi Ω N = Ω.2.2.1 + N := xi_lt hN
  have := k C H1 locs ls (xH_push hH hN (by rw [z1, e0]) (fun a h9 => o1 a (by rw [← e0]; exact h9)) (by
    show H1[_]? = some (vp_cell _ (xa Ω a0))
    rw [ha]
    exact e1)) hl hv
  rw [← hx]
  exact this
theorem x_anew {t n idx : Nat} {i : Int32} {E : String} (hw : Jvm.Cond.classLink y.cls idx E ∈ xBIG ∧ E ∈ xao) (ht : xtl[t]? = some (.object E)) (d : decode cc pc = .ok (.anewarray idx, 3)) (hn : ¬ i < 0) (hi : i.toNatClampNeg = n) (hb : n * 4 ≤ 536870912) (hN : N < 1000000) (hce : ce + 1 ≤ dd.2.1 ∧ sl + n ≤ dd.2.2) (k : XW Γ y cc nL ret dd Q (ce + 1) (sl + n) (N + 1) (va_up h N (.inl (t, n, .inr (.inr (.inr (.inr (fun _ => none))))))) (pc + 3) lv (.ref N :: st)) : XW Γ y cc nL ret dd Q ce sl N h pc lv (.int i :: st) := by
  obtain ⟨p, l, e, R, s, m, args, below, meth, c, Ω⟩ := Γ
  intro C H locs ls hH hl hv
  have hcap := C.cap
  obtain ⟨kA', comp', -, -, -, hNm⟩ := (C.K.2 t _ (xtys_at ht)).2
  subst hi
  refine W.anew C.ex C.co C.ow (C.ts _ hw.1) (va_AO.use (C.st.2.2 _ hw.2)) rfl d rfl hn hb (Nat.le_trans hce.1 hcap.1) (Nat.le_trans hce.2 hcap.2) fun cA kA comp f1 f2 f3 f4 => ?_
  have hcA : cA = Ω.2.1 t := Option.some.inj (f1.symm.trans hNm)
  subst hcA
  generalize hH1 : H.push ({ cls := Ω.2.1 t, slots := Array.replicate i.toNatClampNeg .null, vm := .none } : Cell) = H1
  have z1 : H1.size = H.size + 1 := by rw [← hH1, Array.size_push]
  have e1 : H1[H.size]? = some (arrV (Ω.2.1 t) i.toNatClampNeg (fun _ => .null)) := by rw [← hH1, Array.getElem?_push_size, ← arrV_new]
  have o1 : ∀ q : Nat, q < H.size → H1[q]? = H[q]? := fun q hq => by rw [← hH1, Array.getElem?_push, if_neg (Nat.ne_of_lt hq)]
  have e0 : H.size = Ω.2.2.1 + N := hH.2.1
  have hx : xi Ω N = H.size := by rw [e0]; exact xi_lt hN
  have := k C H1 locs ls (xH_push hH hN z1 o1 (by
    show H1[Ω.2.2.1 + N]? = some (vp_cell _ (_, .inr (.inr (.inr (.inr _)))))
    rw [← e0, vp_cell_q]
    exact e1)) hl hv
  show W p l e R s m args below meth c H1 locs _ _ Q (F0 m (pc + 3) ls (.ref H.size :: st.map (xv Ω)))
  rw [← hx]
  exact this
/-- a static table -/
theorem x_gets {idx i : Nat} {q : xS} (hq : xsl[i]? = some q) (w : Jvm.Cond.fieldLink y.cls idx q.1 q.2.1 q.2.2.1 ∈ xBIG) (d : decode cc pc = .ok (.getstatic idx, 3)) (k : XW Γ y cc nL ret dd Q ce sl N h (pc + 3) lv (.ref (1000001 + i) :: st)) : XW Γ y cc nL ret dd Q ce sl N h pc lv st := by
  obtain ⟨p, l, e, R, s, m, args, below, meth, c, Ω⟩ := Γ
  intro C H locs ls hH hl hv
  obtain ⟨cf, kf, fi, f, a, cell, h1, h2, h3, h4, h5, h6, h7, h8⟩ := (C.st.1 i q hq).1
  have e9 : xi Ω (1000001 + i) = Ω.2.2.2.1 (i + 1) := by
    unfold xi
    rw [if_neg (by omega), show 1000001 + i - 1000000 = i + 1 by omega]
  have hk := k C H locs ls hH hl hv
  have hk2 : W p l e R s m args below meth c H locs ce sl Q (F0 m (pc + 3) ls (.ref (xi Ω (1000001 + i)) :: st.map (xv Ω))) := hk
  rw [e9] at hk2
  exact W.gets C.ex C.co C.ow (C.ts _ w) h1 h2 h3 h4 (by rw [hH.2.2.2.1 a (Nat.not_le.mp h8)]; exact h5) (fun z => by rw [z] at h6; cases h6) h7 rfl d hk2
theorem x_tald {j : Nat} {q : xS} {i v : Int32} (hq : xsl[j]? = some q) (hty : q.2.2.2.1 = .int) (d : decode cc pc = .ok (.iaload, 1)) (hi : vp_in i q.2.2.2.2.1) (hf : q.2.2.2.2.2 i.toNatClampNeg = .int v) (k : XW Γ y cc nL ret dd Q ce sl N h (pc + 1) lv (.int v :: st)) : XW Γ y cc nL ret dd Q ce sl N h pc lv (.int i :: .ref (1000001 + j) :: st) := by
  obtain ⟨p, l, e, R, s, m, args, below, meth, c, Ω⟩ := Γ
  intro C H locs ls hH hl hv
  obtain ⟨cell, h1, h2, h3, h4, h5, h6, h7⟩ := (C.st.1 j q hq).2
  rw [hty] at h2
  have e9 : xi Ω (1000001 + j) = Ω.2.2.2.1 (j + 1) := by
    unfold xi
    rw [if_neg (by omega), show 1000001 + j - 1000000 = j + 1 by omega]
  show W p l e R s m args below meth c H locs ce sl Q (F0 m pc ls (.int i :: .ref (xi Ω (1000001 + j)) :: st.map (xv Ω)))
  rw [e9]
  have hlt : i.toNatClampNeg < q.2.2.2.2.1 := Nat.not_le.mp fun z => hi (Or.inr z)
  have hin' : ¬ (i < 0 ∨ cell.slots.size ≤ i.toNatClampNeg) := by
    intro z
    rcases z with z | z
    · exact hi (Or.inl z)
    · omega
  exact W.iald (v := .int v) C.ex C.co (by rw [hH.2.2.2.1 _ (Nat.not_le.mp h7)]; exact h1) h2 h3 hin' (by rw [h6 _ hlt, hf]) rfl rfl d (k C H locs ls hH hl hv)
end XR2
