/-! X: System.arraycopy of ints; small rows for scripts. -/
theorem xnn {z : Int32} (hz : ¬ z < 0) : z.toInt = (z.toNatClampNeg : Int) := by
  have h0 : (0 : Int) ≤ z.toInt := by
    have h1 := Int32.not_lt.mp hz
    simpa using Int32.le_iff_toInt_le.mp h1
  show z.toInt = ((z.toInt.toNat : Nat) : Int)
  omega
section XR4
variable {Γ : xG} {y : MethodName} {cc : ByteArray} {nL : Nat} {ret : Option FieldType} {dd : Nat × Nat × Nat} {Q : State → Prop} {ce sl N : Nat} {h : xHp} {pc : Nat} {lv : List (Option Value)} {st : List Value}
theorem x_copyi {idx q0 q1 n0 n1 : Nat} {f g : Nat → Int32} {sp dp n : Int32} (F : Jvm.Cond.methodLink y.cls idx arraycopyName ∈ xBIG ∧ Jvm.Cond.native arraycopyName ∈ xBIG ∧ Jvm.Cond.static arraycopyName ∈ xBIG ∧ Jvm.Cond.initialized "java/lang/System" ∈ xBIG) (d : decode cc pc = .ok (.invokestatic idx, 3)) (hq0 : q0 < N) (hh0 : h q0 = .inl (0, n0, .inl f)) (hq1 : q1 < N) (hh1 : h q1 = .inl (0, n1, .inl g)) (h1 : ¬ sp < 0) (h2 : ¬ dp < 0) (h3 : ¬ n < 0) (h4 : sp.toNatClampNeg + n.toNatClampNeg ≤ n0) (h5 : dp.toNatClampNeg + n.toNatClampNeg ≤ n1) (hd : 0 < dd.1) (hr : (st.map fun v => v.category).sum ≤ 8) (k : XW Γ y cc nL ret dd Q ce sl N (va_up h q1 (.inl (0, n1, .inl (va_cpy f g sp.toNatClampNeg dp.toNatClampNeg n.toNatClampNeg)))) (pc + 3) lv st) : XW Γ y cc nL ret dd Q ce sl N h pc lv (.int n :: .int dp :: .ref q1 :: .int sp :: .ref q0 :: st) := by
  obtain ⟨p, l, e, R, s, m, args, below, meth, c, Ω⟩ := Γ
  intro C H locs ls hH hl hv T hT X
  have hc0 := xH_at hH hq0
  rw [hh0] at hc0
  have hc1 := xH_at hH hq1
  rw [hh1] at hc1
  have g0 : H[Ω.2.2.1 + q0]? = some (vp_cell (Ω.2.1 0) (n0, .inl f)) := hc0
  have g1 : H[Ω.2.2.1 + q1]? = some (vp_cell (Ω.2.1 0) (n1, .inl g)) := hc1
  have hA := (C.K.2 0 _ (xtys_at (tc := Ω.2.1) (t := 0) (ty := .int) rfl)).1
  obtain ⟨-, k0, hk0, cm0, hkk0⟩ := hA n0 (fun j => .int (f j))
  obtain ⟨-, k1, hk1, cm1, hkk1⟩ := hA n1 (fun j => .int (g j))
  have hfr := C.fr
  have hlo := C.lo
  obtain ⟨vm', X', step⟩ := X.arraycopy C.ex C.ow (C.ts _ F.1) (C.ts _ F.2.1) (C.ts _ F.2.2.1) (C.ts _ F.2.2.2) (src := Ω.2.2.1 + q0) (dst := Ω.2.2.1 + q1) (cs := vp_cell (Ω.2.1 0) (n0, .inl f)) (cd := vp_cell (Ω.2.1 0) (n1, .inl g)) (srcPos := sp) (destPos := dp) (n := n) (by rw [hT]; exact g0) (by rw [hT]; exact g1)
    (fun _ h => by cases h) (fun _ h => by cases h) (fun h => by cases h) (fun h => by cases h) hk0 hk1 hkk0 hkk1 (by simp [refKind]) h1 h2 h3
    (by rw [xnn h1, xnn h3]; show ¬ _ > ((arrV _ n0 (fun j => .int (f j))).slots.size : Int); rw [arrV_size]; omega)
    (by rw [xnn h2, xnn h3]; show ¬ _ > ((arrV _ n1 (fun j => .int (g j))).slots.size : Int); rw [arrV_size]; omega)
    (fun vm₁ _ i hi => by
      have e : (vp_cell (Ω.2.1 0) (n0, .inl f)).slots.getD (sp.toNatClampNeg + i) .null = .int (f (sp.toNatClampNeg + i)) := by
        show (arrV _ n0 (fun j => .int (f j))).slots.getD _ _ = _
        rw [Array.getD_eq_getD_getElem?, arrV_read _ _ (by omega)]
        rfl
      refine ⟨?_, ?_⟩
      · rw [e]
        rfl
      · rw [e]
        exact trivial)
    (g := F0 m pc ls (.int n :: .int dp :: .ref (Ω.2.2.1 + q1) :: .int sp :: .ref (Ω.2.2.1 + q0) :: st.map (xv Ω))) rfl (by rw [C.ml]; exact hv.1) (rest := st.map (xv Ω)) rfl (by rw [C.co]; exact d) (by omega) (by
      have e8 : nativeFrameWords "java/lang/System" "arraycopy" 5 = 7 := by decide +kernel
      rw [e8, x_sum]
      show 2 * 0 + _ + _ ≤ _
      omega)
  have e1 : copied (vp_cell (Ω.2.1 0) (n0, .inl f)) (vp_cell (Ω.2.1 0) (n1, .inl g)) sp dp n = vp_cell (Ω.2.1 0) (n1, .inl (va_cpy f g sp.toNatClampNeg dp.toNatClampNeg n.toNatClampNeg)) := va_copied (fun z => .int z) _ _ f g h4
  rw [e1] at X' step
  have hlt : Ω.2.2.1 + q1 < H.size := (Array.getElem?_eq_some_iff.mp g1).1
  generalize hH1 : H.setIfInBounds (Ω.2.2.1 + q1) (vp_cell (Ω.2.1 0) (n1, .inl (va_cpy f g sp.toNatClampNeg dp.toNatClampNeg n.toNatClampNeg))) = H1
  have hheap : ((T.setVm vm').setCell (Ω.2.2.1 + q1) (vp_cell (Ω.2.1 0) (n1, .inl (va_cpy f g sp.toNatClampNeg dp.toNatClampNeg n.toNatClampNeg)))).heap = H1 := by rw [← hH1, ← hT]; rfl
  obtain ⟨t, a1, b1⟩ := k C H1 _ ls (xH_set hH hq1 (by rw [← hH1]; simp) (fun a ha => by rw [← hH1]; simp [Array.getElem?_setIfInBounds, Ne.symm ha]) (by
    show H1[_]? = some (vp_cell _ (n1, .inl _))
    rw [← hH1]
    simp [Array.getElem?_setIfInBounds, hlt])) (fun q hq => by
      rcases List.mem_append.mp hq with z | z
      · exact hl q z
      · obtain ⟨w, -, hw⟩ := List.mem_map.mp z
        rw [← hw]
        exact Nat.le_add_right _ _) hv _ hheap X'
  refine ⟨t, ?_, b1⟩
  have h9 := step t a1
  have e3 : (.int n :: .int dp :: .ref q1 :: .int sp :: .ref q0 :: st : List Value).map (xv Ω) = .int n :: .int dp :: .ref (Ω.2.2.1 + q1) :: .int sp :: .ref (Ω.2.2.1 + q0) :: st.map (xv Ω) := by
    show (.int n :: .int dp :: .ref (xi Ω q1) :: .int sp :: .ref (xi Ω q0) :: st.map (xv Ω) : List Value) = _
    rw [xH_i hH hq0, xH_i hH hq1]
  rw [e3]
  exact h9
end XR4
theorem vu_s {α : Type} {f : Nat → α} {k : Nat} {v : α} : va_up f k v k = v := if_pos rfl
theorem vu_n {α : Type} {f : Nat → α} {k j : Nat} {v : α} (h : j ≠ k) : va_up f k v j = f j := if_neg h
theorem vu_t {α : Type} {f : Nat → α} {k j : Nat} {v w : α} (h : j ≠ k) (e : f j = w) : va_up f k v j = w := (if_neg h).trans e
theorem vu_c {α : Type} (f : Nat → α) {k j : Nat} (v w : α) (h : j ≠ k) : va_up (va_up f k v) j w = va_up (va_up f j w) k v := by
  funext i
  by_cases e1 : i = j
  · subst e1
    simp [va_up, h]
  · by_cases e2 : i = k
    · subst e2
      simp [va_up, e1]
    · simp [va_up, e1, e2]
theorem vu_e {α : Type} (f : Nat → α) (k : Nat) : va_up f k (f k) = f := by
  funext i
  by_cases e1 : i = k
  · subst e1
    simp [va_up]
  · simp [va_up, e1]
