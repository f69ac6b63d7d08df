/-! X: calls that make no cell, in shorter words; booleans. -/
abbrev xR (r : Option Value) (h2 : xHp) : Option Value → xHp → Prop := fun r' h' => r' = r ∧ h' = h2
def bi (b : Bool) : Int32 := if b then 1 else 0
theorem bi_t : bi true = 1 := rfl
theorem bi_f : bi false = 0 := rfl
theorem bi0 {b : Bool} : bi b = 0 ↔ b = false := by cases b <;> decide
theorem bi1 {b : Bool} : ¬ bi b = 0 ↔ b = true := by cases b <;> decide
theorem bi_nar (b : Bool) : narrow .boolean (.int (bi b)) = .int (bi b) := by cases b <;> rfl
section XR5
variable {Γ : xG} {y : MethodName} {cc : ByteArray} {nL : Nat} {ret : Option FieldType} {dd : Nat × Nat × Nat} {Q : State → Prop} {ce sl N : Nat} {h : xHp} {pc : Nat} {lv : List (Option Value)} {st : List Value}
variable {y2 : MethodName} {b2 : ByteArray} {n2 : Nat} {ret2 : Option FieldType} {d2 idx q : Nat} {As : List Value} {Qp : Option Value → xHp → Prop} {stk : List Value} {h2 : xHp} {v : Value}
theorem x_iinc1 {i : Nat} {x : Int32} (d : decode cc pc = .ok (.iinc i 1, 3)) (g : lv[i]? = some (some (.int x))) (hn : i < nL) (g2 : xn2 lv i = true) (k : XW Γ y cc nL ret dd Q ce sl N h (pc + 3) (lv.set i (some (.int (x + 1)))) st) : XW Γ y cc nL ret dd Q ce sl N h pc lv st := x_iinc d g rfl hn g2 k
theorem x_iincm {i : Nat} {x : Int32} (d : decode cc pc = .ok (.iinc i (-1), 3)) (g : lv[i]? = some (some (.int x))) (hn : i < nL) (g2 : xn2 lv i = true) (k : XW Γ y cc nL ret dd Q ce sl N h (pc + 3) (lv.set i (some (.int (x + -1)))) st) : XW Γ y cc nL ret dd Q ce sl N h pc lv st := x_iinc d g rfl hn g2 k
theorem x_zald {q n : Nat} {f : Nat → Int32} {i : Int32} (d : decode cc pc = .ok (.baload, 1)) (hq : q < N) (hh : h q = .inl (3, n, .inl f)) (hi : vp_in i n) (k : XW Γ y cc nL ret dd Q ce sl N h (pc + 1) lv (.int (f i.toNatClampNeg) :: st)) : XW Γ y cc nL ret dd Q ce sl N h pc lv (.int i :: .ref q :: st) := by
  obtain ⟨p, l, e, R, s, m, args, below, meth, c, Ω⟩ := Γ
  intro C H locs ls hH hl hv
  have hc := xH_at hH hq
  rw [hh] at hc
  show W p l e R s m args below meth c H locs ce sl Q (F0 m pc ls (.int i :: .ref (xi Ω q) :: st.map (xv Ω)))
  rw [xH_i hH hq]
  exact va_zald C.ex C.co C.K (xP1 hc) 0 3 rfl (xtys_at rfl) hi d (k C H locs ls hH hl hv)
theorem x_zast {q n : Nat} {f : Nat → Int32} {i x : Int32} (d : decode cc pc = .ok (.bastore, 1)) (hq : q < N) (hh : h q = .inl (3, n, .inl f)) (hi : vp_in i n) (hx : narrow .boolean (.int x) = .int x) (k : XW Γ y cc nL ret dd Q ce sl N (va_up h q (.inl (3, n, .inl (upd f i.toNatClampNeg x)))) (pc + 1) lv st) : XW Γ y cc nL ret dd Q ce sl N h pc lv (.int x :: .int i :: .ref q :: st) := by
  obtain ⟨p, l, e, R, s, m, args, below, meth, c, Ω⟩ := Γ
  intro C H locs ls hH hl hv
  have hc := xH_at hH hq
  rw [hh] at hc
  have hA := (C.K.2 3 _ (xtys_at rfl)).1 n (fun j => .int (f j))
  show W p l e R s m args below meth c H locs ce sl Q (F0 m pc ls (.int x :: .int i :: .ref (xi Ω q) :: st.map (xv Ω)))
  rw [xH_i hH hq]
  refine W.zast C.ex C.co hc hA (fun z => by cases z) (by show ¬ (i < 0 ∨ (arrV _ _ _).slots.size ≤ _); rw [arrV_size]; exact hi) rfl rfl d fun H' e1 e2 e3 => ?_
  rw [hx] at e1
  refine k C H' _ ls (xH_set hH hq e2 e3 ?_) (xlocs hl (Nat.le_add_right _ _)) hv
  show H'[_]? = some (vp_cell _ (n, .inl _))
  rw [e1]
  exact congrArg some (xs_i _ _ _ _ _)
theorem x_alenN {t q n : Nat} {x : (Nat → Int32) ⊕ (Nat → Int64) ⊕ (Nat → UInt32) ⊕ (Nat → UInt64) ⊕ (Nat → Option Nat)} {ty : FieldType} (d : decode cc pc = .ok (.arraylength, 1)) (hq : q < N) (hh : h q = .inl (t, n, x)) (ht : xtl[t]? = some ty) (k : XW Γ y cc nL ret dd Q ce sl N h (pc + 1) lv (.int (nI n) :: st)) : XW Γ y cc nL ret dd Q ce sl N h pc lv (.ref q :: st) := x_alen d hq hh ht rfl k
theorem xcap (C : ce ≤ dd.2.1 ∧ sl ≤ dd.2.2) : ce + 0 ≤ dd.2.1 ∧ sl + 0 ≤ dd.2.2 := C
theorem x_cV {ci : Nat} {fs : List Value} (M : XM y2 b2 n2 ret2 d2 0 0 (.ref q :: As) N h Qp) (F : xcB y.cls idx y2 b2 n2 ret2 As.length) (F2 : Jvm.Cond.instanceMethod y2 ∈ xBIG ∧ Jvm.Cond.selects y2.cls y2 y2 ∈ xBIG) (d : decode cc pc = .ok (.invokevirtual idx, 3)) (hst : stk = As.reverse ++ .ref q :: st) (hq : q < N) (hh : h q = .inr (ci, fs)) (hci : (xcl[ci]?).map (fun r => r.1) = some y2.cls) (hd : d2 < dd.1) (hr : (st.map fun v => v.category).sum ≤ 8)
    (k : ∀ r h', Qp r h' → XW Γ y cc nL ret dd Q ce sl N h' (pc + 3) lv (r.toList ++ st)) (hce : ce ≤ dd.2.1 ∧ sl ≤ dd.2.2 := by first | assumption | exact ⟨Nat.le_refl _, Nat.le_refl _⟩ | exact ⟨Nat.zero_le _, Nat.zero_le _⟩) : XW Γ y cc nL ret dd Q ce sl N h pc lv stk := x_callV M F F2 d hst hq hh hci hd hr hce k
theorem x_cVe {ci : Nat} {fs : List Value} (M : XM y2 b2 n2 ret2 d2 0 0 (.ref q :: As) N h (xR (some v) h2)) (F : xcB y.cls idx y2 b2 n2 ret2 As.length) (F2 : Jvm.Cond.instanceMethod y2 ∈ xBIG ∧ Jvm.Cond.selects y2.cls y2 y2 ∈ xBIG) (d : decode cc pc = .ok (.invokevirtual idx, 3)) (hst : stk = As.reverse ++ .ref q :: st) (hq : q < N) (hh : h q = .inr (ci, fs)) (hci : (xcl[ci]?).map (fun r => r.1) = some y2.cls) (hd : d2 < dd.1) (hr : (st.map fun v => v.category).sum ≤ 8)
    (k : XW Γ y cc nL ret dd Q ce sl N h2 (pc + 3) lv (v :: st)) (hce : ce ≤ dd.2.1 ∧ sl ≤ dd.2.2 := by first | assumption | exact ⟨Nat.le_refl _, Nat.le_refl _⟩ | exact ⟨Nat.zero_le _, Nat.zero_le _⟩) : XW Γ y cc nL ret dd Q ce sl N h pc lv stk := by
  refine x_callV M F F2 d hst hq hh hci hd hr hce ?_
  rintro r h' ⟨rfl, rfl⟩
  exact k
theorem x_cVv {ci : Nat} {fs : List Value} (M : XM y2 b2 n2 ret2 d2 0 0 (.ref q :: As) N h (xR none h2)) (F : xcB y.cls idx y2 b2 n2 ret2 As.length) (F2 : Jvm.Cond.instanceMethod y2 ∈ xBIG ∧ Jvm.Cond.selects y2.cls y2 y2 ∈ xBIG) (d : decode cc pc = .ok (.invokevirtual idx, 3)) (hst : stk = As.reverse ++ .ref q :: st) (hq : q < N) (hh : h q = .inr (ci, fs)) (hci : (xcl[ci]?).map (fun r => r.1) = some y2.cls) (hd : d2 < dd.1) (hr : (st.map fun v => v.category).sum ≤ 8)
    (k : XW Γ y cc nL ret dd Q ce sl N h2 (pc + 3) lv st) (hce : ce ≤ dd.2.1 ∧ sl ≤ dd.2.2 := by first | assumption | exact ⟨Nat.le_refl _, Nat.le_refl _⟩ | exact ⟨Nat.zero_le _, Nat.zero_le _⟩) : XW Γ y cc nL ret dd Q ce sl N h pc lv stk := by
  refine x_callV M F F2 d hst hq hh hci hd hr hce ?_
  rintro r h' ⟨rfl, rfl⟩
  exact k
theorem x_cS (M : XM y2 b2 n2 ret2 d2 0 0 As N h Qp) (F : xcB y.cls idx y2 b2 n2 ret2 As.length) (F2 : Jvm.Cond.static y2 ∈ xBIG) (d : decode cc pc = .ok (.invokestatic idx, 3)) (hst : stk = As.reverse ++ st) (hd : d2 < dd.1) (hr : (st.map fun v => v.category).sum ≤ 8)
    (k : ∀ r h', Qp r h' → XW Γ y cc nL ret dd Q ce sl N h' (pc + 3) lv (r.toList ++ st)) (hce : ce ≤ dd.2.1 ∧ sl ≤ dd.2.2 := by first | assumption | exact ⟨Nat.le_refl _, Nat.le_refl _⟩ | exact ⟨Nat.zero_le _, Nat.zero_le _⟩) : XW Γ y cc nL ret dd Q ce sl N h pc lv stk := x_callS M F F2 d hst hd hr hce k
theorem x_cSe (M : XM y2 b2 n2 ret2 d2 0 0 As N h (xR (some v) h2)) (F : xcB y.cls idx y2 b2 n2 ret2 As.length) (F2 : Jvm.Cond.static y2 ∈ xBIG) (d : decode cc pc = .ok (.invokestatic idx, 3)) (hst : stk = As.reverse ++ st) (hd : d2 < dd.1) (hr : (st.map fun v => v.category).sum ≤ 8)
    (k : XW Γ y cc nL ret dd Q ce sl N h2 (pc + 3) lv (v :: st)) (hce : ce ≤ dd.2.1 ∧ sl ≤ dd.2.2 := by first | assumption | exact ⟨Nat.le_refl _, Nat.le_refl _⟩ | exact ⟨Nat.zero_le _, Nat.zero_le _⟩) : XW Γ y cc nL ret dd Q ce sl N h pc lv stk := by
  refine x_callS M F F2 d hst hd hr hce ?_
  rintro r h' ⟨rfl, rfl⟩
  exact k
theorem x_cSv (M : XM y2 b2 n2 ret2 d2 0 0 As N h (xR none h2)) (F : xcB y.cls idx y2 b2 n2 ret2 As.length) (F2 : Jvm.Cond.static y2 ∈ xBIG) (d : decode cc pc = .ok (.invokestatic idx, 3)) (hst : stk = As.reverse ++ st) (hd : d2 < dd.1) (hr : (st.map fun v => v.category).sum ≤ 8)
    (k : XW Γ y cc nL ret dd Q ce sl N h2 (pc + 3) lv st) (hce : ce ≤ dd.2.1 ∧ sl ≤ dd.2.2 := by first | assumption | exact ⟨Nat.le_refl _, Nat.le_refl _⟩ | exact ⟨Nat.zero_le _, Nat.zero_le _⟩) : XW Γ y cc nL ret dd Q ce sl N h pc lv stk := by
  refine x_callS M F F2 d hst hd hr hce ?_
  rintro r h' ⟨rfl, rfl⟩
  exact k
end XR5
/-- Int32 rows -/
theorem i_in {x : Int32} {n : Nat} (h0 : ¬ x < 0) (hn : n < 2 ^ 31) (h : x < nI n) : vp_in x n := by
  refine vp_in_iff.mpr ?_
  have h1 := Int32.not_lt.mp h0
  have h2 : (0 : Int) ≤ x.toInt := by simpa using Int32.le_iff_toInt_le.mp h1
  have h3 := Int32.lt_iff_toInt_lt.mp h
  rw [nI_toInt hn] at h3
  exact ⟨h2, h3⟩
