/-! The law: from its entry; what is known at the start. -/
section LN
variable {Γ : xG} {nm ds : String} {Z : State → Prop} {L : Nat} {xs : Nat → Int32} {h : xHp}
set_option maxRecDepth 100000 in
set_option maxHeartbeats 4000000 in
theorem l_start (hL : L ≤ 2560) (hX : xX Γ L xs) (hE : ∀ (r : Nat) (h : xHp), AtL Γ nm ds Z h 421 r []) : XW Γ (yL nm ds) code 4 ret (50, 116, 7757) Z 0 0 0 h 0 [some (.ref 1000000), none, none, none] [] := by
  refine x_new n_L_7 d_L_law_0 (by omega) ⟨by first | exact Nat.le_of_ble_eq_true rfl | (dsimp only; omega), by first | exact Nat.le_of_ble_eq_true rfl | (dsimp only; omega)⟩ ?_
  refine x_dup d_L_law_3 rfl ?_
  refine x_callI (c_K_init vu_s) k_L_9 v_K_init d_L_law_4 rfl (by omega) (by omega) (Nat.le_of_ble_eq_true rfl) ⟨by first | exact Nat.le_of_ble_eq_true rfl | (dsimp only; omega), by first | exact Nat.le_of_ble_eq_true rfl | (dsimp only; omega)⟩ ?_
  rintro v h1 ⟨rfl, I⟩
  refine x_astore_n d_L_law_7 (by decide) rfl ?_
  refine x_new n_L_10 d_L_law_8 (by omega) ⟨by first | exact Nat.le_of_ble_eq_true rfl | (dsimp only; omega), by first | exact Nat.le_of_ble_eq_true rfl | (dsimp only; omega)⟩ ?_
  refine x_dup d_L_law_11 rfl ?_
  refine x_callI (c_M_init vu_s) k_L_12 v_M_init d_L_law_12 rfl (by omega) (by omega) (Nat.le_of_ble_eq_true rfl) ⟨by first | exact Nat.le_of_ble_eq_true rfl | (dsimp only; omega), by first | exact Nat.le_of_ble_eq_true rfl | (dsimp only; omega)⟩ ?_
  rintro v h2 ⟨rfl, a1, a2, a3, ⟨b1, b2, b3, b4, b5, b6, b7⟩, a5⟩
  refine x_astore_n d_L_law_15 (by decide) rfl ?_
  refine x_iconst (v := 0) d_L_law_16 (by decide) ?_
  refine x_istore_n d_L_law_17 (by decide) rfl ?_
  have I2 : IC z32 0 z32 z32 z32 0 zQ h2 := I.lo (fun k hk => (a5 k hk).trans (vu_n (by omega)))
  have M2 : MI z32 0 z32 z32 z32 0 zQ h2 := ⟨0, 0, 0, _, _, fun _ => false, _, _, _, _, _, _, a1, a2, a3, ⟨b1, b2, b3, b4, b5, b6, b7⟩, fun i hi => ⟨rfl, ⟨Nat.le_refl _, by show 0 < 3; decide⟩, fun z => by cases z⟩⟩
  exact l_loop hL hX hE (L + 1) 0 h2 (by omega) (by omega) ⟨z32, 0, z32, z32, z32, 0, zQ, I2, M2, Nat.le_refl _, by omega, fun j => pk_charN (q := 0) (by decide), fun j hj => by omega⟩
end LN
theorem kn_of {own : String} {idx ci nf : Nat} {fs : List Value} (F : xCls own idx ci nf fs) {args : Array Value} {s : State} (hts : ∀ w ∈ xBIG, w.before args s = true) : ∃ (cC : ClassId) (iS : Nat → Nat), ∀ q, xcl[ci]? = some q → u_Kn s q.1 q.2.1 q.2.2 cC iS := by
  obtain ⟨C, T, ty0, f1, f2, f3, f4, -⟩ := F
  obtain ⟨cC, iS, h⟩ := u_known (n := nf) hts f2 (hts _ f4)
  refine ⟨cC, iS, fun q hq => ?_⟩
  rw [f1] at hq
  cases hq
  exact h
theorem ar_of {ty : FieldType} (hty : ∀ C, ty ≠ .object C) {args : Array Value} {s : State} (h : (Cond.arrayClass ty).before args s = true) : ∃ cA : ClassId, ArrOfT s cA ty ∧ va_RA s cA ty := by
  obtain ⟨cA, kA, comp, f1, f2, f3⟩ := Cond.arrayClass_spec h
  refine ⟨cA, fun n z => ⟨fun k h => (by cases h), kA, f2, comp, f3⟩, ?_⟩
  cases ty with
  | object C => exact absurd rfl (hty C)
  | _ => exact f1
theorem ao_of {C : String} {s : State} (h : va_AO C s) : ∃ cA : ClassId, ArrOfT s cA (.object C) ∧ va_RA s cA (.object C) := by
  obtain ⟨comp, cA, kA, f1, -, f2, f3, f4⟩ := Cond.arrayOver_spec (va_AO.use (A := #[]) h)
  exact ⟨cA, fun n z => ⟨fun k h => (by cases h), kA, f2, comp, f3⟩, kA, comp, f2, f3, f1, f4⟩
/-- the classes and the arrays' classes, known at the start -/
theorem k_start {args : Array Value} {s : State} (hts : ∀ w ∈ xBIG, w.before args s = true) (hao : ∀ E ∈ xao, va_AO E s) : ∃ (D : va_G) (tc : Nat → ClassId), va_K D xcl (xtys tc) s := by
  obtain ⟨c0, i0, e0⟩ := kn_of n_L_7 hts
  obtain ⟨c1, i1, e1⟩ := kn_of n_K_7 hts
  obtain ⟨c2, i2, e2⟩ := kn_of n_K_16 hts
  obtain ⟨c3, i3, e3⟩ := kn_of n_K_23 hts
  obtain ⟨c4, i4, e4⟩ := kn_of n_K_30 hts
  obtain ⟨c5, i5, e5⟩ := kn_of n_E_11 hts
  obtain ⟨c6, i6, e6⟩ := kn_of n_K_37 hts
  obtain ⟨c7, i7, e7⟩ := kn_of n_L_10 hts
  obtain ⟨a0, f0⟩ := ar_of (ty := .int) (fun _ h => by cases h) (hts _ ac_int)
  obtain ⟨a1, f1⟩ := ar_of (ty := .char) (fun _ h => by cases h) (hts _ ac_char)
  obtain ⟨a2, f2⟩ := ar_of (ty := .long) (fun _ h => by cases h) (hts _ ac_long)
  obtain ⟨a3, f3⟩ := ar_of (ty := .boolean) (fun _ h => by cases h) (hts _ ac_boolean)
  obtain ⟨a4, f4⟩ := ao_of (hao "JoinKeeper$Polynomial" (by decide))
  obtain ⟨a5, f5⟩ := ao_of (hao "JoinKeeper$Question" (by decide))
  refine ⟨(fun k => match k with | 0 => c0 | 1 => c1 | 2 => c2 | 3 => c3 | 4 => c4 | 5 => c5 | 6 => c6 | _ => c7, fun k => match k with | 0 => i0 | 1 => i1 | 2 => i2 | 3 => i3 | 4 => i4 | 5 => i5 | 6 => i6 | _ => i7), fun k => match k with | 0 => a0 | 1 => a1 | 2 => a2 | 3 => a3 | 4 => a4 | _ => a5, fun k q hq => ?_, fun k q hq => ?_⟩
  · match k, hq with
    | 0, hq => exact e0 q hq
    | 1, hq => exact e1 q hq
    | 2, hq => exact e2 q hq
    | 3, hq => exact e3 q hq
    | 4, hq => exact e4 q hq
    | 5, hq => exact e5 q hq
    | 6, hq => exact e6 q hq
    | 7, hq => exact e7 q hq
    | k + 8, hq => simp [xcl] at hq
  · match k, hq with
    | 0, hq => cases hq; exact f0
    | 1, hq => cases hq; exact f1
    | 2, hq => cases hq; exact f2
    | 3, hq => cases hq; exact f3
    | 4, hq => cases hq; exact f4
    | 5, hq => cases hq; exact f5
    | k + 6, hq => simp [xtys, xtl] at hq
