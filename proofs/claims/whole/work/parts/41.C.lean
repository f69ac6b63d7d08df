/-! Constructors. -/
abbrev z32 : Nat → Int32 := fun _ => 0
abbrev z64 : Nat → Int64 := fun _ => 0
set_option maxRecDepth 100000 in
set_option maxHeartbeats 4000000 in
theorem c_P_init {h : xHp} {o : Nat} (ho : o < 900000) (h1 : h o = .inr (5, [.null])) : XM y_P_init b_P_init 1 none 1 1 81 [.ref o] (o + 1) h (fun r h' => r = none ∧ h' o = oP o ∧ h' (o + 1) = aI 81 z32 ∧ ∀ k, k < o → h' k = h k) := by
  refine xM_intro [some (.ref o)] (by decide) (fun _ => rfl) (fun _ => Nat.le_of_ble_eq_true rfl) (fun Γ => ?_)
  refine x_aload_n d_P_init_0 rfl ?_
  refine x_objInit o_P_3 d_P_init_1 (by omega) (Nat.le_of_ble_eq_true rfl) ?_
  refine x_aload_n d_P_init_4 rfl ?_
  refine x_bipush (v := 81) d_P_init_5 (by decide) ?_
  refine x_newa (atype := .int) (ty := .int) (t := 0) (n := 81) (a0 := (81, .inl (fun _ => 0))) rfl ac_int rfl (fun _ z => by cases z) (fun _ _ => rfl) d_P_init_7 (by decide) (by decide) (by decide) (by omega) ⟨by first | exact Nat.le_of_ble_eq_true rfl | (dsimp only; omega), by first | exact Nat.le_of_ble_eq_true rfl | (dsimp only; omega)⟩ ?_
  refine x_putF f_P_11 rfl d_P_init_9 (by omega) (by first | assumption | exact vu_s | exact vu_t (by omega) (by first | assumption | exact vu_s | exact vu_t (by omega) (by first | assumption | exact vu_s | exact vu_t (by omega) (by first | assumption | exact vu_s))) | rfl | (simp only [va_up, Nat.reduceEqDiff, ↓reduceIte]; first | rfl | assumption)) (Nat.le_of_ble_eq_true rfl) (fun _ => ⟨rfl, rfl⟩) ?_
  refine x_vret d_P_init_12 ?_
  refine ⟨rfl, vu_s, vu_t (by omega) vu_s, fun k hk => ?_⟩
  rw [vu_n (by omega), vu_n (by omega)]
set_option maxRecDepth 100000 in
set_option maxHeartbeats 4000000 in
theorem c_R_init {h : xHp} (h1 : h 1 = .inr (1, [.null, .null, .null, .int 0])) : XM y_R_init b_R_init 1 none 1 3 1132 [.ref 1] 2 h (fun r h' => r = none ∧ iR z32 0 z32 z32 h' ∧ ∀ k, k < 1 → h' k = h k) := by
  refine xM_intro [some (.ref 1)] (by decide) (fun _ => rfl) (fun _ => Nat.le_of_ble_eq_true rfl) (fun Γ => ?_)
  refine x_aload_n d_R_init_0 rfl ?_
  refine x_objInit o_R_3 d_R_init_1 (by omega) (Nat.le_of_ble_eq_true rfl) ?_
  refine x_aload_n d_R_init_4 rfl ?_
  refine x_bipush (v := 108) d_R_init_5 (by decide) ?_
  refine x_newa (atype := .int) (ty := .int) (t := 0) (n := 108) (a0 := (108, .inl (fun _ => 0))) rfl ac_int rfl (fun _ z => by cases z) (fun _ _ => rfl) d_R_init_7 (by decide) (by decide) (by decide) (by omega) ⟨by first | exact Nat.le_of_ble_eq_true rfl | (dsimp only; omega), by first | exact Nat.le_of_ble_eq_true rfl | (dsimp only; omega)⟩ ?_
  refine x_putF f_R_9 rfl d_R_init_9 (by omega) (by first | assumption | exact vu_s | exact vu_t (by omega) (by first | assumption | exact vu_s | exact vu_t (by omega) (by first | assumption | exact vu_s | exact vu_t (by omega) (by first | assumption | exact vu_s))) | rfl | (simp only [va_up, Nat.reduceEqDiff, ↓reduceIte]; first | rfl | assumption)) (Nat.le_of_ble_eq_true rfl) (fun _ => ⟨rfl, rfl⟩) ?_
  refine x_aload_n d_R_init_12 rfl ?_
  refine x_sipush (v := 512) d_R_init_13 (by decide) ?_
  refine x_newa (atype := .int) (ty := .int) (t := 0) (n := 512) (a0 := (512, .inl (fun _ => 0))) rfl ac_int rfl (fun _ z => by cases z) (fun _ _ => rfl) d_R_init_16 (by decide) (by decide) (by decide) (by omega) ⟨by first | exact Nat.le_of_ble_eq_true rfl | (dsimp only; omega), by first | exact Nat.le_of_ble_eq_true rfl | (dsimp only; omega)⟩ ?_
  refine x_putF f_R_15 rfl d_R_init_18 (by omega) (by first | assumption | exact vu_s | exact vu_t (by omega) (by first | assumption | exact vu_s | exact vu_t (by omega) (by first | assumption | exact vu_s | exact vu_t (by omega) (by first | assumption | exact vu_s))) | rfl | (simp only [va_up, Nat.reduceEqDiff, ↓reduceIte]; first | rfl | assumption)) (Nat.le_of_ble_eq_true rfl) (fun _ => ⟨rfl, rfl⟩) ?_
  refine x_aload_n d_R_init_21 rfl ?_
  refine x_sipush (v := 512) d_R_init_22 (by decide) ?_
  refine x_newa (atype := .int) (ty := .int) (t := 0) (n := 512) (a0 := (512, .inl (fun _ => 0))) rfl ac_int rfl (fun _ z => by cases z) (fun _ _ => rfl) d_R_init_25 (by decide) (by decide) (by decide) (by omega) ⟨by first | exact Nat.le_of_ble_eq_true rfl | (dsimp only; omega), by first | exact Nat.le_of_ble_eq_true rfl | (dsimp only; omega)⟩ ?_
  refine x_putF f_R_18 rfl d_R_init_27 (by omega) (by first | assumption | exact vu_s | exact vu_t (by omega) (by first | assumption | exact vu_s | exact vu_t (by omega) (by first | assumption | exact vu_s | exact vu_t (by omega) (by first | assumption | exact vu_s))) | rfl | (simp only [va_up, Nat.reduceEqDiff, ↓reduceIte]; first | rfl | assumption)) (Nat.le_of_ble_eq_true rfl) (fun _ => ⟨rfl, rfl⟩) ?_
  refine x_vret d_R_init_30 ?_
  refine ⟨rfl, ⟨rfl, rfl, rfl, rfl⟩, fun k hk => ?_⟩
  obtain rfl : k = 0 := by omega
  rfl
set_option maxRecDepth 100000 in
set_option maxHeartbeats 4000000 in
theorem c_T_init {h : xHp} (h1 : h 5 = .inr (2, [.null, .int 0])) : XM y_T_init b_T_init 1 none 1 1 30 [.ref 5] 6 h (fun r h' => r = none ∧ tSt h' z32 0 ∧ ∀ k, k < 5 → h' k = h k) := by
  refine xM_intro [some (.ref 5)] (by decide) (fun _ => rfl) (fun _ => Nat.le_of_ble_eq_true rfl) (fun Γ => ?_)
  refine x_aload_n d_T_init_0 rfl ?_
  refine x_objInit o_T_1 d_T_init_1 (by omega) (Nat.le_of_ble_eq_true rfl) ?_
  refine x_aload_n d_T_init_4 rfl ?_
  refine x_bipush (v := 30) d_T_init_5 (by decide) ?_
  refine x_newa (atype := .char) (ty := .char) (t := 1) (n := 30) (a0 := (30, .inl (fun _ => 0))) rfl ac_char rfl (fun _ z => by cases z) (fun _ _ => rfl) d_T_init_7 (by decide) (by decide) (by decide) (by omega) ⟨by first | exact Nat.le_of_ble_eq_true rfl | (dsimp only; omega), by first | exact Nat.le_of_ble_eq_true rfl | (dsimp only; omega)⟩ ?_
  refine x_putF f_T_9 rfl d_T_init_9 (by omega) (by first | assumption | exact vu_s | exact vu_t (by omega) (by first | assumption | exact vu_s | exact vu_t (by omega) (by first | assumption | exact vu_s | exact vu_t (by omega) (by first | assumption | exact vu_s))) | rfl | (simp only [va_up, Nat.reduceEqDiff, ↓reduceIte]; first | rfl | assumption)) (Nat.le_of_ble_eq_true rfl) (fun _ => ⟨rfl, rfl⟩) ?_
  refine x_vret d_T_init_12 ?_
  refine ⟨rfl, ⟨rfl, rfl⟩, fun k hk => ?_⟩
  rw [vu_n (by omega), vu_n (by omega)]
set_option maxRecDepth 100000 in
set_option maxHeartbeats 4000000 in
theorem c_G_init {h : xHp} (h1 : h 7 = .inr (3, [.int 0, .int 0, .int 0, .int 0, .int 0, .int 0, .int 0, .int 0, .null, .int 0])) : XM y_G_init b_G_init 1 none 1 1 4 [.ref 7] 8 h (fun r h' => r = none ∧ iG h' ∧ ∀ k, k < 7 → h' k = h k) := by
  refine xM_intro [some (.ref 7)] (by decide) (fun _ => rfl) (fun _ => Nat.le_of_ble_eq_true rfl) (fun Γ => ?_)
  refine x_aload_n d_G_init_0 rfl ?_
  refine x_objInit o_G_3 d_G_init_1 (by omega) (Nat.le_of_ble_eq_true rfl) ?_
  refine x_aload_n d_G_init_4 rfl ?_
  refine x_iconst (v := 4) d_G_init_5 (by decide) ?_
  refine x_newa (atype := .int) (ty := .int) (t := 0) (n := 4) (a0 := (4, .inl (fun _ => 0))) rfl ac_int rfl (fun _ z => by cases z) (fun _ _ => rfl) d_G_init_6 (by decide) (by decide) (by decide) (by omega) ⟨by first | exact Nat.le_of_ble_eq_true rfl | (dsimp only; omega), by first | exact Nat.le_of_ble_eq_true rfl | (dsimp only; omega)⟩ ?_
  refine x_putF f_G_9 rfl d_G_init_8 (by omega) (by first | assumption | exact vu_s | exact vu_t (by omega) (by first | assumption | exact vu_s | exact vu_t (by omega) (by first | assumption | exact vu_s | exact vu_t (by omega) (by first | assumption | exact vu_s))) | rfl | (simp only [va_up, Nat.reduceEqDiff, ↓reduceIte]; first | rfl | assumption)) (Nat.le_of_ble_eq_true rfl) (fun _ => ⟨rfl, rfl⟩) ?_
  refine x_vret d_G_init_11 ?_
  refine ⟨rfl, ⟨(0, 0, 0, 0, 0, 0, 0, 0, 0, z32), by unfold vp_in; decide, rfl, rfl⟩, fun k hk => ?_⟩
  rw [vu_n (by omega), vu_n (by omega)]
set_option maxRecDepth 100000 in
set_option maxHeartbeats 4000000 in
theorem c_Q_init {h : xHp} {o : Nat} (ho : o < 800000) (h1 : h o = .inr (6, [.int 0, .int 0, .int 0, .int 0, .int 0, .null, .null, .null, .null])) : XM y_Q_init b_Q_init 1 none 2 5 98 [.ref o] (o + 1) h (fun r h' => r = none ∧ qSt o (false, 0, 0, 0, 0, z32, z32) h' ∧ ∀ k, k < o → h' k = h k) := by
  refine xM_intro [some (.ref o)] (by decide) (fun _ => rfl) (fun _ => Nat.le_of_ble_eq_true rfl) (fun Γ => ?_)
  refine x_aload_n d_Q_init_0 rfl ?_
  refine x_objInit o_Q_3 d_Q_init_1 (by omega) (Nat.le_of_ble_eq_true rfl) ?_
  refine x_aload_n d_Q_init_4 rfl ?_
  refine x_iconst (v := 4) d_Q_init_5 (by decide) ?_
  refine x_newa (atype := .int) (ty := .int) (t := 0) (n := 4) (a0 := (4, .inl (fun _ => 0))) rfl ac_int rfl (fun _ z => by cases z) (fun _ _ => rfl) d_Q_init_6 (by decide) (by decide) (by decide) (by omega) ⟨by first | exact Nat.le_of_ble_eq_true rfl | (dsimp only; omega), by first | exact Nat.le_of_ble_eq_true rfl | (dsimp only; omega)⟩ ?_
  refine x_putF f_Q_9 rfl d_Q_init_8 (by omega) (by first | assumption | exact vu_s | exact vu_t (by omega) (by first | assumption | exact vu_s | exact vu_t (by omega) (by first | assumption | exact vu_s | exact vu_t (by omega) (by first | assumption | exact vu_s))) | rfl | (simp only [va_up, Nat.reduceEqDiff, ↓reduceIte]; first | rfl | assumption)) (Nat.le_of_ble_eq_true rfl) (fun _ => ⟨rfl, rfl⟩) ?_
  refine x_aload_n d_Q_init_11 rfl ?_
  refine x_new n_Q_15 d_Q_init_12 (by omega) ⟨by first | exact Nat.le_of_ble_eq_true rfl | (dsimp only; omega), by first | exact Nat.le_of_ble_eq_true rfl | (dsimp only; omega)⟩ ?_
  refine x_dup d_Q_init_15 rfl ?_
  refine x_callIN (c_P_init (o := o + 2) (by omega) vu_s) k_Q_17 v_P_init d_Q_init_16 rfl (by omega) (by omega) (Nat.le_of_ble_eq_true rfl) ⟨by first | exact Nat.le_of_ble_eq_true rfl | (dsimp only; omega), by first | exact Nat.le_of_ble_eq_true rfl | (dsimp only; omega)⟩ ?_
  rintro r h' ⟨rfl, p1, p2, p3⟩
  have q0 : h' o = .inr (6, [.int 0, .int 0, .int 0, .int 0, .int 0, .ref (o + 1), .null, .null, .null]) := by
    rw [p3 o (by omega)]
    exact vu_t (by omega) vu_s
  have q1 : h' (o + 1) = aI 4 z32 := by
    rw [p3 (o + 1) (by omega)]
    exact vu_t (by omega) (vu_t (by omega) vu_s)
  have q2 : ∀ k, k < o → h' k = h k := by
    intro k hk
    rw [p3 k (by omega), vu_n (by omega), vu_n (by omega), vu_n (by omega)]
  refine x_putF f_Q_18 rfl d_Q_init_19 (by omega) (by first | assumption | exact vu_s | exact vu_t (by omega) (by first | assumption | exact vu_s | exact vu_t (by omega) (by first | assumption | exact vu_s | exact vu_t (by omega) (by first | assumption | exact vu_s))) | rfl | (simp only [va_up, Nat.reduceEqDiff, ↓reduceIte]; first | rfl | assumption)) (Nat.le_of_ble_eq_true rfl) (fun _ => ⟨rfl, rfl⟩) ?_
  refine x_aload_n d_Q_init_22 rfl ?_
  refine x_bipush (v := 6) d_Q_init_23 (by decide) ?_
  refine x_newa (atype := .long) (ty := .long) (t := 2) (n := 6) (a0 := (6, .inr (.inl (fun _ => 0)))) rfl ac_long rfl (fun _ z => by cases z) (fun _ _ => rfl) d_Q_init_25 (by decide) (by decide) (by decide) (by omega) ⟨by first | exact Nat.le_of_ble_eq_true rfl | (dsimp only; omega), by first | exact Nat.le_of_ble_eq_true rfl | (dsimp only; omega)⟩ ?_
  refine x_putF f_Q_22 rfl d_Q_init_27 (by omega) (by first | assumption | exact vu_s | exact vu_t (by omega) (by first | assumption | exact vu_s | exact vu_t (by omega) (by first | assumption | exact vu_s | exact vu_t (by omega) (by first | assumption | exact vu_s))) | rfl | (simp only [va_up, Nat.reduceEqDiff, ↓reduceIte]; first | rfl | assumption)) (Nat.le_of_ble_eq_true rfl) (fun _ => ⟨rfl, rfl⟩) ?_
  refine x_aload_n d_Q_init_30 rfl ?_
  refine x_bipush (v := 6) d_Q_init_31 (by decide) ?_
  refine x_newa (atype := .long) (ty := .long) (t := 2) (n := 6) (a0 := (6, .inr (.inl (fun _ => 0)))) rfl ac_long rfl (fun _ z => by cases z) (fun _ _ => rfl) d_Q_init_33 (by decide) (by decide) (by decide) (by omega) ⟨by first | exact Nat.le_of_ble_eq_true rfl | (dsimp only; omega), by first | exact Nat.le_of_ble_eq_true rfl | (dsimp only; omega)⟩ ?_
  refine x_putF f_Q_26 rfl d_Q_init_35 (by omega) (by first | assumption | exact vu_s | exact vu_t (by omega) (by first | assumption | exact vu_s | exact vu_t (by omega) (by first | assumption | exact vu_s | exact vu_t (by omega) (by first | assumption | exact vu_s))) | rfl | (simp only [va_up, Nat.reduceEqDiff, ↓reduceIte]; first | rfl | assumption)) (Nat.le_of_ble_eq_true rfl) (fun _ => ⟨rfl, rfl⟩) ?_
  refine x_vret d_Q_init_38 ?_
  refine ⟨rfl, ⟨vu_s, ?_, ?_, ?_, ⟨z64, ?_⟩, z64, ?_⟩, fun k hk => ?_⟩
  · exact vu_t (by omega) (vu_t (by omega) (vu_t (by omega) (vu_t (by omega) (vu_t (by omega) q1))))
  · exact vu_t (by omega) (vu_t (by omega) (vu_t (by omega) (vu_t (by omega) (vu_t (by omega) p1))))
  · exact vu_t (by omega) (vu_t (by omega) (vu_t (by omega) (vu_t (by omega) (vu_t (by omega) p2))))
  · exact vu_t (by omega) (vu_t (by omega) (vu_t (by omega) vu_s))
  · exact vu_t (by omega) vu_s
  · rw [vu_n (by omega), vu_n (by omega), vu_n (by omega), vu_n (by omega), vu_n (by omega)]
    exact q2 k hk
