/-! Text: object 5, its signs 6. -/
def isDig (c : Int32) : Bool := decide (48 ≤ c) && decide (c ≤ 57)
def relOf (c : Int32) : Int32 := if 82 ≤ c ∧ c ≤ 84 then c - 82 else -1
def colOf (c : Int32) : Int32 := if 65 ≤ c ∧ c ≤ 68 then c - 65 else -1
set_option maxRecDepth 100000 in
set_option maxHeartbeats 4000000 in
theorem c_T_isDigit {N : Nat} {h : xHp} (c : Int32) : XM y_T_isDigit b_T_isDigit 1 (some .boolean) 0 0 0 [.int c] N h (xR (some (.int (bi (isDig c)))) h) := by
  refine xM_intro [some (.int c)] (by decide) (fun _ => rfl) (fun _ => Nat.le_of_ble_eq_true rfl) (fun Γ => ?_)
  refine x_iload_n d_T_isDigit_0 rfl ?_
  refine x_bipush (v := 48) d_T_isDigit_1 (by decide) ?_
  refine x_icmp_lt 16 d_T_isDigit_3 (by decide) (fun c1 => ?_) (fun c1 => ?_)
  · refine x_iconst (v := 0) d_T_isDigit_16 (by decide) ?_
    refine x_zret d_T_isDigit_17 (by first | rfl | assumption) ?_
    exact ⟨by simp [isDig, bi, Int32.not_le.mpr c1], rfl⟩
  · refine x_iload_n d_T_isDigit_6 rfl ?_
    refine x_bipush (v := 57) d_T_isDigit_7 (by decide) ?_
    refine x_icmp_gt 16 d_T_isDigit_9 (by decide) (fun c2 => ?_) (fun c2 => ?_)
    · refine x_iconst (v := 0) d_T_isDigit_16 (by decide) ?_
      refine x_zret d_T_isDigit_17 (by first | rfl | assumption) ?_
      exact ⟨by simp [isDig, bi, Int32.not_le.mpr c2], rfl⟩
    · refine x_iconst (v := 1) d_T_isDigit_12 (by decide) ?_
      refine x_goto 17 d_T_isDigit_13 (by decide) ?_
      refine x_zret d_T_isDigit_17 (by first | rfl | assumption) ?_
      exact ⟨by simp [isDig, bi, Int32.not_lt.mp c1, Int32.not_lt.mp c2], rfl⟩
set_option maxRecDepth 100000 in
set_option maxHeartbeats 4000000 in
theorem c_T_relationOf {N : Nat} {h : xHp} (c : Int32) : XM y_T_relationOf b_T_relationOf 1 (some .int) 0 0 0 [.int c] N h (xR (some (.int (relOf c))) h) := by
  refine xM_intro [some (.int c)] (by decide) (fun _ => rfl) (fun _ => Nat.le_of_ble_eq_true rfl) (fun Γ => ?_)
  refine x_iload_n d_T_relationOf_0 rfl ?_
  refine x_bipush (v := 82) d_T_relationOf_1 (by decide) ?_
  refine x_icmp_lt 19 d_T_relationOf_3 (by decide) (fun c1 => ?_) (fun c1 => ?_)
  · refine x_iconst (v := -1) d_T_relationOf_19 (by decide) ?_
    refine x_iret d_T_relationOf_20 ?_
    exact ⟨by simp [relOf, Int32.not_le.mpr c1], rfl⟩
  · refine x_iload_n d_T_relationOf_6 rfl ?_
    refine x_bipush (v := 84) d_T_relationOf_7 (by decide) ?_
    refine x_icmp_gt 19 d_T_relationOf_9 (by decide) (fun c2 => ?_) (fun c2 => ?_)
    · refine x_iconst (v := -1) d_T_relationOf_19 (by decide) ?_
      refine x_iret d_T_relationOf_20 ?_
      exact ⟨by simp [relOf, Int32.not_le.mpr c2], rfl⟩
    · refine x_iload_n d_T_relationOf_12 rfl ?_
      refine x_bipush (v := 82) d_T_relationOf_13 (by decide) ?_
      refine x_isub d_T_relationOf_15 ?_
      refine x_goto 20 d_T_relationOf_16 (by decide) ?_
      refine x_iret d_T_relationOf_20 ?_
      exact ⟨by simp [relOf, Int32.not_lt.mp c1, Int32.not_lt.mp c2], rfl⟩
set_option maxRecDepth 100000 in
set_option maxHeartbeats 4000000 in
theorem c_T_columnOf {N : Nat} {h : xHp} (c : Int32) : XM y_T_columnOf b_T_columnOf 1 (some .int) 0 0 0 [.int c] N h (xR (some (.int (colOf c))) h) := by
  refine xM_intro [some (.int c)] (by decide) (fun _ => rfl) (fun _ => Nat.le_of_ble_eq_true rfl) (fun Γ => ?_)
  refine x_iload_n d_T_columnOf_0 rfl ?_
  refine x_bipush (v := 65) d_T_columnOf_1 (by decide) ?_
  refine x_icmp_lt 19 d_T_columnOf_3 (by decide) (fun c1 => ?_) (fun c1 => ?_)
  · refine x_iconst (v := -1) d_T_columnOf_19 (by decide) ?_
    refine x_iret d_T_columnOf_20 ?_
    exact ⟨by simp [colOf, Int32.not_le.mpr c1], rfl⟩
  · refine x_iload_n d_T_columnOf_6 rfl ?_
    refine x_bipush (v := 68) d_T_columnOf_7 (by decide) ?_
    refine x_icmp_gt 19 d_T_columnOf_9 (by decide) (fun c2 => ?_) (fun c2 => ?_)
    · refine x_iconst (v := -1) d_T_columnOf_19 (by decide) ?_
      refine x_iret d_T_columnOf_20 ?_
      exact ⟨by simp [colOf, Int32.not_le.mpr c2], rfl⟩
    · refine x_iload_n d_T_columnOf_12 rfl ?_
      refine x_bipush (v := 65) d_T_columnOf_13 (by decide) ?_
      refine x_isub d_T_columnOf_15 ?_
      refine x_goto 20 d_T_columnOf_16 (by decide) ?_
      refine x_iret d_T_columnOf_20 ?_
      exact ⟨by simp [colOf, Int32.not_lt.mp c1, Int32.not_lt.mp c2], rfl⟩
set_option maxRecDepth 100000 in
set_option maxHeartbeats 4000000 in
theorem c_T_length {N : Nat} {h : xHp} {n : Int32} (hN : 94 ≤ N) (h5 : h 5 = .inr (2, [.ref 6, .int n])) : XM y_T_length b_T_length 1 (some .int) 0 0 0 [.ref 5] N h (xR (some (.int n)) h) := by
  refine xM_intro [some (.ref 5)] (by decide) (fun _ => rfl) (fun _ => Nat.le_of_ble_eq_true rfl) (fun Γ => ?_)
  refine x_aload_n d_T_length_0 rfl ?_
  refine x_get f_T_13 d_T_length_1 (by omega) (by first | rfl | assumption | (simp only [va_up, Nat.reduceEqDiff, ↓reduceIte]; first | rfl | assumption) | (simp [va_up, *]; done)) rfl ?_
  refine x_iret d_T_length_4 ?_
  exact ⟨rfl, rfl⟩
set_option maxRecDepth 100000 in
set_option maxHeartbeats 4000000 in
theorem c_T_empty {N : Nat} {h : xHp} {n : Int32} (hN : 94 ≤ N) (h5 : h 5 = .inr (2, [.ref 6, .int n])) : XM y_T_empty b_T_empty 1 none 0 0 0 [.ref 5] N h (xR none (va_up h 5 (.inr (2, [.ref 6, .int 0])))) := by
  refine xM_intro [some (.ref 5)] (by decide) (fun _ => rfl) (fun _ => Nat.le_of_ble_eq_true rfl) (fun Γ => ?_)
  refine x_aload_n d_T_empty_0 rfl ?_
  refine x_iconst (v := 0) d_T_empty_1 (by decide) ?_
  refine x_put f_T_13 d_T_empty_2 (by omega) (by first | rfl | assumption | (simp only [va_up, Nat.reduceEqDiff, ↓reduceIte]; first | rfl | assumption) | (simp [va_up, *]; done)) (Nat.le_of_ble_eq_true rfl) (fun _ => ⟨rfl, rfl⟩) ?_
  refine x_vret d_T_empty_5 ?_
  exact ⟨rfl, rfl⟩
set_option maxRecDepth 100000 in
set_option maxHeartbeats 4000000 in
theorem c_T_append {N : Nat} {h : xHp} {n : Nat} {f : Nat → Int32} (c : Int32) (hN : 94 ≤ N) (hn : n ≤ 30) (hc : narrow .char (.int c) = .int c) (h5 : h 5 = .inr (2, [.ref 6, .int (nI n)])) (h6 : h 6 = .inl (1, 30, .inl f)) : XM y_T_append b_T_append 2 (some .boolean) 0 0 0 [.ref 5, .int c] N h (xR (some (.int (bi (decide (n < 30))))) (if n < 30 then va_up (va_up h 6 (.inl (1, 30, .inl (upd f n c)))) 5 (.inr (2, [.ref 6, .int (nI (n + 1))])) else h)) := by
  refine xM_intro [some (.ref 5), some (.int c)] (by decide) (fun _ => rfl) (fun _ => Nat.le_of_ble_eq_true rfl) (fun Γ => ?_)
  refine x_aload_n d_T_append_0 rfl ?_
  refine x_get f_T_13 d_T_append_1 (by omega) (by first | rfl | assumption | (simp only [va_up, Nat.reduceEqDiff, ↓reduceIte]; first | rfl | assumption) | (simp [va_up, *]; done)) rfl ?_
  refine x_bipush (v := 30) d_T_append_4 (by decide) ?_
  refine x_icmp_lt 11 d_T_append_6 (by decide) (fun c1 => ?_) (fun c1 => ?_)
  · have hlt : n < 30 := (nI_ltI (by omega) (by decide)).mp c1
    have hi : vp_in (nI n) 30 := vp_in_nI hlt (by decide)
    refine x_aload_n d_T_append_11 rfl ?_
    refine x_get f_T_9 d_T_append_12 (by omega) (by first | rfl | assumption | (simp only [va_up, Nat.reduceEqDiff, ↓reduceIte]; first | rfl | assumption) | (simp [va_up, *]; done)) rfl ?_
    refine x_aload_n d_T_append_15 rfl ?_
    refine x_get f_T_13 d_T_append_16 (by omega) (by first | rfl | assumption | (simp only [va_up, Nat.reduceEqDiff, ↓reduceIte]; first | rfl | assumption) | (simp [va_up, *]; done)) rfl ?_
    refine x_iload_n d_T_append_19 rfl ?_
    refine x_cast d_T_append_20 (by omega) (by first | rfl | assumption | (simp only [va_up, Nat.reduceEqDiff, ↓reduceIte]; first | rfl | assumption) | (simp [va_up, *]; done)) (by assumption) (by assumption) ?_
    refine x_aload_n d_T_append_21 rfl ?_
    refine x_dup d_T_append_22 rfl ?_
    refine x_get f_T_13 d_T_append_23 (by omega) (by first | rfl | assumption | (simp only [va_up, Nat.reduceEqDiff, ↓reduceIte]; first | rfl | assumption) | (simp [va_up, *]; done)) rfl ?_
    refine x_iconst (v := 1) d_T_append_26 (by decide) ?_
    refine x_iadd d_T_append_27 ?_
    refine x_put f_T_13 d_T_append_28 (by omega) (by first | rfl | assumption | (simp only [va_up, Nat.reduceEqDiff, ↓reduceIte]; first | rfl | assumption) | (simp [va_up, *]; done)) (Nat.le_of_ble_eq_true rfl) (fun _ => ⟨rfl, rfl⟩) ?_
    refine x_iconst (v := 1) d_T_append_31 (by decide) ?_
    refine x_zret d_T_append_32 (by first | rfl | assumption) ?_
    rw [if_pos hlt]
    refine ⟨by simp [bi, hlt], ?_⟩
    rw [nI_clamp (by omega), ← nI_1]
    rfl
  · have hlt : ¬ n < 30 := fun q => c1 ((nI_ltI (by omega) (by decide)).mpr q)
    refine x_iconst (v := 0) d_T_append_9 (by decide) ?_
    refine x_zret d_T_append_10 (by first | rfl | assumption) ?_
    rw [if_neg hlt]
    exact ⟨by simp [bi, hlt], rfl⟩
set_option maxRecDepth 100000 in
set_option maxHeartbeats 4000000 in
theorem c_T_at {N : Nat} {h : xHp} {n : Nat} {f : Nat → Int32} (i : Int32) (hN : 94 ≤ N) (hn : n ≤ 30) (hf : ∀ j, narrow .char (.int (f j)) = .int (f j)) (h5 : h 5 = .inr (2, [.ref 6, .int (nI n)])) (h6 : h 6 = .inl (1, 30, .inl f)) : XM y_T_at b_T_at 2 (some .char) 0 0 0 [.ref 5, .int i] N h (xR (some (.int (if 0 ≤ i ∧ i < nI n then f i.toNatClampNeg else 0))) h) := by
  refine xM_intro [some (.ref 5), some (.int i)] (by decide) (fun _ => rfl) (fun _ => Nat.le_of_ble_eq_true rfl) (fun Γ => ?_)
  refine x_iload_n d_T_at_0 rfl ?_
  refine x_if_lt 21 d_T_at_1 (by decide) (fun c1 => ?_) (fun c1 => ?_)
  · refine x_iconst (v := 0) d_T_at_21 (by decide) ?_
    refine x_zret d_T_at_22 (by first | rfl | assumption) ?_
    exact ⟨by rw [if_neg (fun q => Int32.not_le.mpr c1 q.1)], rfl⟩
  · refine x_iload_n d_T_at_4 rfl ?_
    refine x_aload_n d_T_at_5 rfl ?_
    refine x_get f_T_13 d_T_at_6 (by omega) (by first | rfl | assumption | (simp only [va_up, Nat.reduceEqDiff, ↓reduceIte]; first | rfl | assumption) | (simp [va_up, *]; done)) rfl ?_
    refine x_icmp_ge 21 d_T_at_9 (by decide) (fun c2 => ?_) (fun c2 => ?_)
    · refine x_iconst (v := 0) d_T_at_21 (by decide) ?_
      refine x_zret d_T_at_22 (by first | rfl | assumption) ?_
      exact ⟨by rw [if_neg (fun q => Int32.not_le.mpr q.2 c2)], rfl⟩
    · have hi : vp_in i 30 := i_in c1 (by decide) (Int32.lt_of_lt_of_le (Int32.not_le.mp c2) (nI_le hn (by decide)))
      have hnn := hf i.toNatClampNeg
      refine x_aload_n d_T_at_12 rfl ?_
      refine x_get f_T_9 d_T_at_13 (by omega) (by first | rfl | assumption | (simp only [va_up, Nat.reduceEqDiff, ↓reduceIte]; first | rfl | assumption) | (simp [va_up, *]; done)) rfl ?_
      refine x_iload_n d_T_at_16 rfl ?_
      refine x_cald d_T_at_17 (by omega) (by first | rfl | assumption | (simp only [va_up, Nat.reduceEqDiff, ↓reduceIte]; first | rfl | assumption) | (simp [va_up, *]; done)) (by assumption) ?_
      refine x_goto 22 d_T_at_18 (by decide) ?_
      refine x_zret d_T_at_22 (by first | rfl | assumption) ?_
      exact ⟨by rw [if_pos ⟨Int32.not_lt.mp c1, Int32.not_le.mp c2⟩], rfl⟩
