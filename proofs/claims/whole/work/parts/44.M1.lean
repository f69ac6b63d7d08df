/-! The reference: object 94, arrays 95 .. 115 in the order of its fields. Small methods. -/
abbrev oM (ch ln ca cd gp lg : Int32) : xE := .inr (7, [.ref 95, .ref 96, .ref 97, .int ch, .ref 98, .int ln, .int ca, .ref 99, .ref 100, .ref 101, .int cd, .int gp, .ref 102, .ref 103, .ref 104, .ref 105, .ref 106, .ref 107, .ref 108, .ref 109, .ref 110, .ref 111, .ref 112, .ref 113, .ref 114, .ref 115, .int lg])
abbrev aB (n : Nat) (f : Nat → Int32) : xE := .inl (3, n, .inl f)
def inB (v n : Int32) : Bool := decide (0 ≤ v) && decide (v < n)
set_option maxRecDepth 100000 in
set_option maxHeartbeats 4000000 in
theorem c_M_in {N : Nat} {h : xHp} (v n : Int32) : XM y_M_in b_M_in 2 (some .boolean) 0 0 0 [.int v, .int n] N h (xR (some (.int (bi (inB v n)))) h) := by
  refine xM_intro [some (.int v), some (.int n)] (by decide) (fun _ => rfl) (fun _ => Nat.le_of_ble_eq_true rfl) (fun Γ => ?_)
  refine x_iload_n d_M_in_0 rfl ?_
  refine x_if_lt 13 d_M_in_1 (by decide) (fun c1 => ?_) (fun c1 => ?_)
  · refine x_iconst (v := 0) d_M_in_13 (by decide) ?_
    refine x_zret d_M_in_14 (by first | rfl | assumption) ?_
    exact ⟨by simp [inB, bi, Int32.not_le.mpr c1], rfl⟩
  · refine x_iload_n d_M_in_4 rfl ?_
    refine x_iload_n d_M_in_5 rfl ?_
    refine x_icmp_ge 13 d_M_in_6 (by decide) (fun c2 => ?_) (fun c2 => ?_)
    · refine x_iconst (v := 0) d_M_in_13 (by decide) ?_
      refine x_zret d_M_in_14 (by first | rfl | assumption) ?_
      exact ⟨by simp [inB, bi, Int32.not_lt.mpr c2], rfl⟩
    · refine x_iconst (v := 1) d_M_in_9 (by decide) ?_
      refine x_goto 14 d_M_in_10 (by decide) ?_
      refine x_zret d_M_in_14 (by first | rfl | assumption) ?_
      exact ⟨by simp [inB, bi, Int32.not_lt.mp c1, Int32.not_le.mp c2], rfl⟩
set_option maxRecDepth 100000 in
set_option maxHeartbeats 4000000 in
theorem c_M_letter {N : Nat} {h : xHp} (c : Int32) : XM y_M_letter b_M_letter 1 (some .int) 0 0 0 [.int c] N h (xR (some (.int (colOf c))) h) := by
  refine xM_intro [some (.int c)] (by decide) (fun _ => rfl) (fun _ => Nat.le_of_ble_eq_true rfl) (fun Γ => ?_)
  refine x_iload_n d_M_letter_0 rfl ?_
  refine x_bipush (v := 65) d_M_letter_1 (by decide) ?_
  refine x_icmp_lt 19 d_M_letter_3 (by decide) (fun c1 => ?_) (fun c1 => ?_)
  · refine x_iconst (v := -1) d_M_letter_19 (by decide) ?_
    refine x_iret d_M_letter_20 ?_
    exact ⟨by simp [colOf, Int32.not_le.mpr c1], rfl⟩
  · refine x_iload_n d_M_letter_6 rfl ?_
    refine x_bipush (v := 68) d_M_letter_7 (by decide) ?_
    refine x_icmp_gt 19 d_M_letter_9 (by decide) (fun c2 => ?_) (fun c2 => ?_)
    · refine x_iconst (v := -1) d_M_letter_19 (by decide) ?_
      refine x_iret d_M_letter_20 ?_
      exact ⟨by simp [colOf, Int32.not_le.mpr c2], rfl⟩
    · refine x_iload_n d_M_letter_12 rfl ?_
      refine x_bipush (v := 65) d_M_letter_13 (by decide) ?_
      refine x_isub d_M_letter_15 ?_
      refine x_goto 20 d_M_letter_16 (by decide) ?_
      refine x_iret d_M_letter_20 ?_
      exact ⟨by simp [colOf, Int32.not_lt.mp c1, Int32.not_lt.mp c2], rfl⟩
/-- the columns of a chain as bits -/
def colsM (ca : Int32) : Int32 := (ca &&& 1) * 3 ||| (ca >>> ((1 : Int32) &&& 31) &&& 1) * 6 ||| (ca >>> ((2 : Int32) &&& 31) &&& 1) * 12
def hasM (ca c : Int32) : Bool := decide (0 ≤ colOf c) && decide (colsM ca >>> (colOf c &&& 31) &&& 1 = 1)
set_option maxRecDepth 100000 in
set_option maxHeartbeats 4000000 in
theorem c_M_has {N : Nat} {h : xHp} {ch ln ca cd gp lg : Int32} (c : Int32) (hN : 116 ≤ N) (h1 : h 94 = oM ch ln ca cd gp lg) : XM y_M_has b_M_has 4 (some .boolean) 1 0 0 [.ref 94, .int c] N h (xR (some (.int (bi (hasM ca c)))) h) := by
  refine xM_intro [some (.ref 94), some (.int c), none, none] (by decide) (fun _ => rfl) (fun _ => Nat.le_of_ble_eq_true rfl) (fun Γ => ?_)
  refine x_iload_n d_M_has_0 rfl ?_
  refine x_cSe (c_M_letter c) k_M_74 s_M_letter d_M_has_1 rfl (by omega) (Nat.le_of_ble_eq_true rfl) ?_
  refine x_istore_n d_M_has_4 (by decide) rfl ?_
  refine x_aload_n d_M_has_5 rfl ?_
  refine x_get f_M_78 d_M_has_6 (by omega) (by first | assumption | exact vu_s | exact vu_t (by omega) (by first | assumption | exact vu_s | exact vu_t (by omega) (by first | assumption | exact vu_s | exact vu_t (by omega) (by first | assumption | exact vu_s))) | rfl | (simp only [va_up, Nat.reduceEqDiff, ↓reduceIte]; first | rfl | assumption)) rfl ?_
  refine x_iconst (v := 1) d_M_has_9 (by decide) ?_
  refine x_iand d_M_has_10 ?_
  refine x_iconst (v := 3) d_M_has_11 (by decide) ?_
  refine x_imul d_M_has_12 ?_
  refine x_aload_n d_M_has_13 rfl ?_
  refine x_get f_M_78 d_M_has_14 (by omega) (by first | assumption | exact vu_s | exact vu_t (by omega) (by first | assumption | exact vu_s | exact vu_t (by omega) (by first | assumption | exact vu_s | exact vu_t (by omega) (by first | assumption | exact vu_s))) | rfl | (simp only [va_up, Nat.reduceEqDiff, ↓reduceIte]; first | rfl | assumption)) rfl ?_
  refine x_iconst (v := 1) d_M_has_17 (by decide) ?_
  refine x_ishr d_M_has_18 ?_
  refine x_iconst (v := 1) d_M_has_19 (by decide) ?_
  refine x_iand d_M_has_20 ?_
  refine x_bipush (v := 6) d_M_has_21 (by decide) ?_
  refine x_imul d_M_has_23 ?_
  refine x_ior d_M_has_24 ?_
  refine x_aload_n d_M_has_25 rfl ?_
  refine x_get f_M_78 d_M_has_26 (by omega) (by first | assumption | exact vu_s | exact vu_t (by omega) (by first | assumption | exact vu_s | exact vu_t (by omega) (by first | assumption | exact vu_s | exact vu_t (by omega) (by first | assumption | exact vu_s))) | rfl | (simp only [va_up, Nat.reduceEqDiff, ↓reduceIte]; first | rfl | assumption)) rfl ?_
  refine x_iconst (v := 2) d_M_has_29 (by decide) ?_
  refine x_ishr d_M_has_30 ?_
  refine x_iconst (v := 1) d_M_has_31 (by decide) ?_
  refine x_iand d_M_has_32 ?_
  refine x_bipush (v := 12) d_M_has_33 (by decide) ?_
  refine x_imul d_M_has_35 ?_
  refine x_ior d_M_has_36 ?_
  refine x_istore_n d_M_has_37 (by decide) rfl ?_
  refine x_iload_n d_M_has_38 rfl ?_
  refine x_if_lt 55 d_M_has_39 (by decide) (fun c1 => ?_) (fun c1 => ?_)
  · refine x_iconst (v := 0) d_M_has_55 (by decide) ?_
    refine x_zret d_M_has_56 (by first | rfl | assumption) ?_
    exact ⟨by simp [hasM, bi, Int32.not_le.mpr c1], rfl⟩
  · refine x_iload_n d_M_has_42 rfl ?_
    refine x_iload_n d_M_has_43 rfl ?_
    refine x_ishr d_M_has_44 ?_
    refine x_iconst (v := 1) d_M_has_45 (by decide) ?_
    refine x_iand d_M_has_46 ?_
    refine x_iconst (v := 1) d_M_has_47 (by decide) ?_
    refine x_icmp_ne 55 d_M_has_48 (by decide) (fun c2 => ?_) (fun c2 => ?_)
    · refine x_iconst (v := 0) d_M_has_55 (by decide) ?_
      refine x_zret d_M_has_56 (by first | rfl | assumption) ?_
      refine ⟨?_, rfl⟩
      have c2' : ¬ (colsM ca >>> (colOf c &&& 31) &&& 1 = 1) := c2
      simp [hasM, bi, c2']
    · refine x_iconst (v := 1) d_M_has_51 (by decide) ?_
      refine x_goto 56 d_M_has_52 (by decide) ?_
      refine x_zret d_M_has_56 (by first | rfl | assumption) ?_
      refine ⟨?_, rfl⟩
      have c2' : colsM ca >>> (colOf c &&& 31) &&& 1 = 1 := c2
      simp [hasM, bi, Int32.not_lt.mp c1, c2']
set_option maxRecDepth 100000 in
set_option maxHeartbeats 4000000 in
theorem c_M_at {N : Nat} {h : xHp} {ch ca cd gp lg : Int32} {n : Nat} {f : Nat → Int32} (i : Nat) (hN : 116 ≤ N) (hn : n ≤ 30) (hi : i < 1000) (h1 : h 94 = oM ch (nI n) ca cd gp lg) (h2 : h 98 = aI 30 f) : XM y_M_at b_M_at 2 (some .int) 0 0 0 [.ref 94, .int (nI i)] N h (xR (some (.int (if i < n then f i else -1))) h) := by
  refine xM_intro [some (.ref 94), some (.int (nI i))] (by decide) (fun _ => rfl) (fun _ => Nat.le_of_ble_eq_true rfl) (fun Γ => ?_)
  refine x_iload_n d_M_at_0 rfl ?_
  refine x_aload_n d_M_at_1 rfl ?_
  refine x_get f_M_82 d_M_at_2 (by omega) (by first | assumption | exact vu_s | exact vu_t (by omega) (by first | assumption | exact vu_s | exact vu_t (by omega) (by first | assumption | exact vu_s | exact vu_t (by omega) (by first | assumption | exact vu_s))) | rfl | (simp only [va_up, Nat.reduceEqDiff, ↓reduceIte]; first | rfl | assumption)) rfl ?_
  refine x_icmp_ge 17 d_M_at_5 (by decide) (fun c1 => ?_) (fun c1 => ?_)
  · have e : ¬ i < n := fun z => absurd c1 (nI_ge z (by omega))
    refine x_iconst (v := -1) d_M_at_17 (by decide) ?_
    refine x_iret d_M_at_18 ?_
    exact ⟨by rw [if_neg e], rfl⟩
  · have e : i < n := by
      rcases Nat.lt_or_ge i n with q | q
      · exact q
      · exact absurd (nI_le q (by omega)) c1
    have hv : vp_in (nI i) 30 := vp_in_nI (by omega) (by decide)
    refine x_aload_n d_M_at_8 rfl ?_
    refine x_get f_M_19 d_M_at_9 (by omega) (by first | assumption | exact vu_s | exact vu_t (by omega) (by first | assumption | exact vu_s | exact vu_t (by omega) (by first | assumption | exact vu_s | exact vu_t (by omega) (by first | assumption | exact vu_s))) | rfl | (simp only [va_up, Nat.reduceEqDiff, ↓reduceIte]; first | rfl | assumption)) rfl ?_
    refine x_iload_n d_M_at_12 rfl ?_
    refine x_iald d_M_at_13 (by omega) (by first | assumption | exact vu_s | exact vu_t (by omega) (by first | assumption | exact vu_s | exact vu_t (by omega) (by first | assumption | exact vu_s | exact vu_t (by omega) (by first | assumption | exact vu_s))) | rfl | (simp only [va_up, Nat.reduceEqDiff, ↓reduceIte]; first | rfl | assumption)) (by assumption) ?_
    refine x_goto 18 d_M_at_14 (by decide) ?_
    refine x_iret d_M_at_18 ?_
    exact ⟨by rw [if_pos e, nI_clamp (show i < 2 ^ 31 by omega)], rfl⟩
set_option maxRecDepth 100000 in
set_option maxHeartbeats 4000000 in
theorem c_M_shorter {N : Nat} {h : xHp} {ch ca cd gp lg : Int32} {n : Nat} (i : Nat) (hN : 116 ≤ N) (hn : n ≤ 30) (hi : i < 1000) (h1 : h 94 = oM ch (nI n) ca cd gp lg) : XM y_M_shorter b_M_shorter 2 (some .int) 0 0 0 [.ref 94, .int (nI i)] N h (xR (some (.int (nI (min i n)))) h) := by
  refine xM_intro [some (.ref 94), some (.int (nI i))] (by decide) (fun _ => rfl) (fun _ => Nat.le_of_ble_eq_true rfl) (fun Γ => ?_)
  refine x_iload_n d_M_shorter_0 rfl ?_
  refine x_aload_n d_M_shorter_1 rfl ?_
  refine x_get f_M_82 d_M_shorter_2 (by omega) (by first | assumption | exact vu_s | exact vu_t (by omega) (by first | assumption | exact vu_s | exact vu_t (by omega) (by first | assumption | exact vu_s | exact vu_t (by omega) (by first | assumption | exact vu_s))) | rfl | (simp only [va_up, Nat.reduceEqDiff, ↓reduceIte]; first | rfl | assumption)) rfl ?_
  refine x_icmp_ge 12 d_M_shorter_5 (by decide) (fun c1 => ?_) (fun c1 => ?_)
  · have e : ¬ i < n := fun z => absurd c1 (nI_ge z (by omega))
    refine x_aload_n d_M_shorter_12 rfl ?_
    refine x_get f_M_82 d_M_shorter_13 (by omega) (by first | assumption | exact vu_s | exact vu_t (by omega) (by first | assumption | exact vu_s | exact vu_t (by omega) (by first | assumption | exact vu_s | exact vu_t (by omega) (by first | assumption | exact vu_s))) | rfl | (simp only [va_up, Nat.reduceEqDiff, ↓reduceIte]; first | rfl | assumption)) rfl ?_
    refine x_iret d_M_shorter_16 ?_
    exact ⟨by rw [Nat.min_eq_right (by omega)], rfl⟩
  · have e : i < n := by
      rcases Nat.lt_or_ge i n with q | q
      · exact q
      · exact absurd (nI_le q (by omega)) c1
    refine x_iload_n d_M_shorter_8 rfl ?_
    refine x_goto 16 d_M_shorter_9 (by decide) ?_
    refine x_iret d_M_shorter_16 ?_
    exact ⟨by rw [Nat.min_eq_left (by omega)], rfl⟩
theorem inB_v (x : Int32) : inB x 6 = isVal x := rfl
theorem inB_q (x : Int32) : inB x 4 = isQn x := rfl
theorem cell_n {a b c : Nat} : (36 : Int32) * nI a + 6 * nI b + nI c = nI ((a * 6 + b) * 6 + c) := by
  rw [show (36 : Int32) = nI 36 from rfl, show (6 : Int32) = nI 6 from rfl, pk_mul, pk_mul, nI_add, nI_add]
  congr 1
  omega
set_option maxRecDepth 100000 in
set_option maxHeartbeats 4000000 in
theorem c_M_cell {N : Nat} {h : xHp} (r x y : Int32) : XM y_M_cell b_M_cell 3 (some .int) 1 0 0 [.int r, .int x, .int y] N h (xR (some (.int (if rowOK r x y then plOf r x y else -1))) h) := by
  refine xM_intro [some (.int r), some (.int x), some (.int y)] (by decide) (fun _ => rfl) (fun _ => Nat.le_of_ble_eq_true rfl) (fun Γ => ?_)
  refine x_iload_n d_M_cell_0 rfl ?_
  refine x_iconst (v := 3) d_M_cell_1 (by decide) ?_
  refine x_cSe (c_M_in r 3) k_M_138 s_M_in d_M_cell_2 rfl (by omega) (Nat.le_of_ble_eq_true rfl) ?_
  have no : rowOK r x y = false → XW Γ y_M_cell b_M_cell 3 (some .int) (1, 0, 0) (xQ Γ (N + 0) 0 0 (xR (some (.int (if rowOK r x y then plOf r x y else -1))) h)) 0 0 N h 40 [some (.int r), some (.int x), some (.int y)] [] := by
    intro e
    refine x_iconst (v := -1) d_M_cell_40 (by decide) ?_
    refine x_iret d_M_cell_41 ?_
    exact ⟨by rw [e]; rfl, rfl⟩
  refine x_if_eq 40 d_M_cell_5 (by decide) (fun c1 => ?_) (fun c1 => ?_)
  · rw [bi0] at c1
    refine no ?_
    unfold inB at c1
    simp only [rowOK, c1, Bool.false_and]
  · rw [bi1] at c1
    refine x_iload_n d_M_cell_8 rfl ?_
    refine x_bipush (v := 6) d_M_cell_9 (by decide) ?_
    refine x_cSe (c_M_in x 6) k_M_138 s_M_in d_M_cell_11 rfl (by omega) (Nat.le_of_ble_eq_true rfl) ?_
    refine x_if_eq 40 d_M_cell_14 (by decide) (fun c2 => ?_) (fun c2 => ?_)
    · rw [bi0, inB_v] at c2
      exact no (by simp [rowOK, c2])
    · rw [bi1, inB_v] at c2
      refine x_iload_n d_M_cell_17 rfl ?_
      refine x_bipush (v := 6) d_M_cell_18 (by decide) ?_
      refine x_cSe (c_M_in y 6) k_M_138 s_M_in d_M_cell_20 rfl (by omega) (Nat.le_of_ble_eq_true rfl) ?_
      refine x_if_eq 40 d_M_cell_23 (by decide) (fun c3 => ?_) (fun c3 => ?_)
      · rw [bi0, inB_v] at c3
        exact no (by simp [rowOK, c3])
      · rw [bi1, inB_v] at c3
        have e : rowOK r x y = true := by
          unfold inB at c1
          simp only [rowOK, c1, c2, c3, Bool.and_self]
        refine x_bipush (v := 36) d_M_cell_26 (by decide) ?_
        refine x_iload_n d_M_cell_28 rfl ?_
        refine x_imul d_M_cell_29 ?_
        refine x_bipush (v := 6) d_M_cell_30 (by decide) ?_
        refine x_iload_n d_M_cell_32 rfl ?_
        refine x_imul d_M_cell_33 ?_
        refine x_iadd d_M_cell_34 ?_
        refine x_iload_n d_M_cell_35 rfl ?_
        refine x_iadd d_M_cell_36 ?_
        refine x_goto 41 d_M_cell_37 (by decide) ?_
        refine x_iret d_M_cell_41 ?_
        refine ⟨?_, rfl⟩
        rw [e]
        obtain ⟨a, b, c, -, -, -, rfl, rfl, rfl⟩ := rowOK_n e
        rw [if_pos rfl, plOf_n, cell_n]
def iM4 (f : Nat → Int32) (pl bs tf : Nat → Int32) (h : xHp) : Prop := h 95 = aI 108 f ∧ h 96 = aI 520 pl ∧ h 97 = aI 520 bs ∧ h 98 = aI 30 tf
theorem plOf_pos {r x y : Int32} (h : rowOK r x y = true) : ¬ plOf r x y < 0 := by
  obtain ⟨a, b, c, ha, hb, hc, rfl, rfl, rfl⟩ := rowOK_n h
  rw [plOf_n]
  exact nI_pos (by omega)
set_option maxRecDepth 100000 in
set_option maxHeartbeats 4000000 in
theorem c_M_change {N : Nat} {h : xHp} {ln ca cd gp lg : Int32} {n : Nat} {f pl bs tf : Nat → Int32} (r x y b : Int32) (hN : 116 ≤ N) (hn : n < 512) (h1 : h 94 = oM (nI n) ln ca cd gp lg) (h2 : iM4 f pl bs tf h) : XM y_M_change b_M_change 8 (some .int) 2 0 0 [.ref 94, .int r, .int x, .int y, .int b] N h (fun v h' => if rowOK r x y = true ∧ outOf (f (plOf r x y).toNatClampNeg) b = false then v = some (.int 0) ∧ h' = va_up (va_up (va_up (va_up h 95 (aI 108 (upd f (plOf r x y).toNatClampNeg (f (plOf r x y).toNatClampNeg + b)))) 96 (aI 520 (upd pl n (plOf r x y)))) 97 (aI 520 (upd bs n b))) 94 (oM (nI (n + 1)) ln ca cd gp lg) else v = some (.int (-1)) ∧ h' = h) := by
  obtain ⟨k1, k2, k3, k4⟩ := h2
  have hi : vp_in (nI n) 520 := vp_in_nI (by omega) (by decide)
  refine xM_intro [some (.ref 94), some (.int r), some (.int x), some (.int y), some (.int b), none, none, none] (by decide) (fun _ => rfl) (fun _ => Nat.le_of_ble_eq_true rfl) (fun Γ => ?_)
  refine x_iload_n d_M_change_0 rfl ?_
  refine x_iload_n d_M_change_1 rfl ?_
  refine x_iload_n d_M_change_2 rfl ?_
  refine x_cSe (c_M_cell r x y) k_M_142 s_M_cell d_M_change_3 rfl (by omega) (Nat.le_of_ble_eq_true rfl) ?_
  refine x_istore d_M_change_6 (by decide) rfl ?_
  refine x_iload d_M_change_8 rfl ?_
  by_cases e : rowOK r x y = true
  · rw [e, if_pos rfl]
    have hp := plOf_in e
    refine x_if_ge 15 d_M_change_10 (by decide) (fun c1 => ?_) (fun c1 => ?_)
    · refine x_aload_n d_M_change_15 rfl ?_
      refine x_get f_M_7 d_M_change_16 (by omega) (by first | assumption | exact vu_s | exact vu_t (by omega) (by first | assumption | exact vu_s | exact vu_t (by omega) (by first | assumption | exact vu_s | exact vu_t (by omega) (by first | assumption | exact vu_s))) | rfl | (simp only [va_up, Nat.reduceEqDiff, ↓reduceIte]; first | rfl | assumption)) rfl ?_
      refine x_iload d_M_change_19 rfl ?_
      refine x_iald d_M_change_21 (by omega) (by first | assumption | exact vu_s | exact vu_t (by omega) (by first | assumption | exact vu_s | exact vu_t (by omega) (by first | assumption | exact vu_s | exact vu_t (by omega) (by first | assumption | exact vu_s))) | rfl | (simp only [va_up, Nat.reduceEqDiff, ↓reduceIte]; first | rfl | assumption)) (by assumption) ?_
      refine x_i2l d_M_change_22 ?_
      refine x_iload d_M_change_23 rfl ?_
      refine x_i2l d_M_change_25 ?_
      refine x_ladd d_M_change_26 ?_
      refine x_lstore d_M_change_27 (by decide) rfl ?_
      refine x_lload d_M_change_29 rfl ?_
      refine x_ldc2 l_M_146 d_M_change_31 ?_
      refine x_lcmp d_M_change_34 ?_
      refine x_if_gt 47 d_M_change_35 (by decide) (fun c2 => ?_) (fun c2 => ?_)
      · refine x_iconst (v := -1) d_M_change_47 (by decide) ?_
        refine x_iret d_M_change_48 ?_
        have e2 : outOf (f (plOf r x y).toNatClampNeg) b = true := by simp [outOf, (lg_gt0 _ _).mp c2]
        rw [if_neg (fun z => by rw [e2] at z; exact absurd z.2 (by decide))]
        exact ⟨rfl, rfl⟩
      · refine x_lload d_M_change_38 rfl ?_
        refine x_ldc2 l_M_148 d_M_change_40 ?_
        refine x_lcmp d_M_change_43 ?_
        refine x_if_ge 49 d_M_change_44 (by decide) (fun c3 => ?_) (fun c3 => ?_)
        · have e2 : outOf (f (plOf r x y).toNatClampNeg) b = false := by
            have c1' := fun q => c2 ((lg_gt0 _ _).mpr q)
            have c2' : ¬ ((f (plOf r x y).toNatClampNeg).toInt64 + b.toInt64 < -100) := fun q => Int32.not_le.mpr ((lg_lt0 _ _).mpr q) c3
            simp [outOf, Int64.not_lt.mp c1', Int64.not_lt.mp c2']
          refine x_aload_n d_M_change_49 rfl ?_
          refine x_get f_M_7 d_M_change_50 (by omega) (by first | assumption | exact vu_s | exact vu_t (by omega) (by first | assumption | exact vu_s | exact vu_t (by omega) (by first | assumption | exact vu_s | exact vu_t (by omega) (by first | assumption | exact vu_s))) | rfl | (simp only [va_up, Nat.reduceEqDiff, ↓reduceIte]; first | rfl | assumption)) rfl ?_
          refine x_iload d_M_change_53 rfl ?_
          refine x_dup2 d_M_change_55 rfl rfl ?_
          refine x_iald d_M_change_56 (by omega) (by first | assumption | exact vu_s | exact vu_t (by omega) (by first | assumption | exact vu_s | exact vu_t (by omega) (by first | assumption | exact vu_s | exact vu_t (by omega) (by first | assumption | exact vu_s))) | rfl | (simp only [va_up, Nat.reduceEqDiff, ↓reduceIte]; first | rfl | assumption)) (by assumption) ?_
          refine x_iload d_M_change_57 rfl ?_
          refine x_iadd d_M_change_59 ?_
          refine x_iast d_M_change_60 (by omega) (by first | assumption | exact vu_s | exact vu_t (by omega) (by first | assumption | exact vu_s | exact vu_t (by omega) (by first | assumption | exact vu_s | exact vu_t (by omega) (by first | assumption | exact vu_s))) | rfl | (simp only [va_up, Nat.reduceEqDiff, ↓reduceIte]; first | rfl | assumption)) (by assumption) ?_
          refine x_aload_n d_M_change_61 rfl ?_
          refine x_get f_M_13 d_M_change_62 (by omega) (by first | assumption | exact vu_s | exact vu_t (by omega) (by first | assumption | exact vu_s | exact vu_t (by omega) (by first | assumption | exact vu_s | exact vu_t (by omega) (by first | assumption | exact vu_s))) | rfl | (simp only [va_up, Nat.reduceEqDiff, ↓reduceIte]; first | rfl | assumption)) rfl ?_
          refine x_aload_n d_M_change_65 rfl ?_
          refine x_get f_M_150 d_M_change_66 (by omega) (by first | assumption | exact vu_s | exact vu_t (by omega) (by first | assumption | exact vu_s | exact vu_t (by omega) (by first | assumption | exact vu_s | exact vu_t (by omega) (by first | assumption | exact vu_s))) | rfl | (simp only [va_up, Nat.reduceEqDiff, ↓reduceIte]; first | rfl | assumption)) rfl ?_
          refine x_iload d_M_change_69 rfl ?_
          refine x_iast d_M_change_71 (by omega) (by first | assumption | exact vu_s | exact vu_t (by omega) (by first | assumption | exact vu_s | exact vu_t (by omega) (by first | assumption | exact vu_s | exact vu_t (by omega) (by first | assumption | exact vu_s))) | rfl | (simp only [va_up, Nat.reduceEqDiff, ↓reduceIte]; first | rfl | assumption)) (by assumption) ?_
          refine x_aload_n d_M_change_72 rfl ?_
          refine x_get f_M_16 d_M_change_73 (by omega) (by first | assumption | exact vu_s | exact vu_t (by omega) (by first | assumption | exact vu_s | exact vu_t (by omega) (by first | assumption | exact vu_s | exact vu_t (by omega) (by first | assumption | exact vu_s))) | rfl | (simp only [va_up, Nat.reduceEqDiff, ↓reduceIte]; first | rfl | assumption)) rfl ?_
          refine x_aload_n d_M_change_76 rfl ?_
          refine x_get f_M_150 d_M_change_77 (by omega) (by first | assumption | exact vu_s | exact vu_t (by omega) (by first | assumption | exact vu_s | exact vu_t (by omega) (by first | assumption | exact vu_s | exact vu_t (by omega) (by first | assumption | exact vu_s))) | rfl | (simp only [va_up, Nat.reduceEqDiff, ↓reduceIte]; first | rfl | assumption)) rfl ?_
          refine x_iload d_M_change_80 rfl ?_
          refine x_iast d_M_change_82 (by omega) (by first | assumption | exact vu_s | exact vu_t (by omega) (by first | assumption | exact vu_s | exact vu_t (by omega) (by first | assumption | exact vu_s | exact vu_t (by omega) (by first | assumption | exact vu_s))) | rfl | (simp only [va_up, Nat.reduceEqDiff, ↓reduceIte]; first | rfl | assumption)) (by assumption) ?_
          refine x_aload_n d_M_change_83 rfl ?_
          refine x_dup d_M_change_84 rfl ?_
          refine x_get f_M_150 d_M_change_85 (by omega) (by first | assumption | exact vu_s | exact vu_t (by omega) (by first | assumption | exact vu_s | exact vu_t (by omega) (by first | assumption | exact vu_s | exact vu_t (by omega) (by first | assumption | exact vu_s))) | rfl | (simp only [va_up, Nat.reduceEqDiff, ↓reduceIte]; first | rfl | assumption)) rfl ?_
          refine x_iconst (v := 1) d_M_change_88 (by decide) ?_
          refine x_iadd d_M_change_89 ?_
          refine x_put f_M_150 d_M_change_90 (by omega) (by first | assumption | exact vu_s | exact vu_t (by omega) (by first | assumption | exact vu_s | exact vu_t (by omega) (by first | assumption | exact vu_s | exact vu_t (by omega) (by first | assumption | exact vu_s))) | rfl | (simp only [va_up, Nat.reduceEqDiff, ↓reduceIte]; first | rfl | assumption)) (Nat.le_of_ble_eq_true rfl) (fun _ => ⟨rfl, rfl⟩) ?_
          refine x_iconst (v := 0) d_M_change_93 (by decide) ?_
          refine x_iret d_M_change_94 ?_
          rw [if_pos ⟨rfl, e2⟩]
          refine ⟨rfl, ?_⟩
          rw [nI_clamp (show n < 2 ^ 31 by omega), ← nI_1]
          rfl
        · have e2 : outOf (f (plOf r x y).toNatClampNeg) b = true := by simp [outOf, (lg_lt0 _ _).mp (Int32.not_le.mp c3)]
          refine x_iconst (v := -1) d_M_change_47 (by decide) ?_
          refine x_iret d_M_change_48 ?_
          rw [if_neg (fun z => by rw [e2] at z; exact absurd z.2 (by decide))]
          exact ⟨rfl, rfl⟩
    · exact absurd (Int32.not_lt.mp (plOf_pos e)) c1
  · have e' : rowOK r x y = false := by simpa using e
    rw [e', if_neg (by decide)]
    refine x_if_ge 15 d_M_change_10 (by decide) (fun c1 => ?_) (fun c1 => ?_)
    · exact absurd c1 (by decide)
    · refine x_iconst (v := -1) d_M_change_13 (by decide) ?_
      refine x_iret d_M_change_14 ?_
      rw [if_neg (fun z => absurd z.1 (by decide))]
      exact ⟨rfl, rfl⟩
set_option maxRecDepth 100000 in
set_option maxHeartbeats 4000000 in
theorem c_M_back {N : Nat} {h : xHp} {ln ca cd gp lg : Int32} {n : Nat} {f pl bs tf : Nat → Int32} (hN : 116 ≤ N) (hn : n ≤ 512) (h1 : h 94 = oM (nI n) ln ca cd gp lg) (h2 : iM4 f pl bs tf h) (hp : ∀ j, j < n → vp_in (pl j) 108) : XM y_M_back b_M_back 1 (some .int) 0 0 0 [.ref 94] N h (fun v h' => if n = 0 then v = some (.int (-1)) ∧ h' = h else v = some (.int (nI (n - 1))) ∧ h' = va_up (va_up h 94 (oM (nI (n - 1)) ln ca cd gp lg)) 95 (aI 108 (upd f (pl (n - 1)).toNatClampNeg (f (pl (n - 1)).toNatClampNeg - bs (n - 1))))) := by
  obtain ⟨k1, k2, k3, k4⟩ := h2
  refine xM_intro [some (.ref 94)] (by decide) (fun _ => rfl) (fun _ => Nat.le_of_ble_eq_true rfl) (fun Γ => ?_)
  refine x_aload_n d_M_back_0 rfl ?_
  refine x_get f_M_150 d_M_back_1 (by omega) (by first | assumption | exact vu_s | exact vu_t (by omega) (by first | assumption | exact vu_s | exact vu_t (by omega) (by first | assumption | exact vu_s | exact vu_t (by omega) (by first | assumption | exact vu_s))) | rfl | (simp only [va_up, Nat.reduceEqDiff, ↓reduceIte]; first | rfl | assumption)) rfl ?_
  refine x_if_ne 9 d_M_back_4 (by decide) (fun c1 => ?_) (fun c1 => ?_)
  · have h0 : 0 < n := by
      rcases Nat.eq_zero_or_pos n with q | q
      · subst q
        exact absurd rfl c1
      · exact q
    obtain ⟨k, rfl⟩ : ∃ k, n = k + 1 := ⟨n - 1, by omega⟩
    have e1 : nI (k + 1) - 1 = nI k := nI_pred k
    have hi : vp_in (nI k) 520 := vp_in_nI (by omega) (by decide)
    have hc : (nI k).toNatClampNeg = k := nI_clamp (by omega)
    have hi2 : vp_in (pl (nI k).toNatClampNeg) 108 := by rw [hc]; exact hp k (by omega)
    refine x_aload_n d_M_back_9 rfl ?_
    refine x_dup d_M_back_10 rfl ?_
    refine x_get f_M_150 d_M_back_11 (by omega) (by first | assumption | exact vu_s | exact vu_t (by omega) (by first | assumption | exact vu_s | exact vu_t (by omega) (by first | assumption | exact vu_s | exact vu_t (by omega) (by first | assumption | exact vu_s))) | rfl | (simp only [va_up, Nat.reduceEqDiff, ↓reduceIte]; first | rfl | assumption)) rfl ?_
    refine x_iconst (v := 1) d_M_back_14 (by decide) ?_
    refine x_isub d_M_back_15 ?_
    rw [e1]
    refine x_put f_M_150 d_M_back_16 (by omega) (by first | assumption | exact vu_s | exact vu_t (by omega) (by first | assumption | exact vu_s | exact vu_t (by omega) (by first | assumption | exact vu_s | exact vu_t (by omega) (by first | assumption | exact vu_s))) | rfl | (simp only [va_up, Nat.reduceEqDiff, ↓reduceIte]; first | rfl | assumption)) (Nat.le_of_ble_eq_true rfl) (fun _ => ⟨rfl, rfl⟩) ?_
    refine x_aload_n d_M_back_19 rfl ?_
    refine x_get f_M_7 d_M_back_20 (by omega) (by first | assumption | exact vu_s | exact vu_t (by omega) (by first | assumption | exact vu_s | exact vu_t (by omega) (by first | assumption | exact vu_s | exact vu_t (by omega) (by first | assumption | exact vu_s))) | rfl | (simp only [va_up, Nat.reduceEqDiff, ↓reduceIte]; first | rfl | assumption)) rfl ?_
    refine x_aload_n d_M_back_23 rfl ?_
    refine x_get f_M_13 d_M_back_24 (by omega) (by first | assumption | exact vu_s | exact vu_t (by omega) (by first | assumption | exact vu_s | exact vu_t (by omega) (by first | assumption | exact vu_s | exact vu_t (by omega) (by first | assumption | exact vu_s))) | rfl | (simp only [va_up, Nat.reduceEqDiff, ↓reduceIte]; first | rfl | assumption)) rfl ?_
    refine x_aload_n d_M_back_27 rfl ?_
    refine x_get f_M_150 d_M_back_28 (by omega) (by first | assumption | exact vu_s | exact vu_t (by omega) (by first | assumption | exact vu_s | exact vu_t (by omega) (by first | assumption | exact vu_s | exact vu_t (by omega) (by first | assumption | exact vu_s))) | rfl | (simp only [va_up, Nat.reduceEqDiff, ↓reduceIte]; first | rfl | assumption)) rfl ?_
    refine x_iald d_M_back_31 (by omega) (by first | assumption | exact vu_s | exact vu_t (by omega) (by first | assumption | exact vu_s | exact vu_t (by omega) (by first | assumption | exact vu_s | exact vu_t (by omega) (by first | assumption | exact vu_s))) | rfl | (simp only [va_up, Nat.reduceEqDiff, ↓reduceIte]; first | rfl | assumption)) (by assumption) ?_
    refine x_dup2 d_M_back_32 rfl rfl ?_
    refine x_iald d_M_back_33 (by omega) (by first | assumption | exact vu_s | exact vu_t (by omega) (by first | assumption | exact vu_s | exact vu_t (by omega) (by first | assumption | exact vu_s | exact vu_t (by omega) (by first | assumption | exact vu_s))) | rfl | (simp only [va_up, Nat.reduceEqDiff, ↓reduceIte]; first | rfl | assumption)) (by assumption) ?_
    refine x_aload_n d_M_back_34 rfl ?_
    refine x_get f_M_16 d_M_back_35 (by omega) (by first | assumption | exact vu_s | exact vu_t (by omega) (by first | assumption | exact vu_s | exact vu_t (by omega) (by first | assumption | exact vu_s | exact vu_t (by omega) (by first | assumption | exact vu_s))) | rfl | (simp only [va_up, Nat.reduceEqDiff, ↓reduceIte]; first | rfl | assumption)) rfl ?_
    refine x_aload_n d_M_back_38 rfl ?_
    refine x_get f_M_150 d_M_back_39 (by omega) (by first | assumption | exact vu_s | exact vu_t (by omega) (by first | assumption | exact vu_s | exact vu_t (by omega) (by first | assumption | exact vu_s | exact vu_t (by omega) (by first | assumption | exact vu_s))) | rfl | (simp only [va_up, Nat.reduceEqDiff, ↓reduceIte]; first | rfl | assumption)) rfl ?_
    refine x_iald d_M_back_42 (by omega) (by first | assumption | exact vu_s | exact vu_t (by omega) (by first | assumption | exact vu_s | exact vu_t (by omega) (by first | assumption | exact vu_s | exact vu_t (by omega) (by first | assumption | exact vu_s))) | rfl | (simp only [va_up, Nat.reduceEqDiff, ↓reduceIte]; first | rfl | assumption)) (by assumption) ?_
    refine x_isub d_M_back_43 ?_
    refine x_iast d_M_back_44 (by omega) (by first | assumption | exact vu_s | exact vu_t (by omega) (by first | assumption | exact vu_s | exact vu_t (by omega) (by first | assumption | exact vu_s | exact vu_t (by omega) (by first | assumption | exact vu_s))) | rfl | (simp only [va_up, Nat.reduceEqDiff, ↓reduceIte]; first | rfl | assumption)) (by assumption) ?_
    refine x_aload_n d_M_back_45 rfl ?_
    refine x_get f_M_150 d_M_back_46 (by omega) (by first | assumption | exact vu_s | exact vu_t (by omega) (by first | assumption | exact vu_s | exact vu_t (by omega) (by first | assumption | exact vu_s | exact vu_t (by omega) (by first | assumption | exact vu_s))) | rfl | (simp only [va_up, Nat.reduceEqDiff, ↓reduceIte]; first | rfl | assumption)) rfl ?_
    refine x_iret d_M_back_49 ?_
    rw [if_neg (by omega)]
    refine ⟨rfl, ?_⟩
    rw [hc]
    rfl
  · have h0 : n = 0 := by
      rcases Nat.eq_zero_or_pos n with q | q
      · exact q
      · exact absurd c1 (nI_ne0 q (by omega))
    refine x_iconst (v := -1) d_M_back_7 (by decide) ?_
    refine x_iret d_M_back_8 ?_
    rw [if_pos h0]
    exact ⟨rfl, rfl⟩
set_option maxRecDepth 100000 in
set_option maxHeartbeats 4000000 in
theorem c_M_sign {N : Nat} {h : xHp} {ch ca cd gp lg : Int32} {n : Nat} {f : Nat → Int32} (c : Int32) (hN : 116 ≤ N) (hn : n ≤ 30) (h1 : h 94 = oM ch (nI n) ca cd gp lg) (h2 : h 98 = aI 30 f) : XM y_M_sign b_M_sign 2 (some .int) 0 0 0 [.ref 94, .int c] N h (fun v h' => if 33 ≤ c ∧ c ≤ 126 ∧ n < 30 then v = some (.int (nI (n + 1))) ∧ h' = va_up (va_up h 98 (aI 30 (upd f n c))) 94 (oM ch (nI (n + 1)) ca cd gp lg) else v = some (.int (-1)) ∧ h' = h) := by
  refine xM_intro [some (.ref 94), some (.int c)] (by decide) (fun _ => rfl) (fun _ => Nat.le_of_ble_eq_true rfl) (fun Γ => ?_)
  refine x_iload_n d_M_sign_0 rfl ?_
  refine x_bipush (v := 33) d_M_sign_1 (by decide) ?_
  refine x_icmp_lt 21 d_M_sign_3 (by decide) (fun c1 => ?_) (fun c1 => ?_)
  · refine x_iconst (v := -1) d_M_sign_21 (by decide) ?_
    refine x_iret d_M_sign_22 ?_
    rw [if_neg (fun z => Int32.not_le.mpr c1 z.1)]
    exact ⟨rfl, rfl⟩
  · refine x_iload_n d_M_sign_6 rfl ?_
    refine x_bipush (v := 126) d_M_sign_7 (by decide) ?_
    refine x_icmp_gt 21 d_M_sign_9 (by decide) (fun c2 => ?_) (fun c2 => ?_)
    · refine x_iconst (v := -1) d_M_sign_21 (by decide) ?_
      refine x_iret d_M_sign_22 ?_
      rw [if_neg (fun z => Int32.not_le.mpr c2 z.2.1)]
      exact ⟨rfl, rfl⟩
    · refine x_aload_n d_M_sign_12 rfl ?_
      refine x_get f_M_82 d_M_sign_13 (by omega) (by first | assumption | exact vu_s | exact vu_t (by omega) (by first | assumption | exact vu_s | exact vu_t (by omega) (by first | assumption | exact vu_s | exact vu_t (by omega) (by first | assumption | exact vu_s))) | rfl | (simp only [va_up, Nat.reduceEqDiff, ↓reduceIte]; first | rfl | assumption)) rfl ?_
      refine x_bipush (v := 30) d_M_sign_16 (by decide) ?_
      refine x_icmp_ne 23 d_M_sign_18 (by decide) (fun c3 => ?_) (fun c3 => ?_)
      · have e : n < 30 := by
          rcases Nat.lt_or_ge n 30 with q | q
          · exact q
          · exact absurd (by rw [show n = 30 by omega]; rfl) c3
        have hi : vp_in (nI n) 30 := vp_in_nI e (by decide)
        refine x_aload_n d_M_sign_23 rfl ?_
        refine x_get f_M_19 d_M_sign_24 (by omega) (by first | assumption | exact vu_s | exact vu_t (by omega) (by first | assumption | exact vu_s | exact vu_t (by omega) (by first | assumption | exact vu_s | exact vu_t (by omega) (by first | assumption | exact vu_s))) | rfl | (simp only [va_up, Nat.reduceEqDiff, ↓reduceIte]; first | rfl | assumption)) rfl ?_
        refine x_aload_n d_M_sign_27 rfl ?_
        refine x_get f_M_82 d_M_sign_28 (by omega) (by first | assumption | exact vu_s | exact vu_t (by omega) (by first | assumption | exact vu_s | exact vu_t (by omega) (by first | assumption | exact vu_s | exact vu_t (by omega) (by first | assumption | exact vu_s))) | rfl | (simp only [va_up, Nat.reduceEqDiff, ↓reduceIte]; first | rfl | assumption)) rfl ?_
        refine x_iload_n d_M_sign_31 rfl ?_
        refine x_iast d_M_sign_32 (by omega) (by first | assumption | exact vu_s | exact vu_t (by omega) (by first | assumption | exact vu_s | exact vu_t (by omega) (by first | assumption | exact vu_s | exact vu_t (by omega) (by first | assumption | exact vu_s))) | rfl | (simp only [va_up, Nat.reduceEqDiff, ↓reduceIte]; first | rfl | assumption)) (by assumption) ?_
        refine x_aload_n d_M_sign_33 rfl ?_
        refine x_dup d_M_sign_34 rfl ?_
        refine x_get f_M_82 d_M_sign_35 (by omega) (by first | assumption | exact vu_s | exact vu_t (by omega) (by first | assumption | exact vu_s | exact vu_t (by omega) (by first | assumption | exact vu_s | exact vu_t (by omega) (by first | assumption | exact vu_s))) | rfl | (simp only [va_up, Nat.reduceEqDiff, ↓reduceIte]; first | rfl | assumption)) rfl ?_
        refine x_iconst (v := 1) d_M_sign_38 (by decide) ?_
        refine x_iadd d_M_sign_39 ?_
        refine x_put f_M_82 d_M_sign_40 (by omega) (by first | assumption | exact vu_s | exact vu_t (by omega) (by first | assumption | exact vu_s | exact vu_t (by omega) (by first | assumption | exact vu_s | exact vu_t (by omega) (by first | assumption | exact vu_s))) | rfl | (simp only [va_up, Nat.reduceEqDiff, ↓reduceIte]; first | rfl | assumption)) (Nat.le_of_ble_eq_true rfl) (fun _ => ⟨rfl, rfl⟩) ?_
        refine x_aload_n d_M_sign_43 rfl ?_
        refine x_get f_M_82 d_M_sign_44 (by omega) (by first | assumption | exact vu_s | exact vu_t (by omega) (by first | assumption | exact vu_s | exact vu_t (by omega) (by first | assumption | exact vu_s | exact vu_t (by omega) (by first | assumption | exact vu_s))) | rfl | (simp only [va_up, Nat.reduceEqDiff, ↓reduceIte]; first | rfl | assumption)) rfl ?_
        refine x_iret d_M_sign_47 ?_
        rw [if_pos ⟨Int32.not_lt.mp c1, Int32.not_lt.mp c2, e⟩, nI_clamp (show n < 2 ^ 31 by omega), ← nI_1]
        exact ⟨rfl, rfl⟩
      · have e : n = 30 := (nI_eq (by omega) (by decide)).mp c3
        refine x_iconst (v := -1) d_M_sign_21 (by decide) ?_
        refine x_iret d_M_sign_22 ?_
        rw [if_neg (fun z => by omega)]
        exact ⟨rfl, rfl⟩
set_option maxRecDepth 100000 in
set_option maxHeartbeats 4000000 in
theorem c_M_clear {N : Nat} {h : xHp} {ch ln ca cd gp lg : Int32} (hN : 116 ≤ N) (h1 : h 94 = oM ch ln ca cd gp lg) : XM y_M_clear b_M_clear 1 (some .int) 0 0 0 [.ref 94] N h (xR (some (.int 0)) (va_up h 94 (oM ch 0 ca cd gp lg))) := by
  refine xM_intro [some (.ref 94)] (by decide) (fun _ => rfl) (fun _ => Nat.le_of_ble_eq_true rfl) (fun Γ => ?_)
  refine x_aload_n d_M_clear_0 rfl ?_
  refine x_iconst (v := 0) d_M_clear_1 (by decide) ?_
  refine x_put f_M_82 d_M_clear_2 (by omega) (by first | assumption | exact vu_s | exact vu_t (by omega) (by first | assumption | exact vu_s | exact vu_t (by omega) (by first | assumption | exact vu_s | exact vu_t (by omega) (by first | assumption | exact vu_s))) | rfl | (simp only [va_up, Nat.reduceEqDiff, ↓reduceIte]; first | rfl | assumption)) (Nat.le_of_ble_eq_true rfl) (fun _ => ⟨rfl, rfl⟩) ?_
  refine x_iconst (v := 0) d_M_clear_5 (by decide) ?_
  refine x_iret d_M_clear_6 ?_
  exact ⟨rfl, rfl⟩
