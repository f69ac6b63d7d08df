/-! Rows: object 1, counts 2, changedPlaces 3, changedBy 4. -/
def oR (n : Int32) : xE := .inr (1, [.ref 2, .ref 3, .ref 4, .int n])
abbrev aI (n : Nat) (f : Nat → Int32) : xE := .inl (0, n, .inl f)
/-- would the count leave -100 .. 100 -/
def outOf (v b : Int32) : Bool := decide ((100 : Int64) < v.toInt64 + b.toInt64) || decide (v.toInt64 + b.toInt64 < (-100 : Int64))
theorem ri_64 (v b : Int32) : (v.toInt64 + b.toInt64).toInt32 = v + b := by
  apply Int32.toBitVec_inj.mp
  simp [Int64.toBitVec_toInt32, Int64.toBitVec_add, Int32.toBitVec_add, Int32.toBitVec_toInt64]
theorem lg_gt0 (x y : Int64) : (0 < lg_cmp x y) ↔ y < x := by
  unfold lg_cmp
  simp only [gt_iff_lt, Int64.lt_iff_toInt_lt, ← Int64.toInt_inj]
  repeat' split
  all_goals (constructor <;> intro hh <;> first | omega | decide | exact absurd hh (by decide))
theorem lg_lt0 (x y : Int64) : (lg_cmp x y < 0) ↔ x < y := by
  unfold lg_cmp
  simp only [gt_iff_lt, Int64.lt_iff_toInt_lt, ← Int64.toInt_inj]
  repeat' split
  all_goals (constructor <;> intro hh <;> first | omega | decide | exact absurd hh (by decide))
def plOf (r x y : Int32) : Int32 := (r * 6 + x) * 6 + y
set_option maxRecDepth 100000 in
set_option maxHeartbeats 4000000 in
theorem c_R_placeOf {N : Nat} {h : xHp} (r x y : Int32) : XM y_R_placeOf b_R_placeOf 3 (some .int) 0 0 0 [.int r, .int x, .int y] N h (xR (some (.int (plOf r x y))) h) := by
  refine xM_intro [some (.int r), some (.int x), some (.int y)] (by decide) (fun _ => rfl) (fun _ => Nat.le_of_ble_eq_true rfl) (fun Γ => ?_)
  refine x_iload_n d_R_placeOf_0 rfl ?_
  refine x_bipush (v := 6) d_R_placeOf_1 (by decide) ?_
  refine x_imul d_R_placeOf_3 ?_
  refine x_iload_n d_R_placeOf_4 rfl ?_
  refine x_iadd d_R_placeOf_5 ?_
  refine x_bipush (v := 6) d_R_placeOf_6 (by decide) ?_
  refine x_imul d_R_placeOf_8 ?_
  refine x_iload_n d_R_placeOf_9 rfl ?_
  refine x_iadd d_R_placeOf_10 ?_
  refine x_iret d_R_placeOf_11 ?_
  exact ⟨rfl, rfl⟩
set_option maxRecDepth 100000 in
set_option maxHeartbeats 4000000 in
theorem c_R_at {N : Nat} {h : xHp} {n : Int32} {f : Nat → Int32} {p : Int32} (hN : 94 ≤ N) (h1 : h 1 = oR n) (h2 : h 2 = aI 108 f) (hp : vp_in p 108) : XM y_R_at b_R_at 2 (some .int) 0 0 0 [.ref 1, .int p] N h (xR (some (.int (f p.toNatClampNeg))) h) := by
  unfold oR at h1
  refine xM_intro [some (.ref 1), some (.int p)] (by decide) (fun _ => rfl) (fun _ => Nat.le_of_ble_eq_true rfl) (fun Γ => ?_)
  refine x_aload_n d_R_at_0 rfl ?_
  refine x_get f_R_9 d_R_at_1 (by omega) (by first | rfl | assumption | (simp only [va_up, Nat.reduceEqDiff, ↓reduceIte]; first | rfl | assumption) | (simp [va_up, *]; done)) rfl ?_
  refine x_iload_n d_R_at_4 rfl ?_
  refine x_iald d_R_at_5 (by omega) (by first | rfl | assumption | (simp only [va_up, Nat.reduceEqDiff, ↓reduceIte]; first | rfl | assumption) | (simp [va_up, *]; done)) (by assumption) ?_
  refine x_iret d_R_at_6 ?_
  exact ⟨rfl, rfl⟩
set_option maxRecDepth 100000 in
set_option maxHeartbeats 4000000 in
theorem c_R_changesLeft {N : Nat} {h : xHp} {n : Int32} (hN : 94 ≤ N) (h1 : h 1 = oR n) : XM y_R_changesLeft b_R_changesLeft 1 (some .int) 0 0 0 [.ref 1] N h (xR (some (.int n)) h) := by
  unfold oR at h1
  refine xM_intro [some (.ref 1)] (by decide) (fun _ => rfl) (fun _ => Nat.le_of_ble_eq_true rfl) (fun Γ => ?_)
  refine x_aload_n d_R_changesLeft_0 rfl ?_
  refine x_get f_R_25 d_R_changesLeft_1 (by omega) (by first | rfl | assumption | (simp only [va_up, Nat.reduceEqDiff, ↓reduceIte]; first | rfl | assumption) | (simp [va_up, *]; done)) rfl ?_
  refine x_iret d_R_changesLeft_4 ?_
  exact ⟨rfl, rfl⟩
set_option maxRecDepth 100000 in
set_option maxHeartbeats 4000000 in
theorem c_R_raise {N : Nat} {h : xHp} {n : Nat} {f pl bs : Nat → Int32} {p b : Int32} (hN : 94 ≤ N) (hn : n < 512) (h1 : h 1 = oR (nI n)) (h2 : h 2 = aI 108 f) (h3 : h 3 = aI 512 pl) (h4 : h 4 = aI 512 bs) (hp : vp_in p 108) : XM y_R_raise b_R_raise 5 (some .boolean) 0 0 0 [.ref 1, .int p, .int b] N h (fun r h' => if outOf (f p.toNatClampNeg) b = true then r = some (.int 0) ∧ h' = h else r = some (.int 1) ∧ h' = va_up (va_up (va_up (va_up h 2 (aI 108 (upd f p.toNatClampNeg (f p.toNatClampNeg + b)))) 3 (aI 512 (upd pl n p))) 4 (aI 512 (upd bs n b))) 1 (oR (nI (n + 1)))) := by
  unfold oR at h1
  have hi : vp_in (nI n) 512 := vp_in_nI hn (by decide)
  refine xM_intro [some (.ref 1), some (.int p), some (.int b), none, none] (by decide) (fun _ => rfl) (fun _ => Nat.le_of_ble_eq_true rfl) (fun Γ => ?_)
  refine x_aload_n d_R_raise_0 rfl ?_
  refine x_get f_R_9 d_R_raise_1 (by omega) (by first | rfl | assumption | (simp only [va_up, Nat.reduceEqDiff, ↓reduceIte]; first | rfl | assumption) | (simp [va_up, *]; done)) rfl ?_
  refine x_iload_n d_R_raise_4 rfl ?_
  refine x_iald d_R_raise_5 (by omega) (by first | rfl | assumption | (simp only [va_up, Nat.reduceEqDiff, ↓reduceIte]; first | rfl | assumption) | (simp [va_up, *]; done)) (by assumption) ?_
  refine x_i2l d_R_raise_6 ?_
  refine x_iload_n d_R_raise_7 rfl ?_
  refine x_i2l d_R_raise_8 ?_
  refine x_ladd d_R_raise_9 ?_
  refine x_lstore_n d_R_raise_10 (by decide) rfl ?_
  refine x_lload_n d_R_raise_11 rfl ?_
  refine x_ldc2 l_R_21 d_R_raise_12 ?_
  refine x_lcmp d_R_raise_15 ?_
  refine x_if_gt 37 d_R_raise_16 (by decide) (fun c1 => ?_) (fun c1 => ?_)
  · refine x_iconst (v := 0) d_R_raise_37 (by decide) ?_
    refine x_zret d_R_raise_38 (by first | rfl | assumption) ?_
    have e : outOf (f p.toNatClampNeg) b = true := by simp [outOf, (lg_gt0 _ _).mp c1]
    rw [if_pos e]
    exact ⟨rfl, rfl⟩
  · refine x_lload_n d_R_raise_19 rfl ?_
    refine x_ldc2 l_R_23 d_R_raise_20 ?_
    refine x_lcmp d_R_raise_23 ?_
    refine x_if_lt 37 d_R_raise_24 (by decide) (fun c2 => ?_) (fun c2 => ?_)
    · refine x_iconst (v := 0) d_R_raise_37 (by decide) ?_
      refine x_zret d_R_raise_38 (by first | rfl | assumption) ?_
      have e : outOf (f p.toNatClampNeg) b = true := by simp [outOf, (lg_lt0 _ _).mp c2]
      rw [if_pos e]
      exact ⟨rfl, rfl⟩
    · have e : ¬ outOf (f p.toNatClampNeg) b = true := by
        have c1' := fun q => c1 ((lg_gt0 _ _).mpr q)
        have c2' := fun q => c2 ((lg_lt0 _ _).mpr q)
        simp [outOf, Int64.not_lt.mp c1', Int64.not_lt.mp c2']
      refine x_aload_n d_R_raise_27 rfl ?_
      refine x_get f_R_25 d_R_raise_28 (by omega) (by first | rfl | assumption | (simp only [va_up, Nat.reduceEqDiff, ↓reduceIte]; first | rfl | assumption) | (simp [va_up, *]; done)) rfl ?_
      refine x_sipush (v := 512) d_R_raise_31 (by decide) ?_
      refine x_icmp_lt 39 d_R_raise_34 (by decide) (fun c3 => ?_) (fun c3 => ?_)
      · refine x_aload_n d_R_raise_39 rfl ?_
        refine x_get f_R_9 d_R_raise_40 (by omega) (by first | rfl | assumption | (simp only [va_up, Nat.reduceEqDiff, ↓reduceIte]; first | rfl | assumption) | (simp [va_up, *]; done)) rfl ?_
        refine x_iload_n d_R_raise_43 rfl ?_
        refine x_lload_n d_R_raise_44 rfl ?_
        refine x_l2i d_R_raise_45 ?_
        refine x_iast d_R_raise_46 (by omega) (by first | rfl | assumption | (simp only [va_up, Nat.reduceEqDiff, ↓reduceIte]; first | rfl | assumption) | (simp [va_up, *]; done)) (by assumption) ?_
        refine x_aload_n d_R_raise_47 rfl ?_
        refine x_get f_R_15 d_R_raise_48 (by omega) (by first | rfl | assumption | (simp only [va_up, Nat.reduceEqDiff, ↓reduceIte]; first | rfl | assumption) | (simp [va_up, *]; done)) rfl ?_
        refine x_aload_n d_R_raise_51 rfl ?_
        refine x_get f_R_25 d_R_raise_52 (by omega) (by first | rfl | assumption | (simp only [va_up, Nat.reduceEqDiff, ↓reduceIte]; first | rfl | assumption) | (simp [va_up, *]; done)) rfl ?_
        refine x_iload_n d_R_raise_55 rfl ?_
        refine x_iast d_R_raise_56 (by omega) (by first | rfl | assumption | (simp only [va_up, Nat.reduceEqDiff, ↓reduceIte]; first | rfl | assumption) | (simp [va_up, *]; done)) (by assumption) ?_
        refine x_aload_n d_R_raise_57 rfl ?_
        refine x_get f_R_18 d_R_raise_58 (by omega) (by first | rfl | assumption | (simp only [va_up, Nat.reduceEqDiff, ↓reduceIte]; first | rfl | assumption) | (simp [va_up, *]; done)) rfl ?_
        refine x_aload_n d_R_raise_61 rfl ?_
        refine x_get f_R_25 d_R_raise_62 (by omega) (by first | rfl | assumption | (simp only [va_up, Nat.reduceEqDiff, ↓reduceIte]; first | rfl | assumption) | (simp [va_up, *]; done)) rfl ?_
        refine x_iload_n d_R_raise_65 rfl ?_
        refine x_iast d_R_raise_66 (by omega) (by first | rfl | assumption | (simp only [va_up, Nat.reduceEqDiff, ↓reduceIte]; first | rfl | assumption) | (simp [va_up, *]; done)) (by assumption) ?_
        refine x_aload_n d_R_raise_67 rfl ?_
        refine x_dup d_R_raise_68 rfl ?_
        refine x_get f_R_25 d_R_raise_69 (by omega) (by first | rfl | assumption | (simp only [va_up, Nat.reduceEqDiff, ↓reduceIte]; first | rfl | assumption) | (simp [va_up, *]; done)) rfl ?_
        refine x_iconst (v := 1) d_R_raise_72 (by decide) ?_
        refine x_iadd d_R_raise_73 ?_
        refine x_put f_R_25 d_R_raise_74 (by omega) (by first | rfl | assumption | (simp only [va_up, Nat.reduceEqDiff, ↓reduceIte]; first | rfl | assumption) | (simp [va_up, *]; done)) (Nat.le_of_ble_eq_true rfl) (fun _ => ⟨rfl, rfl⟩) ?_
        refine x_iconst (v := 1) d_R_raise_77 (by decide) ?_
        refine x_zret d_R_raise_78 (by first | rfl | assumption) ?_
        rw [if_neg e]
        refine ⟨rfl, ?_⟩
        rw [ri_64, nI_clamp (show n < 2 ^ 31 by omega), ← nI_1]
        rfl
      · exact absurd ((nI_ltI (by omega) (by decide)).mpr hn) c3
set_option maxRecDepth 100000 in
set_option maxHeartbeats 4000000 in
theorem c_R_takeBack {N : Nat} {h : xHp} {n : Nat} {f pl bs : Nat → Int32} (hN : 94 ≤ N) (hn : n ≤ 512) (h1 : h 1 = oR (nI n)) (h2 : h 2 = aI 108 f) (h3 : h 3 = aI 512 pl) (h4 : h 4 = aI 512 bs) (hp : ∀ j, j < n → vp_in (pl j) 108) : XM y_R_takeBack b_R_takeBack 1 (some .boolean) 0 0 0 [.ref 1] N h (fun r h' => if n = 0 then r = some (.int 0) ∧ h' = h else r = some (.int 1) ∧ h' = va_up (va_up h 1 (oR (nI (n - 1)))) 2 (aI 108 (upd f (pl (n - 1)).toNatClampNeg (f (pl (n - 1)).toNatClampNeg - bs (n - 1))))) := by
  unfold oR at h1
  refine xM_intro [some (.ref 1)] (by decide) (fun _ => rfl) (fun _ => Nat.le_of_ble_eq_true rfl) (fun Γ => ?_)
  refine x_aload_n d_R_takeBack_0 rfl ?_
  refine x_get f_R_25 d_R_takeBack_1 (by omega) (by first | rfl | assumption | (simp only [va_up, Nat.reduceEqDiff, ↓reduceIte]; first | rfl | assumption) | (simp [va_up, *]; done)) rfl ?_
  refine x_if_gt 9 d_R_takeBack_4 (by decide) (fun c1 => ?_) (fun c1 => ?_)
  · have h0 : 0 < n := by
      rcases Nat.eq_zero_or_pos n with q | q
      · subst q
        exact absurd c1 (by decide)
      · exact q
    obtain ⟨k, rfl⟩ : ∃ k, n = k + 1 := ⟨n - 1, by omega⟩
    have e1 : nI (k + 1) - 1 = nI k := nI_pred k
    have hi : vp_in (nI k) 512 := vp_in_nI (by omega) (by decide)
    have hc : (nI k).toNatClampNeg = k := nI_clamp (by omega)
    have hi2 : vp_in (pl (nI k).toNatClampNeg) 108 := by rw [hc]; exact hp k (by omega)
    refine x_aload_n d_R_takeBack_9 rfl ?_
    refine x_dup d_R_takeBack_10 rfl ?_
    refine x_get f_R_25 d_R_takeBack_11 (by omega) (by first | rfl | assumption | (simp only [va_up, Nat.reduceEqDiff, ↓reduceIte]; first | rfl | assumption) | (simp [va_up, *]; done)) rfl ?_
    refine x_iconst (v := 1) d_R_takeBack_14 (by decide) ?_
    refine x_isub d_R_takeBack_15 ?_
    rw [e1]
    refine x_put f_R_25 d_R_takeBack_16 (by omega) (by first | rfl | assumption | (simp only [va_up, Nat.reduceEqDiff, ↓reduceIte]; first | rfl | assumption) | (simp [va_up, *]; done)) (Nat.le_of_ble_eq_true rfl) (fun _ => ⟨rfl, rfl⟩) ?_
    refine x_aload_n d_R_takeBack_19 rfl ?_
    refine x_get f_R_9 d_R_takeBack_20 (by omega) (by first | rfl | assumption | (simp only [va_up, Nat.reduceEqDiff, ↓reduceIte]; first | rfl | assumption) | (simp [va_up, *]; done)) rfl ?_
    refine x_aload_n d_R_takeBack_23 rfl ?_
    refine x_get f_R_15 d_R_takeBack_24 (by omega) (by first | rfl | assumption | (simp only [va_up, Nat.reduceEqDiff, ↓reduceIte]; first | rfl | assumption) | (simp [va_up, *]; done)) rfl ?_
    refine x_aload_n d_R_takeBack_27 rfl ?_
    refine x_get f_R_25 d_R_takeBack_28 (by omega) (by first | rfl | assumption | (simp only [va_up, Nat.reduceEqDiff, ↓reduceIte]; first | rfl | assumption) | (simp [va_up, *]; done)) rfl ?_
    refine x_iald d_R_takeBack_31 (by omega) (by first | rfl | assumption | (simp only [va_up, Nat.reduceEqDiff, ↓reduceIte]; first | rfl | assumption) | (simp [va_up, *]; done)) (by assumption) ?_
    refine x_dup2 d_R_takeBack_32 rfl rfl ?_
    refine x_iald d_R_takeBack_33 (by omega) (by first | rfl | assumption | (simp only [va_up, Nat.reduceEqDiff, ↓reduceIte]; first | rfl | assumption) | (simp [va_up, *]; done)) (by assumption) ?_
    refine x_aload_n d_R_takeBack_34 rfl ?_
    refine x_get f_R_18 d_R_takeBack_35 (by omega) (by first | rfl | assumption | (simp only [va_up, Nat.reduceEqDiff, ↓reduceIte]; first | rfl | assumption) | (simp [va_up, *]; done)) rfl ?_
    refine x_aload_n d_R_takeBack_38 rfl ?_
    refine x_get f_R_25 d_R_takeBack_39 (by omega) (by first | rfl | assumption | (simp only [va_up, Nat.reduceEqDiff, ↓reduceIte]; first | rfl | assumption) | (simp [va_up, *]; done)) rfl ?_
    refine x_iald d_R_takeBack_42 (by omega) (by first | rfl | assumption | (simp only [va_up, Nat.reduceEqDiff, ↓reduceIte]; first | rfl | assumption) | (simp [va_up, *]; done)) (by assumption) ?_
    refine x_isub d_R_takeBack_43 ?_
    refine x_iast d_R_takeBack_44 (by omega) (by first | rfl | assumption | (simp only [va_up, Nat.reduceEqDiff, ↓reduceIte]; first | rfl | assumption) | (simp [va_up, *]; done)) (by assumption) ?_
    refine x_iconst (v := 1) d_R_takeBack_45 (by decide) ?_
    refine x_zret d_R_takeBack_46 (by first | rfl | assumption) ?_
    rw [if_neg (by omega)]
    refine ⟨rfl, ?_⟩
    rw [hc]
    rfl
  · have h0 : n = 0 := by
      rcases Nat.eq_zero_or_pos n with q | q
      · exact q
      · exact absurd (by have := nI_lt q (show n < 2 ^ 31 by omega); rwa [nI_0] at this) c1
    refine x_iconst (v := 0) d_R_takeBack_7 (by decide) ?_
    refine x_zret d_R_takeBack_8 (by first | rfl | assumption) ?_
    rw [if_pos h0]
    exact ⟨rfl, rfl⟩
/-- how many of the first k are not 0 -/
def filN (f : Nat → Int32) : Nat → Nat
  | 0 => 0
  | k + 1 => filN f k + if f k = 0 then 0 else 1
theorem filN_le (f : Nat → Int32) : ∀ k, filN f k ≤ k
  | 0 => Nat.le_refl _
  | k + 1 => by
    have := filN_le f k
    unfold filN
    split <;> omega
set_option maxRecDepth 100000 in
set_option maxHeartbeats 4000000 in
theorem c_R_filled {N : Nat} {h : xHp} {n : Int32} {f : Nat → Int32} (hN : 94 ≤ N) (h1 : h 1 = oR n) (h2 : h 2 = aI 108 f) : XM y_R_filled b_R_filled 3 (some .int) 0 0 0 [.ref 1] N h (xR (some (.int (nI (filN f 108)))) h) := by
  unfold oR at h1
  refine xM_intro [some (.ref 1), none, none] (by decide) (fun _ => rfl) (fun _ => Nat.le_of_ble_eq_true rfl) (fun Γ => ?_)
  refine x_iconst (v := 0) d_R_filled_0 (by decide) ?_
  refine x_istore_n d_R_filled_1 (by decide) rfl ?_
  refine x_iconst (v := 0) d_R_filled_2 (by decide) ?_
  refine x_istore_n d_R_filled_3 (by decide) rfl ?_
  have key : ∀ (n k : Nat), k ≤ 108 → 108 - k < n → XW Γ y_R_filled b_R_filled 3 (some .int) (0, 0, 0) (xQ Γ (N + 0) 0 0 (xR (some (.int (nI (filN f 108)))) h)) 0 0 N h 4 [some (.ref 1), some (.int (nI (filN f k))), some (.int (nI k))] [] := by
    intro n
    induction n with
    | zero => intro k _ h0; omega
    | succ n ih =>
      intro k hk hkn
      refine x_iload_n d_R_filled_4 rfl ?_
      refine x_aload_n d_R_filled_5 rfl ?_
      refine x_get f_R_9 d_R_filled_6 (by omega) (by first | rfl | assumption | (simp only [va_up, Nat.reduceEqDiff, ↓reduceIte]; first | rfl | assumption) | (simp [va_up, *]; done)) rfl ?_
      refine x_alenN d_R_filled_9 (by omega) (by first | rfl | assumption | (simp only [va_up, Nat.reduceEqDiff, ↓reduceIte]; first | rfl | assumption) | (simp [va_up, *]; done)) rfl ?_
      refine x_icmp_ge 31 d_R_filled_10 (by decide) (fun c1 => ?_) (fun c1 => ?_)
      · have e : k = 108 := by
          rcases Nat.lt_or_ge k 108 with q | q
          · exact absurd c1 (nI_ge q (by decide))
          · omega
        subst e
        refine x_iload_n d_R_filled_31 rfl ?_
        refine x_iret d_R_filled_32 ?_
        exact ⟨rfl, rfl⟩
      · have hlt : k < 108 := by
          rcases Nat.lt_or_ge k 108 with q | q
          · exact q
          · exact absurd (nI_le q (by omega)) c1
        have hi : vp_in (nI k) 108 := vp_in_nI hlt (by decide)
        refine x_aload_n d_R_filled_13 rfl ?_
        refine x_get f_R_9 d_R_filled_14 (by omega) (by first | rfl | assumption | (simp only [va_up, Nat.reduceEqDiff, ↓reduceIte]; first | rfl | assumption) | (simp [va_up, *]; done)) rfl ?_
        refine x_iload_n d_R_filled_17 rfl ?_
        refine x_iald d_R_filled_18 (by omega) (by first | rfl | assumption | (simp only [va_up, Nat.reduceEqDiff, ↓reduceIte]; first | rfl | assumption) | (simp [va_up, *]; done)) (by assumption) ?_
        refine x_if_eq 25 d_R_filled_19 (by decide) (fun c2 => ?_) (fun c2 => ?_)
        · rw [nI_clamp (by omega)] at c2
          refine x_iinc1 d_R_filled_25 rfl (by decide) rfl ?_
          refine x_goto 4 d_R_filled_28 (by decide) ?_
          rw [nI_1]
          have := ih (k + 1) (by omega) (by omega)
          rw [show filN f (k + 1) = filN f k by simp [filN, c2]] at this
          exact this
        · rw [nI_clamp (by omega)] at c2
          refine x_iinc1 d_R_filled_22 rfl (by decide) rfl ?_
          refine x_iinc1 d_R_filled_25 rfl (by decide) rfl ?_
          refine x_goto 4 d_R_filled_28 (by decide) ?_
          rw [nI_1, nI_1]
          have := ih (k + 1) (by omega) (by omega)
          rw [show filN f (k + 1) = filN f k + 1 by simp [filN, c2]] at this
          exact this
  exact key 109 0 (by omega) (by omega)
