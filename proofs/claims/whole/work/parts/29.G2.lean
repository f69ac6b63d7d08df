/-! Grammar: the steps. -/
set_option maxRecDepth 100000 in
set_option maxHeartbeats 4000000 in
theorem c_G_takeOpening {N : Nat} {h : xHp} (σ : GS) (c : Int32) (hN : 94 ≤ N) (ho : σ.2.2.2.1 ≤ 8) (hc : c = 40 ∨ c = 45) : XM y_G_takeOpening b_G_takeOpening 2 (some .boolean) 0 0 0 [.ref 7, .int c] N (hG h σ) (gOut h σ (gFactor σ c)) := by
  have h7 := hG_7 h σ
  obtain ⟨s, fi, la, op, bt, t⟩ := σ
  refine xM_intro [some (.ref 7), some (.int c)] (by decide) (fun _ => rfl) (fun _ => Nat.le_of_ble_eq_true rfl) (fun Γ => ?_)
  refine x_aload_n d_G_takeOpening_0 rfl ?_
  refine x_get f_G_52 d_G_takeOpening_1 (by omega) (by first | assumption | exact vu_s | exact vu_t (by omega) (by first | assumption | exact vu_s | exact vu_t (by omega) (by first | assumption | exact vu_s | exact vu_t (by omega) (by first | assumption | exact vu_s))) | rfl | (simp only [va_up, Nat.reduceEqDiff, ↓reduceIte]; first | rfl | assumption)) rfl ?_
  refine x_bipush (v := 8) d_G_takeOpening_4 (by decide) ?_
  have ho' : op ≤ 8 := ho
  refine x_icmp_lt 11 d_G_takeOpening_6 (by decide) (fun c1 => ?_) (fun c1 => ?_)
  · have hlt : op < 8 := (nI_ltI (by omega) (by decide)).mp c1
    refine x_aload_n d_G_takeOpening_11 rfl ?_
    refine x_dup d_G_takeOpening_12 rfl ?_
    refine x_get f_G_52 d_G_takeOpening_13 (by omega) (by first | assumption | exact vu_s | exact vu_t (by omega) (by first | assumption | exact vu_s | exact vu_t (by omega) (by first | assumption | exact vu_s | exact vu_t (by omega) (by first | assumption | exact vu_s))) | rfl | (simp only [va_up, Nat.reduceEqDiff, ↓reduceIte]; first | rfl | assumption)) rfl ?_
    refine x_iconst (v := 1) d_G_takeOpening_16 (by decide) ?_
    refine x_iadd d_G_takeOpening_17 ?_
    rw [nI_1]
    refine x_put f_G_52 d_G_takeOpening_18 (by omega) (by first | assumption | exact vu_s | exact vu_t (by omega) (by first | assumption | exact vu_s | exact vu_t (by omega) (by first | assumption | exact vu_s | exact vu_t (by omega) (by first | assumption | exact vu_s))) | rfl | (simp only [va_up, Nat.reduceEqDiff, ↓reduceIte]; first | rfl | assumption)) (Nat.le_of_ble_eq_true rfl) (fun _ => ⟨rfl, rfl⟩) ?_
    refine x_aload_n d_G_takeOpening_21 rfl ?_
    refine x_aload_n d_G_takeOpening_22 rfl ?_
    refine x_get f_G_55 d_G_takeOpening_23 (by omega) (by first | assumption | exact vu_s | exact vu_t (by omega) (by first | assumption | exact vu_s | exact vu_t (by omega) (by first | assumption | exact vu_s | exact vu_t (by omega) (by first | assumption | exact vu_s))) | rfl | (simp only [va_up, Nat.reduceEqDiff, ↓reduceIte]; first | rfl | assumption)) rfl ?_
    refine x_iconst (v := 1) d_G_takeOpening_26 (by decide) ?_
    refine x_ishl d_G_takeOpening_27 ?_
    refine x_iload_n d_G_takeOpening_28 rfl ?_
    refine x_bipush (v := 40) d_G_takeOpening_29 (by decide) ?_
    refine x_icmp_ne 38 d_G_takeOpening_31 (by decide) (fun c2 => ?_) (fun c2 => ?_)
    · refine x_iconst (v := 0) d_G_takeOpening_38 (by decide) ?_
      refine x_ior d_G_takeOpening_39 ?_
      refine x_put f_G_55 d_G_takeOpening_40 (by omega) (by first | assumption | exact vu_s | exact vu_t (by omega) (by first | assumption | exact vu_s | exact vu_t (by omega) (by first | assumption | exact vu_s | exact vu_t (by omega) (by first | assumption | exact vu_s))) | rfl | (simp only [va_up, Nat.reduceEqDiff, ↓reduceIte]; first | rfl | assumption)) (Nat.le_of_ble_eq_true rfl) (fun _ => ⟨rfl, rfl⟩) ?_
      refine x_iconst (v := 1) d_G_takeOpening_43 (by decide) ?_
      refine x_zret d_G_takeOpening_44 (by first | rfl | assumption) ?_
      rw [show gFactor (s, fi, la, op, bt, t) c = some (s, fi, la, op + 1, bt <<< ((1 : Int32) &&& 31) ||| 0, t) by simp only [gFactor, if_pos hc, if_pos hlt, if_neg c2], bx_uu]
      exact ⟨rfl, hG_put h (s, fi, la, op, bt, t) (s, fi, la, op + 1, bt <<< ((1 : Int32) &&& 31) ||| 0, t) rfl⟩
    · refine x_iconst (v := 1) d_G_takeOpening_34 (by decide) ?_
      refine x_goto 39 d_G_takeOpening_35 (by decide) ?_
      refine x_ior d_G_takeOpening_39 ?_
      refine x_put f_G_55 d_G_takeOpening_40 (by omega) (by first | assumption | exact vu_s | exact vu_t (by omega) (by first | assumption | exact vu_s | exact vu_t (by omega) (by first | assumption | exact vu_s | exact vu_t (by omega) (by first | assumption | exact vu_s))) | rfl | (simp only [va_up, Nat.reduceEqDiff, ↓reduceIte]; first | rfl | assumption)) (Nat.le_of_ble_eq_true rfl) (fun _ => ⟨rfl, rfl⟩) ?_
      refine x_iconst (v := 1) d_G_takeOpening_43 (by decide) ?_
      refine x_zret d_G_takeOpening_44 (by first | rfl | assumption) ?_
      rw [show gFactor (s, fi, la, op, bt, t) c = some (s, fi, la, op + 1, bt <<< ((1 : Int32) &&& 31) ||| 1, t) by simp [gFactor, hlt, c2], bx_uu]
      exact ⟨rfl, hG_put h (s, fi, la, op, bt, t) (s, fi, la, op + 1, bt <<< ((1 : Int32) &&& 31) ||| 1, t) rfl⟩
  · have hlt : ¬ op < 8 := fun z => c1 ((nI_ltI (by omega) (by decide)).mpr z)
    refine x_iconst (v := 0) d_G_takeOpening_9 (by decide) ?_
    refine x_zret d_G_takeOpening_10 (by first | rfl | assumption) ?_
    rw [show gFactor (s, fi, la, op, bt, t) c = none by simp [gFactor, hc, hlt]]
    exact ⟨rfl, rfl⟩
set_option maxRecDepth 100000 in
set_option maxHeartbeats 4000000 in
theorem c_G_takeFactor {N : Nat} {h : xHp} (σ : GS) (c : Int32) (hN : 94 ≤ N) (ho : σ.2.2.2.1 ≤ 8) : XM y_G_takeFactor b_G_takeFactor 2 (some .boolean) 2 0 0 [.ref 7, .int c] N (hG h σ) (gOut h σ (gFactor σ c)) := by
  have h7 := hG_7 h σ
  refine xM_intro [some (.ref 7), some (.int c)] (by decide) (fun _ => rfl) (fun _ => Nat.le_of_ble_eq_true rfl) (fun Γ => ?_)
  have op1 : c = 40 ∨ c = 45 → XW Γ y_G_takeFactor b_G_takeFactor 2 (some .boolean) (2, 0, 0) (xQ Γ (N + 0) 0 0 (gOut h σ (gFactor σ c))) 0 0 N (hG h σ) 12 [some (.ref 7), some (.int c)] [] := by
    intro hc
    refine x_aload_n d_G_takeFactor_12 rfl ?_
    refine x_iload_n d_G_takeFactor_13 rfl ?_
    refine x_cV (c_G_takeOpening σ c hN ho hc) k_G_95 v_G_takeOpening d_G_takeFactor_14 rfl (by omega) (by first | assumption | exact vu_s | exact vu_t (by omega) (by first | assumption | exact vu_s | exact vu_t (by omega) (by first | assumption | exact vu_s | exact vu_t (by omega) (by first | assumption | exact vu_s))) | rfl | (simp only [va_up, Nat.reduceEqDiff, ↓reduceIte]; first | rfl | assumption)) rfl (by omega) (Nat.le_of_ble_eq_true rfl) ?_
    intro r h' hq
    cases hg : gFactor σ c with
    | none =>
      rw [hg] at hq
      obtain ⟨rfl, rfl⟩ := hq
      refine x_zret d_G_takeFactor_17 (by first | rfl | assumption) ?_
      exact ⟨rfl, rfl⟩
    | some σ' =>
      rw [hg] at hq
      obtain ⟨rfl, rfl⟩ := hq
      refine x_zret d_G_takeFactor_17 (by first | rfl | assumption) ?_
      exact ⟨rfl, rfl⟩
  have fin : ¬ (c = 40 ∨ c = 45) → (isDig c || isCC σ.2.1 σ.2.2.1 c) = true → XW Γ y_G_takeFactor b_G_takeFactor 2 (some .boolean) (2, 0, 0) (xQ Γ (N + 0) 0 0 (gOut h σ (gFactor σ c))) 0 0 N (hG h σ) 35 [some (.ref 7), some (.int c)] [] := by
    intro h1 h2
    refine x_aload_n d_G_takeFactor_35 rfl ?_
    refine x_cVv (c_G_endFactor σ hN ho) k_G_104 v_G_endFactor d_G_takeFactor_36 rfl (by omega) (by first | assumption | exact vu_s | exact vu_t (by omega) (by first | assumption | exact vu_s | exact vu_t (by omega) (by first | assumption | exact vu_s | exact vu_t (by omega) (by first | assumption | exact vu_s))) | rfl | (simp only [va_up, Nat.reduceEqDiff, ↓reduceIte]; first | rfl | assumption)) rfl (by omega) (Nat.le_of_ble_eq_true rfl) ?_
    refine x_iconst (v := 1) d_G_takeFactor_39 (by decide) ?_
    refine x_zret d_G_takeFactor_40 (by first | rfl | assumption) ?_
    have e : gFactor σ c = some (gEnd σ) := by
      obtain ⟨s, fi, la, op, bt, t⟩ := σ
      simp only [gFactor, if_neg h1]
      exact if_pos h2
    rw [e]
    exact ⟨rfl, rfl⟩
  refine x_iload_n d_G_takeFactor_0 rfl ?_
  refine x_bipush (v := 40) d_G_takeFactor_1 (by decide) ?_
  refine x_icmp_eq 12 d_G_takeFactor_3 (by decide) (fun c1 => ?_) (fun c1 => ?_)
  · exact op1 (Or.inl c1)
  · refine x_iload_n d_G_takeFactor_6 rfl ?_
    refine x_bipush (v := 45) d_G_takeFactor_7 (by decide) ?_
    refine x_icmp_ne 18 d_G_takeFactor_9 (by decide) (fun c2 => ?_) (fun c2 => ?_)
    · refine x_iload_n d_G_takeFactor_18 rfl ?_
      refine x_cSe (c_T_isDigit c) k_G_98 s_T_isDigit d_G_takeFactor_19 rfl (by omega) (Nat.le_of_ble_eq_true rfl) ?_
      refine x_if_ne 35 d_G_takeFactor_22 (by decide) (fun c3 => ?_) (fun c3 => ?_)
      · rw [bi1] at c3
        exact fin (fun z => z.elim c1 c2) (by rw [c3]; rfl)
      · rw [bi0] at c3
        refine x_aload_n d_G_takeFactor_25 rfl ?_
        refine x_iload_n d_G_takeFactor_26 rfl ?_
        refine x_cVe (c_G_isChainColumn σ c hN) k_G_101 v_G_isChainColumn d_G_takeFactor_27 rfl (by omega) (by first | assumption | exact vu_s | exact vu_t (by omega) (by first | assumption | exact vu_s | exact vu_t (by omega) (by first | assumption | exact vu_s | exact vu_t (by omega) (by first | assumption | exact vu_s))) | rfl | (simp only [va_up, Nat.reduceEqDiff, ↓reduceIte]; first | rfl | assumption)) rfl (by omega) (Nat.le_of_ble_eq_true rfl) ?_
        refine x_if_ne 35 d_G_takeFactor_30 (by decide) (fun c4 => ?_) (fun c4 => ?_)
        · rw [bi1] at c4
          exact fin (fun z => z.elim c1 c2) (by rw [c3, c4]; rfl)
        · rw [bi0] at c4
          refine x_iconst (v := 0) d_G_takeFactor_33 (by decide) ?_
          refine x_zret d_G_takeFactor_34 (by first | rfl | assumption) ?_
          have e : gFactor σ c = none := by
            obtain ⟨s, fi, la, op, bt, t⟩ := σ
            have c4' : isCC fi la c = false := c4
            simp [gFactor, c1, c2, c3, c4']
          rw [e]
          exact ⟨rfl, rfl⟩
    · exact op1 (Or.inr c2)
set_option maxRecDepth 100000 in
set_option maxHeartbeats 4000000 in
theorem c_G_takeAfterFactor {N : Nat} {h : xHp} (σ : GS) (c : Int32) (hN : 94 ≤ N) (ho : σ.2.2.2.1 ≤ 8) : XM y_G_takeAfterFactor b_G_takeAfterFactor 2 (some .boolean) 1 0 0 [.ref 7, .int c] N (hG h σ) (gOut h σ (gAfter σ c)) := by
  have h7 := hG_7 h σ
  refine xM_intro [some (.ref 7), some (.int c)] (by decide) (fun _ => rfl) (fun _ => Nat.le_of_ble_eq_true rfl) (fun Γ => ?_)
  have op1 : c = 43 ∨ c = 45 ∨ c = 42 → XW Γ y_G_takeAfterFactor b_G_takeAfterFactor 2 (some .boolean) (1, 0, 0) (xQ Γ (N + 0) 0 0 (gOut h σ (gAfter σ c))) 0 0 N (hG h σ) 18 [some (.ref 7), some (.int c)] [] := by
    intro hc
    obtain ⟨s, fi, la, op, bt, t⟩ := σ
    refine x_aload_n d_G_takeAfterFactor_18 rfl ?_
    refine x_iconst (v := 2) d_G_takeAfterFactor_19 (by decide) ?_
    refine x_put f_G_49 d_G_takeAfterFactor_20 (by omega) (by first | assumption | exact vu_s | exact vu_t (by omega) (by first | assumption | exact vu_s | exact vu_t (by omega) (by first | assumption | exact vu_s | exact vu_t (by omega) (by first | assumption | exact vu_s))) | rfl | (simp only [va_up, Nat.reduceEqDiff, ↓reduceIte]; first | rfl | assumption)) (Nat.le_of_ble_eq_true rfl) (fun _ => ⟨rfl, rfl⟩) ?_
    refine x_iconst (v := 1) d_G_takeAfterFactor_23 (by decide) ?_
    refine x_zret d_G_takeAfterFactor_24 (by first | rfl | assumption) ?_
    rw [show gAfter (s, fi, la, op, bt, t) c = some (2, fi, la, op, bt, t) by simp [gAfter, hc]]
    exact ⟨rfl, hG_put h (s, fi, la, op, bt, t) (2, fi, la, op, bt, t) rfl⟩
  refine x_iload_n d_G_takeAfterFactor_0 rfl ?_
  refine x_bipush (v := 43) d_G_takeAfterFactor_1 (by decide) ?_
  refine x_icmp_eq 18 d_G_takeAfterFactor_3 (by decide) (fun c1 => ?_) (fun c1 => ?_)
  · exact op1 (Or.inl c1)
  · refine x_iload_n d_G_takeAfterFactor_6 rfl ?_
    refine x_bipush (v := 45) d_G_takeAfterFactor_7 (by decide) ?_
    refine x_icmp_eq 18 d_G_takeAfterFactor_9 (by decide) (fun c2 => ?_) (fun c2 => ?_)
    · exact op1 (Or.inr (Or.inl c2))
    · refine x_iload_n d_G_takeAfterFactor_12 rfl ?_
      refine x_bipush (v := 42) d_G_takeAfterFactor_13 (by decide) ?_
      refine x_icmp_ne 25 d_G_takeAfterFactor_15 (by decide) (fun c3 => ?_) (fun c3 => ?_)
      · obtain ⟨s, fi, la, op, bt, t⟩ := σ
        have ho' : op ≤ 8 := ho
        refine x_aload_n d_G_takeAfterFactor_25 rfl ?_
        refine x_get f_G_52 d_G_takeAfterFactor_26 (by omega) (by first | assumption | exact vu_s | exact vu_t (by omega) (by first | assumption | exact vu_s | exact vu_t (by omega) (by first | assumption | exact vu_s | exact vu_t (by omega) (by first | assumption | exact vu_s))) | rfl | (simp only [va_up, Nat.reduceEqDiff, ↓reduceIte]; first | rfl | assumption)) rfl ?_
        refine x_if_ne 38 d_G_takeAfterFactor_29 (by decide) (fun c4 => ?_) (fun c4 => ?_)
        · have hop : ¬ op = 0 := fun z => c4 (by rw [z]; rfl)
          obtain ⟨k, rfl⟩ : ∃ k, op = k + 1 := ⟨op - 1, by omega⟩
          refine x_iload_n d_G_takeAfterFactor_38 rfl ?_
          refine x_bipush (v := 41) d_G_takeAfterFactor_39 (by decide) ?_
          refine x_icmp_eq 46 d_G_takeAfterFactor_41 (by decide) (fun c5 => ?_) (fun c5 => ?_)
          · have e1 : nI (k + 1) - 1 = nI k := nI_pred k
            refine x_aload_n d_G_takeAfterFactor_46 rfl ?_
            refine x_dup d_G_takeAfterFactor_47 rfl ?_
            refine x_get f_G_52 d_G_takeAfterFactor_48 (by omega) (by first | assumption | exact vu_s | exact vu_t (by omega) (by first | assumption | exact vu_s | exact vu_t (by omega) (by first | assumption | exact vu_s | exact vu_t (by omega) (by first | assumption | exact vu_s))) | rfl | (simp only [va_up, Nat.reduceEqDiff, ↓reduceIte]; first | rfl | assumption)) rfl ?_
            refine x_iconst (v := 1) d_G_takeAfterFactor_51 (by decide) ?_
            refine x_isub d_G_takeAfterFactor_52 ?_
            rw [e1]
            refine x_put f_G_52 d_G_takeAfterFactor_53 (by omega) (by first | assumption | exact vu_s | exact vu_t (by omega) (by first | assumption | exact vu_s | exact vu_t (by omega) (by first | assumption | exact vu_s | exact vu_t (by omega) (by first | assumption | exact vu_s))) | rfl | (simp only [va_up, Nat.reduceEqDiff, ↓reduceIte]; first | rfl | assumption)) (Nat.le_of_ble_eq_true rfl) (fun _ => ⟨rfl, rfl⟩) ?_
            refine x_aload_n d_G_takeAfterFactor_56 rfl ?_
            refine x_dup d_G_takeAfterFactor_57 rfl ?_
            refine x_get f_G_55 d_G_takeAfterFactor_58 (by omega) (by first | assumption | exact vu_s | exact vu_t (by omega) (by first | assumption | exact vu_s | exact vu_t (by omega) (by first | assumption | exact vu_s | exact vu_t (by omega) (by first | assumption | exact vu_s))) | rfl | (simp only [va_up, Nat.reduceEqDiff, ↓reduceIte]; first | rfl | assumption)) rfl ?_
            refine x_iconst (v := 1) d_G_takeAfterFactor_61 (by decide) ?_
            refine x_ishr d_G_takeAfterFactor_62 ?_
            refine x_put f_G_55 d_G_takeAfterFactor_63 (by omega) (by first | assumption | exact vu_s | exact vu_t (by omega) (by first | assumption | exact vu_s | exact vu_t (by omega) (by first | assumption | exact vu_s | exact vu_t (by omega) (by first | assumption | exact vu_s))) | rfl | (simp only [va_up, Nat.reduceEqDiff, ↓reduceIte]; first | rfl | assumption)) (Nat.le_of_ble_eq_true rfl) (fun _ => ⟨rfl, rfl⟩) ?_
            refine x_aload_n d_G_takeAfterFactor_66 rfl ?_
            rw [bx_uu]
            have e3 := hG_put h (s, fi, la, k + 1, bt, t) (s, fi, la, k, bt >>> ((1 : Int32) &&& 31), t) rfl
            have h7' := hG_7 h (s, fi, la, k, bt >>> ((1 : Int32) &&& 31), t)
            refine XW_h e3 ?_
            refine x_cVv (c_G_endFactor (s, fi, la, k, bt >>> ((1 : Int32) &&& 31), t) hN (by show k ≤ 8; omega)) k_G_104 v_G_endFactor d_G_takeAfterFactor_67 rfl (by omega) (by first | assumption | exact vu_s | exact vu_t (by omega) (by first | assumption | exact vu_s | exact vu_t (by omega) (by first | assumption | exact vu_s | exact vu_t (by omega) (by first | assumption | exact vu_s))) | rfl | (simp only [va_up, Nat.reduceEqDiff, ↓reduceIte]; first | rfl | assumption)) rfl (by omega) (Nat.le_of_ble_eq_true rfl) ?_
            refine x_iconst (v := 1) d_G_takeAfterFactor_70 (by decide) ?_
            refine x_zret d_G_takeAfterFactor_71 (by first | rfl | assumption) ?_
            rw [show gAfter (s, fi, la, k + 1, bt, t) c = some (gEnd (s, fi, la, k, bt >>> ((1 : Int32) &&& 31), t)) by simp [gAfter, c5]]
            exact ⟨rfl, rfl⟩
          · refine x_iconst (v := 0) d_G_takeAfterFactor_44 (by decide) ?_
            refine x_zret d_G_takeAfterFactor_45 (by first | rfl | assumption) ?_
            rw [show gAfter (s, fi, la, k + 1, bt, t) c = none by simp [gAfter, c1, c2, c3, c5]]
            exact ⟨rfl, rfl⟩
        · have hop : op = 0 := by
            rcases Nat.eq_zero_or_pos op with z | z
            · exact z
            · exact absurd c4 (nI_ne0 z (by omega))
          have e : gAfter (s, fi, la, op, bt, t) c = gTail (s, fi, la, op, bt, t) c := by simp [gAfter, c1, c2, c3, hop]
          rw [e]
          refine x_aload_n d_G_takeAfterFactor_32 rfl ?_
          refine x_iload_n d_G_takeAfterFactor_33 rfl ?_
          refine x_cV (c_G_takeTail (s, fi, la, op, bt, t) c hN) k_G_85 v_G_takeTail d_G_takeAfterFactor_34 rfl (by omega) (by first | assumption | exact vu_s | exact vu_t (by omega) (by first | assumption | exact vu_s | exact vu_t (by omega) (by first | assumption | exact vu_s | exact vu_t (by omega) (by first | assumption | exact vu_s))) | rfl | (simp only [va_up, Nat.reduceEqDiff, ↓reduceIte]; first | rfl | assumption)) rfl (by omega) (Nat.le_of_ble_eq_true rfl) ?_
          intro r h' hq
          cases hg : gTail (s, fi, la, op, bt, t) c with
          | none =>
            rw [hg] at hq
            obtain ⟨rfl, rfl⟩ := hq
            refine x_zret d_G_takeAfterFactor_37 (by first | rfl | assumption) ?_
            exact ⟨rfl, rfl⟩
          | some σ' =>
            rw [hg] at hq
            obtain ⟨rfl, rfl⟩ := hq
            refine x_zret d_G_takeAfterFactor_37 (by first | rfl | assumption) ?_
            exact ⟨rfl, rfl⟩
      · exact op1 (Or.inr (Or.inr c3))
set_option maxRecDepth 100000 in
set_option maxHeartbeats 4000000 in
theorem c_G_takeChainStart {N : Nat} {h : xHp} (σ : GS) (c : Int32) (hN : 94 ≤ N) : XM y_G_takeChainStart b_G_takeChainStart 3 (some .boolean) 1 0 0 [.ref 7, .int c] N (hG h σ) (gOut h σ (gCh0 σ c)) := by
  have h7 := hG_7 h σ
  obtain ⟨s, fi, la, t⟩ := σ
  refine xM_intro [some (.ref 7), some (.int c), none] (by decide) (fun _ => rfl) (fun _ => Nat.le_of_ble_eq_true rfl) (fun Γ => ?_)
  refine x_iload_n d_G_takeChainStart_0 rfl ?_
  refine x_cSe (c_T_relationOf c) k_G_91 s_T_relationOf d_G_takeChainStart_1 rfl (by omega) (Nat.le_of_ble_eq_true rfl) ?_
  refine x_istore_n d_G_takeChainStart_4 (by decide) rfl ?_
  refine x_iload_n d_G_takeChainStart_5 rfl ?_
  refine x_if_ge 11 d_G_takeChainStart_6 (by decide) (fun c1 => ?_) (fun c1 => ?_)
  · refine x_aload_n d_G_takeChainStart_11 rfl ?_
    refine x_iload_n d_G_takeChainStart_12 rfl ?_
    refine x_put f_G_36 d_G_takeChainStart_13 (by omega) (by first | assumption | exact vu_s | exact vu_t (by omega) (by first | assumption | exact vu_s | exact vu_t (by omega) (by first | assumption | exact vu_s | exact vu_t (by omega) (by first | assumption | exact vu_s))) | rfl | (simp only [va_up, Nat.reduceEqDiff, ↓reduceIte]; first | rfl | assumption)) (Nat.le_of_ble_eq_true rfl) (fun _ => ⟨rfl, rfl⟩) ?_
    refine x_aload_n d_G_takeChainStart_16 rfl ?_
    refine x_iload_n d_G_takeChainStart_17 rfl ?_
    refine x_put f_G_40 d_G_takeChainStart_18 (by omega) (by first | assumption | exact vu_s | exact vu_t (by omega) (by first | assumption | exact vu_s | exact vu_t (by omega) (by first | assumption | exact vu_s | exact vu_t (by omega) (by first | assumption | exact vu_s))) | rfl | (simp only [va_up, Nat.reduceEqDiff, ↓reduceIte]; first | rfl | assumption)) (Nat.le_of_ble_eq_true rfl) (fun _ => ⟨rfl, rfl⟩) ?_
    refine x_aload_n d_G_takeChainStart_21 rfl ?_
    refine x_iconst (v := 1) d_G_takeChainStart_22 (by decide) ?_
    refine x_put f_G_49 d_G_takeChainStart_23 (by omega) (by first | assumption | exact vu_s | exact vu_t (by omega) (by first | assumption | exact vu_s | exact vu_t (by omega) (by first | assumption | exact vu_s | exact vu_t (by omega) (by first | assumption | exact vu_s))) | rfl | (simp only [va_up, Nat.reduceEqDiff, ↓reduceIte]; first | rfl | assumption)) (Nat.le_of_ble_eq_true rfl) (fun _ => ⟨rfl, rfl⟩) ?_
    refine x_iconst (v := 1) d_G_takeChainStart_26 (by decide) ?_
    refine x_zret d_G_takeChainStart_27 (by first | rfl | assumption) ?_
    rw [show gCh0 (s, fi, la, t) c = some (1, relOf c, relOf c, t) by simp [gCh0, c1], bx_uu, bx_uu]
    exact ⟨rfl, hG_put h (s, fi, la, t) (1, relOf c, relOf c, t) rfl⟩
  · refine x_iconst (v := 0) d_G_takeChainStart_9 (by decide) ?_
    refine x_zret d_G_takeChainStart_10 (by first | rfl | assumption) ?_
    rw [show gCh0 (s, fi, la, t) c = none by simp only [gCh0, if_neg c1]]
    exact ⟨rfl, rfl⟩
set_option maxRecDepth 100000 in
set_option maxHeartbeats 4000000 in
theorem c_G_takeChainRest {N : Nat} {h : xHp} (σ : GS) (c : Int32) (hN : 94 ≤ N) : XM y_G_takeChainRest b_G_takeChainRest 2 (some .boolean) 1 0 0 [.ref 7, .int c] N (hG h σ) (gOut h σ (gCh1 σ c)) := by
  have h7 := hG_7 h σ
  obtain ⟨s, fi, la, t⟩ := σ
  refine xM_intro [some (.ref 7), some (.int c)] (by decide) (fun _ => rfl) (fun _ => Nat.le_of_ble_eq_true rfl) (fun Γ => ?_)
  refine x_iload_n d_G_takeChainRest_0 rfl ?_
  refine x_bipush (v := 58) d_G_takeChainRest_1 (by decide) ?_
  refine x_icmp_ne 13 d_G_takeChainRest_3 (by decide) (fun c1 => ?_) (fun c1 => ?_)
  · refine x_iload_n d_G_takeChainRest_13 rfl ?_
    refine x_cSe (c_T_relationOf c) k_G_91 s_T_relationOf d_G_takeChainRest_14 rfl (by omega) (Nat.le_of_ble_eq_true rfl) ?_
    refine x_aload_n d_G_takeChainRest_17 rfl ?_
    refine x_get f_G_40 d_G_takeChainRest_18 (by omega) (by first | assumption | exact vu_s | exact vu_t (by omega) (by first | assumption | exact vu_s | exact vu_t (by omega) (by first | assumption | exact vu_s | exact vu_t (by omega) (by first | assumption | exact vu_s))) | rfl | (simp only [va_up, Nat.reduceEqDiff, ↓reduceIte]; first | rfl | assumption)) rfl ?_
    refine x_iconst (v := 1) d_G_takeChainRest_21 (by decide) ?_
    refine x_iadd d_G_takeChainRest_22 ?_
    refine x_icmp_eq 28 d_G_takeChainRest_23 (by decide) (fun c2 => ?_) (fun c2 => ?_)
    · refine x_aload_n d_G_takeChainRest_28 rfl ?_
      refine x_dup d_G_takeChainRest_29 rfl ?_
      refine x_get f_G_40 d_G_takeChainRest_30 (by omega) (by first | assumption | exact vu_s | exact vu_t (by omega) (by first | assumption | exact vu_s | exact vu_t (by omega) (by first | assumption | exact vu_s | exact vu_t (by omega) (by first | assumption | exact vu_s))) | rfl | (simp only [va_up, Nat.reduceEqDiff, ↓reduceIte]; first | rfl | assumption)) rfl ?_
      refine x_iconst (v := 1) d_G_takeChainRest_33 (by decide) ?_
      refine x_iadd d_G_takeChainRest_34 ?_
      refine x_put f_G_40 d_G_takeChainRest_35 (by omega) (by first | assumption | exact vu_s | exact vu_t (by omega) (by first | assumption | exact vu_s | exact vu_t (by omega) (by first | assumption | exact vu_s | exact vu_t (by omega) (by first | assumption | exact vu_s))) | rfl | (simp only [va_up, Nat.reduceEqDiff, ↓reduceIte]; first | rfl | assumption)) (Nat.le_of_ble_eq_true rfl) (fun _ => ⟨rfl, rfl⟩) ?_
      refine x_iconst (v := 1) d_G_takeChainRest_38 (by decide) ?_
      refine x_zret d_G_takeChainRest_39 (by first | rfl | assumption) ?_
      rw [show gCh1 (s, fi, la, t) c = some (s, fi, la + 1, t) by simp [gCh1, c1, c2]]
      exact ⟨rfl, hG_put h (s, fi, la, t) (s, fi, la + 1, t) rfl⟩
    · refine x_iconst (v := 0) d_G_takeChainRest_26 (by decide) ?_
      refine x_zret d_G_takeChainRest_27 (by first | rfl | assumption) ?_
      rw [show gCh1 (s, fi, la, t) c = none by simp [gCh1, c1, c2]]
      exact ⟨rfl, rfl⟩
  · refine x_aload_n d_G_takeChainRest_6 rfl ?_
    refine x_iconst (v := 2) d_G_takeChainRest_7 (by decide) ?_
    refine x_put f_G_49 d_G_takeChainRest_8 (by omega) (by first | assumption | exact vu_s | exact vu_t (by omega) (by first | assumption | exact vu_s | exact vu_t (by omega) (by first | assumption | exact vu_s | exact vu_t (by omega) (by first | assumption | exact vu_s))) | rfl | (simp only [va_up, Nat.reduceEqDiff, ↓reduceIte]; first | rfl | assumption)) (Nat.le_of_ble_eq_true rfl) (fun _ => ⟨rfl, rfl⟩) ?_
    refine x_iconst (v := 1) d_G_takeChainRest_11 (by decide) ?_
    refine x_zret d_G_takeChainRest_12 (by first | rfl | assumption) ?_
    rw [show gCh1 (s, fi, la, t) c = some (2, fi, la, t) by simp [gCh1, c1]]
    exact ⟨rfl, hG_put h (s, fi, la, t) (2, fi, la, t) rfl⟩
set_option maxRecDepth 100000 in
set_option maxHeartbeats 4000000 in
theorem c_G_takeConditionColumn {N : Nat} {h : xHp} (σ : GS) (c : Int32) (hN : 94 ≤ N) : XM y_G_takeConditionColumn b_G_takeConditionColumn 2 (some .boolean) 2 0 0 [.ref 7, .int c] N (hG h σ) (gOut h σ (gCol σ c)) := by
  have h7 := hG_7 h σ
  refine xM_intro [some (.ref 7), some (.int c)] (by decide) (fun _ => rfl) (fun _ => Nat.le_of_ble_eq_true rfl) (fun Γ => ?_)
  refine x_aload_n d_G_takeConditionColumn_0 rfl ?_
  refine x_iload_n d_G_takeConditionColumn_1 rfl ?_
  refine x_cVe (c_G_isChainColumn σ c hN) k_G_101 v_G_isChainColumn d_G_takeConditionColumn_2 rfl (by omega) (by first | assumption | exact vu_s | exact vu_t (by omega) (by first | assumption | exact vu_s | exact vu_t (by omega) (by first | assumption | exact vu_s | exact vu_t (by omega) (by first | assumption | exact vu_s))) | rfl | (simp only [va_up, Nat.reduceEqDiff, ↓reduceIte]; first | rfl | assumption)) rfl (by omega) (Nat.le_of_ble_eq_true rfl) ?_
  obtain ⟨s, fi, la, op, bt, cc, t⟩ := σ
  refine x_if_ne 10 d_G_takeConditionColumn_5 (by decide) (fun c1 => ?_) (fun c1 => ?_)
  · rw [bi1] at c1
    refine x_aload_n d_G_takeConditionColumn_10 rfl ?_
    refine x_iload_n d_G_takeConditionColumn_11 rfl ?_
    refine x_cSe (c_T_columnOf c) k_G_107 s_T_columnOf d_G_takeConditionColumn_12 rfl (by omega) (Nat.le_of_ble_eq_true rfl) ?_
    refine x_put f_G_110 d_G_takeConditionColumn_15 (by omega) (by first | assumption | exact vu_s | exact vu_t (by omega) (by first | assumption | exact vu_s | exact vu_t (by omega) (by first | assumption | exact vu_s | exact vu_t (by omega) (by first | assumption | exact vu_s))) | rfl | (simp only [va_up, Nat.reduceEqDiff, ↓reduceIte]; first | rfl | assumption)) (Nat.le_of_ble_eq_true rfl) (fun _ => ⟨rfl, rfl⟩) ?_
    refine x_aload_n d_G_takeConditionColumn_18 rfl ?_
    refine x_iconst (v := 5) d_G_takeConditionColumn_19 (by decide) ?_
    refine x_put f_G_49 d_G_takeConditionColumn_20 (by omega) (by first | assumption | exact vu_s | exact vu_t (by omega) (by first | assumption | exact vu_s | exact vu_t (by omega) (by first | assumption | exact vu_s | exact vu_t (by omega) (by first | assumption | exact vu_s))) | rfl | (simp only [va_up, Nat.reduceEqDiff, ↓reduceIte]; first | rfl | assumption)) (Nat.le_of_ble_eq_true rfl) (fun _ => ⟨rfl, rfl⟩) ?_
    refine x_iconst (v := 1) d_G_takeConditionColumn_23 (by decide) ?_
    refine x_zret d_G_takeConditionColumn_24 (by first | rfl | assumption) ?_
    rw [show gCol (s, fi, la, op, bt, cc, t) c = some (5, fi, la, op, bt, colOf c, t) from if_pos c1, bx_uu]
    exact ⟨rfl, hG_put h (s, fi, la, op, bt, cc, t) (5, fi, la, op, bt, colOf c, t) rfl⟩
  · rw [bi0] at c1
    refine x_iconst (v := 0) d_G_takeConditionColumn_8 (by decide) ?_
    refine x_zret d_G_takeConditionColumn_9 (by first | rfl | assumption) ?_
    rw [show gCol (s, fi, la, op, bt, cc, t) c = none from if_neg (by rw [show isCC fi la c = false from c1]; decide)]
    exact ⟨rfl, rfl⟩
set_option maxRecDepth 100000 in
set_option maxHeartbeats 4000000 in
theorem c_G_takeConditionKind {N : Nat} {h : xHp} (σ : GS) (c : Int32) (hN : 94 ≤ N) (hn : narrow .char (.int c) = .int c) (hf : fits .char (.int c) = true) : XM y_G_takeConditionKind b_G_takeConditionKind 2 (some .boolean) 0 0 0 [.ref 7, .int c] N (hG h σ) (gOut h σ (gKind σ c)) := by
  have h7 := hG_7 h σ
  obtain ⟨s, fi, la, op, bt, cc, ck, t⟩ := σ
  refine xM_intro [some (.ref 7), some (.int c)] (by decide) (fun _ => rfl) (fun _ => Nat.le_of_ble_eq_true rfl) (fun Γ => ?_)
  have op1 : c = 61 ∨ c = 35 ∨ c = 60 ∨ c = 62 → XW Γ y_G_takeConditionKind b_G_takeConditionKind 2 (some .boolean) (0, 0, 0) (xQ Γ (N + 0) 0 0 (gOut h (s, fi, la, op, bt, cc, ck, t) (gKind (s, fi, la, op, bt, cc, ck, t) c))) 0 0 N (hG h (s, fi, la, op, bt, cc, ck, t)) 26 [some (.ref 7), some (.int c)] [] := by
    intro hc
    refine x_aload_n d_G_takeConditionKind_26 rfl ?_
    refine x_iload_n d_G_takeConditionKind_27 rfl ?_
    refine x_put f_G_113 d_G_takeConditionKind_28 (by omega) h7 (Nat.le_of_ble_eq_true rfl) (fun _ => ⟨hn, hf⟩) ?_
    refine x_aload_n d_G_takeConditionKind_31 rfl ?_
    refine x_bipush (v := 6) d_G_takeConditionKind_32 (by decide) ?_
    refine x_put f_G_49 d_G_takeConditionKind_34 (by omega) (by first | assumption | exact vu_s | exact vu_t (by omega) (by first | assumption | exact vu_s | exact vu_t (by omega) (by first | assumption | exact vu_s | exact vu_t (by omega) (by first | assumption | exact vu_s))) | rfl | (simp only [va_up, Nat.reduceEqDiff, ↓reduceIte]; first | rfl | assumption)) (Nat.le_of_ble_eq_true rfl) (fun _ => ⟨rfl, rfl⟩) ?_
    refine x_iconst (v := 1) d_G_takeConditionKind_37 (by decide) ?_
    refine x_zret d_G_takeConditionKind_38 (by first | rfl | assumption) ?_
    rw [show gKind (s, fi, la, op, bt, cc, ck, t) c = some (6, fi, la, op, bt, cc, c, t) by simp [gKind, hc], bx_uu]
    exact ⟨rfl, hG_put h (s, fi, la, op, bt, cc, ck, t) (6, fi, la, op, bt, cc, c, t) rfl⟩
  refine x_iload_n d_G_takeConditionKind_0 rfl ?_
  refine x_bipush (v := 61) d_G_takeConditionKind_1 (by decide) ?_
  refine x_icmp_eq 26 d_G_takeConditionKind_3 (by decide) (fun c1 => ?_) (fun c1 => ?_)
  · exact op1 (Or.inl c1)
  · refine x_iload_n d_G_takeConditionKind_6 rfl ?_
    refine x_bipush (v := 35) d_G_takeConditionKind_7 (by decide) ?_
    refine x_icmp_eq 26 d_G_takeConditionKind_9 (by decide) (fun c2 => ?_) (fun c2 => ?_)
    · exact op1 (Or.inr (Or.inl c2))
    · refine x_iload_n d_G_takeConditionKind_12 rfl ?_
      refine x_bipush (v := 60) d_G_takeConditionKind_13 (by decide) ?_
      refine x_icmp_eq 26 d_G_takeConditionKind_15 (by decide) (fun c3 => ?_) (fun c3 => ?_)
      · exact op1 (Or.inr (Or.inr (Or.inl c3)))
      · refine x_iload_n d_G_takeConditionKind_18 rfl ?_
        refine x_bipush (v := 62) d_G_takeConditionKind_19 (by decide) ?_
        refine x_icmp_eq 26 d_G_takeConditionKind_21 (by decide) (fun c4 => ?_) (fun c4 => ?_)
        · exact op1 (Or.inr (Or.inr (Or.inr c4)))
        · refine x_iconst (v := 0) d_G_takeConditionKind_24 (by decide) ?_
          refine x_zret d_G_takeConditionKind_25 (by first | rfl | assumption) ?_
          rw [show gKind (s, fi, la, op, bt, cc, ck, t) c = none by simp [gKind, c1, c2, c3, c4]]
          exact ⟨rfl, rfl⟩
set_option maxRecDepth 100000 in
set_option maxHeartbeats 4000000 in
theorem c_G_takeGroupColumn {N : Nat} {h : xHp} (σ : GS) (c : Int32) (hN : 94 ≤ N) : XM y_G_takeGroupColumn b_G_takeGroupColumn 2 (some .boolean) 2 0 0 [.ref 7, .int c] N (hG h σ) (gOut h σ (gGrp σ c)) := by
  have h7 := hG_7 h σ
  refine xM_intro [some (.ref 7), some (.int c)] (by decide) (fun _ => rfl) (fun _ => Nat.le_of_ble_eq_true rfl) (fun Γ => ?_)
  refine x_aload_n d_G_takeGroupColumn_0 rfl ?_
  refine x_iload_n d_G_takeGroupColumn_1 rfl ?_
  refine x_cVe (c_G_isChainColumn σ c hN) k_G_101 v_G_isChainColumn d_G_takeGroupColumn_2 rfl (by omega) (by first | assumption | exact vu_s | exact vu_t (by omega) (by first | assumption | exact vu_s | exact vu_t (by omega) (by first | assumption | exact vu_s | exact vu_t (by omega) (by first | assumption | exact vu_s))) | rfl | (simp only [va_up, Nat.reduceEqDiff, ↓reduceIte]; first | rfl | assumption)) rfl (by omega) (Nat.le_of_ble_eq_true rfl) ?_
  obtain ⟨s, fi, la, op, bt, cc, ck, cn, gr, al⟩ := σ
  refine x_if_ne 10 d_G_takeGroupColumn_5 (by decide) (fun c1 => ?_) (fun c1 => ?_)
  · rw [bi1] at c1
    refine x_aload_n d_G_takeGroupColumn_10 rfl ?_
    refine x_iload_n d_G_takeGroupColumn_11 rfl ?_
    refine x_cSe (c_T_columnOf c) k_G_107 s_T_columnOf d_G_takeGroupColumn_12 rfl (by omega) (Nat.le_of_ble_eq_true rfl) ?_
    refine x_put f_G_46 d_G_takeGroupColumn_15 (by omega) (by first | assumption | exact vu_s | exact vu_t (by omega) (by first | assumption | exact vu_s | exact vu_t (by omega) (by first | assumption | exact vu_s | exact vu_t (by omega) (by first | assumption | exact vu_s))) | rfl | (simp only [va_up, Nat.reduceEqDiff, ↓reduceIte]; first | rfl | assumption)) (Nat.le_of_ble_eq_true rfl) (fun _ => ⟨rfl, rfl⟩) ?_
    refine x_aload_n d_G_takeGroupColumn_18 rfl ?_
    refine x_bipush (v := 9) d_G_takeGroupColumn_19 (by decide) ?_
    refine x_put f_G_49 d_G_takeGroupColumn_21 (by omega) (by first | assumption | exact vu_s | exact vu_t (by omega) (by first | assumption | exact vu_s | exact vu_t (by omega) (by first | assumption | exact vu_s | exact vu_t (by omega) (by first | assumption | exact vu_s))) | rfl | (simp only [va_up, Nat.reduceEqDiff, ↓reduceIte]; first | rfl | assumption)) (Nat.le_of_ble_eq_true rfl) (fun _ => ⟨rfl, rfl⟩) ?_
    refine x_iconst (v := 1) d_G_takeGroupColumn_24 (by decide) ?_
    refine x_zret d_G_takeGroupColumn_25 (by first | rfl | assumption) ?_
    rw [show gGrp (s, fi, la, op, bt, cc, ck, cn, gr, al) c = some (9, fi, la, op, bt, cc, ck, cn, colOf c, al) from if_pos c1, bx_uu]
    exact ⟨rfl, hG_put h (s, fi, la, op, bt, cc, ck, cn, gr, al) (9, fi, la, op, bt, cc, ck, cn, colOf c, al) rfl⟩
  · rw [bi0] at c1
    refine x_iconst (v := 0) d_G_takeGroupColumn_8 (by decide) ?_
    refine x_zret d_G_takeGroupColumn_9 (by first | rfl | assumption) ?_
    rw [show gGrp (s, fi, la, op, bt, cc, ck, cn, gr, al) c = none from if_neg (by rw [show isCC fi la c = false from c1]; decide)]
    exact ⟨rfl, rfl⟩
