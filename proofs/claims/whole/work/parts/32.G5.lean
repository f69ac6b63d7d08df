/-! Grammar: faultIn. -/
theorem gend_le : ∀ (n : Nat) (b : Int32), (gend n b).1 ≤ n
  | 0, b => Nat.le_refl _
  | n + 1, b => by
    unfold gend
    split
    · exact Nat.le_succ_of_le (gend_le n _)
    · exact Nat.le_refl _
theorem relOf_ge {c : Int32} (h : 0 ≤ relOf c) : 0 ≤ relOf c := h
theorem gTake_I {σ σ' : GS} {c : Int32} (hI : gI σ) (h : gTake σ c = some σ') : gI σ' := by
  obtain ⟨i1, i2, i3, i4⟩ := hI
  obtain ⟨s, fi, la, op, bt, cc, ck, cn, gr, al⟩ := σ
  have i1' : s ≤ 9 := i1
  have i2' : op ≤ 8 := i2
  have tail : ∀ {τ : GS}, gTail (s, fi, la, op, bt, cc, ck, cn, gr, al) c = some τ → gI τ := by
    intro τ h
    unfold gTail at h
    dsimp only at h
    split at h
    · cases h
      exact ⟨by show 4 ≤ 9; decide, i2, i3, i4⟩
    · split at h
      · cases h
        exact ⟨by show 8 ≤ 9; decide, i2, i3, i4⟩
      · cases h
  rcases (show s = 0 ∨ s = 1 ∨ s = 2 ∨ s = 3 ∨ s = 4 ∨ s = 5 ∨ s = 6 ∨ s = 7 ∨ s = 8 ∨ s = 9 by omega) with rfl | rfl | rfl | rfl | rfl | rfl | rfl | rfl | rfl | rfl
  · have h : gCh0 (0, fi, la, op, bt, cc, ck, cn, gr, al) c = some σ' := h
    unfold gCh0 at h
    dsimp only at h
    split at h
    · rename_i e
      cases h
      exact ⟨by show 1 ≤ 9; decide, i2, i3, e⟩
    · cases h
  · have h : gCh1 (1, fi, la, op, bt, cc, ck, cn, gr, al) c = some σ' := h
    unfold gCh1 at h
    dsimp only at h
    split at h
    · cases h
      exact ⟨by show 2 ≤ 9; decide, i2, i3, i4⟩
    · split at h
      · cases h
        exact ⟨by show 1 ≤ 9; decide, i2, i3, i4⟩
      · cases h
  · have h : gFactor (2, fi, la, op, bt, cc, ck, cn, gr, al) c = some σ' := h
    unfold gFactor at h
    dsimp only at h
    split at h
    · split at h
      · rename_i e
        cases h
        exact ⟨by show 2 ≤ 9; decide, by show op + 1 ≤ 8; omega, i3, i4⟩
      · cases h
    · split at h
      · cases h
        exact ⟨by show 3 ≤ 9; decide, Nat.le_trans (gend_le op bt) i2, i3, i4⟩
      · cases h
  · have h : gAfter (3, fi, la, op, bt, cc, ck, cn, gr, al) c = some σ' := h
    unfold gAfter at h
    dsimp only at h
    split at h
    · cases h
      exact ⟨by show 2 ≤ 9; decide, i2, i3, i4⟩
    · split at h
      · exact tail h
      · split at h
        · cases h
          exact ⟨by show 3 ≤ 9; decide, Nat.le_trans (gend_le (op - 1) _) (by omega), i3, i4⟩
        · cases h
  · have h : gCol (4, fi, la, op, bt, cc, ck, cn, gr, al) c = some σ' := h
    unfold gCol at h
    dsimp only at h
    split at h
    · rename_i e
      cases h
      exact ⟨by show 5 ≤ 9; decide, i2, (colOf_in i4 e).1, i4⟩
    · cases h
  · have h : gKind (5, fi, la, op, bt, cc, ck, cn, gr, al) c = some σ' := h
    unfold gKind at h
    dsimp only at h
    split at h
    · cases h
      exact ⟨by show 6 ≤ 9; decide, i2, i3, i4⟩
    · cases h
  · have h : gDig (6, fi, la, op, bt, cc, ck, cn, gr, al) c = some σ' := h
    unfold gDig at h
    dsimp only at h
    split at h
    · cases h
      exact ⟨by show 7 ≤ 9; decide, i2, i3, i4⟩
    · cases h
  · exact tail h
  · have h : gGrp (8, fi, la, op, bt, cc, ck, cn, gr, al) c = some σ' := h
    unfold gGrp at h
    dsimp only at h
    split at h
    · cases h
      exact ⟨by show 9 ≤ 9; decide, i2, i3, i4⟩
    · cases h
  · cases h
/-- after n signs: the first place that can't stand, or the state -/
def gRes (σ0 : GS) (f : Nat → Int32) : Nat → Nat ⊕ GS
  | 0 => .inr σ0
  | i + 1 => match gRes σ0 f i with
    | .inl k => .inl k
    | .inr σ => match gTake σ (f i) with
      | none => .inl i
      | some σ' => .inr σ'
theorem gRes_inl {σ0 : GS} {f : Nat → Int32} {k : Nat} : ∀ {i j : Nat}, i ≤ j → gRes σ0 f i = .inl k → gRes σ0 f j = .inl k
  | i, 0, h, e => by
    have : i = 0 := by omega
    subst this
    exact e
  | i, j + 1, h, e => by
    by_cases q : i = j + 1
    · subst q
      exact e
    · have := gRes_inl (show i ≤ j by omega) e
      simp only [gRes, this]
def fltC (σ0 : GS) (f : Nat → Int32) (n : Nat) : Int32 := match gRes σ0 f n with
  | .inl k => nI k
  | .inr σ => if gW σ then -2 else nI n
set_option maxRecDepth 100000 in
set_option maxHeartbeats 4000000 in
theorem c_G_faultIn {N : Nat} {h : xHp} (σ : GS) {n : Nat} {f : Nat → Int32} (hN : 94 ≤ N) (hn : n ≤ 30) (hI : gI (g0 σ)) (hf : ∀ j, chOK (f j)) (h5 : h 5 = .inr (2, [.ref 6, .int (nI n)])) (h6 : h 6 = .inl (1, 30, .inl f)) : XM y_G_faultIn b_G_faultIn 3 (some .int) 4 0 0 [.ref 7, .ref 5] N (hG h σ) (fun r h' => r = some (.int (fltC (g0 σ) f n)) ∧ ∃ σ', gI σ' ∧ h' = hG h σ' ∧ ∀ τ, gRes (g0 σ) f n = .inr τ → σ' = τ) := by
  have h7 := hG_7 h σ
  refine xM_intro [some (.ref 7), some (.ref 5), none] (by decide) (fun _ => rfl) (fun _ => Nat.le_of_ble_eq_true rfl) (fun Γ => ?_)
  refine x_aload_n d_G_faultIn_0 rfl ?_
  refine x_cVv (c_G_restart σ hN) k_G_15 v_G_restart d_G_faultIn_1 rfl (by omega) (by first | assumption | exact vu_s | exact vu_t (by omega) (by first | assumption | exact vu_s | exact vu_t (by omega) (by first | assumption | exact vu_s | exact vu_t (by omega) (by first | assumption | exact vu_s))) | rfl | (simp only [va_up, Nat.reduceEqDiff, ↓reduceIte]; first | rfl | assumption)) rfl (by omega) (Nat.le_of_ble_eq_true rfl) ?_
  refine x_iconst (v := 0) d_G_faultIn_4 (by decide) ?_
  refine x_istore_n d_G_faultIn_5 (by decide) rfl ?_
  generalize hQ : (fun (r : Option Value) (h' : xHp) => r = some (.int (fltC (g0 σ) f n)) ∧ ∃ σ', gI σ' ∧ h' = hG h σ' ∧ ∀ τ, gRes (g0 σ) f n = .inr τ → σ' = τ) = Qp
  have key : ∀ (m i : Nat) (τ : GS), i ≤ n → n - i < m → gI τ → gRes (g0 σ) f i = .inr τ → XW Γ y_G_faultIn b_G_faultIn 3 (some .int) (4, 0, 0) (xQ Γ (N + 0) 0 0 Qp) 0 0 N (hG h τ) 6 [some (.ref 7), some (.ref 5), some (.int (nI i))] [] := by
    intro m
    induction m with
    | zero => intro i τ _ h0; omega
    | succ m ih =>
      intro i τ hi him hIτ hres
      have k7 := hG_7 h τ
      have k5 : hG h τ 5 = .inr (2, [.ref 6, .int (nI n)]) := (hG_n h τ (by decide) (by decide)).trans h5
      have k6 : hG h τ 6 = .inl (1, 30, .inl f) := (hG_n h τ (by decide) (by decide)).trans h6
      refine x_iload_n d_G_faultIn_6 rfl ?_
      refine x_aload_n d_G_faultIn_7 rfl ?_
      refine x_cVe (c_T_length hN k5) k_G_18 v_T_length d_G_faultIn_8 rfl (by omega) (by first | assumption | exact vu_s | exact vu_t (by omega) (by first | assumption | exact vu_s | exact vu_t (by omega) (by first | assumption | exact vu_s | exact vu_t (by omega) (by first | assumption | exact vu_s))) | rfl | (simp only [va_up, Nat.reduceEqDiff, ↓reduceIte]; first | rfl | assumption)) rfl (by omega) (Nat.le_of_ble_eq_true rfl) ?_
      refine x_icmp_ge 34 d_G_faultIn_11 (by decide) (fun c1 => ?_) (fun c1 => ?_)
      · have e := nI_end hi (by omega) c1
        subst e
        refine x_aload_n d_G_faultIn_34 rfl ?_
        refine x_cVe (c_G_isWhole τ hN hIτ) k_G_32 v_G_isWhole d_G_faultIn_35 rfl (by omega) (by first | assumption | exact vu_s | exact vu_t (by omega) (by first | assumption | exact vu_s | exact vu_t (by omega) (by first | assumption | exact vu_s | exact vu_t (by omega) (by first | assumption | exact vu_s))) | rfl | (simp only [va_up, Nat.reduceEqDiff, ↓reduceIte]; first | rfl | assumption)) rfl (by omega) (Nat.le_of_ble_eq_true rfl) ?_
        refine x_if_eq 46 d_G_faultIn_38 (by decide) (fun c2 => ?_) (fun c2 => ?_)
        · rw [bi0] at c2
          refine x_aload_n d_G_faultIn_46 rfl ?_
          refine x_cVe (c_T_length hN k5) k_G_18 v_T_length d_G_faultIn_47 rfl (by omega) (by first | assumption | exact vu_s | exact vu_t (by omega) (by first | assumption | exact vu_s | exact vu_t (by omega) (by first | assumption | exact vu_s | exact vu_t (by omega) (by first | assumption | exact vu_s))) | rfl | (simp only [va_up, Nat.reduceEqDiff, ↓reduceIte]; first | rfl | assumption)) rfl (by omega) (Nat.le_of_ble_eq_true rfl) ?_
          refine x_iret d_G_faultIn_50 ?_
          rw [← hQ]
          refine ⟨by simp only [fltC, hres, c2]; rfl, τ, hIτ, rfl, fun τ' e => ?_⟩
          rw [hres] at e
          exact Sum.inr.inj e
        · rw [bi1] at c2
          refine x_bipush (v := -2) d_G_faultIn_41 (by decide) ?_
          refine x_goto 50 d_G_faultIn_43 (by decide) ?_
          refine x_iret d_G_faultIn_50 ?_
          rw [← hQ]
          refine ⟨by simp only [fltC, hres, c2]; rfl, τ, hIτ, rfl, fun τ' e => ?_⟩
          rw [hres] at e
          exact Sum.inr.inj e
      · have hlt := nI_more hi (by omega) c1
        refine x_aload_n d_G_faultIn_14 rfl ?_
        refine x_aload_n d_G_faultIn_15 rfl ?_
        refine x_iload_n d_G_faultIn_16 rfl ?_
        refine x_cVe (c_T_at (nI i) hN hn (fun j => (hf j).1) k5 k6) k_G_24 v_T_at d_G_faultIn_17 rfl (by omega) (by first | assumption | exact vu_s | exact vu_t (by omega) (by first | assumption | exact vu_s | exact vu_t (by omega) (by first | assumption | exact vu_s | exact vu_t (by omega) (by first | assumption | exact vu_s))) | rfl | (simp only [va_up, Nat.reduceEqDiff, ↓reduceIte]; first | rfl | assumption)) rfl (by omega) (Nat.le_of_ble_eq_true rfl) ?_
        rw [if_pos ⟨nI_pos' (by omega), nI_lt hlt (by omega)⟩, nI_clamp (show i < 2 ^ 31 by omega)]
        refine x_cV (c_G_take τ (f i) hN hIτ (hf i)) k_G_28 v_G_take d_G_faultIn_20 rfl (by omega) (by first | assumption | exact vu_s | exact vu_t (by omega) (by first | assumption | exact vu_s | exact vu_t (by omega) (by first | assumption | exact vu_s | exact vu_t (by omega) (by first | assumption | exact vu_s))) | rfl | (simp only [va_up, Nat.reduceEqDiff, ↓reduceIte]; first | rfl | assumption)) rfl (by omega) (Nat.le_of_ble_eq_true rfl) ?_
        intro r h' hq
        cases hg : gTake τ (f i) with
        | none =>
          rw [hg] at hq
          obtain ⟨rfl, rfl⟩ := hq
          refine x_if_ne 28 d_G_faultIn_23 (by decide) (fun c2 => ?_) (fun c2 => ?_)
          · exact absurd rfl c2
          · refine x_iload_n d_G_faultIn_26 rfl ?_
            refine x_iret d_G_faultIn_27 ?_
            have e1 : gRes (g0 σ) f (i + 1) = .inl i := by simp only [gRes, hres, hg]
            have e2 := gRes_inl (show i + 1 ≤ n by omega) e1
            rw [← hQ]
            refine ⟨by simp only [fltC, e2], τ, hIτ, rfl, fun τ' e => ?_⟩
            rw [e2] at e
            cases e
        | some τ' =>
          rw [hg] at hq
          obtain ⟨rfl, rfl⟩ := hq
          refine x_if_ne 28 d_G_faultIn_23 (by decide) (fun c2 => ?_) (fun c2 => ?_)
          · refine x_iinc1 d_G_faultIn_28 rfl (by decide) rfl ?_
            refine x_goto 6 d_G_faultIn_31 (by decide) ?_
            rw [nI_1]
            exact ih (i + 1) τ' (by omega) (by omega) (gTake_I hIτ hg) (by simp only [gRes, hres, hg])
          · exact absurd c2 (by decide)
  exact key (n + 1) 0 (g0 σ) (by omega) (by omega) hI rfl
set_option maxRecDepth 100000 in
set_option maxHeartbeats 4000000 in
theorem c_G_firstRelation {N : Nat} {h : xHp} (σ : GS) (hN : 94 ≤ N) (h7 : h 7 = oG σ) : XM y_G_firstRelation b_G_firstRelation 1 (some .int) 0 0 0 [.ref 7] N h (xR (some (.int σ.2.1)) h) := by
  refine xM_intro [some (.ref 7)] (by decide) (fun _ => rfl) (fun _ => Nat.le_of_ble_eq_true rfl) (fun Γ => ?_)
  refine x_aload_n d_G_firstRelation_0 rfl ?_
  refine x_get f_G_36 d_G_firstRelation_1 (by omega) (by first | assumption | exact vu_s | exact vu_t (by omega) (by first | assumption | exact vu_s | exact vu_t (by omega) (by first | assumption | exact vu_s | exact vu_t (by omega) (by first | assumption | exact vu_s))) | rfl | (simp only [va_up, Nat.reduceEqDiff, ↓reduceIte]; first | rfl | assumption)) rfl ?_
  refine x_iret d_G_firstRelation_4 ?_
  exact ⟨rfl, rfl⟩
set_option maxRecDepth 100000 in
set_option maxHeartbeats 4000000 in
theorem c_G_lastRelation {N : Nat} {h : xHp} (σ : GS) (hN : 94 ≤ N) (h7 : h 7 = oG σ) : XM y_G_lastRelation b_G_lastRelation 1 (some .int) 0 0 0 [.ref 7] N h (xR (some (.int σ.2.2.1)) h) := by
  refine xM_intro [some (.ref 7)] (by decide) (fun _ => rfl) (fun _ => Nat.le_of_ble_eq_true rfl) (fun Γ => ?_)
  refine x_aload_n d_G_lastRelation_0 rfl ?_
  refine x_get f_G_40 d_G_lastRelation_1 (by omega) (by first | assumption | exact vu_s | exact vu_t (by omega) (by first | assumption | exact vu_s | exact vu_t (by omega) (by first | assumption | exact vu_s | exact vu_t (by omega) (by first | assumption | exact vu_s))) | rfl | (simp only [va_up, Nat.reduceEqDiff, ↓reduceIte]; first | rfl | assumption)) rfl ?_
  refine x_iret d_G_lastRelation_4 ?_
  exact ⟨rfl, rfl⟩
set_option maxRecDepth 100000 in
set_option maxHeartbeats 4000000 in
theorem c_G_conditions {N : Nat} {h : xHp} (σ : GS) (hN : 94 ≤ N) (h7 : h 7 = oG σ) : XM y_G_conditions b_G_conditions 1 (some .int) 0 0 0 [.ref 7] N h (xR (some (.int σ.2.2.2.2.2.2.2.1)) h) := by
  refine xM_intro [some (.ref 7)] (by decide) (fun _ => rfl) (fun _ => Nat.le_of_ble_eq_true rfl) (fun Γ => ?_)
  refine x_aload_n d_G_conditions_0 rfl ?_
  refine x_get f_G_43 d_G_conditions_1 (by omega) (by first | assumption | exact vu_s | exact vu_t (by omega) (by first | assumption | exact vu_s | exact vu_t (by omega) (by first | assumption | exact vu_s | exact vu_t (by omega) (by first | assumption | exact vu_s))) | rfl | (simp only [va_up, Nat.reduceEqDiff, ↓reduceIte]; first | rfl | assumption)) rfl ?_
  refine x_iret d_G_conditions_4 ?_
  exact ⟨rfl, rfl⟩
set_option maxRecDepth 100000 in
set_option maxHeartbeats 4000000 in
theorem c_G_groupColumn {N : Nat} {h : xHp} (σ : GS) (hN : 94 ≤ N) (h7 : h 7 = oG σ) : XM y_G_groupColumn b_G_groupColumn 1 (some .int) 0 0 0 [.ref 7] N h (xR (some (.int σ.2.2.2.2.2.2.2.2.1)) h) := by
  refine xM_intro [some (.ref 7)] (by decide) (fun _ => rfl) (fun _ => Nat.le_of_ble_eq_true rfl) (fun Γ => ?_)
  refine x_aload_n d_G_groupColumn_0 rfl ?_
  refine x_get f_G_46 d_G_groupColumn_1 (by omega) (by first | assumption | exact vu_s | exact vu_t (by omega) (by first | assumption | exact vu_s | exact vu_t (by omega) (by first | assumption | exact vu_s | exact vu_t (by omega) (by first | assumption | exact vu_s))) | rfl | (simp only [va_up, Nat.reduceEqDiff, ↓reduceIte]; first | rfl | assumption)) rfl ?_
  refine x_iret d_G_groupColumn_4 ?_
  exact ⟨rfl, rfl⟩
set_option maxRecDepth 100000 in
set_option maxHeartbeats 4000000 in
theorem c_G_expressionStart {N : Nat} {h : xHp} (σ : GS) (hN : 94 ≤ N) (h7 : h 7 = oG σ) : XM y_G_expressionStart b_G_expressionStart 2 (some .int) 0 0 0 [.ref 7] N h (xR (some (.int (σ.2.2.1 - σ.2.1 + 1 + 1))) h) := by
  refine xM_intro [some (.ref 7), none] (by decide) (fun _ => rfl) (fun _ => Nat.le_of_ble_eq_true rfl) (fun Γ => ?_)
  refine x_aload_n d_G_expressionStart_0 rfl ?_
  refine x_get f_G_40 d_G_expressionStart_1 (by omega) (by first | assumption | exact vu_s | exact vu_t (by omega) (by first | assumption | exact vu_s | exact vu_t (by omega) (by first | assumption | exact vu_s | exact vu_t (by omega) (by first | assumption | exact vu_s))) | rfl | (simp only [va_up, Nat.reduceEqDiff, ↓reduceIte]; first | rfl | assumption)) rfl ?_
  refine x_aload_n d_G_expressionStart_4 rfl ?_
  refine x_get f_G_36 d_G_expressionStart_5 (by omega) (by first | assumption | exact vu_s | exact vu_t (by omega) (by first | assumption | exact vu_s | exact vu_t (by omega) (by first | assumption | exact vu_s | exact vu_t (by omega) (by first | assumption | exact vu_s))) | rfl | (simp only [va_up, Nat.reduceEqDiff, ↓reduceIte]; first | rfl | assumption)) rfl ?_
  refine x_isub d_G_expressionStart_8 ?_
  refine x_iconst (v := 1) d_G_expressionStart_9 (by decide) ?_
  refine x_iadd d_G_expressionStart_10 ?_
  refine x_istore_n d_G_expressionStart_11 (by decide) rfl ?_
  refine x_iload_n d_G_expressionStart_12 rfl ?_
  refine x_iconst (v := 1) d_G_expressionStart_13 (by decide) ?_
  refine x_iadd d_G_expressionStart_14 ?_
  refine x_iret d_G_expressionStart_15 ?_
  exact ⟨rfl, rfl⟩
set_option maxRecDepth 100000 in
set_option maxHeartbeats 4000000 in
theorem c_G_allowedIn {N : Nat} {h : xHp} (σ : GS) {c : Nat} (hN : 94 ≤ N) (hc : c < 4) (h7 : h 7 = oG σ) (h8 : h 8 = aI 4 σ.2.2.2.2.2.2.2.2.2) : XM y_G_allowedIn b_G_allowedIn 2 (some .int) 0 0 0 [.ref 7, .int (nI c)] N h (xR (some (.int (σ.2.2.2.2.2.2.2.2.2 c))) h) := by
  have hi : vp_in (nI c) 4 := vp_in_nI hc (by decide)
  refine xM_intro [some (.ref 7), some (.int (nI c))] (by decide) (fun _ => rfl) (fun _ => Nat.le_of_ble_eq_true rfl) (fun Γ => ?_)
  refine x_aload_n d_G_allowedIn_0 rfl ?_
  refine x_get f_G_9 d_G_allowedIn_1 (by omega) (by first | assumption | exact vu_s | exact vu_t (by omega) (by first | assumption | exact vu_s | exact vu_t (by omega) (by first | assumption | exact vu_s | exact vu_t (by omega) (by first | assumption | exact vu_s))) | rfl | (simp only [va_up, Nat.reduceEqDiff, ↓reduceIte]; first | rfl | assumption)) rfl ?_
  refine x_iload_n d_G_allowedIn_4 rfl ?_
  refine x_iald d_G_allowedIn_5 (by omega) (by first | assumption | exact vu_s | exact vu_t (by omega) (by first | assumption | exact vu_s | exact vu_t (by omega) (by first | assumption | exact vu_s | exact vu_t (by omega) (by first | assumption | exact vu_s))) | rfl | (simp only [va_up, Nat.reduceEqDiff, ↓reduceIte]; first | rfl | assumption)) (by assumption) ?_
  refine x_iret d_G_allowedIn_6 ?_
  exact ⟨by rw [nI_clamp (show c < 2 ^ 31 by omega)], rfl⟩
