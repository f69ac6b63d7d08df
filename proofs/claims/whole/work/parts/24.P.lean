/-! Polynomial: an object p, its coefficients p + 1. Arrays.fill. -/
abbrev oP (p : Nat) : xE := .inr (5, [.ref (p + 1)])
def filF (f : Nat → Int32) (v : Int32) (k : Nat) : Nat → Int32 := fun j => if j < k then v else f j
theorem filF_0 (f : Nat → Int32) (v : Int32) : filF f v 0 = f := by funext j; simp [filF]
theorem filF_s (f : Nat → Int32) (v : Int32) (k : Nat) : upd (filF f v k) k v = filF f v (k + 1) := by
  funext j
  by_cases e : j = k
  · subst e
    simp [upd, filF]
  · simp only [upd, filF, if_neg e]
    by_cases e2 : j < k
    · rw [if_pos e2, if_pos (by omega)]
    · rw [if_neg e2, if_neg (by omega)]
set_option maxRecDepth 100000 in
set_option maxHeartbeats 4000000 in
theorem c_A_fill {N : Nat} {h : xHp} {a n : Nat} {f : Nat → Int32} (v : Int32) (ha : a < N) (hn : n < 100000) (h1 : h a = aI n f) : XM y_A_fill b_A_fill 4 none 0 0 0 [.ref a, .int v] N h (xR none (va_up h a (aI n (filF f v n)))) := by
  refine xM_intro [some (.ref a), some (.int v), none, none] (by decide) (fun _ => rfl) (fun _ => Nat.le_of_ble_eq_true rfl) (fun Γ => ?_)
  refine x_iconst (v := 0) d_A_fill_0 (by decide) ?_
  refine x_istore_n d_A_fill_1 (by decide) rfl ?_
  refine x_aload_n d_A_fill_2 rfl ?_
  refine x_alenN d_A_fill_3 (by omega) (by first | assumption | exact vu_s | exact vu_t (by omega) (by first | assumption | exact vu_s | exact vu_t (by omega) (by first | assumption | exact vu_s | exact vu_t (by omega) (by first | assumption | exact vu_s))) | rfl | (simp only [va_up, Nat.reduceEqDiff, ↓reduceIte]; first | rfl | assumption)) rfl ?_
  refine x_istore_n d_A_fill_4 (by decide) rfl ?_
  have key : ∀ (m k : Nat), k ≤ n → n - k < m → XW Γ y_A_fill b_A_fill 4 none (0, 0, 0) (xQ Γ (N + 0) 0 0 (xR none (va_up h a (aI n (filF f v n))))) 0 0 N (va_up h a (aI n (filF f v k))) 5 [some (.ref a), some (.int v), some (.int (nI k)), some (.int (nI n))] [] := by
    intro m
    induction m with
    | zero => intro k _ h0; omega
    | succ m ih =>
      intro k hk hkn
      refine x_iload_n d_A_fill_5 rfl ?_
      refine x_iload_n d_A_fill_6 rfl ?_
      refine x_icmp_ge 20 d_A_fill_7 (by decide) (fun c1 => ?_) (fun c1 => ?_)
      · have e : k = n := by
          rcases Nat.lt_or_ge k n with q | q
          · exact absurd c1 (nI_ge q (by omega))
          · omega
        subst e
        refine x_vret d_A_fill_20 ?_
        exact ⟨rfl, rfl⟩
      · have hlt : k < n := by
          rcases Nat.lt_or_ge k n with q | q
          · exact q
          · exact absurd (nI_le q (by omega)) c1
        have hi : vp_in (nI k) n := vp_in_nI hlt (by omega)
        refine x_aload_n d_A_fill_10 rfl ?_
        refine x_iload_n d_A_fill_11 rfl ?_
        refine x_iload_n d_A_fill_12 rfl ?_
        refine x_iast d_A_fill_13 (by omega) (by first | assumption | exact vu_s | exact vu_t (by omega) (by first | assumption | exact vu_s | exact vu_t (by omega) (by first | assumption | exact vu_s | exact vu_t (by omega) (by first | assumption | exact vu_s))) | rfl | (simp only [va_up, Nat.reduceEqDiff, ↓reduceIte]; first | rfl | assumption)) (by assumption) ?_
        refine x_iinc1 d_A_fill_14 rfl (by decide) rfl ?_
        refine x_goto 5 d_A_fill_17 (by decide) ?_
        rw [nI_1, nI_clamp (by omega), filF_s, bx_uu]
        exact ih (k + 1) (by omega) (by omega)
  have := key (n + 1) 0 (by omega) (by omega)
  rw [filF_0, show aI n f = h a from h1.symm, vu_e] at this
  exact this
def cp : Nat → Nat
  | 0 => 1
  | 1 => 3
  | 2 => 9
  | _ => 27
def pw (k c : Nat) : Nat := k / cp c % 3
theorem cp_in : ∀ c, c < 4 → 0 < cp c ∧ cp c < 28 := by decide
theorem cp_tab {c : Nat} (hc : c < 4) : (match (nI c).toNatClampNeg with | 0 => (1 : Int32) | 1 => 3 | 2 => 9 | _ => 27) = nI (cp c) := by
  rcases (show c = 0 ∨ c = 1 ∨ c = 2 ∨ c = 3 by omega) with rfl | rfl | rfl | rfl <;> rfl
set_option maxRecDepth 100000 in
set_option maxHeartbeats 4000000 in
theorem c_P_powerAt {N : Nat} {h : xHp} {k c : Nat} (hk : k < 1000) (hc : c < 4) : XM y_P_powerAt b_P_powerAt 2 (some .int) 0 0 0 [.int (nI k), .int (nI c)] N h (xR (some (.int (nI (pw k c)))) h) := by
  have hi : vp_in (nI c) 4 := vp_in_nI hc (by decide)
  refine xM_intro [some (.int (nI k)), some (.int (nI c))] (by decide) (fun _ => rfl) (fun _ => Nat.le_of_ble_eq_true rfl) (fun Γ => ?_)
  refine x_iload_n d_P_powerAt_0 rfl ?_
  refine x_gets (i := 0) rfl w_P_15 d_P_powerAt_1 ?_
  refine x_iload_n d_P_powerAt_4 rfl ?_
  refine x_tald (j := 0) (v := nI (cp c)) rfl rfl d_P_powerAt_5 hi (congrArg Value.int (cp_tab hc)) ?_
  refine x_idiv d_P_powerAt_6 (nI_ne0 (cp_in c hc).1 (by have := (cp_in c hc).2; omega)) ?_
  refine x_iconst (v := 3) d_P_powerAt_7 (by decide) ?_
  refine x_irem d_P_powerAt_8 (by decide) ?_
  refine x_iret d_P_powerAt_9 ?_
  refine ⟨?_, rfl⟩
  have h3 : (3 : Int32) = nI 3 := rfl
  have hd : k / cp c < 2 ^ 31 := Nat.lt_of_le_of_lt (Nat.div_le_self _ _) (by omega)
  rw [pk_div (by omega) (cp_in c hc).1 (by have := (cp_in c hc).2; omega), h3, pk_rem hd (by decide) (by decide)]
  rfl
set_option maxRecDepth 100000 in
set_option maxHeartbeats 4000000 in
theorem c_P_at {N : Nat} {h : xHp} {p : Nat} {f : Nat → Int32} {i : Int32} (hN : p + 1 < N) (h1 : h p = oP p) (h2 : h (p + 1) = aI 81 f) (hi : vp_in i 81) : XM y_P_at b_P_at 2 (some .int) 0 0 0 [.ref p, .int i] N h (xR (some (.int (f i.toNatClampNeg))) h) := by
  refine xM_intro [some (.ref p), some (.int i)] (by decide) (fun _ => rfl) (fun _ => Nat.le_of_ble_eq_true rfl) (fun Γ => ?_)
  refine x_aload_n d_P_at_0 rfl ?_
  refine x_get f_P_11 d_P_at_1 (by omega) (by first | assumption | exact vu_s | exact vu_t (by omega) (by first | assumption | exact vu_s | exact vu_t (by omega) (by first | assumption | exact vu_s | exact vu_t (by omega) (by first | assumption | exact vu_s))) | rfl | (simp only [va_up, Nat.reduceEqDiff, ↓reduceIte]; first | rfl | assumption)) rfl ?_
  refine x_iload_n d_P_at_4 rfl ?_
  refine x_iald d_P_at_5 (by omega) (by first | assumption | exact vu_s | exact vu_t (by omega) (by first | assumption | exact vu_s | exact vu_t (by omega) (by first | assumption | exact vu_s | exact vu_t (by omega) (by first | assumption | exact vu_s))) | rfl | (simp only [va_up, Nat.reduceEqDiff, ↓reduceIte]; first | rfl | assumption)) (by assumption) ?_
  refine x_iret d_P_at_6 ?_
  exact ⟨rfl, rfl⟩
set_option maxRecDepth 100000 in
set_option maxHeartbeats 4000000 in
theorem c_P_terms {N : Nat} {h : xHp} {p : Nat} {f : Nat → Int32} (hN : p + 1 < N) (h1 : h p = oP p) (h2 : h (p + 1) = aI 81 f) : XM y_P_terms b_P_terms 3 (some .int) 0 0 0 [.ref p] N h (xR (some (.int (nI (filN f 81)))) h) := by
  refine xM_intro [some (.ref p), none, none] (by decide) (fun _ => rfl) (fun _ => Nat.le_of_ble_eq_true rfl) (fun Γ => ?_)
  refine x_iconst (v := 0) d_P_terms_0 (by decide) ?_
  refine x_istore_n d_P_terms_1 (by decide) rfl ?_
  refine x_iconst (v := 0) d_P_terms_2 (by decide) ?_
  refine x_istore_n d_P_terms_3 (by decide) rfl ?_
  have key : ∀ (n k : Nat), k ≤ 81 → 81 - k < n → XW Γ y_P_terms b_P_terms 3 (some .int) (0, 0, 0) (xQ Γ (N + 0) 0 0 (xR (some (.int (nI (filN f 81)))) h)) 0 0 N h 4 [some (.ref p), some (.int (nI (filN f k))), some (.int (nI k))] [] := by
    intro n
    induction n with
    | zero => intro k _ h0; omega
    | succ n ih =>
      intro k hk hkn
      refine x_iload_n d_P_terms_4 rfl ?_
      refine x_bipush (v := 81) d_P_terms_5 (by decide) ?_
      refine x_icmp_ge 28 d_P_terms_7 (by decide) (fun c1 => ?_) (fun c1 => ?_)
      · have e : k = 81 := by
          rcases Nat.lt_or_ge k 81 with q | q
          · exact absurd c1 (nI_ge q (by decide))
          · omega
        subst e
        refine x_iload_n d_P_terms_28 rfl ?_
        refine x_iret d_P_terms_29 ?_
        exact ⟨rfl, rfl⟩
      · have hlt : k < 81 := by
          rcases Nat.lt_or_ge k 81 with q | q
          · exact q
          · exact absurd (nI_le q (by omega)) c1
        have hi : vp_in (nI k) 81 := vp_in_nI hlt (by decide)
        refine x_aload_n d_P_terms_10 rfl ?_
        refine x_get f_P_11 d_P_terms_11 (by omega) (by first | assumption | exact vu_s | exact vu_t (by omega) (by first | assumption | exact vu_s | exact vu_t (by omega) (by first | assumption | exact vu_s | exact vu_t (by omega) (by first | assumption | exact vu_s))) | rfl | (simp only [va_up, Nat.reduceEqDiff, ↓reduceIte]; first | rfl | assumption)) rfl ?_
        refine x_iload_n d_P_terms_14 rfl ?_
        refine x_iald d_P_terms_15 (by omega) (by first | assumption | exact vu_s | exact vu_t (by omega) (by first | assumption | exact vu_s | exact vu_t (by omega) (by first | assumption | exact vu_s | exact vu_t (by omega) (by first | assumption | exact vu_s))) | rfl | (simp only [va_up, Nat.reduceEqDiff, ↓reduceIte]; first | rfl | assumption)) (by assumption) ?_
        refine x_if_eq 22 d_P_terms_16 (by decide) (fun c2 => ?_) (fun c2 => ?_)
        · rw [nI_clamp (by omega)] at c2
          refine x_iinc1 d_P_terms_22 rfl (by decide) rfl ?_
          refine x_goto 4 d_P_terms_25 (by decide) ?_
          rw [nI_1]
          have := ih (k + 1) (by omega) (by omega)
          rw [show filN f (k + 1) = filN f k by simp [filN, c2]] at this
          exact this
        · rw [nI_clamp (by omega)] at c2
          refine x_iinc1 d_P_terms_19 rfl (by decide) rfl ?_
          refine x_iinc1 d_P_terms_22 rfl (by decide) rfl ?_
          refine x_goto 4 d_P_terms_25 (by decide) ?_
          rw [nI_1, nI_1]
          have := ih (k + 1) (by omega) (by omega)
          rw [show filN f (k + 1) = filN f k + 1 by simp [filN, c2]] at this
          exact this
  exact key 82 0 (by omega) (by omega)
set_option maxRecDepth 100000 in
set_option maxHeartbeats 4000000 in
theorem c_P_becomeNumber {N : Nat} {h : xHp} {p : Nat} {f : Nat → Int32} (v : Int32) (hN : p + 1 < N) (h1 : h p = oP p) (h2 : h (p + 1) = aI 81 f) : XM y_P_becomeNumber b_P_becomeNumber 2 none 1 0 0 [.ref p, .int v] N h (xR none (va_up h (p + 1) (aI 81 (upd (filF f 0 81) 0 v)))) := by
  have hi : vp_in (0 : Int32) 81 := by unfold vp_in; decide
  refine xM_intro [some (.ref p), some (.int v)] (by decide) (fun _ => rfl) (fun _ => Nat.le_of_ble_eq_true rfl) (fun Γ => ?_)
  refine x_aload_n d_P_becomeNumber_0 rfl ?_
  refine x_get f_P_11 d_P_becomeNumber_1 (by omega) (by first | assumption | exact vu_s | exact vu_t (by omega) (by first | assumption | exact vu_s | exact vu_t (by omega) (by first | assumption | exact vu_s | exact vu_t (by omega) (by first | assumption | exact vu_s))) | rfl | (simp only [va_up, Nat.reduceEqDiff, ↓reduceIte]; first | rfl | assumption)) rfl ?_
  refine x_iconst (v := 0) d_P_becomeNumber_4 (by decide) ?_
  refine x_cSv (c_A_fill 0 (by omega) (by decide) h2) k_P_18 s_A_fill d_P_becomeNumber_5 rfl (by omega) (by decide) ?_
  refine x_aload_n d_P_becomeNumber_8 rfl ?_
  refine x_get f_P_11 d_P_becomeNumber_9 (by omega) (by first | assumption | exact vu_s | exact vu_t (by omega) (by first | assumption | exact vu_s | exact vu_t (by omega) (by first | assumption | exact vu_s | exact vu_t (by omega) (by first | assumption | exact vu_s))) | rfl | (simp only [va_up, Nat.reduceEqDiff, ↓reduceIte]; first | rfl | assumption)) rfl ?_
  refine x_iconst (v := 0) d_P_becomeNumber_12 (by decide) ?_
  refine x_iload_n d_P_becomeNumber_13 rfl ?_
  refine x_iast d_P_becomeNumber_14 (by omega) (by first | assumption | exact vu_s | exact vu_t (by omega) (by first | assumption | exact vu_s | exact vu_t (by omega) (by first | assumption | exact vu_s | exact vu_t (by omega) (by first | assumption | exact vu_s))) | rfl | (simp only [va_up, Nat.reduceEqDiff, ↓reduceIte]; first | rfl | assumption)) (by assumption) ?_
  refine x_vret d_P_becomeNumber_15 ?_
  refine ⟨rfl, ?_⟩
  rw [bx_uu]
  rfl
set_option maxRecDepth 100000 in
set_option maxHeartbeats 4000000 in
theorem c_P_becomeColumn {N : Nat} {h : xHp} {p c : Nat} {f : Nat → Int32} (hN : p + 1 < N) (hc : c < 4) (h1 : h p = oP p) (h2 : h (p + 1) = aI 81 f) : XM y_P_becomeColumn b_P_becomeColumn 2 none 1 0 0 [.ref p, .int (nI c)] N h (xR none (va_up h (p + 1) (aI 81 (upd (filF f 0 81) (cp c) 1)))) := by
  have hi : vp_in (nI c) 4 := vp_in_nI hc (by decide)
  have hi2 : vp_in (nI (cp c)) 81 := vp_in_nI (by have := (cp_in c hc).2; omega) (by decide)
  refine xM_intro [some (.ref p), some (.int (nI c))] (by decide) (fun _ => rfl) (fun _ => Nat.le_of_ble_eq_true rfl) (fun Γ => ?_)
  refine x_aload_n d_P_becomeColumn_0 rfl ?_
  refine x_get f_P_11 d_P_becomeColumn_1 (by omega) (by first | assumption | exact vu_s | exact vu_t (by omega) (by first | assumption | exact vu_s | exact vu_t (by omega) (by first | assumption | exact vu_s | exact vu_t (by omega) (by first | assumption | exact vu_s))) | rfl | (simp only [va_up, Nat.reduceEqDiff, ↓reduceIte]; first | rfl | assumption)) rfl ?_
  refine x_iconst (v := 0) d_P_becomeColumn_4 (by decide) ?_
  refine x_cSv (c_A_fill 0 (by omega) (by decide) h2) k_P_18 s_A_fill d_P_becomeColumn_5 rfl (by omega) (by decide) ?_
  refine x_aload_n d_P_becomeColumn_8 rfl ?_
  refine x_get f_P_11 d_P_becomeColumn_9 (by omega) (by first | assumption | exact vu_s | exact vu_t (by omega) (by first | assumption | exact vu_s | exact vu_t (by omega) (by first | assumption | exact vu_s | exact vu_t (by omega) (by first | assumption | exact vu_s))) | rfl | (simp only [va_up, Nat.reduceEqDiff, ↓reduceIte]; first | rfl | assumption)) rfl ?_
  refine x_gets (i := 0) rfl w_P_15 d_P_becomeColumn_12 ?_
  refine x_iload_n d_P_becomeColumn_15 rfl ?_
  refine x_tald (j := 0) (v := nI (cp c)) rfl rfl d_P_becomeColumn_16 hi (congrArg Value.int (cp_tab hc)) ?_
  refine x_iconst (v := 1) d_P_becomeColumn_17 (by decide) ?_
  refine x_iast d_P_becomeColumn_18 (by omega) (by first | assumption | exact vu_s | exact vu_t (by omega) (by first | assumption | exact vu_s | exact vu_t (by omega) (by first | assumption | exact vu_s | exact vu_t (by omega) (by first | assumption | exact vu_s))) | rfl | (simp only [va_up, Nat.reduceEqDiff, ↓reduceIte]; first | rfl | assumption)) (by assumption) ?_
  refine x_vret d_P_becomeColumn_19 ?_
  refine ⟨rfl, ?_⟩
  rw [bx_uu, nI_clamp (by have := (cp_in c hc).2; omega)]
set_option maxRecDepth 100000 in
set_option maxHeartbeats 4000000 in
theorem c_P_becomeCopy {N : Nat} {h : xHp} {p q : Nat} {f g : Nat → Int32} (hN : p + 1 < N) (hN2 : q + 1 < N) (h1 : h p = oP p) (h2 : h (p + 1) = aI 81 f) (h3 : h q = oP q) (h4 : h (q + 1) = aI 81 g) : XM y_P_becomeCopy b_P_becomeCopy 2 none 1 0 0 [.ref p, .ref q] N h (xR none (va_up h (p + 1) (aI 81 (va_cpy g f 0 0 81)))) := by
  refine xM_intro [some (.ref p), some (.ref q)] (by decide) (fun _ => rfl) (fun _ => Nat.le_of_ble_eq_true rfl) (fun Γ => ?_)
  refine x_aload_n d_P_becomeCopy_0 rfl ?_
  refine x_get f_P_11 d_P_becomeCopy_1 (by omega) (by first | assumption | exact vu_s | exact vu_t (by omega) (by first | assumption | exact vu_s | exact vu_t (by omega) (by first | assumption | exact vu_s | exact vu_t (by omega) (by first | assumption | exact vu_s))) | rfl | (simp only [va_up, Nat.reduceEqDiff, ↓reduceIte]; first | rfl | assumption)) rfl ?_
  refine x_iconst (v := 0) d_P_becomeCopy_4 (by decide) ?_
  refine x_aload_n d_P_becomeCopy_5 rfl ?_
  refine x_get f_P_11 d_P_becomeCopy_6 (by omega) (by first | assumption | exact vu_s | exact vu_t (by omega) (by first | assumption | exact vu_s | exact vu_t (by omega) (by first | assumption | exact vu_s | exact vu_t (by omega) (by first | assumption | exact vu_s))) | rfl | (simp only [va_up, Nat.reduceEqDiff, ↓reduceIte]; first | rfl | assumption)) rfl ?_
  refine x_iconst (v := 0) d_P_becomeCopy_9 (by decide) ?_
  refine x_bipush (v := 81) d_P_becomeCopy_10 (by decide) ?_
  refine x_copyi ay_P_24 d_P_becomeCopy_12 (by omega) (by first | assumption | exact vu_s | exact vu_t (by omega) (by first | assumption | exact vu_s | exact vu_t (by omega) (by first | assumption | exact vu_s | exact vu_t (by omega) (by first | assumption | exact vu_s))) | rfl | (simp only [va_up, Nat.reduceEqDiff, ↓reduceIte]; first | rfl | assumption)) (by omega) (by first | assumption | exact vu_s | exact vu_t (by omega) (by first | assumption | exact vu_s | exact vu_t (by omega) (by first | assumption | exact vu_s | exact vu_t (by omega) (by first | assumption | exact vu_s))) | rfl | (simp only [va_up, Nat.reduceEqDiff, ↓reduceIte]; first | rfl | assumption)) (by decide) (by decide) (by decide) (by decide) (by decide) (by omega) (by decide) ?_
  refine x_vret d_P_becomeCopy_15 ?_
  exact ⟨rfl, rfl⟩
def negU (f g : Nat → Int32) (k : Nat) : Nat → Int32 := fun j => if j < k then -g j else f j
theorem negU_s (f g : Nat → Int32) (k : Nat) : upd (negU f g k) k (-g k) = negU f g (k + 1) := by
  funext j
  by_cases e : j = k
  · subst e
    simp [upd, negU]
  · simp only [upd, negU, if_neg e]
    by_cases e2 : j < k
    · rw [if_pos e2, if_pos (by omega)]
    · rw [if_neg e2, if_neg (by omega)]
set_option maxRecDepth 100000 in
set_option maxHeartbeats 4000000 in
theorem c_P_becomeNegative {N : Nat} {h : xHp} {p q : Nat} {f g : Nat → Int32} (hN : p + 1 < N) (hN2 : q + 1 < N) (hpq : p + 1 < q ∨ q + 1 < p) (h1 : h p = oP p) (h2 : h (p + 1) = aI 81 f) (h3 : h q = oP q) (h4 : h (q + 1) = aI 81 g) : XM y_P_becomeNegative b_P_becomeNegative 3 none 0 0 0 [.ref p, .ref q] N h (xR none (va_up h (p + 1) (aI 81 (negU f g 81)))) := by
  refine xM_intro [some (.ref p), some (.ref q), none] (by decide) (fun _ => rfl) (fun _ => Nat.le_of_ble_eq_true rfl) (fun Γ => ?_)
  refine x_iconst (v := 0) d_P_becomeNegative_0 (by decide) ?_
  refine x_istore_n d_P_becomeNegative_1 (by decide) rfl ?_
  have key : ∀ (n k : Nat), k ≤ 81 → 81 - k < n → XW Γ y_P_becomeNegative b_P_becomeNegative 3 none (0, 0, 0) (xQ Γ (N + 0) 0 0 (xR none (va_up h (p + 1) (aI 81 (negU f g 81))))) 0 0 N (va_up h (p + 1) (aI 81 (negU f g k))) 2 [some (.ref p), some (.ref q), some (.int (nI k))] [] := by
    intro n
    induction n with
    | zero => intro k _ h0; omega
    | succ n ih =>
      intro k hk hkn
      refine x_iload_n d_P_becomeNegative_2 rfl ?_
      refine x_bipush (v := 81) d_P_becomeNegative_3 (by decide) ?_
      refine x_icmp_ge 27 d_P_becomeNegative_5 (by decide) (fun c1 => ?_) (fun c1 => ?_)
      · have e : k = 81 := by
          rcases Nat.lt_or_ge k 81 with q | q
          · exact absurd c1 (nI_ge q (by decide))
          · omega
        subst e
        refine x_vret d_P_becomeNegative_27 ?_
        exact ⟨rfl, rfl⟩
      · have hlt : k < 81 := by
          rcases Nat.lt_or_ge k 81 with q | q
          · exact q
          · exact absurd (nI_le q (by omega)) c1
        have hi : vp_in (nI k) 81 := vp_in_nI hlt (by decide)
        refine x_aload_n d_P_becomeNegative_8 rfl ?_
        refine x_get f_P_11 d_P_becomeNegative_9 (by omega) (by first | assumption | exact vu_s | exact vu_t (by omega) (by first | assumption | exact vu_s | exact vu_t (by omega) (by first | assumption | exact vu_s | exact vu_t (by omega) (by first | assumption | exact vu_s))) | rfl | (simp only [va_up, Nat.reduceEqDiff, ↓reduceIte]; first | rfl | assumption)) rfl ?_
        refine x_iload_n d_P_becomeNegative_12 rfl ?_
        refine x_aload_n d_P_becomeNegative_13 rfl ?_
        refine x_get f_P_11 d_P_becomeNegative_14 (by omega) (by first | assumption | exact vu_s | exact vu_t (by omega) (by first | assumption | exact vu_s | exact vu_t (by omega) (by first | assumption | exact vu_s | exact vu_t (by omega) (by first | assumption | exact vu_s))) | rfl | (simp only [va_up, Nat.reduceEqDiff, ↓reduceIte]; first | rfl | assumption)) rfl ?_
        refine x_iload_n d_P_becomeNegative_17 rfl ?_
        refine x_iald d_P_becomeNegative_18 (by omega) (by first | assumption | exact vu_s | exact vu_t (by omega) (by first | assumption | exact vu_s | exact vu_t (by omega) (by first | assumption | exact vu_s | exact vu_t (by omega) (by first | assumption | exact vu_s))) | rfl | (simp only [va_up, Nat.reduceEqDiff, ↓reduceIte]; first | rfl | assumption)) (by assumption) ?_
        refine x_ineg d_P_becomeNegative_19 ?_
        refine x_iast d_P_becomeNegative_20 (by omega) (by first | assumption | exact vu_s | exact vu_t (by omega) (by first | assumption | exact vu_s | exact vu_t (by omega) (by first | assumption | exact vu_s | exact vu_t (by omega) (by first | assumption | exact vu_s))) | rfl | (simp only [va_up, Nat.reduceEqDiff, ↓reduceIte]; first | rfl | assumption)) (by assumption) ?_
        refine x_iinc1 d_P_becomeNegative_21 rfl (by decide) rfl ?_
        refine x_goto 2 d_P_becomeNegative_24 (by decide) ?_
        rw [nI_1, nI_clamp (by omega), negU_s, bx_uu]
        exact ih (k + 1) (by omega) (by omega)
  have := key 82 0 (by omega) (by omega)
  rw [show negU f g 0 = f by funext j; simp [negU], show aI 81 f = h (p + 1) from h2.symm, vu_e] at this
  exact this
/-- a coefficient out of range among the first k -/
def lgT (f : Nat → Int32) : Nat → Bool
  | 0 => false
  | k + 1 => lgT f k || decide (1000 < f k) || decide (f k < -1000)
def isLg (f : Nat → Int32) : Bool := lgT f 81 || decide (12 < filN f 81)
theorem lgT_t {f : Nat → Int32} {k : Nat} (h : 1000 < f k ∨ f k < -1000) : ∀ n, k < n → lgT f n = true
  | 0, hk => by omega
  | n + 1, hk => by
    unfold lgT
    by_cases e : k = n
    · subst e
      rcases h with h | h <;> simp [h]
    · simp [lgT_t h n (by omega)]
set_option maxRecDepth 100000 in
set_option maxHeartbeats 4000000 in
theorem c_P_hasLargeTerms {N : Nat} {h : xHp} {p : Nat} {f : Nat → Int32} (hN : p + 1 < N) (h1 : h p = oP p) (h2 : h (p + 1) = aI 81 f) : XM y_P_hasLargeTerms b_P_hasLargeTerms 2 (some .boolean) 1 0 0 [.ref p] N h (xR (some (.int (bi (isLg f)))) h) := by
  refine xM_intro [some (.ref p), none] (by decide) (fun _ => rfl) (fun _ => Nat.le_of_ble_eq_true rfl) (fun Γ => ?_)
  refine x_iconst (v := 0) d_P_hasLargeTerms_0 (by decide) ?_
  refine x_istore_n d_P_hasLargeTerms_1 (by decide) rfl ?_
  have key : ∀ (n k : Nat), k ≤ 81 → 81 - k < n → lgT f k = false → XW Γ y_P_hasLargeTerms b_P_hasLargeTerms 2 (some .boolean) (1, 0, 0) (xQ Γ (N + 0) 0 0 (xR (some (.int (bi (isLg f)))) h)) 0 0 N h 2 [some (.ref p), some (.int (nI k))] [] := by
    intro n
    induction n with
    | zero => intro k _ h0; omega
    | succ n ih =>
      intro k hk hkn hlg
      refine x_iload_n d_P_hasLargeTerms_2 rfl ?_
      refine x_bipush (v := 81) d_P_hasLargeTerms_3 (by decide) ?_
      refine x_icmp_ge 40 d_P_hasLargeTerms_5 (by decide) (fun c1 => ?_) (fun c1 => ?_)
      · have e : k = 81 := by
          rcases Nat.lt_or_ge k 81 with q | q
          · exact absurd c1 (nI_ge q (by decide))
          · omega
        subst e
        refine x_aload_n d_P_hasLargeTerms_40 rfl ?_
        refine x_cVe (c_P_terms hN h1 h2) k_P_42 v_P_terms d_P_hasLargeTerms_41 rfl (by omega) (by first | assumption | exact vu_s | exact vu_t (by omega) (by first | assumption | exact vu_s | exact vu_t (by omega) (by first | assumption | exact vu_s | exact vu_t (by omega) (by first | assumption | exact vu_s))) | rfl | (simp only [va_up, Nat.reduceEqDiff, ↓reduceIte]; first | rfl | assumption)) rfl (by omega) (by decide) ?_
        refine x_bipush (v := 12) d_P_hasLargeTerms_44 (by decide) ?_
        have hle := filN_le f 81
        refine x_icmp_le 53 d_P_hasLargeTerms_46 (by decide) (fun c2 => ?_) (fun c2 => ?_)
        · have c3 : ¬ 12 < filN f 81 := fun q => absurd c2 (nI_ge q (by omega))
          refine x_iconst (v := 0) d_P_hasLargeTerms_53 (by decide) ?_
          refine x_zret d_P_hasLargeTerms_54 (by first | rfl | assumption) ?_
          exact ⟨by simp [isLg, hlg, c3, bi], rfl⟩
        · have c3 : 12 < filN f 81 := by
            rcases Nat.lt_or_ge 12 (filN f 81) with q | q
            · exact q
            · exact absurd (nI_le q (by decide)) c2
          refine x_iconst (v := 1) d_P_hasLargeTerms_49 (by decide) ?_
          refine x_goto 54 d_P_hasLargeTerms_50 (by decide) ?_
          refine x_zret d_P_hasLargeTerms_54 (by first | rfl | assumption) ?_
          exact ⟨by simp [isLg, c3, bi], rfl⟩
      · have hlt : k < 81 := by
          rcases Nat.lt_or_ge k 81 with q | q
          · exact q
          · exact absurd (nI_le q (by omega)) c1
        have hi : vp_in (nI k) 81 := vp_in_nI hlt (by decide)
        refine x_aload_n d_P_hasLargeTerms_8 rfl ?_
        refine x_get f_P_11 d_P_hasLargeTerms_9 (by omega) (by first | assumption | exact vu_s | exact vu_t (by omega) (by first | assumption | exact vu_s | exact vu_t (by omega) (by first | assumption | exact vu_s | exact vu_t (by omega) (by first | assumption | exact vu_s))) | rfl | (simp only [va_up, Nat.reduceEqDiff, ↓reduceIte]; first | rfl | assumption)) rfl ?_
        refine x_iload_n d_P_hasLargeTerms_12 rfl ?_
        refine x_iald d_P_hasLargeTerms_13 (by omega) (by first | assumption | exact vu_s | exact vu_t (by omega) (by first | assumption | exact vu_s | exact vu_t (by omega) (by first | assumption | exact vu_s | exact vu_t (by omega) (by first | assumption | exact vu_s))) | rfl | (simp only [va_up, Nat.reduceEqDiff, ↓reduceIte]; first | rfl | assumption)) (by assumption) ?_
        refine x_sipush (v := 1000) d_P_hasLargeTerms_14 (by decide) ?_
        refine x_icmp_gt 32 d_P_hasLargeTerms_17 (by decide) (fun c2 => ?_) (fun c2 => ?_)
        · rw [nI_clamp (by omega)] at c2
          refine x_iconst (v := 1) d_P_hasLargeTerms_32 (by decide) ?_
          refine x_zret d_P_hasLargeTerms_33 (by first | rfl | assumption) ?_
          exact ⟨by simp [isLg, lgT_t (Or.inl c2) 81 hlt, bi], rfl⟩
        · rw [nI_clamp (by omega)] at c2
          refine x_aload_n d_P_hasLargeTerms_20 rfl ?_
          refine x_get f_P_11 d_P_hasLargeTerms_21 (by omega) (by first | assumption | exact vu_s | exact vu_t (by omega) (by first | assumption | exact vu_s | exact vu_t (by omega) (by first | assumption | exact vu_s | exact vu_t (by omega) (by first | assumption | exact vu_s))) | rfl | (simp only [va_up, Nat.reduceEqDiff, ↓reduceIte]; first | rfl | assumption)) rfl ?_
          refine x_iload_n d_P_hasLargeTerms_24 rfl ?_
          refine x_iald d_P_hasLargeTerms_25 (by omega) (by first | assumption | exact vu_s | exact vu_t (by omega) (by first | assumption | exact vu_s | exact vu_t (by omega) (by first | assumption | exact vu_s | exact vu_t (by omega) (by first | assumption | exact vu_s))) | rfl | (simp only [va_up, Nat.reduceEqDiff, ↓reduceIte]; first | rfl | assumption)) (by assumption) ?_
          refine x_sipush (v := -1000) d_P_hasLargeTerms_26 (by decide) ?_
          refine x_icmp_ge 34 d_P_hasLargeTerms_29 (by decide) (fun c3 => ?_) (fun c3 => ?_)
          · rw [nI_clamp (by omega)] at c3
            refine x_iinc1 d_P_hasLargeTerms_34 rfl (by decide) rfl ?_
            refine x_goto 2 d_P_hasLargeTerms_37 (by decide) ?_
            rw [nI_1]
            exact ih (k + 1) (by omega) (by omega) (by simp [lgT, hlg, Int32.not_lt.mp c2, c3])
          · rw [nI_clamp (by omega)] at c3
            refine x_iconst (v := 1) d_P_hasLargeTerms_32 (by decide) ?_
            refine x_zret d_P_hasLargeTerms_33 (by first | rfl | assumption) ?_
            exact ⟨by simp [isLg, lgT_t (Or.inr (Int32.not_le.mp c3)) 81 hlt, bi], rfl⟩
  exact key 82 0 (by omega) (by omega) rfl
