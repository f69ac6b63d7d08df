/-! Polynomial: add, product. -/
def addU (f g : Nat → Int32) (t : Int32) (k : Nat) : Nat → Int32 := fun j => if j < k then f j + t * g j else f j
theorem addU_s (f g : Nat → Int32) (t : Int32) (k : Nat) : upd (addU f g t k) k (addU f g t k k + t * g k) = addU f g t (k + 1) := by
  funext j
  by_cases e : j = k
  · subst e
    simp [upd, addU]
  · simp only [upd, addU, if_neg e]
    by_cases e2 : j < k
    · rw [if_pos e2, if_pos (by omega)]
    · rw [if_neg e2, if_neg (by omega)]
set_option maxRecDepth 100000 in
set_option maxHeartbeats 4000000 in
theorem c_P_add {N : Nat} {h : xHp} {p q : Nat} {f g : Nat → Int32} (t : Int32) (hN : p + 1 < N) (hN2 : q + 1 < N) (hpq : p + 1 < q ∨ q + 1 < p) (h1 : h p = oP p) (h2 : h (p + 1) = aI 81 f) (h3 : h q = oP q) (h4 : h (q + 1) = aI 81 g) : XM y_P_add b_P_add 4 (some .boolean) 2 0 0 [.ref p, .ref q, .int t] N h (xR (some (.int (bi (!isLg (addU f g t 81))))) (va_up h (p + 1) (aI 81 (addU f g t 81)))) := by
  refine xM_intro [some (.ref p), some (.ref q), some (.int t), none] (by decide) (fun _ => rfl) (fun _ => Nat.le_of_ble_eq_true rfl) (fun Γ => ?_)
  refine x_iconst (v := 0) d_P_add_0 (by decide) ?_
  refine x_istore_n d_P_add_1 (by decide) rfl ?_
  have key : ∀ (n k : Nat), k ≤ 81 → 81 - k < n → XW Γ y_P_add b_P_add 4 (some .boolean) (2, 0, 0) (xQ Γ (N + 0) 0 0 (xR (some (.int (bi (!isLg (addU f g t 81))))) (va_up h (p + 1) (aI 81 (addU f g t 81))))) 0 0 N (va_up h (p + 1) (aI 81 (addU f g t k))) 2 [some (.ref p), some (.ref q), some (.int t), some (.int (nI k))] [] := by
    intro n
    induction n with
    | zero => intro k _ h0; omega
    | succ n ih =>
      intro k hk hkn
      refine x_iload_n d_P_add_2 rfl ?_
      refine x_bipush (v := 81) d_P_add_3 (by decide) ?_
      refine x_icmp_ge 31 d_P_add_5 (by decide) (fun c1 => ?_) (fun c1 => ?_)
      · have e : k = 81 := by
          rcases Nat.lt_or_ge k 81 with q | q
          · exact absurd c1 (nI_ge q (by decide))
          · omega
        subst e
        refine x_aload_n d_P_add_31 rfl ?_
        refine x_cVe (c_P_hasLargeTerms hN (vu_t (by omega) h1) vu_s) k_P_30 v_P_hasLargeTerms d_P_add_32 rfl (by omega) (by first | assumption | exact vu_s | exact vu_t (by omega) (by first | assumption | exact vu_s | exact vu_t (by omega) (by first | assumption | exact vu_s | exact vu_t (by omega) (by first | assumption | exact vu_s))) | rfl | (simp only [va_up, Nat.reduceEqDiff, ↓reduceIte]; first | rfl | assumption)) rfl (by omega) (Nat.le_of_ble_eq_true rfl) ?_
        refine x_if_ne 42 d_P_add_35 (by decide) (fun c2 => ?_) (fun c2 => ?_)
        · refine x_iconst (v := 0) d_P_add_42 (by decide) ?_
          refine x_zret d_P_add_43 (by first | rfl | assumption) ?_
          rw [bi1] at c2
          exact ⟨by rw [c2]; rfl, rfl⟩
        · refine x_iconst (v := 1) d_P_add_38 (by decide) ?_
          refine x_goto 43 d_P_add_39 (by decide) ?_
          refine x_zret d_P_add_43 (by first | rfl | assumption) ?_
          rw [bi0] at c2
          exact ⟨by rw [c2]; rfl, rfl⟩
      · have hlt : k < 81 := by
          rcases Nat.lt_or_ge k 81 with q | q
          · exact q
          · exact absurd (nI_le q (by omega)) c1
        have hi : vp_in (nI k) 81 := vp_in_nI hlt (by decide)
        refine x_aload_n d_P_add_8 rfl ?_
        refine x_get f_P_11 d_P_add_9 (by omega) (by first | assumption | exact vu_s | exact vu_t (by omega) (by first | assumption | exact vu_s | exact vu_t (by omega) (by first | assumption | exact vu_s | exact vu_t (by omega) (by first | assumption | exact vu_s))) | rfl | (simp only [va_up, Nat.reduceEqDiff, ↓reduceIte]; first | rfl | assumption)) rfl ?_
        refine x_iload_n d_P_add_12 rfl ?_
        refine x_dup2 d_P_add_13 rfl rfl ?_
        refine x_iald d_P_add_14 (by omega) (by first | assumption | exact vu_s | exact vu_t (by omega) (by first | assumption | exact vu_s | exact vu_t (by omega) (by first | assumption | exact vu_s | exact vu_t (by omega) (by first | assumption | exact vu_s))) | rfl | (simp only [va_up, Nat.reduceEqDiff, ↓reduceIte]; first | rfl | assumption)) (by assumption) ?_
        refine x_iload_n d_P_add_15 rfl ?_
        refine x_aload_n d_P_add_16 rfl ?_
        refine x_get f_P_11 d_P_add_17 (by omega) (by first | assumption | exact vu_s | exact vu_t (by omega) (by first | assumption | exact vu_s | exact vu_t (by omega) (by first | assumption | exact vu_s | exact vu_t (by omega) (by first | assumption | exact vu_s))) | rfl | (simp only [va_up, Nat.reduceEqDiff, ↓reduceIte]; first | rfl | assumption)) rfl ?_
        refine x_iload_n d_P_add_20 rfl ?_
        refine x_iald d_P_add_21 (by omega) (by first | assumption | exact vu_s | exact vu_t (by omega) (by first | assumption | exact vu_s | exact vu_t (by omega) (by first | assumption | exact vu_s | exact vu_t (by omega) (by first | assumption | exact vu_s))) | rfl | (simp only [va_up, Nat.reduceEqDiff, ↓reduceIte]; first | rfl | assumption)) (by assumption) ?_
        refine x_imul d_P_add_22 ?_
        refine x_iadd d_P_add_23 ?_
        refine x_iast d_P_add_24 (by omega) (by first | assumption | exact vu_s | exact vu_t (by omega) (by first | assumption | exact vu_s | exact vu_t (by omega) (by first | assumption | exact vu_s | exact vu_t (by omega) (by first | assumption | exact vu_s))) | rfl | (simp only [va_up, Nat.reduceEqDiff, ↓reduceIte]; first | rfl | assumption)) (by assumption) ?_
        refine x_iinc1 d_P_add_25 rfl (by decide) rfl ?_
        refine x_goto 2 d_P_add_28 (by decide) ?_
        rw [nI_1, nI_clamp (by omega), addU_s, bx_uu]
        exact ih (k + 1) (by omega) (by omega)
  have := key 82 0 (by omega) (by omega)
  rw [show addU f g t 0 = f by funext j; simp [addU], show aI 81 f = h (p + 1) from h2.symm, vu_e] at this
  exact this
/-- the powers of two places add up to 2 at most, column by column -/
def pfitK (i j : Nat) : Nat → Bool
  | 0 => true
  | c + 1 => pfitK i j c && decide (pw i c + pw j c ≤ 2)
def pfit (i j : Nat) : Bool := pfitK i j 4
theorem pw_lt (k c : Nat) : pw k c < 3 := Nat.mod_lt _ (by decide)
theorem pfitK_f {i j c : Nat} (h : ¬ pw i c + pw j c ≤ 2) : ∀ n, c < n → pfitK i j n = false
  | 0, hc => by omega
  | n + 1, hc => by
    unfold pfitK
    by_cases e : c = n
    · subst e
      simp [h]
    · simp [pfitK_f h n (by omega)]
set_option maxRecDepth 100000 in
set_option maxHeartbeats 4000000 in
theorem c_P_powersFit {N : Nat} {h : xHp} {i j : Nat} (hi : i < 1000) (hj : j < 1000) : XM y_P_powersFit b_P_powersFit 3 (some .boolean) 1 0 0 [.int (nI i), .int (nI j)] N h (xR (some (.int (bi (pfit i j)))) h) := by
  refine xM_intro [some (.int (nI i)), some (.int (nI j)), none] (by decide) (fun _ => rfl) (fun _ => Nat.le_of_ble_eq_true rfl) (fun Γ => ?_)
  refine x_iconst (v := 0) d_P_powersFit_0 (by decide) ?_
  refine x_istore_n d_P_powersFit_1 (by decide) rfl ?_
  have key : ∀ (n k : Nat), k ≤ 4 → 4 - k < n → pfitK i j k = true → XW Γ y_P_powersFit b_P_powersFit 3 (some .boolean) (1, 0, 0) (xQ Γ (N + 0) 0 0 (xR (some (.int (bi (pfit i j)))) h)) 0 0 N h 2 [some (.int (nI i)), some (.int (nI j)), some (.int (nI k))] [] := by
    intro n
    induction n with
    | zero => intro k _ h0; omega
    | succ n ih =>
      intro k hk hkn hf
      refine x_iload_n d_P_powersFit_2 rfl ?_
      refine x_iconst (v := 4) d_P_powersFit_3 (by decide) ?_
      refine x_icmp_ge 30 d_P_powersFit_4 (by decide) (fun c1 => ?_) (fun c1 => ?_)
      · have e : k = 4 := by
          rcases Nat.lt_or_ge k 4 with q | q
          · exact absurd c1 (nI_ge q (by decide))
          · omega
        subst e
        refine x_iconst (v := 1) d_P_powersFit_30 (by decide) ?_
        refine x_zret d_P_powersFit_31 (by first | rfl | assumption) ?_
        exact ⟨by simp [pfit, hf, bi], rfl⟩
      · have hlt : k < 4 := by
          rcases Nat.lt_or_ge k 4 with q | q
          · exact q
          · exact absurd (nI_le q (by omega)) c1
        refine x_iload_n d_P_powersFit_7 rfl ?_
        refine x_iload_n d_P_powersFit_8 rfl ?_
        refine x_cSe (c_P_powerAt hi hlt) k_P_38 s_P_powerAt d_P_powersFit_9 rfl (by omega) (Nat.le_of_ble_eq_true rfl) ?_
        refine x_iload_n d_P_powersFit_12 rfl ?_
        refine x_iload_n d_P_powersFit_13 rfl ?_
        refine x_cSe (c_P_powerAt hj hlt) k_P_38 s_P_powerAt d_P_powersFit_14 rfl (by omega) (Nat.le_of_ble_eq_true rfl) ?_
        refine x_iadd d_P_powersFit_17 ?_
        refine x_iconst (v := 2) d_P_powersFit_18 (by decide) ?_
        rw [nI_add]
        have b1 := pw_lt i k
        have b2 := pw_lt j k
        refine x_icmp_le 24 d_P_powersFit_19 (by decide) (fun c2 => ?_) (fun c2 => ?_)
        · have c3 : pw i k + pw j k ≤ 2 := (nI_leI (by omega) (by decide)).mp c2
          refine x_iinc1 d_P_powersFit_24 rfl (by decide) rfl ?_
          refine x_goto 2 d_P_powersFit_27 (by decide) ?_
          rw [nI_1]
          exact ih (k + 1) (by omega) (by omega) (by simp [pfitK, hf, c3])
        · have c3 : ¬ pw i k + pw j k ≤ 2 := fun q => c2 ((nI_leI (by omega) (by decide)).mpr q)
          refine x_iconst (v := 0) d_P_powersFit_22 (by decide) ?_
          refine x_zret d_P_powersFit_23 (by first | rfl | assumption) ?_
          exact ⟨by simp [pfit, pfitK_f c3 4 hlt, bi], rfl⟩
  exact key 5 0 (by omega) (by omega) rfl
theorem pfit_lt : ∀ i, i < 81 → ∀ j, j < 81 → pfit i j = true → i + j < 81 := by decide +kernel
/-- the pairs (i, 0 .. j-1) into F -/
def pin (l r : Nat → Int32) (i : Nat) : Nat → (Nat → Int32) → Nat → Int32
  | 0, F => F
  | j + 1, F => if r j = 0 then pin l r i j F else upd (pin l r i j F) (i + j) (pin l r i j F (i + j) + l i * r j)
def pout (l r : Nat → Int32) (F : Nat → Int32) : Nat → Nat → Int32
  | 0 => F
  | i + 1 => if l i = 0 then pout l r F i else pin l r i 81 (pout l r F i)
def AF (l r : Nat → Int32) : Prop := ∀ i j, i < 81 → j < 81 → ¬ l i = 0 → ¬ r j = 0 → pfit i j = true
set_option maxRecDepth 100000 in
set_option maxHeartbeats 4000000 in
theorem c_P_becomeProduct {N : Nat} {h : xHp} {p a b : Nat} {f l r : Nat → Int32} (hN : p + 1 < N) (hNa : a + 1 < N) (hNb : b + 1 < N) (hpa : p + 1 < a ∨ a + 1 < p) (hpb : p + 1 < b ∨ b + 1 < p) (h1 : h p = oP p) (h2 : h (p + 1) = aI 81 f) (h3 : h a = oP a) (h4 : h (a + 1) = aI 81 l) (h5 : h b = oP b) (h6 : h (b + 1) = aI 81 r) : XM y_P_becomeProduct b_P_becomeProduct 5 (some .boolean) 2 0 0 [.ref p, .ref a, .ref b] N h (fun v h' => (AF l r ∧ v = some (.int (bi (!isLg (pout l r (filF f 0 81) 81)))) ∧ h' = va_up h (p + 1) (aI 81 (pout l r (filF f 0 81) 81))) ∨ (¬ AF l r ∧ v = some (.int 0) ∧ ∃ g, h' = va_up h (p + 1) (aI 81 g))) := by
  refine xM_intro [some (.ref p), some (.ref a), some (.ref b), none, none] (by decide) (fun _ => rfl) (fun _ => Nat.le_of_ble_eq_true rfl) (fun Γ => ?_)
  refine x_aload_n d_P_becomeProduct_0 rfl ?_
  refine x_get f_P_11 d_P_becomeProduct_1 (by omega) (by first | assumption | exact vu_s | exact vu_t (by omega) (by first | assumption | exact vu_s | exact vu_t (by omega) (by first | assumption | exact vu_s | exact vu_t (by omega) (by first | assumption | exact vu_s))) | rfl | (simp only [va_up, Nat.reduceEqDiff, ↓reduceIte]; first | rfl | assumption)) rfl ?_
  refine x_iconst (v := 0) d_P_becomeProduct_4 (by decide) ?_
  refine x_cSv (c_A_fill 0 (by omega) (by decide) h2) k_P_18 s_A_fill d_P_becomeProduct_5 rfl (by omega) (Nat.le_of_ble_eq_true rfl) ?_
  refine x_iconst (v := 0) d_P_becomeProduct_8 (by decide) ?_
  refine x_istore_n d_P_becomeProduct_9 (by decide) rfl ?_
  generalize hQ : (fun (v : Option Value) (h' : xHp) => (AF l r ∧ v = some (.int (bi (!isLg (pout l r (filF f 0 81) 81)))) ∧ h' = va_up h (p + 1) (aI 81 (pout l r (filF f 0 81) 81))) ∨ (¬ AF l r ∧ v = some (.int 0) ∧ ∃ g, h' = va_up h (p + 1) (aI 81 g))) = Qp
  have key : ∀ (n i : Nat) (x : Option Value), i ≤ 81 → 81 - i < n → (∀ i' j, i' < i → j < 81 → ¬ l i' = 0 → ¬ r j = 0 → pfit i' j = true) → XW Γ y_P_becomeProduct b_P_becomeProduct 5 (some .boolean) (2, 0, 0) (xQ Γ (N + 0) 0 0 Qp) 0 0 N (va_up h (p + 1) (aI 81 (pout l r (filF f 0 81) i))) 10 [some (.ref p), some (.ref a), some (.ref b), some (.int (nI i)), x] [] := by
    intro n
    induction n with
    | zero => intro k _ _ h0; omega
    | succ n ih =>
      intro i x hk hkn hf
      refine x_iload_n d_P_becomeProduct_10 rfl ?_
      refine x_bipush (v := 81) d_P_becomeProduct_11 (by decide) ?_
      refine x_icmp_ge 100 d_P_becomeProduct_13 (by decide) (fun c1 => ?_) (fun c1 => ?_)
      · have e : i = 81 := by
          rcases Nat.lt_or_ge i 81 with q | q
          · exact absurd c1 (nI_ge q (by decide))
          · omega
        subst e
        have hAF : AF l r := fun i j h1 h2 h3 h4 => hf i j h1 h2 h3 h4
        refine x_aload_n d_P_becomeProduct_100 rfl ?_
        refine x_cVe (c_P_hasLargeTerms hN (vu_t (by omega) h1) vu_s) k_P_30 v_P_hasLargeTerms d_P_becomeProduct_101 rfl (by omega) (by first | assumption | exact vu_s | exact vu_t (by omega) (by first | assumption | exact vu_s | exact vu_t (by omega) (by first | assumption | exact vu_s | exact vu_t (by omega) (by first | assumption | exact vu_s))) | rfl | (simp only [va_up, Nat.reduceEqDiff, ↓reduceIte]; first | rfl | assumption)) rfl (by omega) (Nat.le_of_ble_eq_true rfl) ?_
        refine x_if_ne 111 d_P_becomeProduct_104 (by decide) (fun c2 => ?_) (fun c2 => ?_)
        · refine x_iconst (v := 0) d_P_becomeProduct_111 (by decide) ?_
          refine x_zret d_P_becomeProduct_112 (by first | rfl | assumption) ?_
          rw [bi1] at c2
          rw [← hQ]
          exact Or.inl ⟨hAF, by rw [c2]; rfl, rfl⟩
        · refine x_iconst (v := 1) d_P_becomeProduct_107 (by decide) ?_
          refine x_goto 112 d_P_becomeProduct_108 (by decide) ?_
          refine x_zret d_P_becomeProduct_112 (by first | rfl | assumption) ?_
          rw [bi0] at c2
          rw [← hQ]
          exact Or.inl ⟨hAF, by rw [c2]; rfl, rfl⟩
      · have hlt : i < 81 := by
          rcases Nat.lt_or_ge i 81 with q | q
          · exact q
          · exact absurd (nI_le q (by omega)) c1
        have hi : vp_in (nI i) 81 := vp_in_nI hlt (by decide)
        have hci : (nI i).toNatClampNeg = i := nI_clamp (by omega)
        refine x_aload_n d_P_becomeProduct_16 rfl ?_
        refine x_get f_P_11 d_P_becomeProduct_17 (by omega) (by first | assumption | exact vu_s | exact vu_t (by omega) (by first | assumption | exact vu_s | exact vu_t (by omega) (by first | assumption | exact vu_s | exact vu_t (by omega) (by first | assumption | exact vu_s))) | rfl | (simp only [va_up, Nat.reduceEqDiff, ↓reduceIte]; first | rfl | assumption)) rfl ?_
        refine x_iload_n d_P_becomeProduct_20 rfl ?_
        refine x_iald d_P_becomeProduct_21 (by omega) (by first | assumption | exact vu_s | exact vu_t (by omega) (by first | assumption | exact vu_s | exact vu_t (by omega) (by first | assumption | exact vu_s | exact vu_t (by omega) (by first | assumption | exact vu_s))) | rfl | (simp only [va_up, Nat.reduceEqDiff, ↓reduceIte]; first | rfl | assumption)) (by assumption) ?_
        refine x_if_ne 28 d_P_becomeProduct_22 (by decide) (fun c2 => ?_) (fun c2 => ?_)
        · rw [hci] at c2
          refine x_iconst (v := 0) d_P_becomeProduct_28 (by decide) ?_
          refine x_istore d_P_becomeProduct_29 (by decide) rfl ?_
          have key2 : ∀ (n j : Nat), j ≤ 81 → 81 - j < n → (∀ j', j' < j → ¬ r j' = 0 → pfit i j' = true) → XW Γ y_P_becomeProduct b_P_becomeProduct 5 (some .boolean) (2, 0, 0) (xQ Γ (N + 0) 0 0 Qp) 0 0 N (va_up h (p + 1) (aI 81 (pin l r i j (pout l r (filF f 0 81) i)))) 31 [some (.ref p), some (.ref a), some (.ref b), some (.int (nI i)), some (.int (nI j))] [] := by
            intro n2
            induction n2 with
            | zero => intro k _ h0; omega
            | succ n2 ih2 =>
              intro j hj hjn hfj
              refine x_iload d_P_becomeProduct_31 rfl ?_
              refine x_bipush (v := 81) d_P_becomeProduct_33 (by decide) ?_
              refine x_icmp_ge 94 d_P_becomeProduct_35 (by decide) (fun c3 => ?_) (fun c3 => ?_)
              · have e : j = 81 := by
                  rcases Nat.lt_or_ge j 81 with q | q
                  · exact absurd c3 (nI_ge q (by decide))
                  · omega
                subst e
                refine x_iinc1 d_P_becomeProduct_94 rfl (by decide) rfl ?_
                refine x_goto 10 d_P_becomeProduct_97 (by decide) ?_
                rw [nI_1]
                have := ih (i + 1) (some (.int (nI 81))) (by omega) (by omega) (fun i' j h1 h2 h3 h4 => by
                  rcases Nat.lt_or_ge i' i with q | q
                  · exact hf i' j q h2 h3 h4
                  · have e : i' = i := by omega
                    subst e
                    exact hfj j h2 h4)
                rw [show pout l r (filF f 0 81) (i + 1) = pin l r i 81 (pout l r (filF f 0 81) i) by simp [pout, c2]] at this
                exact this
              · have hjlt : j < 81 := by
                  rcases Nat.lt_or_ge j 81 with q | q
                  · exact q
                  · exact absurd (nI_le q (by omega)) c3
                have hj2 : vp_in (nI j) 81 := vp_in_nI hjlt (by decide)
                have hcj : (nI j).toNatClampNeg = j := nI_clamp (by omega)
                refine x_aload_n d_P_becomeProduct_38 rfl ?_
                refine x_get f_P_11 d_P_becomeProduct_39 (by omega) (by first | assumption | exact vu_s | exact vu_t (by omega) (by first | assumption | exact vu_s | exact vu_t (by omega) (by first | assumption | exact vu_s | exact vu_t (by omega) (by first | assumption | exact vu_s))) | rfl | (simp only [va_up, Nat.reduceEqDiff, ↓reduceIte]; first | rfl | assumption)) rfl ?_
                refine x_iload d_P_becomeProduct_42 rfl ?_
                refine x_iald d_P_becomeProduct_44 (by omega) (by first | assumption | exact vu_s | exact vu_t (by omega) (by first | assumption | exact vu_s | exact vu_t (by omega) (by first | assumption | exact vu_s | exact vu_t (by omega) (by first | assumption | exact vu_s))) | rfl | (simp only [va_up, Nat.reduceEqDiff, ↓reduceIte]; first | rfl | assumption)) (by assumption) ?_
                refine x_if_ne 51 d_P_becomeProduct_45 (by decide) (fun c4 => ?_) (fun c4 => ?_)
                · rw [hcj] at c4
                  refine x_iload_n d_P_becomeProduct_51 rfl ?_
                  refine x_iload d_P_becomeProduct_52 rfl ?_
                  refine x_cSe (c_P_powersFit (by omega) (by omega)) k_P_34 s_P_powersFit d_P_becomeProduct_54 rfl (by omega) (Nat.le_of_ble_eq_true rfl) ?_
                  refine x_if_ne 62 d_P_becomeProduct_57 (by decide) (fun c5 => ?_) (fun c5 => ?_)
                  · rw [bi1] at c5
                    have hs := pfit_lt i hlt j hjlt c5
                    have hsi : vp_in (nI i + nI j) 81 := by rw [nI_add]; exact vp_in_nI hs (by decide)
                    refine x_aload_n d_P_becomeProduct_62 rfl ?_
                    refine x_get f_P_11 d_P_becomeProduct_63 (by omega) (by first | assumption | exact vu_s | exact vu_t (by omega) (by first | assumption | exact vu_s | exact vu_t (by omega) (by first | assumption | exact vu_s | exact vu_t (by omega) (by first | assumption | exact vu_s))) | rfl | (simp only [va_up, Nat.reduceEqDiff, ↓reduceIte]; first | rfl | assumption)) rfl ?_
                    refine x_iload_n d_P_becomeProduct_66 rfl ?_
                    refine x_iload d_P_becomeProduct_67 rfl ?_
                    refine x_iadd d_P_becomeProduct_69 ?_
                    refine x_dup2 d_P_becomeProduct_70 rfl rfl ?_
                    refine x_iald d_P_becomeProduct_71 (by omega) (by first | assumption | exact vu_s | exact vu_t (by omega) (by first | assumption | exact vu_s | exact vu_t (by omega) (by first | assumption | exact vu_s | exact vu_t (by omega) (by first | assumption | exact vu_s))) | rfl | (simp only [va_up, Nat.reduceEqDiff, ↓reduceIte]; first | rfl | assumption)) (by assumption) ?_
                    refine x_aload_n d_P_becomeProduct_72 rfl ?_
                    refine x_get f_P_11 d_P_becomeProduct_73 (by omega) (by first | assumption | exact vu_s | exact vu_t (by omega) (by first | assumption | exact vu_s | exact vu_t (by omega) (by first | assumption | exact vu_s | exact vu_t (by omega) (by first | assumption | exact vu_s))) | rfl | (simp only [va_up, Nat.reduceEqDiff, ↓reduceIte]; first | rfl | assumption)) rfl ?_
                    refine x_iload_n d_P_becomeProduct_76 rfl ?_
                    refine x_iald d_P_becomeProduct_77 (by omega) (by first | assumption | exact vu_s | exact vu_t (by omega) (by first | assumption | exact vu_s | exact vu_t (by omega) (by first | assumption | exact vu_s | exact vu_t (by omega) (by first | assumption | exact vu_s))) | rfl | (simp only [va_up, Nat.reduceEqDiff, ↓reduceIte]; first | rfl | assumption)) (by assumption) ?_
                    refine x_aload_n d_P_becomeProduct_78 rfl ?_
                    refine x_get f_P_11 d_P_becomeProduct_79 (by omega) (by first | assumption | exact vu_s | exact vu_t (by omega) (by first | assumption | exact vu_s | exact vu_t (by omega) (by first | assumption | exact vu_s | exact vu_t (by omega) (by first | assumption | exact vu_s))) | rfl | (simp only [va_up, Nat.reduceEqDiff, ↓reduceIte]; first | rfl | assumption)) rfl ?_
                    refine x_iload d_P_becomeProduct_82 rfl ?_
                    refine x_iald d_P_becomeProduct_84 (by omega) (by first | assumption | exact vu_s | exact vu_t (by omega) (by first | assumption | exact vu_s | exact vu_t (by omega) (by first | assumption | exact vu_s | exact vu_t (by omega) (by first | assumption | exact vu_s))) | rfl | (simp only [va_up, Nat.reduceEqDiff, ↓reduceIte]; first | rfl | assumption)) (by assumption) ?_
                    refine x_imul d_P_becomeProduct_85 ?_
                    refine x_iadd d_P_becomeProduct_86 ?_
                    refine x_iast d_P_becomeProduct_87 (by omega) (by first | assumption | exact vu_s | exact vu_t (by omega) (by first | assumption | exact vu_s | exact vu_t (by omega) (by first | assumption | exact vu_s | exact vu_t (by omega) (by first | assumption | exact vu_s))) | rfl | (simp only [va_up, Nat.reduceEqDiff, ↓reduceIte]; first | rfl | assumption)) (by assumption) ?_
                    refine x_iinc1 d_P_becomeProduct_88 rfl (by decide) rfl ?_
                    refine x_goto 31 d_P_becomeProduct_91 (by decide) ?_
                    rw [nI_1, hci, hcj, nI_add, nI_clamp (by omega), bx_uu]
                    have := ih2 (j + 1) (by omega) (by omega) (fun j' h1 h2 => by
                      rcases Nat.lt_or_ge j' j with q | q
                      · exact hfj j' q h2
                      · have e : j' = j := by omega
                        subst e
                        exact c5)
                    rw [show pin l r i (j + 1) (pout l r (filF f 0 81) i) = upd (pin l r i j (pout l r (filF f 0 81) i)) (i + j) (pin l r i j (pout l r (filF f 0 81) i) (i + j) + l i * r j) by simp [pin, c4]] at this
                    exact this
                  · rw [bi0] at c5
                    refine x_iconst (v := 0) d_P_becomeProduct_60 (by decide) ?_
                    refine x_zret d_P_becomeProduct_61 (by first | rfl | assumption) ?_
                    rw [← hQ]
                    refine Or.inr ⟨fun q => ?_, rfl, _, rfl⟩
                    rw [q i j hlt hjlt c2 c4] at c5
                    cases c5
                · rw [hcj] at c4
                  refine x_goto 88 d_P_becomeProduct_48 (by decide) ?_
                  refine x_iinc1 d_P_becomeProduct_88 rfl (by decide) rfl ?_
                  refine x_goto 31 d_P_becomeProduct_91 (by decide) ?_
                  rw [nI_1]
                  have := ih2 (j + 1) (by omega) (by omega) (fun j' h1 h2 => by
                      rcases Nat.lt_or_ge j' j with q | q
                      · exact hfj j' q h2
                      · have e : j' = j := by omega
                        subst e
                        exact absurd c4 h2)
                  rw [show pin l r i (j + 1) (pout l r (filF f 0 81) i) = pin l r i j (pout l r (filF f 0 81) i) by simp [pin, c4]] at this
                  exact this
          exact key2 82 0 (by omega) (by omega) (fun _ h => by omega)
        · rw [hci] at c2
          refine x_goto 94 d_P_becomeProduct_25 (by decide) ?_
          refine x_iinc1 d_P_becomeProduct_94 rfl (by decide) rfl ?_
          refine x_goto 10 d_P_becomeProduct_97 (by decide) ?_
          rw [nI_1]
          have := ih (i + 1) x (by omega) (by omega) (fun i' j h1 h2 h3 h4 => by
                  rcases Nat.lt_or_ge i' i with q | q
                  · exact hf i' j q h2 h3 h4
                  · have e : i' = i := by omega
                    subst e
                    exact absurd c2 h3)
          rw [show pout l r (filF f 0 81) (i + 1) = pout l r (filF f 0 81) i by simp [pout, c2]] at this
          exact this
  exact key 82 0 none (by omega) (by omega) (fun _ _ h => by omega)
