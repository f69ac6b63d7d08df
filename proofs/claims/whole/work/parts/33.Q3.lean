/-! Question: become, remove, reads. -/
set_option maxRecDepth 100000 in
set_option maxHeartbeats 4000000 in
theorem c_Q_remove {N : Nat} {h : xHp} {q : Nat} {t a b g cn : Int32} (hN : q + 5 < N) (h1 : h q = oQ q t a b g cn) : XM y_Q_remove b_Q_remove 1 none 0 0 0 [.ref q] N h (xR none (va_up h q (oQ q 0 a b g cn))) := by
  refine xM_intro [some (.ref q)] (by decide) (fun _ => rfl) (fun _ => Nat.le_of_ble_eq_true rfl) (fun Γ => ?_)
  refine x_aload_n d_Q_remove_0 rfl ?_
  refine x_iconst (v := 0) d_Q_remove_1 (by decide) ?_
  refine x_put f_Q_29 d_Q_remove_2 (by omega) (by first | assumption | exact vu_s | exact vu_t (by omega) (by first | assumption | exact vu_s | exact vu_t (by omega) (by first | assumption | exact vu_s | exact vu_t (by omega) (by first | assumption | exact vu_s))) | rfl | (simp only [va_up, Nat.reduceEqDiff, ↓reduceIte]; first | rfl | assumption)) (Nat.le_of_ble_eq_true rfl) (fun _ => ⟨rfl, rfl⟩) ?_
  refine x_vret d_Q_remove_5 ?_
  exact ⟨rfl, rfl⟩
set_option maxRecDepth 100000 in
set_option maxHeartbeats 4000000 in
theorem c_Q_isThere {N : Nat} {h : xHp} {q : Nat} {t : Bool} {a b g cn : Int32} (hN : q + 5 < N) (h1 : h q = oQ q (bi t) a b g cn) : XM y_Q_isThere b_Q_isThere 1 (some .boolean) 0 0 0 [.ref q] N h (xR (some (.int (bi t))) h) := by
  have hn := bi_nar t
  refine xM_intro [some (.ref q)] (by decide) (fun _ => rfl) (fun _ => Nat.le_of_ble_eq_true rfl) (fun Γ => ?_)
  refine x_aload_n d_Q_isThere_0 rfl ?_
  refine x_get f_Q_29 d_Q_isThere_1 (by omega) (by first | assumption | exact vu_s | exact vu_t (by omega) (by first | assumption | exact vu_s | exact vu_t (by omega) (by first | assumption | exact vu_s | exact vu_t (by omega) (by first | assumption | exact vu_s))) | rfl | (simp only [va_up, Nat.reduceEqDiff, ↓reduceIte]; first | rfl | assumption)) rfl ?_
  refine x_zret d_Q_isThere_4 (by first | rfl | assumption) ?_
  exact ⟨rfl, rfl⟩
set_option maxRecDepth 100000 in
set_option maxHeartbeats 4000000 in
theorem c_Q_groupColumn {N : Nat} {h : xHp} {q : Nat} {t a b g cn : Int32} (hN : q + 5 < N) (h1 : h q = oQ q t a b g cn) : XM y_Q_groupColumn b_Q_groupColumn 1 (some .int) 0 0 0 [.ref q] N h (xR (some (.int g)) h) := by
  refine xM_intro [some (.ref q)] (by decide) (fun _ => rfl) (fun _ => Nat.le_of_ble_eq_true rfl) (fun Γ => ?_)
  refine x_aload_n d_Q_groupColumn_0 rfl ?_
  refine x_get f_Q_50 d_Q_groupColumn_1 (by omega) (by first | assumption | exact vu_s | exact vu_t (by omega) (by first | assumption | exact vu_s | exact vu_t (by omega) (by first | assumption | exact vu_s | exact vu_t (by omega) (by first | assumption | exact vu_s))) | rfl | (simp only [va_up, Nat.reduceEqDiff, ↓reduceIte]; first | rfl | assumption)) rfl ?_
  refine x_iret d_Q_groupColumn_4 ?_
  exact ⟨rfl, rfl⟩
set_option maxRecDepth 100000 in
set_option maxHeartbeats 4000000 in
theorem c_Q_conditions {N : Nat} {h : xHp} {q : Nat} {t a b g cn : Int32} (hN : q + 5 < N) (h1 : h q = oQ q t a b g cn) : XM y_Q_conditions b_Q_conditions 1 (some .int) 0 0 0 [.ref q] N h (xR (some (.int cn)) h) := by
  refine xM_intro [some (.ref q)] (by decide) (fun _ => rfl) (fun _ => Nat.le_of_ble_eq_true rfl) (fun Γ => ?_)
  refine x_aload_n d_Q_conditions_0 rfl ?_
  refine x_get f_Q_55 d_Q_conditions_1 (by omega) (by first | assumption | exact vu_s | exact vu_t (by omega) (by first | assumption | exact vu_s | exact vu_t (by omega) (by first | assumption | exact vu_s | exact vu_t (by omega) (by first | assumption | exact vu_s))) | rfl | (simp only [va_up, Nat.reduceEqDiff, ↓reduceIte]; first | rfl | assumption)) rfl ?_
  refine x_iret d_Q_conditions_4 ?_
  exact ⟨rfl, rfl⟩
set_option maxRecDepth 100000 in
set_option maxHeartbeats 4000000 in
theorem c_Q_terms {N : Nat} {h : xHp} {q : Nat} {t a b g cn : Int32} {co : Nat → Int32} (hN : q + 5 < N) (h1 : h q = oQ q t a b g cn) (h7 : h (q + 2) = oP (q + 2)) (h8 : h (q + 3) = aI 81 co) : XM y_Q_terms b_Q_terms 1 (some .int) 1 0 0 [.ref q] N h (xR (some (.int (nI (filN co 81)))) h) := by
  refine xM_intro [some (.ref q)] (by decide) (fun _ => rfl) (fun _ => Nat.le_of_ble_eq_true rfl) (fun Γ => ?_)
  refine x_aload_n d_Q_terms_0 rfl ?_
  refine x_get f_Q_18 d_Q_terms_1 (by omega) (by first | assumption | exact vu_s | exact vu_t (by omega) (by first | assumption | exact vu_s | exact vu_t (by omega) (by first | assumption | exact vu_s | exact vu_t (by omega) (by first | assumption | exact vu_s))) | rfl | (simp only [va_up, Nat.reduceEqDiff, ↓reduceIte]; first | rfl | assumption)) rfl ?_
  refine x_cVe (c_P_terms (by omega) h7 h8) k_Q_65 v_P_terms d_Q_terms_4 rfl (by omega) (by first | assumption | exact vu_s | exact vu_t (by omega) (by first | assumption | exact vu_s | exact vu_t (by omega) (by first | assumption | exact vu_s | exact vu_t (by omega) (by first | assumption | exact vu_s))) | rfl | (simp only [va_up, Nat.reduceEqDiff, ↓reduceIte]; first | rfl | assumption)) rfl (by omega) (Nat.le_of_ble_eq_true rfl) ?_
  refine x_iret d_Q_terms_7 ?_
  exact ⟨rfl, rfl⟩
/-- the bits a .. k-1 -/
def chN (a : Nat) : Nat → Nat
  | 0 => 0
  | k + 1 => chN a k + if a ≤ k then 2 ^ k else 0
theorem sh1 : ∀ k, k < 3 → (1 : Int32) <<< (nI k &&& 31) = nI (2 ^ k) := by decide
set_option maxRecDepth 100000 in
set_option maxHeartbeats 4000000 in
theorem c_Q_chain {N : Nat} {h : xHp} {q : Nat} {t g cn : Int32} {a b : Nat} (hN : q + 5 < N) (hab : a ≤ b) (hb : b < 3) (h1 : h q = oQ q t (nI a) (nI b) g cn) : XM y_Q_chain b_Q_chain 3 (some .int) 0 0 0 [.ref q] N h (xR (some (.int (nI (chN a (b + 1))))) h) := by
  refine xM_intro [some (.ref q), none, none] (by decide) (fun _ => rfl) (fun _ => Nat.le_of_ble_eq_true rfl) (fun Γ => ?_)
  refine x_iconst (v := 0) d_Q_chain_0 (by decide) ?_
  refine x_istore_n d_Q_chain_1 (by decide) rfl ?_
  refine x_aload_n d_Q_chain_2 rfl ?_
  refine x_get f_Q_39 d_Q_chain_3 (by omega) (by first | assumption | exact vu_s | exact vu_t (by omega) (by first | assumption | exact vu_s | exact vu_t (by omega) (by first | assumption | exact vu_s | exact vu_t (by omega) (by first | assumption | exact vu_s))) | rfl | (simp only [va_up, Nat.reduceEqDiff, ↓reduceIte]; first | rfl | assumption)) rfl ?_
  refine x_istore_n d_Q_chain_6 (by decide) rfl ?_
  have key : ∀ (m k : Nat), a ≤ k → k ≤ b + 1 → b + 1 - k < m → XW Γ y_Q_chain b_Q_chain 3 (some .int) (0, 0, 0) (xQ Γ (N + 0) 0 0 (xR (some (.int (nI (chN a (b + 1))))) h)) 0 0 N h 7 [some (.ref q), some (.int (nI (chN a k))), some (.int (nI k))] [] := by
    intro m
    induction m with
    | zero => intro k _ _ h0; omega
    | succ m ih =>
      intro k ha hk hkm
      refine x_iload_n d_Q_chain_7 rfl ?_
      refine x_aload_n d_Q_chain_8 rfl ?_
      refine x_get f_Q_45 d_Q_chain_9 (by omega) (by first | assumption | exact vu_s | exact vu_t (by omega) (by first | assumption | exact vu_s | exact vu_t (by omega) (by first | assumption | exact vu_s | exact vu_t (by omega) (by first | assumption | exact vu_s))) | rfl | (simp only [va_up, Nat.reduceEqDiff, ↓reduceIte]; first | rfl | assumption)) rfl ?_
      refine x_icmp_gt 27 d_Q_chain_12 (by decide) (fun c1 => ?_) (fun c1 => ?_)
      · have e : k = b + 1 := by
          have := (nI_ltI (show b < 2 ^ 31 by omega) (show k < 2 ^ 31 by omega)).mp c1
          omega
        subst e
        refine x_iload_n d_Q_chain_27 rfl ?_
        refine x_iret d_Q_chain_28 ?_
        exact ⟨rfl, rfl⟩
      · have hlt : k ≤ b := by
          rcases Nat.lt_or_ge b k with z | z
          · exact absurd (nI_lt z (by omega)) c1
          · exact z
        refine x_iload_n d_Q_chain_15 rfl ?_
        refine x_iconst (v := 1) d_Q_chain_16 (by decide) ?_
        refine x_iload_n d_Q_chain_17 rfl ?_
        refine x_ishl d_Q_chain_18 ?_
        refine x_iadd d_Q_chain_19 ?_
        refine x_istore_n d_Q_chain_20 (by decide) rfl ?_
        refine x_iinc1 d_Q_chain_21 rfl (by decide) rfl ?_
        refine x_goto 7 d_Q_chain_24 (by decide) ?_
        rw [sh1 k (by omega), nI_add, nI_1]
        have := ih (k + 1) (by omega) (by omega) (by omega)
        rw [show chN a (k + 1) = chN a k + 2 ^ k by simp [chN, ha]] at this
        exact this
  have h0 : ∀ k, k ≤ a → chN a k = 0 := by
    intro k
    induction k with
    | zero => intro _; rfl
    | succ k ih =>
      intro hk
      simp only [chN, ih (by omega), if_neg (show ¬ a ≤ k by omega)]
  have := key (b + 2) a (by omega) (by omega) (by omega)
  rw [h0 a (by omega)] at this
  exact this
def cpA (s d : Nat → Int32) (k : Nat) : Nat → Int32 := fun j => if j < k then s j else d j
theorem cpA_s (s d : Nat → Int32) (k : Nat) : upd (cpA s d k) k (s k) = cpA s d (k + 1) := by
  funext j
  by_cases e : j = k
  · subst e
    simp [upd, cpA]
  · simp only [upd, cpA, if_neg e]
    by_cases e2 : j < k
    · rw [if_pos e2, if_pos (by omega)]
    · rw [if_neg e2, if_neg (by omega)]
set_option maxRecDepth 100000 in
set_option maxHeartbeats 4000000 in
theorem c_Q_become {N : Nat} {h : xHp} {q p : Nat} {t a b g cn : Int32} {al co s : Nat → Int32} (σ : GS) (hN : 94 ≤ N) (hq : q + 5 < N) (hq2 : 10 < q) (hp : p + 1 < N) (hp2 : p + 1 < q) (hp3 : 8 < p) (h7 : h 7 = oG σ) (h8 : h 8 = aI 4 σ.2.2.2.2.2.2.2.2.2) (h1 : h q = oQ q t a b g cn) (h2 : h (q + 1) = aI 4 al) (h3 : h (q + 2) = oP (q + 2)) (h4 : h (q + 3) = aI 81 co) (h5 : h p = oP p) (h6 : h (p + 1) = aI 81 s) : XM y_Q_become b_Q_become 4 none 2 0 0 [.ref q, .ref 7, .ref p] N h (xR none (va_up (va_up (va_up h q (oQ q 1 σ.2.1 σ.2.2.1 σ.2.2.2.2.2.2.2.2.1 σ.2.2.2.2.2.2.2.1)) (q + 1) (aI 4 (cpA σ.2.2.2.2.2.2.2.2.2 al 4))) (q + 3) (aI 81 (va_cpy s co 0 0 81)))) := by
  refine xM_intro [some (.ref q), some (.ref 7), some (.ref p), none] (by decide) (fun _ => rfl) (fun _ => Nat.le_of_ble_eq_true rfl) (fun Γ => ?_)
  refine x_aload_n d_Q_become_0 rfl ?_
  refine x_iconst (v := 1) d_Q_become_1 (by decide) ?_
  refine x_put f_Q_29 d_Q_become_2 (by omega) (by first | assumption | exact vu_s | exact vu_t (by omega) (by first | assumption | exact vu_s | exact vu_t (by omega) (by first | assumption | exact vu_s | exact vu_t (by omega) (by first | assumption | exact vu_s))) | rfl | (simp only [va_up, Nat.reduceEqDiff, ↓reduceIte]; first | rfl | assumption)) (Nat.le_of_ble_eq_true rfl) (fun _ => ⟨rfl, rfl⟩) ?_
  refine x_aload_n d_Q_become_5 rfl ?_
  refine x_aload_n d_Q_become_6 rfl ?_
  refine x_cVe (c_G_firstRelation σ hN (vu_t (by omega) h7)) k_Q_33 v_G_firstRelation d_Q_become_7 rfl (by omega) (by first | assumption | exact vu_s | exact vu_t (by omega) (by first | assumption | exact vu_s | exact vu_t (by omega) (by first | assumption | exact vu_s | exact vu_t (by omega) (by first | assumption | exact vu_s))) | rfl | (simp only [va_up, Nat.reduceEqDiff, ↓reduceIte]; first | rfl | assumption)) rfl (by omega) (Nat.le_of_ble_eq_true rfl) ?_
  refine x_put f_Q_39 d_Q_become_10 (by omega) (by first | assumption | exact vu_s | exact vu_t (by omega) (by first | assumption | exact vu_s | exact vu_t (by omega) (by first | assumption | exact vu_s | exact vu_t (by omega) (by first | assumption | exact vu_s))) | rfl | (simp only [va_up, Nat.reduceEqDiff, ↓reduceIte]; first | rfl | assumption)) (Nat.le_of_ble_eq_true rfl) (fun _ => ⟨rfl, rfl⟩) ?_
  refine x_aload_n d_Q_become_13 rfl ?_
  refine x_aload_n d_Q_become_14 rfl ?_
  rw [bx_uu]
  refine x_cVe (c_G_lastRelation σ hN (vu_t (by omega) h7)) k_Q_42 v_G_lastRelation d_Q_become_15 rfl (by omega) (by first | assumption | exact vu_s | exact vu_t (by omega) (by first | assumption | exact vu_s | exact vu_t (by omega) (by first | assumption | exact vu_s | exact vu_t (by omega) (by first | assumption | exact vu_s))) | rfl | (simp only [va_up, Nat.reduceEqDiff, ↓reduceIte]; first | rfl | assumption)) rfl (by omega) (Nat.le_of_ble_eq_true rfl) ?_
  refine x_put f_Q_45 d_Q_become_18 (by omega) (by first | assumption | exact vu_s | exact vu_t (by omega) (by first | assumption | exact vu_s | exact vu_t (by omega) (by first | assumption | exact vu_s | exact vu_t (by omega) (by first | assumption | exact vu_s))) | rfl | (simp only [va_up, Nat.reduceEqDiff, ↓reduceIte]; first | rfl | assumption)) (Nat.le_of_ble_eq_true rfl) (fun _ => ⟨rfl, rfl⟩) ?_
  refine x_aload_n d_Q_become_21 rfl ?_
  refine x_aload_n d_Q_become_22 rfl ?_
  rw [bx_uu]
  refine x_cVe (c_G_groupColumn σ hN (vu_t (by omega) h7)) k_Q_47 v_G_groupColumn d_Q_become_23 rfl (by omega) (by first | assumption | exact vu_s | exact vu_t (by omega) (by first | assumption | exact vu_s | exact vu_t (by omega) (by first | assumption | exact vu_s | exact vu_t (by omega) (by first | assumption | exact vu_s))) | rfl | (simp only [va_up, Nat.reduceEqDiff, ↓reduceIte]; first | rfl | assumption)) rfl (by omega) (Nat.le_of_ble_eq_true rfl) ?_
  refine x_put f_Q_50 d_Q_become_26 (by omega) (by first | assumption | exact vu_s | exact vu_t (by omega) (by first | assumption | exact vu_s | exact vu_t (by omega) (by first | assumption | exact vu_s | exact vu_t (by omega) (by first | assumption | exact vu_s))) | rfl | (simp only [va_up, Nat.reduceEqDiff, ↓reduceIte]; first | rfl | assumption)) (Nat.le_of_ble_eq_true rfl) (fun _ => ⟨rfl, rfl⟩) ?_
  refine x_aload_n d_Q_become_29 rfl ?_
  refine x_aload_n d_Q_become_30 rfl ?_
  rw [bx_uu]
  refine x_cVe (c_G_conditions σ hN (vu_t (by omega) h7)) k_Q_52 v_G_conditions d_Q_become_31 rfl (by omega) (by first | assumption | exact vu_s | exact vu_t (by omega) (by first | assumption | exact vu_s | exact vu_t (by omega) (by first | assumption | exact vu_s | exact vu_t (by omega) (by first | assumption | exact vu_s))) | rfl | (simp only [va_up, Nat.reduceEqDiff, ↓reduceIte]; first | rfl | assumption)) rfl (by omega) (Nat.le_of_ble_eq_true rfl) ?_
  refine x_put f_Q_55 d_Q_become_34 (by omega) (by first | assumption | exact vu_s | exact vu_t (by omega) (by first | assumption | exact vu_s | exact vu_t (by omega) (by first | assumption | exact vu_s | exact vu_t (by omega) (by first | assumption | exact vu_s))) | rfl | (simp only [va_up, Nat.reduceEqDiff, ↓reduceIte]; first | rfl | assumption)) (Nat.le_of_ble_eq_true rfl) (fun _ => ⟨rfl, rfl⟩) ?_
  refine x_iconst (v := 0) d_Q_become_37 (by decide) ?_
  refine x_istore_n d_Q_become_38 (by decide) rfl ?_
  rw [bx_uu]
  have key : ∀ (m c : Nat), c ≤ 4 → 4 - c < m → XW Γ y_Q_become b_Q_become 4 none (2, 0, 0) (xQ Γ (N + 0) 0 0 (xR none (va_up (va_up (va_up h q (oQ q 1 σ.2.1 σ.2.2.1 σ.2.2.2.2.2.2.2.2.1 σ.2.2.2.2.2.2.2.1)) (q + 1) (aI 4 (cpA σ.2.2.2.2.2.2.2.2.2 al 4))) (q + 3) (aI 81 (va_cpy s co 0 0 81))))) 0 0 N (va_up (va_up h q (oQ q 1 σ.2.1 σ.2.2.1 σ.2.2.2.2.2.2.2.2.1 σ.2.2.2.2.2.2.2.1)) (q + 1) (aI 4 (cpA σ.2.2.2.2.2.2.2.2.2 al c))) 39 [some (.ref q), some (.ref 7), some (.ref p), some (.int (nI c))] [] := by
    intro m
    induction m with
    | zero => intro c _ h0; omega
    | succ m ih =>
      intro c hc hcm
      refine x_iload_n d_Q_become_39 rfl ?_
      refine x_iconst (v := 4) d_Q_become_40 (by decide) ?_
      refine x_icmp_ge 61 d_Q_become_41 (by decide) (fun c1 => ?_) (fun c1 => ?_)
      · have e := nI_end (n := 4) hc (by decide) c1
        subst e
        refine x_aload_n d_Q_become_61 rfl ?_
        refine x_get f_Q_18 d_Q_become_62 (by omega) (by first | assumption | exact vu_s | exact vu_t (by omega) (by first | assumption | exact vu_s | exact vu_t (by omega) (by first | assumption | exact vu_s | exact vu_t (by omega) (by first | assumption | exact vu_s))) | rfl | (simp only [va_up, Nat.reduceEqDiff, ↓reduceIte]; first | rfl | assumption)) rfl ?_
        refine x_aload_n d_Q_become_65 rfl ?_
        refine x_cVv (c_P_becomeCopy (by omega) hp (vu_t (by omega) (vu_t (by omega) h3)) (vu_t (by omega) (vu_t (by omega) h4)) (vu_t (by omega) (vu_t (by omega) h5)) (vu_t (by omega) (vu_t (by omega) h6))) k_Q_61 v_P_becomeCopy d_Q_become_66 rfl (by omega) (by first | assumption | exact vu_s | exact vu_t (by omega) (by first | assumption | exact vu_s | exact vu_t (by omega) (by first | assumption | exact vu_s | exact vu_t (by omega) (by first | assumption | exact vu_s))) | rfl | (simp only [va_up, Nat.reduceEqDiff, ↓reduceIte]; first | rfl | assumption)) rfl (by omega) (Nat.le_of_ble_eq_true rfl) ?_
        refine x_vret d_Q_become_69 ?_
        exact ⟨rfl, rfl⟩
      · have hlt := nI_more (n := 4) hc (by decide) c1
        have hi : vp_in (nI c) 4 := vp_in_nI hlt (by decide)
        refine x_aload_n d_Q_become_44 rfl ?_
        refine x_get f_Q_9 d_Q_become_45 (by omega) (by first | assumption | exact vu_s | exact vu_t (by omega) (by first | assumption | exact vu_s | exact vu_t (by omega) (by first | assumption | exact vu_s | exact vu_t (by omega) (by first | assumption | exact vu_s))) | rfl | (simp only [va_up, Nat.reduceEqDiff, ↓reduceIte]; first | rfl | assumption)) rfl ?_
        refine x_iload_n d_Q_become_48 rfl ?_
        refine x_aload_n d_Q_become_49 rfl ?_
        refine x_iload_n d_Q_become_50 rfl ?_
        refine x_cVe (c_G_allowedIn σ hN hlt (vu_t (by omega) (vu_t (by omega) h7)) (vu_t (by omega) (vu_t (by omega) h8))) k_Q_57 v_G_allowedIn d_Q_become_51 rfl (by omega) (by first | assumption | exact vu_s | exact vu_t (by omega) (by first | assumption | exact vu_s | exact vu_t (by omega) (by first | assumption | exact vu_s | exact vu_t (by omega) (by first | assumption | exact vu_s))) | rfl | (simp only [va_up, Nat.reduceEqDiff, ↓reduceIte]; first | rfl | assumption)) rfl (by omega) (Nat.le_of_ble_eq_true rfl) ?_
        refine x_iast d_Q_become_54 (by omega) (by first | assumption | exact vu_s | exact vu_t (by omega) (by first | assumption | exact vu_s | exact vu_t (by omega) (by first | assumption | exact vu_s | exact vu_t (by omega) (by first | assumption | exact vu_s))) | rfl | (simp only [va_up, Nat.reduceEqDiff, ↓reduceIte]; first | rfl | assumption)) (by assumption) ?_
        refine x_iinc1 d_Q_become_55 rfl (by decide) rfl ?_
        refine x_goto 39 d_Q_become_58 (by decide) ?_
        rw [nI_1, nI_clamp (show c < 2 ^ 31 by omega), cpA_s, bx_uu]
        exact ih (c + 1) (by omega) (by omega)
  have := key 5 0 (by omega) (by omega)
  rw [show cpA σ.2.2.2.2.2.2.2.2.2 al 0 = al by funext j; simp [cpA], show aI 4 al = va_up h q (oQ q 1 σ.2.1 σ.2.2.1 σ.2.2.2.2.2.2.2.2.1 σ.2.2.2.2.2.2.2.1) (q + 1) from ((vu_n (by omega)).trans h2).symm, vu_e] at this
  exact this
