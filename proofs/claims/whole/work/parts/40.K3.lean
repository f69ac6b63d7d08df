/-! JoinKeeper: define. -/
noncomputable def dfP (tf : Nat → Int32) (tn : Nat) (τ : GS) : Option (Po × Int32) := (eLev tf tn 9).1 (τ.2.2.1 - τ.2.1 + 1 + 1)
theorem nI_m2 {k : Nat} (h : k ≤ 30) : ¬ nI k = -2 := by
  intro e
  have h1 := congrArg Int32.toInt e
  rw [nI_toInt (by omega)] at h1
  have h2 : (-2 : Int32).toInt = -2 := rfl
  omega
theorem gRes_lt {σ : GS} {f : Nat → Int32} {k : Nat} : ∀ n, gRes σ f n = .inl k → k < n
  | 0, h => by cases h
  | n + 1, h => by
    simp only [gRes] at h
    split at h
    · rename_i k' e
      cases h
      have := gRes_lt n e
      omega
    · split at h
      · cases h
        omega
      · cases h
theorem fltC_whole {σ : GS} {f : Nat → Int32} {n : Nat} (hn : n ≤ 30) (h : fltC σ f n = -2) : ∃ τ, gRes σ f n = .inr τ ∧ gW τ = true := by
  unfold fltC at h
  cases e : gRes σ f n with
  | inl k =>
    rw [e] at h
    have := gRes_lt n e
    exact absurd h (nI_m2 (by omega))
  | inr τ =>
    rw [e] at h
    refine ⟨τ, rfl, ?_⟩
    cases hw : gW τ with
    | true => rfl
    | false =>
      dsimp only at h
      rw [hw] at h
      exact absurd h (nI_m2 hn)
def isNew (τ : GS) (P : Po) (Q : CQ) : Prop := Q.1 = true ∧ nI Q.2.1 = τ.2.1 ∧ nI Q.2.2.1 = τ.2.2.1 ∧ Q.2.2.2.1 = τ.2.2.2.2.2.2.2.2.1 ∧ Q.2.2.2.2.1 = τ.2.2.2.2.2.2.2.1 ∧ (∀ c, c < 4 → Q.2.2.2.2.2.1 c = τ.2.2.2.2.2.2.2.2.2 c) ∧ pe Q.2.2.2.2.2.2 P ∧ okQ Q
section KM3
variable {N : Nat} {h : xHp} {f : Nat → Int32} {n : Nat} {pl bs tf : Nat → Int32} {tn : Nat} {Qs : Nat → CQ}
def dOut (f : Nat → Int32) (n : Nat) (pl bs tf : Nat → Int32) (tn : Nat) (Qs : Nat → CQ) (q : Int32) (v : Option Value) (h' : xHp) : Prop :=
  (isQn q = false ∧ v = some (.int (-1)) ∧ IC f n pl bs tf tn Qs h') ∨ (isQn q = true ∧ ¬ fltC gz tf tn = -2 ∧ v = some (.int (-2)) ∧ IC f n pl bs tf tn Qs h') ∨ (isQn q = true ∧ fltC gz tf tn = -2 ∧ ∃ τ, gRes gz tf tn = .inr τ ∧ ((dfP tf tn τ = none ∧ v = some (.int (-3)) ∧ IC f n pl bs tf tn Qs h') ∨ ∃ P e Q', dfP tf tn τ = some (P, e) ∧ v = some (.int (nI (filN P 81))) ∧ isNew τ P Q' ∧ IC f n pl bs tf tn (upQ Qs q.toNatClampNeg Q') h'))
set_option maxRecDepth 100000 in
set_option maxHeartbeats 4000000 in
theorem c_K_define (q : Int32) (hN : 94 ≤ N) (hI : IC f n pl bs tf tn Qs h) (ht : tn ≤ 30) (hf : ∀ j, chOK (tf j)) : XM y_K_define b_K_define 2 (some .int) 43 0 0 [.ref 0, .int q] N h (fun v h' => frm h h' ∧ dOut f n pl bs tf tn Qs q v h') := by
  obtain ⟨h0, hR, ⟨h5, h6⟩, ⟨σ, s1, s2, s3⟩, hE, hQ⟩ := id hI
  have hh := hG_of s2 s3
  refine xM_intro [some (.ref 0), some (.int q)] (by decide) (fun _ => rfl) (fun _ => Nat.le_of_ble_eq_true rfl) (fun Γ => ?_)
  refine x_iload_n d_K_define_0 rfl ?_
  refine x_cSe (c_K_isQuestion q) k_K_74 s_K_isQuestion d_K_define_1 rfl (by omega) (Nat.le_of_ble_eq_true rfl) ?_
  refine x_if_ne 9 d_K_define_4 (by decide) (fun c1 => ?_) (fun c1 => ?_)
  · rw [bi1] at c1
    refine x_aload_n d_K_define_9 rfl ?_
    refine x_get f_K_26 d_K_define_10 (by omega) (by first | assumption | exact vu_s | exact vu_t (by omega) (by first | assumption | exact vu_s | exact vu_t (by omega) (by first | assumption | exact vu_s | exact vu_t (by omega) (by first | assumption | exact vu_s))) | rfl | (simp only [va_up, Nat.reduceEqDiff, ↓reduceIte]; first | rfl | assumption)) rfl ?_
    refine x_aload_n d_K_define_13 rfl ?_
    refine x_get f_K_19 d_K_define_14 (by omega) (by first | assumption | exact vu_s | exact vu_t (by omega) (by first | assumption | exact vu_s | exact vu_t (by omega) (by first | assumption | exact vu_s | exact vu_t (by omega) (by first | assumption | exact vu_s))) | rfl | (simp only [va_up, Nat.reduceEqDiff, ↓reduceIte]; first | rfl | assumption)) rfl ?_
    refine XW_h hh.symm ?_
    have k7 : hG h σ 7 = oG σ := hG_7 h σ
    refine x_cV (c_G_faultIn σ hN ht (g0_I s1) hf h5 h6) k_K_78 v_G_faultIn d_K_define_17 rfl (by omega) (by first | assumption | exact vu_s | exact vu_t (by omega) (by first | assumption | exact vu_s | exact vu_t (by omega) (by first | assumption | exact vu_s | exact vu_t (by omega) (by first | assumption | exact vu_s))) | rfl | (simp only [va_up, Nat.reduceEqDiff, ↓reduceIte]; first | rfl | assumption)) rfl (by omega) (Nat.le_of_ble_eq_true rfl) ?_
    rintro v h' ⟨rfl, σ', i1, rfl, hσ⟩
    have e1 : ∀ k, k ≠ 7 → k ≠ 8 → hG h σ' k = h k := fun k a b => hG_n h σ' a b
    have fr1 : frm h (hG h σ') := fun k hk => e1 k (by omega) (by omega)
    have I1 : IC f n pl bs tf tn Qs (hG h σ') := ⟨(e1 0 (by decide) (by decide)).trans h0, hR.cg (fun k a b => e1 k (by omega) (by omega)), ⟨(e1 5 (by decide) (by decide)).trans h5, (e1 6 (by decide) (by decide)).trans h6⟩, ⟨σ', i1.2.2.1, hG_7 h σ', hG_8 h σ'⟩, hE.cg (fun k a b => e1 k (by omega) (by omega)), hQ.cg (fun k a b => e1 k (by omega) (by omega))⟩
    refine XW_c (fltC_eq s1) ?_
    refine x_bipush (v := -2) d_K_define_20 (by decide) ?_
    refine x_icmp_eq 28 d_K_define_22 (by decide) (fun c2 => ?_) (fun c2 => ?_)
    · obtain ⟨τ, hτ, -⟩ := fltC_whole ht c2
      obtain ⟨τ0, hτ0, hEq⟩ : ∃ τ0, gRes (g0 σ) tf tn = .inr τ0 ∧ gEq τ0 τ := by
        rcases gRes_eq (f := tf) (g0_I s1) (gz_eq σ) tn with ⟨k, z1, z2⟩ | ⟨a, b, z1, z2, z3, -⟩
        · rw [hτ] at z2
          cases z2
        · rw [hτ] at z2
          cases z2
          exact ⟨a, z1, z3⟩
      obtain rfl := hσ τ0 hτ0
      obtain ⟨⟨ja, jb, j1, j2, j3, j4⟩, -⟩ := gRes_J (g0_I s1) ⟨0, 0, rfl, rfl, Nat.le_refl _, by decide⟩ tn σ' hτ0
      generalize hh1 : hG h σ' = h1 at fr1 I1 ⊢
      obtain ⟨k0, kR, kT, -, ⟨p0, kE⟩, kQ⟩ := id I1
      have k7 : h1 7 = oG σ' := by rw [← hh1]; exact hG_7 h σ'
      have k8 : h1 8 = aI 4 σ'.2.2.2.2.2.2.2.2.2 := by rw [← hh1]; exact hG_8 h σ'
      have k9 := kE.1
      refine x_aload_n d_K_define_28 rfl ?_
      refine x_get f_K_33 d_K_define_29 (by omega) (by first | assumption | exact vu_s | exact vu_t (by omega) (by first | assumption | exact vu_s | exact vu_t (by omega) (by first | assumption | exact vu_s | exact vu_t (by omega) (by first | assumption | exact vu_s))) | rfl | (simp only [va_up, Nat.reduceEqDiff, ↓reduceIte]; first | rfl | assumption)) rfl ?_
      refine x_aload_n d_K_define_32 rfl ?_
      refine x_get f_K_19 d_K_define_33 (by omega) (by first | assumption | exact vu_s | exact vu_t (by omega) (by first | assumption | exact vu_s | exact vu_t (by omega) (by first | assumption | exact vu_s | exact vu_t (by omega) (by first | assumption | exact vu_s))) | rfl | (simp only [va_up, Nat.reduceEqDiff, ↓reduceIte]; first | rfl | assumption)) rfl ?_
      refine x_aload_n d_K_define_36 rfl ?_
      refine x_get f_K_26 d_K_define_37 (by omega) (by first | assumption | exact vu_s | exact vu_t (by omega) (by first | assumption | exact vu_s | exact vu_t (by omega) (by first | assumption | exact vu_s | exact vu_t (by omega) (by first | assumption | exact vu_s))) | rfl | (simp only [va_up, Nat.reduceEqDiff, ↓reduceIte]; first | rfl | assumption)) rfl ?_
      refine x_cVe (c_G_expressionStart σ' hN k7) k_K_82 v_G_expressionStart d_K_define_40 rfl (by omega) (by first | assumption | exact vu_s | exact vu_t (by omega) (by first | assumption | exact vu_s | exact vu_t (by omega) (by first | assumption | exact vu_s | exact vu_t (by omega) (by first | assumption | exact vu_s))) | rfl | (simp only [va_up, Nat.reduceEqDiff, ↓reduceIte]; first | rfl | assumption)) rfl (by omega) (Nat.le_of_ble_eq_true rfl) ?_
      refine x_cV (c_E_evaluate hN ht hf kE kT) k_K_85 v_E_evaluate d_K_define_43 rfl (by omega) (by first | assumption | exact vu_s | exact vu_t (by omega) (by first | assumption | exact vu_s | exact vu_t (by omega) (by first | assumption | exact vu_s | exact vu_t (by omega) (by first | assumption | exact vu_s))) | rfl | (simp only [va_up, Nat.reduceEqDiff, ↓reduceIte]; first | rfl | assumption)) rfl (by omega) (Nat.le_of_ble_eq_true rfl) ?_
      rintro v h2 ⟨p', z1, z2, z3⟩
      have ed : (eLev tf tn 9).1 (σ'.2.2.1 - σ'.2.1 + 1 + 1) = dfP tf tn τ := by
        unfold dfP
        rw [hEq.2.1, hEq.2.2.1]
      rw [ed] at z3
      have e2 : ∀ k, k ≤ 8 ∨ 69 ≤ k → h2 k = h1 k := fun k hk => z2 k (by omega) (by omega) (by omega)
      have fr2 : frm h h2 := fun k hk => (e2 k (by omega)).trans (fr1 k hk)
      have g7 : h2 7 = oG σ' := (e2 7 (by omega)).trans k7
      have g8 : h2 8 = aI 4 σ'.2.2.2.2.2.2.2.2.2 := (e2 8 (by omega)).trans k8
      have g0' : h2 0 = oK := (e2 0 (by omega)).trans k0
      have gR := kR.cg (fun k a b => e2 k (by omega))
      have gT := kT.cg (fun k a b => e2 k (by omega))
      have gQ := kQ.cg (fun k a b => e2 k (by omega))
      cases hd : dfP tf tn τ with
      | none =>
        rw [hd] at z3
        obtain rfl := z3
        refine x_if_ne 52 d_K_define_46 (by decide) (fun c3 => ?_) (fun c3 => ?_)
        · exact absurd rfl c3
        · refine x_bipush (v := -3) d_K_define_49 (by decide) ?_
          refine x_iret d_K_define_51 ?_
          exact ⟨fr2, Or.inr (Or.inr ⟨c1, c2, τ, hτ, Or.inl ⟨hd, rfl, g0', gR, gT, ⟨σ', i1.2.2.1, g7, g8⟩, ⟨p', z1⟩, gQ⟩⟩)⟩
      | some PQ =>
        obtain ⟨P, pe'⟩ := PQ
        rw [hd] at z3
        obtain ⟨rfl, -, g, z4, z5⟩ := z3
        obtain ⟨k, hk, rfl⟩ := isQn_n c1
        have hi : vp_in (nI k) 4 := vp_in_nI hk (by decide)
        have hck : (nI k).toNatClampNeg = k := nI_clamp (by omega)
        obtain ⟨⟨s, a1, a2⟩, a3⟩ := id gQ
        obtain ⟨b1, b2, b3, b4, ⟨ra, b5⟩, rb, b6⟩ := a3 k hk
        have g9 := z1.1
        obtain ⟨g15, -⟩ := z1.2.2.2.2 15 (by omega) (by omega) (by omega)
        refine x_if_ne 52 d_K_define_46 (by decide) (fun c3 => ?_) (fun c3 => ?_)
        · refine x_aload_n d_K_define_52 rfl ?_
          refine x_get f_K_39 d_K_define_53 (by omega) (by first | assumption | exact vu_s | exact vu_t (by omega) (by first | assumption | exact vu_s | exact vu_t (by omega) (by first | assumption | exact vu_s | exact vu_t (by omega) (by first | assumption | exact vu_s))) | rfl | (simp only [va_up, Nat.reduceEqDiff, ↓reduceIte]; first | rfl | assumption)) rfl ?_
          refine x_iload_n d_K_define_56 rfl ?_
          refine x_aald (t := 5) (v := 70 + 6 * k) rfl d_K_define_57 (by omega) a1 hi (by rw [hck]; exact a2 k hk) ?_
          refine x_aload_n d_K_define_58 rfl ?_
          refine x_get f_K_26 d_K_define_59 (by omega) (by first | assumption | exact vu_s | exact vu_t (by omega) (by first | assumption | exact vu_s | exact vu_t (by omega) (by first | assumption | exact vu_s | exact vu_t (by omega) (by first | assumption | exact vu_s))) | rfl | (simp only [va_up, Nat.reduceEqDiff, ↓reduceIte]; first | rfl | assumption)) rfl ?_
          refine x_aload_n d_K_define_62 rfl ?_
          refine x_get f_K_33 d_K_define_63 (by omega) (by first | assumption | exact vu_s | exact vu_t (by omega) (by first | assumption | exact vu_s | exact vu_t (by omega) (by first | assumption | exact vu_s | exact vu_t (by omega) (by first | assumption | exact vu_s))) | rfl | (simp only [va_up, Nat.reduceEqDiff, ↓reduceIte]; first | rfl | assumption)) rfl ?_
          refine x_cVe (c_E_result hN z1) k_K_89 v_E_result d_K_define_66 rfl (by omega) (by first | assumption | exact vu_s | exact vu_t (by omega) (by first | assumption | exact vu_s | exact vu_t (by omega) (by first | assumption | exact vu_s | exact vu_t (by omega) (by first | assumption | exact vu_s))) | rfl | (simp only [va_up, Nat.reduceEqDiff, ↓reduceIte]; first | rfl | assumption)) rfl (by omega) (Nat.le_of_ble_eq_true rfl) ?_
          refine x_cVv (c_Q_become σ' hN (by omega) (by omega) (by omega) (by omega) (by omega) g7 g8 b1 b2 b3 b4 g15 z4) k_K_93 v_Q_become d_K_define_69 rfl (by omega) (by first | assumption | exact vu_s | exact vu_t (by omega) (by first | assumption | exact vu_s | exact vu_t (by omega) (by first | assumption | exact vu_s | exact vu_t (by omega) (by first | assumption | exact vu_s))) | rfl | (simp only [va_up, Nat.reduceEqDiff, ↓reduceIte]; first | rfl | assumption)) rfl (by omega) (Nat.le_of_ble_eq_true rfl) ?_
          generalize hh3 : va_up (va_up (va_up h2 (70 + 6 * k) (oQ (70 + 6 * k) 1 σ'.2.1 σ'.2.2.1 σ'.2.2.2.2.2.2.2.2.1 σ'.2.2.2.2.2.2.2.1)) (70 + 6 * k + 1) (aI 4 (cpA σ'.2.2.2.2.2.2.2.2.2 (Qs k).2.2.2.2.2.1 4))) (70 + 6 * k + 3) (aI 81 (va_cpy g (Qs k).2.2.2.2.2.2 0 0 81)) = h3
          have e3 : ∀ j, j ≠ 70 + 6 * k → j ≠ 70 + 6 * k + 1 → j ≠ 70 + 6 * k + 3 → h3 j = h2 j := by
            intro j q1 q2 q3
            rw [← hh3, vu_n q3, vu_n q2, vu_n q1]
          have m0 : h3 0 = oK := (e3 0 (by omega) (by omega) (by omega)).trans g0'
          have m69 : h3 69 = aR 5 4 s := (e3 69 (by omega) (by omega) (by omega)).trans a1
          have c0 : h3 (70 + 6 * k) = oQ (70 + 6 * k) 1 σ'.2.1 σ'.2.2.1 σ'.2.2.2.2.2.2.2.2.1 σ'.2.2.2.2.2.2.2.1 := by rw [← hh3]; exact vu_t (by omega) (vu_t (by omega) vu_s)
          have c0a : h3 (70 + 6 * k + 1) = aI 4 (cpA σ'.2.2.2.2.2.2.2.2.2 (Qs k).2.2.2.2.2.1 4) := by rw [← hh3]; exact vu_t (by omega) vu_s
          have c0b : h3 (70 + 6 * k + 2) = oP (70 + 6 * k + 2) := (e3 _ (by omega) (by omega) (by omega)).trans b3
          have c0c : h3 (70 + 6 * k + 3) = aI 81 (va_cpy g (Qs k).2.2.2.2.2.2 0 0 81) := by rw [← hh3]; exact vu_s
          refine x_aload_n d_K_define_72 rfl ?_
          refine x_get f_K_39 d_K_define_73 (by omega) (by first | assumption | exact vu_s | exact vu_t (by omega) (by first | assumption | exact vu_s | exact vu_t (by omega) (by first | assumption | exact vu_s | exact vu_t (by omega) (by first | assumption | exact vu_s))) | rfl | (simp only [va_up, Nat.reduceEqDiff, ↓reduceIte]; first | rfl | assumption)) rfl ?_
          refine x_iload_n d_K_define_76 rfl ?_
          refine x_aald (t := 5) (v := 70 + 6 * k) rfl d_K_define_77 (by omega) m69 hi (by rw [hck]; exact a2 k hk) ?_
          refine x_cVe (c_Q_terms (by omega) c0 c0b c0c) k_K_97 v_Q_terms d_K_define_78 rfl (by omega) (by first | assumption | exact vu_s | exact vu_t (by omega) (by first | assumption | exact vu_s | exact vu_t (by omega) (by first | assumption | exact vu_s | exact vu_t (by omega) (by first | assumption | exact vu_s))) | rfl | (simp only [va_up, Nat.reduceEqDiff, ↓reduceIte]; first | rfl | assumption)) rfl (by omega) (Nat.le_of_ble_eq_true rfl) ?_
          have hpe : pe (va_cpy g (Qs k).2.2.2.2.2.2 0 0 81) P := (pe_cpy _ _).tr z5
          rw [filN_pe 81 hpe]
          refine x_iret d_K_define_81 ?_
          refine ⟨fun j hj => (e3 j (by omega) (by omega) (by omega)).trans (fr2 j hj), Or.inr (Or.inr ⟨c1, c2, τ, hτ, Or.inr ⟨P, pe', (true, ja, jb, σ'.2.2.2.2.2.2.2.2.1, σ'.2.2.2.2.2.2.2.1, cpA σ'.2.2.2.2.2.2.2.2.2 (Qs k).2.2.2.2.2.1 4, va_cpy g (Qs k).2.2.2.2.2.2 0 0 81), hd, rfl, ⟨rfl, by rw [← hEq.2.1]; exact j1.symm, by rw [← hEq.2.2.1]; exact j2.symm, hEq.2.2.2.2.2.2.1, hEq.2.2.2.2.2.1, fun c hc => ?_, hpe, j3, j4⟩, m0, gR.cg (fun j q1 q2 => e3 j (by omega) (by omega) (by omega)), gT.cg (fun j q1 q2 => e3 j (by omega) (by omega) (by omega)), ⟨σ', i1.2.2.1, (e3 7 (by omega) (by omega) (by omega)).trans g7, (e3 8 (by omega) (by omega) (by omega)).trans g8⟩, ⟨p', z1.cg (fun j q1 q2 => e3 j (by omega) (by omega) (by omega))⟩, ⟨s, m69, a2⟩, fun i hi' => ?_⟩⟩)⟩
          · show cpA σ'.2.2.2.2.2.2.2.2.2 (Qs k).2.2.2.2.2.1 4 c = _
            rw [← hEq.2.2.2.2.2.2.2.1 c hc]
            simp [cpA, hc]
          · rw [hck]
            by_cases e : i = k
            · subst e
              rw [show ∀ Q, upQ Qs i Q i = Q from fun Q => if_pos rfl]
              refine ⟨?_, c0a, c0b, c0c, ⟨ra, (e3 _ (by omega) (by omega) (by omega)).trans b5⟩, rb, (e3 _ (by omega) (by omega) (by omega)).trans b6⟩
              rw [c0, ← j1, ← j2]
              rfl
            · rw [show ∀ Q, upQ Qs k Q i = Qs i from fun Q => if_neg e]
              exact (a3 i hi').cg (fun j q1 q2 => e3 j (by omega) (by omega) (by omega))
        · exact absurd c3 (by decide)
    · refine x_bipush (v := -2) d_K_define_25 (by decide) ?_
      refine x_iret d_K_define_27 ?_
      exact ⟨fr1, Or.inr (Or.inl ⟨c1, c2, rfl, I1⟩)⟩
  · rw [bi0] at c1
    refine x_iconst (v := -1) d_K_define_7 (by decide) ?_
    refine x_iret d_K_define_8 ?_
    exact ⟨frm.rf, Or.inl ⟨c1, rfl, hI⟩⟩
end KM3
