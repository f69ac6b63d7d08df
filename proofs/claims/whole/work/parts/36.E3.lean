/-! Evaluator: products, sums. -/
set_option maxRecDepth 100000 in
set_option maxHeartbeats 4000000 in
theorem c_E_product {N n D L : Nat} {f : Nat → Int32} {h : xHp} {p : Int32} (hN : 94 ≤ N) (hn : n ≤ 30) (hf : ∀ j, chOK (f j)) (hM : eM f n N D) (hL : D + 1 + L = 9) (hs : eSt h p) (ht : tSt h f n) : XM y_E_readProduct b_E_readProduct 4 (some .boolean) (4 * (D + 1) + 4) 0 0 [.ref 9, .ref 5, .int (nI L)] N h (eOut (18 + 6 * L) h (eProd f n (eLev f n (D + 1)).2 30 (pNum 1) p)) := by
  have hiL : vp_in (nI L) 9 := vp_in_nI (by omega) (by decide)
  have hcL : (nI L).toNatClampNeg = L := nI_clamp (by omega)
  refine xM_intro [some (.ref 9), some (.ref 5), some (.int (nI L)), none] (by decide) (fun _ => rfl) (fun _ => Nat.le_of_ble_eq_true rfl) (fun Γ => ?_)
  generalize ho : eProd f n (eLev f n (D + 1)).2 30 (pNum 1) p = o
  have key : ∀ (m k : Nat) (P g : Po) (p : Int32) (hh : xHp), m + k = 30 → eSt hh p → eFr (18 + 6 * L) h hh → hh (18 + 6 * L) = aI 81 g → pe g P → eProd f n (eLev f n (D + 1)).2 m P p = o → XW Γ y_E_readProduct b_E_readProduct 4 (some .boolean) (4 * (D + 1) + 4, 0, 0) (xQ Γ (N + 0) 0 0 (eOut (18 + 6 * L) h o)) 0 0 N hh 12 [some (.ref 9), some (.ref 5), some (.int (nI L)), some (.int (nI k))] [] := by
    intro m
    induction m with
    | zero =>
      intro k P g p hh hk hs hfr hg hpe ho
      have e : k = 30 := by omega
      subst e
      refine x_iload_n d_E_readProduct_12 rfl ?_
      refine x_bipush (v := 30) d_E_readProduct_13 (by decide) ?_
      refine x_icmp_ge 95 d_E_readProduct_15 (by decide) (fun c1 => ?_) (fun c1 => ?_)
      · refine x_iconst (v := 0) d_E_readProduct_95 (by decide) ?_
        refine x_zret d_E_readProduct_96 (by first | rfl | assumption) ?_
        rw [← ho]
        exact ⟨p, hs, hfr, rfl⟩
      · exact absurd (by decide) c1
    | succ m ih =>
      intro k P g p hh hk hs hfr hg hpe ho
      have h9 := hs.1
      refine x_iload_n d_E_readProduct_12 rfl ?_
      refine x_bipush (v := 30) d_E_readProduct_13 (by decide) ?_
      refine x_icmp_ge 95 d_E_readProduct_15 (by decide) (fun c1 => ?_) (fun c1 => ?_)
      · exact absurd c1 (nI_ge (show k < 30 by omega) (by decide))
      · refine x_aload_n d_E_readProduct_18 rfl ?_
        refine x_aload_n d_E_readProduct_19 rfl ?_
        refine x_iload_n d_E_readProduct_20 rfl ?_
        refine x_cV (c_E_factor hN hn hf hM hL hs (ht.fr hfr (by omega))) k_E_53 v_E_readFactor d_E_readProduct_21 rfl (by omega) (by first | assumption | exact vu_s | exact vu_t (by omega) (by first | assumption | exact vu_s | exact vu_t (by omega) (by first | assumption | exact vu_s | exact vu_t (by omega) (by first | assumption | exact vu_s))) | rfl | (simp only [va_up, Nat.reduceEqDiff, ↓reduceIte]; first | rfl | assumption)) rfl (by omega) (Nat.le_of_ble_eq_true rfl) ?_
        intro r h' hq
        obtain ⟨p', s', fr', hm⟩ := hq
        have fr2 : eFr (18 + 6 * L) h h' := hfr.tr (by omega) fr'
        have t2 : tSt h' f n := ht.fr fr2 (by omega)
        cases hx : (eLev f n (D + 1)).2 p with
        | none =>
          rw [hx] at hm
          obtain rfl := hm
          have eo : o = none := by rw [← ho]; simp only [eProd, hx]
          refine x_if_eq 49 d_E_readProduct_24 (by decide) (fun c2 => ?_) (fun c2 => ?_)
          · refine x_iconst (v := 0) d_E_readProduct_49 (by decide) ?_
            refine x_zret d_E_readProduct_50 (by first | rfl | assumption) ?_
            rw [eo]
            exact ⟨p', s', fr2, rfl⟩
          · exact absurd rfl c2
        | some q =>
          obtain ⟨G, q2⟩ := q
          rw [hx] at hm
          obtain ⟨rfl, rfl, g2, hg2, hpe2⟩ := hm
          obtain ⟨k9, -, ⟨s2, a3, a3'⟩, ⟨s3, a4, a4'⟩, a5⟩ := id s'
          obtain ⟨d1, gs, d2⟩ := a5 13 (by omega) (by omega) (by omega)
          obtain ⟨b1, -⟩ := a5 (17 + 6 * L) (by omega) (by omega) (by omega)
          obtain ⟨b3, -⟩ := a5 (19 + 6 * L) (by omega) (by omega) (by omega)
          have hgp : h' (17 + 6 * L + 1) = aI 81 g := by
            rw [show 17 + 6 * L + 1 = 18 + 6 * L by omega, fr' (18 + 6 * L) (by omega) (by omega) (by omega)]
            exact hg
          have hgf : h' (19 + 6 * L + 1) = aI 81 g2 := by rw [show 19 + 6 * L + 1 = 20 + 6 * L by omega]; exact hg2
          refine x_if_eq 49 d_E_readProduct_24 (by decide) (fun c2 => ?_) (fun c2 => ?_)
          · exact absurd c2 (by decide)
          · refine x_aload_n d_E_readProduct_27 rfl ?_
            refine x_get f_E_24 d_E_readProduct_28 (by omega) (by first | assumption | exact vu_s | exact vu_t (by omega) (by first | assumption | exact vu_s | exact vu_t (by omega) (by first | assumption | exact vu_s | exact vu_t (by omega) (by first | assumption | exact vu_s))) | rfl | (simp only [va_up, Nat.reduceEqDiff, ↓reduceIte]; first | rfl | assumption)) rfl ?_
            refine x_aload_n d_E_readProduct_31 rfl ?_
            refine x_get f_E_17 d_E_readProduct_32 (by omega) (by first | assumption | exact vu_s | exact vu_t (by omega) (by first | assumption | exact vu_s | exact vu_t (by omega) (by first | assumption | exact vu_s | exact vu_t (by omega) (by first | assumption | exact vu_s))) | rfl | (simp only [va_up, Nat.reduceEqDiff, ↓reduceIte]; first | rfl | assumption)) rfl ?_
            refine x_iload_n d_E_readProduct_35 rfl ?_
            refine x_aald (t := 4) (v := 17 + 6 * L) rfl d_E_readProduct_36 (by omega) a3 hiL (by rw [hcL]; exact a3' L (by omega)) ?_
            refine x_aload_n d_E_readProduct_37 rfl ?_
            refine x_get f_E_20 d_E_readProduct_38 (by omega) (by first | assumption | exact vu_s | exact vu_t (by omega) (by first | assumption | exact vu_s | exact vu_t (by omega) (by first | assumption | exact vu_s | exact vu_t (by omega) (by first | assumption | exact vu_s))) | rfl | (simp only [va_up, Nat.reduceEqDiff, ↓reduceIte]; first | rfl | assumption)) rfl ?_
            refine x_iload_n d_E_readProduct_41 rfl ?_
            refine x_aald (t := 4) (v := 19 + 6 * L) rfl d_E_readProduct_42 (by omega) a4 hiL (by rw [hcL]; exact a4' L (by omega)) ?_
            refine x_cV (c_P_becomeProduct (by omega) (by omega) (by omega) (by omega) (by omega) d1 d2 b1 hgp b3 hgf) k_E_56 v_P_becomeProduct d_E_readProduct_43 rfl (by omega) (by first | assumption | exact vu_s | exact vu_t (by omega) (by first | assumption | exact vu_s | exact vu_t (by omega) (by first | assumption | exact vu_s | exact vu_t (by omega) (by first | assumption | exact vu_s))) | rfl | (simp only [va_up, Nat.reduceEqDiff, ↓reduceIte]; first | rfl | assumption)) rfl (by omega) (Nat.le_of_ble_eq_true rfl) ?_
            intro r h2 hq
            rcases hq with ⟨hAF, rfl, rfl⟩ | ⟨hAF, rfl, gx, rfl⟩
            · have hAF' : AF P G := AF_pe hpe hpe2 hAF
              have hpm : pe (pout g g2 (filF gs 0 81) 81) (pMul P G) := pe_mul _ hpe hpe2
              rw [isLg_pe hpm]
              have s3 := eSt.up (g := pout g g2 (filF gs 0 81) 81) s' (k := 14) (by omega) (by omega) (by omega)
              have fr3 : eFr (18 + 6 * L) h (va_up h' 14 (aI 81 (pout g g2 (filF gs 0 81) 81))) := fr2.up (Or.inr (Or.inl rfl))
              refine x_if_ne 51 d_E_readProduct_46 (by decide) (fun c3 => ?_) (fun c3 => ?_)
              · rw [bi1] at c3
                refine x_aload_n d_E_readProduct_51 rfl ?_
                refine x_get f_E_17 d_E_readProduct_52 (by omega) (by first | assumption | exact vu_s | exact vu_t (by omega) (by first | assumption | exact vu_s | exact vu_t (by omega) (by first | assumption | exact vu_s | exact vu_t (by omega) (by first | assumption | exact vu_s))) | rfl | (simp only [va_up, Nat.reduceEqDiff, ↓reduceIte]; first | rfl | assumption)) rfl ?_
                refine x_iload_n d_E_readProduct_55 rfl ?_
                refine x_aald (t := 4) (v := 17 + 6 * L) rfl d_E_readProduct_56 (by omega) (vu_t (by omega) a3) hiL (by rw [hcL]; exact a3' L (by omega)) ?_
                refine x_aload_n d_E_readProduct_57 rfl ?_
                refine x_get f_E_24 d_E_readProduct_58 (by omega) (by first | assumption | exact vu_s | exact vu_t (by omega) (by first | assumption | exact vu_s | exact vu_t (by omega) (by first | assumption | exact vu_s | exact vu_t (by omega) (by first | assumption | exact vu_s))) | rfl | (simp only [va_up, Nat.reduceEqDiff, ↓reduceIte]; first | rfl | assumption)) rfl ?_
                refine x_cVv (c_P_becomeCopy (by omega) (by omega) (vu_t (by omega) b1) (vu_t (by omega) hgp) (vu_t (by omega) d1) vu_s) k_E_60 v_P_becomeCopy d_E_readProduct_61 rfl (by omega) (by first | assumption | exact vu_s | exact vu_t (by omega) (by first | assumption | exact vu_s | exact vu_t (by omega) (by first | assumption | exact vu_s | exact vu_t (by omega) (by first | assumption | exact vu_s))) | rfl | (simp only [va_up, Nat.reduceEqDiff, ↓reduceIte]; first | rfl | assumption)) rfl (by omega) (Nat.le_of_ble_eq_true rfl) ?_
                rw [show 17 + 6 * L + 1 = 18 + 6 * L by omega]
                have s4 := eSt.up (g := va_cpy (pout g g2 (filF gs 0 81) 81) g 0 0 81) s3 (k := 18 + 6 * L) (by omega) (by omega) (by omega)
                have fr4 := fr3.up (k := 18 + 6 * L) (e := aI 81 (va_cpy (pout g g2 (filF gs 0 81) 81) g 0 0 81)) (Or.inr (Or.inr (by omega)))
                have t4 := ht.fr fr4 (by omega)
                have hpe4 : pe (va_cpy (pout g g2 (filF gs 0 81) 81) g 0 0 81) (pMul P G) := (pe_cpy _ _).tr hpm
                generalize hH : va_up (va_up h' 14 (aI 81 (pout g g2 (filF gs 0 81) 81))) (18 + 6 * L) (aI 81 (va_cpy (pout g g2 (filF gs 0 81) 81) g 0 0 81)) = h4 at s4 fr4 t4 ⊢
                have hg4 : h4 (18 + 6 * L) = aI 81 (va_cpy (pout g g2 (filF gs 0 81) 81) g 0 0 81) := by rw [← hH]; exact vu_s
                have h49 := s4.1
                have h45 := t4.1
                refine x_aload_n d_E_readProduct_64 rfl ?_
                refine x_aload_n d_E_readProduct_65 rfl ?_
                refine x_get f_E_28 d_E_readProduct_66 (by omega) (by first | assumption | exact vu_s | exact vu_t (by omega) (by first | assumption | exact vu_s | exact vu_t (by omega) (by first | assumption | exact vu_s | exact vu_t (by omega) (by first | assumption | exact vu_s))) | rfl | (simp only [va_up, Nat.reduceEqDiff, ↓reduceIte]; first | rfl | assumption)) rfl ?_
                refine x_cVe (c_T_at p' hN hn (fun j => (hf j).1) t4.1 t4.2) k_E_49 v_T_at d_E_readProduct_69 rfl (by omega) (by first | assumption | exact vu_s | exact vu_t (by omega) (by first | assumption | exact vu_s | exact vu_t (by omega) (by first | assumption | exact vu_s | exact vu_t (by omega) (by first | assumption | exact vu_s))) | rfl | (simp only [va_up, Nat.reduceEqDiff, ↓reduceIte]; first | rfl | assumption)) rfl (by omega) (Nat.le_of_ble_eq_true rfl) ?_
                refine XW_c (show (if 0 ≤ p' ∧ p' < nI n then f p'.toNatClampNeg else 0) = tx f n p' from rfl) ?_
                refine x_bipush (v := 42) d_E_readProduct_72 (by decide) ?_
                have eo : o = if tx f n p' = 42 then eProd f n (eLev f n (D + 1)).2 m (pMul P G) (p' + 1) else some (pMul P G, p') := by
                  rw [← ho]
                  simp only [eProd, hx, afB_t hAF', c3, Bool.and_true, if_true]
                refine x_icmp_eq 79 d_E_readProduct_74 (by decide) (fun c4 => ?_) (fun c4 => ?_)
                · rw [if_pos c4] at eo
                  refine x_aload_n d_E_readProduct_79 rfl ?_
                  refine x_dup d_E_readProduct_80 rfl ?_
                  refine x_get f_E_28 d_E_readProduct_81 (by omega) (by first | assumption | exact vu_s | exact vu_t (by omega) (by first | assumption | exact vu_s | exact vu_t (by omega) (by first | assumption | exact vu_s | exact vu_t (by omega) (by first | assumption | exact vu_s))) | rfl | (simp only [va_up, Nat.reduceEqDiff, ↓reduceIte]; first | rfl | assumption)) rfl ?_
                  refine x_iconst (v := 1) d_E_readProduct_84 (by decide) ?_
                  refine x_iadd d_E_readProduct_85 ?_
                  refine x_put f_E_28 d_E_readProduct_86 (by omega) (by first | assumption | exact vu_s | exact vu_t (by omega) (by first | assumption | exact vu_s | exact vu_t (by omega) (by first | assumption | exact vu_s | exact vu_t (by omega) (by first | assumption | exact vu_s))) | rfl | (simp only [va_up, Nat.reduceEqDiff, ↓reduceIte]; first | rfl | assumption)) (Nat.le_of_ble_eq_true rfl) (fun _ => ⟨rfl, rfl⟩) ?_
                  refine x_iinc1 d_E_readProduct_89 rfl (by decide) rfl ?_
                  refine x_goto 12 d_E_readProduct_92 (by decide) ?_
                  rw [nI_1]
                  exact ih (k + 1) (pMul P G) _ (p' + 1) _ (by omega) s4.pl (fr4.up (Or.inl rfl)) (vu_t (by omega) hg4) hpe4 eo.symm
                · rw [if_neg c4] at eo
                  refine x_iconst (v := 1) d_E_readProduct_77 (by decide) ?_
                  refine x_zret d_E_readProduct_78 (by first | rfl | assumption) ?_
                  rw [eo]
                  exact ⟨p', s4, fr4, rfl, rfl, _, hg4, hpe4⟩
              · rw [bi0] at c3
                have eo : o = none := by
                  rw [← ho]
                  simp only [eProd, hx, c3, Bool.and_false, Bool.false_eq_true, if_false]
                refine x_iconst (v := 0) d_E_readProduct_49 (by decide) ?_
                refine x_zret d_E_readProduct_50 (by first | rfl | assumption) ?_
                rw [eo]
                exact ⟨p', s3, fr3, rfl⟩
            · have hAF' : ¬ AF P G := fun z => hAF (AF_pe hpe.sy hpe2.sy z)
              have eo : o = none := by
                rw [← ho]
                simp only [eProd, hx, afB_f hAF', Bool.false_and, Bool.false_eq_true, if_false]
              refine x_if_ne 51 d_E_readProduct_46 (by decide) (fun c3 => ?_) (fun c3 => ?_)
              · exact absurd rfl c3
              · refine x_iconst (v := 0) d_E_readProduct_49 (by decide) ?_
                refine x_zret d_E_readProduct_50 (by first | rfl | assumption) ?_
                rw [eo]
                exact ⟨p', eSt.up s' (by omega) (by omega) (by omega), fr2.up (Or.inr (Or.inl rfl)), rfl⟩
  obtain ⟨h9, -, ⟨s2, a3, a3'⟩, -, a5⟩ := id hs
  obtain ⟨b1, g1, b2⟩ := a5 (17 + 6 * L) (by omega) (by omega) (by omega)
  refine x_aload_n d_E_readProduct_0 rfl ?_
  refine x_get f_E_17 d_E_readProduct_1 (by omega) (by first | assumption | exact vu_s | exact vu_t (by omega) (by first | assumption | exact vu_s | exact vu_t (by omega) (by first | assumption | exact vu_s | exact vu_t (by omega) (by first | assumption | exact vu_s))) | rfl | (simp only [va_up, Nat.reduceEqDiff, ↓reduceIte]; first | rfl | assumption)) rfl ?_
  refine x_iload_n d_E_readProduct_4 rfl ?_
  refine x_aald (t := 4) (v := 17 + 6 * L) rfl d_E_readProduct_5 (by omega) a3 hiL (by rw [hcL]; exact a3' L (by omega)) ?_
  refine x_iconst (v := 1) d_E_readProduct_6 (by decide) ?_
  refine x_cVv (c_P_becomeNumber 1 (by omega) b1 b2) k_E_36 v_P_becomeNumber d_E_readProduct_7 rfl (by omega) (by first | assumption | exact vu_s | exact vu_t (by omega) (by first | assumption | exact vu_s | exact vu_t (by omega) (by first | assumption | exact vu_s | exact vu_t (by omega) (by first | assumption | exact vu_s))) | rfl | (simp only [va_up, Nat.reduceEqDiff, ↓reduceIte]; first | rfl | assumption)) rfl (by omega) (Nat.le_of_ble_eq_true rfl) ?_
  rw [show 17 + 6 * L + 1 = 18 + 6 * L by omega]
  refine x_iconst (v := 0) d_E_readProduct_10 (by decide) ?_
  refine x_istore_n d_E_readProduct_11 (by decide) rfl ?_
  exact key 30 0 (pNum 1) _ p _ rfl (eSt.up hs (by omega) (by omega) (by omega)) ((eFr.rf _ h).up (Or.inr (Or.inr (by omega)))) vu_s (pe_num _ _) ho
set_option maxRecDepth 100000 in
set_option maxHeartbeats 4000000 in
theorem c_E_sum {N n D L : Nat} {f : Nat → Int32} {h : xHp} {p : Int32} (hN : 94 ≤ N) (hn : n ≤ 30) (hf : ∀ j, chOK (f j)) (hM : eM f n N D) (hL : D + 1 + L = 9) (hs : eSt h p) (ht : tSt h f n) : XM y_E_readSum b_E_readSum 6 (some .boolean) (4 * (D + 1) + 5) 0 0 [.ref 9, .ref 5, .int (nI L)] N h (eOut (16 + 6 * L) h ((eLev f n (D + 1)).1 p)) := by
  have hiL : vp_in (nI L) 9 := vp_in_nI (by omega) (by decide)
  have hcL : (nI L).toNatClampNeg = L := nI_clamp (by omega)
  refine xM_intro [some (.ref 9), some (.ref 5), some (.int (nI L)), none, none, none] (by decide) (fun _ => rfl) (fun _ => Nat.le_of_ble_eq_true rfl) (fun Γ => ?_)
  have ho : eSum f n (eLev f n (D + 1)).2 30 (pNum 0) 1 p = (eLev f n (D + 1)).1 p := rfl
  generalize (eLev f n (D + 1)).1 p = o at ho ⊢
  have key : ∀ (m k : Nat) (S g : Po) (t : Int32) (p : Int32) (hh : xHp) (x5 : Option Value), m + k = 30 → eSt hh p → eFr (16 + 6 * L) h hh → hh (16 + 6 * L) = aI 81 g → pe g S → eSum f n (eLev f n (D + 1)).2 m S t p = o → XW Γ y_E_readSum b_E_readSum 6 (some .boolean) (4 * (D + 1) + 5, 0, 0) (xQ Γ (N + 0) 0 0 (eOut (16 + 6 * L) h o)) 0 0 N hh 23 [some (.ref 9), some (.ref 5), some (.int (nI L)), some (.int t), some (.int (nI k)), x5] [] := by
    intro m
    induction m with
    | zero =>
      intro k S g t p hh x5 hk hs hfr hg hpe ho
      have e : k = 30 := by omega
      subst e
      refine x_iload d_E_readSum_23 rfl ?_
      refine x_bipush (v := 30) d_E_readSum_25 (by decide) ?_
      refine x_icmp_ge 115 d_E_readSum_27 (by decide) (fun c1 => ?_) (fun c1 => ?_)
      · refine x_iconst (v := 0) d_E_readSum_115 (by decide) ?_
        refine x_zret d_E_readSum_116 (by first | rfl | assumption) ?_
        rw [← ho]
        exact ⟨p, hs, hfr, rfl⟩
      · exact absurd (by decide) c1
    | succ m ih =>
      intro k S g t p hh x5 hk hs hfr hg hpe ho
      have h9 := hs.1
      refine x_iload d_E_readSum_23 rfl ?_
      refine x_bipush (v := 30) d_E_readSum_25 (by decide) ?_
      refine x_icmp_ge 115 d_E_readSum_27 (by decide) (fun c1 => ?_) (fun c1 => ?_)
      · exact absurd c1 (nI_ge (show k < 30 by omega) (by decide))
      · refine x_aload_n d_E_readSum_30 rfl ?_
        refine x_aload_n d_E_readSum_31 rfl ?_
        refine x_iload_n d_E_readSum_32 rfl ?_
        refine x_cV (c_E_product hN hn hf hM hL hs (ht.fr hfr (by omega))) k_E_42 v_E_readProduct d_E_readSum_33 rfl (by omega) (by first | assumption | exact vu_s | exact vu_t (by omega) (by first | assumption | exact vu_s | exact vu_t (by omega) (by first | assumption | exact vu_s | exact vu_t (by omega) (by first | assumption | exact vu_s))) | rfl | (simp only [va_up, Nat.reduceEqDiff, ↓reduceIte]; first | rfl | assumption)) rfl (by omega) (Nat.le_of_ble_eq_true rfl) ?_
        intro r h' hq
        obtain ⟨p', s', fr', hm⟩ := hq
        have fr2 : eFr (16 + 6 * L) h h' := hfr.tr (by omega) fr'
        cases hx : eProd f n (eLev f n (D + 1)).2 30 (pNum 1) p with
        | none =>
          rw [hx] at hm
          obtain rfl := hm
          have eo : o = none := by rw [← ho]; simp only [eSum, hx]
          refine x_if_eq 58 d_E_readSum_36 (by decide) (fun c2 => ?_) (fun c2 => ?_)
          · refine x_iconst (v := 0) d_E_readSum_58 (by decide) ?_
            refine x_zret d_E_readSum_59 (by first | rfl | assumption) ?_
            rw [eo]
            exact ⟨p', s', fr2, rfl⟩
          · exact absurd rfl c2
        | some q =>
          obtain ⟨G, q2⟩ := q
          rw [hx] at hm
          obtain ⟨rfl, rfl, g2, hg2, hpe2⟩ := hm
          obtain ⟨k9, ⟨s1, a2, a2'⟩, ⟨s2, a3, a3'⟩, -, a5⟩ := id s'
          obtain ⟨b1, -⟩ := a5 (15 + 6 * L) (by omega) (by omega) (by omega)
          obtain ⟨b3, -⟩ := a5 (17 + 6 * L) (by omega) (by omega) (by omega)
          have hgs : h' (15 + 6 * L + 1) = aI 81 g := by
            rw [show 15 + 6 * L + 1 = 16 + 6 * L by omega, fr' (16 + 6 * L) (by omega) (by omega) (by omega)]
            exact hg
          have hgp : h' (17 + 6 * L + 1) = aI 81 g2 := by rw [show 17 + 6 * L + 1 = 18 + 6 * L by omega]; exact hg2
          refine x_if_eq 58 d_E_readSum_36 (by decide) (fun c2 => ?_) (fun c2 => ?_)
          · exact absurd c2 (by decide)
          · refine x_aload_n d_E_readSum_39 rfl ?_
            refine x_get f_E_13 d_E_readSum_40 (by omega) (by first | assumption | exact vu_s | exact vu_t (by omega) (by first | assumption | exact vu_s | exact vu_t (by omega) (by first | assumption | exact vu_s | exact vu_t (by omega) (by first | assumption | exact vu_s))) | rfl | (simp only [va_up, Nat.reduceEqDiff, ↓reduceIte]; first | rfl | assumption)) rfl ?_
            refine x_iload_n d_E_readSum_43 rfl ?_
            refine x_aald (t := 4) (v := 15 + 6 * L) rfl d_E_readSum_44 (by omega) a2 hiL (by rw [hcL]; exact a2' L (by omega)) ?_
            refine x_aload_n d_E_readSum_45 rfl ?_
            refine x_get f_E_17 d_E_readSum_46 (by omega) (by first | assumption | exact vu_s | exact vu_t (by omega) (by first | assumption | exact vu_s | exact vu_t (by omega) (by first | assumption | exact vu_s | exact vu_t (by omega) (by first | assumption | exact vu_s))) | rfl | (simp only [va_up, Nat.reduceEqDiff, ↓reduceIte]; first | rfl | assumption)) rfl ?_
            refine x_iload_n d_E_readSum_49 rfl ?_
            refine x_aald (t := 4) (v := 17 + 6 * L) rfl d_E_readSum_50 (by omega) a3 hiL (by rw [hcL]; exact a3' L (by omega)) ?_
            refine x_iload_n d_E_readSum_51 rfl ?_
            refine x_cVe (c_P_add t (by omega) (by omega) (by omega) b1 hgs b3 hgp) k_E_45 v_P_add d_E_readSum_52 rfl (by omega) (by first | assumption | exact vu_s | exact vu_t (by omega) (by first | assumption | exact vu_s | exact vu_t (by omega) (by first | assumption | exact vu_s | exact vu_t (by omega) (by first | assumption | exact vu_s))) | rfl | (simp only [va_up, Nat.reduceEqDiff, ↓reduceIte]; first | rfl | assumption)) rfl (by omega) (Nat.le_of_ble_eq_true rfl) ?_
            rw [show 15 + 6 * L + 1 = 16 + 6 * L by omega]
            have hpa : pe (addU g g2 t 81) (pAdd S G t) := pe_add t hpe hpe2
            rw [isLg_pe hpa]
            have s4 := eSt.up (g := addU g g2 t 81) s' (k := 16 + 6 * L) (by omega) (by omega) (by omega)
            have fr4 := fr2.up (k := 16 + 6 * L) (e := aI 81 (addU g g2 t 81)) (Or.inr (Or.inr (by omega)))
            have t4 := ht.fr fr4 (by omega)
            generalize hH : va_up h' (16 + 6 * L) (aI 81 (addU g g2 t 81)) = h4 at s4 fr4 t4 ⊢
            have hg4 : h4 (16 + 6 * L) = aI 81 (addU g g2 t 81) := by rw [← hH]; exact vu_s
            have h49 := s4.1
            have h45 := t4.1
            refine x_if_ne 60 d_E_readSum_55 (by decide) (fun c3 => ?_) (fun c3 => ?_)
            · rw [bi1] at c3
              have c3' : isLg (pAdd S G t) = false := by simpa using c3
              refine x_aload_n d_E_readSum_60 rfl ?_
              refine x_aload_n d_E_readSum_61 rfl ?_
              refine x_get f_E_28 d_E_readSum_62 (by omega) (by first | assumption | exact vu_s | exact vu_t (by omega) (by first | assumption | exact vu_s | exact vu_t (by omega) (by first | assumption | exact vu_s | exact vu_t (by omega) (by first | assumption | exact vu_s))) | rfl | (simp only [va_up, Nat.reduceEqDiff, ↓reduceIte]; first | rfl | assumption)) rfl ?_
              refine x_cVe (c_T_at p' hN hn (fun j => (hf j).1) t4.1 t4.2) k_E_49 v_T_at d_E_readSum_65 rfl (by omega) (by first | assumption | exact vu_s | exact vu_t (by omega) (by first | assumption | exact vu_s | exact vu_t (by omega) (by first | assumption | exact vu_s | exact vu_t (by omega) (by first | assumption | exact vu_s))) | rfl | (simp only [va_up, Nat.reduceEqDiff, ↓reduceIte]; first | rfl | assumption)) rfl (by omega) (Nat.le_of_ble_eq_true rfl) ?_
              refine XW_c (show (if 0 ≤ p' ∧ p' < nI n then f p'.toNatClampNeg else 0) = tx f n p' from rfl) ?_
              refine x_istore d_E_readSum_68 (by decide) rfl ?_
              refine x_iload d_E_readSum_70 rfl ?_
              refine x_bipush (v := 43) d_E_readSum_72 (by decide) ?_
              have eo : o = if tx f n p' = 43 then eSum f n (eLev f n (D + 1)).2 m (pAdd S G t) 1 (p' + 1) else if tx f n p' = 45 then eSum f n (eLev f n (D + 1)).2 m (pAdd S G t) (-1) (p' + 1) else some (pAdd S G t, p') := by
                rw [← ho]
                simp only [eSum, hx, c3', Bool.false_eq_true, if_false]
              refine x_icmp_eq 86 d_E_readSum_74 (by decide) (fun c4 => ?_) (fun c4 => ?_)
              · rw [if_pos c4] at eo
                refine x_iload d_E_readSum_86 rfl ?_
                refine x_bipush (v := 43) d_E_readSum_88 (by decide) ?_
                refine x_icmp_ne 97 d_E_readSum_90 (by decide) (fun c5 => ?_) (fun c5 => ?_)
                · exact absurd c4 c5
                · refine x_iconst (v := 1) d_E_readSum_93 (by decide) ?_
                  refine x_goto 98 d_E_readSum_94 (by decide) ?_
                  refine x_istore_n d_E_readSum_98 (by decide) rfl ?_
                  refine x_aload_n d_E_readSum_99 rfl ?_
                  refine x_dup d_E_readSum_100 rfl ?_
                  refine x_get f_E_28 d_E_readSum_101 (by omega) (by first | assumption | exact vu_s | exact vu_t (by omega) (by first | assumption | exact vu_s | exact vu_t (by omega) (by first | assumption | exact vu_s | exact vu_t (by omega) (by first | assumption | exact vu_s))) | rfl | (simp only [va_up, Nat.reduceEqDiff, ↓reduceIte]; first | rfl | assumption)) rfl ?_
                  refine x_iconst (v := 1) d_E_readSum_104 (by decide) ?_
                  refine x_iadd d_E_readSum_105 ?_
                  refine x_put f_E_28 d_E_readSum_106 (by omega) (by first | assumption | exact vu_s | exact vu_t (by omega) (by first | assumption | exact vu_s | exact vu_t (by omega) (by first | assumption | exact vu_s | exact vu_t (by omega) (by first | assumption | exact vu_s))) | rfl | (simp only [va_up, Nat.reduceEqDiff, ↓reduceIte]; first | rfl | assumption)) (Nat.le_of_ble_eq_true rfl) (fun _ => ⟨rfl, rfl⟩) ?_
                  refine x_iinc1 d_E_readSum_109 rfl (by decide) rfl ?_
                  refine x_goto 23 d_E_readSum_112 (by decide) ?_
                  rw [nI_1]
                  exact ih (k + 1) (pAdd S G t) _ 1 (p' + 1) _ _ (by omega) s4.pl (fr4.up (Or.inl rfl)) (vu_t (by omega) hg4) hpa eo.symm
              · rw [if_neg c4] at eo
                refine x_iload d_E_readSum_77 rfl ?_
                refine x_bipush (v := 45) d_E_readSum_79 (by decide) ?_
                refine x_icmp_eq 86 d_E_readSum_81 (by decide) (fun c5 => ?_) (fun c5 => ?_)
                · rw [if_pos c5] at eo
                  refine x_iload d_E_readSum_86 rfl ?_
                  refine x_bipush (v := 43) d_E_readSum_88 (by decide) ?_
                  refine x_icmp_ne 97 d_E_readSum_90 (by decide) (fun c6 => ?_) (fun c6 => ?_)
                  · refine x_iconst (v := -1) d_E_readSum_97 (by decide) ?_
                    refine x_istore_n d_E_readSum_98 (by decide) rfl ?_
                    refine x_aload_n d_E_readSum_99 rfl ?_
                    refine x_dup d_E_readSum_100 rfl ?_
                    refine x_get f_E_28 d_E_readSum_101 (by omega) (by first | assumption | exact vu_s | exact vu_t (by omega) (by first | assumption | exact vu_s | exact vu_t (by omega) (by first | assumption | exact vu_s | exact vu_t (by omega) (by first | assumption | exact vu_s))) | rfl | (simp only [va_up, Nat.reduceEqDiff, ↓reduceIte]; first | rfl | assumption)) rfl ?_
                    refine x_iconst (v := 1) d_E_readSum_104 (by decide) ?_
                    refine x_iadd d_E_readSum_105 ?_
                    refine x_put f_E_28 d_E_readSum_106 (by omega) (by first | assumption | exact vu_s | exact vu_t (by omega) (by first | assumption | exact vu_s | exact vu_t (by omega) (by first | assumption | exact vu_s | exact vu_t (by omega) (by first | assumption | exact vu_s))) | rfl | (simp only [va_up, Nat.reduceEqDiff, ↓reduceIte]; first | rfl | assumption)) (Nat.le_of_ble_eq_true rfl) (fun _ => ⟨rfl, rfl⟩) ?_
                    refine x_iinc1 d_E_readSum_109 rfl (by decide) rfl ?_
                    refine x_goto 23 d_E_readSum_112 (by decide) ?_
                    rw [nI_1]
                    exact ih (k + 1) (pAdd S G t) _ (-1) (p' + 1) _ _ (by omega) s4.pl (fr4.up (Or.inl rfl)) (vu_t (by omega) hg4) hpa eo.symm
                  · exact absurd c6 c4
                · rw [if_neg c5] at eo
                  refine x_iconst (v := 1) d_E_readSum_84 (by decide) ?_
                  refine x_zret d_E_readSum_85 (by first | rfl | assumption) ?_
                  rw [eo]
                  exact ⟨p', s4, fr4, rfl, rfl, _, hg4, hpa⟩
            · rw [bi0] at c3
              have c3' : isLg (pAdd S G t) = true := by simpa using c3
              have eo : o = none := by
                rw [← ho]
                simp only [eSum, hx, c3', if_true]
              refine x_iconst (v := 0) d_E_readSum_58 (by decide) ?_
              refine x_zret d_E_readSum_59 (by first | rfl | assumption) ?_
              rw [eo]
              exact ⟨p', s4, fr4, rfl⟩
  obtain ⟨h9, ⟨s1, a2, a2'⟩, -, -, a5⟩ := id hs
  obtain ⟨b1, g1, b2⟩ := a5 (15 + 6 * L) (by omega) (by omega) (by omega)
  refine x_iload_n d_E_readSum_0 rfl ?_
  refine x_bipush (v := 9) d_E_readSum_1 (by decide) ?_
  refine x_icmp_lt 8 d_E_readSum_3 (by decide) (fun c1 => ?_) (fun c1 => ?_)
  · refine x_aload_n d_E_readSum_8 rfl ?_
    refine x_get f_E_13 d_E_readSum_9 (by omega) (by first | assumption | exact vu_s | exact vu_t (by omega) (by first | assumption | exact vu_s | exact vu_t (by omega) (by first | assumption | exact vu_s | exact vu_t (by omega) (by first | assumption | exact vu_s))) | rfl | (simp only [va_up, Nat.reduceEqDiff, ↓reduceIte]; first | rfl | assumption)) rfl ?_
    refine x_iload_n d_E_readSum_12 rfl ?_
    refine x_aald (t := 4) (v := 15 + 6 * L) rfl d_E_readSum_13 (by omega) a2 hiL (by rw [hcL]; exact a2' L (by omega)) ?_
    refine x_iconst (v := 0) d_E_readSum_14 (by decide) ?_
    refine x_cVv (c_P_becomeNumber 0 (by omega) b1 b2) k_E_36 v_P_becomeNumber d_E_readSum_15 rfl (by omega) (by first | assumption | exact vu_s | exact vu_t (by omega) (by first | assumption | exact vu_s | exact vu_t (by omega) (by first | assumption | exact vu_s | exact vu_t (by omega) (by first | assumption | exact vu_s))) | rfl | (simp only [va_up, Nat.reduceEqDiff, ↓reduceIte]; first | rfl | assumption)) rfl (by omega) (Nat.le_of_ble_eq_true rfl) ?_
    rw [show 15 + 6 * L + 1 = 16 + 6 * L by omega]
    refine x_iconst (v := 1) d_E_readSum_18 (by decide) ?_
    refine x_istore_n d_E_readSum_19 (by decide) rfl ?_
    refine x_iconst (v := 0) d_E_readSum_20 (by decide) ?_
    refine x_istore d_E_readSum_21 (by decide) rfl ?_
    exact key 30 0 (pNum 0) _ 1 p _ none rfl (eSt.up hs (by omega) (by omega) (by omega)) ((eFr.rf _ h).up (Or.inr (Or.inr (by omega)))) vu_s (pe_num _ _) ho
  · exact absurd (nI_lt (show L < 9 by omega) (by decide)) c1
theorem c_E_all {N n : Nat} {f : Nat → Int32} (hN : 94 ≤ N) (hn : n ≤ 30) (hf : ∀ j, chOK (f j)) : ∀ D, eM f n N D
  | 0 => c_E_zero
  | D + 1 => fun h p L hL hs ht => ⟨c_E_sum hN hn hf (c_E_all hN hn hf D) hL hs ht, c_E_factor hN hn hf (c_E_all hN hn hf D) hL hs ht⟩
set_option maxRecDepth 100000 in
set_option maxHeartbeats 4000000 in
theorem c_E_evaluate {N n : Nat} {f : Nat → Int32} {h : xHp} {p q : Int32} (hN : 94 ≤ N) (hn : n ≤ 30) (hf : ∀ j, chOK (f j)) (hs : eSt h q) (ht : tSt h f n) : XM y_E_evaluate b_E_evaluate 3 (some .boolean) 42 0 0 [.ref 9, .ref 5, .int p] N h (eOut 16 h ((eLev f n 9).1 p)) := by
  have h9 := hs.1
  have s1 : eSt (va_up h 9 (oE p)) p := hs.pl
  have fr1 : eFr 16 h (va_up h 9 (oE p)) := (eFr.rf _ h).up (Or.inl rfl)
  refine xM_intro [some (.ref 9), some (.ref 5), some (.int p)] (by decide) (fun _ => rfl) (fun _ => Nat.le_of_ble_eq_true rfl) (fun Γ => ?_)
  refine x_aload_n d_E_evaluate_0 rfl ?_
  refine x_iload_n d_E_evaluate_1 rfl ?_
  refine x_put f_E_28 d_E_evaluate_2 (by omega) (by first | assumption | exact vu_s | exact vu_t (by omega) (by first | assumption | exact vu_s | exact vu_t (by omega) (by first | assumption | exact vu_s | exact vu_t (by omega) (by first | assumption | exact vu_s))) | rfl | (simp only [va_up, Nat.reduceEqDiff, ↓reduceIte]; first | rfl | assumption)) (Nat.le_of_ble_eq_true rfl) (fun _ => ⟨rfl, rfl⟩) ?_
  refine x_aload_n d_E_evaluate_5 rfl ?_
  refine x_aload_n d_E_evaluate_6 rfl ?_
  refine x_iconst (v := 0) d_E_evaluate_7 (by decide) ?_
  refine x_cV ((c_E_all hN hn hf 9 _ p 0 rfl s1 (ht.fr fr1 (by omega))).1) k_E_32 v_E_readSum d_E_evaluate_8 rfl (by omega) (by first | assumption | exact vu_s | exact vu_t (by omega) (by first | assumption | exact vu_s | exact vu_t (by omega) (by first | assumption | exact vu_s | exact vu_t (by omega) (by first | assumption | exact vu_s))) | rfl | (simp only [va_up, Nat.reduceEqDiff, ↓reduceIte]; first | rfl | assumption)) rfl (by omega) (Nat.le_of_ble_eq_true rfl) ?_
  intro r h' hq
  obtain ⟨p', z1, z2, z3⟩ := hq
  have z2' : eFr 16 h h' := fr1.tr (Nat.le_refl _) z2
  cases ho : (eLev f n 9).1 p with
  | none =>
    rw [ho] at z3
    obtain rfl := z3
    refine x_zret d_E_evaluate_11 (by first | rfl | assumption) ?_
    exact ⟨p', z1, z2', rfl⟩
  | some q =>
    rw [ho] at z3
    obtain ⟨rfl, z4⟩ := z3
    refine x_zret d_E_evaluate_11 (by first | rfl | assumption) ?_
    exact ⟨p', z1, z2', rfl, z4⟩
set_option maxRecDepth 100000 in
set_option maxHeartbeats 4000000 in
theorem c_E_result {N : Nat} {h : xHp} {p : Int32} (hN : 94 ≤ N) (hs : eSt h p) : XM y_E_result b_E_result 1 (some (.object "JoinKeeper$Polynomial")) 0 0 0 [.ref 9] N h (xR (some (.ref 15)) h) := by
  obtain ⟨h9, ⟨s1, a2, a2'⟩, -⟩ := id hs
  refine xM_intro [some (.ref 9)] (by decide) (fun _ => rfl) (fun _ => Nat.le_of_ble_eq_true rfl) (fun Γ => ?_)
  refine x_aload_n d_E_result_0 rfl ?_
  refine x_get f_E_13 d_E_result_1 (by omega) (by first | assumption | exact vu_s | exact vu_t (by omega) (by first | assumption | exact vu_s | exact vu_t (by omega) (by first | assumption | exact vu_s | exact vu_t (by omega) (by first | assumption | exact vu_s))) | rfl | (simp only [va_up, Nat.reduceEqDiff, ↓reduceIte]; first | rfl | assumption)) rfl ?_
  refine x_iconst (v := 0) d_E_result_4 (by decide) ?_
  refine x_aald (t := 4) (v := 15) rfl d_E_result_5 (by omega) a2 (by unfold vp_in; decide) (a2' 0 (by omega)) ?_
  refine x_aret (Or.inl ⟨_, rfl⟩) d_E_result_6 ?_
  exact ⟨rfl, rfl⟩
