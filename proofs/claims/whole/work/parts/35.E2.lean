/-! Evaluator: its methods. -/
theorem XW_c {Γ : xG} {y : MethodName} {cc : ByteArray} {nL : Nat} {ret : Option FieldType} {dd : Nat × Nat × Nat} {Q : State → Prop} {ce sl N : Nat} {h : xHp} {pc : Nat} {lv : List (Option Value)} {st : List Value} {a b : Int32} (e : a = b) (k : XW Γ y cc nL ret dd Q ce sl N h pc lv (.int b :: st)) : XW Γ y cc nL ret dd Q ce sl N h pc lv (.int a :: st) := e ▸ k
theorem pe_num (f : Po) (v : Int32) : pe (upd (filF f 0 81) 0 v) (pNum v) := by
  intro j hj
  by_cases e : j = 0
  · subst e
    simp [upd, pNum]
  · simp [upd, pNum, e, filF, hj, pZ]
theorem pe_col (f : Po) (c : Nat) : pe (upd (filF f 0 81) (cp c) 1) (pCol c) := by
  intro j hj
  by_cases e : j = cp c
  · subst e
    simp [upd, pCol]
  · simp [upd, pCol, e, filF, hj, pZ]
theorem pe_cpy (f g : Po) : pe (va_cpy g f 0 0 81) g := by
  intro j hj
  simp [va_cpy, hj]
theorem pe_neg (f : Po) {g g' : Po} (h : pe g g') : pe (negU f g 81) (pNeg g') := by
  intro j hj
  simp [negU, hj, pNeg, h j hj]
theorem pe_add {f f' g g' : Po} (t : Int32) (h : pe f f') (h2 : pe g g') : pe (addU f g t 81) (pAdd f' g' t) := by
  intro j hj
  simp [addU, hj, pAdd, h j hj, h2 j hj]
theorem pe_mul (f : Po) {l l' r r' : Po} (h : pe l l') (h2 : pe r r') : pe (pout l r (filF f 0 81) 81) (pMul l' r') := pout_pe h h2 (fun j hj => by simp [filF, hj, pZ]) 81 (Nat.le_refl _)
def eM (f : Nat → Int32) (n N D : Nat) : Prop := ∀ (h : xHp) (p : Int32) (L : Nat), D + L = 9 → eSt h p → tSt h f n → XM y_E_readSum b_E_readSum 6 (some .boolean) (4 * D + 5) 0 0 [.ref 9, .ref 5, .int (nI L)] N h (eOut (16 + 6 * L) h ((eLev f n D).1 p)) ∧ XM y_E_readFactor b_E_readFactor 5 (some .boolean) (4 * D + 3) 0 0 [.ref 9, .ref 5, .int (nI L)] N h (eOut (20 + 6 * L) h ((eLev f n D).2 p))
set_option maxRecDepth 100000 in
set_option maxHeartbeats 4000000 in
theorem c_E_zero {N n : Nat} {f : Nat → Int32} : eM f n N 0 := by
  intro h p L hL hs ht
  have e : L = 9 := by omega
  subst e
  constructor
  · refine xM_intro [some (.ref 9), some (.ref 5), some (.int (nI 9)), none, none, none] (by decide) (fun _ => rfl) (fun _ => Nat.le_of_ble_eq_true rfl) (fun Γ => ?_)
    refine x_iload_n d_E_readSum_0 rfl ?_
    refine x_bipush (v := 9) d_E_readSum_1 (by decide) ?_
    refine x_icmp_lt 8 d_E_readSum_3 (by decide) (fun c1 => ?_) (fun c1 => ?_)
    · exact absurd c1 (by decide)
    · refine x_iconst (v := 0) d_E_readSum_6 (by decide) ?_
      refine x_zret d_E_readSum_7 (by first | rfl | assumption) ?_
      exact ⟨p, hs, eFr.rf _ _, rfl⟩
  · refine xM_intro [some (.ref 9), some (.ref 5), some (.int (nI 9)), none, none] (by decide) (fun _ => rfl) (fun _ => Nat.le_of_ble_eq_true rfl) (fun Γ => ?_)
    refine x_iload_n d_E_readFactor_0 rfl ?_
    refine x_bipush (v := 9) d_E_readFactor_1 (by decide) ?_
    refine x_icmp_lt 8 d_E_readFactor_3 (by decide) (fun c1 => ?_) (fun c1 => ?_)
    · exact absurd c1 (by decide)
    · refine x_iconst (v := 0) d_E_readFactor_6 (by decide) ?_
      refine x_zret d_E_readFactor_7 (by first | rfl | assumption) ?_
      exact ⟨p, hs, eFr.rf _ _, rfl⟩
set_option maxRecDepth 100000 in
set_option maxHeartbeats 4000000 in
theorem c_E_brackets {N n D L : Nat} {f : Nat → Int32} {h : xHp} {p : Int32} (hN : 94 ≤ N) (hM : eM f n N D) (hL : D + 1 + L = 9) (hs : eSt h p) (ht : tSt h f n) : XM y_E_readRestOfBrackets b_E_readRestOfBrackets 3 (some .boolean) (4 * D + 6) 0 0 [.ref 9, .ref 5, .int (nI L)] N h (eOut (20 + 6 * L) h (((eLev f n D).1 p).map (fun q => (q.1, q.2 + 1)))) := by
  have h9 := hs.1
  refine xM_intro [some (.ref 9), some (.ref 5), some (.int (nI L))] (by decide) (fun _ => rfl) (fun _ => Nat.le_of_ble_eq_true rfl) (fun Γ => ?_)
  refine x_aload_n d_E_readRestOfBrackets_0 rfl ?_
  refine x_aload_n d_E_readRestOfBrackets_1 rfl ?_
  refine x_iload_n d_E_readRestOfBrackets_2 rfl ?_
  refine x_iconst (v := 1) d_E_readRestOfBrackets_3 (by decide) ?_
  refine x_iadd d_E_readRestOfBrackets_4 ?_
  rw [nI_1]
  refine x_cV ((hM h p (L + 1) (by omega) hs ht).1) k_E_32 v_E_readSum d_E_readRestOfBrackets_5 rfl (by omega) (by first | assumption | exact vu_s | exact vu_t (by omega) (by first | assumption | exact vu_s | exact vu_t (by omega) (by first | assumption | exact vu_s | exact vu_t (by omega) (by first | assumption | exact vu_s))) | rfl | (simp only [va_up, Nat.reduceEqDiff, ↓reduceIte]; first | rfl | assumption)) rfl (by omega) (Nat.le_of_ble_eq_true rfl) ?_
  intro r h' hq
  obtain ⟨p', s', fr', hm⟩ := hq
  have fr2 : eFr (20 + 6 * L) h h' := eFr.mo (by omega) fr'
  cases ho : (eLev f n D).1 p with
  | none =>
    rw [ho] at hm
    obtain rfl := hm
    refine x_if_ne 13 d_E_readRestOfBrackets_8 (by decide) (fun c1 => ?_) (fun c1 => ?_)
    · exact absurd rfl c1
    · refine x_iconst (v := 0) d_E_readRestOfBrackets_11 (by decide) ?_
      refine x_zret d_E_readRestOfBrackets_12 (by first | rfl | assumption) ?_
      exact ⟨p', s', fr2, rfl⟩
  | some q =>
    rw [ho] at hm
    obtain ⟨rfl, rfl, g, hg, hpe⟩ := hm
    obtain ⟨k9, ⟨s1, a2, a2'⟩, -, ⟨s3, a4, a4'⟩, a5⟩ := id s'
    have hD : 1 ≤ D := by
      rcases Nat.eq_zero_or_pos D with z | z
      · subst z
        cases ho
      · exact z
    have hiL : vp_in (nI L) 9 := vp_in_nI (by omega) (by decide)
    have hiL1 : vp_in (nI L + 1) 9 := by rw [nI_1]; exact vp_in_nI (by omega) (by decide)
    obtain ⟨b1, g1, b2⟩ := a5 (19 + 6 * L) (by omega) (by omega) (by omega)
    obtain ⟨b3, -⟩ := a5 (15 + 6 * (L + 1)) (by omega) (by omega) (by omega)
    have hg' : h' (15 + 6 * (L + 1) + 1) = aI 81 g := by rw [show 15 + 6 * (L + 1) + 1 = 16 + 6 * (L + 1) by omega]; exact hg
    refine x_if_ne 13 d_E_readRestOfBrackets_8 (by decide) (fun c1 => ?_) (fun c1 => ?_)
    · refine x_aload_n d_E_readRestOfBrackets_13 rfl ?_
      refine x_dup d_E_readRestOfBrackets_14 rfl ?_
      refine x_get f_E_28 d_E_readRestOfBrackets_15 (by omega) (by first | assumption | exact vu_s | exact vu_t (by omega) (by first | assumption | exact vu_s | exact vu_t (by omega) (by first | assumption | exact vu_s | exact vu_t (by omega) (by first | assumption | exact vu_s))) | rfl | (simp only [va_up, Nat.reduceEqDiff, ↓reduceIte]; first | rfl | assumption)) rfl ?_
      refine x_iconst (v := 1) d_E_readRestOfBrackets_18 (by decide) ?_
      refine x_iadd d_E_readRestOfBrackets_19 ?_
      refine x_put f_E_28 d_E_readRestOfBrackets_20 (by omega) (by first | assumption | exact vu_s | exact vu_t (by omega) (by first | assumption | exact vu_s | exact vu_t (by omega) (by first | assumption | exact vu_s | exact vu_t (by omega) (by first | assumption | exact vu_s))) | rfl | (simp only [va_up, Nat.reduceEqDiff, ↓reduceIte]; first | rfl | assumption)) (Nat.le_of_ble_eq_true rfl) (fun _ => ⟨rfl, rfl⟩) ?_
      refine x_aload_n d_E_readRestOfBrackets_23 rfl ?_
      refine x_get f_E_20 d_E_readRestOfBrackets_24 (by omega) (by first | assumption | exact vu_s | exact vu_t (by omega) (by first | assumption | exact vu_s | exact vu_t (by omega) (by first | assumption | exact vu_s | exact vu_t (by omega) (by first | assumption | exact vu_s))) | rfl | (simp only [va_up, Nat.reduceEqDiff, ↓reduceIte]; first | rfl | assumption)) rfl ?_
      refine x_iload_n d_E_readRestOfBrackets_27 rfl ?_
      refine x_aald (t := 4) (v := 19 + 6 * L) rfl d_E_readRestOfBrackets_28 (by omega) (vu_t (by omega) a4) hiL (by rw [nI_clamp (by omega)]; exact a4' L (by omega)) ?_
      refine x_aload_n d_E_readRestOfBrackets_29 rfl ?_
      refine x_get f_E_13 d_E_readRestOfBrackets_30 (by omega) (by first | assumption | exact vu_s | exact vu_t (by omega) (by first | assumption | exact vu_s | exact vu_t (by omega) (by first | assumption | exact vu_s | exact vu_t (by omega) (by first | assumption | exact vu_s))) | rfl | (simp only [va_up, Nat.reduceEqDiff, ↓reduceIte]; first | rfl | assumption)) rfl ?_
      refine x_iload_n d_E_readRestOfBrackets_33 rfl ?_
      refine x_iconst (v := 1) d_E_readRestOfBrackets_34 (by decide) ?_
      refine x_iadd d_E_readRestOfBrackets_35 ?_
      refine x_aald (t := 4) (v := 15 + 6 * (L + 1)) rfl d_E_readRestOfBrackets_36 (by omega) (vu_t (by omega) a2) hiL1 (by rw [nI_1, nI_clamp (by omega)]; exact a2' (L + 1) (by omega)) ?_
      refine x_cVv (c_P_becomeCopy (by omega) (by omega) (vu_t (by omega) b1) (vu_t (by omega) b2) (vu_t (by omega) b3) (vu_t (by omega) hg')) k_E_60 v_P_becomeCopy d_E_readRestOfBrackets_37 rfl (by omega) (by first | assumption | exact vu_s | exact vu_t (by omega) (by first | assumption | exact vu_s | exact vu_t (by omega) (by first | assumption | exact vu_s | exact vu_t (by omega) (by first | assumption | exact vu_s))) | rfl | (simp only [va_up, Nat.reduceEqDiff, ↓reduceIte]; first | rfl | assumption)) rfl (by omega) (Nat.le_of_ble_eq_true rfl) ?_
      refine x_iconst (v := 1) d_E_readRestOfBrackets_40 (by decide) ?_
      refine x_zret d_E_readRestOfBrackets_41 (by first | rfl | assumption) ?_
      rw [show 19 + 6 * L + 1 = 20 + 6 * L by omega]
      refine ⟨q.2 + 1, ?_, ?_, rfl, rfl, _, vu_s, (pe_cpy _ _).tr hpe⟩
      · exact eSt.up (eSt.pl s') (by omega) (by omega) (by omega)
      · exact (fr2.up (Or.inl rfl)).up (Or.inr (Or.inr (by omega)))
    · exact absurd c1 (by decide)
set_option maxRecDepth 100000 in
set_option maxHeartbeats 4000000 in
theorem c_E_negative {N n D L : Nat} {f : Nat → Int32} {h : xHp} {p : Int32} (hN : 94 ≤ N) (hM : eM f n N D) (hL : D + 1 + L = 9) (hs : eSt h p) (ht : tSt h f n) : XM y_E_readRestOfNegative b_E_readRestOfNegative 3 (some .boolean) (4 * D + 6) 0 0 [.ref 9, .ref 5, .int (nI L)] N h (eOut (20 + 6 * L) h (((eLev f n D).2 p).map (fun q => (pNeg q.1, q.2)))) := by
  have h9 := hs.1
  refine xM_intro [some (.ref 9), some (.ref 5), some (.int (nI L))] (by decide) (fun _ => rfl) (fun _ => Nat.le_of_ble_eq_true rfl) (fun Γ => ?_)
  refine x_aload_n d_E_readRestOfNegative_0 rfl ?_
  refine x_aload_n d_E_readRestOfNegative_1 rfl ?_
  refine x_iload_n d_E_readRestOfNegative_2 rfl ?_
  refine x_iconst (v := 1) d_E_readRestOfNegative_3 (by decide) ?_
  refine x_iadd d_E_readRestOfNegative_4 ?_
  rw [nI_1]
  refine x_cV ((hM h p (L + 1) (by omega) hs ht).2) k_E_53 v_E_readFactor d_E_readRestOfNegative_5 rfl (by omega) (by first | assumption | exact vu_s | exact vu_t (by omega) (by first | assumption | exact vu_s | exact vu_t (by omega) (by first | assumption | exact vu_s | exact vu_t (by omega) (by first | assumption | exact vu_s))) | rfl | (simp only [va_up, Nat.reduceEqDiff, ↓reduceIte]; first | rfl | assumption)) rfl (by omega) (Nat.le_of_ble_eq_true rfl) ?_
  intro r h' hq
  obtain ⟨p', s', fr', hm⟩ := hq
  have fr2 : eFr (20 + 6 * L) h h' := eFr.mo (by omega) fr'
  cases ho : (eLev f n D).2 p with
  | none =>
    rw [ho] at hm
    obtain rfl := hm
    refine x_if_ne 13 d_E_readRestOfNegative_8 (by decide) (fun c1 => ?_) (fun c1 => ?_)
    · exact absurd rfl c1
    · refine x_iconst (v := 0) d_E_readRestOfNegative_11 (by decide) ?_
      refine x_zret d_E_readRestOfNegative_12 (by first | rfl | assumption) ?_
      exact ⟨p', s', fr2, rfl⟩
  | some q =>
    rw [ho] at hm
    obtain ⟨rfl, rfl, g, hg, hpe⟩ := hm
    obtain ⟨k9, -, -, ⟨s3, a4, a4'⟩, a5⟩ := id s'
    have hiL : vp_in (nI L) 9 := vp_in_nI (by omega) (by decide)
    obtain ⟨b1, g1, b2⟩ := a5 (19 + 6 * L) (by omega) (by omega) (by omega)
    refine x_if_ne 13 d_E_readRestOfNegative_8 (by decide) (fun c1 => ?_) (fun c1 => ?_)
    · have hD : 1 ≤ D := by
        rcases Nat.eq_zero_or_pos D with z | z
        · subst z
          cases ho
        · exact z
      have hiL1 : vp_in (nI L + 1) 9 := by rw [nI_1]; exact vp_in_nI (by omega) (by decide)
      obtain ⟨b3, -⟩ := a5 (19 + 6 * (L + 1)) (by omega) (by omega) (by omega)
      have hg' : h' (19 + 6 * (L + 1) + 1) = aI 81 g := by rw [show 19 + 6 * (L + 1) + 1 = 20 + 6 * (L + 1) by omega]; exact hg
      refine x_aload_n d_E_readRestOfNegative_13 rfl ?_
      refine x_get f_E_20 d_E_readRestOfNegative_14 (by omega) (by first | assumption | exact vu_s | exact vu_t (by omega) (by first | assumption | exact vu_s | exact vu_t (by omega) (by first | assumption | exact vu_s | exact vu_t (by omega) (by first | assumption | exact vu_s))) | rfl | (simp only [va_up, Nat.reduceEqDiff, ↓reduceIte]; first | rfl | assumption)) rfl ?_
      refine x_iload_n d_E_readRestOfNegative_17 rfl ?_
      refine x_aald (t := 4) (v := 19 + 6 * L) rfl d_E_readRestOfNegative_18 (by omega) a4 hiL (by rw [nI_clamp (by omega)]; exact a4' L (by omega)) ?_
      refine x_aload_n d_E_readRestOfNegative_19 rfl ?_
      refine x_get f_E_20 d_E_readRestOfNegative_20 (by omega) (by first | assumption | exact vu_s | exact vu_t (by omega) (by first | assumption | exact vu_s | exact vu_t (by omega) (by first | assumption | exact vu_s | exact vu_t (by omega) (by first | assumption | exact vu_s))) | rfl | (simp only [va_up, Nat.reduceEqDiff, ↓reduceIte]; first | rfl | assumption)) rfl ?_
      refine x_iload_n d_E_readRestOfNegative_23 rfl ?_
      refine x_iconst (v := 1) d_E_readRestOfNegative_24 (by decide) ?_
      refine x_iadd d_E_readRestOfNegative_25 ?_
      refine x_aald (t := 4) (v := 19 + 6 * (L + 1)) rfl d_E_readRestOfNegative_26 (by omega) a4 hiL1 (by rw [nI_1, nI_clamp (by omega)]; exact a4' (L + 1) (by omega)) ?_
      refine x_cVv (c_P_becomeNegative (by omega) (by omega) (by omega) b1 b2 b3 hg') k_E_77 v_P_becomeNegative d_E_readRestOfNegative_27 rfl (by omega) (by first | assumption | exact vu_s | exact vu_t (by omega) (by first | assumption | exact vu_s | exact vu_t (by omega) (by first | assumption | exact vu_s | exact vu_t (by omega) (by first | assumption | exact vu_s))) | rfl | (simp only [va_up, Nat.reduceEqDiff, ↓reduceIte]; first | rfl | assumption)) rfl (by omega) (Nat.le_of_ble_eq_true rfl) ?_
      refine x_iconst (v := 1) d_E_readRestOfNegative_30 (by decide) ?_
      refine x_zret d_E_readRestOfNegative_31 (by first | rfl | assumption) ?_
      rw [show 19 + 6 * L + 1 = 20 + 6 * L by omega]
      refine ⟨q.2, ?_, ?_, rfl, rfl, _, vu_s, pe_neg _ hpe⟩
      · exact eSt.up s' (by omega) (by omega) (by omega)
      · exact fr2.up (Or.inr (Or.inr (by omega)))
    · exact absurd c1 (by decide)
set_option maxRecDepth 100000 in
set_option maxHeartbeats 4000000 in
theorem c_E_factor {N n D L : Nat} {f : Nat → Int32} {h : xHp} {p : Int32} (hN : 94 ≤ N) (hn : n ≤ 30) (hf : ∀ j, chOK (f j)) (hM : eM f n N D) (hL : D + 1 + L = 9) (hs : eSt h p) (ht : tSt h f n) : XM y_E_readFactor b_E_readFactor 5 (some .boolean) (4 * (D + 1) + 3) 0 0 [.ref 9, .ref 5, .int (nI L)] N h (eOut (20 + 6 * L) h ((eLev f n (D + 1)).2 p)) := by
  obtain ⟨h9, -, -, ⟨s3, a4, a4'⟩, a5⟩ := id hs
  obtain ⟨h5, h6⟩ := id ht
  obtain ⟨b1, g1, b2⟩ := a5 (19 + 6 * L) (by omega) (by omega) (by omega)
  have hiL : vp_in (nI L) 9 := vp_in_nI (by omega) (by decide)
  refine xM_intro [some (.ref 9), some (.ref 5), some (.int (nI L)), none, none] (by decide) (fun _ => rfl) (fun _ => Nat.le_of_ble_eq_true rfl) (fun Γ => ?_)
  refine x_iload_n d_E_readFactor_0 rfl ?_
  refine x_bipush (v := 9) d_E_readFactor_1 (by decide) ?_
  refine x_icmp_lt 8 d_E_readFactor_3 (by decide) (fun c1 => ?_) (fun c1 => ?_)
  · refine x_aload_n d_E_readFactor_8 rfl ?_
    refine x_aload_n d_E_readFactor_9 rfl ?_
    refine x_get f_E_28 d_E_readFactor_10 (by omega) (by first | assumption | exact vu_s | exact vu_t (by omega) (by first | assumption | exact vu_s | exact vu_t (by omega) (by first | assumption | exact vu_s | exact vu_t (by omega) (by first | assumption | exact vu_s))) | rfl | (simp only [va_up, Nat.reduceEqDiff, ↓reduceIte]; first | rfl | assumption)) rfl ?_
    refine x_cVe (c_T_at p hN hn (fun j => (hf j).1) h5 h6) k_E_49 v_T_at d_E_readFactor_13 rfl (by omega) (by first | assumption | exact vu_s | exact vu_t (by omega) (by first | assumption | exact vu_s | exact vu_t (by omega) (by first | assumption | exact vu_s | exact vu_t (by omega) (by first | assumption | exact vu_s))) | rfl | (simp only [va_up, Nat.reduceEqDiff, ↓reduceIte]; first | rfl | assumption)) rfl (by omega) (Nat.le_of_ble_eq_true rfl) ?_
    refine XW_c (show (if 0 ≤ p ∧ p < nI n then f p.toNatClampNeg else 0) = tx f n p from rfl) ?_
    refine x_istore_n d_E_readFactor_16 (by decide) rfl ?_
    refine x_aload_n d_E_readFactor_17 rfl ?_
    refine x_dup d_E_readFactor_18 rfl ?_
    refine x_get f_E_28 d_E_readFactor_19 (by omega) (by first | assumption | exact vu_s | exact vu_t (by omega) (by first | assumption | exact vu_s | exact vu_t (by omega) (by first | assumption | exact vu_s | exact vu_t (by omega) (by first | assumption | exact vu_s))) | rfl | (simp only [va_up, Nat.reduceEqDiff, ↓reduceIte]; first | rfl | assumption)) rfl ?_
    refine x_iconst (v := 1) d_E_readFactor_22 (by decide) ?_
    refine x_iadd d_E_readFactor_23 ?_
    refine x_put f_E_28 d_E_readFactor_24 (by omega) (by first | assumption | exact vu_s | exact vu_t (by omega) (by first | assumption | exact vu_s | exact vu_t (by omega) (by first | assumption | exact vu_s | exact vu_t (by omega) (by first | assumption | exact vu_s))) | rfl | (simp only [va_up, Nat.reduceEqDiff, ↓reduceIte]; first | rfl | assumption)) (Nat.le_of_ble_eq_true rfl) (fun _ => ⟨rfl, rfl⟩) ?_
    refine x_iload_n d_E_readFactor_27 rfl ?_
    refine x_bipush (v := 40) d_E_readFactor_28 (by decide) ?_
    have s1 : eSt (va_up h 9 (oE (p + 1))) (p + 1) := hs.pl
    have fr1 : eFr (20 + 6 * L) h (va_up h 9 (oE (p + 1))) := (eFr.rf _ h).up (Or.inl rfl)
    have t1 : tSt (va_up h 9 (oE (p + 1))) f n := ht.fr fr1 (by omega)
    have out : ∀ {r : Option Value} {h' : xHp} {o : Option (Po × Int32)}, eOut (20 + 6 * L) (va_up h 9 (oE (p + 1))) o r h' → eOut (20 + 6 * L) h o r h' := by
      intro r h' o hq
      obtain ⟨p', z1, z2, z3⟩ := hq
      exact ⟨p', z1, fr1.tr (Nat.le_refl _) z2, z3⟩
    refine x_icmp_ne 40 d_E_readFactor_30 (by decide) (fun c2 => ?_) (fun c2 => ?_)
    · refine x_iload_n d_E_readFactor_40 rfl ?_
      refine x_bipush (v := 45) d_E_readFactor_41 (by decide) ?_
      refine x_icmp_ne 53 d_E_readFactor_43 (by decide) (fun c3 => ?_) (fun c3 => ?_)
      · refine x_iload_n d_E_readFactor_53 rfl ?_
        refine x_cSe (c_T_columnOf (tx f n p)) k_E_70 s_T_columnOf d_E_readFactor_54 rfl (by omega) (Nat.le_of_ble_eq_true rfl) ?_
        refine x_istore d_E_readFactor_57 (by decide) rfl ?_
        refine x_iload d_E_readFactor_59 rfl ?_
        refine x_if_lt 78 d_E_readFactor_61 (by decide) (fun c4 => ?_) (fun c4 => ?_)
        · have eo : (eLev f n (D + 1)).2 p = some (pNum (tx f n p - 48), p + 1) := by
            show eFac f n _ _ p = _
            unfold eFac
            rw [if_neg c2, if_neg c3]
            exact if_pos c4
          refine x_aload_n d_E_readFactor_78 rfl ?_
          refine x_get f_E_20 d_E_readFactor_79 (by omega) (by first | assumption | exact vu_s | exact vu_t (by omega) (by first | assumption | exact vu_s | exact vu_t (by omega) (by first | assumption | exact vu_s | exact vu_t (by omega) (by first | assumption | exact vu_s))) | rfl | (simp only [va_up, Nat.reduceEqDiff, ↓reduceIte]; first | rfl | assumption)) rfl ?_
          refine x_iload_n d_E_readFactor_82 rfl ?_
          refine x_aald (t := 4) (v := 19 + 6 * L) rfl d_E_readFactor_83 (by omega) (vu_t (by omega) a4) hiL (by rw [nI_clamp (by omega)]; exact a4' L (by omega)) ?_
          refine x_iload_n d_E_readFactor_84 rfl ?_
          refine x_bipush (v := 48) d_E_readFactor_85 (by decide) ?_
          refine x_isub d_E_readFactor_87 ?_
          refine x_cVv (c_P_becomeNumber (tx f n p - 48) (by omega) (vu_t (by omega) b1) (vu_t (by omega) b2)) k_E_36 v_P_becomeNumber d_E_readFactor_88 rfl (by omega) (by first | assumption | exact vu_s | exact vu_t (by omega) (by first | assumption | exact vu_s | exact vu_t (by omega) (by first | assumption | exact vu_s | exact vu_t (by omega) (by first | assumption | exact vu_s))) | rfl | (simp only [va_up, Nat.reduceEqDiff, ↓reduceIte]; first | rfl | assumption)) rfl (by omega) (Nat.le_of_ble_eq_true rfl) ?_
          refine x_iconst (v := 1) d_E_readFactor_91 (by decide) ?_
          refine x_zret d_E_readFactor_92 (by first | rfl | assumption) ?_
          rw [eo, show 19 + 6 * L + 1 = 20 + 6 * L by omega]
          exact ⟨p + 1, eSt.up s1 (by omega) (by omega) (by omega), fr1.up (Or.inr (Or.inr (by omega))), rfl, rfl, _, vu_s, pe_num _ _⟩
        · have eo : (eLev f n (D + 1)).2 p = some (pCol (colOf (tx f n p)).toNatClampNeg, p + 1) := by
            show eFac f n _ _ p = _
            unfold eFac
            rw [if_neg c2, if_neg c3]
            exact if_neg c4
          obtain ⟨c, hc, hcc⟩ : ∃ c : Nat, c < 4 ∧ colOf (tx f n p) = nI c := by
            have := (colOf_in (fi := 0) (la := 3) (c := tx f n p) (by decide) (by
              have z1 := Int32.not_lt.mp c4
              have z2 : colOf (tx f n p) ≤ 4 := by
                unfold colOf
                split
                · rename_i e
                  have a1 := Int32.le_iff_toInt_le.mp e.1
                  have a2 := Int32.le_iff_toInt_le.mp e.2
                  have b1 : (65 : Int32).toInt = 65 := rfl
                  have b2 : (68 : Int32).toInt = 68 := rfl
                  refine Int32.le_iff_toInt_le.mpr ?_
                  have a3 : (tx f n p - 65).toInt = (tx f n p).toInt - 65 := by
                    rw [Int32.toInt_sub, b1]
                    apply Int.bmod_eq_of_le
                    · omega
                    · omega
                  rw [a3]
                  have b3 : (4 : Int32).toInt = 4 := rfl
                  omega
                · decide
              simp [isCC, z1, z2])).1
            exact vp_in_of this (by decide)
          rw [hcc] at eo ⊢
          rw [nI_clamp (show c < 2 ^ 31 by omega)] at eo
          refine x_aload_n d_E_readFactor_64 rfl ?_
          refine x_get f_E_20 d_E_readFactor_65 (by omega) (by first | assumption | exact vu_s | exact vu_t (by omega) (by first | assumption | exact vu_s | exact vu_t (by omega) (by first | assumption | exact vu_s | exact vu_t (by omega) (by first | assumption | exact vu_s))) | rfl | (simp only [va_up, Nat.reduceEqDiff, ↓reduceIte]; first | rfl | assumption)) rfl ?_
          refine x_iload_n d_E_readFactor_68 rfl ?_
          refine x_aald (t := 4) (v := 19 + 6 * L) rfl d_E_readFactor_69 (by omega) (vu_t (by omega) a4) hiL (by rw [nI_clamp (by omega)]; exact a4' L (by omega)) ?_
          refine x_iload d_E_readFactor_70 rfl ?_
          refine x_cVv (c_P_becomeColumn (by omega) hc (vu_t (by omega) b1) (vu_t (by omega) b2)) k_E_74 v_P_becomeColumn d_E_readFactor_72 rfl (by omega) (by first | assumption | exact vu_s | exact vu_t (by omega) (by first | assumption | exact vu_s | exact vu_t (by omega) (by first | assumption | exact vu_s | exact vu_t (by omega) (by first | assumption | exact vu_s))) | rfl | (simp only [va_up, Nat.reduceEqDiff, ↓reduceIte]; first | rfl | assumption)) rfl (by omega) (Nat.le_of_ble_eq_true rfl) ?_
          refine x_goto 91 d_E_readFactor_75 (by decide) ?_
          refine x_iconst (v := 1) d_E_readFactor_91 (by decide) ?_
          refine x_zret d_E_readFactor_92 (by first | rfl | assumption) ?_
          rw [eo, show 19 + 6 * L + 1 = 20 + 6 * L by omega]
          exact ⟨p + 1, eSt.up s1 (by omega) (by omega) (by omega), fr1.up (Or.inr (Or.inr (by omega))), rfl, rfl, _, vu_s, pe_col _ _⟩
      · have eo : (eLev f n (D + 1)).2 p = ((eLev f n D).2 (p + 1)).map (fun q => (pNeg q.1, q.2)) := by
          show eFac f n _ _ p = _
          unfold eFac
          rw [if_neg c2, if_pos c3]
        rw [eo]
        refine x_aload_n d_E_readFactor_46 rfl ?_
        refine x_aload_n d_E_readFactor_47 rfl ?_
        refine x_iload_n d_E_readFactor_48 rfl ?_
        refine x_cV (c_E_negative hN hM hL s1 t1) k_E_67 v_E_readRestOfNegative d_E_readFactor_49 rfl (by omega) (by first | assumption | exact vu_s | exact vu_t (by omega) (by first | assumption | exact vu_s | exact vu_t (by omega) (by first | assumption | exact vu_s | exact vu_t (by omega) (by first | assumption | exact vu_s))) | rfl | (simp only [va_up, Nat.reduceEqDiff, ↓reduceIte]; first | rfl | assumption)) rfl (by omega) (Nat.le_of_ble_eq_true rfl) ?_
        intro r h' hq
        have hq := out hq
        obtain ⟨p', z1, z2, z3⟩ := id hq
        cases ho : ((eLev f n D).2 (p + 1)).map (fun q => (pNeg q.1, q.2)) with
        | none =>
          rw [ho] at z3 hq
          obtain rfl := z3
          refine x_zret d_E_readFactor_52 (by first | rfl | assumption) ?_
          exact hq
        | some q =>
          rw [ho] at z3 hq
          obtain ⟨rfl, -⟩ := z3
          refine x_zret d_E_readFactor_52 (by first | rfl | assumption) ?_
          exact hq
    · have eo : (eLev f n (D + 1)).2 p = ((eLev f n D).1 (p + 1)).map (fun q => (q.1, q.2 + 1)) := by
        show eFac f n _ _ p = _
        unfold eFac
        rw [if_pos c2]
      rw [eo]
      refine x_aload_n d_E_readFactor_33 rfl ?_
      refine x_aload_n d_E_readFactor_34 rfl ?_
      refine x_iload_n d_E_readFactor_35 rfl ?_
      refine x_cV (c_E_brackets hN hM hL s1 t1) k_E_64 v_E_readRestOfBrackets d_E_readFactor_36 rfl (by omega) (by first | assumption | exact vu_s | exact vu_t (by omega) (by first | assumption | exact vu_s | exact vu_t (by omega) (by first | assumption | exact vu_s | exact vu_t (by omega) (by first | assumption | exact vu_s))) | rfl | (simp only [va_up, Nat.reduceEqDiff, ↓reduceIte]; first | rfl | assumption)) rfl (by omega) (Nat.le_of_ble_eq_true rfl) ?_
      intro r h' hq
      have hq := out hq
      obtain ⟨p', z1, z2, z3⟩ := id hq
      cases ho : ((eLev f n D).1 (p + 1)).map (fun q => (q.1, q.2 + 1)) with
      | none =>
        rw [ho] at z3 hq
        obtain rfl := z3
        refine x_zret d_E_readFactor_39 (by first | rfl | assumption) ?_
        exact hq
      | some q =>
        rw [ho] at z3 hq
        obtain ⟨rfl, -⟩ := z3
        refine x_zret d_E_readFactor_39 (by first | rfl | assumption) ?_
        exact hq
  · exact absurd (nI_lt (show L < 9 by omega) (by decide)) c1
