/-! JoinKeeper: sign, fault, drop, answer, total, question. -/
theorem chr_n {c : Int32} (h1 : 33 ≤ c) (h2 : c ≤ 126) : (c.toUInt32 % 65536).toInt32 = c ∧ chOK c := by
  obtain ⟨k, hk, rfl⟩ := i_of (n := 127) (x := c) (by decide) (Int32.le_trans (by decide) h1) (Int32.lt_of_le_of_lt h2 (by decide))
  refine ⟨?_, pk_charN (by omega)⟩
  rw [pk_char, pk_tn (by omega), Nat.mod_eq_of_lt (by omega)]
theorem chOK_0 : chOK 0 := pk_charN (q := 0) (by decide)
section KM2
variable {N : Nat} {h : xHp} {f : Nat → Int32} {n : Nat} {pl bs tf : Nat → Int32} {tn : Nat} {Qs : Nat → CQ}
set_option maxRecDepth 100000 in
set_option maxHeartbeats 4000000 in
theorem c_K_sign (c : Int32) (hN : 94 ≤ N) (hI : IC f n pl bs tf tn Qs h) (ht : tn ≤ 30) : XM y_K_sign b_K_sign 2 (some .int) 1 0 0 [.ref 0, .int c] N h (fun v h' => frm h h' ∧ if 33 ≤ c ∧ c ≤ 126 ∧ tn < 30 then v = some (.int (nI (tn + 1))) ∧ IC f n pl bs (upd tf tn c) (tn + 1) Qs h' else v = some (.int (-1)) ∧ IC f n pl bs tf tn Qs h') := by
  obtain ⟨h0, hR, ⟨h5, h6⟩, hG', hE, hQ⟩ := id hI
  refine xM_intro [some (.ref 0), some (.int c)] (by decide) (fun _ => rfl) (fun _ => Nat.le_of_ble_eq_true rfl) (fun Γ => ?_)
  refine x_iload_n d_K_sign_0 rfl ?_
  refine x_bipush (v := 33) d_K_sign_1 (by decide) ?_
  refine x_icmp_lt 12 d_K_sign_3 (by decide) (fun c1 => ?_) (fun c1 => ?_)
  · refine x_iconst (v := -1) d_K_sign_12 (by decide) ?_
    refine x_iret d_K_sign_13 ?_
    refine ⟨frm.rf, ?_⟩
    rw [if_neg (fun z => Int32.not_le.mpr c1 z.1)]
    exact ⟨rfl, hI⟩
  · refine x_iload_n d_K_sign_6 rfl ?_
    refine x_bipush (v := 126) d_K_sign_7 (by decide) ?_
    refine x_icmp_le 14 d_K_sign_9 (by decide) (fun c2 => ?_) (fun c2 => ?_)
    · obtain ⟨e1, e2⟩ := chr_n (Int32.not_lt.mp c1) c2
      refine x_aload_n d_K_sign_14 rfl ?_
      refine x_get f_K_19 d_K_sign_15 (by omega) (by first | assumption | exact vu_s | exact vu_t (by omega) (by first | assumption | exact vu_s | exact vu_t (by omega) (by first | assumption | exact vu_s | exact vu_t (by omega) (by first | assumption | exact vu_s))) | rfl | (simp only [va_up, Nat.reduceEqDiff, ↓reduceIte]; first | rfl | assumption)) rfl ?_
      refine x_iload_n d_K_sign_18 rfl ?_
      refine x_i2c d_K_sign_19 ?_
      rw [e1]
      refine x_cVe (c_T_append c hN ht e2.1 h5 h6) k_K_64 v_T_append d_K_sign_20 rfl (by omega) (by first | assumption | exact vu_s | exact vu_t (by omega) (by first | assumption | exact vu_s | exact vu_t (by omega) (by first | assumption | exact vu_s | exact vu_t (by omega) (by first | assumption | exact vu_s))) | rfl | (simp only [va_up, Nat.reduceEqDiff, ↓reduceIte]; first | rfl | assumption)) rfl (by omega) (Nat.le_of_ble_eq_true rfl) ?_
      by_cases e : tn < 30
      · rw [if_pos e]
        refine x_if_eq 36 d_K_sign_23 (by decide) (fun c3 => ?_) (fun c3 => ?_)
        · rw [bi0] at c3
          exact absurd e (by simpa using c3)
        · have k0 : va_up (va_up h 6 (.inl (1, 30, .inl (upd tf tn c)))) 5 (.inr (2, [.ref 6, .int (nI (tn + 1))])) 0 = oK := vu_t (by decide) (vu_t (by decide) h0)
          have k5 : va_up (va_up h 6 (.inl (1, 30, .inl (upd tf tn c)))) 5 (.inr (2, [.ref 6, .int (nI (tn + 1))])) 5 = .inr (2, [.ref 6, .int (nI (tn + 1))]) := vu_s
          refine x_aload_n d_K_sign_26 rfl ?_
          refine x_get f_K_19 d_K_sign_27 (by omega) (by first | assumption | exact vu_s | exact vu_t (by omega) (by first | assumption | exact vu_s | exact vu_t (by omega) (by first | assumption | exact vu_s | exact vu_t (by omega) (by first | assumption | exact vu_s))) | rfl | (simp only [va_up, Nat.reduceEqDiff, ↓reduceIte]; first | rfl | assumption)) rfl ?_
          refine x_cVe (c_T_length hN k5) k_K_68 v_T_length d_K_sign_30 rfl (by omega) (by first | assumption | exact vu_s | exact vu_t (by omega) (by first | assumption | exact vu_s | exact vu_t (by omega) (by first | assumption | exact vu_s | exact vu_t (by omega) (by first | assumption | exact vu_s))) | rfl | (simp only [va_up, Nat.reduceEqDiff, ↓reduceIte]; first | rfl | assumption)) rfl (by omega) (Nat.le_of_ble_eq_true rfl) ?_
          refine x_goto 37 d_K_sign_33 (by decide) ?_
          refine x_iret d_K_sign_37 ?_
          refine ⟨(frm.rf.up (by decide)).up (by decide), ?_⟩
          rw [if_pos ⟨Int32.not_lt.mp c1, c2, e⟩]
          refine ⟨rfl, k0, hR.cg ?_, ⟨k5, vu_t (by decide) vu_s⟩, hG'.cg ?_, hE.cg ?_, hQ.cg ?_⟩
          all_goals exact (sm.rf.up (by decide)).up (by decide)
      · rw [if_neg e]
        refine x_if_eq 36 d_K_sign_23 (by decide) (fun c3 => ?_) (fun c3 => ?_)
        · refine x_iconst (v := -1) d_K_sign_36 (by decide) ?_
          refine x_iret d_K_sign_37 ?_
          refine ⟨frm.rf, ?_⟩
          rw [if_neg (fun z => e z.2.2)]
          exact ⟨rfl, hI⟩
        · rw [bi1] at c3
          exact absurd (by simpa using c3) e
    · refine x_iconst (v := -1) d_K_sign_12 (by decide) ?_
      refine x_iret d_K_sign_13 ?_
      refine ⟨frm.rf, ?_⟩
      rw [if_neg (fun z => c2 z.2.1)]
      exact ⟨rfl, hI⟩
set_option maxRecDepth 100000 in
set_option maxHeartbeats 4000000 in
theorem c_K_fault (hN : 94 ≤ N) (hI : IC f n pl bs tf tn Qs h) (ht : tn ≤ 30) (hf : ∀ j, chOK (tf j)) : XM y_K_fault b_K_fault 1 (some .int) 5 0 0 [.ref 0] N h (fun v h' => frm h h' ∧ v = some (.int (fltC gz tf tn)) ∧ IC f n pl bs tf tn Qs h') := by
  obtain ⟨h0, hR, ⟨h5, h6⟩, ⟨σ, s1, s2, s3⟩, hE, hQ⟩ := id hI
  have hh := hG_of s2 s3
  refine xM_intro [some (.ref 0)] (by decide) (fun _ => rfl) (fun _ => Nat.le_of_ble_eq_true rfl) (fun Γ => ?_)
  refine x_aload_n d_K_fault_0 rfl ?_
  refine x_get f_K_26 d_K_fault_1 (by omega) (by first | assumption | exact vu_s | exact vu_t (by omega) (by first | assumption | exact vu_s | exact vu_t (by omega) (by first | assumption | exact vu_s | exact vu_t (by omega) (by first | assumption | exact vu_s))) | rfl | (simp only [va_up, Nat.reduceEqDiff, ↓reduceIte]; first | rfl | assumption)) rfl ?_
  refine x_aload_n d_K_fault_4 rfl ?_
  refine x_get f_K_19 d_K_fault_5 (by omega) (by first | assumption | exact vu_s | exact vu_t (by omega) (by first | assumption | exact vu_s | exact vu_t (by omega) (by first | assumption | exact vu_s | exact vu_t (by omega) (by first | assumption | exact vu_s))) | rfl | (simp only [va_up, Nat.reduceEqDiff, ↓reduceIte]; first | rfl | assumption)) rfl ?_
  refine XW_h hh.symm ?_
  have k7 : hG h σ 7 = oG σ := hG_7 h σ
  refine x_cV (c_G_faultIn σ hN ht (g0_I s1) hf h5 h6) k_K_78 v_G_faultIn d_K_fault_8 rfl (by omega) (by first | assumption | exact vu_s | exact vu_t (by omega) (by first | assumption | exact vu_s | exact vu_t (by omega) (by first | assumption | exact vu_s | exact vu_t (by omega) (by first | assumption | exact vu_s))) | rfl | (simp only [va_up, Nat.reduceEqDiff, ↓reduceIte]; first | rfl | assumption)) rfl (by omega) (Nat.le_of_ble_eq_true rfl) ?_
  rintro v h' ⟨rfl, σ', i1, rfl, -⟩
  refine x_iret d_K_fault_11 ?_
  have e1 : ∀ k, k ≠ 7 → k ≠ 8 → hG h σ' k = h k := fun k a b => hG_n h σ' a b
  refine ⟨fun k hk => e1 k (by omega) (by omega), by rw [fltC_eq s1], (e1 0 (by decide) (by decide)).trans h0, hR.cg (fun k a b => e1 k (by omega) (by omega)), ⟨(e1 5 (by decide) (by decide)).trans h5, (e1 6 (by decide) (by decide)).trans h6⟩, ⟨σ', i1.2.2.1, hG_7 h σ', hG_8 h σ'⟩, hE.cg (fun k a b => e1 k (by omega) (by omega)), hQ.cg (fun k a b => e1 k (by omega) (by omega))⟩
set_option maxRecDepth 100000 in
set_option maxHeartbeats 4000000 in
theorem c_K_isAskable (q : Int32) (hN : 94 ≤ N) (hI : IC f n pl bs tf tn Qs h) : XM y_K_isAskable b_K_isAskable 2 (some .boolean) 1 0 0 [.ref 0, .int q] N h (xR (some (.int (bi (isQn q && (Qs q.toNatClampNeg).1)))) h) := by
  obtain ⟨h0, -, -, -, -, ⟨⟨s, a1, a2⟩, a3⟩⟩ := id hI
  refine xM_intro [some (.ref 0), some (.int q)] (by decide) (fun _ => rfl) (fun _ => Nat.le_of_ble_eq_true rfl) (fun Γ => ?_)
  refine x_iload_n d_K_isAskable_0 rfl ?_
  refine x_cSe (c_K_isQuestion q) k_K_74 s_K_isQuestion d_K_isAskable_1 rfl (by omega) (Nat.le_of_ble_eq_true rfl) ?_
  refine x_if_eq 23 d_K_isAskable_4 (by decide) (fun c1 => ?_) (fun c1 => ?_)
  · rw [bi0] at c1
    refine x_iconst (v := 0) d_K_isAskable_23 (by decide) ?_
    refine x_zret d_K_isAskable_24 (by first | rfl | assumption) ?_
    exact ⟨by simp [c1, bi], rfl⟩
  · rw [bi1] at c1
    obtain ⟨k, hk, rfl⟩ := isQn_n c1
    have hi : vp_in (nI k) 4 := vp_in_nI hk (by decide)
    have hck : (nI k).toNatClampNeg = k := nI_clamp (by omega)
    obtain ⟨b1, -⟩ := a3 k hk
    refine x_aload_n d_K_isAskable_7 rfl ?_
    refine x_get f_K_39 d_K_isAskable_8 (by omega) (by first | assumption | exact vu_s | exact vu_t (by omega) (by first | assumption | exact vu_s | exact vu_t (by omega) (by first | assumption | exact vu_s | exact vu_t (by omega) (by first | assumption | exact vu_s))) | rfl | (simp only [va_up, Nat.reduceEqDiff, ↓reduceIte]; first | rfl | assumption)) rfl ?_
    refine x_iload_n d_K_isAskable_11 rfl ?_
    refine x_aald (t := 5) (v := 70 + 6 * k) rfl d_K_isAskable_12 (by omega) a1 hi (by rw [hck]; exact a2 k hk) ?_
    refine x_cVe (c_Q_isThere (by omega) b1) k_K_122 v_Q_isThere d_K_isAskable_13 rfl (by omega) (by first | assumption | exact vu_s | exact vu_t (by omega) (by first | assumption | exact vu_s | exact vu_t (by omega) (by first | assumption | exact vu_s | exact vu_t (by omega) (by first | assumption | exact vu_s))) | rfl | (simp only [va_up, Nat.reduceEqDiff, ↓reduceIte]; first | rfl | assumption)) rfl (by omega) (Nat.le_of_ble_eq_true rfl) ?_
    rw [hck]
    refine x_if_eq 23 d_K_isAskable_16 (by decide) (fun c2 => ?_) (fun c2 => ?_)
    · rw [bi0] at c2
      refine x_iconst (v := 0) d_K_isAskable_23 (by decide) ?_
      refine x_zret d_K_isAskable_24 (by first | rfl | assumption) ?_
      exact ⟨by simp [c2, bi], rfl⟩
    · rw [bi1] at c2
      refine x_iconst (v := 1) d_K_isAskable_19 (by decide) ?_
      refine x_goto 24 d_K_isAskable_20 (by decide) ?_
      refine x_zret d_K_isAskable_24 (by first | rfl | assumption) ?_
      exact ⟨by simp [c1, c2, bi], rfl⟩
def upQ (Qs : Nat → CQ) (k : Nat) (Q : CQ) : Nat → CQ := fun j => if j = k then Q else Qs j
set_option maxRecDepth 100000 in
set_option maxHeartbeats 4000000 in
theorem c_K_drop (q : Int32) (hN : 94 ≤ N) (hI : IC f n pl bs tf tn Qs h) : XM y_K_drop b_K_drop 2 (some .int) 2 0 0 [.ref 0, .int q] N h (fun v h' => frm h h' ∧ if (isQn q && (Qs q.toNatClampNeg).1) = true then v = some (.int 0) ∧ IC f n pl bs tf tn (upQ Qs q.toNatClampNeg (false, (Qs q.toNatClampNeg).2)) h' else v = some (.int (-1)) ∧ IC f n pl bs tf tn Qs h') := by
  obtain ⟨h0, hR, hT, hG', hE, hQ⟩ := id hI
  obtain ⟨⟨s, a1, a2⟩, a3⟩ := id hQ
  refine xM_intro [some (.ref 0), some (.int q)] (by decide) (fun _ => rfl) (fun _ => Nat.le_of_ble_eq_true rfl) (fun Γ => ?_)
  refine x_aload_n d_K_drop_0 rfl ?_
  refine x_iload_n d_K_drop_1 rfl ?_
  refine x_cVe (c_K_isAskable q hN hI) k_K_100 v_K_isAskable d_K_drop_2 rfl (by omega) (by first | assumption | exact vu_s | exact vu_t (by omega) (by first | assumption | exact vu_s | exact vu_t (by omega) (by first | assumption | exact vu_s | exact vu_t (by omega) (by first | assumption | exact vu_s))) | rfl | (simp only [va_up, Nat.reduceEqDiff, ↓reduceIte]; first | rfl | assumption)) rfl (by omega) (Nat.le_of_ble_eq_true rfl) ?_
  refine x_if_ne 10 d_K_drop_5 (by decide) (fun c1 => ?_) (fun c1 => ?_)
  · rw [bi1] at c1
    have c1' := c1
    rw [Bool.and_eq_true] at c1'
    obtain ⟨k, hk, rfl⟩ := isQn_n c1'.1
    have hi : vp_in (nI k) 4 := vp_in_nI hk (by decide)
    have hck : (nI k).toNatClampNeg = k := nI_clamp (by omega)
    obtain ⟨b1, b2, b3, b4, ⟨ra, b5⟩, rb, b6⟩ := a3 k hk
    refine x_aload_n d_K_drop_10 rfl ?_
    refine x_get f_K_39 d_K_drop_11 (by omega) (by first | assumption | exact vu_s | exact vu_t (by omega) (by first | assumption | exact vu_s | exact vu_t (by omega) (by first | assumption | exact vu_s | exact vu_t (by omega) (by first | assumption | exact vu_s))) | rfl | (simp only [va_up, Nat.reduceEqDiff, ↓reduceIte]; first | rfl | assumption)) rfl ?_
    refine x_iload_n d_K_drop_14 rfl ?_
    refine x_aald (t := 5) (v := 70 + 6 * k) rfl d_K_drop_15 (by omega) a1 hi (by rw [hck]; exact a2 k hk) ?_
    refine x_cVv (c_Q_remove (by omega) b1) k_K_103 v_Q_remove d_K_drop_16 rfl (by omega) (by first | assumption | exact vu_s | exact vu_t (by omega) (by first | assumption | exact vu_s | exact vu_t (by omega) (by first | assumption | exact vu_s | exact vu_t (by omega) (by first | assumption | exact vu_s))) | rfl | (simp only [va_up, Nat.reduceEqDiff, ↓reduceIte]; first | rfl | assumption)) rfl (by omega) (Nat.le_of_ble_eq_true rfl) ?_
    refine x_iconst (v := 0) d_K_drop_19 (by decide) ?_
    refine x_iret d_K_drop_20 ?_
    refine ⟨frm.rf.up (by omega), ?_⟩
    rw [if_pos c1, hck]
    refine ⟨rfl, vu_t (by omega) h0, hR.cg ?_, hT.cg ?_, hG'.cg ?_, hE.cg ?_, ⟨s, vu_t (by omega) a1, a2⟩, fun i hi => ?_⟩
    · exact sm.rf.up (by omega)
    · exact sm.rf.up (by omega)
    · exact sm.rf.up (by omega)
    · exact sm.rf.up (by omega)
    · by_cases e : i = k
      · subst e
        rw [show upQ Qs i (false, (Qs i).2) i = (false, (Qs i).2) from if_pos rfl]
        exact ⟨vu_s, vu_t (by omega) b2, vu_t (by omega) b3, vu_t (by omega) b4, ⟨ra, vu_t (by omega) b5⟩, rb, vu_t (by omega) b6⟩
      · rw [show upQ Qs k (false, (Qs k).2) i = Qs i from if_neg e]
        exact (a3 i hi).cg (sm.rf.up (by omega))
  · rw [bi0] at c1
    refine x_iconst (v := -1) d_K_drop_8 (by decide) ?_
    refine x_iret d_K_drop_9 ?_
    refine ⟨frm.rf, ?_⟩
    rw [if_neg (by rw [c1]; decide)]
    exact ⟨rfl, hI⟩
theorem scr_IC {q k : Nat} {h h' : xHp} (hI : IC f n pl bs tf tn Qs h) (hk : k < 4) (hq : q = 70 + 6 * k) (s : scr q h h') : frm h h' ∧ IC f n pl bs tf tn Qs h' := by
  subst hq
  obtain ⟨h0, hR, hT, hG', hE, hQ⟩ := hI
  obtain ⟨⟨s1, a1, a2⟩, a3⟩ := id hQ
  obtain ⟨⟨ra, rb, r1, r2⟩, r3⟩ := s
  refine ⟨fun j hj => r3 j (by omega) (by omega), (r3 0 (by omega) (by omega)).trans h0, hR.cg ?_, hT.cg ?_, hG'.cg ?_, hE.cg ?_, ⟨s1, (r3 69 (by omega) (by omega)).trans a1, a2⟩, fun i hi => ?_⟩
  · exact fun j z1 z2 => r3 j (by omega) (by omega)
  · exact fun j z1 z2 => r3 j (by omega) (by omega)
  · exact fun j z1 z2 => r3 j (by omega) (by omega)
  · exact fun j z1 z2 => r3 j (by omega) (by omega)
  · by_cases e : i = k
    · subst e
      obtain ⟨b1, b2, b3, b4, -⟩ := a3 i hi
      exact ⟨(r3 _ (by omega) (by omega)).trans b1, (r3 _ (by omega) (by omega)).trans b2, (r3 _ (by omega) (by omega)).trans b3, (r3 _ (by omega) (by omega)).trans b4, ⟨ra, r1⟩, rb, r2⟩
    · exact (a3 i hi).cg (fun j z1 z2 => r3 j (by omega) (by omega))
def okQ (Q : CQ) : Prop := Q.2.1 ≤ Q.2.2.1 ∧ Q.2.2.1 < 3
/-- the answer of a question of the class -/
def ansQ (Q : CQ) (f : Nat → Int32) (grp : Int32) : Int64 := ansC Q.2.2.2.2.2.1 Q.2.2.2.1 grp f Q.2.2.2.2.2.2 Q.2.1 Q.2.2.1
set_option maxRecDepth 100000 in
set_option maxHeartbeats 4000000 in
theorem c_K_answer (q grp : Int32) (hN : 94 ≤ N) (hI : IC f n pl bs tf tn Qs h) (hok : ∀ i, i < 4 → okQ (Qs i)) : XM y_K_answer b_K_answer 3 (some .long) 5 0 0 [.ref 0, .int q, .int grp] N h (fun v h' => (frm h h' ∧ IC f n pl bs tf tn Qs h') ∧ v = some (.long (if (isQn q && (Qs q.toNatClampNeg).1) = true ∧ isVal grp = true then (if (Qs q.toNatClampNeg).2.2.2.1 = -2 then (if grp = 0 then ansQ (Qs q.toNatClampNeg) f (-1) else 0) else ansQ (Qs q.toNatClampNeg) f grp) else 9000000000000000000))) := by
  obtain ⟨h0, ⟨h1, h2, -⟩, -, -, -, ⟨⟨s, a1, a2⟩, a3⟩⟩ := id hI
  refine xM_intro [some (.ref 0), some (.int q), some (.int grp)] (by decide) (fun _ => rfl) (fun _ => Nat.le_of_ble_eq_true rfl) (fun Γ => ?_)
  refine x_aload_n d_K_answer_0 rfl ?_
  refine x_iload_n d_K_answer_1 rfl ?_
  refine x_cVe (c_K_isAskable q hN hI) k_K_100 v_K_isAskable d_K_answer_2 rfl (by omega) (by first | assumption | exact vu_s | exact vu_t (by omega) (by first | assumption | exact vu_s | exact vu_t (by omega) (by first | assumption | exact vu_s | exact vu_t (by omega) (by first | assumption | exact vu_s))) | rfl | (simp only [va_up, Nat.reduceEqDiff, ↓reduceIte]; first | rfl | assumption)) rfl (by omega) (Nat.le_of_ble_eq_true rfl) ?_
  refine x_if_eq 15 d_K_answer_5 (by decide) (fun c1 => ?_) (fun c1 => ?_)
  · rw [bi0] at c1
    refine x_ldc2 l_K_109 d_K_answer_15 ?_
    refine x_lret d_K_answer_18 ?_
    exact ⟨⟨frm.rf, hI⟩, by rw [if_neg (fun z => by rw [c1] at z; exact absurd z.1 (by decide))]⟩
  · rw [bi1] at c1
    refine x_iload_n d_K_answer_8 rfl ?_
    refine x_cSe (c_K_isValue grp) k_K_106 s_K_isValue d_K_answer_9 rfl (by omega) (Nat.le_of_ble_eq_true rfl) ?_
    refine x_if_ne 19 d_K_answer_12 (by decide) (fun c2 => ?_) (fun c2 => ?_)
    · rw [bi1] at c2
      have c1' := c1
      rw [Bool.and_eq_true] at c1'
      obtain ⟨k, hk, rfl⟩ := isQn_n c1'.1
      have hi : vp_in (nI k) 4 := vp_in_nI hk (by decide)
      have hck : (nI k).toNatClampNeg = k := nI_clamp (by omega)
      obtain ⟨b1, b2, b3, b4, ⟨ra, b5⟩, rb, b6⟩ := a3 k hk
      refine x_aload_n d_K_answer_19 rfl ?_
      refine x_get f_K_39 d_K_answer_20 (by omega) (by first | assumption | exact vu_s | exact vu_t (by omega) (by first | assumption | exact vu_s | exact vu_t (by omega) (by first | assumption | exact vu_s | exact vu_t (by omega) (by first | assumption | exact vu_s))) | rfl | (simp only [va_up, Nat.reduceEqDiff, ↓reduceIte]; first | rfl | assumption)) rfl ?_
      refine x_iload_n d_K_answer_23 rfl ?_
      refine x_aald (t := 5) (v := 70 + 6 * k) rfl d_K_answer_24 (by omega) a1 hi (by rw [hck]; exact a2 k hk) ?_
      refine x_aload_n d_K_answer_25 rfl ?_
      refine x_get f_K_10 d_K_answer_26 (by omega) (by first | assumption | exact vu_s | exact vu_t (by omega) (by first | assumption | exact vu_s | exact vu_t (by omega) (by first | assumption | exact vu_s | exact vu_t (by omega) (by first | assumption | exact vu_s))) | rfl | (simp only [va_up, Nat.reduceEqDiff, ↓reduceIte]; first | rfl | assumption)) rfl ?_
      refine x_iload_n d_K_answer_29 rfl ?_
      refine x_cV (c_Q_answerFor hN (by omega) (by omega) (hok k hk).1 (hok k hk).2 h1 h2 b1 b2 b3 b4 b5 b6) k_K_111 v_Q_answerFor d_K_answer_30 rfl (by omega) (by first | assumption | exact vu_s | exact vu_t (by omega) (by first | assumption | exact vu_s | exact vu_t (by omega) (by first | assumption | exact vu_s | exact vu_t (by omega) (by first | assumption | exact vu_s))) | rfl | (simp only [va_up, Nat.reduceEqDiff, ↓reduceIte]; first | rfl | assumption)) rfl (by omega) (Nat.le_of_ble_eq_true rfl) ?_
      rintro v h' ⟨rfl, hs⟩
      refine x_lret d_K_answer_33 ?_
      refine ⟨scr_IC hI hk rfl hs, ?_⟩
      rw [if_pos (c := (isQn (nI k) && (Qs (nI k).toNatClampNeg).1) = true ∧ isVal grp = true) ⟨c1, c2⟩, hck]
      rfl
    · rw [bi0] at c2
      refine x_ldc2 l_K_109 d_K_answer_15 ?_
      refine x_lret d_K_answer_18 ?_
      exact ⟨⟨frm.rf, hI⟩, by rw [if_neg (fun z => by rw [c2] at z; exact absurd z.2 (by decide))]⟩
set_option maxRecDepth 100000 in
set_option maxHeartbeats 4000000 in
theorem c_K_total (q : Int32) (hN : 94 ≤ N) (hI : IC f n pl bs tf tn Qs h) (hok : ∀ i, i < 4 → okQ (Qs i)) : XM y_K_total b_K_total 2 (some .long) 4 0 0 [.ref 0, .int q] N h (fun v h' => (frm h h' ∧ IC f n pl bs tf tn Qs h') ∧ v = some (.long (if (isQn q && (Qs q.toNatClampNeg).1) = true then ansQ (Qs q.toNatClampNeg) f (-1) else 9000000000000000000))) := by
  obtain ⟨h0, ⟨h1, h2, -⟩, -, -, -, ⟨⟨s, a1, a2⟩, a3⟩⟩ := id hI
  refine xM_intro [some (.ref 0), some (.int q)] (by decide) (fun _ => rfl) (fun _ => Nat.le_of_ble_eq_true rfl) (fun Γ => ?_)
  refine x_aload_n d_K_total_0 rfl ?_
  refine x_iload_n d_K_total_1 rfl ?_
  refine x_cVe (c_K_isAskable q hN hI) k_K_100 v_K_isAskable d_K_total_2 rfl (by omega) (by first | assumption | exact vu_s | exact vu_t (by omega) (by first | assumption | exact vu_s | exact vu_t (by omega) (by first | assumption | exact vu_s | exact vu_t (by omega) (by first | assumption | exact vu_s))) | rfl | (simp only [va_up, Nat.reduceEqDiff, ↓reduceIte]; first | rfl | assumption)) rfl (by omega) (Nat.le_of_ble_eq_true rfl) ?_
  refine x_if_ne 12 d_K_total_5 (by decide) (fun c1 => ?_) (fun c1 => ?_)
  · rw [bi1] at c1
    have c1' := c1
    rw [Bool.and_eq_true] at c1'
    obtain ⟨k, hk, rfl⟩ := isQn_n c1'.1
    have hi : vp_in (nI k) 4 := vp_in_nI hk (by decide)
    have hck : (nI k).toNatClampNeg = k := nI_clamp (by omega)
    obtain ⟨b1, b2, b3, b4, ⟨ra, b5⟩, rb, b6⟩ := a3 k hk
    refine x_aload_n d_K_total_12 rfl ?_
    refine x_get f_K_39 d_K_total_13 (by omega) (by first | assumption | exact vu_s | exact vu_t (by omega) (by first | assumption | exact vu_s | exact vu_t (by omega) (by first | assumption | exact vu_s | exact vu_t (by omega) (by first | assumption | exact vu_s))) | rfl | (simp only [va_up, Nat.reduceEqDiff, ↓reduceIte]; first | rfl | assumption)) rfl ?_
    refine x_iload_n d_K_total_16 rfl ?_
    refine x_aald (t := 5) (v := 70 + 6 * k) rfl d_K_total_17 (by omega) a1 hi (by rw [hck]; exact a2 k hk) ?_
    refine x_aload_n d_K_total_18 rfl ?_
    refine x_get f_K_10 d_K_total_19 (by omega) (by first | assumption | exact vu_s | exact vu_t (by omega) (by first | assumption | exact vu_s | exact vu_t (by omega) (by first | assumption | exact vu_s | exact vu_t (by omega) (by first | assumption | exact vu_s))) | rfl | (simp only [va_up, Nat.reduceEqDiff, ↓reduceIte]; first | rfl | assumption)) rfl ?_
    refine x_iconst (v := -1) d_K_total_22 (by decide) ?_
    refine x_cV (c_Q_sumOver hN (by omega) (by omega) (hok k hk).1 (hok k hk).2 h1 h2 b1 b2 b3 b4 b5 b6) k_K_115 v_Q_sumOver d_K_total_23 rfl (by omega) (by first | assumption | exact vu_s | exact vu_t (by omega) (by first | assumption | exact vu_s | exact vu_t (by omega) (by first | assumption | exact vu_s | exact vu_t (by omega) (by first | assumption | exact vu_s))) | rfl | (simp only [va_up, Nat.reduceEqDiff, ↓reduceIte]; first | rfl | assumption)) rfl (by omega) (Nat.le_of_ble_eq_true rfl) ?_
    rintro v h' ⟨rfl, hs⟩
    refine x_lret d_K_total_26 ?_
    refine ⟨scr_IC hI hk rfl hs, ?_⟩
    rw [if_pos c1, hck]
    rfl
  · rw [bi0] at c1
    refine x_ldc2 l_K_109 d_K_total_8 ?_
    refine x_lret d_K_total_11 ?_
    exact ⟨⟨frm.rf, hI⟩, by rw [if_neg (by rw [c1]; decide)]⟩
def qstV (Q : CQ) (w : Int32) : Int32 := if w = 0 then bi Q.1 else if Q.1 = false then -1 else if w = 1 then nI (filN Q.2.2.2.2.2.2 81) else if w = 2 then nI (chN Q.2.1 (Q.2.2.1 + 1)) else if w = 3 then Q.2.2.2.1 else if w = 4 then Q.2.2.2.2.1 else -1
set_option maxRecDepth 100000 in
set_option maxHeartbeats 4000000 in
theorem c_K_question (q w : Int32) (hN : 94 ≤ N) (hI : IC f n pl bs tf tn Qs h) (hok : ∀ i, i < 4 → okQ (Qs i)) : XM y_K_question b_K_question 4 (some .int) 2 0 0 [.ref 0, .int q, .int w] N h (xR (some (.int (if isQn q then qstV (Qs q.toNatClampNeg) w else -1))) h) := by
  obtain ⟨h0, -, -, -, -, ⟨⟨s, a1, a2⟩, a3⟩⟩ := id hI
  refine xM_intro [some (.ref 0), some (.int q), some (.int w), none] (by decide) (fun _ => rfl) (fun _ => Nat.le_of_ble_eq_true rfl) (fun Γ => ?_)
  refine x_iload_n d_K_question_0 rfl ?_
  refine x_cSe (c_K_isQuestion q) k_K_74 s_K_isQuestion d_K_question_1 rfl (by omega) (Nat.le_of_ble_eq_true rfl) ?_
  refine x_if_ne 9 d_K_question_4 (by decide) (fun c1 => ?_) (fun c1 => ?_)
  · rw [bi1] at c1
    obtain ⟨k, hk, rfl⟩ := isQn_n c1
    have hi : vp_in (nI k) 4 := vp_in_nI hk (by decide)
    have hck : (nI k).toNatClampNeg = k := nI_clamp (by omega)
    obtain ⟨b1, b2, b3, b4, -⟩ := a3 k hk
    rw [c1, hck, if_pos rfl]
    refine x_aload_n d_K_question_9 rfl ?_
    refine x_get f_K_39 d_K_question_10 (by omega) (by first | assumption | exact vu_s | exact vu_t (by omega) (by first | assumption | exact vu_s | exact vu_t (by omega) (by first | assumption | exact vu_s | exact vu_t (by omega) (by first | assumption | exact vu_s))) | rfl | (simp only [va_up, Nat.reduceEqDiff, ↓reduceIte]; first | rfl | assumption)) rfl ?_
    refine x_iload_n d_K_question_13 rfl ?_
    refine x_aald (t := 5) (v := 70 + 6 * k) rfl d_K_question_14 (by omega) a1 hi (by rw [hck]; exact a2 k hk) ?_
    refine x_astore_n d_K_question_15 (by decide) rfl ?_
    refine x_iload_n d_K_question_16 rfl ?_
    refine x_if_ne 33 d_K_question_17 (by decide) (fun c2 => ?_) (fun c2 => ?_)
    · refine x_aload_n d_K_question_33 rfl ?_
      refine x_cVe (c_Q_isThere (by omega) b1) k_K_122 v_Q_isThere d_K_question_34 rfl (by omega) (by first | assumption | exact vu_s | exact vu_t (by omega) (by first | assumption | exact vu_s | exact vu_t (by omega) (by first | assumption | exact vu_s | exact vu_t (by omega) (by first | assumption | exact vu_s))) | rfl | (simp only [va_up, Nat.reduceEqDiff, ↓reduceIte]; first | rfl | assumption)) rfl (by omega) (Nat.le_of_ble_eq_true rfl) ?_
      refine x_if_ne 42 d_K_question_37 (by decide) (fun c3 => ?_) (fun c3 => ?_)
      · rw [bi1] at c3
        refine x_iload_n d_K_question_42 rfl ?_
        by_cases e1 : w = 1
        · subst e1
          refine x_tableIn 72 d_K_question_43 (by decide) (by decide) (off := 29) (by decide) (by decide) ?_
          refine x_aload_n d_K_question_72 rfl ?_
          refine x_cVe (c_Q_terms (by omega) b1 b3 b4) k_K_97 v_Q_terms d_K_question_73 rfl (by omega) (by first | assumption | exact vu_s | exact vu_t (by omega) (by first | assumption | exact vu_s | exact vu_t (by omega) (by first | assumption | exact vu_s | exact vu_t (by omega) (by first | assumption | exact vu_s))) | rfl | (simp only [va_up, Nat.reduceEqDiff, ↓reduceIte]; first | rfl | assumption)) rfl (by omega) (Nat.le_of_ble_eq_true rfl) ?_
          refine x_iret d_K_question_76 ?_
          exact ⟨by simp [qstV, c3], rfl⟩
        · by_cases e2 : w = 2
          · subst e2
            refine x_tableIn 77 d_K_question_43 (by decide) (by decide) (off := 34) (by decide) (by decide) ?_
            refine x_aload_n d_K_question_77 rfl ?_
            refine x_cVe (c_Q_chain (by omega) (hok k hk).1 (hok k hk).2 b1) k_K_125 v_Q_chain d_K_question_78 rfl (by omega) (by first | assumption | exact vu_s | exact vu_t (by omega) (by first | assumption | exact vu_s | exact vu_t (by omega) (by first | assumption | exact vu_s | exact vu_t (by omega) (by first | assumption | exact vu_s))) | rfl | (simp only [va_up, Nat.reduceEqDiff, ↓reduceIte]; first | rfl | assumption)) rfl (by omega) (Nat.le_of_ble_eq_true rfl) ?_
            refine x_iret d_K_question_81 ?_
            exact ⟨by simp [qstV, c3], rfl⟩
          · by_cases e3 : w = 3
            · subst e3
              refine x_tableIn 82 d_K_question_43 (by decide) (by decide) (off := 39) (by decide) (by decide) ?_
              refine x_aload_n d_K_question_82 rfl ?_
              refine x_cVe (c_Q_groupColumn (by omega) b1) k_K_128 v_Q_groupColumn d_K_question_83 rfl (by omega) (by first | assumption | exact vu_s | exact vu_t (by omega) (by first | assumption | exact vu_s | exact vu_t (by omega) (by first | assumption | exact vu_s | exact vu_t (by omega) (by first | assumption | exact vu_s))) | rfl | (simp only [va_up, Nat.reduceEqDiff, ↓reduceIte]; first | rfl | assumption)) rfl (by omega) (Nat.le_of_ble_eq_true rfl) ?_
              refine x_iret d_K_question_86 ?_
              exact ⟨by simp [qstV, c3], rfl⟩
            · by_cases e4 : w = 4
              · subst e4
                refine x_tableIn 87 d_K_question_43 (by decide) (by decide) (off := 44) (by decide) (by decide) ?_
                refine x_aload_n d_K_question_87 rfl ?_
                refine x_cVe (c_Q_conditions (by omega) b1) k_K_131 v_Q_conditions d_K_question_88 rfl (by omega) (by first | assumption | exact vu_s | exact vu_t (by omega) (by first | assumption | exact vu_s | exact vu_t (by omega) (by first | assumption | exact vu_s | exact vu_t (by omega) (by first | assumption | exact vu_s))) | rfl | (simp only [va_up, Nat.reduceEqDiff, ↓reduceIte]; first | rfl | assumption)) rfl (by omega) (Nat.le_of_ble_eq_true rfl) ?_
                refine x_iret d_K_question_91 ?_
                exact ⟨by simp [qstV, c3], rfl⟩
              · have z1 := lv_neT (a := 1) e1 (by decide)
                have z2 := lv_neT (a := 2) e2 (by decide)
                have z3 := lv_neT (a := 3) e3 (by decide)
                have z4 := lv_neT (a := 4) e4 (by decide)
                refine x_tableOut 92 d_K_question_43 (by omega) (by decide) ?_
                refine x_iconst (v := -1) d_K_question_92 (by decide) ?_
                refine x_iret d_K_question_93 ?_
                exact ⟨by simp [qstV, c2, c3, e1, e2, e3, e4], rfl⟩
      · rw [bi0] at c3
        refine x_iconst (v := -1) d_K_question_40 (by decide) ?_
        refine x_iret d_K_question_41 ?_
        exact ⟨by simp [qstV, c2, c3], rfl⟩
    · refine x_aload_n d_K_question_20 rfl ?_
      refine x_cVe (c_Q_isThere (by omega) b1) k_K_122 v_Q_isThere d_K_question_21 rfl (by omega) (by first | assumption | exact vu_s | exact vu_t (by omega) (by first | assumption | exact vu_s | exact vu_t (by omega) (by first | assumption | exact vu_s | exact vu_t (by omega) (by first | assumption | exact vu_s))) | rfl | (simp only [va_up, Nat.reduceEqDiff, ↓reduceIte]; first | rfl | assumption)) rfl (by omega) (Nat.le_of_ble_eq_true rfl) ?_
      refine x_if_eq 31 d_K_question_24 (by decide) (fun c3 => ?_) (fun c3 => ?_)
      · rw [bi0] at c3
        refine x_iconst (v := 0) d_K_question_31 (by decide) ?_
        refine x_iret d_K_question_32 ?_
        exact ⟨by simp [qstV, c2, c3, bi], rfl⟩
      · rw [bi1] at c3
        refine x_iconst (v := 1) d_K_question_27 (by decide) ?_
        refine x_goto 32 d_K_question_28 (by decide) ?_
        refine x_iret d_K_question_32 ?_
        exact ⟨by simp [qstV, c2, c3, bi], rfl⟩
  · rw [bi0] at c1
    refine x_iconst (v := -1) d_K_question_7 (by decide) ?_
    refine x_iret d_K_question_8 ?_
    exact ⟨by rw [c1]; rfl, rfl⟩
end KM2
