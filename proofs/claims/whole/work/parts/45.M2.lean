/-! The reference: reads and answers. -/
set_option maxRecDepth 100000 in
set_option maxHeartbeats 4000000 in
theorem c_M_count {N : Nat} {h : xHp} {ch ln ca cd gp lg : Int32} {f pl bs tf : Nat → Int32} (r x y : Int32) (hN : 116 ≤ N) (h1 : h 94 = oM ch ln ca cd gp lg) (h2 : iM4 f pl bs tf h) : XM y_M_count b_M_count 5 (some .long) 2 0 0 [.ref 94, .int r, .int x, .int y] N h (xR (some (.long (if rowOK r x y then (f (plOf r x y).toNatClampNeg).toInt64 else 9000000000000000000))) h) := by
  obtain ⟨k1, k2, k3, k4⟩ := h2
  refine xM_intro [some (.ref 94), some (.int r), some (.int x), some (.int y), none] (by decide) (fun _ => rfl) (fun _ => Nat.le_of_ble_eq_true rfl) (fun Γ => ?_)
  refine x_iload_n d_M_count_0 rfl ?_
  refine x_iload_n d_M_count_1 rfl ?_
  refine x_iload_n d_M_count_2 rfl ?_
  refine x_cSe (c_M_cell r x y) k_M_142 s_M_cell d_M_count_3 rfl (by omega) (Nat.le_of_ble_eq_true rfl) ?_
  refine x_istore d_M_count_6 (by decide) rfl ?_
  refine x_iload d_M_count_8 rfl ?_
  by_cases e : rowOK r x y = true
  · rw [e, if_pos rfl]
    have hp := plOf_in e
    refine x_if_ge 19 d_M_count_10 (by decide) (fun c1 => ?_) (fun c1 => ?_)
    · refine x_aload_n d_M_count_19 rfl ?_
      refine x_get f_M_7 d_M_count_20 (by omega) (by first | assumption | exact vu_s | exact vu_t (by omega) (by first | assumption | exact vu_s | exact vu_t (by omega) (by first | assumption | exact vu_s | exact vu_t (by omega) (by first | assumption | exact vu_s))) | rfl | (simp only [va_up, Nat.reduceEqDiff, ↓reduceIte]; first | rfl | assumption)) rfl ?_
      refine x_iload d_M_count_23 rfl ?_
      refine x_iald d_M_count_25 (by omega) (by first | assumption | exact vu_s | exact vu_t (by omega) (by first | assumption | exact vu_s | exact vu_t (by omega) (by first | assumption | exact vu_s | exact vu_t (by omega) (by first | assumption | exact vu_s))) | rfl | (simp only [va_up, Nat.reduceEqDiff, ↓reduceIte]; first | rfl | assumption)) (by assumption) ?_
      refine x_i2l d_M_count_26 ?_
      refine x_lret d_M_count_27 ?_
      exact ⟨rfl, rfl⟩
    · exact absurd (Int32.not_lt.mp (plOf_pos e)) c1
  · have e' : rowOK r x y = false := by simpa using e
    rw [e', if_neg (by decide)]
    refine x_if_ge 19 d_M_count_10 (by decide) (fun c1 => ?_) (fun c1 => ?_)
    · rw [if_neg (by decide)] at c1
      exact absurd c1 (by decide)
    · refine x_ldc2 l_M_173 d_M_count_13 ?_
      refine x_goto 27 d_M_count_16 (by decide) ?_
      refine x_lret d_M_count_27 ?_
      exact ⟨rfl, rfl⟩
set_option maxRecDepth 100000 in
set_option maxHeartbeats 4000000 in
theorem c_M_state {N : Nat} {h : xHp} {ca cd gp lg : Int32} {n tn : Nat} {f pl bs tf : Nat → Int32} (w : Int32) (hN : 116 ≤ N) (h1 : h 94 = oM (nI n) (nI tn) ca cd gp lg) (h2 : iM4 f pl bs tf h) : XM y_M_state b_M_state 4 (some .int) 0 0 0 [.ref 94, .int w] N h (xR (some (.int (if w = 0 then nI tn else if w = 1 then nI n else if w = 2 then nI (filN f 108) else -1))) h) := by
  obtain ⟨k1, k2, k3, k4⟩ := h2
  refine xM_intro [some (.ref 94), some (.int w), none, none] (by decide) (fun _ => rfl) (fun _ => Nat.le_of_ble_eq_true rfl) (fun Γ => ?_)
  refine x_iload_n d_M_state_0 rfl ?_
  refine x_if_ne 9 d_M_state_1 (by decide) (fun c1 => ?_) (fun c1 => ?_)
  · refine x_iload_n d_M_state_9 rfl ?_
    refine x_iconst (v := 1) d_M_state_10 (by decide) ?_
    refine x_icmp_ne 19 d_M_state_11 (by decide) (fun c2 => ?_) (fun c2 => ?_)
    · refine x_iload_n d_M_state_19 rfl ?_
      refine x_iconst (v := 2) d_M_state_20 (by decide) ?_
      refine x_icmp_eq 26 d_M_state_21 (by decide) (fun c3 => ?_) (fun c3 => ?_)
      · rw [if_neg c1, if_neg c2, if_pos c3]
        refine x_iconst (v := 0) d_M_state_26 (by decide) ?_
        refine x_istore_n d_M_state_27 (by decide) rfl ?_
        refine x_iconst (v := 0) d_M_state_28 (by decide) ?_
        refine x_istore_n d_M_state_29 (by decide) rfl ?_
        have key : ∀ (m k : Nat), k ≤ 108 → 108 - k < m → XW Γ y_M_state b_M_state 4 (some .int) (0, 0, 0) (xQ Γ (N + 0) 0 0 (xR (some (.int (nI (filN f 108)))) h)) 0 0 N h 30 [some (.ref 94), some (.int w), some (.int (nI (filN f k))), some (.int (nI k))] [] := by
          intro m
          induction m with
          | zero => intro k _ h0; omega
          | succ m ih =>
            intro k hk hkm
            refine x_iload_n d_M_state_30 rfl ?_
            refine x_bipush (v := 108) d_M_state_31 (by decide) ?_
            refine x_icmp_ge 54 d_M_state_33 (by decide) (fun c4 => ?_) (fun c4 => ?_)
            · have e := nI_end (n := 108) hk (by decide) c4
              subst e
              refine x_iload_n d_M_state_54 rfl ?_
              refine x_iret d_M_state_55 ?_
              exact ⟨rfl, rfl⟩
            · have hlt := nI_more (n := 108) hk (by decide) c4
              have hi : vp_in (nI k) 108 := vp_in_nI hlt (by decide)
              refine x_aload_n d_M_state_36 rfl ?_
              refine x_get f_M_7 d_M_state_37 (by omega) (by first | assumption | exact vu_s | exact vu_t (by omega) (by first | assumption | exact vu_s | exact vu_t (by omega) (by first | assumption | exact vu_s | exact vu_t (by omega) (by first | assumption | exact vu_s))) | rfl | (simp only [va_up, Nat.reduceEqDiff, ↓reduceIte]; first | rfl | assumption)) rfl ?_
              refine x_iload_n d_M_state_40 rfl ?_
              refine x_iald d_M_state_41 (by omega) (by first | assumption | exact vu_s | exact vu_t (by omega) (by first | assumption | exact vu_s | exact vu_t (by omega) (by first | assumption | exact vu_s | exact vu_t (by omega) (by first | assumption | exact vu_s))) | rfl | (simp only [va_up, Nat.reduceEqDiff, ↓reduceIte]; first | rfl | assumption)) (by assumption) ?_
              rw [nI_clamp (show k < 2 ^ 31 by omega)]
              refine x_if_eq 48 d_M_state_42 (by decide) (fun c5 => ?_) (fun c5 => ?_)
              · refine x_iinc1 d_M_state_48 rfl (by decide) rfl ?_
                refine x_goto 30 d_M_state_51 (by decide) ?_
                rw [nI_1]
                have := ih (k + 1) (by omega) (by omega)
                rw [show filN f (k + 1) = filN f k by simp [filN, c5]] at this
                exact this
              · refine x_iinc1 d_M_state_45 rfl (by decide) rfl ?_
                refine x_iinc1 d_M_state_48 rfl (by decide) rfl ?_
                refine x_goto 30 d_M_state_51 (by decide) ?_
                rw [nI_1, nI_1]
                have := ih (k + 1) (by omega) (by omega)
                rw [show filN f (k + 1) = filN f k + 1 by simp [filN, c5]] at this
                exact this
        exact key 109 0 (by omega) (by omega)
      · refine x_iconst (v := -1) d_M_state_24 (by decide) ?_
        refine x_iret d_M_state_25 ?_
        exact ⟨by rw [if_neg c1, if_neg c2, if_neg c3], rfl⟩
    · refine x_aload_n d_M_state_14 rfl ?_
      refine x_get f_M_150 d_M_state_15 (by omega) (by first | assumption | exact vu_s | exact vu_t (by omega) (by first | assumption | exact vu_s | exact vu_t (by omega) (by first | assumption | exact vu_s | exact vu_t (by omega) (by first | assumption | exact vu_s))) | rfl | (simp only [va_up, Nat.reduceEqDiff, ↓reduceIte]; first | rfl | assumption)) rfl ?_
      refine x_iret d_M_state_18 ?_
      exact ⟨by rw [if_neg c1, if_pos c2], rfl⟩
  · refine x_aload_n d_M_state_4 rfl ?_
    refine x_get f_M_82 d_M_state_5 (by omega) (by first | assumption | exact vu_s | exact vu_t (by omega) (by first | assumption | exact vu_s | exact vu_t (by omega) (by first | assumption | exact vu_s | exact vu_t (by omega) (by first | assumption | exact vu_s))) | rfl | (simp only [va_up, Nat.reduceEqDiff, ↓reduceIte]; first | rfl | assumption)) rfl ?_
    refine x_iret d_M_state_8 ?_
    exact ⟨by rw [if_pos c1], rfl⟩
set_option maxRecDepth 100000 in
set_option maxHeartbeats 4000000 in
theorem c_M_drop {N : Nat} {h : xHp} {ch ln ca cd gp lg : Int32} {th : Nat → Bool} (q : Int32) (hN : 116 ≤ N) (h1 : h 94 = oM ch ln ca cd gp lg) (h2 : h 102 = aB 4 (fun j => bi (th j))) : XM y_M_drop b_M_drop 2 (some .int) 1 0 0 [.ref 94, .int q] N h (fun v h' => if (isQn q && th q.toNatClampNeg) = true then v = some (.int 0) ∧ h' = va_up h 102 (aB 4 (fun j => bi (if j = q.toNatClampNeg then false else th j))) else v = some (.int (-1)) ∧ h' = h) := by
  refine xM_intro [some (.ref 94), some (.int q)] (by decide) (fun _ => rfl) (fun _ => Nat.le_of_ble_eq_true rfl) (fun Γ => ?_)
  refine x_iload_n d_M_drop_0 rfl ?_
  refine x_iconst (v := 4) d_M_drop_1 (by decide) ?_
  refine x_cSe (c_M_in q 4) k_M_138 s_M_in d_M_drop_2 rfl (by omega) (Nat.le_of_ble_eq_true rfl) ?_
  rw [inB_q]
  refine x_if_eq 17 d_M_drop_5 (by decide) (fun c1 => ?_) (fun c1 => ?_)
  · rw [bi0] at c1
    refine x_iconst (v := -1) d_M_drop_17 (by decide) ?_
    refine x_iret d_M_drop_18 ?_
    rw [if_neg (by rw [c1]; simp)]
    exact ⟨rfl, rfl⟩
  · rw [bi1] at c1
    obtain ⟨k, hk, rfl⟩ := isQn_n c1
    have hi : vp_in (nI k) 4 := vp_in_nI hk (by decide)
    refine x_aload_n d_M_drop_8 rfl ?_
    refine x_get f_M_31 d_M_drop_9 (by omega) (by first | assumption | exact vu_s | exact vu_t (by omega) (by first | assumption | exact vu_s | exact vu_t (by omega) (by first | assumption | exact vu_s | exact vu_t (by omega) (by first | assumption | exact vu_s))) | rfl | (simp only [va_up, Nat.reduceEqDiff, ↓reduceIte]; first | rfl | assumption)) rfl ?_
    refine x_iload_n d_M_drop_12 rfl ?_
    refine x_zald d_M_drop_13 (by omega) (by first | assumption | exact vu_s | exact vu_t (by omega) (by first | assumption | exact vu_s | exact vu_t (by omega) (by first | assumption | exact vu_s | exact vu_t (by omega) (by first | assumption | exact vu_s))) | rfl | (simp only [va_up, Nat.reduceEqDiff, ↓reduceIte]; first | rfl | assumption)) (by assumption) ?_
    refine x_if_ne 19 d_M_drop_14 (by decide) (fun c2 => ?_) (fun c2 => ?_)
    · rw [bi1] at c2
      refine x_aload_n d_M_drop_19 rfl ?_
      refine x_get f_M_31 d_M_drop_20 (by omega) (by first | assumption | exact vu_s | exact vu_t (by omega) (by first | assumption | exact vu_s | exact vu_t (by omega) (by first | assumption | exact vu_s | exact vu_t (by omega) (by first | assumption | exact vu_s))) | rfl | (simp only [va_up, Nat.reduceEqDiff, ↓reduceIte]; first | rfl | assumption)) rfl ?_
      refine x_iload_n d_M_drop_23 rfl ?_
      refine x_iconst (v := 0) d_M_drop_24 (by decide) ?_
      refine x_zast d_M_drop_25 (by omega) (by first | assumption | exact vu_s | exact vu_t (by omega) (by first | assumption | exact vu_s | exact vu_t (by omega) (by first | assumption | exact vu_s | exact vu_t (by omega) (by first | assumption | exact vu_s))) | rfl | (simp only [va_up, Nat.reduceEqDiff, ↓reduceIte]; first | rfl | assumption)) (by assumption) rfl ?_
      refine x_iconst (v := 0) d_M_drop_26 (by decide) ?_
      refine x_iret d_M_drop_27 ?_
      rw [if_pos (by rw [c1, c2]; rfl)]
      refine ⟨rfl, ?_⟩
      congr 5
      funext j
      by_cases e : j = (nI k).toNatClampNeg
      · simp [upd, e, bi]
      · simp [upd, e]
    · rw [bi0] at c2
      refine x_iconst (v := -1) d_M_drop_17 (by decide) ?_
      refine x_iret d_M_drop_18 ?_
      rw [if_neg (by rw [c2]; simp)]
      exact ⟨rfl, rfl⟩
set_option maxRecDepth 100000 in
set_option maxHeartbeats 4000000 in
theorem c_M_question {N : Nat} {h : xHp} {ch ln ca cd gp lg : Int32} {th : Nat → Bool} {tm co go cn : Nat → Int32} (q w : Int32) (hN : 116 ≤ N) (h1 : h 94 = oM ch ln ca cd gp lg) (h2 : h 102 = aB 4 (fun j => bi (th j))) (h3 : h 103 = aI 4 tm) (h4 : h 104 = aI 4 co) (h5 : h 105 = aI 4 go) (h6 : h 106 = aI 4 cn) : XM y_M_question b_M_question 3 (some .int) 1 0 0 [.ref 94, .int q, .int w] N h (xR (some (.int (if isQn q then (if w = 0 then bi (th q.toNatClampNeg) else if th q.toNatClampNeg = false then -1 else if w = 1 then tm q.toNatClampNeg else if w = 2 then co q.toNatClampNeg else if w = 3 then go q.toNatClampNeg else if w = 4 then cn q.toNatClampNeg else -1) else -1))) h) := by
  refine xM_intro [some (.ref 94), some (.int q), some (.int w)] (by decide) (fun _ => rfl) (fun _ => Nat.le_of_ble_eq_true rfl) (fun Γ => ?_)
  refine x_iload_n d_M_question_0 rfl ?_
  refine x_iconst (v := 4) d_M_question_1 (by decide) ?_
  refine x_cSe (c_M_in q 4) k_M_138 s_M_in d_M_question_2 rfl (by omega) (Nat.le_of_ble_eq_true rfl) ?_
  rw [inB_q]
  refine x_if_eq 16 d_M_question_5 (by decide) (fun c1 => ?_) (fun c1 => ?_)
  · rw [bi0] at c1
    refine x_iconst (v := -1) d_M_question_16 (by decide) ?_
    refine x_iret d_M_question_17 ?_
    exact ⟨by rw [c1]; rfl, rfl⟩
  · rw [bi1] at c1
    obtain ⟨k, hk, rfl⟩ := isQn_n c1
    have hi : vp_in (nI k) 4 := vp_in_nI hk (by decide)
    refine x_iload_n d_M_question_8 rfl ?_
    refine x_iconst (v := 5) d_M_question_9 (by decide) ?_
    refine x_cSe (c_M_in w 5) k_M_138 s_M_in d_M_question_10 rfl (by omega) (Nat.le_of_ble_eq_true rfl) ?_
    refine x_if_ne 18 d_M_question_13 (by decide) (fun c2 => ?_) (fun c2 => ?_)
    · rw [bi1] at c2
      rw [c1, if_pos rfl]
      refine x_iload_n d_M_question_18 rfl ?_
      refine x_if_ne 37 d_M_question_19 (by decide) (fun c3 => ?_) (fun c3 => ?_)
      · refine x_aload_n d_M_question_37 rfl ?_
        refine x_get f_M_31 d_M_question_38 (by omega) (by first | assumption | exact vu_s | exact vu_t (by omega) (by first | assumption | exact vu_s | exact vu_t (by omega) (by first | assumption | exact vu_s | exact vu_t (by omega) (by first | assumption | exact vu_s))) | rfl | (simp only [va_up, Nat.reduceEqDiff, ↓reduceIte]; first | rfl | assumption)) rfl ?_
        refine x_iload_n d_M_question_41 rfl ?_
        refine x_zald d_M_question_42 (by omega) (by first | assumption | exact vu_s | exact vu_t (by omega) (by first | assumption | exact vu_s | exact vu_t (by omega) (by first | assumption | exact vu_s | exact vu_t (by omega) (by first | assumption | exact vu_s))) | rfl | (simp only [va_up, Nat.reduceEqDiff, ↓reduceIte]; first | rfl | assumption)) (by assumption) ?_
        refine x_if_ne 48 d_M_question_43 (by decide) (fun c4 => ?_) (fun c4 => ?_)
        · rw [bi1] at c4
          refine x_iload_n d_M_question_48 rfl ?_
          refine x_iconst (v := 1) d_M_question_49 (by decide) ?_
          refine x_icmp_ne 62 d_M_question_50 (by decide) (fun c5 => ?_) (fun c5 => ?_)
          · refine x_iload_n d_M_question_62 rfl ?_
            refine x_iconst (v := 2) d_M_question_63 (by decide) ?_
            refine x_icmp_ne 76 d_M_question_64 (by decide) (fun c6 => ?_) (fun c6 => ?_)
            · refine x_iload_n d_M_question_76 rfl ?_
              refine x_iconst (v := 3) d_M_question_77 (by decide) ?_
              refine x_icmp_ne 90 d_M_question_78 (by decide) (fun c7 => ?_) (fun c7 => ?_)
              · refine x_aload_n d_M_question_90 rfl ?_
                refine x_get f_M_44 d_M_question_91 (by omega) (by first | assumption | exact vu_s | exact vu_t (by omega) (by first | assumption | exact vu_s | exact vu_t (by omega) (by first | assumption | exact vu_s | exact vu_t (by omega) (by first | assumption | exact vu_s))) | rfl | (simp only [va_up, Nat.reduceEqDiff, ↓reduceIte]; first | rfl | assumption)) rfl ?_
                refine x_iload_n d_M_question_94 rfl ?_
                refine x_iald d_M_question_95 (by omega) (by first | assumption | exact vu_s | exact vu_t (by omega) (by first | assumption | exact vu_s | exact vu_t (by omega) (by first | assumption | exact vu_s | exact vu_t (by omega) (by first | assumption | exact vu_s))) | rfl | (simp only [va_up, Nat.reduceEqDiff, ↓reduceIte]; first | rfl | assumption)) (by assumption) ?_
                refine x_iret d_M_question_96 ?_
                refine ⟨?_, rfl⟩
                simp only [inB, Bool.and_eq_true, decide_eq_true_eq] at c2
                obtain ⟨j, hj, rfl⟩ := i_of (n := 5) (by decide) c2.1 c2.2
                have d0 : ¬ j = 0 := fun z => c3 (by rw [z]; rfl)
                have d1 : ¬ j = 1 := fun z => c5 (by rw [z]; rfl)
                have d2 : ¬ j = 2 := fun z => c6 (by rw [z]; rfl)
                have d3 : ¬ j = 3 := fun z => c7 (by rw [z]; rfl)
                have d4 : nI j = 4 := by rw [show j = 4 by omega]; rfl
                rw [if_neg c3, if_neg (by rw [c4]; decide), if_neg c5, if_neg c6, if_neg c7, if_pos d4]
              · refine x_aload_n d_M_question_81 rfl ?_
                refine x_get f_M_41 d_M_question_82 (by omega) (by first | assumption | exact vu_s | exact vu_t (by omega) (by first | assumption | exact vu_s | exact vu_t (by omega) (by first | assumption | exact vu_s | exact vu_t (by omega) (by first | assumption | exact vu_s))) | rfl | (simp only [va_up, Nat.reduceEqDiff, ↓reduceIte]; first | rfl | assumption)) rfl ?_
                refine x_iload_n d_M_question_85 rfl ?_
                refine x_iald d_M_question_86 (by omega) (by first | assumption | exact vu_s | exact vu_t (by omega) (by first | assumption | exact vu_s | exact vu_t (by omega) (by first | assumption | exact vu_s | exact vu_t (by omega) (by first | assumption | exact vu_s))) | rfl | (simp only [va_up, Nat.reduceEqDiff, ↓reduceIte]; first | rfl | assumption)) (by assumption) ?_
                refine x_goto 96 d_M_question_87 (by decide) ?_
                refine x_iret d_M_question_96 ?_
                exact ⟨by rw [if_neg c3, if_neg (by rw [c4]; decide), if_neg c5, if_neg c6, if_pos c7], rfl⟩
            · refine x_aload_n d_M_question_67 rfl ?_
              refine x_get f_M_38 d_M_question_68 (by omega) (by first | assumption | exact vu_s | exact vu_t (by omega) (by first | assumption | exact vu_s | exact vu_t (by omega) (by first | assumption | exact vu_s | exact vu_t (by omega) (by first | assumption | exact vu_s))) | rfl | (simp only [va_up, Nat.reduceEqDiff, ↓reduceIte]; first | rfl | assumption)) rfl ?_
              refine x_iload_n d_M_question_71 rfl ?_
              refine x_iald d_M_question_72 (by omega) (by first | assumption | exact vu_s | exact vu_t (by omega) (by first | assumption | exact vu_s | exact vu_t (by omega) (by first | assumption | exact vu_s | exact vu_t (by omega) (by first | assumption | exact vu_s))) | rfl | (simp only [va_up, Nat.reduceEqDiff, ↓reduceIte]; first | rfl | assumption)) (by assumption) ?_
              refine x_goto 96 d_M_question_73 (by decide) ?_
              refine x_iret d_M_question_96 ?_
              exact ⟨by rw [if_neg c3, if_neg (by rw [c4]; decide), if_neg c5, if_pos c6], rfl⟩
          · refine x_aload_n d_M_question_53 rfl ?_
            refine x_get f_M_35 d_M_question_54 (by omega) (by first | assumption | exact vu_s | exact vu_t (by omega) (by first | assumption | exact vu_s | exact vu_t (by omega) (by first | assumption | exact vu_s | exact vu_t (by omega) (by first | assumption | exact vu_s))) | rfl | (simp only [va_up, Nat.reduceEqDiff, ↓reduceIte]; first | rfl | assumption)) rfl ?_
            refine x_iload_n d_M_question_57 rfl ?_
            refine x_iald d_M_question_58 (by omega) (by first | assumption | exact vu_s | exact vu_t (by omega) (by first | assumption | exact vu_s | exact vu_t (by omega) (by first | assumption | exact vu_s | exact vu_t (by omega) (by first | assumption | exact vu_s))) | rfl | (simp only [va_up, Nat.reduceEqDiff, ↓reduceIte]; first | rfl | assumption)) (by assumption) ?_
            refine x_goto 96 d_M_question_59 (by decide) ?_
            refine x_iret d_M_question_96 ?_
            exact ⟨by rw [if_neg c3, if_neg (by rw [c4]; decide), if_pos c5], rfl⟩
        · rw [bi0] at c4
          refine x_iconst (v := -1) d_M_question_46 (by decide) ?_
          refine x_iret d_M_question_47 ?_
          exact ⟨by rw [if_neg c3, if_pos c4], rfl⟩
      · refine x_aload_n d_M_question_22 rfl ?_
        refine x_get f_M_31 d_M_question_23 (by omega) (by first | assumption | exact vu_s | exact vu_t (by omega) (by first | assumption | exact vu_s | exact vu_t (by omega) (by first | assumption | exact vu_s | exact vu_t (by omega) (by first | assumption | exact vu_s))) | rfl | (simp only [va_up, Nat.reduceEqDiff, ↓reduceIte]; first | rfl | assumption)) rfl ?_
        refine x_iload_n d_M_question_26 rfl ?_
        refine x_zald d_M_question_27 (by omega) (by first | assumption | exact vu_s | exact vu_t (by omega) (by first | assumption | exact vu_s | exact vu_t (by omega) (by first | assumption | exact vu_s | exact vu_t (by omega) (by first | assumption | exact vu_s))) | rfl | (simp only [va_up, Nat.reduceEqDiff, ↓reduceIte]; first | rfl | assumption)) (by assumption) ?_
        rw [if_pos c3]
        refine x_if_eq 35 d_M_question_28 (by decide) (fun c4 => ?_) (fun c4 => ?_)
        · rw [bi0] at c4
          refine x_iconst (v := 0) d_M_question_35 (by decide) ?_
          refine x_iret d_M_question_36 ?_
          exact ⟨by rw [c4]; rfl, rfl⟩
        · rw [bi1] at c4
          refine x_iconst (v := 1) d_M_question_31 (by decide) ?_
          refine x_goto 36 d_M_question_32 (by decide) ?_
          refine x_iret d_M_question_36 ?_
          exact ⟨by rw [c4]; rfl, rfl⟩
    · rw [bi0] at c2
      refine x_iconst (v := -1) d_M_question_16 (by decide) ?_
      refine x_iret d_M_question_17 ?_
      refine ⟨?_, rfl⟩
      have n0 : ∀ j, j < 5 → ¬ w = nI j := by
        intro j hj z
        subst z
        simp only [inB, Bool.and_eq_false_iff, decide_eq_false_iff_not] at c2
        rcases c2 with z | z
        · exact z (nI_pos' (by omega))
        · exact z (nI_lt (b := 5) hj (by decide))
      rw [c1, if_pos rfl, if_neg (c := w = 0) (n0 0 (by decide)), if_neg (c := w = 1) (n0 1 (by decide)), if_neg (c := w = 2) (n0 2 (by decide)), if_neg (c := w = 3) (n0 3 (by decide)), if_neg (c := w = 4) (n0 4 (by decide))]
      split <;> rfl
def ofN (j k : Nat) : Nat := if k = 0 then j / 216 else if k = 1 then j / 36 % 6 else if k = 2 then j / 6 % 6 else j % 6
theorem n6 {a : Nat} (h : a < 2 ^ 31) : nI a / 6 = nI (a / 6) := pk_div (d := 6) h (by decide) (by decide)
theorem r6 {a : Nat} (h : a < 2 ^ 31) : nI a - nI a / 6 * 6 = nI (a % 6) := pk_rem (d := 6) h (by decide) (by decide)
set_option maxRecDepth 100000 in
set_option maxHeartbeats 4000000 in
theorem c_M_of {N : Nat} {h : xHp} {j k : Nat} (hj : j < 1296) (hk : k < 100) : XM y_M_of b_M_of 2 (some .int) 0 0 0 [.int (nI j), .int (nI k)] N h (xR (some (.int (nI (ofN j k)))) h) := by
  have b1 : j / 36 < 2 ^ 31 := Nat.lt_of_le_of_lt (Nat.div_le_self _ _) (by omega)
  have b2 : j / 6 < 2 ^ 31 := Nat.lt_of_le_of_lt (Nat.div_le_self _ _) (by omega)
  refine xM_intro [some (.int (nI j)), some (.int (nI k))] (by decide) (fun _ => rfl) (fun _ => Nat.le_of_ble_eq_true rfl) (fun Γ => ?_)
  refine x_iload_n d_M_of_0 rfl ?_
  refine x_if_ne 12 d_M_of_1 (by decide) (fun c1 => ?_) (fun c1 => ?_)
  · have d1 : ¬ k = 0 := fun z => c1 (by rw [z]; rfl)
    refine x_iload_n d_M_of_12 rfl ?_
    refine x_iconst (v := 1) d_M_of_13 (by decide) ?_
    refine x_icmp_ne 27 d_M_of_14 (by decide) (fun c2 => ?_) (fun c2 => ?_)
    · have d2 : ¬ k = 1 := fun z => c2 (by rw [z]; rfl)
      refine x_iload_n d_M_of_27 rfl ?_
      refine x_iconst (v := 2) d_M_of_28 (by decide) ?_
      refine x_icmp_ne 42 d_M_of_29 (by decide) (fun c3 => ?_) (fun c3 => ?_)
      · have d3 : ¬ k = 2 := fun z => c3 (by rw [z]; rfl)
        refine x_iload_n d_M_of_42 rfl ?_
        refine x_bipush (v := 6) d_M_of_43 (by decide) ?_
        refine x_irem d_M_of_45 (by decide) ?_
        refine x_iret d_M_of_46 ?_
        exact ⟨by rw [r6 (by omega), ofN, if_neg d1, if_neg d2, if_neg d3], rfl⟩
      · have d3 : k = 2 := (nI_eq (b := 2) (by omega) (by decide)).mp c3
        refine x_iload_n d_M_of_32 rfl ?_
        refine x_bipush (v := 6) d_M_of_33 (by decide) ?_
        refine x_idiv d_M_of_35 (by decide) ?_
        refine x_bipush (v := 6) d_M_of_36 (by decide) ?_
        refine x_irem d_M_of_38 (by decide) ?_
        refine x_goto 46 d_M_of_39 (by decide) ?_
        refine x_iret d_M_of_46 ?_
        exact ⟨by rw [n6 (by omega), r6 b2, ofN, if_neg d1, if_neg d2, if_pos d3], rfl⟩
    · have d2 : k = 1 := (nI_eq (b := 1) (by omega) (by decide)).mp c2
      refine x_iload_n d_M_of_17 rfl ?_
      refine x_bipush (v := 36) d_M_of_18 (by decide) ?_
      refine x_idiv d_M_of_20 (by decide) ?_
      refine x_bipush (v := 6) d_M_of_21 (by decide) ?_
      refine x_irem d_M_of_23 (by decide) ?_
      refine x_goto 46 d_M_of_24 (by decide) ?_
      refine x_iret d_M_of_46 ?_
      refine ⟨?_, rfl⟩
      rw [show nI j / 36 = nI (j / 36) from pk_div (d := 36) (by omega) (by decide) (by decide), r6 b1, ofN, if_neg d1, if_pos d2]
  · have d1 : k = 0 := (nI_eq (b := 0) (by omega) (by decide)).mp c1
    refine x_iload_n d_M_of_4 rfl ?_
    refine x_sipush (v := 216) d_M_of_5 (by decide) ?_
    refine x_idiv d_M_of_8 (by decide) ?_
    refine x_goto 46 d_M_of_9 (by decide) ?_
    refine x_iret d_M_of_46 ?_
    refine ⟨?_, rfl⟩
    rw [show nI j / 216 = nI (j / 216) from pk_div (d := 216) (by omega) (by decide) (by decide), ofN, if_pos d1]
def pwr (v n : Nat) : Nat := if n = 0 then 1 else if n = 1 then v else v * v
set_option maxRecDepth 100000 in
set_option maxHeartbeats 4000000 in
theorem c_M_power {N : Nat} {h : xHp} {v n : Nat} (hn : n < 100) : XM y_M_power b_M_power 2 (some .int) 0 0 0 [.int (nI v), .int (nI n)] N h (xR (some (.int (nI (pwr v n)))) h) := by
  refine xM_intro [some (.int (nI v)), some (.int (nI n))] (by decide) (fun _ => rfl) (fun _ => Nat.le_of_ble_eq_true rfl) (fun Γ => ?_)
  refine x_iload_n d_M_power_0 rfl ?_
  refine x_if_ne 8 d_M_power_1 (by decide) (fun c1 => ?_) (fun c1 => ?_)
  · have d1 : ¬ n = 0 := fun z => c1 (by rw [z]; rfl)
    refine x_iload_n d_M_power_8 rfl ?_
    refine x_iconst (v := 1) d_M_power_9 (by decide) ?_
    refine x_icmp_ne 17 d_M_power_10 (by decide) (fun c2 => ?_) (fun c2 => ?_)
    · have d2 : ¬ n = 1 := fun z => c2 (by rw [z]; rfl)
      refine x_iload_n d_M_power_17 rfl ?_
      refine x_iload_n d_M_power_18 rfl ?_
      refine x_imul d_M_power_19 ?_
      refine x_iret d_M_power_20 ?_
      exact ⟨by rw [pk_mul, pwr, if_neg d1, if_neg d2], rfl⟩
    · have d2 : n = 1 := (nI_eq (b := 1) (by omega) (by decide)).mp c2
      refine x_iload_n d_M_power_13 rfl ?_
      refine x_goto 20 d_M_power_14 (by decide) ?_
      refine x_iret d_M_power_20 ?_
      exact ⟨by rw [pwr, if_neg d1, if_pos d2], rfl⟩
  · have d1 : n = 0 := (nI_eq (b := 0) (by omega) (by decide)).mp c1
    refine x_iconst (v := 1) d_M_power_4 (by decide) ?_
    refine x_goto 20 d_M_power_5 (by decide) ?_
    refine x_iret d_M_power_20 ?_
    exact ⟨by rw [pwr, if_pos d1]; rfl, rfl⟩
