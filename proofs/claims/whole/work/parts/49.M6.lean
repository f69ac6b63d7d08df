/-! The reference: look, wide, begin, simple. -/
/-- a stretch of 81 of an array -/
abbrev sg (a : Nat → Int32) (d : Nat) : Po := fun k => a (81 * d + k)
theorem lgT_s (f : Po) (k : Nat) : lgT f (k + 1) = (lgT f k || (decide (1000 < f k) || decide (f k < -1000))) := by
  simp only [lgT, Bool.or_assoc]
set_option maxRecDepth 100000 in
set_option maxHeartbeats 4000000 in
theorem c_M_look {N : Nat} {h : xHp} {ch ln ca cd gp : Int32} {lg ofS : Bool} {sm tm : Nat → Int32} {d : Nat} (hN : 116 ≤ N) (hd : d < 9) (h1 : h 94 = oM ch ln ca cd gp (bi lg)) (h2 : h 109 = aI 729 sm) (h3 : h 110 = aI 729 tm) : XM y_M_look b_M_look 6 none 0 0 0 [.ref 94, .int (bi ofS), .int (nI (81 * d))] N h (xR none (va_up h 94 (oM ch ln ca cd gp (bi (lg || isLg (if ofS then sg sm d else sg tm d)))))) := by
  refine xM_intro [some (.ref 94), some (.int (bi ofS)), some (.int (nI (81 * d))), none, none, none] (by decide) (fun _ => rfl) (fun _ => Nat.le_of_ble_eq_true rfl) (fun Γ => ?_)
  refine x_iconst (v := 0) d_M_look_0 (by decide) ?_
  refine x_istore_n d_M_look_1 (by decide) rfl ?_
  refine x_iload_n d_M_look_2 rfl ?_
  refine x_istore d_M_look_3 (by decide) rfl ?_
  generalize hF : (if ofS then sg sm d else sg tm d) = F
  have key : ∀ (m k : Nat) (x5 : Option Value), k ≤ 81 → 81 - k < m → XW Γ y_M_look b_M_look 6 none (0, 0, 0) (xQ Γ (N + 0) 0 0 (xR none (va_up h 94 (oM ch ln ca cd gp (bi (lg || isLg F)))))) 0 0 N (va_up h 94 (oM ch ln ca cd gp (bi (lg || lgT F k)))) 5 [some (.ref 94), some (.int (bi ofS)), some (.int (nI (81 * d))), some (.int (nI (filN F k))), some (.int (nI (81 * d + k))), x5] [] := by
    intro m
    induction m with
    | zero => intro k x5 _ h0; omega
    | succ m ih =>
      intro k x5 hk hkm
      have g1 : va_up h 94 (oM ch ln ca cd gp (bi (lg || lgT F k))) 94 = oM ch ln ca cd gp (bi (lg || lgT F k)) := vu_s
      have g2 : va_up h 94 (oM ch ln ca cd gp (bi (lg || lgT F k))) 109 = aI 729 sm := vu_t (by decide) h2
      have g3 : va_up h 94 (oM ch ln ca cd gp (bi (lg || lgT F k))) 110 = aI 729 tm := vu_t (by decide) h3
      refine x_iload d_M_look_5 rfl ?_
      refine x_iload_n d_M_look_7 rfl ?_
      refine x_bipush (v := 81) d_M_look_8 (by decide) ?_
      refine x_iadd d_M_look_10 ?_
      rw [show nI (81 * d) + 81 = nI (81 * d + 81) from nI_add _ 81]
      refine x_icmp_ge 72 d_M_look_11 (by decide) (fun c1 => ?_) (fun c1 => ?_)
      · have e : k = 81 := by
          have := nI_end (k := 81 * d + k) (n := 81 * d + 81) (by omega) (by omega) c1
          omega
        subst e
        have hle := filN_le F 81
        refine x_iload_n d_M_look_72 rfl ?_
        refine x_bipush (v := 12) d_M_look_73 (by decide) ?_
        refine x_icmp_le 83 d_M_look_75 (by decide) (fun c2 => ?_) (fun c2 => ?_)
        · have c3 : ¬ 12 < filN F 81 := fun q => absurd c2 (nI_ge q (by omega))
          refine x_vret d_M_look_83 ?_
          refine ⟨rfl, ?_⟩
          rw [isLg, decide_eq_false c3, Bool.or_false]
        · have c3 : 12 < filN F 81 := by
            rcases Nat.lt_or_ge 12 (filN F 81) with q | q
            · exact q
            · exact absurd (nI_le q (by decide)) c2
          refine x_aload_n d_M_look_78 rfl ?_
          refine x_iconst (v := 1) d_M_look_79 (by decide) ?_
          refine x_put f_M_85 d_M_look_80 (by omega) (by first | assumption | exact vu_s | exact vu_t (by omega) (by first | assumption | exact vu_s | exact vu_t (by omega) (by first | assumption | exact vu_s | exact vu_t (by omega) (by first | assumption | exact vu_s))) | rfl | (simp only [va_up, Nat.reduceEqDiff, ↓reduceIte]; first | rfl | assumption)) (Nat.le_of_ble_eq_true rfl) (fun _ => ⟨rfl, rfl⟩) ?_
          refine x_vret d_M_look_83 ?_
          refine ⟨rfl, ?_⟩
          rw [bx_uu, isLg, decide_eq_true c3, Bool.or_true, Bool.or_true]
          rfl
      · have hlt : k < 81 := by
          have := nI_more (k := 81 * d + k) (n := 81 * d + 81) (by omega) (by omega) c1
          omega
        have hi : vp_in (nI (81 * d + k)) 729 := vp_in_nI (by omega) (by decide)
        have hck : (nI (81 * d + k)).toNatClampNeg = 81 * d + k := nI_clamp (by omega)
        have s66 : ∀ b : Bool, b = (lg || lgT F (k + 1)) → XW Γ y_M_look b_M_look 6 none (0, 0, 0) (xQ Γ (N + 0) 0 0 (xR none (va_up h 94 (oM ch ln ca cd gp (bi (lg || isLg F)))))) 0 0 N (va_up h 94 (oM ch ln ca cd gp (bi b))) 66 [some (.ref 94), some (.int (bi ofS)), some (.int (nI (81 * d))), some (.int (nI (filN F (k + 1)))), some (.int (nI (81 * d + k))), some (.int (F k))] [] := by
          intro b hb
          subst hb
          refine x_iinc1 d_M_look_66 rfl (by decide) rfl ?_
          refine x_goto 5 d_M_look_69 (by decide) ?_
          rw [nI_1]
          exact ih (k + 1) _ (by omega) (by omega)
        have s45 : XW Γ y_M_look b_M_look 6 none (0, 0, 0) (xQ Γ (N + 0) 0 0 (xR none (va_up h 94 (oM ch ln ca cd gp (bi (lg || isLg F)))))) 0 0 N (va_up h 94 (oM ch ln ca cd gp (bi (lg || lgT F k)))) 45 [some (.ref 94), some (.int (bi ofS)), some (.int (nI (81 * d))), some (.int (nI (filN F (k + 1)))), some (.int (nI (81 * d + k))), some (.int (F k))] [] := by
          have yes : (1000 < F k ∨ F k < -1000) → XW Γ y_M_look b_M_look 6 none (0, 0, 0) (xQ Γ (N + 0) 0 0 (xR none (va_up h 94 (oM ch ln ca cd gp (bi (lg || isLg F)))))) 0 0 N (va_up h 94 (oM ch ln ca cd gp (bi (lg || lgT F k)))) 61 [some (.ref 94), some (.int (bi ofS)), some (.int (nI (81 * d))), some (.int (nI (filN F (k + 1)))), some (.int (nI (81 * d + k))), some (.int (F k))] [] := by
            intro e
            refine x_aload_n d_M_look_61 rfl ?_
            refine x_iconst (v := 1) d_M_look_62 (by decide) ?_
            refine x_put f_M_85 d_M_look_63 (by omega) (by first | assumption | exact vu_s | exact vu_t (by omega) (by first | assumption | exact vu_s | exact vu_t (by omega) (by first | assumption | exact vu_s | exact vu_t (by omega) (by first | assumption | exact vu_s))) | rfl | (simp only [va_up, Nat.reduceEqDiff, ↓reduceIte]; first | rfl | assumption)) (Nat.le_of_ble_eq_true rfl) (fun _ => ⟨rfl, rfl⟩) ?_
            rw [bx_uu]
            exact s66 true (by rw [lgT_t e (k + 1) (by omega), Bool.or_true])
          refine x_iload d_M_look_45 rfl ?_
          refine x_sipush (v := 1000) d_M_look_47 (by decide) ?_
          refine x_icmp_gt 61 d_M_look_50 (by decide) (fun c2 => ?_) (fun c2 => ?_)
          · exact yes (Or.inl c2)
          · refine x_iload d_M_look_53 rfl ?_
            refine x_sipush (v := -1000) d_M_look_55 (by decide) ?_
            refine x_icmp_ge 66 d_M_look_58 (by decide) (fun c3 => ?_) (fun c3 => ?_)
            · exact s66 _ (by rw [lgT_s, decide_eq_false c2, decide_eq_false (Int32.not_lt.mpr c3), Bool.or_false, Bool.or_false])
            · exact yes (Or.inr (Int32.not_le.mp c3))
        have s35 : XW Γ y_M_look b_M_look 6 none (0, 0, 0) (xQ Γ (N + 0) 0 0 (xR none (va_up h 94 (oM ch ln ca cd gp (bi (lg || isLg F)))))) 0 0 N (va_up h 94 (oM ch ln ca cd gp (bi (lg || lgT F k)))) 35 [some (.ref 94), some (.int (bi ofS)), some (.int (nI (81 * d))), some (.int (nI (filN F k))), some (.int (nI (81 * d + k))), x5] [.int (F k)] := by
          refine x_istore d_M_look_35 (by decide) rfl ?_
          refine x_iload d_M_look_37 rfl ?_
          refine x_if_eq 45 d_M_look_39 (by decide) (fun c2 => ?_) (fun c2 => ?_)
          · rw [show filN F (k + 1) = filN F k by simp [filN, c2]] at s45
            exact s45
          · refine x_iinc1 d_M_look_42 rfl (by decide) rfl ?_
            rw [nI_1]
            rw [show filN F (k + 1) = filN F k + 1 by simp [filN, c2]] at s45
            exact s45
        refine x_iload_n d_M_look_14 rfl ?_
        refine x_if_eq 28 d_M_look_15 (by decide) (fun c2 => ?_) (fun c2 => ?_)
        · rw [bi0] at c2
          refine x_aload_n d_M_look_28 rfl ?_
          refine x_get f_M_56 d_M_look_29 (by omega) (by first | assumption | exact vu_s | exact vu_t (by omega) (by first | assumption | exact vu_s | exact vu_t (by omega) (by first | assumption | exact vu_s | exact vu_t (by omega) (by first | assumption | exact vu_s))) | rfl | (simp only [va_up, Nat.reduceEqDiff, ↓reduceIte]; first | rfl | assumption)) rfl ?_
          refine x_iload d_M_look_32 rfl ?_
          refine x_iald d_M_look_34 (by omega) (by first | assumption | exact vu_s | exact vu_t (by omega) (by first | assumption | exact vu_s | exact vu_t (by omega) (by first | assumption | exact vu_s | exact vu_t (by omega) (by first | assumption | exact vu_s))) | rfl | (simp only [va_up, Nat.reduceEqDiff, ↓reduceIte]; first | rfl | assumption)) (by assumption) ?_
          rw [hck]
          have e : F k = tm (81 * d + k) := by rw [← hF, c2]; rfl
          rw [← e]
          exact s35
        · rw [bi1] at c2
          refine x_aload_n d_M_look_18 rfl ?_
          refine x_get f_M_53 d_M_look_19 (by omega) (by first | assumption | exact vu_s | exact vu_t (by omega) (by first | assumption | exact vu_s | exact vu_t (by omega) (by first | assumption | exact vu_s | exact vu_t (by omega) (by first | assumption | exact vu_s))) | rfl | (simp only [va_up, Nat.reduceEqDiff, ↓reduceIte]; first | rfl | assumption)) rfl ?_
          refine x_iload d_M_look_22 rfl ?_
          refine x_iald d_M_look_24 (by omega) (by first | assumption | exact vu_s | exact vu_t (by omega) (by first | assumption | exact vu_s | exact vu_t (by omega) (by first | assumption | exact vu_s | exact vu_t (by omega) (by first | assumption | exact vu_s))) | rfl | (simp only [va_up, Nat.reduceEqDiff, ↓reduceIte]; first | rfl | assumption)) (by assumption) ?_
          refine x_goto 35 d_M_look_25 (by decide) ?_
          rw [hck]
          have e : F k = sm (81 * d + k) := by rw [← hF, c2]; rfl
          rw [← e]
          exact s35
  have := key 82 0 none (by omega) (by omega)
  rw [show (lg || lgT F 0) = lg by simp [lgT], ← h1, vu_e] at this
  exact this
def wd (k : Nat) : Nat := k / 27 * 125 + k / 9 % 3 * 25 + k / 3 % 3 * 5 + k % 3
theorem wd_lt : ∀ k, k < 81 → wd k < 313 := by decide
set_option maxRecDepth 100000 in
set_option maxHeartbeats 4000000 in
theorem c_M_wide {N : Nat} {h : xHp} {k : Nat} (hk : k < 81) : XM y_M_wide b_M_wide 1 (some .int) 0 0 0 [.int (nI k)] N h (xR (some (.int (nI (wd k)))) h) := by
  have e27 : nI k / 27 = nI (k / 27) := pk_div (d := 27) (by omega) (by decide) (by decide)
  have e9 : nI k / 9 = nI (k / 9) := pk_div (d := 9) (by omega) (by decide) (by decide)
  have e3 : nI k / 3 = nI (k / 3) := pk_div (d := 3) (by omega) (by decide) (by decide)
  have r9 : nI (k / 9) - nI (k / 9) / 3 * 3 = nI (k / 9 % 3) := pk_rem (d := 3) (by omega) (by decide) (by decide)
  have r3 : nI (k / 3) - nI (k / 3) / 3 * 3 = nI (k / 3 % 3) := pk_rem (d := 3) (by omega) (by decide) (by decide)
  have r1 : nI k - nI k / 3 * 3 = nI (k % 3) := pk_rem (d := 3) (by omega) (by decide) (by decide)
  refine xM_intro [some (.int (nI k))] (by decide) (fun _ => rfl) (fun _ => Nat.le_of_ble_eq_true rfl) (fun Γ => ?_)
  refine x_iload_n d_M_wide_0 rfl ?_
  refine x_bipush (v := 27) d_M_wide_1 (by decide) ?_
  refine x_idiv d_M_wide_3 (by decide) ?_
  refine x_bipush (v := 125) d_M_wide_4 (by decide) ?_
  refine x_imul d_M_wide_6 ?_
  refine x_iload_n d_M_wide_7 rfl ?_
  refine x_bipush (v := 9) d_M_wide_8 (by decide) ?_
  refine x_idiv d_M_wide_10 (by decide) ?_
  refine x_iconst (v := 3) d_M_wide_11 (by decide) ?_
  refine x_irem d_M_wide_12 (by decide) ?_
  refine x_bipush (v := 25) d_M_wide_13 (by decide) ?_
  refine x_imul d_M_wide_15 ?_
  refine x_iadd d_M_wide_16 ?_
  refine x_iload_n d_M_wide_17 rfl ?_
  refine x_iconst (v := 3) d_M_wide_18 (by decide) ?_
  refine x_idiv d_M_wide_19 (by decide) ?_
  refine x_iconst (v := 3) d_M_wide_20 (by decide) ?_
  refine x_irem d_M_wide_21 (by decide) ?_
  refine x_iconst (v := 5) d_M_wide_22 (by decide) ?_
  refine x_imul d_M_wide_23 ?_
  refine x_iadd d_M_wide_24 ?_
  refine x_iload_n d_M_wide_25 rfl ?_
  refine x_iconst (v := 3) d_M_wide_26 (by decide) ?_
  refine x_irem d_M_wide_27 (by decide) ?_
  refine x_iadd d_M_wide_28 ?_
  refine x_iret d_M_wide_29 ?_
  refine ⟨?_, rfl⟩
  rw [e27, e9, r9, r1, e3, r3, show (125 : Int32) = nI 125 from rfl, show (25 : Int32) = nI 25 from rfl, show (5 : Int32) = nI 5 from rfl, pk_mul, pk_mul, pk_mul, nI_add, nI_add, nI_add]
  rfl
/-- a stretch gets new values -/
def stF (a : Nat → Int32) (d : Nat) (F : Po) (k : Nat) : Nat → Int32 := fun j => if 81 * d ≤ j ∧ j < 81 * d + k then F (j - 81 * d) else a j
theorem stF_s (a : Nat → Int32) (d : Nat) (F : Po) (k : Nat) : upd (stF a d F k) (81 * d + k) (F k) = stF a d F (k + 1) := by
  funext j
  by_cases e : j = 81 * d + k
  · subst e
    simp only [upd, stF, if_true]
    rw [if_pos (by omega), show 81 * d + k - 81 * d = k by omega]
  · simp only [upd, stF, if_neg e]
    by_cases e2 : 81 * d ≤ j ∧ j < 81 * d + k
    · rw [if_pos e2, if_pos (by omega)]
    · rw [if_neg e2, if_neg (by omega)]
theorem stF_0 (a : Nat → Int32) (d : Nat) (F : Po) : stF a d F 0 = a := by
  funext j
  simp only [stF]
  rw [if_neg (by omega)]
theorem stF_in (a : Nat → Int32) (d : Nat) (F : Po) {k : Nat} (hk : k < 81) : sg (stF a d F 81) d k = F k := by
  simp only [stF]
  rw [if_pos (by omega), show 81 * d + k - 81 * d = k by omega]
theorem stF_out (a : Nat → Int32) (d : Nat) (F : Po) {d' k : Nat} (hd : d' ≠ d) (hk : k < 81) : sg (stF a d F 81) d' k = sg a d' k := by
  simp only [stF]
  rw [if_neg (by omega)]
theorem i81 {d k : Nat} : (81 : Int32) * nI d + nI k = nI (81 * d + k) := by rw [show (81 : Int32) = nI 81 from rfl, pk_mul, nI_add]
set_option maxRecDepth 100000 in
set_option maxHeartbeats 4000000 in
theorem c_M_begin {N : Nat} {h : xHp} {ch ln ca cd gp lg : Int32} {sm bg sn mn : Nat → Int32} {d : Nat} (hN : 116 ≤ N) (hd : d < 9) (h1 : h 94 = oM ch ln ca cd gp lg) (h2 : h 109 = aI 729 sm) (h3 : h 111 = aB 9 bg) (h4 : h 112 = aI 9 sn) (h5 : h 113 = aI 9 mn) : XM y_M_begin b_M_begin 3 none 0 0 0 [.ref 94, .int (nI d)] N h (xR none (va_up (va_up (va_up (va_up h 109 (aI 729 (stF sm d pZ 81))) 111 (aB 9 (upd bg d 0))) 112 (aI 9 (upd sn d 1))) 113 (aI 9 (upd mn d 0)))) := by
  have hid : vp_in (nI d) 9 := vp_in_nI hd (by decide)
  have hcd : (nI d).toNatClampNeg = d := nI_clamp (by omega)
  refine xM_intro [some (.ref 94), some (.int (nI d)), none] (by decide) (fun _ => rfl) (fun _ => Nat.le_of_ble_eq_true rfl) (fun Γ => ?_)
  refine x_iconst (v := 0) d_M_begin_0 (by decide) ?_
  refine x_istore_n d_M_begin_1 (by decide) rfl ?_
  have key : ∀ (m k : Nat), k ≤ 81 → 81 - k < m → XW Γ y_M_begin b_M_begin 3 none (0, 0, 0) (xQ Γ (N + 0) 0 0 (xR none (va_up (va_up (va_up (va_up h 109 (aI 729 (stF sm d pZ 81))) 111 (aB 9 (upd bg d 0))) 112 (aI 9 (upd sn d 1))) 113 (aI 9 (upd mn d 0))))) 0 0 N (va_up h 109 (aI 729 (stF sm d pZ k))) 2 [some (.ref 94), some (.int (nI d)), some (.int (nI k))] [] := by
    intro m
    induction m with
    | zero => intro k _ h0; omega
    | succ m ih =>
      intro k hk hkm
      refine x_iload_n d_M_begin_2 rfl ?_
      refine x_bipush (v := 81) d_M_begin_3 (by decide) ?_
      refine x_icmp_ge 26 d_M_begin_5 (by decide) (fun c1 => ?_) (fun c1 => ?_)
      · have e := nI_end (n := 81) hk (by decide) c1
        subst e
        refine x_aload_n d_M_begin_26 rfl ?_
        refine x_get f_M_59 d_M_begin_27 (by omega) (by first | assumption | exact vu_s | exact vu_t (by omega) (by first | assumption | exact vu_s | exact vu_t (by omega) (by first | assumption | exact vu_s | exact vu_t (by omega) (by first | assumption | exact vu_s))) | rfl | (simp only [va_up, Nat.reduceEqDiff, ↓reduceIte]; first | rfl | assumption)) rfl ?_
        refine x_iload_n d_M_begin_30 rfl ?_
        refine x_iconst (v := 0) d_M_begin_31 (by decide) ?_
        refine x_zast d_M_begin_32 (by omega) (by first | assumption | exact vu_s | exact vu_t (by omega) (by first | assumption | exact vu_s | exact vu_t (by omega) (by first | assumption | exact vu_s | exact vu_t (by omega) (by first | assumption | exact vu_s))) | rfl | (simp only [va_up, Nat.reduceEqDiff, ↓reduceIte]; first | rfl | assumption)) (by assumption) rfl ?_
        refine x_aload_n d_M_begin_33 rfl ?_
        refine x_get f_M_62 d_M_begin_34 (by omega) (by first | assumption | exact vu_s | exact vu_t (by omega) (by first | assumption | exact vu_s | exact vu_t (by omega) (by first | assumption | exact vu_s | exact vu_t (by omega) (by first | assumption | exact vu_s))) | rfl | (simp only [va_up, Nat.reduceEqDiff, ↓reduceIte]; first | rfl | assumption)) rfl ?_
        refine x_iload_n d_M_begin_37 rfl ?_
        refine x_iconst (v := 1) d_M_begin_38 (by decide) ?_
        refine x_iast d_M_begin_39 (by omega) (by first | assumption | exact vu_s | exact vu_t (by omega) (by first | assumption | exact vu_s | exact vu_t (by omega) (by first | assumption | exact vu_s | exact vu_t (by omega) (by first | assumption | exact vu_s))) | rfl | (simp only [va_up, Nat.reduceEqDiff, ↓reduceIte]; first | rfl | assumption)) (by assumption) ?_
        refine x_aload_n d_M_begin_40 rfl ?_
        refine x_get f_M_65 d_M_begin_41 (by omega) (by first | assumption | exact vu_s | exact vu_t (by omega) (by first | assumption | exact vu_s | exact vu_t (by omega) (by first | assumption | exact vu_s | exact vu_t (by omega) (by first | assumption | exact vu_s))) | rfl | (simp only [va_up, Nat.reduceEqDiff, ↓reduceIte]; first | rfl | assumption)) rfl ?_
        refine x_iload_n d_M_begin_44 rfl ?_
        refine x_iconst (v := 0) d_M_begin_45 (by decide) ?_
        refine x_iast d_M_begin_46 (by omega) (by first | assumption | exact vu_s | exact vu_t (by omega) (by first | assumption | exact vu_s | exact vu_t (by omega) (by first | assumption | exact vu_s | exact vu_t (by omega) (by first | assumption | exact vu_s))) | rfl | (simp only [va_up, Nat.reduceEqDiff, ↓reduceIte]; first | rfl | assumption)) (by assumption) ?_
        refine x_vret d_M_begin_47 ?_
        rw [hcd]
        exact ⟨rfl, rfl⟩
      · have hlt := nI_more (n := 81) hk (by decide) c1
        have hi : vp_in ((81 : Int32) * nI d + nI k) 729 := by rw [i81]; exact vp_in_nI (by omega) (by decide)
        refine x_aload_n d_M_begin_8 rfl ?_
        refine x_get f_M_53 d_M_begin_9 (by omega) (by first | assumption | exact vu_s | exact vu_t (by omega) (by first | assumption | exact vu_s | exact vu_t (by omega) (by first | assumption | exact vu_s | exact vu_t (by omega) (by first | assumption | exact vu_s))) | rfl | (simp only [va_up, Nat.reduceEqDiff, ↓reduceIte]; first | rfl | assumption)) rfl ?_
        refine x_bipush (v := 81) d_M_begin_12 (by decide) ?_
        refine x_iload_n d_M_begin_14 rfl ?_
        refine x_imul d_M_begin_15 ?_
        refine x_iload_n d_M_begin_16 rfl ?_
        refine x_iadd d_M_begin_17 ?_
        refine x_iconst (v := 0) d_M_begin_18 (by decide) ?_
        refine x_iast d_M_begin_19 (by omega) (by first | assumption | exact vu_s | exact vu_t (by omega) (by first | assumption | exact vu_s | exact vu_t (by omega) (by first | assumption | exact vu_s | exact vu_t (by omega) (by first | assumption | exact vu_s))) | rfl | (simp only [va_up, Nat.reduceEqDiff, ↓reduceIte]; first | rfl | assumption)) (by assumption) ?_
        refine x_iinc1 d_M_begin_20 rfl (by decide) rfl ?_
        refine x_goto 2 d_M_begin_23 (by decide) ?_
        rw [nI_1, i81, nI_clamp (show 81 * d + k < 2 ^ 31 by omega), bx_uu]
        refine XW_h ?_ (ih (k + 1) (by omega) (by omega))
        show va_up h 109 (aI 729 (upd (stF sm d pZ k) (81 * d + k) (pZ k))) = _
        rw [stF_s]
  have := key 82 0 (by omega) (by omega)
  rw [stF_0, ← h2, vu_e] at this
  exact this
