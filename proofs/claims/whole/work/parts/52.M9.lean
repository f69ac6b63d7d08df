/-! The reference: the reader's state, endFactor. -/
/-- the factor with its sign -/
def efF (fa : Nat → Int32) (mn : Int32) (k : Nat) : Nat → Int32 := fun j => if j < k ∧ mn - mn / 2 * 2 = 1 then - fa j else fa j
theorem efF_s1 (fa : Nat → Int32) {mn : Int32} (hm : mn - mn / 2 * 2 = 1) (k : Nat) : upd (efF fa mn k) k (- efF fa mn k k) = efF fa mn (k + 1) := by
  funext j
  by_cases e : j = k
  · subst e
    simp only [upd, if_true, efF]
    rw [if_neg (by omega), if_pos ⟨by omega, hm⟩]
  · simp only [upd, if_neg e, efF]
    by_cases e2 : j < k
    · rw [if_pos ⟨e2, hm⟩, if_pos ⟨by omega, hm⟩]
    · rw [if_neg (by omega), if_neg (by omega)]
theorem efF_s0 (fa : Nat → Int32) {mn : Int32} (hm : ¬ mn - mn / 2 * 2 = 1) (k : Nat) : efF fa mn k = fa := by
  funext j
  simp only [efF]
  rw [if_neg (fun z => hm z.2)]
theorem efF_0 (fa : Nat → Int32) (mn : Int32) : efF fa mn 0 = fa := by
  funext j
  simp only [efF]
  rw [if_neg (by omega)]
/-- what the reader holds: sums, terms, begun, signs, minuses, the factor, large -/
abbrev RS : Type := (Nat → Int32) × (Nat → Int32) × (Nat → Int32) × (Nat → Int32) × (Nat → Int32) × (Nat → Int32) × Bool
def RI (ch ln ca cd gp : Int32) (S : RS) (h : xHp) : Prop := h 94 = oM ch ln ca cd gp (bi S.2.2.2.2.2.2) ∧ h 109 = aI 729 S.1 ∧ h 110 = aI 729 S.2.1 ∧ h 111 = aB 9 S.2.2.1 ∧ h 112 = aI 9 S.2.2.2.1 ∧ h 113 = aI 9 S.2.2.2.2.1 ∧ h 114 = aI 81 S.2.2.2.2.2.1 ∧ ∃ pr, h 115 = aI 625 pr
/-- all else stays -/
def frR (h h' : xHp) : Prop := ∀ i, i ≠ 94 → (i < 109 ∨ 115 < i) → h' i = h i
theorem frR_r (h : xHp) : frR h h := fun _ _ _ => rfl
theorem frR_t {a b c : xHp} (x : frR a b) (y : frR b c) : frR a c := fun i p q => (y i p q).trans (x i p q)
theorem frR_u {a b : xHp} (x : frR a b) {k : Nat} {v : xE} (hk : k = 94 ∨ (109 ≤ k ∧ k ≤ 115)) : frR a (va_up b k v) := fun i p q => (vu_n (by omega)).trans (x i p q)
def outB (W : Nat → Int32) : Bool := (List.range 625).any (fun i => (List.range 81).all (fun k => decide (wd k ≠ i)) && decide (¬ W i = 0))
theorem outB_i (W : Nat → Int32) : outB W = true ↔ outW W := by
  simp [outB, outW]
def mulS : RS → Nat → RS
  | (sm, tm, bg, sn, mn, fa, lg), d => (sm, stF tm d (fun k => pwd (sg tm d) fa 6561 (wd k)) 81, bg, sn, mn, fa, lg || outB (pwd (sg tm d) fa 6561))
/-- the term gets the factor -/
def taS : RS → Nat → RS
  | (sm, tm, bg, sn, mn, fa, lg), d => (sm, stF tm d fa 81, bg, sn, mn, fa, lg)
def lkS : RS → Nat → RS
  | (sm, tm, bg, sn, mn, fa, lg), d => (sm, tm, upd bg d 1, sn, mn, fa, lg || isLg (sg tm d))
def efS : RS → Nat → RS
  | (sm, tm, bg, sn, mn, fa, lg), d =>
    if lg then (sm, tm, bg, sn, upd mn d 0, efF fa (mn d) 81, lg) else
    lkS ((if bg d = 0 then taS else mulS) (sm, tm, bg, sn, upd mn d 0, efF fa (mn d) 81, lg) d) d
def etS : RS → Nat → RS
  | (sm, tm, bg, sn, mn, fa, lg), d => (stF sm d (etF sm tm lg (sn d) d) 81, tm, upd bg d 0, sn, mn, fa, lg || isLg (etF sm tm lg (sn d) d))
def bgS : RS → Nat → RS
  | (sm, tm, bg, sn, mn, fa, lg), d => (stF sm d pZ 81, tm, upd bg d 0, upd sn d 1, upd mn d 0, fa, lg)
def siS : RS → Int32 → RS
  | (sm, tm, bg, sn, mn, fa, lg), c => (sm, tm, bg, sn, mn, simF fa c, lg)
set_option maxRecDepth 100000 in
set_option maxHeartbeats 4000000 in
theorem c_M_endFactor {N : Nat} {h : xHp} {ch ln ca cd gp : Int32} {S : RS} {d : Nat} (hN : 116 ≤ N) (hd : d < 9) (hS : RI ch ln ca cd gp S h) : XM y_M_endFactor b_M_endFactor 3 none 2 0 0 [.ref 94, .int (nI d)] N h (fun r h' => r = none ∧ RI ch ln ca cd gp (efS S d) h' ∧ frR h h') := by
  obtain ⟨sm, tm, bg, sn, mn, fa, lg⟩ := S
  obtain ⟨h1, h2, h3, h4, h5, h6, h7, pr, h8⟩ := hS
  dsimp only at h1 h2 h3 h4 h5 h6 h7
  have hid : vp_in (nI d) 9 := vp_in_nI hd (by decide)
  have hcd : (nI d).toNatClampNeg = d := nI_clamp (by omega)
  have e81 : (81 : Int32) * nI d = nI (81 * d) := by rw [show (81 : Int32) = nI 81 from rfl, pk_mul]
  refine xM_intro [some (.ref 94), some (.int (nI d)), none] (by decide) (fun _ => rfl) (fun _ => Nat.le_of_ble_eq_true rfl) (fun Γ => ?_)
  generalize hQ : (fun (r : Option Value) (h' : xHp) => r = none ∧ RI ch ln ca cd gp (efS (sm, tm, bg, sn, mn, fa, lg) d) h' ∧ frR h h') = Qp
  have l3 : ∀ (T : RS) (h2 : xHp) (x2 : Int32), RI ch ln ca cd gp T h2 → frR h h2 → lkS T d = efS (sm, tm, bg, sn, mn, fa, lg) d → XW Γ y_M_endFactor b_M_endFactor 3 none (2, 0, 0) (xQ Γ (N + 0) 0 0 Qp) 0 0 N h2 102 [some (.ref 94), some (.int (nI d)), some (.int x2)] [] := by
    intro T h2 x2 hT hf hl
    obtain ⟨sm2, tm2, bg2, sn2, mn2, fa2, lg2⟩ := T
    obtain ⟨g1, g2, g3, g4, g5, g6, g7, pr2, g8⟩ := hT
    dsimp only at g1 g2 g3 g4 g5 g6 g7
    refine x_aload_n d_M_endFactor_102 rfl ?_
    refine x_get f_M_59 d_M_endFactor_103 (by omega) (by first | assumption | exact vu_s | exact vu_t (by omega) (by first | assumption | exact vu_s | exact vu_t (by omega) (by first | assumption | exact vu_s | exact vu_t (by omega) (by first | assumption | exact vu_s))) | rfl | (simp only [va_up, Nat.reduceEqDiff, ↓reduceIte]; first | rfl | assumption)) rfl ?_
    refine x_iload_n d_M_endFactor_106 rfl ?_
    refine x_iconst (v := 1) d_M_endFactor_107 (by decide) ?_
    refine x_zast d_M_endFactor_108 (by omega) (by first | assumption | exact vu_s | exact vu_t (by omega) (by first | assumption | exact vu_s | exact vu_t (by omega) (by first | assumption | exact vu_s | exact vu_t (by omega) (by first | assumption | exact vu_s))) | rfl | (simp only [va_up, Nat.reduceEqDiff, ↓reduceIte]; first | rfl | assumption)) (by assumption) rfl ?_
    refine x_aload_n d_M_endFactor_109 rfl ?_
    refine x_iconst (v := 0) d_M_endFactor_110 (by decide) ?_
    refine x_bipush (v := 81) d_M_endFactor_111 (by decide) ?_
    refine x_iload_n d_M_endFactor_113 rfl ?_
    refine x_imul d_M_endFactor_114 ?_
    rw [hcd, e81]
    refine x_cVv (c_M_look (ofS := false) hN hd (vu_t (by decide) g1) (vu_t (by decide) g2) (vu_t (by decide) g3)) k_M_96 v_M_look d_M_endFactor_115 rfl (by omega) (by first | assumption | exact vu_s | exact vu_t (by omega) (by first | assumption | exact vu_s | exact vu_t (by omega) (by first | assumption | exact vu_s | exact vu_t (by omega) (by first | assumption | exact vu_s))) | rfl | (simp only [va_up, Nat.reduceEqDiff, ↓reduceIte]; first | rfl | assumption)) rfl (by omega) (Nat.le_of_ble_eq_true rfl) ?_
    refine x_vret d_M_endFactor_118 ?_
    rw [← hQ]
    refine ⟨rfl, ?_, frR_u (frR_u hf (by omega)) (by omega)⟩
    rw [← hl]
    exact ⟨vu_s, vu_t (by decide) (vu_t (by decide) g2), vu_t (by decide) (vu_t (by decide) g3), vu_t (by decide) vu_s, vu_t (by decide) (vu_t (by decide) g5), vu_t (by decide) (vu_t (by decide) g6), vu_t (by decide) (vu_t (by decide) g7), pr2, vu_t (by decide) (vu_t (by decide) g8)⟩
  generalize hE : efF fa (mn d) 81 = F
  have l2 : ∀ (m k : Nat), lg = false → bg d = 0 → k ≤ 81 → 81 - k < m → XW Γ y_M_endFactor b_M_endFactor 3 none (2, 0, 0) (xQ Γ (N + 0) 0 0 Qp) 0 0 N (va_up (va_up (va_up h 114 (aI 81 F)) 113 (aI 9 (upd mn d 0))) 110 (aI 729 (stF tm d F k))) 73 [some (.ref 94), some (.int (nI d)), some (.int (nI k))] [] := by
    intro m
    induction m with
    | zero => intro k _ _ _ h0; omega
    | succ m ih =>
      intro k hlg hbg hk hkm
      have p1 : (va_up (va_up (va_up h 114 (aI 81 F)) 113 (aI 9 (upd mn d 0))) 110 (aI 729 (stF tm d F k))) 94 = oM ch ln ca cd gp (bi lg) := vu_t (by decide) (vu_t (by decide) (vu_t (by decide) h1))
      refine x_iload_n d_M_endFactor_73 rfl ?_
      refine x_bipush (v := 81) d_M_endFactor_74 (by decide) ?_
      refine x_icmp_ge 102 d_M_endFactor_76 (by decide) (fun c1 => ?_) (fun c1 => ?_)
      · have e := nI_end (n := 81) hk (by decide) c1
        subst e
        refine l3 (sm, stF tm d F 81, bg, sn, upd mn d 0, F, lg) _ _ ⟨p1, vu_t (by decide) (vu_t (by decide) (vu_t (by decide) h2)), vu_s, vu_t (by decide) (vu_t (by decide) (vu_t (by decide) h4)), vu_t (by decide) (vu_t (by decide) (vu_t (by decide) h5)), vu_t (by decide) vu_s, vu_t (by decide) (vu_t (by decide) vu_s), pr, vu_t (by decide) (vu_t (by decide) (vu_t (by decide) h8))⟩ (frR_u (frR_u (frR_u (frR_r h) (by omega)) (by omega)) (by omega)) ?_
        simp only [efS, hlg, hbg, hE, Bool.false_eq_true, if_false, if_true]
        rfl
      · have hlt := nI_more (n := 81) hk (by decide) c1
        have hi : vp_in ((81 : Int32) * nI d + nI k) 729 := by rw [i81]; exact vp_in_nI (by omega) (by decide)
        have hci : ((81 : Int32) * nI d + nI k).toNatClampNeg = 81 * d + k := by rw [i81]; exact nI_clamp (by omega)
        have hif : vp_in (nI k) 81 := vp_in_nI hlt (by decide)
        have hcf : (nI k).toNatClampNeg = k := nI_clamp (by omega)
        refine x_aload_n d_M_endFactor_79 rfl ?_
        refine x_get f_M_56 d_M_endFactor_80 (by omega) (by first | assumption | exact vu_s | exact vu_t (by omega) (by first | assumption | exact vu_s | exact vu_t (by omega) (by first | assumption | exact vu_s | exact vu_t (by omega) (by first | assumption | exact vu_s))) | rfl | (simp only [va_up, Nat.reduceEqDiff, ↓reduceIte]; first | rfl | assumption)) rfl ?_
        refine x_bipush (v := 81) d_M_endFactor_83 (by decide) ?_
        refine x_iload_n d_M_endFactor_85 rfl ?_
        refine x_imul d_M_endFactor_86 ?_
        refine x_iload_n d_M_endFactor_87 rfl ?_
        refine x_iadd d_M_endFactor_88 ?_
        refine x_aload_n d_M_endFactor_89 rfl ?_
        refine x_get f_M_68 d_M_endFactor_90 (by omega) (by first | assumption | exact vu_s | exact vu_t (by omega) (by first | assumption | exact vu_s | exact vu_t (by omega) (by first | assumption | exact vu_s | exact vu_t (by omega) (by first | assumption | exact vu_s))) | rfl | (simp only [va_up, Nat.reduceEqDiff, ↓reduceIte]; first | rfl | assumption)) rfl ?_
        refine x_iload_n d_M_endFactor_93 rfl ?_
        refine x_iald d_M_endFactor_94 (by omega) (by first | assumption | exact vu_s | exact vu_t (by omega) (by first | assumption | exact vu_s | exact vu_t (by omega) (by first | assumption | exact vu_s | exact vu_t (by omega) (by first | assumption | exact vu_s))) | rfl | (simp only [va_up, Nat.reduceEqDiff, ↓reduceIte]; first | rfl | assumption)) (by assumption) ?_
        refine x_iast d_M_endFactor_95 (by omega) (by first | assumption | exact vu_s | exact vu_t (by omega) (by first | assumption | exact vu_s | exact vu_t (by omega) (by first | assumption | exact vu_s | exact vu_t (by omega) (by first | assumption | exact vu_s))) | rfl | (simp only [va_up, Nat.reduceEqDiff, ↓reduceIte]; first | rfl | assumption)) (by assumption) ?_
        refine x_iinc1 d_M_endFactor_96 rfl (by decide) rfl ?_
        refine x_goto 73 d_M_endFactor_99 (by decide) ?_
        rw [nI_1, hci, hcf, stF_s, bx_uu]
        exact ih (k + 1) hlg hbg (by omega) (by omega)
  have l0 : XW Γ y_M_endFactor b_M_endFactor 3 none (2, 0, 0) (xQ Γ (N + 0) 0 0 Qp) 0 0 N (va_up h 114 (aI 81 F)) 39 [some (.ref 94), some (.int (nI d)), some (.int (nI 81))] [] := by
    refine x_aload_n d_M_endFactor_39 rfl ?_
    refine x_get f_M_65 d_M_endFactor_40 (by omega) (by first | assumption | exact vu_s | exact vu_t (by omega) (by first | assumption | exact vu_s | exact vu_t (by omega) (by first | assumption | exact vu_s | exact vu_t (by omega) (by first | assumption | exact vu_s))) | rfl | (simp only [va_up, Nat.reduceEqDiff, ↓reduceIte]; first | rfl | assumption)) rfl ?_
    refine x_iload_n d_M_endFactor_43 rfl ?_
    refine x_iconst (v := 0) d_M_endFactor_44 (by decide) ?_
    refine x_iast d_M_endFactor_45 (by omega) (by first | assumption | exact vu_s | exact vu_t (by omega) (by first | assumption | exact vu_s | exact vu_t (by omega) (by first | assumption | exact vu_s | exact vu_t (by omega) (by first | assumption | exact vu_s))) | rfl | (simp only [va_up, Nat.reduceEqDiff, ↓reduceIte]; first | rfl | assumption)) (by assumption) ?_
    refine x_aload_n d_M_endFactor_46 rfl ?_
    refine x_get f_M_85 d_M_endFactor_47 (by omega) (by first | assumption | exact vu_s | exact vu_t (by omega) (by first | assumption | exact vu_s | exact vu_t (by omega) (by first | assumption | exact vu_s | exact vu_t (by omega) (by first | assumption | exact vu_s))) | rfl | (simp only [va_up, Nat.reduceEqDiff, ↓reduceIte]; first | rfl | assumption)) rfl ?_
    rw [hcd]
    refine x_if_eq 54 d_M_endFactor_50 (by decide) (fun c1 => ?_) (fun c1 => ?_)
    · rw [bi0] at c1
      refine x_aload_n d_M_endFactor_54 rfl ?_
      refine x_get f_M_59 d_M_endFactor_55 (by omega) (by first | assumption | exact vu_s | exact vu_t (by omega) (by first | assumption | exact vu_s | exact vu_t (by omega) (by first | assumption | exact vu_s | exact vu_t (by omega) (by first | assumption | exact vu_s))) | rfl | (simp only [va_up, Nat.reduceEqDiff, ↓reduceIte]; first | rfl | assumption)) rfl ?_
      refine x_iload_n d_M_endFactor_58 rfl ?_
      refine x_zald d_M_endFactor_59 (by omega) (by first | assumption | exact vu_s | exact vu_t (by omega) (by first | assumption | exact vu_s | exact vu_t (by omega) (by first | assumption | exact vu_s | exact vu_t (by omega) (by first | assumption | exact vu_s))) | rfl | (simp only [va_up, Nat.reduceEqDiff, ↓reduceIte]; first | rfl | assumption)) (by assumption) ?_
      rw [hcd]
      refine x_if_eq 71 d_M_endFactor_60 (by decide) (fun c2 => ?_) (fun c2 => ?_)
      · refine x_iconst (v := 0) d_M_endFactor_71 (by decide) ?_
        refine x_istore_n d_M_endFactor_72 (by decide) rfl ?_
        have := l2 82 0 c1 c2 (by omega) (by omega)
        rw [stF_0] at this
        refine XW_h ?_ this
        rw [show aI 729 tm = (va_up (va_up h 114 (aI 81 F)) 113 (aI 9 (upd mn d 0))) 110 from (vu_t (by decide) (vu_t (by decide) h3)).symm, vu_e]
      · refine x_aload_n d_M_endFactor_63 rfl ?_
        refine x_iload_n d_M_endFactor_64 rfl ?_
        refine x_cV (c_M_multiply hN hd (vu_t (by decide) (vu_t (by decide) h1)) (vu_t (by decide) (vu_t (by decide) h3)) (vu_t (by decide) vu_s) (vu_t (by decide) (vu_t (by decide) h8))) k_M_92 v_M_multiply d_M_endFactor_65 rfl (by omega) (by first | assumption | exact vu_s | exact vu_t (by omega) (by first | assumption | exact vu_s | exact vu_t (by omega) (by first | assumption | exact vu_s | exact vu_t (by omega) (by first | assumption | exact vu_s))) | rfl | (simp only [va_up, Nat.reduceEqDiff, ↓reduceIte]; first | rfl | assumption)) rfl (by omega) (Nat.le_of_ble_eq_true rfl) ?_
        rintro r h' ⟨rfl, pr', lg', e1, rfl⟩
        refine x_goto 102 d_M_endFactor_68 (by decide) ?_
        have e2 : lg' = (lg || outB (pwd (sg tm d) F 6561)) := by
          rw [Bool.eq_iff_iff, e1, Bool.or_eq_true, outB_i]
        refine l3 (mulS (sm, tm, bg, sn, upd mn d 0, F, lg) d) _ _ ⟨?_, vu_t (by decide) (vu_t (by decide) (vu_t (by decide) (vu_t (by decide) (vu_t (by decide) h2)))), vu_t (by decide) vu_s, vu_t (by decide) (vu_t (by decide) (vu_t (by decide) (vu_t (by decide) (vu_t (by decide) h4)))), vu_t (by decide) (vu_t (by decide) (vu_t (by decide) (vu_t (by decide) (vu_t (by decide) h5)))), vu_t (by decide) (vu_t (by decide) (vu_t (by decide) vu_s)), vu_t (by decide) (vu_t (by decide) (vu_t (by decide) (vu_t (by decide) vu_s))), pr', vu_t (by decide) (vu_t (by decide) vu_s)⟩ (frR_u (frR_u (frR_u (frR_u (frR_u (frR_r h) (by omega)) (by omega)) (by omega)) (by omega)) (by omega)) ?_
        · rw [e2]
          exact vu_s
        · simp only [efS, c1, if_neg c2, hE, Bool.false_eq_true, if_false]
    · rw [bi1] at c1
      refine x_vret d_M_endFactor_53 ?_
      rw [← hQ]
      refine ⟨rfl, ?_, frR_u (frR_u (frR_r h) (by omega)) (by omega)⟩
      simp only [efS, c1, if_true, hE]
      rw [c1] at h1
      exact ⟨vu_t (by decide) (vu_t (by decide) h1), vu_t (by decide) (vu_t (by decide) h2), vu_t (by decide) (vu_t (by decide) h3), vu_t (by decide) (vu_t (by decide) h4), vu_t (by decide) (vu_t (by decide) h5), vu_s, vu_t (by decide) vu_s, pr, vu_t (by decide) (vu_t (by decide) h8)⟩
  have l1 : ∀ (m k : Nat), k ≤ 81 → 81 - k < m → XW Γ y_M_endFactor b_M_endFactor 3 none (2, 0, 0) (xQ Γ (N + 0) 0 0 Qp) 0 0 N (va_up h 114 (aI 81 (efF fa (mn d) k))) 2 [some (.ref 94), some (.int (nI d)), some (.int (nI k))] [] := by
    intro m
    induction m with
    | zero => intro k _ h0; omega
    | succ m ih =>
      intro k hk hkm
      refine x_iload_n d_M_endFactor_2 rfl ?_
      refine x_bipush (v := 81) d_M_endFactor_3 (by decide) ?_
      refine x_icmp_ge 39 d_M_endFactor_5 (by decide) (fun c1 => ?_) (fun c1 => ?_)
      · have e := nI_end (n := 81) hk (by decide) c1
        subst e
        rw [hE]
        exact l0
      · have hlt := nI_more (n := 81) hk (by decide) c1
        have hif : vp_in (nI k) 81 := vp_in_nI hlt (by decide)
        have hcf : (nI k).toNatClampNeg = k := nI_clamp (by omega)
        refine x_aload_n d_M_endFactor_8 rfl ?_
        refine x_get f_M_65 d_M_endFactor_9 (by omega) (by first | assumption | exact vu_s | exact vu_t (by omega) (by first | assumption | exact vu_s | exact vu_t (by omega) (by first | assumption | exact vu_s | exact vu_t (by omega) (by first | assumption | exact vu_s))) | rfl | (simp only [va_up, Nat.reduceEqDiff, ↓reduceIte]; first | rfl | assumption)) rfl ?_
        refine x_iload_n d_M_endFactor_12 rfl ?_
        refine x_iald d_M_endFactor_13 (by omega) (by first | assumption | exact vu_s | exact vu_t (by omega) (by first | assumption | exact vu_s | exact vu_t (by omega) (by first | assumption | exact vu_s | exact vu_t (by omega) (by first | assumption | exact vu_s))) | rfl | (simp only [va_up, Nat.reduceEqDiff, ↓reduceIte]; first | rfl | assumption)) (by assumption) ?_
        refine x_iconst (v := 2) d_M_endFactor_14 (by decide) ?_
        refine x_irem d_M_endFactor_15 (by decide) ?_
        refine x_iconst (v := 1) d_M_endFactor_16 (by decide) ?_
        rw [hcd]
        refine x_icmp_ne 33 d_M_endFactor_17 (by decide) (fun c2 => ?_) (fun c2 => ?_)
        · refine x_iinc1 d_M_endFactor_33 rfl (by decide) rfl ?_
          refine x_goto 2 d_M_endFactor_36 (by decide) ?_
          rw [nI_1]
          have := ih (k + 1) (by omega) (by omega)
          rw [efF_s0 fa c2] at this
          rw [efF_s0 fa c2]
          exact this
        · refine x_aload_n d_M_endFactor_20 rfl ?_
          refine x_get f_M_68 d_M_endFactor_21 (by omega) (by first | assumption | exact vu_s | exact vu_t (by omega) (by first | assumption | exact vu_s | exact vu_t (by omega) (by first | assumption | exact vu_s | exact vu_t (by omega) (by first | assumption | exact vu_s))) | rfl | (simp only [va_up, Nat.reduceEqDiff, ↓reduceIte]; first | rfl | assumption)) rfl ?_
          refine x_iload_n d_M_endFactor_24 rfl ?_
          refine x_aload_n d_M_endFactor_25 rfl ?_
          refine x_get f_M_68 d_M_endFactor_26 (by omega) (by first | assumption | exact vu_s | exact vu_t (by omega) (by first | assumption | exact vu_s | exact vu_t (by omega) (by first | assumption | exact vu_s | exact vu_t (by omega) (by first | assumption | exact vu_s))) | rfl | (simp only [va_up, Nat.reduceEqDiff, ↓reduceIte]; first | rfl | assumption)) rfl ?_
          refine x_iload_n d_M_endFactor_29 rfl ?_
          refine x_iald d_M_endFactor_30 (by omega) (by first | assumption | exact vu_s | exact vu_t (by omega) (by first | assumption | exact vu_s | exact vu_t (by omega) (by first | assumption | exact vu_s | exact vu_t (by omega) (by first | assumption | exact vu_s))) | rfl | (simp only [va_up, Nat.reduceEqDiff, ↓reduceIte]; first | rfl | assumption)) (by assumption) ?_
          refine x_ineg d_M_endFactor_31 ?_
          refine x_iast d_M_endFactor_32 (by omega) (by first | assumption | exact vu_s | exact vu_t (by omega) (by first | assumption | exact vu_s | exact vu_t (by omega) (by first | assumption | exact vu_s | exact vu_t (by omega) (by first | assumption | exact vu_s))) | rfl | (simp only [va_up, Nat.reduceEqDiff, ↓reduceIte]; first | rfl | assumption)) (by assumption) ?_
          refine x_iinc1 d_M_endFactor_33 rfl (by decide) rfl ?_
          refine x_goto 2 d_M_endFactor_36 (by decide) ?_
          rw [nI_1, hcf, efF_s1 fa c2, bx_uu]
          exact ih (k + 1) (by omega) (by omega)
  refine x_iconst (v := 0) d_M_endFactor_0 (by decide) ?_
  refine x_istore_n d_M_endFactor_1 (by decide) rfl ?_
  have := l1 82 0 (by omega) (by omega)
  rw [efF_0, ← h7, vu_e] at this
  exact this
