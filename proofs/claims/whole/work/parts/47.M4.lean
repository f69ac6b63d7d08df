/-! The reference: weight, value, collect, answer, total. -/
def spM (c a b cc d : Nat) : Bool := (decide (c % 2 = 0) && decide (0 < a)) || (decide (c = 4) && decide (0 < b)) || (decide (c = 1) && decide (0 < cc)) || (decide (c < 4) && decide (0 < d))
def cntL (f : Nat → Int32) (r x y : Nat) : Int64 := (f ((r * 6 + x) * 6 + y)).toInt64
def wgt (f : Nat → Int32) (c a b cc d : Nat) : Int64 :=
  let w1 : Int64 := if c % 2 = 1 then 1 * cntL f 0 a b else 1
  let w2 : Int64 := if c / 2 % 2 = 1 then w1 * cntL f 1 b cc else w1
  if c / 4 % 2 = 1 then w2 * cntL f 2 cc d else w2
def wM (f : Nat → Int32) (c j : Nat) : Int64 := if spM c (ofN j 0) (ofN j 1) (ofN j 2) (ofN j 3) then 0 else wgt f c (ofN j 0) (ofN j 1) (ofN j 2) (ofN j 3)
theorem bit1 : ∀ c, c < 8 → (nI c &&& 1 = 0 ↔ ¬ c % 2 = 1) := by decide
theorem bit2 : ∀ c, c < 8 → (nI c &&& 2 = 0 ↔ ¬ c / 2 % 2 = 1) := by decide
theorem bit4 : ∀ c, c < 8 → (nI c &&& 4 = 0 ↔ ¬ c / 4 % 2 = 1) := by decide
theorem rem2 : ∀ c, c < 8 → (nI c - nI c / 2 * 2 = 0 ↔ c % 2 = 0) := by decide
theorem nI_p {n : Nat} (h : n < 2 ^ 31) : (0 < nI n) ↔ 0 < n := by
  rw [← nI_0]
  exact nI_ltI (by decide) h
theorem rowOK_nat {a b c : Nat} (ha : a < 3) (hb : b < 6) (hc : c < 6) : rowOK (nI a) (nI b) (nI c) = true := by
  simp only [rowOK, isVal, Bool.and_eq_true, decide_eq_true_eq]
  exact ⟨⟨nI_pos' (by omega), nI_lt (b := 3) ha (by decide)⟩, ⟨nI_pos' (by omega), nI_lt (b := 6) hb (by decide)⟩, nI_pos' (by omega), nI_lt (b := 6) hc (by decide)⟩
theorem ofN_lt {j : Nat} (h : j < 1296) (k : Nat) : ofN j k < 6 := by
  unfold ofN
  split
  · omega
  · split
    · omega
    · split <;> omega
set_option maxRecDepth 100000 in
set_option maxHeartbeats 4000000 in
theorem c_M_weight {N : Nat} {h : xHp} {ch ln ca cd gp lg : Int32} {f pl bs tf coA : Nat → Int32} {q j c : Nat} (hN : 116 ≤ N) (hq : q < 4) (hj : j < 1296) (hc : c < 8) (h1 : h 94 = oM ch ln ca cd gp lg) (h2 : iM4 f pl bs tf h) (h3 : h 104 = aI 4 coA) (e1 : coA q = nI c) : XM y_M_weight b_M_weight 11 (some .long) 2 0 0 [.ref 94, .int (nI q), .int (nI j)] N h (xR (some (.long (wM f c j))) h) := by
  obtain ⟨k1, k2, k3, k4⟩ := h2
  have hiq : vp_in (nI q) 4 := vp_in_nI hq (by decide)
  have hcq : (nI q).toNatClampNeg = q := nI_clamp (by omega)
  have la := ofN_lt hj 0
  have lb := ofN_lt hj 1
  have lc := ofN_lt hj 2
  have ld := ofN_lt hj 3
  refine xM_intro [some (.ref 94), some (.int (nI q)), some (.int (nI j)), none, none, none, none, none, none, none, none] (by decide) (fun _ => rfl) (fun _ => Nat.le_of_ble_eq_true rfl) (fun Γ => ?_)
  refine x_iload_n d_M_weight_0 rfl ?_
  refine x_iconst (v := 0) d_M_weight_1 (by decide) ?_
  refine x_cSe (c_M_of (k := 0) hj (by decide)) k_M_156 s_M_of d_M_weight_2 rfl (by omega) (Nat.le_of_ble_eq_true rfl) ?_
  refine x_istore_n d_M_weight_5 (by decide) rfl ?_
  refine x_iload_n d_M_weight_6 rfl ?_
  refine x_iconst (v := 1) d_M_weight_7 (by decide) ?_
  refine x_cSe (c_M_of (k := 1) hj (by decide)) k_M_156 s_M_of d_M_weight_8 rfl (by omega) (Nat.le_of_ble_eq_true rfl) ?_
  refine x_istore d_M_weight_11 (by decide) rfl ?_
  refine x_iload_n d_M_weight_13 rfl ?_
  refine x_iconst (v := 2) d_M_weight_14 (by decide) ?_
  refine x_cSe (c_M_of (k := 2) hj (by decide)) k_M_156 s_M_of d_M_weight_15 rfl (by omega) (Nat.le_of_ble_eq_true rfl) ?_
  refine x_istore d_M_weight_18 (by decide) rfl ?_
  refine x_iload_n d_M_weight_20 rfl ?_
  refine x_iconst (v := 3) d_M_weight_21 (by decide) ?_
  refine x_cSe (c_M_of (k := 3) hj (by decide)) k_M_156 s_M_of d_M_weight_22 rfl (by omega) (Nat.le_of_ble_eq_true rfl) ?_
  refine x_istore d_M_weight_25 (by decide) rfl ?_
  refine x_aload_n d_M_weight_27 rfl ?_
  refine x_get f_M_38 d_M_weight_28 (by omega) (by first | assumption | exact vu_s | exact vu_t (by omega) (by first | assumption | exact vu_s | exact vu_t (by omega) (by first | assumption | exact vu_s | exact vu_t (by omega) (by first | assumption | exact vu_s))) | rfl | (simp only [va_up, Nat.reduceEqDiff, ↓reduceIte]; first | rfl | assumption)) rfl ?_
  refine x_iload_n d_M_weight_31 rfl ?_
  refine x_iald d_M_weight_32 (by omega) (by first | assumption | exact vu_s | exact vu_t (by omega) (by first | assumption | exact vu_s | exact vu_t (by omega) (by first | assumption | exact vu_s | exact vu_t (by omega) (by first | assumption | exact vu_s))) | rfl | (simp only [va_up, Nat.reduceEqDiff, ↓reduceIte]; first | rfl | assumption)) (by assumption) ?_
  rw [hcq, e1]
  unfold wM
  generalize ofN j 0 = a at la ⊢
  generalize ofN j 1 = b at lb ⊢
  generalize ofN j 2 = cc at lc ⊢
  generalize ofN j 3 = d at ld ⊢
  refine x_istore d_M_weight_33 (by decide) rfl ?_
  have yes : spM c a b cc d = true → XW Γ y_M_weight b_M_weight 11 (some .long) (2, 0, 0) (xQ Γ (N + 0) 0 0 (xR (some (.long (if spM c a b cc d then 0 else wgt f c a b cc d))) h)) 0 0 N h 79 [some (.ref 94), some (.int (nI q)), some (.int (nI j)), some (.int (nI a)), some (.int (nI b)), some (.int (nI cc)), some (.int (nI d)), some (.int (nI c)), none, none, none] [] := by
    intro e
    refine x_iconst (v := 1) d_M_weight_79 (by decide) ?_
    refine x_goto 84 d_M_weight_80 (by decide) ?_
    refine x_istore d_M_weight_84 (by decide) rfl ?_
    refine x_iload d_M_weight_86 rfl ?_
    refine x_if_eq 93 d_M_weight_88 (by decide) (fun c1 => ?_) (fun c1 => ?_)
    · exact absurd c1 (by decide)
    · refine x_lconst (v := 0) d_M_weight_91 (by decide) ?_
      refine x_lret d_M_weight_92 ?_
      exact ⟨by rw [if_pos e], rfl⟩
  have p3 : ∀ w2 : Int64, (if c / 4 % 2 = 1 then w2 * cntL f 2 cc d else w2) = wgt f c a b cc d → spM c a b cc d = false → XW Γ y_M_weight b_M_weight 11 (some .long) (2, 0, 0) (xQ Γ (N + 0) 0 0 (xR (some (.long (if spM c a b cc d then 0 else wgt f c a b cc d))) h)) 0 0 N h 147 [some (.ref 94), some (.int (nI q)), some (.int (nI j)), some (.int (nI a)), some (.int (nI b)), some (.int (nI cc)), some (.int (nI d)), some (.int (nI c)), some (.int 0), some (.long w2), none] [] := by
    intro w2 hw e
    refine x_iload d_M_weight_147 rfl ?_
    refine x_iconst (v := 4) d_M_weight_149 (by decide) ?_
    refine x_iand d_M_weight_150 ?_
    refine x_if_eq 173 d_M_weight_151 (by decide) (fun c1 => ?_) (fun c1 => ?_)
    · rw [if_neg ((bit4 c hc).mp c1)] at hw
      refine x_lload d_M_weight_173 rfl ?_
      refine x_lret d_M_weight_175 ?_
      exact ⟨by rw [e, hw]; rfl, rfl⟩
    · have c1' : c / 4 % 2 = 1 := by
        rcases Nat.eq_or_lt_of_le (show c / 4 % 2 ≤ 1 by omega) with z | z
        · exact z
        · exact absurd ((bit4 c hc).mpr (by omega)) c1
      rw [if_pos c1'] at hw
      refine x_lload d_M_weight_154 rfl ?_
      refine x_aload_n d_M_weight_156 rfl ?_
      refine x_get f_M_7 d_M_weight_157 (by omega) (by first | assumption | exact vu_s | exact vu_t (by omega) (by first | assumption | exact vu_s | exact vu_t (by omega) (by first | assumption | exact vu_s | exact vu_t (by omega) (by first | assumption | exact vu_s))) | rfl | (simp only [va_up, Nat.reduceEqDiff, ↓reduceIte]; first | rfl | assumption)) rfl ?_
      refine x_iconst (v := 2) d_M_weight_160 (by decide) ?_
      refine x_iload d_M_weight_161 rfl ?_
      refine x_iload d_M_weight_163 rfl ?_
      refine x_cSe (c_M_cell 2 (nI cc) (nI d)) k_M_142 s_M_cell d_M_weight_165 rfl (by omega) (Nat.le_of_ble_eq_true rfl) ?_
      have ee : (if rowOK 2 (nI cc) (nI d) then plOf 2 (nI cc) (nI d) else -1) = nI ((2 * 6 + cc) * 6 + d) := by
        rw [show (2 : Int32) = nI 2 from rfl, rowOK_nat (by decide) lc ld, if_pos rfl, plOf_n]
      rw [ee]
      have hi : vp_in (nI ((2 * 6 + cc) * 6 + d)) 108 := vp_in_nI (by omega) (by decide)
      refine x_iald d_M_weight_168 (by omega) (by first | assumption | exact vu_s | exact vu_t (by omega) (by first | assumption | exact vu_s | exact vu_t (by omega) (by first | assumption | exact vu_s | exact vu_t (by omega) (by first | assumption | exact vu_s))) | rfl | (simp only [va_up, Nat.reduceEqDiff, ↓reduceIte]; first | rfl | assumption)) (by assumption) ?_
      refine x_i2l d_M_weight_169 ?_
      refine x_lmul d_M_weight_170 ?_
      refine x_lstore d_M_weight_171 (by decide) rfl ?_
      refine x_lload d_M_weight_173 rfl ?_
      refine x_lret d_M_weight_175 ?_
      exact ⟨by rw [e, ← hw, nI_clamp (show (2 * 6 + cc) * 6 + d < 2 ^ 31 by omega)]; rfl, rfl⟩
  have p2 : ∀ w1 : Int64, w1 = (if c % 2 = 1 then 1 * cntL f 0 a b else 1) → spM c a b cc d = false → XW Γ y_M_weight b_M_weight 11 (some .long) (2, 0, 0) (xQ Γ (N + 0) 0 0 (xR (some (.long (if spM c a b cc d then 0 else wgt f c a b cc d))) h)) 0 0 N h 121 [some (.ref 94), some (.int (nI q)), some (.int (nI j)), some (.int (nI a)), some (.int (nI b)), some (.int (nI cc)), some (.int (nI d)), some (.int (nI c)), some (.int 0), some (.long w1), none] [] := by
    intro w1 hw e
    refine x_iload d_M_weight_121 rfl ?_
    refine x_iconst (v := 2) d_M_weight_123 (by decide) ?_
    refine x_iand d_M_weight_124 ?_
    refine x_if_eq 147 d_M_weight_125 (by decide) (fun c1 => ?_) (fun c1 => ?_)
    · have c1' := (bit2 c hc).mp c1
      exact p3 w1 (by simp only [wgt, if_neg c1', hw]) e
    · have c1' : c / 2 % 2 = 1 := by
        rcases Nat.eq_or_lt_of_le (show c / 2 % 2 ≤ 1 by omega) with z | z
        · exact z
        · exact absurd ((bit2 c hc).mpr (by omega)) c1
      refine x_lload d_M_weight_128 rfl ?_
      refine x_aload_n d_M_weight_130 rfl ?_
      refine x_get f_M_7 d_M_weight_131 (by omega) (by first | assumption | exact vu_s | exact vu_t (by omega) (by first | assumption | exact vu_s | exact vu_t (by omega) (by first | assumption | exact vu_s | exact vu_t (by omega) (by first | assumption | exact vu_s))) | rfl | (simp only [va_up, Nat.reduceEqDiff, ↓reduceIte]; first | rfl | assumption)) rfl ?_
      refine x_iconst (v := 1) d_M_weight_134 (by decide) ?_
      refine x_iload d_M_weight_135 rfl ?_
      refine x_iload d_M_weight_137 rfl ?_
      refine x_cSe (c_M_cell 1 (nI b) (nI cc)) k_M_142 s_M_cell d_M_weight_139 rfl (by omega) (Nat.le_of_ble_eq_true rfl) ?_
      have ee : (if rowOK 1 (nI b) (nI cc) then plOf 1 (nI b) (nI cc) else -1) = nI ((1 * 6 + b) * 6 + cc) := by
        rw [show (1 : Int32) = nI 1 from rfl, rowOK_nat (by decide) lb lc, if_pos rfl, plOf_n]
      rw [ee]
      have hi : vp_in (nI ((1 * 6 + b) * 6 + cc)) 108 := vp_in_nI (by omega) (by decide)
      refine x_iald d_M_weight_142 (by omega) (by first | assumption | exact vu_s | exact vu_t (by omega) (by first | assumption | exact vu_s | exact vu_t (by omega) (by first | assumption | exact vu_s | exact vu_t (by omega) (by first | assumption | exact vu_s))) | rfl | (simp only [va_up, Nat.reduceEqDiff, ↓reduceIte]; first | rfl | assumption)) (by assumption) ?_
      refine x_i2l d_M_weight_143 ?_
      refine x_lmul d_M_weight_144 ?_
      refine x_lstore d_M_weight_145 (by decide) rfl ?_
      refine p3 _ ?_ e
      rw [nI_clamp (show (1 * 6 + b) * 6 + cc < 2 ^ 31 by omega)]
      simp only [wgt, if_pos c1', hw]
      rfl
  have no : spM c a b cc d = false → XW Γ y_M_weight b_M_weight 11 (some .long) (2, 0, 0) (xQ Γ (N + 0) 0 0 (xR (some (.long (if spM c a b cc d then 0 else wgt f c a b cc d))) h)) 0 0 N h 83 [some (.ref 94), some (.int (nI q)), some (.int (nI j)), some (.int (nI a)), some (.int (nI b)), some (.int (nI cc)), some (.int (nI d)), some (.int (nI c)), none, none, none] [] := by
    intro e
    refine x_iconst (v := 0) d_M_weight_83 (by decide) ?_
    refine x_istore d_M_weight_84 (by decide) rfl ?_
    refine x_iload d_M_weight_86 rfl ?_
    refine x_if_eq 93 d_M_weight_88 (by decide) (fun c1 => ?_) (fun c1 => ?_)
    · refine x_lconst (v := 1) d_M_weight_93 (by decide) ?_
      refine x_lstore d_M_weight_94 (by decide) rfl ?_
      refine x_iload d_M_weight_96 rfl ?_
      refine x_iconst (v := 1) d_M_weight_98 (by decide) ?_
      refine x_iand d_M_weight_99 ?_
      refine x_if_eq 121 d_M_weight_100 (by decide) (fun c2 => ?_) (fun c2 => ?_)
      · exact p2 1 (by rw [if_neg ((bit1 c hc).mp c2)]) e
      · have c2' : c % 2 = 1 := by
          rcases Nat.eq_or_lt_of_le (show c % 2 ≤ 1 by omega) with z | z
          · exact z
          · exact absurd ((bit1 c hc).mpr (by omega)) c2
        refine x_lload d_M_weight_103 rfl ?_
        refine x_aload_n d_M_weight_105 rfl ?_
        refine x_get f_M_7 d_M_weight_106 (by omega) (by first | assumption | exact vu_s | exact vu_t (by omega) (by first | assumption | exact vu_s | exact vu_t (by omega) (by first | assumption | exact vu_s | exact vu_t (by omega) (by first | assumption | exact vu_s))) | rfl | (simp only [va_up, Nat.reduceEqDiff, ↓reduceIte]; first | rfl | assumption)) rfl ?_
        refine x_iconst (v := 0) d_M_weight_109 (by decide) ?_
        refine x_iload_n d_M_weight_110 rfl ?_
        refine x_iload d_M_weight_111 rfl ?_
        refine x_cSe (c_M_cell 0 (nI a) (nI b)) k_M_142 s_M_cell d_M_weight_113 rfl (by omega) (Nat.le_of_ble_eq_true rfl) ?_
        have ee : (if rowOK 0 (nI a) (nI b) then plOf 0 (nI a) (nI b) else -1) = nI ((0 * 6 + a) * 6 + b) := by
          rw [show (0 : Int32) = nI 0 from rfl, rowOK_nat (by decide) la lb, if_pos rfl, plOf_n]
        rw [ee]
        have hi : vp_in (nI ((0 * 6 + a) * 6 + b)) 108 := vp_in_nI (by omega) (by decide)
        refine x_iald d_M_weight_116 (by omega) (by first | assumption | exact vu_s | exact vu_t (by omega) (by first | assumption | exact vu_s | exact vu_t (by omega) (by first | assumption | exact vu_s | exact vu_t (by omega) (by first | assumption | exact vu_s))) | rfl | (simp only [va_up, Nat.reduceEqDiff, ↓reduceIte]; first | rfl | assumption)) (by assumption) ?_
        refine x_i2l d_M_weight_117 ?_
        refine x_lmul d_M_weight_118 ?_
        refine x_lstore d_M_weight_119 (by decide) rfl ?_
        refine p2 _ ?_ e
        rw [nI_clamp (show (0 * 6 + a) * 6 + b < 2 ^ 31 by omega), if_pos c2']
        rfl
    · exact absurd rfl c1
  have s4 : (decide (c % 2 = 0) && decide (0 < a)) = false → (decide (c = 4) && decide (0 < b)) = false → (decide (c = 1) && decide (0 < cc)) = false → XW Γ y_M_weight b_M_weight 11 (some .long) (2, 0, 0) (xQ Γ (N + 0) 0 0 (xR (some (.long (if spM c a b cc d then 0 else wgt f c a b cc d))) h)) 0 0 N h 68 [some (.ref 94), some (.int (nI q)), some (.int (nI j)), some (.int (nI a)), some (.int (nI b)), some (.int (nI cc)), some (.int (nI d)), some (.int (nI c)), none, none, none] [] := by
    intro z1 z2 z3
    refine x_iload d_M_weight_68 rfl ?_
    refine x_iconst (v := 4) d_M_weight_70 (by decide) ?_
    refine x_icmp_ge 83 d_M_weight_71 (by decide) (fun c1 => ?_) (fun c1 => ?_)
    · have c1' : ¬ c < 4 := fun z => absurd c1 (nI_ge (b := 4) z (by decide))
      exact no (by rw [spM, z1, z2, z3]; simp [c1'])
    · have c1' : c < 4 := by
        rcases Nat.lt_or_ge c 4 with z | z
        · exact z
        · exact absurd (nI_le (a := 4) z (by omega)) c1
      refine x_iload d_M_weight_74 rfl ?_
      refine x_if_le 83 d_M_weight_76 (by decide) (fun c2 => ?_) (fun c2 => ?_)
      · have c2' : d = 0 := (nI_pos0 (by omega)).mp c2
        exact no (by rw [spM, z1, z2, z3]; simp [c2'])
      · have c2' : 0 < d := by
          rcases Nat.eq_zero_or_pos d with z | z
          · exact absurd ((nI_pos0 (by omega)).mpr z) c2
          · exact z
        exact yes (by simp [spM, c1', c2'])
  have s3 : (decide (c % 2 = 0) && decide (0 < a)) = false → (decide (c = 4) && decide (0 < b)) = false → XW Γ y_M_weight b_M_weight 11 (some .long) (2, 0, 0) (xQ Γ (N + 0) 0 0 (xR (some (.long (if spM c a b cc d then 0 else wgt f c a b cc d))) h)) 0 0 N h 57 [some (.ref 94), some (.int (nI q)), some (.int (nI j)), some (.int (nI a)), some (.int (nI b)), some (.int (nI cc)), some (.int (nI d)), some (.int (nI c)), none, none, none] [] := by
    intro z1 z2
    refine x_iload d_M_weight_57 rfl ?_
    refine x_iconst (v := 1) d_M_weight_59 (by decide) ?_
    refine x_icmp_ne 68 d_M_weight_60 (by decide) (fun c1 => ?_) (fun c1 => ?_)
    · have c1' : ¬ c = 1 := fun z => c1 (by rw [z]; rfl)
      exact s4 z1 z2 (by simp [c1'])
    · have c1' : c = 1 := (nI_eq (b := 1) (by omega) (by decide)).mp c1
      refine x_iload d_M_weight_63 rfl ?_
      refine x_if_gt 79 d_M_weight_65 (by decide) (fun c2 => ?_) (fun c2 => ?_)
      · exact yes (by simp [spM, c1', (nI_p (show cc < 2 ^ 31 by omega)).mp c2])
      · have c2' : ¬ 0 < cc := fun z => c2 ((nI_p (by omega)).mpr z)
        exact s4 z1 z2 (by simp [c2'])
  have s2 : (decide (c % 2 = 0) && decide (0 < a)) = false → XW Γ y_M_weight b_M_weight 11 (some .long) (2, 0, 0) (xQ Γ (N + 0) 0 0 (xR (some (.long (if spM c a b cc d then 0 else wgt f c a b cc d))) h)) 0 0 N h 46 [some (.ref 94), some (.int (nI q)), some (.int (nI j)), some (.int (nI a)), some (.int (nI b)), some (.int (nI cc)), some (.int (nI d)), some (.int (nI c)), none, none, none] [] := by
    intro z1
    refine x_iload d_M_weight_46 rfl ?_
    refine x_iconst (v := 4) d_M_weight_48 (by decide) ?_
    refine x_icmp_ne 57 d_M_weight_49 (by decide) (fun c1 => ?_) (fun c1 => ?_)
    · have c1' : ¬ c = 4 := fun z => c1 (by rw [z]; rfl)
      exact s3 z1 (by simp [c1'])
    · have c1' : c = 4 := (nI_eq (b := 4) (by omega) (by decide)).mp c1
      refine x_iload d_M_weight_52 rfl ?_
      refine x_if_gt 79 d_M_weight_54 (by decide) (fun c2 => ?_) (fun c2 => ?_)
      · exact yes (by simp [spM, c1', (nI_p (show b < 2 ^ 31 by omega)).mp c2])
      · have c2' : ¬ 0 < b := fun z => c2 ((nI_p (by omega)).mpr z)
        exact s3 z1 (by simp [c2'])
  refine x_iload d_M_weight_35 rfl ?_
  refine x_iconst (v := 2) d_M_weight_37 (by decide) ?_
  refine x_irem d_M_weight_38 (by decide) ?_
  refine x_if_ne 46 d_M_weight_39 (by decide) (fun c1 => ?_) (fun c1 => ?_)
  · have c1' : ¬ c % 2 = 0 := fun z => c1 ((rem2 c hc).mpr z)
    exact s2 (by simp [c1'])
  · have c1' : c % 2 = 0 := (rem2 c hc).mp c1
    refine x_iload_n d_M_weight_42 rfl ?_
    refine x_if_gt 79 d_M_weight_43 (by decide) (fun c2 => ?_) (fun c2 => ?_)
    · exact yes (by simp [spM, c1', (nI_p (show a < 2 ^ 31 by omega)).mp c2])
    · have c2' : ¬ 0 < a := fun z => c2 ((nI_p (by omega)).mpr z)
      exact s2 (by simp [c2'])
