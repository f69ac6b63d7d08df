/-! Pure: the values alike: one step. -/
abbrev smO (S : RS) : Nat → Int32 := S.1
abbrev tmO (S : RS) : Nat → Int32 := S.2.1
abbrev bgO (S : RS) : Nat → Int32 := S.2.2.1
abbrev snO (S : RS) : Nat → Int32 := S.2.2.2.1
abbrev faO (S : RS) : Nat → Int32 := S.2.2.2.2.2.1
theorem stF_b (a : Nat → Int32) (d : Nat) (F : Po) (k : Nat) {j : Nat} (h : j < 81 * d) : stF a d F k j = a j := by
  simp only [stF]
  rw [if_neg (by omega)]
theorem ef_sm (S : RS) (d : Nat) : smO (efS S d) = smO S := by
  obtain ⟨sm, tm, bg, sn, mn, fa, lg⟩ := S
  cases lg
  · simp only [efS, Bool.false_eq_true, if_false]
    by_cases e : bg d = 0
    · rw [if_pos e]; rfl
    · rw [if_neg e]; rfl
  · rfl
theorem ef_sn (S : RS) (d : Nat) : snO (efS S d) = snO S := by
  obtain ⟨sm, tm, bg, sn, mn, fa, lg⟩ := S
  cases lg
  · simp only [efS, Bool.false_eq_true, if_false]
    by_cases e : bg d = 0
    · rw [if_pos e]; rfl
    · rw [if_neg e]; rfl
  · rfl
theorem ef_tm (S : RS) (d : Nat) {j : Nat} (h : j < 81 * d) : tmO (efS S d) j = tmO S j := by
  obtain ⟨sm, tm, bg, sn, mn, fa, lg⟩ := S
  cases lg
  · simp only [efS, Bool.false_eq_true, if_false]
    by_cases e : bg d = 0
    · rw [if_pos e]
      exact stF_b tm d (efF fa (mn d) 81) 81 h
    · rw [if_neg e]
      exact stF_b tm d (fun k => pwd (sg tm d) (efF fa (mn d) 81) 6561 (wd k)) 81 h
  · rfl
theorem ef_bg (S : RS) (d : Nat) {j : Nat} (h : j ≠ d) : bgO (efS S d) j = bgO S j := by
  obtain ⟨sm, tm, bg, sn, mn, fa, lg⟩ := S
  cases lg
  · simp only [efS, Bool.false_eq_true, if_false]
    by_cases e : bg d = 0
    · rw [if_pos e]
      exact if_neg h
    · rw [if_neg e]
      exact if_neg h
  · rfl
theorem ef_step {S : RS} {d : Nat} {P G : Po} (hl : lgO S = false) (h : (bgO S d = 0 ∧ P = pNum 1) ∨ (¬ bgO S d = 0 ∧ pr (sg (tmO S) d) P ∧ isLg P = false)) (hg : pr (efF (faO S) (mnO S d) 81) G) (hG : isLg G = false) :
    ((afB P G && !isLg (pMul P G)) = false ∧ lgO (efS S d) = true) ∨ ((afB P G && !isLg (pMul P G)) = true ∧ AF P G ∧ isLg (pMul P G) = false ∧ lgO (efS S d) = false ∧ pr (sg (tmO (efS S d)) d) (pMul P G) ∧ bgO (efS S d) d = 1) := by
  obtain ⟨sm, tm, bg, sn, mn, fa, lg⟩ := S
  have : lg = false := hl
  subst this
  dsimp only [smO, tmO, bgO, snO, faO, mnO] at h hg ⊢
  rcases h with ⟨b0, rfl⟩ | ⟨b0, hP, hPl⟩
  · right
    have pm : isLg (pMul (pNum 1) G) = false := by rw [isLg_pe (mul_1 G)]; exact hG
    have pt : pr (sg (stF tm d (efF fa (mn d) 81) 81) d) (pMul (pNum 1) G) := pr_pe (pr_cg hg (fun k hk => stF_in _ _ _ hk)) (mul_1 G).sy
    have pl : isLg (sg (stF tm d (efF fa (mn d) 81) 81) d) = false := (isLg_w pt).trans pm
    have e : efS (sm, tm, bg, sn, mn, fa, false) d = (sm, stF tm d (efF fa (mn d) 81) 81, upd bg d 1, sn, upd mn d 0, efF fa (mn d) 81, false) := by
      simp only [efS, Bool.false_eq_true, if_false]
      rw [if_pos b0]
      simp only [taS, lkS]
      rw [pl]
      rfl
    rw [e, afB_t (AF_1 G), pm]
    exact ⟨rfl, AF_1 G, rfl, rfl, pt, upd_s _ _ _⟩
  · have o := out_AF hP hg (by rw [isLg_w hP]; exact hPl) (by rw [isLg_w hg]; exact hG)
    rw [← outB_i] at o
    have e : ∀ x y : Bool, outB (pwd (sg tm d) (efF fa (mn d) 81) 6561) = x → isLg (sg (stF tm d (fun k => pwd (sg tm d) (efF fa (mn d) 81) 6561 (wd k)) 81) d) = y → efS (sm, tm, bg, sn, mn, fa, false) d = (sm, stF tm d (fun k => pwd (sg tm d) (efF fa (mn d) 81) 6561 (wd k)) 81, upd bg d 1, sn, upd mn d 0, efF fa (mn d) 81, (false || x) || y) := by
      intro x y hx hy
      simp only [efS, Bool.false_eq_true, if_false]
      rw [if_neg b0]
      simp only [mulS, lkS]
      rw [hx, hy]
    by_cases hf : AF P G
    · have o' : outB (pwd (sg tm d) (efF fa (mn d) 81) 6561) = false := by
        rw [← Bool.not_eq_true]
        exact fun z => (o.mp z) hf
      have pt : pr (sg (stF tm d (fun k => pwd (sg tm d) (efF fa (mn d) 81) 6561 (wd k)) 81) d) (pMul P G) := pr_cg (mul_w hP hg hf) (fun k hk => stF_in tm d (fun k => pwd (sg tm d) (efF fa (mn d) 81) 6561 (wd k)) hk)
      rw [e false (isLg (pMul P G)) o' (isLg_w pt), afB_t hf]
      generalize isLg (pMul P G) = x
      cases x with
      | true => exact Or.inl ⟨rfl, rfl⟩
      | false => exact Or.inr ⟨rfl, hf, rfl, rfl, pt, upd_s _ _ _⟩
    · left
      rw [e true _ (o.mpr hf) rfl, afB_f hf]
      generalize isLg (sg (stF tm d (fun k => pwd (sg tm d) (efF fa (mn d) 81) 6561 (wd k)) 81) d) = x
      generalize isLg (pMul P G) = y
      exact ⟨rfl, rfl⟩
theorem et_step {S : RS} {d : Nat} {Z P : Po} (hl : lgO S = false) (hZ : pr (sg (smO S) d) Z) (hP : pr (sg (tmO S) d) P) : pr (sg (smO (etS S d)) d) (pAdd Z P (snO S d)) ∧ lgO (etS S d) = isLg (pAdd Z P (snO S d)) := by
  obtain ⟨sm, tm, bg, sn, mn, fa, lg⟩ := S
  have : lg = false := hl
  subst this
  have e : pr (etF sm tm false (sn d) d) (pAdd Z P (sn d)) := pr_add hZ hP (sn d)
  refine ⟨pr_cg e (fun k hk => stF_in sm d (etF sm tm false (sn d) d) hk), ?_⟩
  have e2 := isLg_w e
  dsimp only [snO]
  simp only [etS, lgO]
  generalize isLg (pAdd Z P (sn d)) = y at e2
  rw [e2]
  rfl
theorem et_sm (S : RS) (d : Nat) {j : Nat} (h : j < 81 * d) : smO (etS S d) j = smO S j := stF_b _ _ _ _ h
section WI
variable (f : Nat → Int32) (n a b : Nat)
/-- a factor -/
def PF (m : Nat) : Prop := ∀ (p : Nat) (S : RS) (d L z : Nat), m = n + 1 - p → 1 ≤ p → p ≤ n → mnO S d = nI z → z ≤ L → L ≤ 8 → lgO S = false → (rdE f n (nI (chN a (b + 1))) m S p d (nI L) true).1 = true →
  ((eLev f n (9 - L)).2 (nI p) = none ∧ lgO (rdE f n (nI (chN a (b + 1))) m S p d (nI L) true).2.2 = true) ∨ ∃ (G : Po) (q : Nat) (S1 : RS), (eLev f n (9 - L)).2 (nI p) = some (G, nI q) ∧ p < q ∧ q ≤ n ∧ rdE f n (nI (chN a (b + 1))) m S p d (nI L) true = rdE f n (nI (chN a (b + 1))) (n + 1 - q) (efS S1 d) q d (nI L - nI z) false ∧ ((∀ j, j < 81 * (d + 1) → smO S1 j = smO S j ∧ tmO S1 j = tmO S j) ∧ (∀ j, j ≤ d → bgO S1 j = bgO S j ∧ snO S1 j = snO S j) ∧ (∀ j, j < d → mnO S1 j = mnO S j)) ∧ lgO S1 = false ∧ pr (efF (faO S1) (mnO S1 d) 81) (negN z G) ∧ isLg G = false ∧ kp a b G
/-- a term -/
def PP (m : Nat) : Prop := ∀ (k p : Nat) (S : RS) (d L : Nat) (P : Po), m = n + 1 - p → 1 ≤ p → p ≤ n → n < p + k → mnO S d = 0 → L ≤ 8 → lgO S = false → ((bgO S d = 0 ∧ P = pNum 1) ∨ (¬ bgO S d = 0 ∧ pr (sg (tmO S) d) P ∧ isLg P = false)) → kp a b P → (rdE f n (nI (chN a (b + 1))) m S p d (nI L) true).1 = true →
  (eProd f n (eLev f n (9 - L)).2 k P (nI p) = none ∧ lgO (rdE f n (nI (chN a (b + 1))) m S p d (nI L) true).2.2 = true) ∨ ∃ (P' : Po) (q : Nat) (S2 : RS), eProd f n (eLev f n (9 - L)).2 k P (nI p) = some (P', nI q) ∧ p < q ∧ q ≤ n ∧ rdE f n (nI (chN a (b + 1))) m S p d (nI L) true = rdE f n (nI (chN a (b + 1))) (n + 1 - q) S2 q d (nI L) false ∧ ¬ at1 f n q = 42 ∧ ((∀ j, j < 81 * (d + 1) → smO S2 j = smO S j) ∧ (∀ j, j < 81 * d → tmO S2 j = tmO S j) ∧ (∀ j, j < d → bgO S2 j = bgO S j ∧ mnO S2 j = mnO S j) ∧ (∀ j, j ≤ d → snO S2 j = snO S j)) ∧ mnO S2 d = 0 ∧ lgO S2 = false ∧ pr (sg (tmO S2) d) P' ∧ kp a b P'
/-- a sum -/
def PS (m : Nat) : Prop := ∀ (k p : Nat) (S : RS) (d L : Nat) (Z : Po), m = n + 1 - p → 1 ≤ p → p ≤ n → n < p + k → mnO S d = 0 → bgO S d = 0 → L ≤ 8 → lgO S = false → pr (sg (smO S) d) Z → kp a b Z → (rdE f n (nI (chN a (b + 1))) m S p d (nI L) true).1 = true →
  (eSum f n (eLev f n (9 - L)).2 k Z (snO S d) (nI p) = none ∧ lgO (rdE f n (nI (chN a (b + 1))) m S p d (nI L) true).2.2 = true) ∨ ∃ (Z' : Po) (q : Nat) (S2 : RS), eSum f n (eLev f n (9 - L)).2 k Z (snO S d) (nI p) = some (Z', nI q) ∧ p < q ∧ q ≤ n ∧ rdE f n (nI (chN a (b + 1))) m S p d (nI L) true = rdE f n (nI (chN a (b + 1))) (n + 1 - q) S2 q d (nI L) false ∧ (¬ at1 f n q = 42 ∧ ¬ (at1 f n q = 43 ∨ at1 f n q = 45)) ∧ ((∀ j, j < 81 * d → smO S2 j = smO S j ∧ tmO S2 j = tmO S j) ∧ (∀ j, j < d → bgO S2 j = bgO S j ∧ snO S2 j = snO S j ∧ mnO S2 j = mnO S j)) ∧ lgO (etS S2 d) = false ∧ pr (sg (smO (etS S2 d)) d) Z' ∧ isLg Z' = false ∧ kp a b Z'
variable {f n a b}
theorem stepF (hn : n ≤ 30) (hab : a ≤ b) (hb : b < 3) {m : Nat} (ih : ∀ m', m' < m → PF f n a b m' ∧ PS f n a b m') : PF f n a b m := by
  intro p S d L z hm h1 hp hz hzL hL hlg hr
  obtain ⟨m0, rfl⟩ : ∃ m0, m = m0 + 1 := ⟨m - 1, by omega⟩
  have hlt : p < n := by
    rcases Nat.lt_or_ge p n with h | h
    · exact h
    · exfalso
      have : p = n := by omega
      subst this
      rw [rdE, if_pos rfl, if_neg (Nat.lt_irrefl _), has_w hab hb, col_40.2.2.1, cc_m (by omega), if_neg (by decide), if_neg (fun z => absurd z.1 (by decide))] at hr
      cases hr
  have htx : tx f n (nI p) = f p := by rw [tx_n hn hp, if_pos hlt]
  obtain ⟨D, hD⟩ : ∃ D, 9 - L = D + 1 := ⟨8 - L, by omega⟩
  have hD2 : 9 - (L + 1) = D := by omega
  have hlev : (eLev f n (9 - L)).2 (nI p) = if f p = 40 then ((eLev f n D).1 (nI p + 1)).map (fun q => (q.1, q.2 + 1)) else if f p = 45 then ((eLev f n D).2 (nI p + 1)).map (fun q => (pNeg q.1, q.2)) else if colOf (f p) < 0 then some (pNum (f p - 48), nI p + 1) else some (pCol (colOf (f p)).toNatClampNeg, nI p + 1) := by
    rw [hD]
    show eFac f n (eLev f n D).1 (eLev f n D).2 (nI p) = _
    unfold eFac
    dsimp only
    rw [htx]
  rw [nI_1] at hlev
  by_cases c1 : (isDig (f p) || isCC (nI a) (nI b) (f p)) = true
  · have hE : rdE f n (nI (chN a (b + 1))) (m0 + 1) S p d (nI L) true = rdE f n (nI (chN a (b + 1))) m0 (efS (siS S (f p)) d) (p + 1) d (nI L - mnO S d) false := by
      rw [rdE, if_pos rfl, if_pos hlt, has_w hab hb, if_pos c1]
    have n1 : ¬ f p = 40 := by
      intro e
      rw [e, col_40.1, isCC, col_40.2.2.2.1, has_m a (by omega)] at c1
      cases c1
    have n2 : ¬ f p = 45 := by
      intro e
      rw [e, col_40.2.1, isCC, col_40.2.2.2.2, has_m a (by omega)] at c1
      cases c1
    rw [if_neg n1, if_neg n2] at hlev
    right
    obtain ⟨G, hG, g1, g2, g3⟩ : ∃ G, (eLev f n (9 - L)).2 (nI p) = some (G, nI (p + 1)) ∧ pr (simF (faO S) (f p)) G ∧ isLg G = false ∧ kp a b G := by
      by_cases c2 : isDig (f p) = true
      · obtain ⟨v, v1, v2, v3⟩ := dig_n c2
        have cm : colOf (f p) = -1 := by
          rcases col_c (f p) with e | ⟨x, hx, e⟩
          · exact e
          · have := col_x hx e
            rw [this, dig_c x hx] at c2
            cases c2
        refine ⟨pNum (f p - 48), ?_, pr_num _ c2, by rw [v2]; exact lg_num v v1, kp_num a b _⟩
        rw [hlev, if_pos (by rw [cm]; decide)]
      · have c3 : isCC (nI a) (nI b) (f p) = true := by
          rw [Bool.or_eq_true] at c1
          rcases c1 with h | h
          · exact absurd h c2
          · exact h
        obtain ⟨x, x1, x2, x3⟩ := cc_n hab hb c3
        refine ⟨pCol x, ?_, pr_col _ (by omega) x3, lg_col x (by omega), kp_col (by omega) x1 x2⟩
        rw [hlev, x3, if_neg (nI_pos (by omega)), nI_clamp (by omega)]
    refine ⟨G, p + 1, siS S (f p), hG, by omega, by omega, ?_, ⟨fun _ _ => ⟨rfl, rfl⟩, fun _ _ => ⟨rfl, rfl⟩, fun _ _ => rfl⟩, hlg, ?_, g2, g3⟩
    · rw [hE, hz, show n + 1 - (p + 1) = m0 by omega]
    · show pr (efF (simF (faO S) (f p)) (mnO S d) 81) _
      rw [hz]
      exact ef_w g1 (by omega)
  · by_cases c2 : (f p = 40 ∨ f p = 45) ∧ nI L ≠ 8
    · have hL8 : L < 8 := by
        have : L ≠ 8 := fun e => c2.2 (by rw [e]; rfl)
        omega
      by_cases c3 : f p = 45
      · have hE : rdE f n (nI (chN a (b + 1))) (m0 + 1) S p d (nI L) true = rdE f n (nI (chN a (b + 1))) m0 (mnS S d) (p + 1) d (nI (L + 1)) true := by
          rw [rdE, if_pos rfl, if_pos hlt, has_w hab hb, if_neg c1, if_pos c2, if_pos c3, nI_1]
        have n1 : ¬ f p = 40 := by rw [c3]; decide
        rw [if_neg n1, if_pos c3] at hlev
        have t := (ih m0 (by omega)).1 (p + 1) (mnS S d) d (L + 1) (z + 1) (by omega) (by omega) (by omega) (by
          show upd (mnO S) d (mnO S d + 1) d = _
          rw [upd_s, hz, nI_1]) (by omega) (by omega) hlg (by rw [← hE]; exact hr)
        rw [hD2] at t
        rcases t with ⟨t1, t2⟩ | ⟨G, q, S1, t1, t2, t3, t4, ⟨t5, t6, t7⟩, t8, t9, t10, t11⟩
        · left
          rw [hlev, t1, hE]
          exact ⟨rfl, t2⟩
        · right
          refine ⟨pNeg G, q, S1, by rw [hlev, t1]; rfl, by omega, t3, ?_, ⟨t5, t6, fun j hj => ?_⟩, t8, ?_, lg_neg t10, kp_neg t11⟩
          · rw [hE, t4, nI_sb (by omega), nI_sb (by omega), show L + 1 - (z + 1) = L - z by omega]
          · rw [t7 j hj]
            show upd (mnO S) d (mnO S d + 1) j = _
            rw [upd, if_neg (by omega)]
          · rw [negN_s]
            exact t9
      · have c4 : f p = 40 := by
          rcases c2.1 with e | e
          · exact e
          · exact absurd e c3
        have hE : rdE f n (nI (chN a (b + 1))) (m0 + 1) S p d (nI L) true = rdE f n (nI (chN a (b + 1))) m0 (bgS S (d + 1)) (p + 1) (d + 1) (nI (L + 1)) true := by
          rw [rdE, if_pos rfl, if_pos hlt, has_w hab hb, if_neg c1, if_pos c2, if_neg c3, nI_1]
        rw [if_pos c4] at hlev
        obtain ⟨E, hE2⟩ : ∃ E, D = E + 1 := ⟨D - 1, by omega⟩
        have hsum : (eLev f n D).1 (nI (p + 1)) = eSum f n (eLev f n D).2 30 (pNum 0) 1 (nI (p + 1)) := by
          rw [hE2]
          rfl
        have t := (ih m0 (by omega)).2 30 (p + 1) (bgS S (d + 1)) (d + 1) (L + 1) (pNum 0) (by omega) (by omega) (by omega) (by omega) (by
          show upd (mnO S) (d + 1) 0 (d + 1) = _
          rw [upd_s]) (by
          show upd (bgO S) (d + 1) 0 (d + 1) = _
          rw [upd_s]) (by omega) hlg (by
          intro k hk
          have := stF_in (smO S) (d + 1) pZ (rho_lt k hk)
          rw [show sg (smO (bgS S (d + 1))) (d + 1) (rho k) = pZ (rho k) from this]
          show (0 : Int32) = upd pZ 0 0 k
          simp only [upd]
          split <;> rfl) (kp_num a b 0) (by rw [← hE]; exact hr)
        rw [hD2, show snO (bgS S (d + 1)) (d + 1) = 1 from upd_s _ _ _, ← hsum] at t
        rcases t with ⟨t1, t2⟩ | ⟨Z, q, S2, t1, t2, t3, t4, ⟨t5, t5'⟩, ⟨t6, t7⟩, t8, t9, t10, t11⟩
        · left
          rw [hlev, t1, hE]
          exact ⟨rfl, t2⟩
        · right
          obtain ⟨r, hr2⟩ : ∃ r, n + 1 - q = r + 1 := ⟨n - q, by omega⟩
          have hm2 : mnO S2 d = nI z := by
            rw [(t7 d (by omega)).2.2]
            show upd (mnO S) (d + 1) 0 d = _
            rw [upd, if_neg (by omega), hz]
          have s := hr
          rw [hE, t4, hr2, rdE, if_neg (by decide), show (if q < n then f q else -1) = at1 f n q from rfl, if_neg t5, if_neg t5'] at s
          have c5 : at1 f n q = 41 ∧ 0 < d + 1 := by
            apply Classical.byContradiction
            intro h
            rw [if_neg h, if_neg (fun z => absurd z.1 (by omega))] at s
            cases s
          have hq : q < n := at1_l (by rw [c5.1]; decide)
          have hE3 : rdE f n (nI (chN a (b + 1))) (n + 1 - q) S2 q (d + 1) (nI (L + 1)) false = rdE f n (nI (chN a (b + 1))) r (efS (cpS (etS S2 (d + 1)) (d + 1)) d) (q + 1) d (nI (L + 1) - (1 + mnO S2 d)) false := by
            rw [hr2, rdE, if_neg (by decide), show (if q < n then f q else -1) = at1 f n q from rfl, if_neg t5, if_neg t5', if_pos c5]
            rfl
          refine ⟨Z, q + 1, cpS (etS S2 (d + 1)) (d + 1), ?_, by omega, by omega, ?_, ⟨fun j hj => ⟨?_, ?_⟩, fun j hj => ⟨?_, ?_⟩, fun j hj => ?_⟩, t8, ?_, t10, t11⟩
          · rw [hlev, t1]
            show some (Z, nI q + 1) = _
            rw [nI_1]
          · rw [hE, t4, hE3, hm2, show (1 : Int32) = nI 1 from rfl, nI_add, nI_sb (by omega), nI_sb (by omega), show L + 1 - (1 + z) = L - z by omega, show n + 1 - (q + 1) = r by omega]
          · show smO (etS S2 (d + 1)) j = _
            rw [et_sm S2 (d + 1) hj, (t6 j hj).1]
            exact stF_b _ _ _ _ hj
          · show tmO S2 j = _
            rw [(t6 j hj).2]
            rfl
          · show upd (bgO S2) (d + 1) 0 j = _
            rw [upd, if_neg (by omega), (t7 j (by omega)).1]
            show upd (bgO S) (d + 1) 0 j = _
            rw [upd, if_neg (by omega)]
          · show snO S2 j = _
            rw [(t7 j (by omega)).2.1]
            show upd (snO S) (d + 1) 1 j = _
            rw [upd, if_neg (by omega)]
          · show mnO S2 j = _
            rw [(t7 j (by omega)).2.2]
            show upd (mnO S) (d + 1) 0 j = _
            rw [upd, if_neg (by omega)]
          · show pr (efF (cpA (sg (smO (etS S2 (d + 1))) (d + 1)) (faO S2) 81) (mnO S2 d) 81) _
            rw [hm2]
            refine ef_w (pr_cg t9 (fun k hk => ?_)) (by omega)
            simp only [cpA]
            rw [if_pos hk]
    · exfalso
      rw [rdE, if_pos rfl, if_pos hlt, has_w hab hb, if_neg c1, if_neg c2] at hr
      cases hr
end WI
