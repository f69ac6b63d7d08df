/-! The reference: readExpression, its rows. -/
theorem RI_et {ch ln ca cd gp : Int32} {sm tm bg sn mn fa : Nat → Int32} {lg : Bool} {h : xHp} (d : Nat) (hS : RI ch ln ca cd gp (sm, tm, bg, sn, mn, fa, lg) h) : RI ch ln ca cd gp (etS (sm, tm, bg, sn, mn, fa, lg) d) (va_up (va_up (va_up h 109 (aI 729 (stF sm d (etF sm tm lg (sn d) d) 81))) 111 (aB 9 (upd bg d 0))) 94 (oM ch ln ca cd gp (bi (lg || isLg (etF sm tm lg (sn d) d))))) := by
  obtain ⟨h1, h2, h3, h4, h5, h6, h7, pr, h8⟩ := hS
  exact ⟨vu_s, vu_t (by decide) (vu_t (by decide) vu_s), vu_t (by decide) (vu_t (by decide) (vu_t (by decide) h3)), vu_t (by decide) vu_s, vu_t (by decide) (vu_t (by decide) (vu_t (by decide) h5)), vu_t (by decide) (vu_t (by decide) (vu_t (by decide) h6)), vu_t (by decide) (vu_t (by decide) (vu_t (by decide) h7)), pr, vu_t (by decide) (vu_t (by decide) (vu_t (by decide) h8))⟩
theorem RI_bg {ch ln ca cd gp : Int32} {sm tm bg sn mn fa : Nat → Int32} {lg : Bool} {h : xHp} (d : Nat) (hS : RI ch ln ca cd gp (sm, tm, bg, sn, mn, fa, lg) h) : RI ch ln ca cd gp (bgS (sm, tm, bg, sn, mn, fa, lg) d) (va_up (va_up (va_up (va_up h 109 (aI 729 (stF sm d pZ 81))) 111 (aB 9 (upd bg d 0))) 112 (aI 9 (upd sn d 1))) 113 (aI 9 (upd mn d 0))) := by
  obtain ⟨h1, h2, h3, h4, h5, h6, h7, pr, h8⟩ := hS
  exact ⟨vu_t (by decide) (vu_t (by decide) (vu_t (by decide) (vu_t (by decide) h1))), vu_t (by decide) (vu_t (by decide) (vu_t (by decide) vu_s)), vu_t (by decide) (vu_t (by decide) (vu_t (by decide) (vu_t (by decide) h3))), vu_t (by decide) (vu_t (by decide) vu_s), vu_t (by decide) vu_s, vu_s, vu_t (by decide) (vu_t (by decide) (vu_t (by decide) (vu_t (by decide) h7))), pr, vu_t (by decide) (vu_t (by decide) (vu_t (by decide) (vu_t (by decide) h8)))⟩
theorem RI_si {ch ln ca cd gp : Int32} {sm tm bg sn mn fa fa' : Nat → Int32} {lg : Bool} {h : xHp} (hS : RI ch ln ca cd gp (sm, tm, bg, sn, mn, fa, lg) h) : RI ch ln ca cd gp (sm, tm, bg, sn, mn, fa', lg) (va_up h 114 (aI 81 fa')) := by
  obtain ⟨h1, h2, h3, h4, h5, h6, h7, pr, h8⟩ := hS
  exact ⟨vu_t (by decide) h1, vu_t (by decide) h2, vu_t (by decide) h3, vu_t (by decide) h4, vu_t (by decide) h5, vu_t (by decide) h6, vu_s, pr, vu_t (by decide) h8⟩
theorem RI_mn {ch ln ca cd gp : Int32} {sm tm bg sn mn fa mn' : Nat → Int32} {lg : Bool} {h : xHp} (hS : RI ch ln ca cd gp (sm, tm, bg, sn, mn, fa, lg) h) : RI ch ln ca cd gp (sm, tm, bg, sn, mn', fa, lg) (va_up h 113 (aI 9 mn')) := by
  obtain ⟨h1, h2, h3, h4, h5, h6, h7, pr, h8⟩ := hS
  exact ⟨vu_t (by decide) h1, vu_t (by decide) h2, vu_t (by decide) h3, vu_t (by decide) h4, vu_t (by decide) h5, vu_s, vu_t (by decide) h7, pr, vu_t (by decide) h8⟩
theorem RI_sn {ch ln ca cd gp : Int32} {sm tm bg sn mn fa sn' : Nat → Int32} {lg : Bool} {h : xHp} (hS : RI ch ln ca cd gp (sm, tm, bg, sn, mn, fa, lg) h) : RI ch ln ca cd gp (sm, tm, bg, sn', mn, fa, lg) (va_up h 112 (aI 9 sn')) := by
  obtain ⟨h1, h2, h3, h4, h5, h6, h7, pr, h8⟩ := hS
  exact ⟨vu_t (by decide) h1, vu_t (by decide) h2, vu_t (by decide) h3, vu_t (by decide) h4, vu_s, vu_t (by decide) h6, vu_t (by decide) h7, pr, vu_t (by decide) h8⟩
set_option maxRecDepth 100000 in
set_option maxHeartbeats 4000000 in
theorem c_M_readExpression {N : Nat} {h : xHp} {ch ca cd gp : Int32} {S : RS} {f : Nat → Int32} {n p0 : Nat} (hN : 116 ≤ N) (hn : n ≤ 30) (hp0 : p0 ≤ n) (h98 : h 98 = aI 30 f) (hS : RI ch (nI n) ca cd gp S h) : XM y_M_readExpression b_M_readExpression 8 (some .int) 3 0 0 [.ref 94, .int (nI p0)] N h (fun r h' => r = some (.int (rv (rdE f n ca (n + 1 - p0) (bgS S 0) p0 0 0 true).1 (rdE f n ca (n + 1 - p0) (bgS S 0) p0 0 0 true).2.1)) ∧ RI ch (nI n) ca cd gp (rdE f n ca (n + 1 - p0) (bgS S 0) p0 0 0 true).2.2 h' ∧ frR h h') := by
  refine xM_intro [some (.ref 94), some (.int (nI p0)), none, none, none, none, none, none] (by decide) (fun _ => rfl) (fun _ => Nat.le_of_ble_eq_true rfl) (fun Γ => ?_)
  generalize hR0 : rdE f n ca (n + 1 - p0) (bgS S 0) p0 0 0 true = R
  generalize hQ : (fun (r : Option Value) (h' : xHp) => r = some (.int (rv R.1 R.2.1)) ∧ RI ch (nI n) ca cd gp R.2.2 h' ∧ frR h h') = Qp
  have key : ∀ (m p d : Nat) (S : RS) (h' : xHp) (o : Int32) (w : Bool) (x6 x7 : Option Value), m = n + 1 - p → p ≤ n + 1 → RI ch (nI n) ca cd gp S h' → frR h h' → rJ (mnO S) d o w → rdE f n ca m S p d o w = R → XW Γ y_M_readExpression b_M_readExpression 8 (some .int) (3, 0, 0) (xQ Γ (N + 0) 0 0 Qp) 0 0 N h' 15 [some (.ref 94), some (.int (nI p0)), some (.int (nI d)), some (.int o), some (.int (bi w)), some (.int (nI p)), x6, x7] [] := by
    intro m
    induction m with
    | zero =>
      intro p d S h' o w x6 x7 hm hp hS hf hJ hR
      have g1 := hS.1
      refine x_iload d_M_readExpression_15 rfl ?_
      refine x_aload_n d_M_readExpression_17 rfl ?_
      refine x_get f_M_82 d_M_readExpression_18 (by omega) (by first | assumption | exact vu_s | exact vu_t (by omega) (by first | assumption | exact vu_s | exact vu_t (by omega) (by first | assumption | exact vu_s | exact vu_t (by omega) (by first | assumption | exact vu_s))) | rfl | (simp only [va_up, Nat.reduceEqDiff, ↓reduceIte]; first | rfl | assumption)) rfl ?_
      refine x_icmp_gt 337 d_M_readExpression_21 (by decide) (fun c1 => ?_) (fun c1 => ?_)
      · refine x_iconst (v := -1) d_M_readExpression_337 (by decide) ?_
        refine x_aload_n d_M_readExpression_338 rfl ?_
        refine x_get f_M_82 d_M_readExpression_339 (by omega) (by first | assumption | exact vu_s | exact vu_t (by omega) (by first | assumption | exact vu_s | exact vu_t (by omega) (by first | assumption | exact vu_s | exact vu_t (by omega) (by first | assumption | exact vu_s))) | rfl | (simp only [va_up, Nat.reduceEqDiff, ↓reduceIte]; first | rfl | assumption)) rfl ?_
        refine x_isub d_M_readExpression_342 ?_
        refine x_iret d_M_readExpression_343 ?_
        rw [← hQ]
        rw [rdE] at hR
        rw [← hR]
        exact ⟨rfl, hS, hf⟩
      · exact absurd (Int32.not_lt.mp c1) (nI_ge (show n < p by omega) (by omega))
    | succ m ih =>
      intro p d S h' o w x6 x7 hm hp hS hf hJ hR
      obtain ⟨sm, tm, bg, sn, mn, fa, lg⟩ := S
      have hd := rJ_d hJ
      have hS' := hS
      obtain ⟨g1, g9, g10, g11, g12, g13, g14, pr, g15⟩ := hS'
      dsimp only at g1 g9 g10 g11 g12 g13 g14
      have g98 : h' 98 = aI 30 f := (hf 98 (by decide) (by decide)).trans h98
      have hid : vp_in (nI d) 9 := vp_in_nI hd (by decide)
      have hcd : (nI d).toNatClampNeg = d := nI_clamp (by omega)
      have e81 : (81 : Int32) * nI d = nI (81 * d) := by rw [show (81 : Int32) = nI 81 from rfl, pk_mul]
      rw [rdE] at hR
      generalize hc : (if p < n then f p else -1) = c at hR
      have s331 : ∀ (d2 : Nat) (S2 : RS) (h2 : xHp) (o2 : Int32) (w2 : Bool) (x6 x7 : Option Value), RI ch (nI n) ca cd gp S2 h2 → frR h h2 → rJ (mnO S2) d2 o2 w2 → rdE f n ca m S2 (p + 1) d2 o2 w2 = R → XW Γ y_M_readExpression b_M_readExpression 8 (some .int) (3, 0, 0) (xQ Γ (N + 0) 0 0 Qp) 0 0 N h2 331 [some (.ref 94), some (.int (nI p0)), some (.int (nI d2)), some (.int o2), some (.int (bi w2)), some (.int (nI p)), x6, x7] [] := by
        intro d2 S2 h2 o2 w2 x6 x7 a1 a2 a3 a4
        refine x_iinc1 d_M_readExpression_331 rfl (by decide) rfl ?_
        refine x_goto 15 d_M_readExpression_334 (by decide) ?_
        rw [nI_1]
        exact ih (p + 1) d2 S2 h2 o2 w2 x6 x7 (by omega) (by omega) a1 a2 a3 a4
      have bad : ∀ (x7 : Option Value), (false, p, ((sm, tm, bg, sn, mn, fa, lg) : RS)) = R → XW Γ y_M_readExpression b_M_readExpression 8 (some .int) (3, 0, 0) (xQ Γ (N + 0) 0 0 Qp) 0 0 N h' 326 [some (.ref 94), some (.int (nI p0)), some (.int (nI d)), some (.int o), some (.int (bi w)), some (.int (nI p)), (some (.int c)), x7] [] := by
        intro x7 e
        refine x_iconst (v := -1) d_M_readExpression_326 (by decide) ?_
        refine x_iload d_M_readExpression_327 rfl ?_
        refine x_isub d_M_readExpression_329 ?_
        refine x_iret d_M_readExpression_330 ?_
        rw [← hQ, ← e]
        exact ⟨rfl, hS, hf⟩
      refine x_iload d_M_readExpression_15 rfl ?_
      refine x_aload_n d_M_readExpression_17 rfl ?_
      refine x_get f_M_82 d_M_readExpression_18 (by omega) (by first | assumption | exact vu_s | exact vu_t (by omega) (by first | assumption | exact vu_s | exact vu_t (by omega) (by first | assumption | exact vu_s | exact vu_t (by omega) (by first | assumption | exact vu_s))) | rfl | (simp only [va_up, Nat.reduceEqDiff, ↓reduceIte]; first | rfl | assumption)) rfl ?_
      refine x_icmp_gt 337 d_M_readExpression_21 (by decide) (fun c1 => ?_) (fun c1 => ?_)
      · exact absurd c1 (Int32.not_lt.mpr (nI_le (show p ≤ n by omega) (by omega)))
      · clear c1
        refine x_aload_n d_M_readExpression_24 rfl ?_
        refine x_iload d_M_readExpression_25 rfl ?_
        refine x_cVe (c_M_at p hN hn (by omega) g1 g98) k_M_100 v_M_at d_M_readExpression_27 rfl (by omega) (by first | assumption | exact vu_s | exact vu_t (by omega) (by first | assumption | exact vu_s | exact vu_t (by omega) (by first | assumption | exact vu_s | exact vu_t (by omega) (by first | assumption | exact vu_s))) | rfl | (simp only [va_up, Nat.reduceEqDiff, ↓reduceIte]; first | rfl | assumption)) rfl (by omega) (Nat.le_of_ble_eq_true rfl) ?_
        rw [hc]
        refine x_istore d_M_readExpression_30 (by decide) rfl ?_
        refine x_iload d_M_readExpression_32 rfl ?_
        refine x_if_eq 162 d_M_readExpression_34 (by decide) (fun c2 => ?_) (fun c2 => ?_)
        · rw [bi0] at c2
          subst c2
          simp only [Bool.false_eq_true, if_false] at hR
          have s189 : ¬ c = 42 → (c = 43 ∨ c = 45) → XW Γ y_M_readExpression b_M_readExpression 8 (some .int) (3, 0, 0) (xQ Γ (N + 0) 0 0 Qp) 0 0 N h' 189 [some (.ref 94), some (.int (nI p0)), some (.int (nI d)), some (.int o), some (.int (bi false)), some (.int (nI p)), (some (.int c)), x7] [] := by
            intro n1 n2
            rw [if_neg n1, if_pos n2] at hR
            refine x_aload_n d_M_readExpression_189 rfl ?_
            refine x_iload_n d_M_readExpression_190 rfl ?_
            refine x_cV (c_M_endTerm hN hd g1 g9 g10 g11 g12) k_M_116 v_M_endTerm d_M_readExpression_191 rfl (by omega) (by first | assumption | exact vu_s | exact vu_t (by omega) (by first | assumption | exact vu_s | exact vu_t (by omega) (by first | assumption | exact vu_s | exact vu_t (by omega) (by first | assumption | exact vu_s))) | rfl | (simp only [va_up, Nat.reduceEqDiff, ↓reduceIte]; first | rfl | assumption)) rfl (by omega) (Nat.le_of_ble_eq_true rfl) ?_
            rintro r h2 ⟨rfl, e2⟩
            have i2 := RI_et d hS
            have f2 := frR_u (k := 94) (v := oM ch (nI n) ca cd gp (bi (lg || isLg (etF sm tm lg (sn d) d)))) (frR_u (k := 111) (v := aB 9 (upd bg d 0)) (frR_u (k := 109) (v := aI 729 (stF sm d (etF sm tm lg (sn d) d) 81)) hf (by omega)) (by omega)) (by omega)
            rw [← e2] at i2 f2
            clear e2
            have q1 := i2.1
            have q12 := i2.2.2.2.2.1
            have s211 : ∀ v : Int32, v = (if c = 43 then 1 else -1) → XW Γ y_M_readExpression b_M_readExpression 8 (some .int) (3, 0, 0) (xQ Γ (N + 0) 0 0 Qp) 0 0 N h2 211 [some (.ref 94), some (.int (nI p0)), some (.int (nI d)), some (.int o), some (.int (bi false)), some (.int (nI p)), (some (.int c)), x7] [.int v, .int (nI d), .ref 112] := by
              intro v hv
              refine x_iast d_M_readExpression_211 (by omega) (by first | assumption | exact vu_s | exact vu_t (by omega) (by first | assumption | exact vu_s | exact vu_t (by omega) (by first | assumption | exact vu_s | exact vu_t (by omega) (by first | assumption | exact vu_s))) | rfl | (simp only [va_up, Nat.reduceEqDiff, ↓reduceIte]; first | rfl | assumption)) (by assumption) ?_
              refine x_iconst (v := 1) d_M_readExpression_212 (by decide) ?_
              refine x_istore d_M_readExpression_213 (by decide) rfl ?_
              refine x_goto 331 d_M_readExpression_215 (by decide) ?_
              rw [hcd, hv]
              exact s331 d (snS (etS (sm, tm, bg, sn, mn, fa, lg) d) d (if c = 43 then 1 else -1)) _ _ true _ _ (RI_sn i2) (frR_u f2 (by omega)) (rJ_w hJ) hR
            refine x_aload_n d_M_readExpression_194 rfl ?_
            refine x_get f_M_62 d_M_readExpression_195 (by omega) (by first | assumption | exact vu_s | exact vu_t (by omega) (by first | assumption | exact vu_s | exact vu_t (by omega) (by first | assumption | exact vu_s | exact vu_t (by omega) (by first | assumption | exact vu_s))) | rfl | (simp only [va_up, Nat.reduceEqDiff, ↓reduceIte]; first | rfl | assumption)) rfl ?_
            refine x_iload_n d_M_readExpression_198 rfl ?_
            refine x_iload d_M_readExpression_199 rfl ?_
            refine x_bipush (v := 43) d_M_readExpression_201 (by decide) ?_
            refine x_icmp_ne 210 d_M_readExpression_203 (by decide) (fun c3 => ?_) (fun c3 => ?_)
            · refine x_iconst (v := -1) d_M_readExpression_210 (by decide) ?_
              exact s211 (-1) (by rw [if_neg c3])
            · refine x_iconst (v := 1) d_M_readExpression_206 (by decide) ?_
              refine x_goto 211 d_M_readExpression_207 (by decide) ?_
              exact s211 1 (by rw [if_pos c3])
          have s318 : d = 0 → (true, p, etS (sm, tm, bg, sn, mn, fa, lg) 0) = R → XW Γ y_M_readExpression b_M_readExpression 8 (some .int) (3, 0, 0) (xQ Γ (N + 0) 0 0 Qp) 0 0 N h' 318 [some (.ref 94), some (.int (nI p0)), some (.int (nI d)), some (.int o), some (.int (bi false)), some (.int (nI p)), (some (.int c)), x7] [] := by
            intro d0 hr
            subst d0
            refine x_aload_n d_M_readExpression_318 rfl ?_
            refine x_iconst (v := 0) d_M_readExpression_319 (by decide) ?_
            refine x_cV (c_M_endTerm (d := 0) hN (by decide) g1 g9 g10 g11 g12) k_M_116 v_M_endTerm d_M_readExpression_320 rfl (by omega) (by first | assumption | exact vu_s | exact vu_t (by omega) (by first | assumption | exact vu_s | exact vu_t (by omega) (by first | assumption | exact vu_s | exact vu_t (by omega) (by first | assumption | exact vu_s))) | rfl | (simp only [va_up, Nat.reduceEqDiff, ↓reduceIte]; first | rfl | assumption)) rfl (by omega) (Nat.le_of_ble_eq_true rfl) ?_
            rintro r h2 ⟨rfl, rfl⟩
            refine x_iload d_M_readExpression_323 rfl ?_
            refine x_iret d_M_readExpression_325 ?_
            rw [← hQ, ← hr]
            exact ⟨rfl, RI_et 0 hS, frR_u (frR_u (frR_u hf (by omega)) (by omega)) (by omega)⟩
          have s291 : ¬ c = 42 → ¬ (c = 43 ∨ c = 45) → ¬ (c = 41 ∧ 0 < d) → XW Γ y_M_readExpression b_M_readExpression 8 (some .int) (3, 0, 0) (xQ Γ (N + 0) 0 0 Qp) 0 0 N h' 291 [some (.ref 94), some (.int (nI p0)), some (.int (nI d)), some (.int o), some (.int (bi false)), some (.int (nI p)), (some (.int c)), x7] [] := by
            intro n1 n2 n3
            rw [if_neg n1, if_neg n2, if_neg n3] at hR
            refine x_iload_n d_M_readExpression_291 rfl ?_
            refine x_if_ne 326 d_M_readExpression_292 (by decide) (fun c3 => ?_) (fun c3 => ?_)
            · have d0 : d ≠ 0 := fun e => c3 (by rw [e]; rfl)
              rw [if_neg (fun z => d0 z.1)] at hR
              exact bad _ hR
            · have d0 : d = 0 := (nI_inj (by omega) (by decide)).mp (c3 : nI d = nI 0)
              refine x_iload d_M_readExpression_295 rfl ?_
              refine x_bipush (v := 63) d_M_readExpression_297 (by decide) ?_
              refine x_icmp_eq 318 d_M_readExpression_299 (by decide) (fun c4 => ?_) (fun c4 => ?_)
              · rw [if_pos ⟨d0, Or.inl c4⟩] at hR
                exact s318 d0 hR
              · refine x_iload d_M_readExpression_302 rfl ?_
                refine x_bipush (v := 47) d_M_readExpression_304 (by decide) ?_
                refine x_icmp_eq 318 d_M_readExpression_306 (by decide) (fun c5 => ?_) (fun c5 => ?_)
                · rw [if_pos ⟨d0, Or.inr (Or.inl c5)⟩] at hR
                  exact s318 d0 hR
                · refine x_iload d_M_readExpression_309 rfl ?_
                  refine x_aload_n d_M_readExpression_311 rfl ?_
                  refine x_get f_M_82 d_M_readExpression_312 (by omega) (by first | assumption | exact vu_s | exact vu_t (by omega) (by first | assumption | exact vu_s | exact vu_t (by omega) (by first | assumption | exact vu_s | exact vu_t (by omega) (by first | assumption | exact vu_s))) | rfl | (simp only [va_up, Nat.reduceEqDiff, ↓reduceIte]; first | rfl | assumption)) rfl ?_
                  refine x_icmp_ne 326 d_M_readExpression_315 (by decide) (fun c6 => ?_) (fun c6 => ?_)
                  · have : p ≠ n := fun e => c6 (by rw [e])
                    rw [if_neg (fun z => z.2.elim c4 (fun z => z.elim c5 this))] at hR
                    exact bad _ hR
                  · have : p = n := (nI_inj (by omega) (by omega)).mp c6
                    rw [if_pos ⟨d0, Or.inr (Or.inr this)⟩] at hR
                    exact s318 d0 hR
          have s229 : ¬ c = 42 → ¬ (c = 43 ∨ c = 45) → c = 41 → 0 < d → XW Γ y_M_readExpression b_M_readExpression 8 (some .int) (3, 0, 0) (xQ Γ (N + 0) 0 0 Qp) 0 0 N h' 229 [some (.ref 94), some (.int (nI p0)), some (.int (nI d)), some (.int o), some (.int (bi false)), some (.int (nI p)), (some (.int c)), x7] [] := by
            intro n1 n2 n3 d0
            rw [if_neg n1, if_neg n2, if_pos ⟨n3, d0⟩] at hR
            refine x_aload_n d_M_readExpression_229 rfl ?_
            refine x_iload_n d_M_readExpression_230 rfl ?_
            refine x_cV (c_M_endTerm hN hd g1 g9 g10 g11 g12) k_M_116 v_M_endTerm d_M_readExpression_231 rfl (by omega) (by first | assumption | exact vu_s | exact vu_t (by omega) (by first | assumption | exact vu_s | exact vu_t (by omega) (by first | assumption | exact vu_s | exact vu_t (by omega) (by first | assumption | exact vu_s))) | rfl | (simp only [va_up, Nat.reduceEqDiff, ↓reduceIte]; first | rfl | assumption)) rfl (by omega) (Nat.le_of_ble_eq_true rfl) ?_
            rintro r h2 ⟨rfl, e2⟩
            have i2 := RI_et d hS
            have f2 := frR_u (k := 94) (v := oM ch (nI n) ca cd gp (bi (lg || isLg (etF sm tm lg (sn d) d)))) (frR_u (k := 111) (v := aB 9 (upd bg d 0)) (frR_u (k := 109) (v := aI 729 (stF sm d (etF sm tm lg (sn d) d) 81)) hf (by omega)) (by omega)) (by omega)
            rw [← e2] at i2 f2
            clear e2
            obtain ⟨q1, q9, q10, q11, q12, q13, q14, pr2, q15⟩ := id i2
            dsimp only [etS] at q1 q9 q10 q11 q12 q13 q14
            generalize hsm : stF sm d (etF sm tm lg (sn d) d) 81 = sm2 at q9
            have lp : ∀ (m2 k : Nat), k ≤ 81 → 81 - k < m2 → XW Γ y_M_readExpression b_M_readExpression 8 (some .int) (3, 0, 0) (xQ Γ (N + 0) 0 0 Qp) 0 0 N (va_up h2 114 (aI 81 (cpA (sg sm2 d) fa k))) 237 [some (.ref 94), some (.int (nI p0)), some (.int (nI d)), some (.int o), some (.int (bi false)), some (.int (nI p)), (some (.int c)), (some (.int (nI k)))] [] := by
              intro m2
              induction m2 with
              | zero => intro k _ h0; omega
              | succ m2 ih2 =>
                intro k hk hkm
                refine x_iload d_M_readExpression_237 rfl ?_
                refine x_bipush (v := 81) d_M_readExpression_239 (by decide) ?_
                refine x_icmp_ge 269 d_M_readExpression_241 (by decide) (fun c3 => ?_) (fun c3 => ?_)
                · have e := nI_end (n := 81) hk (by decide) c3
                  subst e
                  have hi1 : vp_in (nI (d - 1)) 9 := vp_in_nI (by omega) (by decide)
                  have hc1 : (nI (d - 1)).toNatClampNeg = d - 1 := nI_clamp (by omega)
                  refine x_iincm d_M_readExpression_269 rfl (by decide) rfl ?_
                  rw [nI_dn d0]
                  refine x_iload_n d_M_readExpression_272 rfl ?_
                  refine x_iconst (v := 1) d_M_readExpression_273 (by decide) ?_
                  refine x_aload_n d_M_readExpression_274 rfl ?_
                  refine x_get f_M_65 d_M_readExpression_275 (by omega) (by first | assumption | exact vu_s | exact vu_t (by omega) (by first | assumption | exact vu_s | exact vu_t (by omega) (by first | assumption | exact vu_s | exact vu_t (by omega) (by first | assumption | exact vu_s))) | rfl | (simp only [va_up, Nat.reduceEqDiff, ↓reduceIte]; first | rfl | assumption)) rfl ?_
                  refine x_iload_n d_M_readExpression_278 rfl ?_
                  refine x_iald d_M_readExpression_279 (by omega) (by first | assumption | exact vu_s | exact vu_t (by omega) (by first | assumption | exact vu_s | exact vu_t (by omega) (by first | assumption | exact vu_s | exact vu_t (by omega) (by first | assumption | exact vu_s))) | rfl | (simp only [va_up, Nat.reduceEqDiff, ↓reduceIte]; first | rfl | assumption)) (by assumption) ?_
                  refine x_iadd d_M_readExpression_280 ?_
                  refine x_isub d_M_readExpression_281 ?_
                  refine x_istore_n d_M_readExpression_282 (by decide) rfl ?_
                  refine x_aload_n d_M_readExpression_283 rfl ?_
                  refine x_iload_n d_M_readExpression_284 rfl ?_
                  rw [hc1]
                  have i3 : RI ch (nI n) ca cd gp (cpS (etS (sm, tm, bg, sn, mn, fa, lg) d) d) (va_up h2 114 (aI 81 (cpA (sg sm2 d) fa 81))) := by
                    rw [← hsm]
                    exact RI_si i2
                  refine x_cV (c_M_endFactor hN (show d - 1 < 9 by omega) i3) k_M_113 v_M_endFactor d_M_readExpression_285 rfl (by omega) (by first | assumption | exact vu_s | exact vu_t (by omega) (by first | assumption | exact vu_s | exact vu_t (by omega) (by first | assumption | exact vu_s | exact vu_t (by omega) (by first | assumption | exact vu_s))) | rfl | (simp only [va_up, Nat.reduceEqDiff, ↓reduceIte]; first | rfl | assumption)) rfl (by omega) (Nat.le_of_ble_eq_true rfl) ?_
                  rintro r h3 ⟨rfl, i4, f4⟩
                  refine x_goto 331 d_M_readExpression_288 (by decide) ?_
                  refine s331 (d - 1) _ _ _ false _ _ i4 (frR_t (frR_u f2 (by omega)) f4) ?_ hR
                  rw [efS_mn]
                  obtain ⟨d', rfl⟩ : ∃ d', d = d' + 1 := ⟨d - 1, by omega⟩
                  exact rJ_c hJ
                · have hlt := nI_more (n := 81) hk (by decide) c3
                  have hi : vp_in ((81 : Int32) * nI d + nI k) 729 := by rw [i81]; exact vp_in_nI (by omega) (by decide)
                  have hci : ((81 : Int32) * nI d + nI k).toNatClampNeg = 81 * d + k := by rw [i81]; exact nI_clamp (by omega)
                  have hif : vp_in (nI k) 81 := vp_in_nI hlt (by decide)
                  have hcf : (nI k).toNatClampNeg = k := nI_clamp (by omega)
                  refine x_aload_n d_M_readExpression_244 rfl ?_
                  refine x_get f_M_68 d_M_readExpression_245 (by omega) (by first | assumption | exact vu_s | exact vu_t (by omega) (by first | assumption | exact vu_s | exact vu_t (by omega) (by first | assumption | exact vu_s | exact vu_t (by omega) (by first | assumption | exact vu_s))) | rfl | (simp only [va_up, Nat.reduceEqDiff, ↓reduceIte]; first | rfl | assumption)) rfl ?_
                  refine x_iload d_M_readExpression_248 rfl ?_
                  refine x_aload_n d_M_readExpression_250 rfl ?_
                  refine x_get f_M_53 d_M_readExpression_251 (by omega) (by first | assumption | exact vu_s | exact vu_t (by omega) (by first | assumption | exact vu_s | exact vu_t (by omega) (by first | assumption | exact vu_s | exact vu_t (by omega) (by first | assumption | exact vu_s))) | rfl | (simp only [va_up, Nat.reduceEqDiff, ↓reduceIte]; first | rfl | assumption)) rfl ?_
                  refine x_bipush (v := 81) d_M_readExpression_254 (by decide) ?_
                  refine x_iload_n d_M_readExpression_256 rfl ?_
                  refine x_imul d_M_readExpression_257 ?_
                  refine x_iload d_M_readExpression_258 rfl ?_
                  refine x_iadd d_M_readExpression_260 ?_
                  refine x_iald d_M_readExpression_261 (by omega) (by first | assumption | exact vu_s | exact vu_t (by omega) (by first | assumption | exact vu_s | exact vu_t (by omega) (by first | assumption | exact vu_s | exact vu_t (by omega) (by first | assumption | exact vu_s))) | rfl | (simp only [va_up, Nat.reduceEqDiff, ↓reduceIte]; first | rfl | assumption)) (by assumption) ?_
                  refine x_iast d_M_readExpression_262 (by omega) (by first | assumption | exact vu_s | exact vu_t (by omega) (by first | assumption | exact vu_s | exact vu_t (by omega) (by first | assumption | exact vu_s | exact vu_t (by omega) (by first | assumption | exact vu_s))) | rfl | (simp only [va_up, Nat.reduceEqDiff, ↓reduceIte]; first | rfl | assumption)) (by assumption) ?_
                  refine x_iinc1 d_M_readExpression_263 rfl (by decide) rfl ?_
                  refine x_goto 237 d_M_readExpression_266 (by decide) ?_
                  rw [nI_1, hci, hcf, bx_uu]
                  refine XW_h ?_ (ih2 (k + 1) (by omega) (by omega))
                  rw [← cpA_s]
            refine x_iconst (v := 0) d_M_readExpression_234 (by decide) ?_
            refine x_istore d_M_readExpression_235 (by decide) rfl ?_
            refine XW_h ?_ (lp 82 0 (by omega) (by omega))
            rw [show cpA (sg sm2 d) fa 0 = fa by funext j; simp [cpA], ← q14, vu_e]
          have s218 : ¬ c = 42 → ¬ (c = 43 ∨ c = 45) → XW Γ y_M_readExpression b_M_readExpression 8 (some .int) (3, 0, 0) (xQ Γ (N + 0) 0 0 Qp) 0 0 N h' 218 [some (.ref 94), some (.int (nI p0)), some (.int (nI d)), some (.int o), some (.int (bi false)), some (.int (nI p)), (some (.int c)), x7] [] := by
            intro n1 n2
            refine x_iload d_M_readExpression_218 rfl ?_
            refine x_bipush (v := 41) d_M_readExpression_220 (by decide) ?_
            refine x_icmp_ne 291 d_M_readExpression_222 (by decide) (fun c3 => ?_) (fun c3 => ?_)
            · exact s291 n1 n2 (fun z => c3 z.1)
            · refine x_iload_n d_M_readExpression_225 rfl ?_
              refine x_if_le 291 d_M_readExpression_226 (by decide) (fun c4 => ?_) (fun c4 => ?_)
              · have d0 : d = 0 := (nI_pos0 (by omega)).mp c4
                exact s291 n1 n2 (fun z => by omega)
              · have d0 : d ≠ 0 := fun e => c4 ((nI_pos0 (by omega)).mpr e)
                exact s229 n1 n2 c3 (by omega)
          refine x_iload d_M_readExpression_162 rfl ?_
          refine x_bipush (v := 42) d_M_readExpression_164 (by decide) ?_
          refine x_icmp_ne 175 d_M_readExpression_166 (by decide) (fun c3 => ?_) (fun c3 => ?_)
          · refine x_iload d_M_readExpression_175 rfl ?_
            refine x_bipush (v := 43) d_M_readExpression_177 (by decide) ?_
            refine x_icmp_eq 189 d_M_readExpression_179 (by decide) (fun c4 => ?_) (fun c4 => ?_)
            · exact s189 c3 (Or.inl c4)
            · refine x_iload d_M_readExpression_182 rfl ?_
              refine x_bipush (v := 45) d_M_readExpression_184 (by decide) ?_
              refine x_icmp_ne 218 d_M_readExpression_186 (by decide) (fun c5 => ?_) (fun c5 => ?_)
              · exact s218 c3 (fun z => z.elim c4 c5)
              · exact s189 c3 (Or.inr c5)
          · refine x_iconst (v := 1) d_M_readExpression_169 (by decide) ?_
            refine x_istore d_M_readExpression_170 (by decide) rfl ?_
            refine x_goto 331 d_M_readExpression_172 (by decide) ?_
            rw [if_pos c3] at hR
            exact s331 d _ _ _ true _ _ hS hf (rJ_w hJ) hR
        · rw [bi1] at c2
          subst c2
          simp only [if_true] at hR
          have s92 : ∀ (x7 : Option Value), (false, p, ((sm, tm, bg, sn, mn, fa, lg) : RS)) = R → XW Γ y_M_readExpression b_M_readExpression 8 (some .int) (3, 0, 0) (xQ Γ (N + 0) 0 0 Qp) 0 0 N h' 92 [some (.ref 94), some (.int (nI p0)), some (.int (nI d)), some (.int o), some (.int (bi true)), some (.int (nI p)), (some (.int c)), x7] [] := by
            intro x7 e
            refine x_iconst (v := -1) d_M_readExpression_92 (by decide) ?_
            refine x_iload d_M_readExpression_93 rfl ?_
            refine x_isub d_M_readExpression_95 ?_
            refine x_iret d_M_readExpression_96 ?_
            rw [← hQ, ← e]
            exact ⟨rfl, hS, hf⟩
          have s65 : ∀ b : Bool, b = (isDig c || hasM ca c) → XW Γ y_M_readExpression b_M_readExpression 8 (some .int) (3, 0, 0) (xQ Γ (N + 0) 0 0 Qp) 0 0 N h' 65 [some (.ref 94), some (.int (nI p0)), some (.int (nI d)), some (.int o), some (.int (bi true)), some (.int (nI p)), (some (.int c)), x7] [.int (bi b)] := by
            intro b hb
            rw [← hb] at hR
            refine x_istore d_M_readExpression_65 (by decide) rfl ?_
            refine x_iload d_M_readExpression_67 rfl ?_
            have s97 : b = false → (c = 40 ∨ c = 45) → o ≠ 8 → XW Γ y_M_readExpression b_M_readExpression 8 (some .int) (3, 0, 0) (xQ Γ (N + 0) 0 0 Qp) 0 0 N h' 97 [some (.ref 94), some (.int (nI p0)), some (.int (nI d)), some (.int o), some (.int (bi true)), some (.int (nI p)), (some (.int c)), (some (.int (bi b)))] [] := by
              intro b0 c4 c8
              subst b0
              simp only [Bool.false_eq_true, if_false] at hR
              rw [if_pos ⟨c4, c8⟩] at hR
              have hd8 := rJ_o hJ c8
              refine x_iload d_M_readExpression_97 rfl ?_
              refine x_if_eq 128 d_M_readExpression_99 (by decide) (fun c5 => ?_) (fun c5 => ?_)
              · refine x_iinc1 d_M_readExpression_128 rfl (by decide) rfl ?_
                refine x_iload d_M_readExpression_131 rfl ?_
                refine x_bipush (v := 45) d_M_readExpression_133 (by decide) ?_
                refine x_icmp_ne 151 d_M_readExpression_135 (by decide) (fun c6 => ?_) (fun c6 => ?_)
                · rw [if_neg c6] at hR
                  refine x_iinc1 d_M_readExpression_151 rfl (by decide) rfl ?_
                  refine x_aload_n d_M_readExpression_154 rfl ?_
                  refine x_iload_n d_M_readExpression_155 rfl ?_
                  rw [nI_1]
                  refine x_cV (c_M_begin hN (show d + 1 < 9 by omega) g1 g9 g11 g12 g13) k_M_103 v_M_begin d_M_readExpression_156 rfl (by omega) (by first | assumption | exact vu_s | exact vu_t (by omega) (by first | assumption | exact vu_s | exact vu_t (by omega) (by first | assumption | exact vu_s | exact vu_t (by omega) (by first | assumption | exact vu_s))) | rfl | (simp only [va_up, Nat.reduceEqDiff, ↓reduceIte]; first | rfl | assumption)) rfl (by omega) (Nat.le_of_ble_eq_true rfl) ?_
                  rintro r h2 ⟨rfl, rfl⟩
                  refine x_goto 331 d_M_readExpression_159 (by decide) ?_
                  exact s331 (d + 1) _ _ _ true _ _ (RI_bg (d + 1) hS) (frR_u (frR_u (frR_u (frR_u hf (by omega)) (by omega)) (by omega)) (by omega)) (rJ_b hJ c8) hR
                · rw [if_pos c6] at hR
                  refine x_aload_n d_M_readExpression_138 rfl ?_
                  refine x_get f_M_65 d_M_readExpression_139 (by omega) (by first | assumption | exact vu_s | exact vu_t (by omega) (by first | assumption | exact vu_s | exact vu_t (by omega) (by first | assumption | exact vu_s | exact vu_t (by omega) (by first | assumption | exact vu_s))) | rfl | (simp only [va_up, Nat.reduceEqDiff, ↓reduceIte]; first | rfl | assumption)) rfl ?_
                  refine x_iload_n d_M_readExpression_142 rfl ?_
                  refine x_dup2 d_M_readExpression_143 rfl rfl ?_
                  refine x_iald d_M_readExpression_144 (by omega) (by first | assumption | exact vu_s | exact vu_t (by omega) (by first | assumption | exact vu_s | exact vu_t (by omega) (by first | assumption | exact vu_s | exact vu_t (by omega) (by first | assumption | exact vu_s))) | rfl | (simp only [va_up, Nat.reduceEqDiff, ↓reduceIte]; first | rfl | assumption)) (by assumption) ?_
                  refine x_iconst (v := 1) d_M_readExpression_145 (by decide) ?_
                  refine x_iadd d_M_readExpression_146 ?_
                  refine x_iast d_M_readExpression_147 (by omega) (by first | assumption | exact vu_s | exact vu_t (by omega) (by first | assumption | exact vu_s | exact vu_t (by omega) (by first | assumption | exact vu_s | exact vu_t (by omega) (by first | assumption | exact vu_s))) | rfl | (simp only [va_up, Nat.reduceEqDiff, ↓reduceIte]; first | rfl | assumption)) (by assumption) ?_
                  refine x_goto 159 d_M_readExpression_148 (by decide) ?_
                  refine x_goto 331 d_M_readExpression_159 (by decide) ?_
                  rw [hcd]
                  exact s331 d (mnS (sm, tm, bg, sn, mn, fa, lg) d) _ _ true _ _ (RI_mn hS) (frR_u hf (by omega)) (rJ_m hJ c8) hR
              · exact absurd rfl c5
            refine x_if_ne 97 d_M_readExpression_69 (by decide) (fun c3 => ?_) (fun c3 => ?_)
            · rw [bi1] at c3
              subst c3
              simp only [if_true] at hR
              refine x_iload d_M_readExpression_97 rfl ?_
              refine x_if_eq 128 d_M_readExpression_99 (by decide) (fun c4 => ?_) (fun c4 => ?_)
              · exact absurd c4 (by decide)
              · refine x_iload_n d_M_readExpression_102 rfl ?_
                refine x_aload_n d_M_readExpression_103 rfl ?_
                refine x_get f_M_65 d_M_readExpression_104 (by omega) (by first | assumption | exact vu_s | exact vu_t (by omega) (by first | assumption | exact vu_s | exact vu_t (by omega) (by first | assumption | exact vu_s | exact vu_t (by omega) (by first | assumption | exact vu_s))) | rfl | (simp only [va_up, Nat.reduceEqDiff, ↓reduceIte]; first | rfl | assumption)) rfl ?_
                refine x_iload_n d_M_readExpression_107 rfl ?_
                refine x_iald d_M_readExpression_108 (by omega) (by first | assumption | exact vu_s | exact vu_t (by omega) (by first | assumption | exact vu_s | exact vu_t (by omega) (by first | assumption | exact vu_s | exact vu_t (by omega) (by first | assumption | exact vu_s))) | rfl | (simp only [va_up, Nat.reduceEqDiff, ↓reduceIte]; first | rfl | assumption)) (by assumption) ?_
                refine x_isub d_M_readExpression_109 ?_
                refine x_istore_n d_M_readExpression_110 (by decide) rfl ?_
                refine x_aload_n d_M_readExpression_111 rfl ?_
                refine x_iload d_M_readExpression_112 rfl ?_
                rw [hcd]
                refine x_cV (c_M_simple c hN g1 g14) k_M_110 v_M_simple d_M_readExpression_114 rfl (by omega) (by first | assumption | exact vu_s | exact vu_t (by omega) (by first | assumption | exact vu_s | exact vu_t (by omega) (by first | assumption | exact vu_s | exact vu_t (by omega) (by first | assumption | exact vu_s))) | rfl | (simp only [va_up, Nat.reduceEqDiff, ↓reduceIte]; first | rfl | assumption)) rfl (by omega) (Nat.le_of_ble_eq_true rfl) ?_
                rintro r h2 ⟨rfl, rfl⟩
                refine x_aload_n d_M_readExpression_117 rfl ?_
                refine x_iload_n d_M_readExpression_118 rfl ?_
                refine x_cV (c_M_endFactor hN hd (RI_si (fa' := simF fa c) hS)) k_M_113 v_M_endFactor d_M_readExpression_119 rfl (by omega) (by first | assumption | exact vu_s | exact vu_t (by omega) (by first | assumption | exact vu_s | exact vu_t (by omega) (by first | assumption | exact vu_s | exact vu_t (by omega) (by first | assumption | exact vu_s))) | rfl | (simp only [va_up, Nat.reduceEqDiff, ↓reduceIte]; first | rfl | assumption)) rfl (by omega) (Nat.le_of_ble_eq_true rfl) ?_
                rintro r h2 ⟨rfl, i2, f2⟩
                refine x_iconst (v := 0) d_M_readExpression_122 (by decide) ?_
                refine x_istore d_M_readExpression_123 (by decide) rfl ?_
                refine x_goto 159 d_M_readExpression_125 (by decide) ?_
                refine x_goto 331 d_M_readExpression_159 (by decide) ?_
                refine s331 d _ _ _ false _ _ i2 (frR_t (frR_u hf (by omega)) f2) ?_ hR
                rw [efS_mn]
                exact rJ_f hJ
            · have c3' : b = false := bi0.mp c3
              have hR1 := hR
              rw [c3'] at hR1
              simp only [Bool.false_eq_true, if_false] at hR1
              have s86 : (c = 40 ∨ c = 45) → XW Γ y_M_readExpression b_M_readExpression 8 (some .int) (3, 0, 0) (xQ Γ (N + 0) 0 0 Qp) 0 0 N h' 86 [some (.ref 94), some (.int (nI p0)), some (.int (nI d)), some (.int o), some (.int (bi true)), some (.int (nI p)), (some (.int c)), (some (.int (bi b)))] [] := by
                intro c4
                refine x_iload_n d_M_readExpression_86 rfl ?_
                refine x_bipush (v := 8) d_M_readExpression_87 (by decide) ?_
                refine x_icmp_ne 97 d_M_readExpression_89 (by decide) (fun c5 => ?_) (fun c5 => ?_)
                · exact s97 c3' c4 c5
                · rw [if_neg (fun z => z.2 c5)] at hR1
                  exact s92 _ hR1
              refine x_iload d_M_readExpression_72 rfl ?_
              refine x_bipush (v := 40) d_M_readExpression_74 (by decide) ?_
              refine x_icmp_eq 86 d_M_readExpression_76 (by decide) (fun c4 => ?_) (fun c4 => ?_)
              · exact s86 (Or.inl c4)
              · refine x_iload d_M_readExpression_79 rfl ?_
                refine x_bipush (v := 45) d_M_readExpression_81 (by decide) ?_
                refine x_icmp_ne 92 d_M_readExpression_83 (by decide) (fun c5 => ?_) (fun c5 => ?_)
                · rw [if_neg (fun z => z.1.elim c4 c5)] at hR1
                  exact s92 _ hR1
                · exact s86 (Or.inr c5)
          have s51 : isDig c = false → XW Γ y_M_readExpression b_M_readExpression 8 (some .int) (3, 0, 0) (xQ Γ (N + 0) 0 0 Qp) 0 0 N h' 51 [some (.ref 94), some (.int (nI p0)), some (.int (nI d)), some (.int o), some (.int (bi true)), some (.int (nI p)), (some (.int c)), x7] [] := by
            intro e
            refine x_aload_n d_M_readExpression_51 rfl ?_
            refine x_iload d_M_readExpression_52 rfl ?_
            refine x_cVe (c_M_has c hN g1) k_M_106 v_M_has d_M_readExpression_54 rfl (by omega) (by first | assumption | exact vu_s | exact vu_t (by omega) (by first | assumption | exact vu_s | exact vu_t (by omega) (by first | assumption | exact vu_s | exact vu_t (by omega) (by first | assumption | exact vu_s))) | rfl | (simp only [va_up, Nat.reduceEqDiff, ↓reduceIte]; first | rfl | assumption)) rfl (by omega) (Nat.le_of_ble_eq_true rfl) ?_
            refine x_if_eq 64 d_M_readExpression_57 (by decide) (fun c3 => ?_) (fun c3 => ?_)
            · rw [bi0] at c3
              refine x_iconst (v := 0) d_M_readExpression_64 (by decide) ?_
              exact s65 false (by rw [e, c3]; rfl)
            · rw [bi1] at c3
              refine x_iconst (v := 1) d_M_readExpression_60 (by decide) ?_
              refine x_goto 65 d_M_readExpression_61 (by decide) ?_
              exact s65 true (by rw [c3, Bool.or_true])
          refine x_iload d_M_readExpression_37 rfl ?_
          refine x_bipush (v := 48) d_M_readExpression_39 (by decide) ?_
          refine x_icmp_lt 51 d_M_readExpression_41 (by decide) (fun c3 => ?_) (fun c3 => ?_)
          · exact s51 (by simp [isDig, Int32.not_le.mpr c3])
          · refine x_iload d_M_readExpression_44 rfl ?_
            refine x_bipush (v := 57) d_M_readExpression_46 (by decide) ?_
            refine x_icmp_le 60 d_M_readExpression_48 (by decide) (fun c4 => ?_) (fun c4 => ?_)
            · refine x_iconst (v := 1) d_M_readExpression_60 (by decide) ?_
              refine x_goto 65 d_M_readExpression_61 (by decide) ?_
              exact s65 true (by simp [isDig, Int32.not_lt.mp c3, c4])
            · exact s51 (by simp [isDig, c4])
  obtain ⟨sm, tm, bg, sn, mn, fa, lg⟩ := S
  obtain ⟨g1, g9, g10, g11, g12, g13, g14, pr, g15⟩ := id hS
  dsimp only at g1 g9 g10 g11 g12 g13 g14
  refine x_iconst (v := 0) d_M_readExpression_0 (by decide) ?_
  refine x_istore_n d_M_readExpression_1 (by decide) rfl ?_
  refine x_iconst (v := 0) d_M_readExpression_2 (by decide) ?_
  refine x_istore_n d_M_readExpression_3 (by decide) rfl ?_
  refine x_iconst (v := 1) d_M_readExpression_4 (by decide) ?_
  refine x_istore d_M_readExpression_5 (by decide) rfl ?_
  refine x_aload_n d_M_readExpression_7 rfl ?_
  refine x_iconst (v := 0) d_M_readExpression_8 (by decide) ?_
  refine x_cV (c_M_begin (d := 0) hN (by decide) g1 g9 g11 g12 g13) k_M_103 v_M_begin d_M_readExpression_9 rfl (by omega) (by first | assumption | exact vu_s | exact vu_t (by omega) (by first | assumption | exact vu_s | exact vu_t (by omega) (by first | assumption | exact vu_s | exact vu_t (by omega) (by first | assumption | exact vu_s))) | rfl | (simp only [va_up, Nat.reduceEqDiff, ↓reduceIte]; first | rfl | assumption)) rfl (by omega) (Nat.le_of_ble_eq_true rfl) ?_
  rintro r h2 ⟨rfl, rfl⟩
  refine x_iload_n d_M_readExpression_12 rfl ?_
  refine x_istore d_M_readExpression_13 (by decide) rfl ?_
  exact key (n + 1 - p0) p0 0 _ _ 0 true none none rfl (by omega) (RI_bg 0 hS) (frR_u (frR_u (frR_u (frR_u (frR_r h) (by omega)) (by omega)) (by omega)) (by omega)) (rJ_0 mn) hR0
