/-! The reference: define. -/
def stG (a : Nat → Int32) (b : Nat) (F : Nat → Int32) (k : Nat) : Nat → Int32 := fun j => if b ≤ j ∧ j < b + k then F (j - b) else a j
theorem stG_s (a : Nat → Int32) (b : Nat) (F : Nat → Int32) (k : Nat) : upd (stG a b F k) (b + k) (F k) = stG a b F (k + 1) := by
  funext j
  by_cases e : j = b + k
  · subst e
    simp only [upd, stG, if_true]
    rw [if_pos (by omega), show b + k - b = k by omega]
  · simp only [upd, stG, if_neg e]
    by_cases e2 : b ≤ j ∧ j < b + k
    · rw [if_pos e2, if_pos (by omega)]
    · rw [if_neg e2, if_neg (by omega)]
theorem stG_0 (a : Nat → Int32) (b : Nat) (F : Nat → Int32) : stG a b F 0 = a := by
  funext j
  simp only [stG]
  rw [if_neg (by omega)]
def cnD (C : CS) : Nat → Int32 := fun j => (C.1 j * 128 + C.2.1 j) * 16 + C.2.2 j
def frD (h h' : xHp) : Prop := ∀ i, i < 94 ∨ (94 < i ∧ i < 99) ∨ 115 < i → h' i = h i
theorem rdQ_k (f : Nat → Int32) (n : Nat) (ca : Int32) : ∀ m p k C, 4 * k ≤ p → p ≤ n → 4 * (rdQ f n ca m p k C).2.2.1 ≤ n
  | 0, p, k, C, h1, h2 => by
    rw [rdQ]
    show 4 * k ≤ n
    omega
  | m + 1, p, k, C, h1, h2 => by
    rw [rdQ]
    have b : 4 * k ≤ n := by omega
    split
    · split
      · exact b
      · split
        · exact b
        · split
          · exact b
          · rename_i _ _ _ e
            have : p + 3 < n := by
              rcases Nat.lt_or_ge (p + 3) n with q | q
              · exact q
              · rw [at1, if_neg (by omega)] at e
                exact absurd rfl e
            exact rdQ_k f n ca m (p + 4) (k + 1) _ (by omega) (by omega)
    · exact b
theorem rdA_k {f : Nat → Int32} {n : Nat} {cd : Int32} {S : RS} {C : CS} (hn : n ≤ 30) (h : (rdA f n cd S C).1 = -2) : ∃ c, c < 8 ∧ (rdA f n cd S C).2.2.1 = nI c := by
  have b1 : (rdK f n).2.1 ≤ 0 + n := rdC_b f n 0 0
  have b2 : (rdX f n S).2.1 ≤ n := rdE_b f n _ _ _ _ _ _ _ rfl
  have b4 : 4 * (rdO f n S C).2.2.1 ≤ n := rdQ_k f n _ _ _ _ _ (by omega) b2
  rw [rdA] at h ⊢
  split at h
  · exact absurd h (nI_m2 (by omega))
  · rename_i e1
    rw [if_neg e1]
    split at h
    · exact absurd h (nI_m2 (by omega))
    · rename_i e2
      rw [if_neg e2]
      refine ⟨(rdO f n S C).2.2.1, by omega, ?_⟩
      split
      · rfl
      · split
        · split
          · rfl
          · rfl
        · rfl
set_option maxRecDepth 100000 in
set_option maxHeartbeats 4000000 in
theorem c_M_define {N : Nat} {h : xHp} {ch ca cd gp : Int32} {f : Nat → Int32} {S : RS} {C : CS} {n : Nat} {th te co gr cn cf po : Nat → Int32} (q : Int32) (hN : 116 ≤ N) (hn : n ≤ 30) (h98 : h 98 = aI 30 f) (hS : RI ch (nI n) ca cd gp S h) (hC : CI ch (nI n) ca cd gp (bi (lgO S)) C h) (h2 : h 102 = aB 4 th) (h3 : h 103 = aI 4 te) (h4 : h 104 = aI 4 co) (h5 : h 105 = aI 4 gr) (h6 : h 106 = aI 4 cn) (h7 : h 107 = aI 40 cf) (h8 : h 108 = aI 324 po) : XM y_M_define b_M_define 4 (some .int) 5 0 0 [.ref 94, .int q] N h (fun (r : Option Value) (h' : xHp) => if isQn q = false then r = some (.int (-1)) ∧ h' = h else RI ch (nI n) (rdA f n cd S C).2.1 (rdA f n cd S C).2.2.1 (rdA f n cd S C).2.2.2.1 (rdA f n cd S C).2.2.2.2.1 h' ∧ CI ch (nI n) (rdA f n cd S C).2.1 (rdA f n cd S C).2.2.1 (rdA f n cd S C).2.2.2.1 (bi (lgO (rdA f n cd S C).2.2.2.2.1)) (rdA f n cd S C).2.2.2.2.2 h' ∧ (if (rdA f n cd S C).1 = -2 then (if lgO (rdA f n cd S C).2.2.2.2.1 = true then r = some (.int (-3)) ∧ frM h h' else r = some (.int (nI (filN (rdA f n cd S C).2.2.2.2.1.1 81))) ∧ frD h h' ∧ h' 102 = aB 4 (upd th q.toNatClampNeg 1) ∧ h' 103 = aI 4 (upd te q.toNatClampNeg (nI (filN (rdA f n cd S C).2.2.2.2.1.1 81))) ∧ h' 104 = aI 4 (upd co q.toNatClampNeg (rdA f n cd S C).2.1) ∧ h' 105 = aI 4 (upd gr q.toNatClampNeg (rdA f n cd S C).2.2.2.1) ∧ h' 106 = aI 4 (upd cn q.toNatClampNeg (rdA f n cd S C).2.2.1) ∧ h' 107 = aI 40 (stG cf (10 * q.toNatClampNeg) (cnD (rdA f n cd S C).2.2.2.2.2) (rdA f n cd S C).2.2.1.toNatClampNeg) ∧ h' 108 = aI 324 (stF po q.toNatClampNeg (rdA f n cd S C).2.2.2.2.1.1 81)) else r = some (.int (-2)) ∧ frM h h')) := by
  have hk2 := rdA_k (f := f) (cd := cd) (S := S) (C := C) hn
  have hrd := c_M_read hN hn h98 hS hC
  generalize rdA f n cd S C = A at hk2 hrd ⊢
  obtain ⟨a1, a2, a3, a4, ⟨sm, tm, bg, sn, mn, fa, lg⟩, C'⟩ := A
  dsimp only at hk2 hrd ⊢
  refine xM_intro [some (.ref 94), some (.int q), none, none] (by decide) (fun _ => rfl) (fun _ => Nat.le_of_ble_eq_true rfl) (fun Γ => ?_)
  have g1 := hS.1
  refine x_iload_n d_M_define_0 rfl ?_
  refine x_iconst (v := 4) d_M_define_1 (by decide) ?_
  refine x_cSe (c_M_in q 4) k_M_138 s_M_in d_M_define_2 rfl (by omega) (Nat.le_of_ble_eq_true rfl) ?_
  rw [inB_q]
  refine x_if_ne 10 d_M_define_5 (by decide) (fun c1 => ?_) (fun c1 => ?_)
  · rw [bi1] at c1
    obtain ⟨k, hk, rfl⟩ := isQn_n c1
    have hi : vp_in (nI k) 4 := vp_in_nI hk (by decide)
    have hck : (nI k).toNatClampNeg = k := nI_clamp (by omega)
    rw [hck]
    have hq0 : ¬ isQn (nI k) = false := by rw [c1]; decide
    generalize hQ : (fun (r : Option Value) (h' : xHp) => if isQn (nI k) = false then r = some (.int (-1)) ∧ h' = h else RI ch (nI n) a2 a3 a4 (sm, tm, bg, sn, mn, fa, lg) h' ∧ CI ch (nI n) a2 a3 a4 (bi (lgO (sm, tm, bg, sn, mn, fa, lg))) C' h' ∧ (if a1 = -2 then (if lgO (sm, tm, bg, sn, mn, fa, lg) = true then r = some (.int (-3)) ∧ frM h h' else r = some (.int (nI (filN sm 81))) ∧ frD h h' ∧ h' 102 = aB 4 (upd th k 1) ∧ h' 103 = aI 4 (upd te k (nI (filN sm 81))) ∧ h' 104 = aI 4 (upd co k a2) ∧ h' 105 = aI 4 (upd gr k a4) ∧ h' 106 = aI 4 (upd cn k a3) ∧ h' 107 = aI 40 (stG cf (10 * k) (cnD C') a3.toNatClampNeg) ∧ h' 108 = aI 324 (stF po k sm 81)) else r = some (.int (-2)) ∧ frM h h')) = Qp
    refine x_aload_n d_M_define_10 rfl ?_
    refine x_cV (hrd) k_M_153 v_M_read d_M_define_11 rfl (by omega) (by first | assumption | exact vu_s | exact vu_t (by omega) (by first | assumption | exact vu_s | exact vu_t (by omega) (by first | assumption | exact vu_s | exact vu_t (by omega) (by first | assumption | exact vu_s))) | rfl | (simp only [va_up, Nat.reduceEqDiff, ↓reduceIte]; first | rfl | assumption)) rfl (by omega) (Nat.le_of_ble_eq_true rfl) ?_
    rintro r H ⟨rfl, i1, j1, f1⟩
    have k1 := i1.1
    have e2 : H 102 = aB 4 th := (f1 _ (by decide) (by decide)).trans h2
    have e3 : H 103 = aI 4 te := (f1 _ (by decide) (by decide)).trans h3
    have e4 : H 104 = aI 4 co := (f1 _ (by decide) (by decide)).trans h4
    have e5 : H 105 = aI 4 gr := (f1 _ (by decide) (by decide)).trans h5
    have e6 : H 106 = aI 4 cn := (f1 _ (by decide) (by decide)).trans h6
    have e7 : H 107 = aI 40 cf := (f1 _ (by decide) (by decide)).trans h7
    have e8 : H 108 = aI 324 po := (f1 _ (by decide) (by decide)).trans h8
    refine x_bipush (v := -2) d_M_define_14 (by decide) ?_
    refine x_icmp_eq 22 d_M_define_16 (by decide) (fun c2 => ?_) (fun c2 => ?_)
    · obtain ⟨c, hc, rfl⟩ := hk2 c2
      have hcc : (nI c).toNatClampNeg = c := nI_clamp (by omega)
      dsimp only [lgO] at k1
      refine x_aload_n d_M_define_22 rfl ?_
      refine x_get f_M_85 d_M_define_23 (by omega) (by first | assumption | exact vu_s | exact vu_t (by omega) (by first | assumption | exact vu_s | exact vu_t (by omega) (by first | assumption | exact vu_s | exact vu_t (by omega) (by first | assumption | exact vu_s))) | rfl | (simp only [va_up, Nat.reduceEqDiff, ↓reduceIte]; first | rfl | assumption)) rfl ?_
      refine x_if_eq 32 d_M_define_26 (by decide) (fun c3 => ?_) (fun c3 => ?_)
      · rw [bi0] at c3
        obtain ⟨k1', k9, k10, k11, k12, k13, k14, pr, k15⟩ := id i1
        dsimp only at k9 k10 k11 k12 k13 k14
        obtain ⟨j0, j99, j100, j101⟩ := id j1
        refine x_aload_n d_M_define_32 rfl ?_
        refine x_get f_M_31 d_M_define_33 (by omega) (by first | assumption | exact vu_s | exact vu_t (by omega) (by first | assumption | exact vu_s | exact vu_t (by omega) (by first | assumption | exact vu_s | exact vu_t (by omega) (by first | assumption | exact vu_s))) | rfl | (simp only [va_up, Nat.reduceEqDiff, ↓reduceIte]; first | rfl | assumption)) rfl ?_
        refine x_iload_n d_M_define_36 rfl ?_
        refine x_iconst (v := 1) d_M_define_37 (by decide) ?_
        refine x_zast d_M_define_38 (by omega) (by first | assumption | exact vu_s | exact vu_t (by omega) (by first | assumption | exact vu_s | exact vu_t (by omega) (by first | assumption | exact vu_s | exact vu_t (by omega) (by first | assumption | exact vu_s))) | rfl | (simp only [va_up, Nat.reduceEqDiff, ↓reduceIte]; first | rfl | assumption)) (by assumption) rfl ?_
        refine x_aload_n d_M_define_39 rfl ?_
        refine x_get f_M_38 d_M_define_40 (by omega) (by first | assumption | exact vu_s | exact vu_t (by omega) (by first | assumption | exact vu_s | exact vu_t (by omega) (by first | assumption | exact vu_s | exact vu_t (by omega) (by first | assumption | exact vu_s))) | rfl | (simp only [va_up, Nat.reduceEqDiff, ↓reduceIte]; first | rfl | assumption)) rfl ?_
        refine x_iload_n d_M_define_43 rfl ?_
        refine x_aload_n d_M_define_44 rfl ?_
        refine x_get f_M_78 d_M_define_45 (by omega) (by first | assumption | exact vu_s | exact vu_t (by omega) (by first | assumption | exact vu_s | exact vu_t (by omega) (by first | assumption | exact vu_s | exact vu_t (by omega) (by first | assumption | exact vu_s))) | rfl | (simp only [va_up, Nat.reduceEqDiff, ↓reduceIte]; first | rfl | assumption)) rfl ?_
        refine x_iast d_M_define_48 (by omega) (by first | assumption | exact vu_s | exact vu_t (by omega) (by first | assumption | exact vu_s | exact vu_t (by omega) (by first | assumption | exact vu_s | exact vu_t (by omega) (by first | assumption | exact vu_s))) | rfl | (simp only [va_up, Nat.reduceEqDiff, ↓reduceIte]; first | rfl | assumption)) (by assumption) ?_
        refine x_aload_n d_M_define_49 rfl ?_
        refine x_get f_M_41 d_M_define_50 (by omega) (by first | assumption | exact vu_s | exact vu_t (by omega) (by first | assumption | exact vu_s | exact vu_t (by omega) (by first | assumption | exact vu_s | exact vu_t (by omega) (by first | assumption | exact vu_s))) | rfl | (simp only [va_up, Nat.reduceEqDiff, ↓reduceIte]; first | rfl | assumption)) rfl ?_
        refine x_iload_n d_M_define_53 rfl ?_
        refine x_aload_n d_M_define_54 rfl ?_
        refine x_get f_M_125 d_M_define_55 (by omega) (by first | assumption | exact vu_s | exact vu_t (by omega) (by first | assumption | exact vu_s | exact vu_t (by omega) (by first | assumption | exact vu_s | exact vu_t (by omega) (by first | assumption | exact vu_s))) | rfl | (simp only [va_up, Nat.reduceEqDiff, ↓reduceIte]; first | rfl | assumption)) rfl ?_
        refine x_iast d_M_define_58 (by omega) (by first | assumption | exact vu_s | exact vu_t (by omega) (by first | assumption | exact vu_s | exact vu_t (by omega) (by first | assumption | exact vu_s | exact vu_t (by omega) (by first | assumption | exact vu_s))) | rfl | (simp only [va_up, Nat.reduceEqDiff, ↓reduceIte]; first | rfl | assumption)) (by assumption) ?_
        refine x_aload_n d_M_define_59 rfl ?_
        refine x_get f_M_44 d_M_define_60 (by omega) (by first | assumption | exact vu_s | exact vu_t (by omega) (by first | assumption | exact vu_s | exact vu_t (by omega) (by first | assumption | exact vu_s | exact vu_t (by omega) (by first | assumption | exact vu_s))) | rfl | (simp only [va_up, Nat.reduceEqDiff, ↓reduceIte]; first | rfl | assumption)) rfl ?_
        refine x_iload_n d_M_define_63 rfl ?_
        refine x_aload_n d_M_define_64 rfl ?_
        refine x_get f_M_119 d_M_define_65 (by omega) (by first | assumption | exact vu_s | exact vu_t (by omega) (by first | assumption | exact vu_s | exact vu_t (by omega) (by first | assumption | exact vu_s | exact vu_t (by omega) (by first | assumption | exact vu_s))) | rfl | (simp only [va_up, Nat.reduceEqDiff, ↓reduceIte]; first | rfl | assumption)) rfl ?_
        refine x_iast d_M_define_68 (by omega) (by first | assumption | exact vu_s | exact vu_t (by omega) (by first | assumption | exact vu_s | exact vu_t (by omega) (by first | assumption | exact vu_s | exact vu_t (by omega) (by first | assumption | exact vu_s))) | rfl | (simp only [va_up, Nat.reduceEqDiff, ↓reduceIte]; first | rfl | assumption)) (by assumption) ?_
        refine x_iconst (v := 0) d_M_define_69 (by decide) ?_
        refine x_istore_n d_M_define_70 (by decide) rfl ?_
        refine x_iconst (v := 0) d_M_define_71 (by decide) ?_
        refine x_istore_n d_M_define_72 (by decide) rfl ?_
        rw [hck]
        generalize hG : va_up (va_up (va_up (va_up H 102 (aB 4 (upd th k 1))) 104 (aI 4 (upd co k a2))) 105 (aI 4 (upd gr k a4))) 106 (aI 4 (upd cn k (nI c))) = G
        have hGf : ∀ i, i ≠ 102 → i ≠ 104 → i ≠ 105 → i ≠ 106 → G i = H i := by
          intro i z1 z2 z3 z4
          rw [← hG, vu_n z4, vu_n z3, vu_n z2, vu_n z1]
        have G2 : G 102 = aB 4 (upd th k 1) := by rw [← hG]; exact vu_t (by decide) (vu_t (by decide) (vu_t (by decide) vu_s))
        have G4 : G 104 = aI 4 (upd co k a2) := by rw [← hG]; exact vu_t (by decide) (vu_t (by decide) vu_s)
        have G5 : G 105 = aI 4 (upd gr k a4) := by rw [← hG]; exact vu_t (by decide) vu_s
        have G6 : G 106 = aI 4 (upd cn k (nI c)) := by rw [← hG]; exact vu_s
        have G94 : G 94 = oM ch (nI n) a2 (nI c) a4 (bi lg) := (hGf _ (by decide) (by decide) (by decide) (by decide)).trans k1
        have G99 : G 99 = aI 10 C'.1 := (hGf _ (by decide) (by decide) (by decide) (by decide)).trans j99
        have G100 : G 100 = aI 10 C'.2.1 := (hGf _ (by decide) (by decide) (by decide) (by decide)).trans j100
        have G101 : G 101 = aI 10 C'.2.2 := (hGf _ (by decide) (by decide) (by decide) (by decide)).trans j101
        have G103 : G 103 = aI 4 te := (hGf _ (by decide) (by decide) (by decide) (by decide)).trans e3
        have G107 : G 107 = aI 40 cf := (hGf _ (by decide) (by decide) (by decide) (by decide)).trans e7
        have G108 : G 108 = aI 324 po := (hGf _ (by decide) (by decide) (by decide) (by decide)).trans e8
        have G109 : G 109 = aI 729 sm := (hGf _ (by decide) (by decide) (by decide) (by decide)).trans k9
        clear hG
        have l2 : ∀ (m j : Nat), j ≤ c → c - j < m → XW Γ y_M_define b_M_define 4 (some .int) (5, 0, 0) (xQ Γ (N + 0) 0 0 Qp) 0 0 N (va_up (va_up G 108 (aI 324 (stF po k sm 81))) 107 (aI 40 (stG cf (10 * k) (cnD C') j))) 116 [some (.ref 94), some (.int (nI k)), some (.int (nI (filN sm 81))), some (.int (nI j))] [] := by
          intro m
          induction m with
          | zero => intro j _ h0; omega
          | succ m ih =>
            intro j hj hjm
            refine x_iload_n d_M_define_116 rfl ?_
            refine x_aload_n d_M_define_117 rfl ?_
            refine x_get f_M_119 d_M_define_118 (by omega) (by first | assumption | exact vu_s | exact vu_t (by omega) (by first | assumption | exact vu_s | exact vu_t (by omega) (by first | assumption | exact vu_s | exact vu_t (by omega) (by first | assumption | exact vu_s))) | rfl | (simp only [va_up, Nat.reduceEqDiff, ↓reduceIte]; first | rfl | assumption)) rfl ?_
            refine x_icmp_ge 168 d_M_define_121 (by decide) (fun d1 => ?_) (fun d1 => ?_)
            · have e := nI_end (n := c) hj (by omega) d1
              subst e
              refine x_aload_n d_M_define_168 rfl ?_
              refine x_get f_M_35 d_M_define_169 (by omega) (by first | assumption | exact vu_s | exact vu_t (by omega) (by first | assumption | exact vu_s | exact vu_t (by omega) (by first | assumption | exact vu_s | exact vu_t (by omega) (by first | assumption | exact vu_s))) | rfl | (simp only [va_up, Nat.reduceEqDiff, ↓reduceIte]; first | rfl | assumption)) rfl ?_
              refine x_iload_n d_M_define_172 rfl ?_
              refine x_iload_n d_M_define_173 rfl ?_
              refine x_iast d_M_define_174 (by omega) (by first | assumption | exact vu_s | exact vu_t (by omega) (by first | assumption | exact vu_s | exact vu_t (by omega) (by first | assumption | exact vu_s | exact vu_t (by omega) (by first | assumption | exact vu_s))) | rfl | (simp only [va_up, Nat.reduceEqDiff, ↓reduceIte]; first | rfl | assumption)) (by assumption) ?_
              refine x_iload_n d_M_define_175 rfl ?_
              refine x_iret d_M_define_176 ?_
              rw [hck, ← hQ]
              dsimp only
              rw [if_neg hq0, if_pos c2, if_neg (show ¬ lg = true by rw [c3]; decide), hcc]
              refine ⟨?_, ⟨vu_t (by decide) (vu_t (by decide) (vu_t (by decide) G94)), vu_t (by decide) (vu_t (by decide) (vu_t (by decide) G99)), vu_t (by decide) (vu_t (by decide) (vu_t (by decide) G100)), vu_t (by decide) (vu_t (by decide) (vu_t (by decide) G101))⟩, rfl, ?_, vu_t (by decide) (vu_t (by decide) (vu_t (by decide) G2)), vu_s, vu_t (by decide) (vu_t (by decide) (vu_t (by decide) G4)), vu_t (by decide) (vu_t (by decide) (vu_t (by decide) G5)), vu_t (by decide) (vu_t (by decide) (vu_t (by decide) G6)), vu_t (by decide) vu_s, vu_t (by decide) (vu_t (by decide) vu_s)⟩
              · have t : ∀ i, i = 94 ∨ 109 ≤ i → va_up (va_up (va_up G 108 (aI 324 (stF po k sm 81))) 107 (aI 40 (stG cf (10 * k) (cnD C') j))) 103 (aI 4 (upd te k (nI (filN sm 81)))) i = H i := by
                  intro i hi
                  rw [vu_n (by omega), vu_n (by omega), vu_n (by omega), hGf i (by omega) (by omega) (by omega) (by omega)]
                exact ⟨(t _ (by decide)).trans k1', (t _ (by decide)).trans k9, (t _ (by decide)).trans k10, (t _ (by decide)).trans k11, (t _ (by decide)).trans k12, (t _ (by decide)).trans k13, (t _ (by decide)).trans k14, pr, (t _ (by decide)).trans k15⟩
              · intro i hi
                rw [vu_n (by omega), vu_n (by omega), vu_n (by omega), hGf i (by omega) (by omega) (by omega) (by omega)]
                exact f1 i (by omega) (by omega)
            · have hlt := nI_more (n := c) hj (by omega) d1
              have hif : vp_in (nI j) 10 := vp_in_nI (by omega) (by decide)
              have hcf : (nI j).toNatClampNeg = j := nI_clamp (by omega)
              have hi2 : vp_in ((10 : Int32) * nI k + nI j) 40 := by
                rw [show (10 : Int32) = nI 10 from rfl, pk_mul, nI_add]
                exact vp_in_nI (by omega) (by decide)
              have hci : ((10 : Int32) * nI k + nI j).toNatClampNeg = 10 * k + j := by
                rw [show (10 : Int32) = nI 10 from rfl, pk_mul, nI_add]
                exact nI_clamp (by omega)
              refine x_aload_n d_M_define_124 rfl ?_
              refine x_get f_M_47 d_M_define_125 (by omega) (by first | assumption | exact vu_s | exact vu_t (by omega) (by first | assumption | exact vu_s | exact vu_t (by omega) (by first | assumption | exact vu_s | exact vu_t (by omega) (by first | assumption | exact vu_s))) | rfl | (simp only [va_up, Nat.reduceEqDiff, ↓reduceIte]; first | rfl | assumption)) rfl ?_
              refine x_bipush (v := 10) d_M_define_128 (by decide) ?_
              refine x_iload_n d_M_define_130 rfl ?_
              refine x_imul d_M_define_131 ?_
              refine x_iload_n d_M_define_132 rfl ?_
              refine x_iadd d_M_define_133 ?_
              refine x_aload_n d_M_define_134 rfl ?_
              refine x_get f_M_22 d_M_define_135 (by omega) (by first | assumption | exact vu_s | exact vu_t (by omega) (by first | assumption | exact vu_s | exact vu_t (by omega) (by first | assumption | exact vu_s | exact vu_t (by omega) (by first | assumption | exact vu_s))) | rfl | (simp only [va_up, Nat.reduceEqDiff, ↓reduceIte]; first | rfl | assumption)) rfl ?_
              refine x_iload_n d_M_define_138 rfl ?_
              refine x_iald d_M_define_139 (by omega) (by first | assumption | exact vu_s | exact vu_t (by omega) (by first | assumption | exact vu_s | exact vu_t (by omega) (by first | assumption | exact vu_s | exact vu_t (by omega) (by first | assumption | exact vu_s))) | rfl | (simp only [va_up, Nat.reduceEqDiff, ↓reduceIte]; first | rfl | assumption)) (by assumption) ?_
              refine x_sipush (v := 128) d_M_define_140 (by decide) ?_
              refine x_imul d_M_define_143 ?_
              refine x_aload_n d_M_define_144 rfl ?_
              refine x_get f_M_25 d_M_define_145 (by omega) (by first | assumption | exact vu_s | exact vu_t (by omega) (by first | assumption | exact vu_s | exact vu_t (by omega) (by first | assumption | exact vu_s | exact vu_t (by omega) (by first | assumption | exact vu_s))) | rfl | (simp only [va_up, Nat.reduceEqDiff, ↓reduceIte]; first | rfl | assumption)) rfl ?_
              refine x_iload_n d_M_define_148 rfl ?_
              refine x_iald d_M_define_149 (by omega) (by first | assumption | exact vu_s | exact vu_t (by omega) (by first | assumption | exact vu_s | exact vu_t (by omega) (by first | assumption | exact vu_s | exact vu_t (by omega) (by first | assumption | exact vu_s))) | rfl | (simp only [va_up, Nat.reduceEqDiff, ↓reduceIte]; first | rfl | assumption)) (by assumption) ?_
              refine x_iadd d_M_define_150 ?_
              refine x_bipush (v := 16) d_M_define_151 (by decide) ?_
              refine x_imul d_M_define_153 ?_
              refine x_aload_n d_M_define_154 rfl ?_
              refine x_get f_M_28 d_M_define_155 (by omega) (by first | assumption | exact vu_s | exact vu_t (by omega) (by first | assumption | exact vu_s | exact vu_t (by omega) (by first | assumption | exact vu_s | exact vu_t (by omega) (by first | assumption | exact vu_s))) | rfl | (simp only [va_up, Nat.reduceEqDiff, ↓reduceIte]; first | rfl | assumption)) rfl ?_
              refine x_iload_n d_M_define_158 rfl ?_
              refine x_iald d_M_define_159 (by omega) (by first | assumption | exact vu_s | exact vu_t (by omega) (by first | assumption | exact vu_s | exact vu_t (by omega) (by first | assumption | exact vu_s | exact vu_t (by omega) (by first | assumption | exact vu_s))) | rfl | (simp only [va_up, Nat.reduceEqDiff, ↓reduceIte]; first | rfl | assumption)) (by assumption) ?_
              refine x_iadd d_M_define_160 ?_
              refine x_iast d_M_define_161 (by omega) (by first | assumption | exact vu_s | exact vu_t (by omega) (by first | assumption | exact vu_s | exact vu_t (by omega) (by first | assumption | exact vu_s | exact vu_t (by omega) (by first | assumption | exact vu_s))) | rfl | (simp only [va_up, Nat.reduceEqDiff, ↓reduceIte]; first | rfl | assumption)) (by assumption) ?_
              refine x_iinc1 d_M_define_162 rfl (by decide) rfl ?_
              refine x_goto 116 d_M_define_165 (by decide) ?_
              rw [nI_1, hci, hcf, bx_uu]
              refine XW_h ?_ (ih (j + 1) (by omega) (by omega))
              rw [← stG_s]
              rfl
        have l1 : ∀ (m j : Nat), j ≤ 81 → 81 - j < m → XW Γ y_M_define b_M_define 4 (some .int) (5, 0, 0) (xQ Γ (N + 0) 0 0 Qp) 0 0 N (va_up G 108 (aI 324 (stF po k sm j))) 73 [some (.ref 94), some (.int (nI k)), some (.int (nI (filN sm j))), some (.int (nI j))] [] := by
          intro m
          induction m with
          | zero => intro j _ h0; omega
          | succ m ih =>
            intro j hj hjm
            refine x_iload_n d_M_define_73 rfl ?_
            refine x_bipush (v := 81) d_M_define_74 (by decide) ?_
            refine x_icmp_ge 114 d_M_define_76 (by decide) (fun d1 => ?_) (fun d1 => ?_)
            · have e := nI_end (n := 81) hj (by decide) d1
              subst e
              refine x_iconst (v := 0) d_M_define_114 (by decide) ?_
              refine x_istore_n d_M_define_115 (by decide) rfl ?_
              refine XW_h ?_ (l2 (c + 1) 0 (by omega) (by omega))
              rw [stG_0, show aI 40 cf = va_up G 108 (aI 324 (stF po k sm 81)) 107 from (vu_t (by decide) G107).symm, vu_e]
            · have hlt := nI_more (n := 81) hj (by decide) d1
              have hif : vp_in (nI j) 729 := vp_in_nI (by omega) (by decide)
              have hcf : (nI j).toNatClampNeg = j := nI_clamp (by omega)
              have hi2 : vp_in ((81 : Int32) * nI k + nI j) 324 := by rw [i81]; exact vp_in_nI (by omega) (by decide)
              have hci : ((81 : Int32) * nI k + nI j).toNatClampNeg = 81 * k + j := by rw [i81]; exact nI_clamp (by omega)
              refine x_aload_n d_M_define_79 rfl ?_
              refine x_get f_M_50 d_M_define_80 (by omega) (by first | assumption | exact vu_s | exact vu_t (by omega) (by first | assumption | exact vu_s | exact vu_t (by omega) (by first | assumption | exact vu_s | exact vu_t (by omega) (by first | assumption | exact vu_s))) | rfl | (simp only [va_up, Nat.reduceEqDiff, ↓reduceIte]; first | rfl | assumption)) rfl ?_
              refine x_bipush (v := 81) d_M_define_83 (by decide) ?_
              refine x_iload_n d_M_define_85 rfl ?_
              refine x_imul d_M_define_86 ?_
              refine x_iload_n d_M_define_87 rfl ?_
              refine x_iadd d_M_define_88 ?_
              refine x_aload_n d_M_define_89 rfl ?_
              refine x_get f_M_53 d_M_define_90 (by omega) (by first | assumption | exact vu_s | exact vu_t (by omega) (by first | assumption | exact vu_s | exact vu_t (by omega) (by first | assumption | exact vu_s | exact vu_t (by omega) (by first | assumption | exact vu_s))) | rfl | (simp only [va_up, Nat.reduceEqDiff, ↓reduceIte]; first | rfl | assumption)) rfl ?_
              refine x_iload_n d_M_define_93 rfl ?_
              refine x_iald d_M_define_94 (by omega) (by first | assumption | exact vu_s | exact vu_t (by omega) (by first | assumption | exact vu_s | exact vu_t (by omega) (by first | assumption | exact vu_s | exact vu_t (by omega) (by first | assumption | exact vu_s))) | rfl | (simp only [va_up, Nat.reduceEqDiff, ↓reduceIte]; first | rfl | assumption)) (by assumption) ?_
              refine x_iast d_M_define_95 (by omega) (by first | assumption | exact vu_s | exact vu_t (by omega) (by first | assumption | exact vu_s | exact vu_t (by omega) (by first | assumption | exact vu_s | exact vu_t (by omega) (by first | assumption | exact vu_s))) | rfl | (simp only [va_up, Nat.reduceEqDiff, ↓reduceIte]; first | rfl | assumption)) (by assumption) ?_
              refine x_aload_n d_M_define_96 rfl ?_
              refine x_get f_M_53 d_M_define_97 (by omega) (by first | assumption | exact vu_s | exact vu_t (by omega) (by first | assumption | exact vu_s | exact vu_t (by omega) (by first | assumption | exact vu_s | exact vu_t (by omega) (by first | assumption | exact vu_s))) | rfl | (simp only [va_up, Nat.reduceEqDiff, ↓reduceIte]; first | rfl | assumption)) rfl ?_
              refine x_iload_n d_M_define_100 rfl ?_
              refine x_iald d_M_define_101 (by omega) (by first | assumption | exact vu_s | exact vu_t (by omega) (by first | assumption | exact vu_s | exact vu_t (by omega) (by first | assumption | exact vu_s | exact vu_t (by omega) (by first | assumption | exact vu_s))) | rfl | (simp only [va_up, Nat.reduceEqDiff, ↓reduceIte]; first | rfl | assumption)) (by assumption) ?_
              rw [hci, hcf, stF_s, bx_uu]
              refine x_if_eq 108 d_M_define_102 (by decide) (fun d2 => ?_) (fun d2 => ?_)
              · refine x_iinc1 d_M_define_108 rfl (by decide) rfl ?_
                refine x_goto 73 d_M_define_111 (by decide) ?_
                rw [nI_1]
                have := ih (j + 1) (by omega) (by omega)
                rw [show filN sm (j + 1) = filN sm j by simp [filN, d2]] at this
                exact this
              · refine x_iinc1 d_M_define_105 rfl (by decide) rfl ?_
                refine x_iinc1 d_M_define_108 rfl (by decide) rfl ?_
                refine x_goto 73 d_M_define_111 (by decide) ?_
                rw [nI_1, nI_1]
                have := ih (j + 1) (by omega) (by omega)
                rw [show filN sm (j + 1) = filN sm j + 1 by simp [filN, d2]] at this
                exact this
        have := l1 82 0 (by omega) (by omega)
        rw [stF_0, ← G108, vu_e] at this
        exact this
      · rw [bi1] at c3
        refine x_bipush (v := -3) d_M_define_29 (by decide) ?_
        refine x_iret d_M_define_31 ?_
        rw [← hQ]
        dsimp only
        rw [if_neg hq0, if_pos c2, if_pos c3]
        exact ⟨i1, j1, rfl, f1⟩
    · refine x_bipush (v := -2) d_M_define_19 (by decide) ?_
      refine x_iret d_M_define_21 ?_
      rw [← hQ]
      dsimp only
      rw [if_neg hq0, if_neg c2]
      exact ⟨i1, j1, rfl, f1⟩
  · rw [bi0] at c1
    refine x_iconst (v := -1) d_M_define_8 (by decide) ?_
    refine x_iret d_M_define_9 ?_
    rw [if_pos c1]
    exact ⟨rfl, rfl⟩
