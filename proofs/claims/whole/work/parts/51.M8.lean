/-! The reference: multiply, endFactor. -/
/-- the wide product after n steps -/
def pwg (s : Po) (l r : Po) : Nat → Po
  | 0 => s
  | n + 1 => upd (pwg s l r n) (wd (n / 81) + wd (n % 81)) (pwg s l r n (wd (n / 81) + wd (n % 81)) + l (n / 81) * r (n % 81))
abbrev pwd (l r : Po) (n : Nat) : Po := pwg pZ l r n
theorem pwg_cg {s s' l r : Po} (hs : ∀ i, i < 625 → s i = s' i) : ∀ n, n ≤ 6561 → ∀ i, i < 625 → pwg s l r n i = pwg s' l r n i
  | 0, _ => hs
  | n + 1, h => by
    intro i hi
    have a := wd_lt (n / 81) (by omega)
    have b := wd_lt (n % 81) (by omega)
    simp only [pwg, upd]
    rw [pwg_cg hs n (by omega) i hi, pwg_cg hs n (by omega) _ (by omega)]
def outW (W : Nat → Int32) : Prop := ∃ i, i < 625 ∧ (∀ k, k < 81 → wd k ≠ i) ∧ ¬ W i = 0
theorem wd_inj : ∀ a, a < 81 → ∀ b, b < 81 → wd a = wd b → a = b := by decide +kernel
/-- the places of the first k are 0 -/
def zw (W : Nat → Int32) (k : Nat) : Nat → Int32
  | i => match k with
    | 0 => W i
    | k + 1 => if i = wd k then 0 else zw W k i
theorem zw_s (W : Nat → Int32) (k : Nat) : upd (zw W k) (wd k) 0 = zw W (k + 1) := by
  funext i
  by_cases e : i = wd k
  · subst e
    simp [upd, zw]
  · simp only [upd, if_neg e]
    rw [zw]
    simp [e]
theorem zw_n {W : Nat → Int32} {i : Nat} : ∀ k, (∀ a, a < k → wd a ≠ i) → zw W k i = W i
  | 0, _ => by rw [zw]
  | k + 1, h => by
    rw [zw]
    simp only [if_neg (fun e : i = wd k => h k (by omega) e.symm)]
    exact zw_n k (fun a ha => h a (by omega))
theorem zw_z {W : Nat → Int32} {i a : Nat} (hi : wd a = i) : ∀ k, a < k → zw W k i = 0
  | 0, h => by omega
  | k + 1, h => by
    rw [zw]
    by_cases e : i = wd k
    · simp [e]
    · simp only [if_neg e]
      exact zw_z hi k (by
        rcases Nat.lt_or_ge a k with q | q
        · exact q
        · have : a = k := by omega
          subst this
          exact absurd hi.symm e)
theorem pwd_cg {l l' r r' : Po} (hl : pe l l') (hr : pe r r') : ∀ n, n ≤ 6561 → pwd l r n = pwd l' r' n
  | 0, _ => rfl
  | n + 1, h => by
    have := pwd_cg hl hr n (by omega)
    simp only [pwd] at this
    simp only [pwd, pwg]
    rw [this, hl (n / 81) (by omega), hr (n % 81) (by omega)]
theorem stF_cg (a : Nat → Int32) (d : Nat) {F G : Po} (k : Nat) (h : ∀ j, j < k → F j = G j) : stF a d F k = stF a d G k := by
  funext j
  simp only [stF]
  by_cases e : 81 * d ≤ j ∧ j < 81 * d + k
  · rw [if_pos e, if_pos e, h _ (by omega)]
  · rw [if_neg e, if_neg e]
theorem outW_cg {W V : Nat → Int32} (h : ∀ i, i < 625 → W i = V i) : outW W ↔ outW V :=
  ⟨fun ⟨i, a, b, c⟩ => ⟨i, a, b, by rw [← h i a]; exact c⟩, fun ⟨i, a, b, c⟩ => ⟨i, a, b, by rw [h i a]; exact c⟩⟩
set_option maxRecDepth 100000 in
set_option maxHeartbeats 4000000 in
theorem c_M_multiply {N : Nat} {h : xHp} {ch ln ca cd gp : Int32} {lg : Bool} {tm fa pr : Nat → Int32} {d : Nat} (hN : 116 ≤ N) (hd : d < 9) (h1 : h 94 = oM ch ln ca cd gp (bi lg)) (h2 : h 110 = aI 729 tm) (h3 : h 114 = aI 81 fa) (h4 : h 115 = aI 625 pr) : XM y_M_multiply b_M_multiply 3 none 1 0 0 [.ref 94, .int (nI d)] N h (fun r h' => r = none ∧ ∃ (pr' : Nat → Int32) (lg' : Bool), (lg' = true ↔ lg = true ∨ outW (pwd (sg tm d) fa 6561)) ∧ h' = va_up (va_up (va_up h 115 (aI 625 pr')) 110 (aI 729 (stF tm d (fun k => pwd (sg tm d) fa 6561 (wd k)) 81))) 94 (oM ch ln ca cd gp (bi lg'))) := by
  refine xM_intro [some (.ref 94), some (.int (nI d)), none] (by decide) (fun _ => rfl) (fun _ => Nat.le_of_ble_eq_true rfl) (fun Γ => ?_)
  generalize hQ : (fun (r : Option Value) (h' : xHp) => r = none ∧ ∃ (pr' : Nat → Int32) (lg' : Bool), (lg' = true ↔ lg = true ∨ outW (pwd (sg tm d) fa 6561)) ∧ h' = va_up (va_up (va_up h 115 (aI 625 pr')) 110 (aI 729 (stF tm d (fun k => pwd (sg tm d) fa 6561 (wd k)) 81))) 94 (oM ch ln ca cd gp (bi lg'))) = Qp
  have hz : ∀ i, i < 625 → pwg (filF pr 0 625) (sg tm d) fa 6561 i = pwd (sg tm d) fa 6561 i := pwg_cg (fun i hi => by simp only [filF, if_pos hi, pZ]) 6561 (by omega)
  rw [← stF_cg tm d 81 (fun k hk => hz (wd k) (by have := wd_lt k hk; omega)), ← propext (outW_cg hz)] at hQ
  generalize hW : pwg (filF pr 0 625) (sg tm d) fa 6561 = W at hQ
  have l4 : ∀ (m k : Nat) (b : Bool), k ≤ 625 → 625 - k < m → (b = true ↔ lg = true ∨ ∃ i, i < k ∧ (∀ a, a < 81 → wd a ≠ i) ∧ ¬ W i = 0) → XW Γ y_M_multiply b_M_multiply 3 none (1, 0, 0) (xQ Γ (N + 0) 0 0 Qp) 0 0 N (va_up (va_up (va_up h 115 (aI 625 (zw W 81))) 110 (aI 729 (stF tm d (fun k => W (wd k)) 81))) 94 (oM ch ln ca cd gp (bi b))) 130 [some (.ref 94), some (.int (nI d)), some (.int (nI k))] [] := by
    intro m
    induction m with
    | zero => intro k b _ h0; omega
    | succ m ih =>
      intro k b hk hkm hb
      refine x_iload_n d_M_multiply_130 rfl ?_
      refine x_sipush (v := 625) d_M_multiply_131 (by decide) ?_
      refine x_icmp_ge 157 d_M_multiply_134 (by decide) (fun c1 => ?_) (fun c1 => ?_)
      · have e := nI_end (n := 625) hk (by decide) c1
        subst e
        refine x_vret d_M_multiply_157 ?_
        rw [← hQ]
        exact ⟨rfl, zw W 81, b, hb, rfl⟩
      · have hlt := nI_more (n := 625) hk (by decide) c1
        have hi : vp_in (nI k) 625 := vp_in_nI hlt (by decide)
        refine x_aload_n d_M_multiply_137 rfl ?_
        refine x_get f_M_71 d_M_multiply_138 (by omega) (by first | assumption | exact vu_s | exact vu_t (by omega) (by first | assumption | exact vu_s | exact vu_t (by omega) (by first | assumption | exact vu_s | exact vu_t (by omega) (by first | assumption | exact vu_s))) | rfl | (simp only [va_up, Nat.reduceEqDiff, ↓reduceIte]; first | rfl | assumption)) rfl ?_
        refine x_iload_n d_M_multiply_141 rfl ?_
        refine x_iald d_M_multiply_142 (by omega) (by first | assumption | exact vu_s | exact vu_t (by omega) (by first | assumption | exact vu_s | exact vu_t (by omega) (by first | assumption | exact vu_s | exact vu_t (by omega) (by first | assumption | exact vu_s))) | rfl | (simp only [va_up, Nat.reduceEqDiff, ↓reduceIte]; first | rfl | assumption)) (by assumption) ?_
        rw [nI_clamp (show k < 2 ^ 31 by omega)]
        refine x_if_eq 151 d_M_multiply_143 (by decide) (fun c2 => ?_) (fun c2 => ?_)
        · refine x_iinc1 d_M_multiply_151 rfl (by decide) rfl ?_
          refine x_goto 130 d_M_multiply_154 (by decide) ?_
          rw [nI_1]
          refine ih (k + 1) b (by omega) (by omega) (hb.trans (or_congr Iff.rfl ⟨fun ⟨i, z1, z2⟩ => ⟨i, by omega, z2⟩, fun ⟨i, z1, z2, z3⟩ => ?_⟩))
          rcases Nat.lt_or_ge i k with q | q
          · exact ⟨i, q, z2, z3⟩
          · have : i = k := by omega
            subst this
            rw [zw_n 81 z2] at c2
            exact absurd c2 z3
        · refine x_aload_n d_M_multiply_146 rfl ?_
          refine x_iconst (v := 1) d_M_multiply_147 (by decide) ?_
          refine x_put f_M_85 d_M_multiply_148 (by omega) (by first | assumption | exact vu_s | exact vu_t (by omega) (by first | assumption | exact vu_s | exact vu_t (by omega) (by first | assumption | exact vu_s | exact vu_t (by omega) (by first | assumption | exact vu_s))) | rfl | (simp only [va_up, Nat.reduceEqDiff, ↓reduceIte]; first | rfl | assumption)) (Nat.le_of_ble_eq_true rfl) (fun _ => ⟨rfl, rfl⟩) ?_
          refine x_iinc1 d_M_multiply_151 rfl (by decide) rfl ?_
          refine x_goto 130 d_M_multiply_154 (by decide) ?_
          rw [nI_1, bx_uu]
          have z2 : ∀ a, a < 81 → wd a ≠ k := by
            intro a ha e
            exact c2 (zw_z e 81 ha)
          rw [zw_n 81 z2] at c2
          exact ih (k + 1) true (by omega) (by omega) ⟨fun _ => Or.inr ⟨k, by omega, z2, c2⟩, fun _ => rfl⟩
  have l3 : ∀ (m k : Nat), k ≤ 81 → 81 - k < m → XW Γ y_M_multiply b_M_multiply 3 none (1, 0, 0) (xQ Γ (N + 0) 0 0 Qp) 0 0 N (va_up (va_up h 115 (aI 625 (zw W k))) 110 (aI 729 (stF tm d (fun k => W (wd k)) k))) 86 [some (.ref 94), some (.int (nI d)), some (.int (nI k))] [] := by
    intro m
    induction m with
    | zero => intro k _ h0; omega
    | succ m ih =>
      intro k hk hkm
      refine x_iload_n d_M_multiply_86 rfl ?_
      refine x_bipush (v := 81) d_M_multiply_87 (by decide) ?_
      refine x_icmp_ge 128 d_M_multiply_89 (by decide) (fun c1 => ?_) (fun c1 => ?_)
      · have e := nI_end (n := 81) hk (by decide) c1
        subst e
        refine x_iconst (v := 0) d_M_multiply_128 (by decide) ?_
        refine x_istore_n d_M_multiply_129 (by decide) rfl ?_
        have := l4 626 0 lg (by omega) (by omega) ⟨fun z => Or.inl z, fun z => z.elim id (fun ⟨i, z1, _⟩ => by omega)⟩
        refine XW_h ?_ this
        rw [show oM ch ln ca cd gp (bi lg) = va_up (va_up h 115 (aI 625 (zw W 81))) 110 (aI 729 (stF tm d (fun k => W (wd k)) 81)) 94 from (vu_t (by decide) (vu_t (by decide) h1)).symm, vu_e]
      · have hlt := nI_more (n := 81) hk (by decide) c1
        have hwl := wd_lt k hlt
        have hi : vp_in ((81 : Int32) * nI d + nI k) 729 := by rw [i81]; exact vp_in_nI (by omega) (by decide)
        have hci : ((81 : Int32) * nI d + nI k).toNatClampNeg = 81 * d + k := by rw [i81]; exact nI_clamp (by omega)
        have hiw : vp_in (nI (wd k)) 625 := vp_in_nI (by omega) (by decide)
        have hcw : (nI (wd k)).toNatClampNeg = wd k := nI_clamp (by omega)
        refine x_aload_n d_M_multiply_92 rfl ?_
        refine x_get f_M_56 d_M_multiply_93 (by omega) (by first | assumption | exact vu_s | exact vu_t (by omega) (by first | assumption | exact vu_s | exact vu_t (by omega) (by first | assumption | exact vu_s | exact vu_t (by omega) (by first | assumption | exact vu_s))) | rfl | (simp only [va_up, Nat.reduceEqDiff, ↓reduceIte]; first | rfl | assumption)) rfl ?_
        refine x_bipush (v := 81) d_M_multiply_96 (by decide) ?_
        refine x_iload_n d_M_multiply_98 rfl ?_
        refine x_imul d_M_multiply_99 ?_
        refine x_iload_n d_M_multiply_100 rfl ?_
        refine x_iadd d_M_multiply_101 ?_
        refine x_aload_n d_M_multiply_102 rfl ?_
        refine x_get f_M_71 d_M_multiply_103 (by omega) (by first | assumption | exact vu_s | exact vu_t (by omega) (by first | assumption | exact vu_s | exact vu_t (by omega) (by first | assumption | exact vu_s | exact vu_t (by omega) (by first | assumption | exact vu_s))) | rfl | (simp only [va_up, Nat.reduceEqDiff, ↓reduceIte]; first | rfl | assumption)) rfl ?_
        refine x_iload_n d_M_multiply_106 rfl ?_
        refine x_cSe (c_M_wide hlt) k_M_89 s_M_wide d_M_multiply_107 rfl (by omega) (Nat.le_of_ble_eq_true rfl) ?_
        refine x_iald d_M_multiply_110 (by omega) (by first | assumption | exact vu_s | exact vu_t (by omega) (by first | assumption | exact vu_s | exact vu_t (by omega) (by first | assumption | exact vu_s | exact vu_t (by omega) (by first | assumption | exact vu_s))) | rfl | (simp only [va_up, Nat.reduceEqDiff, ↓reduceIte]; first | rfl | assumption)) (by assumption) ?_
        refine x_iast d_M_multiply_111 (by omega) (by first | assumption | exact vu_s | exact vu_t (by omega) (by first | assumption | exact vu_s | exact vu_t (by omega) (by first | assumption | exact vu_s | exact vu_t (by omega) (by first | assumption | exact vu_s))) | rfl | (simp only [va_up, Nat.reduceEqDiff, ↓reduceIte]; first | rfl | assumption)) (by assumption) ?_
        refine x_aload_n d_M_multiply_112 rfl ?_
        refine x_get f_M_71 d_M_multiply_113 (by omega) (by first | assumption | exact vu_s | exact vu_t (by omega) (by first | assumption | exact vu_s | exact vu_t (by omega) (by first | assumption | exact vu_s | exact vu_t (by omega) (by first | assumption | exact vu_s))) | rfl | (simp only [va_up, Nat.reduceEqDiff, ↓reduceIte]; first | rfl | assumption)) rfl ?_
        refine x_iload_n d_M_multiply_116 rfl ?_
        refine x_cSe (c_M_wide hlt) k_M_89 s_M_wide d_M_multiply_117 rfl (by omega) (Nat.le_of_ble_eq_true rfl) ?_
        refine x_iconst (v := 0) d_M_multiply_120 (by decide) ?_
        refine x_iast d_M_multiply_121 (by omega) (by first | assumption | exact vu_s | exact vu_t (by omega) (by first | assumption | exact vu_s | exact vu_t (by omega) (by first | assumption | exact vu_s | exact vu_t (by omega) (by first | assumption | exact vu_s))) | rfl | (simp only [va_up, Nat.reduceEqDiff, ↓reduceIte]; first | rfl | assumption)) (by assumption) ?_
        refine x_iinc1 d_M_multiply_122 rfl (by decide) rfl ?_
        refine x_goto 86 d_M_multiply_125 (by decide) ?_
        rw [nI_1, hci, hcw, zw_n k (fun a ha e => by have := wd_inj a (by omega) k hlt e; omega), zw_s]
        refine XW_h ?_ (ih (k + 1) (by omega) (by omega))
        rw [← stF_s, bx_uu, vu_c (va_up h 115 (aI 625 (zw W k))) _ _ (by decide : (115 : Nat) ≠ 110), bx_uu]
  have l2 : ∀ (m k : Nat), k ≤ 6561 → 6561 - k < m → XW Γ y_M_multiply b_M_multiply 3 none (1, 0, 0) (xQ Γ (N + 0) 0 0 Qp) 0 0 N (va_up h 115 (aI 625 (pwg (filF pr 0 625) (sg tm d) fa k))) 24 [some (.ref 94), some (.int (nI d)), some (.int (nI k))] [] := by
    intro m
    induction m with
    | zero => intro k _ h0; omega
    | succ m ih =>
      intro k hk hkm
      refine x_iload_n d_M_multiply_24 rfl ?_
      refine x_sipush (v := 6561) d_M_multiply_25 (by decide) ?_
      refine x_icmp_ge 84 d_M_multiply_28 (by decide) (fun c1 => ?_) (fun c1 => ?_)
      · have e := nI_end (n := 6561) hk (by decide) c1
        subst e
        refine x_iconst (v := 0) d_M_multiply_84 (by decide) ?_
        refine x_istore_n d_M_multiply_85 (by decide) rfl ?_
        refine XW_h ?_ (l3 82 0 (by omega) (by omega))
        rw [stF_0, hW, show zw W 0 = W from rfl]
        rw [show aI 729 tm = va_up h 115 (aI 625 W) 110 from (vu_t (by decide) h2).symm, vu_e]
      · have hlt := nI_more (n := 6561) hk (by decide) c1
        have h81 : k / 81 < 81 := by omega
        have hm81 : k % 81 < 81 := by omega
        have e81 : nI k / 81 = nI (k / 81) := pk_div (d := 81) (by omega) (by decide) (by decide)
        have r81 : nI k - nI k / 81 * 81 = nI (k % 81) := pk_rem (d := 81) (by omega) (by decide) (by decide)
        have w1 := wd_lt _ h81
        have w2 := wd_lt _ hm81
        have hiw : vp_in (nI (wd (k / 81)) + nI (wd (k % 81))) 625 := by rw [nI_add]; exact vp_in_nI (by omega) (by decide)
        have hcw : (nI (wd (k / 81)) + nI (wd (k % 81))).toNatClampNeg = wd (k / 81) + wd (k % 81) := by rw [nI_add]; exact nI_clamp (by omega)
        have hi : vp_in ((81 : Int32) * nI d + nI (k / 81)) 729 := by rw [i81]; exact vp_in_nI (by omega) (by decide)
        have hci : ((81 : Int32) * nI d + nI (k / 81)).toNatClampNeg = 81 * d + k / 81 := by rw [i81]; exact nI_clamp (by omega)
        have hif : vp_in (nI (k % 81)) 81 := vp_in_nI (by omega) (by decide)
        have hcf : (nI (k % 81)).toNatClampNeg = k % 81 := nI_clamp (by omega)
        refine x_aload_n d_M_multiply_31 rfl ?_
        refine x_get f_M_71 d_M_multiply_32 (by omega) (by first | assumption | exact vu_s | exact vu_t (by omega) (by first | assumption | exact vu_s | exact vu_t (by omega) (by first | assumption | exact vu_s | exact vu_t (by omega) (by first | assumption | exact vu_s))) | rfl | (simp only [va_up, Nat.reduceEqDiff, ↓reduceIte]; first | rfl | assumption)) rfl ?_
        refine x_iload_n d_M_multiply_35 rfl ?_
        refine x_bipush (v := 81) d_M_multiply_36 (by decide) ?_
        refine x_idiv d_M_multiply_38 (by decide) ?_
        rw [e81]
        refine x_cSe (c_M_wide h81) k_M_89 s_M_wide d_M_multiply_39 rfl (by omega) (Nat.le_of_ble_eq_true rfl) ?_
        refine x_iload_n d_M_multiply_42 rfl ?_
        refine x_bipush (v := 81) d_M_multiply_43 (by decide) ?_
        refine x_irem d_M_multiply_45 (by decide) ?_
        rw [r81]
        refine x_cSe (c_M_wide hm81) k_M_89 s_M_wide d_M_multiply_46 rfl (by omega) (Nat.le_of_ble_eq_true rfl) ?_
        refine x_iadd d_M_multiply_49 ?_
        refine x_dup2 d_M_multiply_50 rfl rfl ?_
        refine x_iald d_M_multiply_51 (by omega) (by first | assumption | exact vu_s | exact vu_t (by omega) (by first | assumption | exact vu_s | exact vu_t (by omega) (by first | assumption | exact vu_s | exact vu_t (by omega) (by first | assumption | exact vu_s))) | rfl | (simp only [va_up, Nat.reduceEqDiff, ↓reduceIte]; first | rfl | assumption)) (by assumption) ?_
        refine x_aload_n d_M_multiply_52 rfl ?_
        refine x_get f_M_56 d_M_multiply_53 (by omega) (by first | assumption | exact vu_s | exact vu_t (by omega) (by first | assumption | exact vu_s | exact vu_t (by omega) (by first | assumption | exact vu_s | exact vu_t (by omega) (by first | assumption | exact vu_s))) | rfl | (simp only [va_up, Nat.reduceEqDiff, ↓reduceIte]; first | rfl | assumption)) rfl ?_
        refine x_bipush (v := 81) d_M_multiply_56 (by decide) ?_
        refine x_iload_n d_M_multiply_58 rfl ?_
        refine x_imul d_M_multiply_59 ?_
        refine x_iload_n d_M_multiply_60 rfl ?_
        refine x_bipush (v := 81) d_M_multiply_61 (by decide) ?_
        refine x_idiv d_M_multiply_63 (by decide) ?_
        rw [e81]
        refine x_iadd d_M_multiply_64 ?_
        refine x_iald d_M_multiply_65 (by omega) (by first | assumption | exact vu_s | exact vu_t (by omega) (by first | assumption | exact vu_s | exact vu_t (by omega) (by first | assumption | exact vu_s | exact vu_t (by omega) (by first | assumption | exact vu_s))) | rfl | (simp only [va_up, Nat.reduceEqDiff, ↓reduceIte]; first | rfl | assumption)) (by assumption) ?_
        refine x_aload_n d_M_multiply_66 rfl ?_
        refine x_get f_M_68 d_M_multiply_67 (by omega) (by first | assumption | exact vu_s | exact vu_t (by omega) (by first | assumption | exact vu_s | exact vu_t (by omega) (by first | assumption | exact vu_s | exact vu_t (by omega) (by first | assumption | exact vu_s))) | rfl | (simp only [va_up, Nat.reduceEqDiff, ↓reduceIte]; first | rfl | assumption)) rfl ?_
        refine x_iload_n d_M_multiply_70 rfl ?_
        refine x_bipush (v := 81) d_M_multiply_71 (by decide) ?_
        refine x_irem d_M_multiply_73 (by decide) ?_
        rw [r81]
        refine x_iald d_M_multiply_74 (by omega) (by first | assumption | exact vu_s | exact vu_t (by omega) (by first | assumption | exact vu_s | exact vu_t (by omega) (by first | assumption | exact vu_s | exact vu_t (by omega) (by first | assumption | exact vu_s))) | rfl | (simp only [va_up, Nat.reduceEqDiff, ↓reduceIte]; first | rfl | assumption)) (by assumption) ?_
        refine x_imul d_M_multiply_75 ?_
        refine x_iadd d_M_multiply_76 ?_
        refine x_iast d_M_multiply_77 (by omega) (by first | assumption | exact vu_s | exact vu_t (by omega) (by first | assumption | exact vu_s | exact vu_t (by omega) (by first | assumption | exact vu_s | exact vu_t (by omega) (by first | assumption | exact vu_s))) | rfl | (simp only [va_up, Nat.reduceEqDiff, ↓reduceIte]; first | rfl | assumption)) (by assumption) ?_
        refine x_iinc1 d_M_multiply_78 rfl (by decide) rfl ?_
        refine x_goto 24 d_M_multiply_81 (by decide) ?_
        rw [nI_1, hcw, hci, hcf, bx_uu]
        exact ih (k + 1) (by omega) (by omega)
  have l1 : ∀ (m k : Nat), k ≤ 625 → 625 - k < m → XW Γ y_M_multiply b_M_multiply 3 none (1, 0, 0) (xQ Γ (N + 0) 0 0 Qp) 0 0 N (va_up h 115 (aI 625 (filF pr 0 k))) 2 [some (.ref 94), some (.int (nI d)), some (.int (nI k))] [] := by
    intro m
    induction m with
    | zero => intro k _ h0; omega
    | succ m ih =>
      intro k hk hkm
      refine x_iload_n d_M_multiply_2 rfl ?_
      refine x_sipush (v := 625) d_M_multiply_3 (by decide) ?_
      refine x_icmp_ge 22 d_M_multiply_6 (by decide) (fun c1 => ?_) (fun c1 => ?_)
      · have e := nI_end (n := 625) hk (by decide) c1
        subst e
        refine x_iconst (v := 0) d_M_multiply_22 (by decide) ?_
        refine x_istore_n d_M_multiply_23 (by decide) rfl ?_
        exact l2 6562 0 (by omega) (by omega)
      · have hlt := nI_more (n := 625) hk (by decide) c1
        have hi : vp_in (nI k) 625 := vp_in_nI hlt (by decide)
        refine x_aload_n d_M_multiply_9 rfl ?_
        refine x_get f_M_71 d_M_multiply_10 (by omega) (by first | assumption | exact vu_s | exact vu_t (by omega) (by first | assumption | exact vu_s | exact vu_t (by omega) (by first | assumption | exact vu_s | exact vu_t (by omega) (by first | assumption | exact vu_s))) | rfl | (simp only [va_up, Nat.reduceEqDiff, ↓reduceIte]; first | rfl | assumption)) rfl ?_
        refine x_iload_n d_M_multiply_13 rfl ?_
        refine x_iconst (v := 0) d_M_multiply_14 (by decide) ?_
        refine x_iast d_M_multiply_15 (by omega) (by first | assumption | exact vu_s | exact vu_t (by omega) (by first | assumption | exact vu_s | exact vu_t (by omega) (by first | assumption | exact vu_s | exact vu_t (by omega) (by first | assumption | exact vu_s))) | rfl | (simp only [va_up, Nat.reduceEqDiff, ↓reduceIte]; first | rfl | assumption)) (by assumption) ?_
        refine x_iinc1 d_M_multiply_16 rfl (by decide) rfl ?_
        refine x_goto 2 d_M_multiply_19 (by decide) ?_
        rw [nI_1, nI_clamp (show k < 2 ^ 31 by omega), filF_s, bx_uu]
        exact ih (k + 1) (by omega) (by omega)
  refine x_iconst (v := 0) d_M_multiply_0 (by decide) ?_
  refine x_istore_n d_M_multiply_1 (by decide) rfl ?_
  have := l1 626 0 (by omega) (by omega)
  rw [filF_0, show aI 625 pr = h 115 from h4.symm, vu_e] at this
  exact this
