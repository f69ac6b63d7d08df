/-! The reference: readConditions. -/
abbrev CS : Type := (Nat → Int32) × (Nat → Int32) × (Nat → Int32)
def at1 (f : Nat → Int32) (n i : Nat) : Int32 := if i < n then f i else -1
def rlM (c : Int32) : Bool := decide (c = 61) || decide (c = 35) || decide (c = 60) || decide (c = 62)
def rdQ (f : Nat → Int32) (n : Nat) (ca : Int32) : Nat → Nat → Nat → CS → Bool × Nat × Nat × CS
  | 0, p, k, C => (true, p, k, C)
  | m + 1, p, k, C =>
    if at1 f n p = 63 then
      if hasM ca (at1 f n (p + 1)) = false then (false, min (p + 1) n, k, C)
      else if rlM (at1 f n (p + 2)) = false then (false, min (p + 2) n, k, C)
      else if isDig (at1 f n (p + 3)) = false then (false, min (p + 3) n, k, C)
      else rdQ f n ca m (p + 4) (k + 1) (upd C.1 k (colOf (at1 f n (p + 1))), upd C.2.1 k (at1 f n (p + 2)), upd C.2.2 k (at1 f n (p + 3) - 48))
    else (true, p, k, C)
/-- the conditions' cells -/
def CI (ch ln ca cd gp lg : Int32) (C : CS) (h : xHp) : Prop := h 94 = oM ch ln ca cd gp lg ∧ h 99 = aI 10 C.1 ∧ h 100 = aI 10 C.2.1 ∧ h 101 = aI 10 C.2.2
def frC (h h' : xHp) : Prop := ∀ i, i ≠ 94 → (i < 99 ∨ 101 < i) → h' i = h i
theorem frC_u {a b : xHp} (x : frC a b) {k : Nat} {v : xE} (hk : k = 94 ∨ (99 ≤ k ∧ k ≤ 101)) : frC a (va_up b k v) := fun i p q => (vu_n (by omega)).trans (x i p q)
set_option maxRecDepth 100000 in
set_option maxHeartbeats 4000000 in
theorem c_M_readConditions {N : Nat} {h : xHp} {ch ca cd gp lg : Int32} {f : Nat → Int32} {C : CS} {n p0 : Nat} (hN : 116 ≤ N) (hn : n ≤ 30) (hp : p0 ≤ n) (h98 : h 98 = aI 30 f) (hC : CI ch (nI n) ca cd gp lg C h) : XM y_M_readConditions b_M_readConditions 4 (some .int) 2 0 0 [.ref 94, .int (nI p0)] N h (fun r h' => r = some (.int (rv (rdQ f n ca 31 p0 0 C).1 (rdQ f n ca 31 p0 0 C).2.1)) ∧ CI ch (nI n) ca (nI (rdQ f n ca 31 p0 0 C).2.2.1) gp lg (rdQ f n ca 31 p0 0 C).2.2.2 h' ∧ frC h h') := by
  refine xM_intro [some (.ref 94), some (.int (nI p0)), none, none] (by decide) (fun _ => rfl) (fun _ => Nat.le_of_ble_eq_true rfl) (fun Γ => ?_)
  generalize hR0 : rdQ f n ca 31 p0 0 C = R
  generalize hQ : (fun (r : Option Value) (h' : xHp) => r = some (.int (rv R.1 R.2.1)) ∧ CI ch (nI n) ca (nI R.2.2.1) gp lg R.2.2.2 h' ∧ frC h h') = Qp
  have key : ∀ (m p k : Nat) (C : CS) (h' : xHp) (x3 : Option Value), n < p + m → p < 50 → 4 * k ≤ p → CI ch (nI n) ca (nI k) gp lg C h' → frC h h' → rdQ f n ca m p k C = R → XW Γ y_M_readConditions b_M_readConditions 4 (some .int) (2, 0, 0) (xQ Γ (N + 0) 0 0 Qp) 0 0 N h' 7 [some (.ref 94), some (.int (nI p0)), some (.int (nI p)), x3] [] := by
    intro m
    induction m with
    | zero =>
      intro p k C h' x3 hm hp5 hk hC hf hR
      have g1 := hC.1
      have g98 : h' 98 = aI 30 f := (hf 98 (by decide) (by decide)).trans h98
      refine x_aload_n d_M_readConditions_7 rfl ?_
      refine x_iload_n d_M_readConditions_8 rfl ?_
      refine x_cVe (c_M_at p hN hn (by omega) g1 g98) k_M_100 v_M_at d_M_readConditions_9 rfl (by omega) (by first | assumption | exact vu_s | exact vu_t (by omega) (by first | assumption | exact vu_s | exact vu_t (by omega) (by first | assumption | exact vu_s | exact vu_t (by omega) (by first | assumption | exact vu_s))) | rfl | (simp only [va_up, Nat.reduceEqDiff, ↓reduceIte]; first | rfl | assumption)) rfl (by omega) (Nat.le_of_ble_eq_true rfl) ?_
      rw [if_neg (by omega)]
      refine x_bipush (v := 63) d_M_readConditions_12 (by decide) ?_
      refine x_icmp_ne 181 d_M_readConditions_14 (by decide) (fun c1 => ?_) (fun c1 => ?_)
      · refine x_iload_n d_M_readConditions_181 rfl ?_
        refine x_iret d_M_readConditions_182 ?_
        rw [← hQ, ← hR]
        exact ⟨rfl, hC, hf⟩
      · exact absurd c1 (by decide)
    | succ m ih =>
      intro p k C h' x3 hm hp5 hk hC hf hR
      obtain ⟨g1, g99, g100, g101⟩ := id hC
      have g98 : h' 98 = aI 30 f := (hf 98 (by decide) (by decide)).trans h98
      have a1 : nI p + 1 = nI (p + 1) := nI_1 p
      have a2 : nI p + 2 = nI (p + 2) := nI_add p 2
      have a3 : nI p + 3 = nI (p + 3) := nI_add p 3
      have a4 : nI p + Int32.ofInt 4 = nI (p + 4) := nI_add p 4
      rw [rdQ] at hR
      refine x_aload_n d_M_readConditions_7 rfl ?_
      refine x_iload_n d_M_readConditions_8 rfl ?_
      refine x_cVe (c_M_at p hN hn (by omega) g1 g98) k_M_100 v_M_at d_M_readConditions_9 rfl (by omega) (by first | assumption | exact vu_s | exact vu_t (by omega) (by first | assumption | exact vu_s | exact vu_t (by omega) (by first | assumption | exact vu_s | exact vu_t (by omega) (by first | assumption | exact vu_s))) | rfl | (simp only [va_up, Nat.reduceEqDiff, ↓reduceIte]; first | rfl | assumption)) rfl (by omega) (Nat.le_of_ble_eq_true rfl) ?_
      rw [show (if p < n then f p else -1) = at1 f n p from rfl]
      refine x_bipush (v := 63) d_M_readConditions_12 (by decide) ?_
      refine x_icmp_ne 181 d_M_readConditions_14 (by decide) (fun c1 => ?_) (fun c1 => ?_)
      · rw [if_neg c1] at hR
        refine x_iload_n d_M_readConditions_181 rfl ?_
        refine x_iret d_M_readConditions_182 ?_
        rw [← hQ, ← hR]
        exact ⟨rfl, hC, hf⟩
      · rw [if_pos c1] at hR
        have hpn : p < n := by
          rcases Nat.lt_or_ge p n with q | q
          · exact q
          · rw [at1, if_neg (by omega)] at c1
            exact absurd c1 (by decide)
        have hik : vp_in (nI k) 10 := vp_in_nI (by omega) (by decide)
        have hck : (nI k).toNatClampNeg = k := nI_clamp (by omega)
        refine x_aload_n d_M_readConditions_17 rfl ?_
        refine x_aload_n d_M_readConditions_18 rfl ?_
        refine x_iload_n d_M_readConditions_19 rfl ?_
        refine x_iconst (v := 1) d_M_readConditions_20 (by decide) ?_
        refine x_iadd d_M_readConditions_21 ?_
        rw [a1]
        refine x_cVe (c_M_at (p + 1) hN hn (by omega) g1 g98) k_M_100 v_M_at d_M_readConditions_22 rfl (by omega) (by first | assumption | exact vu_s | exact vu_t (by omega) (by first | assumption | exact vu_s | exact vu_t (by omega) (by first | assumption | exact vu_s | exact vu_t (by omega) (by first | assumption | exact vu_s))) | rfl | (simp only [va_up, Nat.reduceEqDiff, ↓reduceIte]; first | rfl | assumption)) rfl (by omega) (Nat.le_of_ble_eq_true rfl) ?_
        rw [show (if p + 1 < n then f (p + 1) else -1) = at1 f n (p + 1) from rfl]
        refine x_cVe (c_M_has _ hN g1) k_M_106 v_M_has d_M_readConditions_25 rfl (by omega) (by first | assumption | exact vu_s | exact vu_t (by omega) (by first | assumption | exact vu_s | exact vu_t (by omega) (by first | assumption | exact vu_s | exact vu_t (by omega) (by first | assumption | exact vu_s))) | rfl | (simp only [va_up, Nat.reduceEqDiff, ↓reduceIte]; first | rfl | assumption)) rfl (by omega) (Nat.le_of_ble_eq_true rfl) ?_
        refine x_if_ne 41 d_M_readConditions_28 (by decide) (fun c2 => ?_) (fun c2 => ?_)
        · rw [bi1] at c2
          rw [if_neg (by rw [c2]; decide)] at hR
          refine x_aload_n d_M_readConditions_41 rfl ?_
          refine x_iload_n d_M_readConditions_42 rfl ?_
          refine x_iconst (v := 2) d_M_readConditions_43 (by decide) ?_
          refine x_iadd d_M_readConditions_44 ?_
          rw [a2]
          refine x_cVe (c_M_at (p + 2) hN hn (by omega) g1 g98) k_M_100 v_M_at d_M_readConditions_45 rfl (by omega) (by first | assumption | exact vu_s | exact vu_t (by omega) (by first | assumption | exact vu_s | exact vu_t (by omega) (by first | assumption | exact vu_s | exact vu_t (by omega) (by first | assumption | exact vu_s))) | rfl | (simp only [va_up, Nat.reduceEqDiff, ↓reduceIte]; first | rfl | assumption)) rfl (by omega) (Nat.le_of_ble_eq_true rfl) ?_
          rw [show (if p + 2 < n then f (p + 2) else -1) = at1 f n (p + 2) from rfl]
          generalize hc2 : at1 f n (p + 2) = c at hR
          have s83 : rlM c = true → XW Γ y_M_readConditions b_M_readConditions 4 (some .int) (2, 0, 0) (xQ Γ (N + 0) 0 0 Qp) 0 0 N h' 83 [some (.ref 94), some (.int (nI p0)), some (.int (nI p)), (some (.int c))] [] := by
            intro e
            rw [if_neg (by rw [e]; decide)] at hR
            have s107 : isDig (at1 f n (p + 3)) = false → XW Γ y_M_readConditions b_M_readConditions 4 (some .int) (2, 0, 0) (xQ Γ (N + 0) 0 0 Qp) 0 0 N h' 107 [some (.ref 94), some (.int (nI p0)), some (.int (nI p)), (some (.int c))] [] := by
              intro e3
              rw [if_pos e3] at hR
              refine x_iconst (v := -1) d_M_readConditions_107 (by decide) ?_
              refine x_aload_n d_M_readConditions_108 rfl ?_
              refine x_iload_n d_M_readConditions_109 rfl ?_
              refine x_iconst (v := 3) d_M_readConditions_110 (by decide) ?_
              refine x_iadd d_M_readConditions_111 ?_
              rw [a3]
              refine x_cVe (c_M_shorter (p + 3) hN hn (by omega) g1) k_M_122 v_M_shorter d_M_readConditions_112 rfl (by omega) (by first | assumption | exact vu_s | exact vu_t (by omega) (by first | assumption | exact vu_s | exact vu_t (by omega) (by first | assumption | exact vu_s | exact vu_t (by omega) (by first | assumption | exact vu_s))) | rfl | (simp only [va_up, Nat.reduceEqDiff, ↓reduceIte]; first | rfl | assumption)) rfl (by omega) (Nat.le_of_ble_eq_true rfl) ?_
              refine x_isub d_M_readConditions_115 ?_
              refine x_iret d_M_readConditions_116 ?_
              rw [← hQ, ← hR]
              exact ⟨rfl, hC, hf⟩
            refine x_aload_n d_M_readConditions_83 rfl ?_
            refine x_iload_n d_M_readConditions_84 rfl ?_
            refine x_iconst (v := 3) d_M_readConditions_85 (by decide) ?_
            refine x_iadd d_M_readConditions_86 ?_
            rw [a3]
            refine x_cVe (c_M_at (p + 3) hN hn (by omega) g1 g98) k_M_100 v_M_at d_M_readConditions_87 rfl (by omega) (by first | assumption | exact vu_s | exact vu_t (by omega) (by first | assumption | exact vu_s | exact vu_t (by omega) (by first | assumption | exact vu_s | exact vu_t (by omega) (by first | assumption | exact vu_s))) | rfl | (simp only [va_up, Nat.reduceEqDiff, ↓reduceIte]; first | rfl | assumption)) rfl (by omega) (Nat.le_of_ble_eq_true rfl) ?_
            rw [show (if p + 3 < n then f (p + 3) else -1) = at1 f n (p + 3) from rfl]
            refine x_bipush (v := 48) d_M_readConditions_90 (by decide) ?_
            refine x_icmp_lt 107 d_M_readConditions_92 (by decide) (fun c3 => ?_) (fun c3 => ?_)
            · exact s107 (by simp [isDig, Int32.not_le.mpr c3])
            · refine x_aload_n d_M_readConditions_95 rfl ?_
              refine x_iload_n d_M_readConditions_96 rfl ?_
              refine x_iconst (v := 3) d_M_readConditions_97 (by decide) ?_
              refine x_iadd d_M_readConditions_98 ?_
              rw [a3]
              refine x_cVe (c_M_at (p + 3) hN hn (by omega) g1 g98) k_M_100 v_M_at d_M_readConditions_99 rfl (by omega) (by first | assumption | exact vu_s | exact vu_t (by omega) (by first | assumption | exact vu_s | exact vu_t (by omega) (by first | assumption | exact vu_s | exact vu_t (by omega) (by first | assumption | exact vu_s))) | rfl | (simp only [va_up, Nat.reduceEqDiff, ↓reduceIte]; first | rfl | assumption)) rfl (by omega) (Nat.le_of_ble_eq_true rfl) ?_
              rw [show (if p + 3 < n then f (p + 3) else -1) = at1 f n (p + 3) from rfl]
              refine x_bipush (v := 57) d_M_readConditions_102 (by decide) ?_
              refine x_icmp_le 117 d_M_readConditions_104 (by decide) (fun c4 => ?_) (fun c4 => ?_)
              · rw [if_neg (by simp [isDig, Int32.not_lt.mp c3, c4])] at hR
                refine x_aload_n d_M_readConditions_117 rfl ?_
                refine x_get f_M_22 d_M_readConditions_118 (by omega) (by first | assumption | exact vu_s | exact vu_t (by omega) (by first | assumption | exact vu_s | exact vu_t (by omega) (by first | assumption | exact vu_s | exact vu_t (by omega) (by first | assumption | exact vu_s))) | rfl | (simp only [va_up, Nat.reduceEqDiff, ↓reduceIte]; first | rfl | assumption)) rfl ?_
                refine x_aload_n d_M_readConditions_121 rfl ?_
                refine x_get f_M_119 d_M_readConditions_122 (by omega) (by first | assumption | exact vu_s | exact vu_t (by omega) (by first | assumption | exact vu_s | exact vu_t (by omega) (by first | assumption | exact vu_s | exact vu_t (by omega) (by first | assumption | exact vu_s))) | rfl | (simp only [va_up, Nat.reduceEqDiff, ↓reduceIte]; first | rfl | assumption)) rfl ?_
                refine x_aload_n d_M_readConditions_125 rfl ?_
                refine x_iload_n d_M_readConditions_126 rfl ?_
                refine x_iconst (v := 1) d_M_readConditions_127 (by decide) ?_
                refine x_iadd d_M_readConditions_128 ?_
                rw [a1]
                refine x_cVe (c_M_at (p + 1) hN hn (by omega) g1 g98) k_M_100 v_M_at d_M_readConditions_129 rfl (by omega) (by first | assumption | exact vu_s | exact vu_t (by omega) (by first | assumption | exact vu_s | exact vu_t (by omega) (by first | assumption | exact vu_s | exact vu_t (by omega) (by first | assumption | exact vu_s))) | rfl | (simp only [va_up, Nat.reduceEqDiff, ↓reduceIte]; first | rfl | assumption)) rfl (by omega) (Nat.le_of_ble_eq_true rfl) ?_
                rw [show (if p + 1 < n then f (p + 1) else -1) = at1 f n (p + 1) from rfl]
                refine x_cSe (c_M_letter _) k_M_74 s_M_letter d_M_readConditions_132 rfl (by omega) (Nat.le_of_ble_eq_true rfl) ?_
                refine x_iast d_M_readConditions_135 (by omega) (by first | assumption | exact vu_s | exact vu_t (by omega) (by first | assumption | exact vu_s | exact vu_t (by omega) (by first | assumption | exact vu_s | exact vu_t (by omega) (by first | assumption | exact vu_s))) | rfl | (simp only [va_up, Nat.reduceEqDiff, ↓reduceIte]; first | rfl | assumption)) (by assumption) ?_
                refine x_aload_n d_M_readConditions_136 rfl ?_
                refine x_get f_M_25 d_M_readConditions_137 (by omega) (by first | assumption | exact vu_s | exact vu_t (by omega) (by first | assumption | exact vu_s | exact vu_t (by omega) (by first | assumption | exact vu_s | exact vu_t (by omega) (by first | assumption | exact vu_s))) | rfl | (simp only [va_up, Nat.reduceEqDiff, ↓reduceIte]; first | rfl | assumption)) rfl ?_
                refine x_aload_n d_M_readConditions_140 rfl ?_
                refine x_get f_M_119 d_M_readConditions_141 (by omega) (by first | assumption | exact vu_s | exact vu_t (by omega) (by first | assumption | exact vu_s | exact vu_t (by omega) (by first | assumption | exact vu_s | exact vu_t (by omega) (by first | assumption | exact vu_s))) | rfl | (simp only [va_up, Nat.reduceEqDiff, ↓reduceIte]; first | rfl | assumption)) rfl ?_
                refine x_iload_n d_M_readConditions_144 rfl ?_
                refine x_iast d_M_readConditions_145 (by omega) (by first | assumption | exact vu_s | exact vu_t (by omega) (by first | assumption | exact vu_s | exact vu_t (by omega) (by first | assumption | exact vu_s | exact vu_t (by omega) (by first | assumption | exact vu_s))) | rfl | (simp only [va_up, Nat.reduceEqDiff, ↓reduceIte]; first | rfl | assumption)) (by assumption) ?_
                refine x_aload_n d_M_readConditions_146 rfl ?_
                refine x_get f_M_28 d_M_readConditions_147 (by omega) (by first | assumption | exact vu_s | exact vu_t (by omega) (by first | assumption | exact vu_s | exact vu_t (by omega) (by first | assumption | exact vu_s | exact vu_t (by omega) (by first | assumption | exact vu_s))) | rfl | (simp only [va_up, Nat.reduceEqDiff, ↓reduceIte]; first | rfl | assumption)) rfl ?_
                refine x_aload_n d_M_readConditions_150 rfl ?_
                refine x_get f_M_119 d_M_readConditions_151 (by omega) (by first | assumption | exact vu_s | exact vu_t (by omega) (by first | assumption | exact vu_s | exact vu_t (by omega) (by first | assumption | exact vu_s | exact vu_t (by omega) (by first | assumption | exact vu_s))) | rfl | (simp only [va_up, Nat.reduceEqDiff, ↓reduceIte]; first | rfl | assumption)) rfl ?_
                refine x_aload_n d_M_readConditions_154 rfl ?_
                refine x_iload_n d_M_readConditions_155 rfl ?_
                refine x_iconst (v := 3) d_M_readConditions_156 (by decide) ?_
                refine x_iadd d_M_readConditions_157 ?_
                rw [a3, hck]
                refine x_cVe (c_M_at (p + 3) hN hn (by omega) (vu_t (by decide) (vu_t (by decide) g1)) (vu_t (by decide) (vu_t (by decide) g98))) k_M_100 v_M_at d_M_readConditions_158 rfl (by omega) (by first | assumption | exact vu_s | exact vu_t (by omega) (by first | assumption | exact vu_s | exact vu_t (by omega) (by first | assumption | exact vu_s | exact vu_t (by omega) (by first | assumption | exact vu_s))) | rfl | (simp only [va_up, Nat.reduceEqDiff, ↓reduceIte]; first | rfl | assumption)) rfl (by omega) (Nat.le_of_ble_eq_true rfl) ?_
                rw [show (if p + 3 < n then f (p + 3) else -1) = at1 f n (p + 3) from rfl]
                refine x_bipush (v := 48) d_M_readConditions_161 (by decide) ?_
                refine x_isub d_M_readConditions_163 ?_
                refine x_iast d_M_readConditions_164 (by omega) (by first | assumption | exact vu_s | exact vu_t (by omega) (by first | assumption | exact vu_s | exact vu_t (by omega) (by first | assumption | exact vu_s | exact vu_t (by omega) (by first | assumption | exact vu_s))) | rfl | (simp only [va_up, Nat.reduceEqDiff, ↓reduceIte]; first | rfl | assumption)) (by assumption) ?_
                refine x_aload_n d_M_readConditions_165 rfl ?_
                refine x_dup d_M_readConditions_166 rfl ?_
                refine x_get f_M_119 d_M_readConditions_167 (by omega) (by first | assumption | exact vu_s | exact vu_t (by omega) (by first | assumption | exact vu_s | exact vu_t (by omega) (by first | assumption | exact vu_s | exact vu_t (by omega) (by first | assumption | exact vu_s))) | rfl | (simp only [va_up, Nat.reduceEqDiff, ↓reduceIte]; first | rfl | assumption)) rfl ?_
                refine x_iconst (v := 1) d_M_readConditions_170 (by decide) ?_
                refine x_iadd d_M_readConditions_171 ?_
                refine x_put f_M_119 d_M_readConditions_172 (by omega) (by first | assumption | exact vu_s | exact vu_t (by omega) (by first | assumption | exact vu_s | exact vu_t (by omega) (by first | assumption | exact vu_s | exact vu_t (by omega) (by first | assumption | exact vu_s))) | rfl | (simp only [va_up, Nat.reduceEqDiff, ↓reduceIte]; first | rfl | assumption)) (Nat.le_of_ble_eq_true rfl) (fun _ => ⟨rfl, rfl⟩) ?_
                refine x_iinc d_M_readConditions_175 rfl rfl (by decide) rfl ?_
                refine x_goto 7 d_M_readConditions_178 (by decide) ?_
                rw [a4, nI_1, hck]
                refine ih (p + 4) (k + 1) _ _ _ (by omega) (by omega) (by omega) ⟨vu_s, ?_, ?_, ?_⟩ (frC_u (frC_u (frC_u (frC_u hf (by omega)) (by omega)) (by omega)) (by omega)) hR
                · exact vu_t (by decide) (vu_t (by decide) (vu_t (by decide) vu_s))
                · exact vu_t (by decide) (vu_t (by decide) vu_s)
                · exact vu_t (by decide) vu_s
              · exact s107 (by simp [isDig, c4])
          refine x_istore_n d_M_readConditions_48 (by decide) rfl ?_
          refine x_iload_n d_M_readConditions_49 rfl ?_
          refine x_bipush (v := 61) d_M_readConditions_50 (by decide) ?_
          refine x_icmp_eq 83 d_M_readConditions_52 (by decide) (fun d1 => ?_) (fun d1 => ?_)
          · exact s83 (by simp [rlM, d1])
          · refine x_iload_n d_M_readConditions_55 rfl ?_
            refine x_bipush (v := 35) d_M_readConditions_56 (by decide) ?_
            refine x_icmp_eq 83 d_M_readConditions_58 (by decide) (fun d2 => ?_) (fun d2 => ?_)
            · exact s83 (by simp [rlM, d2])
            · refine x_iload_n d_M_readConditions_61 rfl ?_
              refine x_bipush (v := 60) d_M_readConditions_62 (by decide) ?_
              refine x_icmp_eq 83 d_M_readConditions_64 (by decide) (fun d3 => ?_) (fun d3 => ?_)
              · exact s83 (by simp [rlM, d3])
              · refine x_iload_n d_M_readConditions_67 rfl ?_
                refine x_bipush (v := 62) d_M_readConditions_68 (by decide) ?_
                refine x_icmp_eq 83 d_M_readConditions_70 (by decide) (fun d4 => ?_) (fun d4 => ?_)
                · exact s83 (by simp [rlM, d4])
                · rw [if_pos (by simp [rlM, d1, d2, d3, d4])] at hR
                  refine x_iconst (v := -1) d_M_readConditions_73 (by decide) ?_
                  refine x_aload_n d_M_readConditions_74 rfl ?_
                  refine x_iload_n d_M_readConditions_75 rfl ?_
                  refine x_iconst (v := 2) d_M_readConditions_76 (by decide) ?_
                  refine x_iadd d_M_readConditions_77 ?_
                  rw [a2]
                  refine x_cVe (c_M_shorter (p + 2) hN hn (by omega) g1) k_M_122 v_M_shorter d_M_readConditions_78 rfl (by omega) (by first | assumption | exact vu_s | exact vu_t (by omega) (by first | assumption | exact vu_s | exact vu_t (by omega) (by first | assumption | exact vu_s | exact vu_t (by omega) (by first | assumption | exact vu_s))) | rfl | (simp only [va_up, Nat.reduceEqDiff, ↓reduceIte]; first | rfl | assumption)) rfl (by omega) (Nat.le_of_ble_eq_true rfl) ?_
                  refine x_isub d_M_readConditions_81 ?_
                  refine x_iret d_M_readConditions_82 ?_
                  rw [← hQ, ← hR]
                  exact ⟨rfl, hC, hf⟩
        · rw [bi0] at c2
          rw [if_pos c2] at hR
          refine x_iconst (v := -1) d_M_readConditions_31 (by decide) ?_
          refine x_aload_n d_M_readConditions_32 rfl ?_
          refine x_iload_n d_M_readConditions_33 rfl ?_
          refine x_iconst (v := 1) d_M_readConditions_34 (by decide) ?_
          refine x_iadd d_M_readConditions_35 ?_
          rw [a1]
          refine x_cVe (c_M_shorter (p + 1) hN hn (by omega) g1) k_M_122 v_M_shorter d_M_readConditions_36 rfl (by omega) (by first | assumption | exact vu_s | exact vu_t (by omega) (by first | assumption | exact vu_s | exact vu_t (by omega) (by first | assumption | exact vu_s | exact vu_t (by omega) (by first | assumption | exact vu_s))) | rfl | (simp only [va_up, Nat.reduceEqDiff, ↓reduceIte]; first | rfl | assumption)) rfl (by omega) (Nat.le_of_ble_eq_true rfl) ?_
          refine x_isub d_M_readConditions_39 ?_
          refine x_iret d_M_readConditions_40 ?_
          rw [← hQ, ← hR]
          exact ⟨rfl, hC, hf⟩
  obtain ⟨g1, g99, g100, g101⟩ := id hC
  refine x_iload_n d_M_readConditions_0 rfl ?_
  refine x_istore_n d_M_readConditions_1 (by decide) rfl ?_
  refine x_aload_n d_M_readConditions_2 rfl ?_
  refine x_iconst (v := 0) d_M_readConditions_3 (by decide) ?_
  refine x_put f_M_119 d_M_readConditions_4 (by omega) (by first | assumption | exact vu_s | exact vu_t (by omega) (by first | assumption | exact vu_s | exact vu_t (by omega) (by first | assumption | exact vu_s | exact vu_t (by omega) (by first | assumption | exact vu_s))) | rfl | (simp only [va_up, Nat.reduceEqDiff, ↓reduceIte]; first | rfl | assumption)) (Nat.le_of_ble_eq_true rfl) (fun _ => ⟨rfl, rfl⟩) ?_
  exact key 31 p0 0 C _ _ (by omega) (by omega) (by omega) ⟨vu_s, vu_t (by decide) g99, vu_t (by decide) g100, vu_t (by decide) g101⟩ (frC_u (fun _ _ _ => rfl) (by omega)) hR0
