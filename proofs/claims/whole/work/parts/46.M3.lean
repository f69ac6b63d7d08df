/-! The reference: meets, weight, value, collect, answer, total. -/
def metM (cd : Nat → Nat) (j : Nat) : Nat → Bool
  | 0 => true
  | k + 1 => metM cd j k && meetsB (ofN j (cd k / 2048)) (nI (cd k / 16 % 128)) (nI (cd k % 16))
theorem metM_f {cd : Nat → Nat} {j k : Nat} (h : meetsB (ofN j (cd k / 2048)) (nI (cd k / 16 % 128)) (nI (cd k % 16)) = false) : ∀ n, k < n → metM cd j n = false
  | 0, hk => by omega
  | n + 1, hk => by
    unfold metM
    by_cases e : k = n
    · subst e
      simp [h]
    · simp [metM_f h n (by omega)]
set_option maxRecDepth 100000 in
set_option maxHeartbeats 4000000 in
theorem c_M_meets {N : Nat} {h : xHp} {ch ln ca cd gp lg : Int32} {cnA coA : Nat → Int32} {cod : Nat → Nat} {q j n : Nat} (hN : 116 ≤ N) (hq : q < 4) (hj : j < 1296) (hn : n ≤ 10) (h1 : h 94 = oM ch ln ca cd gp lg) (h2 : h 106 = aI 4 cnA) (h3 : h 107 = aI 40 coA) (e1 : cnA q = nI n) (e2 : ∀ k, k < n → coA (10 * q + k) = nI (cod k) ∧ cod k < 8192) : XM y_M_meets b_M_meets 9 (some .boolean) 1 0 0 [.ref 94, .int (nI q), .int (nI j)] N h (xR (some (.int (bi (metM cod j n)))) h) := by
  have hiq : vp_in (nI q) 4 := vp_in_nI hq (by decide)
  have hcq : (nI q).toNatClampNeg = q := nI_clamp (by omega)
  refine xM_intro [some (.ref 94), some (.int (nI q)), some (.int (nI j)), none, none, none, none, none, none] (by decide) (fun _ => rfl) (fun _ => Nat.le_of_ble_eq_true rfl) (fun Γ => ?_)
  refine x_iconst (v := 0) d_M_meets_0 (by decide) ?_
  refine x_istore_n d_M_meets_1 (by decide) rfl ?_
  have key : ∀ (m k : Nat) (x4 x5 x6 x7 x8 : Option Value), k ≤ n → n - k < m → metM cod j k = true → XW Γ y_M_meets b_M_meets 9 (some .boolean) (1, 0, 0) (xQ Γ (N + 0) 0 0 (xR (some (.int (bi (metM cod j n)))) h)) 0 0 N h 2 [some (.ref 94), some (.int (nI q)), some (.int (nI j)), some (.int (nI k)), x4, x5, x6, x7, x8] [] := by
    intro m
    induction m with
    | zero => intro k x4 x5 x6 x7 x8 _ h0; omega
    | succ m ih =>
      intro k x4 x5 x6 x7 x8 hk hkm hmet
      refine x_iload_n d_M_meets_2 rfl ?_
      refine x_aload_n d_M_meets_3 rfl ?_
      refine x_get f_M_44 d_M_meets_4 (by omega) (by first | assumption | exact vu_s | exact vu_t (by omega) (by first | assumption | exact vu_s | exact vu_t (by omega) (by first | assumption | exact vu_s | exact vu_t (by omega) (by first | assumption | exact vu_s))) | rfl | (simp only [va_up, Nat.reduceEqDiff, ↓reduceIte]; first | rfl | assumption)) rfl ?_
      refine x_iload_n d_M_meets_7 rfl ?_
      refine x_iald d_M_meets_8 (by omega) (by first | assumption | exact vu_s | exact vu_t (by omega) (by first | assumption | exact vu_s | exact vu_t (by omega) (by first | assumption | exact vu_s | exact vu_t (by omega) (by first | assumption | exact vu_s))) | rfl | (simp only [va_up, Nat.reduceEqDiff, ↓reduceIte]; first | rfl | assumption)) (by assumption) ?_
      rw [hcq, e1]
      refine x_icmp_ge 148 d_M_meets_9 (by decide) (fun c1 => ?_) (fun c1 => ?_)
      · have e := nI_end hk (by omega) c1
        subst e
        refine x_iconst (v := 1) d_M_meets_148 (by decide) ?_
        refine x_zret d_M_meets_149 (by first | rfl | assumption) ?_
        exact ⟨by rw [hmet]; rfl, rfl⟩
      · have hlt := nI_more hk (by omega) c1
        obtain ⟨z1, z2⟩ := e2 k hlt
        have ei : (10 : Int32) * nI q + nI k = nI (10 * q + k) := by rw [show (10 : Int32) = nI 10 from rfl, pk_mul, nI_add]
        have hi : vp_in ((10 : Int32) * nI q + nI k) 40 := by rw [ei]; exact vp_in_nI (by omega) (by decide)
        refine x_aload_n d_M_meets_12 rfl ?_
        refine x_get f_M_47 d_M_meets_13 (by omega) (by first | assumption | exact vu_s | exact vu_t (by omega) (by first | assumption | exact vu_s | exact vu_t (by omega) (by first | assumption | exact vu_s | exact vu_t (by omega) (by first | assumption | exact vu_s))) | rfl | (simp only [va_up, Nat.reduceEqDiff, ↓reduceIte]; first | rfl | assumption)) rfl ?_
        refine x_bipush (v := 10) d_M_meets_16 (by decide) ?_
        refine x_iload_n d_M_meets_18 rfl ?_
        refine x_imul d_M_meets_19 ?_
        refine x_iload_n d_M_meets_20 rfl ?_
        refine x_iadd d_M_meets_21 ?_
        refine x_iald d_M_meets_22 (by omega) (by first | assumption | exact vu_s | exact vu_t (by omega) (by first | assumption | exact vu_s | exact vu_t (by omega) (by first | assumption | exact vu_s | exact vu_t (by omega) (by first | assumption | exact vu_s))) | rfl | (simp only [va_up, Nat.reduceEqDiff, ↓reduceIte]; first | rfl | assumption)) (by assumption) ?_
        rw [ei, nI_clamp (show 10 * q + k < 2 ^ 31 by omega), z1]
        have d1 : nI (cod k) / 2048 = nI (cod k / 2048) := pk_div (d := 2048) (by omega) (by decide) (by decide)
        have d2 : nI (cod k) - nI (cod k) / 16 * 16 = nI (cod k % 16) := pk_rem (d := 16) (by omega) (by decide) (by decide)
        have d3 : nI (cod k) / 16 = nI (cod k / 16) := pk_div (d := 16) (by omega) (by decide) (by decide)
        have d4 : nI (cod k / 16) - nI (cod k / 16) / 128 * 128 = nI (cod k / 16 % 128) := pk_rem (d := 128) (by omega) (by decide) (by decide)
        have d5 : cod k / 2048 < 100 := by omega
        have fin : ∀ b : Bool, b = meetsB (ofN j (cod k / 2048)) (nI (cod k / 16 % 128)) (nI (cod k % 16)) → XW Γ y_M_meets b_M_meets 9 (some .boolean) (1, 0, 0) (xQ Γ (N + 0) 0 0 (xR (some (.int (bi (metM cod j n)))) h)) 0 0 N h 133 [some (.ref 94), some (.int (nI q)), some (.int (nI j)), some (.int (nI k)), some (.int (nI (cod k))), some (.int (nI (ofN j (cod k / 2048)))), some (.int (nI (cod k % 16))), some (.int (nI (cod k / 16 % 128))), x8] [.int (bi b)] := by
          intro b hb
          refine x_istore d_M_meets_133 (by decide) rfl ?_
          refine x_iload d_M_meets_135 rfl ?_
          refine x_if_ne 142 d_M_meets_137 (by decide) (fun c9 => ?_) (fun c9 => ?_)
          · rw [bi1] at c9
            refine x_iinc1 d_M_meets_142 rfl (by decide) rfl ?_
            refine x_goto 2 d_M_meets_145 (by decide) ?_
            rw [nI_1]
            exact ih (k + 1) _ _ _ _ _ (by omega) (by omega) (by rw [metM, hmet, ← hb, c9]; rfl)
          · rw [bi0] at c9
            refine x_iconst (v := 0) d_M_meets_140 (by decide) ?_
            refine x_zret d_M_meets_141 (by first | rfl | assumption) ?_
            exact ⟨by rw [metM_f (by rw [← hb, c9]) n hlt]; rfl, rfl⟩
        refine x_istore d_M_meets_23 (by decide) rfl ?_
        refine x_iload_n d_M_meets_25 rfl ?_
        refine x_iload d_M_meets_26 rfl ?_
        refine x_sipush (v := 2048) d_M_meets_28 (by decide) ?_
        refine x_idiv d_M_meets_31 (by decide) ?_
        rw [d1]
        refine x_cSe (c_M_of hj d5) k_M_156 s_M_of d_M_meets_32 rfl (by omega) (Nat.le_of_ble_eq_true rfl) ?_
        refine x_istore d_M_meets_35 (by decide) rfl ?_
        refine x_iload d_M_meets_37 rfl ?_
        refine x_bipush (v := 16) d_M_meets_39 (by decide) ?_
        refine x_irem d_M_meets_41 (by decide) ?_
        rw [d2]
        refine x_istore d_M_meets_42 (by decide) rfl ?_
        refine x_iload d_M_meets_44 rfl ?_
        refine x_bipush (v := 16) d_M_meets_46 (by decide) ?_
        refine x_idiv d_M_meets_48 (by decide) ?_
        rw [d3]
        refine x_sipush (v := 128) d_M_meets_49 (by decide) ?_
        refine x_irem d_M_meets_52 (by decide) ?_
        rw [d4]
        refine x_istore d_M_meets_53 (by decide) rfl ?_
        refine x_iload d_M_meets_55 rfl ?_
        refine x_bipush (v := 61) d_M_meets_57 (by decide) ?_
        refine x_icmp_ne 77 d_M_meets_59 (by decide) (fun k1 => ?_) (fun k1 => ?_)
        · refine x_iload d_M_meets_77 rfl ?_
          refine x_bipush (v := 35) d_M_meets_79 (by decide) ?_
          refine x_icmp_ne 99 d_M_meets_81 (by decide) (fun k2 => ?_) (fun k2 => ?_)
          · refine x_iload d_M_meets_99 rfl ?_
            refine x_bipush (v := 60) d_M_meets_101 (by decide) ?_
            refine x_icmp_ne 121 d_M_meets_103 (by decide) (fun k3 => ?_) (fun k3 => ?_)
            · refine x_iload d_M_meets_121 rfl ?_
              refine x_iload d_M_meets_123 rfl ?_
              refine x_icmp_le 132 d_M_meets_125 (by decide) (fun k4 => ?_) (fun k4 => ?_)
              · refine x_iconst (v := 0) d_M_meets_132 (by decide) ?_
                exact fin false (by simp [meetsB, k1, k2, k3, Int32.not_lt.mpr k4])
              · refine x_iconst (v := 1) d_M_meets_128 (by decide) ?_
                refine x_goto 133 d_M_meets_129 (by decide) ?_
                exact fin true (by simp [meetsB, k1, k2, k3, Int32.not_le.mp k4])
            · refine x_iload d_M_meets_106 rfl ?_
              refine x_iload d_M_meets_108 rfl ?_
              refine x_icmp_ge 117 d_M_meets_110 (by decide) (fun k4 => ?_) (fun k4 => ?_)
              · refine x_iconst (v := 0) d_M_meets_117 (by decide) ?_
                refine x_goto 133 d_M_meets_118 (by decide) ?_
                exact fin false (by simp [meetsB, k3, Int32.not_lt.mpr k4])
              · refine x_iconst (v := 1) d_M_meets_113 (by decide) ?_
                refine x_goto 133 d_M_meets_114 (by decide) ?_
                exact fin true (by simp [meetsB, k3, Int32.not_le.mp k4])
          · refine x_iload d_M_meets_84 rfl ?_
            refine x_iload d_M_meets_86 rfl ?_
            refine x_icmp_eq 95 d_M_meets_88 (by decide) (fun k4 => ?_) (fun k4 => ?_)
            · refine x_iconst (v := 0) d_M_meets_95 (by decide) ?_
              refine x_goto 133 d_M_meets_96 (by decide) ?_
              exact fin false (by simp [meetsB, k2, k4])
            · refine x_iconst (v := 1) d_M_meets_91 (by decide) ?_
              refine x_goto 133 d_M_meets_92 (by decide) ?_
              exact fin true (by simp [meetsB, k2, k4])
        · refine x_iload d_M_meets_62 rfl ?_
          refine x_iload d_M_meets_64 rfl ?_
          refine x_icmp_ne 73 d_M_meets_66 (by decide) (fun k4 => ?_) (fun k4 => ?_)
          · refine x_iconst (v := 0) d_M_meets_73 (by decide) ?_
            refine x_goto 133 d_M_meets_74 (by decide) ?_
            exact fin false (by simp [meetsB, k1, k4])
          · refine x_iconst (v := 1) d_M_meets_69 (by decide) ?_
            refine x_goto 133 d_M_meets_70 (by decide) ?_
            exact fin true (by simp [meetsB, k1, k4])
  exact key (n + 1) 0 none none none none none (by omega) (by omega) rfl
