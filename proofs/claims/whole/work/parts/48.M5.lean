/-! The reference: value, collect, answer, total. -/
theorem l64_0 (x : Int32) : x.toInt64 = 0 ↔ x = 0 := by
  constructor
  · intro e
    have h1 := congrArg Int64.toInt e
    rw [Int32.toInt_toInt64] at h1
    exact Int32.toInt_inj.mp h1
  · intro e
    subst e
    rfl
def valT (co : Int32) (j k : Nat) : Int64 := co.toInt64 * (nI (pwr (ofN j 0) (k / 27) * pwr (ofN j 1) (k / 9 % 3))).toInt64 * (nI (pwr (ofN j 2) (k / 3 % 3))).toInt64 * (nI (pwr (ofN j 3) (k % 3))).toInt64
def valM (co : Nat → Int32) (j : Nat) : Nat → Int64
  | 0 => 0
  | k + 1 => if co k = 0 then valM co j k else valM co j k + valT (co k) j k
set_option maxRecDepth 100000 in
set_option maxHeartbeats 4000000 in
theorem c_M_value {N : Nat} {h : xHp} {ch ln ca cd gp lg : Int32} {po : Nat → Int32} {q j : Nat} (hN : 116 ≤ N) (hq : q < 4) (hj : j < 1296) (h1 : h 94 = oM ch ln ca cd gp lg) (h2 : h 108 = aI 324 po) : XM y_M_value b_M_value 8 (some .long) 1 0 0 [.ref 94, .int (nI q), .int (nI j)] N h (xR (some (.long (valM (fun k => po (81 * q + k)) j 81))) h) := by
  refine xM_intro [some (.ref 94), some (.int (nI q)), some (.int (nI j)), none, none, none, none, none] (by decide) (fun _ => rfl) (fun _ => Nat.le_of_ble_eq_true rfl) (fun Γ => ?_)
  refine x_lconst (v := 0) d_M_value_0 (by decide) ?_
  refine x_lstore_n d_M_value_1 (by decide) rfl ?_
  refine x_iconst (v := 0) d_M_value_2 (by decide) ?_
  refine x_istore d_M_value_3 (by decide) rfl ?_
  have key : ∀ (m k : Nat) (x6 : Option Value), k ≤ 81 → 81 - k < m → XW Γ y_M_value b_M_value 8 (some .long) (1, 0, 0) (xQ Γ (N + 0) 0 0 (xR (some (.long (valM (fun k => po (81 * q + k)) j 81))) h)) 0 0 N h 5 [some (.ref 94), some (.int (nI q)), some (.int (nI j)), some (.long (valM (fun k => po (81 * q + k)) j k)), none, some (.int (nI k)), x6, none] [] := by
    intro m
    induction m with
    | zero => intro k x6 _ h0; omega
    | succ m ih =>
      intro k x6 hk hkm
      refine x_iload d_M_value_5 rfl ?_
      refine x_bipush (v := 81) d_M_value_7 (by decide) ?_
      refine x_icmp_ge 110 d_M_value_9 (by decide) (fun c1 => ?_) (fun c1 => ?_)
      · have e := nI_end (n := 81) hk (by decide) c1
        subst e
        refine x_lload_n d_M_value_110 rfl ?_
        refine x_lret d_M_value_111 ?_
        exact ⟨rfl, rfl⟩
      · have hlt := nI_more (n := 81) hk (by decide) c1
        have ei : (81 : Int32) * nI q + nI k = nI (81 * q + k) := by rw [show (81 : Int32) = nI 81 from rfl, pk_mul, nI_add]
        have hi : vp_in ((81 : Int32) * nI q + nI k) 324 := by rw [ei]; exact vp_in_nI (by omega) (by decide)
        have e27 : nI k / 27 = nI (k / 27) := pk_div (d := 27) (by omega) (by decide) (by decide)
        have e9 : nI k / 9 = nI (k / 9) := pk_div (d := 9) (by omega) (by decide) (by decide)
        have e3 : nI k / 3 = nI (k / 3) := pk_div (d := 3) (by omega) (by decide) (by decide)
        have r9 : nI (k / 9) - nI (k / 9) / 3 * 3 = nI (k / 9 % 3) := pk_rem (d := 3) (by omega) (by decide) (by decide)
        have r3 : nI (k / 3) - nI (k / 3) / 3 * 3 = nI (k / 3 % 3) := pk_rem (d := 3) (by omega) (by decide) (by decide)
        have r1 : nI k - nI k / 3 * 3 = nI (k % 3) := pk_rem (d := 3) (by omega) (by decide) (by decide)
        refine x_aload_n d_M_value_12 rfl ?_
        refine x_get f_M_50 d_M_value_13 (by omega) (by first | assumption | exact vu_s | exact vu_t (by omega) (by first | assumption | exact vu_s | exact vu_t (by omega) (by first | assumption | exact vu_s | exact vu_t (by omega) (by first | assumption | exact vu_s))) | rfl | (simp only [va_up, Nat.reduceEqDiff, ↓reduceIte]; first | rfl | assumption)) rfl ?_
        refine x_bipush (v := 81) d_M_value_16 (by decide) ?_
        refine x_iload_n d_M_value_18 rfl ?_
        refine x_imul d_M_value_19 ?_
        refine x_iload d_M_value_20 rfl ?_
        refine x_iadd d_M_value_22 ?_
        refine x_iald d_M_value_23 (by omega) (by first | assumption | exact vu_s | exact vu_t (by omega) (by first | assumption | exact vu_s | exact vu_t (by omega) (by first | assumption | exact vu_s | exact vu_t (by omega) (by first | assumption | exact vu_s))) | rfl | (simp only [va_up, Nat.reduceEqDiff, ↓reduceIte]; first | rfl | assumption)) (by assumption) ?_
        rw [ei, nI_clamp (show 81 * q + k < 2 ^ 31 by omega)]
        refine x_i2l d_M_value_24 ?_
        refine x_lstore d_M_value_25 (by decide) rfl ?_
        refine x_lload d_M_value_27 rfl ?_
        refine x_lconst (v := 0) d_M_value_29 (by decide) ?_
        refine x_lcmp d_M_value_30 ?_
        refine x_if_eq 104 d_M_value_31 (by decide) (fun c2 => ?_) (fun c2 => ?_)
        · have c2' : po (81 * q + k) = 0 := (l64_0 _).mp ((lg_eq0 _ _).mp c2)
          refine x_iinc1 d_M_value_104 rfl (by decide) rfl ?_
          refine x_goto 5 d_M_value_107 (by decide) ?_
          rw [nI_1]
          have := ih (k + 1) (some (.long (po (81 * q + k)).toInt64)) (by omega) (by omega)
          rw [show valM (fun k => po (81 * q + k)) j (k + 1) = valM (fun k => po (81 * q + k)) j k by simp [valM, c2']] at this
          exact this
        · have c2' : ¬ po (81 * q + k) = 0 := fun z => c2 ((lg_eq0 _ _).mpr ((l64_0 _).mpr z))
          refine x_lload d_M_value_34 rfl ?_
          refine x_iload_n d_M_value_36 rfl ?_
          refine x_iconst (v := 0) d_M_value_37 (by decide) ?_
          refine x_cSe (c_M_of (k := 0) hj (by decide)) k_M_156 s_M_of d_M_value_38 rfl (by omega) (Nat.le_of_ble_eq_true rfl) ?_
          refine x_iload d_M_value_41 rfl ?_
          refine x_bipush (v := 27) d_M_value_43 (by decide) ?_
          refine x_idiv d_M_value_45 (by decide) ?_
          rw [e27]
          refine x_cSe (c_M_power (by omega)) k_M_160 s_M_power d_M_value_46 rfl (by omega) (Nat.le_of_ble_eq_true rfl) ?_
          refine x_iload_n d_M_value_49 rfl ?_
          refine x_iconst (v := 1) d_M_value_50 (by decide) ?_
          refine x_cSe (c_M_of (k := 1) hj (by decide)) k_M_156 s_M_of d_M_value_51 rfl (by omega) (Nat.le_of_ble_eq_true rfl) ?_
          refine x_iload d_M_value_54 rfl ?_
          refine x_bipush (v := 9) d_M_value_56 (by decide) ?_
          refine x_idiv d_M_value_58 (by decide) ?_
          rw [e9]
          refine x_iconst (v := 3) d_M_value_59 (by decide) ?_
          refine x_irem d_M_value_60 (by decide) ?_
          rw [r9]
          refine x_cSe (c_M_power (by omega)) k_M_160 s_M_power d_M_value_61 rfl (by omega) (Nat.le_of_ble_eq_true rfl) ?_
          refine x_imul d_M_value_64 ?_
          rw [pk_mul]
          refine x_i2l d_M_value_65 ?_
          refine x_lmul d_M_value_66 ?_
          refine x_lstore d_M_value_67 (by decide) rfl ?_
          refine x_lload_n d_M_value_69 rfl ?_
          refine x_lload d_M_value_70 rfl ?_
          refine x_iload_n d_M_value_72 rfl ?_
          refine x_iconst (v := 2) d_M_value_73 (by decide) ?_
          refine x_cSe (c_M_of (k := 2) hj (by decide)) k_M_156 s_M_of d_M_value_74 rfl (by omega) (Nat.le_of_ble_eq_true rfl) ?_
          refine x_iload d_M_value_77 rfl ?_
          refine x_iconst (v := 3) d_M_value_79 (by decide) ?_
          refine x_idiv d_M_value_80 (by decide) ?_
          rw [e3]
          refine x_iconst (v := 3) d_M_value_81 (by decide) ?_
          refine x_irem d_M_value_82 (by decide) ?_
          rw [r3]
          refine x_cSe (c_M_power (by omega)) k_M_160 s_M_power d_M_value_83 rfl (by omega) (Nat.le_of_ble_eq_true rfl) ?_
          refine x_i2l d_M_value_86 ?_
          refine x_lmul d_M_value_87 ?_
          refine x_iload_n d_M_value_88 rfl ?_
          refine x_iconst (v := 3) d_M_value_89 (by decide) ?_
          refine x_cSe (c_M_of (k := 3) hj (by decide)) k_M_156 s_M_of d_M_value_90 rfl (by omega) (Nat.le_of_ble_eq_true rfl) ?_
          refine x_iload d_M_value_93 rfl ?_
          refine x_iconst (v := 3) d_M_value_95 (by decide) ?_
          refine x_irem d_M_value_96 (by decide) ?_
          rw [r1]
          refine x_cSe (c_M_power (by omega)) k_M_160 s_M_power d_M_value_97 rfl (by omega) (Nat.le_of_ble_eq_true rfl) ?_
          refine x_i2l d_M_value_100 ?_
          refine x_lmul d_M_value_101 ?_
          refine x_ladd d_M_value_102 ?_
          refine x_lstore_n d_M_value_103 (by decide) rfl ?_
          refine x_iinc1 d_M_value_104 rfl (by decide) rfl ?_
          refine x_goto 5 d_M_value_107 (by decide) ?_
          rw [nI_1]
          have := ih (k + 1) (some (.long ((po (81 * q + k)).toInt64 * (nI (pwr (ofN j 0) (k / 27) * pwr (ofN j 1) (k / 9 % 3))).toInt64))) (by omega) (by omega)
          rw [show valM (fun k => po (81 * q + k)) j (k + 1) = valM (fun k => po (81 * q + k)) j k + valT (po (81 * q + k)) j k by simp [valM, c2']] at this
          exact this
  exact key 82 0 none (by omega) (by omega)
/-- what of a question of the reference counts -/
abbrev MQ2 : Type := Nat × Int32 × Nat × (Nat → Nat) × (Nat → Int32)
/-- chain, group, conditions, codes, coefficients: over the first n joined rows -/
def colM (f : Nat → Int32) (Q : MQ2) (grp : Int32) (all : Bool) : Nat → Int64
  | 0 => 0
  | j + 1 => if (all || decide (Q.2.1 < 0) || decide (nI (ofN j Q.2.1.toNatClampNeg) = grp)) && metM Q.2.2.2.1 j Q.2.2.1 then colM f Q grp all j + wM f Q.1 j * valM Q.2.2.2.2 j 81 else colM f Q grp all j
def mqSt (q : Nat) (Q : MQ2) (h : xHp) : Prop := Q.1 < 8 ∧ Q.2.2.1 ≤ 10 ∧ (∃ coA, h 104 = aI 4 coA ∧ coA q = nI Q.1) ∧ (∃ gA, h 105 = aI 4 gA ∧ gA q = Q.2.1) ∧ (∃ cnA, h 106 = aI 4 cnA ∧ cnA q = nI Q.2.2.1) ∧ (∃ cA, h 107 = aI 40 cA ∧ ∀ k, k < Q.2.2.1 → cA (10 * q + k) = nI (Q.2.2.2.1 k) ∧ Q.2.2.2.1 k < 8192) ∧ (∃ po, h 108 = aI 324 po ∧ ∀ k, k < 81 → po (81 * q + k) = Q.2.2.2.2 k) ∧ (Q.2.1 < 0 ∨ ∃ g : Nat, g < 4 ∧ Q.2.1 = nI g)
theorem valM_cg {a b : Nat → Int32} {j : Nat} : ∀ n, (∀ k, k < n → a k = b k) → valM a j n = valM b j n
  | 0, _ => rfl
  | n + 1, h => by simp only [valM, valM_cg n (fun k hk => h k (by omega)), h n (by omega)]
set_option maxRecDepth 100000 in
set_option maxHeartbeats 4000000 in
theorem c_M_collect {N : Nat} {h : xHp} {ch ln ca cd gp lg : Int32} {f pl bs tf : Nat → Int32} {q : Nat} (Q : MQ2) (grp : Int32) (all : Bool) (hN : 116 ≤ N) (hq : q < 4) (h1 : h 94 = oM ch ln ca cd gp lg) (h2 : iM4 f pl bs tf h) (h3 : mqSt q Q h) : XM y_M_collect b_M_collect 10 (some .long) 3 0 0 [.ref 94, .int (nI q), .int grp, .int (bi all)] N h (xR (some (.long (colM f Q grp all 1296))) h) := by
  obtain ⟨m1, m2, ⟨coA, n1, n2⟩, ⟨gA, n3, n4⟩, ⟨cnA, n5, n6⟩, ⟨cA, n7, n8⟩, ⟨po, n9, n10⟩, n11⟩ := h3
  have hiq : vp_in (nI q) 4 := vp_in_nI hq (by decide)
  have hcq : (nI q).toNatClampNeg = q := nI_clamp (by omega)
  refine xM_intro [some (.ref 94), some (.int (nI q)), some (.int grp), some (.int (bi all)), none, none, none, none, none, none] (by decide) (fun _ => rfl) (fun _ => Nat.le_of_ble_eq_true rfl) (fun Γ => ?_)
  refine x_lconst (v := 0) d_M_collect_0 (by decide) ?_
  refine x_lstore d_M_collect_1 (by decide) rfl ?_
  refine x_iconst (v := 0) d_M_collect_3 (by decide) ?_
  refine x_istore d_M_collect_4 (by decide) rfl ?_
  have key : ∀ (m j : Nat) (x7 x8 : Option Value), j ≤ 1296 → 1296 - j < m → XW Γ y_M_collect b_M_collect 10 (some .long) (3, 0, 0) (xQ Γ (N + 0) 0 0 (xR (some (.long (colM f Q grp all 1296))) h)) 0 0 N h 6 [some (.ref 94), some (.int (nI q)), some (.int grp), some (.int (bi all)), some (.long (colM f Q grp all j)), none, some (.int (nI j)), x7, x8, none] [] := by
    intro m
    induction m with
    | zero => intro j x7 x8 _ h0; omega
    | succ m ih =>
      intro j x7 x8 hj hjm
      refine x_iload d_M_collect_6 rfl ?_
      refine x_sipush (v := 1296) d_M_collect_8 (by decide) ?_
      refine x_icmp_ge 105 d_M_collect_11 (by decide) (fun c1 => ?_) (fun c1 => ?_)
      · have e := nI_end (n := 1296) hj (by decide) c1
        subst e
        refine x_lload d_M_collect_105 rfl ?_
        refine x_lret d_M_collect_107 ?_
        exact ⟨rfl, rfl⟩
      · have hlt := nI_more (n := 1296) hj (by decide) c1
        have fin : ∀ (b : Int32) (w : Int64), colM f Q grp all (j + 1) = colM f Q grp all j + w * valM Q.2.2.2.2 j 81 → XW Γ y_M_collect b_M_collect 10 (some .long) (3, 0, 0) (xQ Γ (N + 0) 0 0 (xR (some (.long (colM f Q grp all 1296))) h)) 0 0 N h 75 [some (.ref 94), some (.int (nI q)), some (.int grp), some (.int (bi all)), some (.long (colM f Q grp all j)), none, some (.int (nI j)), some (.int b), x8, none] [.long w] := by
          intro b w hw
          refine x_lstore d_M_collect_75 (by decide) rfl ?_
          refine x_lload d_M_collect_77 rfl ?_
          refine x_lconst (v := 0) d_M_collect_79 (by decide) ?_
          refine x_lcmp d_M_collect_80 ?_
          refine x_if_eq 99 d_M_collect_81 (by decide) (fun c2 => ?_) (fun c2 => ?_)
          · have c2' : w = 0 := (lg_eq0 _ _).mp c2
            rw [c2', Int64.zero_mul, Int64.add_zero] at hw
            refine x_iinc1 d_M_collect_99 rfl (by decide) rfl ?_
            refine x_goto 6 d_M_collect_102 (by decide) ?_
            rw [nI_1]
            have := ih (j + 1) (some (.int b)) (some (.long w)) (by omega) (by omega)
            rw [hw] at this
            exact this
          · refine x_lload d_M_collect_84 rfl ?_
            refine x_lload d_M_collect_86 rfl ?_
            refine x_aload_n d_M_collect_88 rfl ?_
            refine x_iload_n d_M_collect_89 rfl ?_
            refine x_iload d_M_collect_90 rfl ?_
            refine x_cVe (c_M_value hN hq hlt h1 n9) k_M_170 v_M_value d_M_collect_92 rfl (by omega) (by first | assumption | exact vu_s | exact vu_t (by omega) (by first | assumption | exact vu_s | exact vu_t (by omega) (by first | assumption | exact vu_s | exact vu_t (by omega) (by first | assumption | exact vu_s))) | rfl | (simp only [va_up, Nat.reduceEqDiff, ↓reduceIte]; first | rfl | assumption)) rfl (by omega) (Nat.le_of_ble_eq_true rfl) ?_
            refine x_lmul d_M_collect_95 ?_
            refine x_ladd d_M_collect_96 ?_
            refine x_lstore d_M_collect_97 (by decide) rfl ?_
            refine x_iinc1 d_M_collect_99 rfl (by decide) rfl ?_
            refine x_goto 6 d_M_collect_102 (by decide) ?_
            rw [nI_1, valM_cg 81 n10]
            have := ih (j + 1) (some (.int b)) (some (.long w)) (by omega) (by omega)
            rw [hw] at this
            exact this
        have zero : ∀ b : Int32, ((all || decide (Q.2.1 < 0) || decide (nI (ofN j Q.2.1.toNatClampNeg) = grp)) && metM Q.2.2.2.1 j Q.2.2.1) = false → XW Γ y_M_collect b_M_collect 10 (some .long) (3, 0, 0) (xQ Γ (N + 0) 0 0 (xR (some (.long (colM f Q grp all 1296))) h)) 0 0 N h 74 [some (.ref 94), some (.int (nI q)), some (.int grp), some (.int (bi all)), some (.long (colM f Q grp all j)), none, some (.int (nI j)), some (.int b), x8, none] [] := by
          intro b e
          refine x_lconst (v := 0) d_M_collect_74 (by decide) ?_
          refine fin b 0 ?_
          rw [Int64.zero_mul, Int64.add_zero, colM, e]
          rfl
        have mine : (all || decide (Q.2.1 < 0) || decide (nI (ofN j Q.2.1.toNatClampNeg) = grp)) = true → XW Γ y_M_collect b_M_collect 10 (some .long) (3, 0, 0) (xQ Γ (N + 0) 0 0 (xR (some (.long (colM f Q grp all 1296))) h)) 0 0 N h 42 [some (.ref 94), some (.int (nI q)), some (.int grp), some (.int (bi all)), some (.long (colM f Q grp all j)), none, some (.int (nI j)), x7, x8, none] [] := by
          intro e
          refine x_iconst (v := 1) d_M_collect_42 (by decide) ?_
          refine x_goto 47 d_M_collect_43 (by decide) ?_
          refine x_istore d_M_collect_47 (by decide) rfl ?_
          refine x_iload d_M_collect_49 rfl ?_
          refine x_if_eq 74 d_M_collect_51 (by decide) (fun c2 => ?_) (fun c2 => ?_)
          · exact absurd c2 (by decide)
          · refine x_aload_n d_M_collect_54 rfl ?_
            refine x_iload_n d_M_collect_55 rfl ?_
            refine x_iload d_M_collect_56 rfl ?_
            refine x_cVe (c_M_meets hN hq hlt m2 h1 n5 n7 n6 n8) k_M_163 v_M_meets d_M_collect_58 rfl (by omega) (by first | assumption | exact vu_s | exact vu_t (by omega) (by first | assumption | exact vu_s | exact vu_t (by omega) (by first | assumption | exact vu_s | exact vu_t (by omega) (by first | assumption | exact vu_s))) | rfl | (simp only [va_up, Nat.reduceEqDiff, ↓reduceIte]; first | rfl | assumption)) rfl (by omega) (Nat.le_of_ble_eq_true rfl) ?_
            refine x_if_eq 74 d_M_collect_61 (by decide) (fun c3 => ?_) (fun c3 => ?_)
            · rw [bi0] at c3
              exact zero 1 (by rw [c3, Bool.and_false])
            · rw [bi1] at c3
              refine x_aload_n d_M_collect_64 rfl ?_
              refine x_iload_n d_M_collect_65 rfl ?_
              refine x_iload d_M_collect_66 rfl ?_
              refine x_cVe (c_M_weight hN hq hlt m1 h1 h2 n1 n2) k_M_166 v_M_weight d_M_collect_68 rfl (by omega) (by first | assumption | exact vu_s | exact vu_t (by omega) (by first | assumption | exact vu_s | exact vu_t (by omega) (by first | assumption | exact vu_s | exact vu_t (by omega) (by first | assumption | exact vu_s))) | rfl | (simp only [va_up, Nat.reduceEqDiff, ↓reduceIte]; first | rfl | assumption)) rfl (by omega) (Nat.le_of_ble_eq_true rfl) ?_
              refine x_goto 75 d_M_collect_71 (by decide) ?_
              refine fin 1 _ ?_
              rw [colM, e, c3]
              rfl
        refine x_iload_n d_M_collect_14 rfl ?_
        refine x_if_ne 42 d_M_collect_15 (by decide) (fun c2 => ?_) (fun c2 => ?_)
        · rw [bi1] at c2
          exact mine (by rw [c2]; rfl)
        · rw [bi0] at c2
          refine x_aload_n d_M_collect_18 rfl ?_
          refine x_get f_M_41 d_M_collect_19 (by omega) (by first | assumption | exact vu_s | exact vu_t (by omega) (by first | assumption | exact vu_s | exact vu_t (by omega) (by first | assumption | exact vu_s | exact vu_t (by omega) (by first | assumption | exact vu_s))) | rfl | (simp only [va_up, Nat.reduceEqDiff, ↓reduceIte]; first | rfl | assumption)) rfl ?_
          refine x_iload_n d_M_collect_22 rfl ?_
          refine x_iald d_M_collect_23 (by omega) (by first | assumption | exact vu_s | exact vu_t (by omega) (by first | assumption | exact vu_s | exact vu_t (by omega) (by first | assumption | exact vu_s | exact vu_t (by omega) (by first | assumption | exact vu_s))) | rfl | (simp only [va_up, Nat.reduceEqDiff, ↓reduceIte]; first | rfl | assumption)) (by assumption) ?_
          rw [hcq, n4]
          refine x_if_lt 42 d_M_collect_24 (by decide) (fun c3 => ?_) (fun c3 => ?_)
          · exact mine (by simp [c3])
          · obtain ⟨g, hg, eg⟩ := n11.resolve_left c3
            refine x_iload d_M_collect_27 rfl ?_
            refine x_aload_n d_M_collect_29 rfl ?_
            refine x_get f_M_41 d_M_collect_30 (by omega) (by first | assumption | exact vu_s | exact vu_t (by omega) (by first | assumption | exact vu_s | exact vu_t (by omega) (by first | assumption | exact vu_s | exact vu_t (by omega) (by first | assumption | exact vu_s))) | rfl | (simp only [va_up, Nat.reduceEqDiff, ↓reduceIte]; first | rfl | assumption)) rfl ?_
            refine x_iload_n d_M_collect_33 rfl ?_
            refine x_iald d_M_collect_34 (by omega) (by first | assumption | exact vu_s | exact vu_t (by omega) (by first | assumption | exact vu_s | exact vu_t (by omega) (by first | assumption | exact vu_s | exact vu_t (by omega) (by first | assumption | exact vu_s))) | rfl | (simp only [va_up, Nat.reduceEqDiff, ↓reduceIte]; first | rfl | assumption)) (by assumption) ?_
            rw [hcq, n4, eg]
            refine x_cSe (c_M_of hlt (by omega)) k_M_156 s_M_of d_M_collect_35 rfl (by omega) (Nat.le_of_ble_eq_true rfl) ?_
            refine x_iload_n d_M_collect_38 rfl ?_
            have eg2 : Q.2.1.toNatClampNeg = g := by rw [eg]; exact nI_clamp (by omega)
            refine x_icmp_ne 46 d_M_collect_39 (by decide) (fun c4 => ?_) (fun c4 => ?_)
            · refine x_iconst (v := 0) d_M_collect_46 (by decide) ?_
              refine x_istore d_M_collect_47 (by decide) rfl ?_
              refine x_iload d_M_collect_49 rfl ?_
              refine x_if_eq 74 d_M_collect_51 (by decide) (fun c5 => ?_) (fun c5 => ?_)
              · refine zero 0 ?_
                rw [c2, eg2]
                simp [c3, c4]
              · exact absurd rfl c5
            · exact mine (by rw [eg2]; simp [c4])
  exact key 1297 0 none none (by omega) (by omega)
set_option maxRecDepth 100000 in
set_option maxHeartbeats 4000000 in
theorem c_M_total {N : Nat} {h : xHp} {ch ln ca cd gp lg : Int32} {f pl bs tf : Nat → Int32} {th : Nat → Bool} (Qs : Nat → MQ2) (q : Int32) (hN : 116 ≤ N) (h1 : h 94 = oM ch ln ca cd gp lg) (h2 : iM4 f pl bs tf h) (h3 : h 102 = aB 4 (fun j => bi (th j))) (h4 : ∀ i, i < 4 → th i = true → mqSt i (Qs i) h) : XM y_M_total b_M_total 2 (some .long) 4 0 0 [.ref 94, .int q] N h (xR (some (.long (if (isQn q && th q.toNatClampNeg) = true then colM f (Qs q.toNatClampNeg) 0 true 1296 else 9000000000000000000))) h) := by
  refine xM_intro [some (.ref 94), some (.int q)] (by decide) (fun _ => rfl) (fun _ => Nat.le_of_ble_eq_true rfl) (fun Γ => ?_)
  refine x_iload_n d_M_total_0 rfl ?_
  refine x_iconst (v := 4) d_M_total_1 (by decide) ?_
  refine x_cSe (c_M_in q 4) k_M_138 s_M_in d_M_total_2 rfl (by omega) (Nat.le_of_ble_eq_true rfl) ?_
  rw [inB_q]
  refine x_if_eq 27 d_M_total_5 (by decide) (fun c1 => ?_) (fun c1 => ?_)
  · rw [bi0] at c1
    refine x_ldc2 l_M_173 d_M_total_27 ?_
    refine x_lret d_M_total_30 ?_
    exact ⟨by rw [if_neg (by rw [c1]; simp)], rfl⟩
  · rw [bi1] at c1
    obtain ⟨k, hk, rfl⟩ := isQn_n c1
    have hi : vp_in (nI k) 4 := vp_in_nI hk (by decide)
    have hck : (nI k).toNatClampNeg = k := nI_clamp (by omega)
    refine x_aload_n d_M_total_8 rfl ?_
    refine x_get f_M_31 d_M_total_9 (by omega) (by first | assumption | exact vu_s | exact vu_t (by omega) (by first | assumption | exact vu_s | exact vu_t (by omega) (by first | assumption | exact vu_s | exact vu_t (by omega) (by first | assumption | exact vu_s))) | rfl | (simp only [va_up, Nat.reduceEqDiff, ↓reduceIte]; first | rfl | assumption)) rfl ?_
    refine x_iload_n d_M_total_12 rfl ?_
    refine x_zald d_M_total_13 (by omega) (by first | assumption | exact vu_s | exact vu_t (by omega) (by first | assumption | exact vu_s | exact vu_t (by omega) (by first | assumption | exact vu_s | exact vu_t (by omega) (by first | assumption | exact vu_s))) | rfl | (simp only [va_up, Nat.reduceEqDiff, ↓reduceIte]; first | rfl | assumption)) (by assumption) ?_
    rw [hck]
    refine x_if_eq 27 d_M_total_14 (by decide) (fun c2 => ?_) (fun c2 => ?_)
    · rw [bi0] at c2
      refine x_ldc2 l_M_173 d_M_total_27 ?_
      refine x_lret d_M_total_30 ?_
      exact ⟨by rw [if_neg (by rw [c2]; simp)], rfl⟩
    · rw [bi1] at c2
      refine x_aload_n d_M_total_17 rfl ?_
      refine x_iload_n d_M_total_18 rfl ?_
      refine x_iconst (v := 0) d_M_total_19 (by decide) ?_
      refine x_iconst (v := 1) d_M_total_20 (by decide) ?_
      refine x_cVe (c_M_collect (Qs k) 0 true hN hk h1 h2 (h4 k hk c2)) k_M_175 v_M_collect d_M_total_21 rfl (by omega) (by first | assumption | exact vu_s | exact vu_t (by omega) (by first | assumption | exact vu_s | exact vu_t (by omega) (by first | assumption | exact vu_s | exact vu_t (by omega) (by first | assumption | exact vu_s))) | rfl | (simp only [va_up, Nat.reduceEqDiff, ↓reduceIte]; first | rfl | assumption)) rfl (by omega) (Nat.le_of_ble_eq_true rfl) ?_
      refine x_goto 30 d_M_total_24 (by decide) ?_
      refine x_lret d_M_total_30 ?_
      exact ⟨by rw [if_pos (by rw [c1, c2]; rfl)], rfl⟩
set_option maxRecDepth 100000 in
set_option maxHeartbeats 4000000 in
theorem c_M_answer {N : Nat} {h : xHp} {ch ln ca cd gp lg : Int32} {f pl bs tf : Nat → Int32} {th : Nat → Bool} (Qs : Nat → MQ2) (q grp : Int32) (hN : 116 ≤ N) (h1 : h 94 = oM ch ln ca cd gp lg) (h2 : iM4 f pl bs tf h) (h3 : h 102 = aB 4 (fun j => bi (th j))) (h4 : ∀ i, i < 4 → th i = true → mqSt i (Qs i) h) : XM y_M_answer b_M_answer 3 (some .long) 4 0 0 [.ref 94, .int q, .int grp] N h (xR (some (.long (if (isQn q && th q.toNatClampNeg) = true ∧ isVal grp = true then (if (Qs q.toNatClampNeg).2.1 < 0 ∧ 0 < grp then 0 else colM f (Qs q.toNatClampNeg) grp false 1296) else 9000000000000000000))) h) := by
  refine xM_intro [some (.ref 94), some (.int q), some (.int grp)] (by decide) (fun _ => rfl) (fun _ => Nat.le_of_ble_eq_true rfl) (fun Γ => ?_)
  refine x_iload_n d_M_answer_0 rfl ?_
  refine x_iconst (v := 4) d_M_answer_1 (by decide) ?_
  refine x_cSe (c_M_in q 4) k_M_138 s_M_in d_M_answer_2 rfl (by omega) (Nat.le_of_ble_eq_true rfl) ?_
  rw [inB_q]
  refine x_if_eq 26 d_M_answer_5 (by decide) (fun c1 => ?_) (fun c1 => ?_)
  · rw [bi0] at c1
    refine x_ldc2 l_M_173 d_M_answer_26 ?_
    refine x_lret d_M_answer_29 ?_
    exact ⟨by rw [if_neg (by rw [c1]; simp)], rfl⟩
  · rw [bi1] at c1
    obtain ⟨k, hk, rfl⟩ := isQn_n c1
    have hi : vp_in (nI k) 4 := vp_in_nI hk (by decide)
    have hck : (nI k).toNatClampNeg = k := nI_clamp (by omega)
    rw [hck]
    refine x_iload_n d_M_answer_8 rfl ?_
    refine x_bipush (v := 6) d_M_answer_9 (by decide) ?_
    refine x_cSe (c_M_in grp 6) k_M_138 s_M_in d_M_answer_11 rfl (by omega) (Nat.le_of_ble_eq_true rfl) ?_
    rw [inB_v]
    refine x_if_eq 26 d_M_answer_14 (by decide) (fun c2 => ?_) (fun c2 => ?_)
    · rw [bi0] at c2
      refine x_ldc2 l_M_173 d_M_answer_26 ?_
      refine x_lret d_M_answer_29 ?_
      exact ⟨by rw [if_neg (by rw [c2]; simp)], rfl⟩
    · rw [bi1] at c2
      refine x_aload_n d_M_answer_17 rfl ?_
      refine x_get f_M_31 d_M_answer_18 (by omega) (by first | assumption | exact vu_s | exact vu_t (by omega) (by first | assumption | exact vu_s | exact vu_t (by omega) (by first | assumption | exact vu_s | exact vu_t (by omega) (by first | assumption | exact vu_s))) | rfl | (simp only [va_up, Nat.reduceEqDiff, ↓reduceIte]; first | rfl | assumption)) rfl ?_
      refine x_iload_n d_M_answer_21 rfl ?_
      refine x_zald d_M_answer_22 (by omega) (by first | assumption | exact vu_s | exact vu_t (by omega) (by first | assumption | exact vu_s | exact vu_t (by omega) (by first | assumption | exact vu_s | exact vu_t (by omega) (by first | assumption | exact vu_s))) | rfl | (simp only [va_up, Nat.reduceEqDiff, ↓reduceIte]; first | rfl | assumption)) (by assumption) ?_
      rw [hck]
      refine x_if_ne 30 d_M_answer_23 (by decide) (fun c3 => ?_) (fun c3 => ?_)
      · rw [bi1] at c3
        have h4' := h4 k hk c3
        obtain ⟨-, -, -, ⟨gA, n3, n4⟩, -⟩ := id h4'
        have ec : (isQn (nI k) && th k) = true ∧ isVal grp = true := ⟨by rw [c1, c3]; rfl, c2⟩
        rw [if_pos ec]
        have run : ¬ ((Qs k).2.1 < 0 ∧ 0 < grp) → XW Γ y_M_answer b_M_answer 3 (some .long) (4, 0, 0) (xQ Γ (N + 0) 0 0 (xR (some (.long (if (Qs k).2.1 < 0 ∧ 0 < grp then 0 else colM f (Qs k) grp false 1296))) h)) 0 0 N h 47 [some (.ref 94), some (.int (nI k)), some (.int grp)] [] := by
          intro e
          refine x_aload_n d_M_answer_47 rfl ?_
          refine x_iload_n d_M_answer_48 rfl ?_
          refine x_iload_n d_M_answer_49 rfl ?_
          refine x_iconst (v := 0) d_M_answer_50 (by decide) ?_
          refine x_cVe (c_M_collect (Qs k) grp false hN hk h1 h2 h4') k_M_175 v_M_collect d_M_answer_51 rfl (by omega) (by first | assumption | exact vu_s | exact vu_t (by omega) (by first | assumption | exact vu_s | exact vu_t (by omega) (by first | assumption | exact vu_s | exact vu_t (by omega) (by first | assumption | exact vu_s))) | rfl | (simp only [va_up, Nat.reduceEqDiff, ↓reduceIte]; first | rfl | assumption)) rfl (by omega) (Nat.le_of_ble_eq_true rfl) ?_
          refine x_lret d_M_answer_54 ?_
          exact ⟨by rw [if_neg e], rfl⟩
        refine x_aload_n d_M_answer_30 rfl ?_
        refine x_get f_M_41 d_M_answer_31 (by omega) (by first | assumption | exact vu_s | exact vu_t (by omega) (by first | assumption | exact vu_s | exact vu_t (by omega) (by first | assumption | exact vu_s | exact vu_t (by omega) (by first | assumption | exact vu_s))) | rfl | (simp only [va_up, Nat.reduceEqDiff, ↓reduceIte]; first | rfl | assumption)) rfl ?_
        refine x_iload_n d_M_answer_34 rfl ?_
        refine x_iald d_M_answer_35 (by omega) (by first | assumption | exact vu_s | exact vu_t (by omega) (by first | assumption | exact vu_s | exact vu_t (by omega) (by first | assumption | exact vu_s | exact vu_t (by omega) (by first | assumption | exact vu_s))) | rfl | (simp only [va_up, Nat.reduceEqDiff, ↓reduceIte]; first | rfl | assumption)) (by assumption) ?_
        rw [hck, n4]
        refine x_if_ge 47 d_M_answer_36 (by decide) (fun c4 => ?_) (fun c4 => ?_)
        · exact run (fun z => Int32.not_le.mpr z.1 c4)
        · refine x_iload_n d_M_answer_39 rfl ?_
          refine x_if_le 47 d_M_answer_40 (by decide) (fun c5 => ?_) (fun c5 => ?_)
          · exact run (fun z => Int32.not_le.mpr z.2 c5)
          · refine x_lconst (v := 0) d_M_answer_43 (by decide) ?_
            refine x_goto 54 d_M_answer_44 (by decide) ?_
            refine x_lret d_M_answer_54 ?_
            exact ⟨by rw [if_pos ⟨Int32.not_le.mp c4, Int32.not_le.mp c5⟩], rfl⟩
      · rw [bi0] at c3
        refine x_ldc2 l_M_173 d_M_answer_26 ?_
        refine x_lret d_M_answer_29 ?_
        exact ⟨by rw [if_neg (by rw [c3]; simp)], rfl⟩
