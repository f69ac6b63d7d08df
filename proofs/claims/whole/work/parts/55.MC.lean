/-! The reference: readChain, readConditions. -/
def rlB (c : Int32) : Int32 := if c = 82 then 1 else if c = 83 then 2 else if c = 84 then 4 else 0
def rdC (f : Nat → Int32) : Nat → Nat → Int32 → Bool × Nat × Int32
  | 0, p, ca => (false, p, ca)
  | m + 1, p, ca =>
    if f p = 58 then (if ca = 0 then (false, p, ca) else (true, p + 1, ca))
    else if ¬ rlB (f p) = 0 ∧ (ca ≤ 0 ∨ ¬ ca &&& (rlB (f p) >>> (1 &&& 31)) = 0) ∧ ca < rlB (f p) then rdC f m (p + 1) (ca ||| rlB (f p))
    else (false, p, ca)
set_option maxRecDepth 100000 in
set_option maxHeartbeats 4000000 in
theorem c_M_readChain {N : Nat} {h : xHp} {ch ca cd gp lg : Int32} {f : Nat → Int32} {n : Nat} (hN : 116 ≤ N) (hn : n ≤ 30) (h1 : h 94 = oM ch (nI n) ca cd gp lg) (h98 : h 98 = aI 30 f) : XM y_M_readChain b_M_readChain 4 (some .int) 1 0 0 [.ref 94] N h (xR (some (.int (rv (rdC f n 0 0).1 (rdC f n 0 0).2.1))) (va_up h 94 (oM ch (nI n) (rdC f n 0 0).2.2 cd gp lg))) := by
  refine xM_intro [some (.ref 94), none, none, none] (by decide) (fun _ => rfl) (fun _ => Nat.le_of_ble_eq_true rfl) (fun Γ => ?_)
  generalize hR0 : rdC f n 0 0 = R
  generalize hQ : xR (some (.int (rv R.1 R.2.1))) (va_up h 94 (oM ch (nI n) R.2.2 cd gp lg)) = Qp
  have key : ∀ (m p : Nat) (ca : Int32) (x2 x3 : Option Value), p + m = n → rdC f m p ca = R → XW Γ y_M_readChain b_M_readChain 4 (some .int) (1, 0, 0) (xQ Γ (N + 0) 0 0 Qp) 0 0 N (va_up h 94 (oM ch (nI n) ca cd gp lg)) 7 [some (.ref 94), some (.int (nI p)), x2, x3] [] := by
    intro m
    induction m with
    | zero =>
      intro p ca x2 x3 hm hR
      refine x_iload_n d_M_readChain_7 rfl ?_
      refine x_aload_n d_M_readChain_8 rfl ?_
      refine x_get f_M_82 d_M_readChain_9 (by omega) (by first | assumption | exact vu_s | exact vu_t (by omega) (by first | assumption | exact vu_s | exact vu_t (by omega) (by first | assumption | exact vu_s | exact vu_t (by omega) (by first | assumption | exact vu_s))) | rfl | (simp only [va_up, Nat.reduceEqDiff, ↓reduceIte]; first | rfl | assumption)) rfl ?_
      refine x_icmp_ge 113 d_M_readChain_12 (by decide) (fun c1 => ?_) (fun c1 => ?_)
      · refine x_iload_n d_M_readChain_113 rfl ?_
        refine x_aload_n d_M_readChain_114 rfl ?_
        refine x_get f_M_82 d_M_readChain_115 (by omega) (by first | assumption | exact vu_s | exact vu_t (by omega) (by first | assumption | exact vu_s | exact vu_t (by omega) (by first | assumption | exact vu_s | exact vu_t (by omega) (by first | assumption | exact vu_s))) | rfl | (simp only [va_up, Nat.reduceEqDiff, ↓reduceIte]; first | rfl | assumption)) rfl ?_
        refine x_icmp_eq 128 d_M_readChain_118 (by decide) (fun c2 => ?_) (fun c2 => ?_)
        · refine x_iconst (v := -1) d_M_readChain_128 (by decide) ?_
          refine x_iload_n d_M_readChain_129 rfl ?_
          refine x_isub d_M_readChain_130 ?_
          refine x_goto 137 d_M_readChain_131 (by decide) ?_
          refine x_iret d_M_readChain_137 ?_
          rw [← hQ, ← hR]
          exact ⟨rfl, rfl⟩
        · exact absurd (by rw [show p = n by omega]) c2
      · exact absurd (nI_le (show n ≤ p by omega) (by omega)) c1
    | succ m ih =>
      intro p ca x2 x3 hm hR
      have g1 : (va_up h 94 (oM ch (nI n) ca cd gp lg)) 94 = oM ch (nI n) ca cd gp lg := vu_s
      have g98 : (va_up h 94 (oM ch (nI n) ca cd gp lg)) 98 = aI 30 f := vu_t (by decide) h98
      have hlt : p < n := by omega
      rw [rdC] at hR
      refine x_iload_n d_M_readChain_7 rfl ?_
      refine x_aload_n d_M_readChain_8 rfl ?_
      refine x_get f_M_82 d_M_readChain_9 (by omega) (by first | assumption | exact vu_s | exact vu_t (by omega) (by first | assumption | exact vu_s | exact vu_t (by omega) (by first | assumption | exact vu_s | exact vu_t (by omega) (by first | assumption | exact vu_s))) | rfl | (simp only [va_up, Nat.reduceEqDiff, ↓reduceIte]; first | rfl | assumption)) rfl ?_
      refine x_icmp_ge 113 d_M_readChain_12 (by decide) (fun c1 => ?_) (fun c1 => ?_)
      · exact absurd c1 (nI_ge hlt (by omega))
      · refine x_aload_n d_M_readChain_15 rfl ?_
        refine x_iload_n d_M_readChain_16 rfl ?_
        refine x_cVe (c_M_at p hN hn (by omega) g1 g98) k_M_100 v_M_at d_M_readChain_17 rfl (by omega) (by first | assumption | exact vu_s | exact vu_t (by omega) (by first | assumption | exact vu_s | exact vu_t (by omega) (by first | assumption | exact vu_s | exact vu_t (by omega) (by first | assumption | exact vu_s))) | rfl | (simp only [va_up, Nat.reduceEqDiff, ↓reduceIte]; first | rfl | assumption)) rfl (by omega) (Nat.le_of_ble_eq_true rfl) ?_
        rw [if_pos hlt]
        refine x_bipush (v := 58) d_M_readChain_20 (by decide) ?_
        refine x_icmp_eq 113 d_M_readChain_22 (by decide) (fun c2 => ?_) (fun c2 => ?_)
        · rw [if_pos c2] at hR
          refine x_iload_n d_M_readChain_113 rfl ?_
          refine x_aload_n d_M_readChain_114 rfl ?_
          refine x_get f_M_82 d_M_readChain_115 (by omega) (by first | assumption | exact vu_s | exact vu_t (by omega) (by first | assumption | exact vu_s | exact vu_t (by omega) (by first | assumption | exact vu_s | exact vu_t (by omega) (by first | assumption | exact vu_s))) | rfl | (simp only [va_up, Nat.reduceEqDiff, ↓reduceIte]; first | rfl | assumption)) rfl ?_
          refine x_icmp_eq 128 d_M_readChain_118 (by decide) (fun c3 => ?_) (fun c3 => ?_)
          · exact absurd ((nI_inj (by omega) (by omega)).mp c3) (by omega)
          · refine x_aload_n d_M_readChain_121 rfl ?_
            refine x_get f_M_78 d_M_readChain_122 (by omega) (by first | assumption | exact vu_s | exact vu_t (by omega) (by first | assumption | exact vu_s | exact vu_t (by omega) (by first | assumption | exact vu_s | exact vu_t (by omega) (by first | assumption | exact vu_s))) | rfl | (simp only [va_up, Nat.reduceEqDiff, ↓reduceIte]; first | rfl | assumption)) rfl ?_
            refine x_if_ne 134 d_M_readChain_125 (by decide) (fun c4 => ?_) (fun c4 => ?_)
            · rw [if_neg c4] at hR
              refine x_iload_n d_M_readChain_134 rfl ?_
              refine x_iconst (v := 1) d_M_readChain_135 (by decide) ?_
              refine x_iadd d_M_readChain_136 ?_
              refine x_iret d_M_readChain_137 ?_
              rw [← hQ, ← hR, nI_1]
              exact ⟨rfl, rfl⟩
            · rw [if_pos c4] at hR
              refine x_iconst (v := -1) d_M_readChain_128 (by decide) ?_
              refine x_iload_n d_M_readChain_129 rfl ?_
              refine x_isub d_M_readChain_130 ?_
              refine x_goto 137 d_M_readChain_131 (by decide) ?_
              refine x_iret d_M_readChain_137 ?_
              rw [← hQ, ← hR]
              exact ⟨rfl, rfl⟩
        · rw [if_neg c2] at hR
          refine x_aload_n d_M_readChain_25 rfl ?_
          refine x_iload_n d_M_readChain_26 rfl ?_
          refine x_cVe (c_M_at p hN hn (by omega) g1 g98) k_M_100 v_M_at d_M_readChain_27 rfl (by omega) (by first | assumption | exact vu_s | exact vu_t (by omega) (by first | assumption | exact vu_s | exact vu_t (by omega) (by first | assumption | exact vu_s | exact vu_t (by omega) (by first | assumption | exact vu_s))) | rfl | (simp only [va_up, Nat.reduceEqDiff, ↓reduceIte]; first | rfl | assumption)) rfl (by omega) (Nat.le_of_ble_eq_true rfl) ?_
          rw [if_pos hlt]
          have s62 : ∀ b : Int32, b = rlB (f p) → XW Γ y_M_readChain b_M_readChain 4 (some .int) (1, 0, 0) (xQ Γ (N + 0) 0 0 Qp) 0 0 N (va_up h 94 (oM ch (nI n) ca cd gp lg)) 62 [some (.ref 94), some (.int (nI p)), (some (.int (f p))), x3] [.int b] := by
            intro b hb
            rw [← hb] at hR
            have bad : ¬ (¬ b = 0 ∧ (ca ≤ 0 ∨ ¬ ca &&& (b >>> (1 &&& 31)) = 0) ∧ ca < b) → XW Γ y_M_readChain b_M_readChain 4 (some .int) (1, 0, 0) (xQ Γ (N + 0) 0 0 Qp) 0 0 N (va_up h 94 (oM ch (nI n) ca cd gp lg)) 93 [some (.ref 94), some (.int (nI p)), (some (.int (f p))), (some (.int b))] [] := by
              intro e
              rw [if_neg e] at hR
              refine x_iconst (v := -1) d_M_readChain_93 (by decide) ?_
              refine x_iload_n d_M_readChain_94 rfl ?_
              refine x_isub d_M_readChain_95 ?_
              refine x_iret d_M_readChain_96 ?_
              rw [← hQ, ← hR]
              exact ⟨rfl, rfl⟩
            have s85 : ¬ b = 0 → (ca ≤ 0 ∨ ¬ ca &&& (b >>> (1 &&& 31)) = 0) → XW Γ y_M_readChain b_M_readChain 4 (some .int) (1, 0, 0) (xQ Γ (N + 0) 0 0 Qp) 0 0 N (va_up h 94 (oM ch (nI n) ca cd gp lg)) 85 [some (.ref 94), some (.int (nI p)), (some (.int (f p))), (some (.int b))] [] := by
              intro e1 e2
              refine x_aload_n d_M_readChain_85 rfl ?_
              refine x_get f_M_78 d_M_readChain_86 (by omega) (by first | assumption | exact vu_s | exact vu_t (by omega) (by first | assumption | exact vu_s | exact vu_t (by omega) (by first | assumption | exact vu_s | exact vu_t (by omega) (by first | assumption | exact vu_s))) | rfl | (simp only [va_up, Nat.reduceEqDiff, ↓reduceIte]; first | rfl | assumption)) rfl ?_
              refine x_iload_n d_M_readChain_89 rfl ?_
              refine x_icmp_lt 97 d_M_readChain_90 (by decide) (fun c3 => ?_) (fun c3 => ?_)
              · rw [if_pos ⟨e1, e2, c3⟩] at hR
                refine x_aload_n d_M_readChain_97 rfl ?_
                refine x_dup d_M_readChain_98 rfl ?_
                refine x_get f_M_78 d_M_readChain_99 (by omega) (by first | assumption | exact vu_s | exact vu_t (by omega) (by first | assumption | exact vu_s | exact vu_t (by omega) (by first | assumption | exact vu_s | exact vu_t (by omega) (by first | assumption | exact vu_s))) | rfl | (simp only [va_up, Nat.reduceEqDiff, ↓reduceIte]; first | rfl | assumption)) rfl ?_
                refine x_iload_n d_M_readChain_102 rfl ?_
                refine x_ior d_M_readChain_103 ?_
                refine x_put f_M_78 d_M_readChain_104 (by omega) (by first | assumption | exact vu_s | exact vu_t (by omega) (by first | assumption | exact vu_s | exact vu_t (by omega) (by first | assumption | exact vu_s | exact vu_t (by omega) (by first | assumption | exact vu_s))) | rfl | (simp only [va_up, Nat.reduceEqDiff, ↓reduceIte]; first | rfl | assumption)) (Nat.le_of_ble_eq_true rfl) (fun _ => ⟨rfl, rfl⟩) ?_
                refine x_iinc1 d_M_readChain_107 rfl (by decide) rfl ?_
                refine x_goto 7 d_M_readChain_110 (by decide) ?_
                rw [nI_1, bx_uu]
                exact ih (p + 1) _ _ _ (by omega) hR
              · exact bad (fun z => c3 z.2.2)
            refine x_istore_n d_M_readChain_62 (by decide) rfl ?_
            refine x_iload_n d_M_readChain_63 rfl ?_
            refine x_if_eq 93 d_M_readChain_64 (by decide) (fun c3 => ?_) (fun c3 => ?_)
            · exact bad (fun z => z.1 c3)
            · refine x_aload_n d_M_readChain_67 rfl ?_
              refine x_get f_M_78 d_M_readChain_68 (by omega) (by first | assumption | exact vu_s | exact vu_t (by omega) (by first | assumption | exact vu_s | exact vu_t (by omega) (by first | assumption | exact vu_s | exact vu_t (by omega) (by first | assumption | exact vu_s))) | rfl | (simp only [va_up, Nat.reduceEqDiff, ↓reduceIte]; first | rfl | assumption)) rfl ?_
              refine x_if_le 85 d_M_readChain_71 (by decide) (fun c4 => ?_) (fun c4 => ?_)
              · exact s85 c3 (Or.inl c4)
              · refine x_aload_n d_M_readChain_74 rfl ?_
                refine x_get f_M_78 d_M_readChain_75 (by omega) (by first | assumption | exact vu_s | exact vu_t (by omega) (by first | assumption | exact vu_s | exact vu_t (by omega) (by first | assumption | exact vu_s | exact vu_t (by omega) (by first | assumption | exact vu_s))) | rfl | (simp only [va_up, Nat.reduceEqDiff, ↓reduceIte]; first | rfl | assumption)) rfl ?_
                refine x_iload_n d_M_readChain_78 rfl ?_
                refine x_iconst (v := 1) d_M_readChain_79 (by decide) ?_
                refine x_ishr d_M_readChain_80 ?_
                refine x_iand d_M_readChain_81 ?_
                refine x_if_eq 93 d_M_readChain_82 (by decide) (fun c5 => ?_) (fun c5 => ?_)
                · exact bad (fun z => z.2.1.elim c4 (fun q => q c5))
                · exact s85 c3 (Or.inr c5)
          refine x_istore_n d_M_readChain_30 (by decide) rfl ?_
          refine x_iload_n d_M_readChain_31 rfl ?_
          refine x_bipush (v := 82) d_M_readChain_32 (by decide) ?_
          refine x_icmp_ne 41 d_M_readChain_34 (by decide) (fun c3 => ?_) (fun c3 => ?_)
          · refine x_iload_n d_M_readChain_41 rfl ?_
            refine x_bipush (v := 83) d_M_readChain_42 (by decide) ?_
            refine x_icmp_ne 51 d_M_readChain_44 (by decide) (fun c4 => ?_) (fun c4 => ?_)
            · refine x_iload_n d_M_readChain_51 rfl ?_
              refine x_bipush (v := 84) d_M_readChain_52 (by decide) ?_
              refine x_icmp_ne 61 d_M_readChain_54 (by decide) (fun c5 => ?_) (fun c5 => ?_)
              · refine x_iconst (v := 0) d_M_readChain_61 (by decide) ?_
                exact s62 0 (by rw [rlB, if_neg c3, if_neg c4, if_neg c5])
              · refine x_iconst (v := 4) d_M_readChain_57 (by decide) ?_
                refine x_goto 62 d_M_readChain_58 (by decide) ?_
                exact s62 4 (by rw [rlB, if_neg c3, if_neg c4, if_pos c5])
            · refine x_iconst (v := 2) d_M_readChain_47 (by decide) ?_
              refine x_goto 62 d_M_readChain_48 (by decide) ?_
              exact s62 2 (by rw [rlB, if_neg c3, if_pos c4])
          · refine x_iconst (v := 1) d_M_readChain_37 (by decide) ?_
            refine x_goto 62 d_M_readChain_38 (by decide) ?_
            exact s62 1 (by rw [rlB, if_pos c3])
  refine x_iconst (v := 0) d_M_readChain_0 (by decide) ?_
  refine x_istore_n d_M_readChain_1 (by decide) rfl ?_
  refine x_aload_n d_M_readChain_2 rfl ?_
  refine x_iconst (v := 0) d_M_readChain_3 (by decide) ?_
  refine x_put f_M_78 d_M_readChain_4 (by omega) (by first | assumption | exact vu_s | exact vu_t (by omega) (by first | assumption | exact vu_s | exact vu_t (by omega) (by first | assumption | exact vu_s | exact vu_t (by omega) (by first | assumption | exact vu_s))) | rfl | (simp only [va_up, Nat.reduceEqDiff, ↓reduceIte]; first | rfl | assumption)) (Nat.le_of_ble_eq_true rfl) (fun _ => ⟨rfl, rfl⟩) ?_
  exact key n 0 0 _ _ (by omega) hR0
