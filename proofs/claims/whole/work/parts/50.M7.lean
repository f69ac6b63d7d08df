/-! The reference: simple, endTerm, multiply. -/
/-- the place of a column in the reference -/
def mp : Nat → Nat
  | 0 => 27
  | 1 => 9
  | 2 => 3
  | _ => 1
def simF (fa : Nat → Int32) (c : Int32) : Nat → Int32 := if isDig c then upd (filF fa 0 81) 0 (c - 48) else upd (filF fa 0 81) (if c = 65 then 27 else if c = 66 then 9 else if c = 67 then 3 else 1) 1
set_option maxRecDepth 100000 in
set_option maxHeartbeats 4000000 in
theorem c_M_simple {N : Nat} {h : xHp} {ch ln ca cd gp lg : Int32} {fa : Nat → Int32} (c : Int32) (hN : 116 ≤ N) (h1 : h 94 = oM ch ln ca cd gp lg) (h2 : h 114 = aI 81 fa) : XM y_M_simple b_M_simple 3 none 0 0 0 [.ref 94, .int c] N h (xR none (va_up h 114 (aI 81 (simF fa c)))) := by
  refine xM_intro [some (.ref 94), some (.int c), none] (by decide) (fun _ => rfl) (fun _ => Nat.le_of_ble_eq_true rfl) (fun Γ => ?_)
  refine x_iconst (v := 0) d_M_simple_0 (by decide) ?_
  refine x_istore_n d_M_simple_1 (by decide) rfl ?_
  have key : ∀ (m k : Nat), k ≤ 81 → 81 - k < m → XW Γ y_M_simple b_M_simple 3 none (0, 0, 0) (xQ Γ (N + 0) 0 0 (xR none (va_up h 114 (aI 81 (simF fa c))))) 0 0 N (va_up h 114 (aI 81 (filF fa 0 k))) 2 [some (.ref 94), some (.int c), some (.int (nI k))] [] := by
    intro m
    induction m with
    | zero => intro k _ h0; omega
    | succ m ih =>
      intro k hk hkm
      refine x_iload_n d_M_simple_2 rfl ?_
      refine x_bipush (v := 81) d_M_simple_3 (by decide) ?_
      refine x_icmp_ge 21 d_M_simple_5 (by decide) (fun c1 => ?_) (fun c1 => ?_)
      · have e := nI_end (n := 81) hk (by decide) c1
        subst e
        have put : ∀ i : Nat, i < 28 → isDig c = false → i = (if c = 65 then 27 else if c = 66 then 9 else if c = 67 then 3 else 1) → XW Γ y_M_simple b_M_simple 3 none (0, 0, 0) (xQ Γ (N + 0) 0 0 (xR none (va_up h 114 (aI 81 (simF fa c))))) 0 0 N (va_up h 114 (aI 81 (filF fa 0 81))) 83 [some (.ref 94), some (.int c), some (.int (nI 81))] [.int (nI i), .ref 114] := by
          intro i hi2 hdg hie
          have hi : vp_in (nI i) 81 := vp_in_nI (by omega) (by decide)
          refine x_iconst (v := 1) d_M_simple_83 (by decide) ?_
          refine x_iast d_M_simple_84 (by omega) (by first | assumption | exact vu_s | exact vu_t (by omega) (by first | assumption | exact vu_s | exact vu_t (by omega) (by first | assumption | exact vu_s | exact vu_t (by omega) (by first | assumption | exact vu_s))) | rfl | (simp only [va_up, Nat.reduceEqDiff, ↓reduceIte]; first | rfl | assumption)) (by assumption) ?_
          refine x_vret d_M_simple_85 ?_
          refine ⟨rfl, ?_⟩
          rw [bx_uu, nI_clamp (show i < 2 ^ 31 by omega), simF, hdg, hie]
          rfl
        have col : isDig c = false → XW Γ y_M_simple b_M_simple 3 none (0, 0, 0) (xQ Γ (N + 0) 0 0 (xR none (va_up h 114 (aI 81 (simF fa c))))) 0 0 N (va_up h 114 (aI 81 (filF fa 0 81))) 46 [some (.ref 94), some (.int c), some (.int (nI 81))] [] := by
          intro hdg
          refine x_aload_n d_M_simple_46 rfl ?_
          refine x_get f_M_68 d_M_simple_47 (by omega) (by first | assumption | exact vu_s | exact vu_t (by omega) (by first | assumption | exact vu_s | exact vu_t (by omega) (by first | assumption | exact vu_s | exact vu_t (by omega) (by first | assumption | exact vu_s))) | rfl | (simp only [va_up, Nat.reduceEqDiff, ↓reduceIte]; first | rfl | assumption)) rfl ?_
          refine x_iload_n d_M_simple_50 rfl ?_
          refine x_bipush (v := 65) d_M_simple_51 (by decide) ?_
          refine x_icmp_ne 61 d_M_simple_53 (by decide) (fun c2 => ?_) (fun c2 => ?_)
          · refine x_iload_n d_M_simple_61 rfl ?_
            refine x_bipush (v := 66) d_M_simple_62 (by decide) ?_
            refine x_icmp_ne 72 d_M_simple_64 (by decide) (fun c3 => ?_) (fun c3 => ?_)
            · refine x_iload_n d_M_simple_72 rfl ?_
              refine x_bipush (v := 67) d_M_simple_73 (by decide) ?_
              refine x_icmp_ne 82 d_M_simple_75 (by decide) (fun c4 => ?_) (fun c4 => ?_)
              · refine x_iconst (v := 1) d_M_simple_82 (by decide) ?_
                exact put 1 (by decide) hdg (by rw [if_neg c2, if_neg c3, if_neg c4])
              · refine x_iconst (v := 3) d_M_simple_78 (by decide) ?_
                refine x_goto 83 d_M_simple_79 (by decide) ?_
                exact put 3 (by decide) hdg (by rw [if_neg c2, if_neg c3, if_pos c4])
            · refine x_bipush (v := 9) d_M_simple_67 (by decide) ?_
              refine x_goto 83 d_M_simple_69 (by decide) ?_
              exact put 9 (by decide) hdg (by rw [if_neg c2, if_pos c3])
          · refine x_bipush (v := 27) d_M_simple_56 (by decide) ?_
            refine x_goto 83 d_M_simple_58 (by decide) ?_
            exact put 27 (by decide) hdg (by rw [if_pos c2])
        refine x_iload_n d_M_simple_21 rfl ?_
        refine x_bipush (v := 48) d_M_simple_22 (by decide) ?_
        refine x_icmp_lt 46 d_M_simple_24 (by decide) (fun c2 => ?_) (fun c2 => ?_)
        · exact col (by simp [isDig, Int32.not_le.mpr c2])
        · refine x_iload_n d_M_simple_27 rfl ?_
          refine x_bipush (v := 57) d_M_simple_28 (by decide) ?_
          refine x_icmp_gt 46 d_M_simple_30 (by decide) (fun c3 => ?_) (fun c3 => ?_)
          · exact col (by simp [isDig, Int32.not_le.mpr c3])
          · have hdg : isDig c = true := by simp [isDig, Int32.not_lt.mp c2, Int32.not_lt.mp c3]
            have hi : vp_in (0 : Int32) 81 := by unfold vp_in; decide
            refine x_aload_n d_M_simple_33 rfl ?_
            refine x_get f_M_68 d_M_simple_34 (by omega) (by first | assumption | exact vu_s | exact vu_t (by omega) (by first | assumption | exact vu_s | exact vu_t (by omega) (by first | assumption | exact vu_s | exact vu_t (by omega) (by first | assumption | exact vu_s))) | rfl | (simp only [va_up, Nat.reduceEqDiff, ↓reduceIte]; first | rfl | assumption)) rfl ?_
            refine x_iconst (v := 0) d_M_simple_37 (by decide) ?_
            refine x_iload_n d_M_simple_38 rfl ?_
            refine x_bipush (v := 48) d_M_simple_39 (by decide) ?_
            refine x_isub d_M_simple_41 ?_
            refine x_iast d_M_simple_42 (by omega) (by first | assumption | exact vu_s | exact vu_t (by omega) (by first | assumption | exact vu_s | exact vu_t (by omega) (by first | assumption | exact vu_s | exact vu_t (by omega) (by first | assumption | exact vu_s))) | rfl | (simp only [va_up, Nat.reduceEqDiff, ↓reduceIte]; first | rfl | assumption)) (by assumption) ?_
            refine x_goto 85 d_M_simple_43 (by decide) ?_
            refine x_vret d_M_simple_85 ?_
            refine ⟨rfl, ?_⟩
            rw [bx_uu, simF, hdg]
            rfl
      · have hlt := nI_more (n := 81) hk (by decide) c1
        have hi : vp_in (nI k) 81 := vp_in_nI hlt (by decide)
        refine x_aload_n d_M_simple_8 rfl ?_
        refine x_get f_M_68 d_M_simple_9 (by omega) (by first | assumption | exact vu_s | exact vu_t (by omega) (by first | assumption | exact vu_s | exact vu_t (by omega) (by first | assumption | exact vu_s | exact vu_t (by omega) (by first | assumption | exact vu_s))) | rfl | (simp only [va_up, Nat.reduceEqDiff, ↓reduceIte]; first | rfl | assumption)) rfl ?_
        refine x_iload_n d_M_simple_12 rfl ?_
        refine x_iconst (v := 0) d_M_simple_13 (by decide) ?_
        refine x_iast d_M_simple_14 (by omega) (by first | assumption | exact vu_s | exact vu_t (by omega) (by first | assumption | exact vu_s | exact vu_t (by omega) (by first | assumption | exact vu_s | exact vu_t (by omega) (by first | assumption | exact vu_s))) | rfl | (simp only [va_up, Nat.reduceEqDiff, ↓reduceIte]; first | rfl | assumption)) (by assumption) ?_
        refine x_iinc1 d_M_simple_15 rfl (by decide) rfl ?_
        refine x_goto 2 d_M_simple_18 (by decide) ?_
        rw [nI_1, nI_clamp (show k < 2 ^ 31 by omega), filF_s, bx_uu]
        exact ih (k + 1) (by omega) (by omega)
  have := key 82 0 (by omega) (by omega)
  rw [filF_0, show aI 81 fa = h 114 from h2.symm, vu_e] at this
  exact this
def etF (sm tm : Nat → Int32) (lg : Bool) (t : Int32) (d : Nat) : Po := fun k => sm (81 * d + k) + (if lg then 0 else t * tm (81 * d + k))
set_option maxRecDepth 100000 in
set_option maxHeartbeats 4000000 in
theorem c_M_endTerm {N : Nat} {h : xHp} {ch ln ca cd gp : Int32} {lg : Bool} {sm tm bg sn : Nat → Int32} {d : Nat} (hN : 116 ≤ N) (hd : d < 9) (h1 : h 94 = oM ch ln ca cd gp (bi lg)) (h2 : h 109 = aI 729 sm) (h3 : h 110 = aI 729 tm) (h4 : h 111 = aB 9 bg) (h5 : h 112 = aI 9 sn) : XM y_M_endTerm b_M_endTerm 3 none 1 0 0 [.ref 94, .int (nI d)] N h (xR none (va_up (va_up (va_up h 109 (aI 729 (stF sm d (etF sm tm lg (sn d) d) 81))) 111 (aB 9 (upd bg d 0))) 94 (oM ch ln ca cd gp (bi (lg || isLg (etF sm tm lg (sn d) d)))))) := by
  have hid : vp_in (nI d) 9 := vp_in_nI hd (by decide)
  have hcd : (nI d).toNatClampNeg = d := nI_clamp (by omega)
  refine xM_intro [some (.ref 94), some (.int (nI d)), none] (by decide) (fun _ => rfl) (fun _ => Nat.le_of_ble_eq_true rfl) (fun Γ => ?_)
  refine x_iconst (v := 0) d_M_endTerm_0 (by decide) ?_
  refine x_istore_n d_M_endTerm_1 (by decide) rfl ?_
  generalize hF : etF sm tm lg (sn d) d = F
  have key : ∀ (m k : Nat), k ≤ 81 → 81 - k < m → XW Γ y_M_endTerm b_M_endTerm 3 none (1, 0, 0) (xQ Γ (N + 0) 0 0 (xR none (va_up (va_up (va_up h 109 (aI 729 (stF sm d F 81))) 111 (aB 9 (upd bg d 0))) 94 (oM ch ln ca cd gp (bi (lg || isLg F)))))) 0 0 N (va_up h 109 (aI 729 (stF sm d F k))) 2 [some (.ref 94), some (.int (nI d)), some (.int (nI k))] [] := by
    intro m
    induction m with
    | zero => intro k _ h0; omega
    | succ m ih =>
      intro k hk hkm
      refine x_iload_n d_M_endTerm_2 rfl ?_
      refine x_bipush (v := 81) d_M_endTerm_3 (by decide) ?_
      refine x_icmp_ge 57 d_M_endTerm_5 (by decide) (fun c1 => ?_) (fun c1 => ?_)
      · have e := nI_end (n := 81) hk (by decide) c1
        subst e
        refine x_aload_n d_M_endTerm_57 rfl ?_
        refine x_get f_M_59 d_M_endTerm_58 (by omega) (by first | assumption | exact vu_s | exact vu_t (by omega) (by first | assumption | exact vu_s | exact vu_t (by omega) (by first | assumption | exact vu_s | exact vu_t (by omega) (by first | assumption | exact vu_s))) | rfl | (simp only [va_up, Nat.reduceEqDiff, ↓reduceIte]; first | rfl | assumption)) rfl ?_
        refine x_iload_n d_M_endTerm_61 rfl ?_
        refine x_iconst (v := 0) d_M_endTerm_62 (by decide) ?_
        refine x_zast d_M_endTerm_63 (by omega) (by first | assumption | exact vu_s | exact vu_t (by omega) (by first | assumption | exact vu_s | exact vu_t (by omega) (by first | assumption | exact vu_s | exact vu_t (by omega) (by first | assumption | exact vu_s))) | rfl | (simp only [va_up, Nat.reduceEqDiff, ↓reduceIte]; first | rfl | assumption)) (by assumption) rfl ?_
        refine x_aload_n d_M_endTerm_64 rfl ?_
        refine x_iconst (v := 1) d_M_endTerm_65 (by decide) ?_
        refine x_bipush (v := 81) d_M_endTerm_66 (by decide) ?_
        refine x_iload_n d_M_endTerm_68 rfl ?_
        refine x_imul d_M_endTerm_69 ?_
        rw [hcd, show (81 : Int32) * nI d = nI (81 * d) by rw [show (81 : Int32) = nI 81 from rfl, pk_mul]]
        refine x_cVv (c_M_look (ofS := true) hN hd (vu_t (by decide) (vu_t (by decide) h1)) (vu_t (by decide) vu_s) (vu_t (by decide) (vu_t (by decide) h3))) k_M_96 v_M_look d_M_endTerm_70 rfl (by omega) (by first | assumption | exact vu_s | exact vu_t (by omega) (by first | assumption | exact vu_s | exact vu_t (by omega) (by first | assumption | exact vu_s | exact vu_t (by omega) (by first | assumption | exact vu_s))) | rfl | (simp only [va_up, Nat.reduceEqDiff, ↓reduceIte]; first | rfl | assumption)) rfl (by omega) (Nat.le_of_ble_eq_true rfl) ?_
        refine x_vret d_M_endTerm_73 ?_
        refine ⟨rfl, ?_⟩
        rw [if_pos rfl, isLg_pe (f := sg (stF sm d F 81) d) (g := F) (fun j hj => stF_in sm d F hj)]
      · have hlt := nI_more (n := 81) hk (by decide) c1
        have hi : vp_in ((81 : Int32) * nI d + nI k) 729 := by rw [i81]; exact vp_in_nI (by omega) (by decide)
        have hci : ((81 : Int32) * nI d + nI k).toNatClampNeg = 81 * d + k := by rw [i81]; exact nI_clamp (by omega)
        have e0 : stF sm d F k (81 * d + k) = sm (81 * d + k) := by
          simp only [stF]
          rw [if_neg (by omega)]
        have st : ∀ x : Int32, sm (81 * d + k) + x = F k → XW Γ y_M_endTerm b_M_endTerm 3 none (1, 0, 0) (xQ Γ (N + 0) 0 0 (xR none (va_up (va_up (va_up h 109 (aI 729 (stF sm d F 81))) 111 (aB 9 (upd bg d 0))) 94 (oM ch ln ca cd gp (bi (lg || isLg F)))))) 0 0 N (va_up h 109 (aI 729 (stF sm d F k))) 49 [some (.ref 94), some (.int (nI d)), some (.int (nI k))] [.int x, .int (stF sm d F k ((81 : Int32) * nI d + nI k).toNatClampNeg), .int ((81 : Int32) * nI d + nI k), .ref 109] := by
          intro x hx
          refine x_iadd d_M_endTerm_49 ?_
          refine x_iast d_M_endTerm_50 (by omega) (by first | assumption | exact vu_s | exact vu_t (by omega) (by first | assumption | exact vu_s | exact vu_t (by omega) (by first | assumption | exact vu_s | exact vu_t (by omega) (by first | assumption | exact vu_s))) | rfl | (simp only [va_up, Nat.reduceEqDiff, ↓reduceIte]; first | rfl | assumption)) (by assumption) ?_
          refine x_iinc1 d_M_endTerm_51 rfl (by decide) rfl ?_
          refine x_goto 2 d_M_endTerm_54 (by decide) ?_
          rw [nI_1, hci, e0, hx, stF_s, bx_uu]
          exact ih (k + 1) (by omega) (by omega)
        refine x_aload_n d_M_endTerm_8 rfl ?_
        refine x_get f_M_53 d_M_endTerm_9 (by omega) (by first | assumption | exact vu_s | exact vu_t (by omega) (by first | assumption | exact vu_s | exact vu_t (by omega) (by first | assumption | exact vu_s | exact vu_t (by omega) (by first | assumption | exact vu_s))) | rfl | (simp only [va_up, Nat.reduceEqDiff, ↓reduceIte]; first | rfl | assumption)) rfl ?_
        refine x_bipush (v := 81) d_M_endTerm_12 (by decide) ?_
        refine x_iload_n d_M_endTerm_14 rfl ?_
        refine x_imul d_M_endTerm_15 ?_
        refine x_iload_n d_M_endTerm_16 rfl ?_
        refine x_iadd d_M_endTerm_17 ?_
        refine x_dup2 d_M_endTerm_18 rfl rfl ?_
        refine x_iald d_M_endTerm_19 (by omega) (by first | assumption | exact vu_s | exact vu_t (by omega) (by first | assumption | exact vu_s | exact vu_t (by omega) (by first | assumption | exact vu_s | exact vu_t (by omega) (by first | assumption | exact vu_s))) | rfl | (simp only [va_up, Nat.reduceEqDiff, ↓reduceIte]; first | rfl | assumption)) (by assumption) ?_
        refine x_aload_n d_M_endTerm_20 rfl ?_
        refine x_get f_M_85 d_M_endTerm_21 (by omega) (by first | assumption | exact vu_s | exact vu_t (by omega) (by first | assumption | exact vu_s | exact vu_t (by omega) (by first | assumption | exact vu_s | exact vu_t (by omega) (by first | assumption | exact vu_s))) | rfl | (simp only [va_up, Nat.reduceEqDiff, ↓reduceIte]; first | rfl | assumption)) rfl ?_
        refine x_if_eq 31 d_M_endTerm_24 (by decide) (fun c2 => ?_) (fun c2 => ?_)
        · rw [bi0] at c2
          refine x_aload_n d_M_endTerm_31 rfl ?_
          refine x_get f_M_62 d_M_endTerm_32 (by omega) (by first | assumption | exact vu_s | exact vu_t (by omega) (by first | assumption | exact vu_s | exact vu_t (by omega) (by first | assumption | exact vu_s | exact vu_t (by omega) (by first | assumption | exact vu_s))) | rfl | (simp only [va_up, Nat.reduceEqDiff, ↓reduceIte]; first | rfl | assumption)) rfl ?_
          refine x_iload_n d_M_endTerm_35 rfl ?_
          refine x_iald d_M_endTerm_36 (by omega) (by first | assumption | exact vu_s | exact vu_t (by omega) (by first | assumption | exact vu_s | exact vu_t (by omega) (by first | assumption | exact vu_s | exact vu_t (by omega) (by first | assumption | exact vu_s))) | rfl | (simp only [va_up, Nat.reduceEqDiff, ↓reduceIte]; first | rfl | assumption)) (by assumption) ?_
          refine x_aload_n d_M_endTerm_37 rfl ?_
          refine x_get f_M_56 d_M_endTerm_38 (by omega) (by first | assumption | exact vu_s | exact vu_t (by omega) (by first | assumption | exact vu_s | exact vu_t (by omega) (by first | assumption | exact vu_s | exact vu_t (by omega) (by first | assumption | exact vu_s))) | rfl | (simp only [va_up, Nat.reduceEqDiff, ↓reduceIte]; first | rfl | assumption)) rfl ?_
          refine x_bipush (v := 81) d_M_endTerm_41 (by decide) ?_
          refine x_iload_n d_M_endTerm_43 rfl ?_
          refine x_imul d_M_endTerm_44 ?_
          refine x_iload_n d_M_endTerm_45 rfl ?_
          refine x_iadd d_M_endTerm_46 ?_
          refine x_iald d_M_endTerm_47 (by omega) (by first | assumption | exact vu_s | exact vu_t (by omega) (by first | assumption | exact vu_s | exact vu_t (by omega) (by first | assumption | exact vu_s | exact vu_t (by omega) (by first | assumption | exact vu_s))) | rfl | (simp only [va_up, Nat.reduceEqDiff, ↓reduceIte]; first | rfl | assumption)) (by assumption) ?_
          refine x_imul d_M_endTerm_48 ?_
          rw [hcd]
          refine st _ ?_
          rw [hci, ← hF, etF, c2]
          rfl
        · rw [bi1] at c2
          refine x_iconst (v := 0) d_M_endTerm_27 (by decide) ?_
          refine x_goto 49 d_M_endTerm_28 (by decide) ?_
          refine st _ ?_
          rw [← hF, etF, c2]
          rfl
  have := key 82 0 (by omega) (by omega)
  rw [stF_0, ← h2, vu_e] at this
  exact this
