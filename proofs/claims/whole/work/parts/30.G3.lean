/-! Grammar: digits of conditions, take, faultIn. -/
set_option maxRecDepth 100000 in
set_option maxHeartbeats 4000000 in
theorem c_G_meets {N : Nat} {h : xHp} {v : Nat} (kind d : Int32) : XM y_G_meets b_G_meets 3 (some .boolean) 0 0 0 [.int (nI v), .int kind, .int d] N h (xR (some (.int (bi (meetsB v kind d)))) h) := by
  refine xM_intro [some (.int (nI v)), some (.int kind), some (.int d)] (by decide) (fun _ => rfl) (fun _ => Nat.le_of_ble_eq_true rfl) (fun Γ => ?_)
  refine x_iload_n d_G_meets_0 rfl ?_
  by_cases k1 : kind = 35
  · subst k1
    refine x_lookup 47 d_G_meets_1 (by decide) (off := 46) (by decide) (by decide) ?_
    refine x_iload_n d_G_meets_47 rfl ?_
    refine x_iload_n d_G_meets_48 rfl ?_
    refine x_icmp_eq 56 d_G_meets_49 (by decide) (fun c1 => ?_) (fun c1 => ?_)
    · refine x_iconst (v := 0) d_G_meets_56 (by decide) ?_
      refine x_zret d_G_meets_57 (by first | rfl | assumption) ?_
      exact ⟨by simp [meetsB, c1, bi], rfl⟩
    · refine x_iconst (v := 1) d_G_meets_52 (by decide) ?_
      refine x_goto 57 d_G_meets_53 (by decide) ?_
      refine x_zret d_G_meets_57 (by first | rfl | assumption) ?_
      exact ⟨by simp [meetsB, c1, bi], rfl⟩
  · by_cases k2 : kind = 60
    · subst k2
      refine x_lookup 58 d_G_meets_1 (by decide) (off := 57) (by decide) (by decide) ?_
      refine x_iload_n d_G_meets_58 rfl ?_
      refine x_iload_n d_G_meets_59 rfl ?_
      refine x_icmp_ge 67 d_G_meets_60 (by decide) (fun c1 => ?_) (fun c1 => ?_)
      · refine x_iconst (v := 0) d_G_meets_67 (by decide) ?_
        refine x_zret d_G_meets_68 (by first | rfl | assumption) ?_
        exact ⟨by simp [meetsB, Int32.not_lt.mpr c1, bi], rfl⟩
      · refine x_iconst (v := 1) d_G_meets_63 (by decide) ?_
        refine x_goto 68 d_G_meets_64 (by decide) ?_
        refine x_zret d_G_meets_68 (by first | rfl | assumption) ?_
        exact ⟨by simp [meetsB, Int32.not_le.mp c1, bi], rfl⟩
    · by_cases k3 : kind = 61
      · subst k3
        refine x_lookup 36 d_G_meets_1 (by decide) (off := 35) (by decide) (by decide) ?_
        refine x_iload_n d_G_meets_36 rfl ?_
        refine x_iload_n d_G_meets_37 rfl ?_
        refine x_icmp_ne 45 d_G_meets_38 (by decide) (fun c1 => ?_) (fun c1 => ?_)
        · refine x_iconst (v := 0) d_G_meets_45 (by decide) ?_
          refine x_zret d_G_meets_46 (by first | rfl | assumption) ?_
          exact ⟨by simp [meetsB, c1, bi], rfl⟩
        · refine x_iconst (v := 1) d_G_meets_41 (by decide) ?_
          refine x_goto 46 d_G_meets_42 (by decide) ?_
          refine x_zret d_G_meets_46 (by first | rfl | assumption) ?_
          exact ⟨by simp [meetsB, c1, bi], rfl⟩
      · refine x_lookup 69 d_G_meets_1 (by decide) (off := 68) (by show Op.lookupswitch.offset [(35, 46), (60, 57), (61, 35)] 68 kind.toInt = 68; rw [lv_osw (a := 35) k1 (by decide), lv_osw (a := 60) k2 (by decide), lv_osw (a := 61) k3 (by decide)]; rfl) (by decide) ?_
        refine x_iload_n d_G_meets_69 rfl ?_
        refine x_iload_n d_G_meets_70 rfl ?_
        refine x_icmp_le 78 d_G_meets_71 (by decide) (fun c1 => ?_) (fun c1 => ?_)
        · refine x_iconst (v := 0) d_G_meets_78 (by decide) ?_
          refine x_zret d_G_meets_79 (by first | rfl | assumption) ?_
          exact ⟨by simp [meetsB, k1, k2, k3, Int32.not_lt.mpr c1, bi], rfl⟩
        · refine x_iconst (v := 1) d_G_meets_74 (by decide) ?_
          refine x_goto 79 d_G_meets_75 (by decide) ?_
          refine x_zret d_G_meets_79 (by first | rfl | assumption) ?_
          exact ⟨by simp [meetsB, k1, k2, k3, Int32.not_le.mp c1, bi], rfl⟩
theorem upd_e (f : Nat → Int32) (k : Nat) : upd f k (f k) = f := by
  funext j
  by_cases e : j = k
  · subst e
    simp [upd]
  · simp [upd, e]
theorem upd_u (f : Nat → Int32) (k : Nat) (v w : Int32) : upd (upd f k v) k w = upd f k w := by
  funext j
  by_cases e : j = k
  · subst e
    simp [upd]
  · simp [upd, e]
theorem upd_s (f : Nat → Int32) (k : Nat) (v : Int32) : upd f k v k = v := if_pos rfl
set_option maxRecDepth 100000 in
set_option maxHeartbeats 4000000 in
theorem c_G_takeConditionDigit {N : Nat} {h : xHp} (σ : GS) (c : Int32) (hN : 94 ≤ N) (hcc : vp_in σ.2.2.2.2.2.1 4) : XM y_G_takeConditionDigit b_G_takeConditionDigit 3 (some .boolean) 1 0 0 [.ref 7, .int c] N (hG h σ) (gOut h σ (gDig σ c)) := by
  obtain ⟨s, fi, la, op, bt, cc, ck, cn, gr, al⟩ := σ
  refine xM_intro [some (.ref 7), some (.int c), none] (by decide) (fun _ => rfl) (fun _ => Nat.le_of_ble_eq_true rfl) (fun Γ => ?_)
  refine x_iload_n d_G_takeConditionDigit_0 rfl ?_
  refine x_cSe (c_T_isDigit c) k_G_98 s_T_isDigit d_G_takeConditionDigit_1 rfl (by omega) (Nat.le_of_ble_eq_true rfl) ?_
  refine x_if_ne 9 d_G_takeConditionDigit_4 (by decide) (fun c1 => ?_) (fun c1 => ?_)
  · rw [bi1] at c1
    refine x_iconst (v := 0) d_G_takeConditionDigit_9 (by decide) ?_
    refine x_istore_n d_G_takeConditionDigit_10 (by decide) rfl ?_
    have key : ∀ (n v : Nat), v ≤ 6 → 6 - v < n → XW Γ y_G_takeConditionDigit b_G_takeConditionDigit 3 (some .boolean) (1, 0, 0) (xQ Γ (N + 0) 0 0 (gOut h (s, fi, la, op, bt, cc, ck, cn, gr, al) (gDig (s, fi, la, op, bt, cc, ck, cn, gr, al) c))) 0 0 N (hG h (s, fi, la, op, bt, cc, ck, cn, gr, upd al cc.toNatClampNeg (rst (al cc.toNatClampNeg) ck (c - 48) v))) 11 [some (.ref 7), some (.int c), some (.int (nI v))] [] := by
      intro n
      induction n with
      | zero => intro v _ h0; omega
      | succ n ih =>
        intro v hv hvn
        have h7 := hG_7 h (s, fi, la, op, bt, cc, ck, cn, gr, upd al cc.toNatClampNeg (rst (al cc.toNatClampNeg) ck (c - 48) v))
        have h8 := hG_8 h (s, fi, la, op, bt, cc, ck, cn, gr, upd al cc.toNatClampNeg (rst (al cc.toNatClampNeg) ck (c - 48) v))
        refine x_iload_n d_G_takeConditionDigit_11 rfl ?_
        refine x_bipush (v := 6) d_G_takeConditionDigit_12 (by decide) ?_
        refine x_icmp_ge 55 d_G_takeConditionDigit_14 (by decide) (fun c2 => ?_) (fun c2 => ?_)
        · have e := nI_end (n := 6) hv (by decide) c2
          subst e
          refine x_aload_n d_G_takeConditionDigit_55 rfl ?_
          refine x_dup d_G_takeConditionDigit_56 rfl ?_
          refine x_get f_G_43 d_G_takeConditionDigit_57 (by omega) (by first | assumption | exact vu_s | exact vu_t (by omega) (by first | assumption | exact vu_s | exact vu_t (by omega) (by first | assumption | exact vu_s | exact vu_t (by omega) (by first | assumption | exact vu_s))) | rfl | (simp only [va_up, Nat.reduceEqDiff, ↓reduceIte]; first | rfl | assumption)) rfl ?_
          refine x_iconst (v := 1) d_G_takeConditionDigit_60 (by decide) ?_
          refine x_iadd d_G_takeConditionDigit_61 ?_
          refine x_put f_G_43 d_G_takeConditionDigit_62 (by omega) (by first | assumption | exact vu_s | exact vu_t (by omega) (by first | assumption | exact vu_s | exact vu_t (by omega) (by first | assumption | exact vu_s | exact vu_t (by omega) (by first | assumption | exact vu_s))) | rfl | (simp only [va_up, Nat.reduceEqDiff, ↓reduceIte]; first | rfl | assumption)) (Nat.le_of_ble_eq_true rfl) (fun _ => ⟨rfl, rfl⟩) ?_
          refine x_aload_n d_G_takeConditionDigit_65 rfl ?_
          refine x_bipush (v := 7) d_G_takeConditionDigit_66 (by decide) ?_
          refine x_put f_G_49 d_G_takeConditionDigit_68 (by omega) (by first | assumption | exact vu_s | exact vu_t (by omega) (by first | assumption | exact vu_s | exact vu_t (by omega) (by first | assumption | exact vu_s | exact vu_t (by omega) (by first | assumption | exact vu_s))) | rfl | (simp only [va_up, Nat.reduceEqDiff, ↓reduceIte]; first | rfl | assumption)) (Nat.le_of_ble_eq_true rfl) (fun _ => ⟨rfl, rfl⟩) ?_
          refine x_iconst (v := 1) d_G_takeConditionDigit_71 (by decide) ?_
          refine x_zret d_G_takeConditionDigit_72 (by first | rfl | assumption) ?_
          rw [show gDig (s, fi, la, op, bt, cc, ck, cn, gr, al) c = some (7, fi, la, op, bt, cc, ck, cn + 1, gr, upd al cc.toNatClampNeg (rst (al cc.toNatClampNeg) ck (c - 48) 6)) from if_pos c1, bx_uu]
          exact ⟨rfl, hG_put h (s, fi, la, op, bt, cc, ck, cn, gr, upd al cc.toNatClampNeg (rst (al cc.toNatClampNeg) ck (c - 48) 6)) (7, fi, la, op, bt, cc, ck, cn + 1, gr, upd al cc.toNatClampNeg (rst (al cc.toNatClampNeg) ck (c - 48) 6)) rfl⟩
        · have hlt := nI_more (n := 6) hv (by decide) c2
          refine x_iload_n d_G_takeConditionDigit_17 rfl ?_
          refine x_aload_n d_G_takeConditionDigit_18 rfl ?_
          refine x_get f_G_113 d_G_takeConditionDigit_19 (by omega) (by first | assumption | exact vu_s | exact vu_t (by omega) (by first | assumption | exact vu_s | exact vu_t (by omega) (by first | assumption | exact vu_s | exact vu_t (by omega) (by first | assumption | exact vu_s))) | rfl | (simp only [va_up, Nat.reduceEqDiff, ↓reduceIte]; first | rfl | assumption)) rfl ?_
          refine x_iload_n d_G_takeConditionDigit_22 rfl ?_
          refine x_bipush (v := 48) d_G_takeConditionDigit_23 (by decide) ?_
          refine x_isub d_G_takeConditionDigit_25 ?_
          refine x_cSe (c_G_meets ck (c - 48)) k_G_117 s_G_meets d_G_takeConditionDigit_26 rfl (by omega) (Nat.le_of_ble_eq_true rfl) ?_
          refine x_if_ne 49 d_G_takeConditionDigit_29 (by decide) (fun c3 => ?_) (fun c3 => ?_)
          · rw [bi1] at c3
            refine x_iinc1 d_G_takeConditionDigit_49 rfl (by decide) rfl ?_
            refine x_goto 11 d_G_takeConditionDigit_52 (by decide) ?_
            rw [nI_1]
            have := ih (v + 1) (by omega) (by omega)
            rw [show rst (al cc.toNatClampNeg) ck (c - 48) (v + 1) = rst (al cc.toNatClampNeg) ck (c - 48) v by simp [rst, c3]] at this
            exact this
          · rw [bi0] at c3
            refine x_aload_n d_G_takeConditionDigit_32 rfl ?_
            refine x_get f_G_9 d_G_takeConditionDigit_33 (by omega) (by first | assumption | exact vu_s | exact vu_t (by omega) (by first | assumption | exact vu_s | exact vu_t (by omega) (by first | assumption | exact vu_s | exact vu_t (by omega) (by first | assumption | exact vu_s))) | rfl | (simp only [va_up, Nat.reduceEqDiff, ↓reduceIte]; first | rfl | assumption)) rfl ?_
            refine x_aload_n d_G_takeConditionDigit_36 rfl ?_
            refine x_get f_G_110 d_G_takeConditionDigit_37 (by omega) (by first | assumption | exact vu_s | exact vu_t (by omega) (by first | assumption | exact vu_s | exact vu_t (by omega) (by first | assumption | exact vu_s | exact vu_t (by omega) (by first | assumption | exact vu_s))) | rfl | (simp only [va_up, Nat.reduceEqDiff, ↓reduceIte]; first | rfl | assumption)) rfl ?_
            refine x_dup2 d_G_takeConditionDigit_40 rfl rfl ?_
            refine x_iald d_G_takeConditionDigit_41 (by omega) (by first | assumption | exact vu_s | exact vu_t (by omega) (by first | assumption | exact vu_s | exact vu_t (by omega) (by first | assumption | exact vu_s | exact vu_t (by omega) (by first | assumption | exact vu_s))) | rfl | (simp only [va_up, Nat.reduceEqDiff, ↓reduceIte]; first | rfl | assumption)) (by assumption) ?_
            refine x_iconst (v := 1) d_G_takeConditionDigit_42 (by decide) ?_
            refine x_iload_n d_G_takeConditionDigit_43 rfl ?_
            refine x_ishl d_G_takeConditionDigit_44 ?_
            refine x_iconst (v := -1) d_G_takeConditionDigit_45 (by decide) ?_
            refine x_ixor d_G_takeConditionDigit_46 ?_
            refine x_iand d_G_takeConditionDigit_47 ?_
            refine x_iast d_G_takeConditionDigit_48 (by omega) (by first | assumption | exact vu_s | exact vu_t (by omega) (by first | assumption | exact vu_s | exact vu_t (by omega) (by first | assumption | exact vu_s | exact vu_t (by omega) (by first | assumption | exact vu_s))) | rfl | (simp only [va_up, Nat.reduceEqDiff, ↓reduceIte]; first | rfl | assumption)) (by assumption) ?_
            refine x_iinc1 d_G_takeConditionDigit_49 rfl (by decide) rfl ?_
            refine x_goto 11 d_G_takeConditionDigit_52 (by decide) ?_
            rw [nI_1]
            have := ih (v + 1) (by omega) (by omega)
            rw [show rst (al cc.toNatClampNeg) ck (c - 48) (v + 1) = rst (al cc.toNatClampNeg) ck (c - 48) v &&& (((1 : Int32) <<< (nI v &&& 31)) ^^^ (-1)) by simp [rst, c3]] at this
            refine XW_h ?_ this
            simp only [upd_u, upd_s]
            unfold hG
            rw [vu_c _ _ _ (by decide : (8 : Nat) ≠ 7), bx_uu]
    have := key 7 0 (by omega) (by omega)
    rw [show rst (al cc.toNatClampNeg) ck (c - 48) 0 = al cc.toNatClampNeg from rfl, upd_e] at this
    exact this
  · rw [bi0] at c1
    refine x_iconst (v := 0) d_G_takeConditionDigit_7 (by decide) ?_
    refine x_zret d_G_takeConditionDigit_8 (by first | rfl | assumption) ?_
    rw [show gDig (s, fi, la, op, bt, cc, ck, cn, gr, al) c = none from if_neg (by rw [c1]; decide)]
    exact ⟨rfl, rfl⟩
def chOK (c : Int32) : Prop := narrow .char (.int c) = .int c ∧ fits .char (.int c) = true
def gI (σ : GS) : Prop := σ.1 ≤ 9 ∧ σ.2.2.2.1 ≤ 8 ∧ vp_in σ.2.2.2.2.2.1 4 ∧ 0 ≤ σ.2.1
set_option maxRecDepth 100000 in
set_option maxHeartbeats 4000000 in
theorem c_G_take {N : Nat} {h : xHp} (σ : GS) (c : Int32) (hN : 94 ≤ N) (hI : gI σ) (hc : chOK c) : XM y_G_take b_G_take 2 (some .boolean) 3 0 0 [.ref 7, .int c] N (hG h σ) (gOut h σ (gTake σ c)) := by
  have h7 := hG_7 h σ
  obtain ⟨i1, i2, i3, i4⟩ := hI
  refine xM_intro [some (.ref 7), some (.int c)] (by decide) (fun _ => rfl) (fun _ => Nat.le_of_ble_eq_true rfl) (fun Γ => ?_)
  refine x_aload_n d_G_take_0 rfl ?_
  refine x_get f_G_49 d_G_take_1 (by omega) (by first | assumption | exact vu_s | exact vu_t (by omega) (by first | assumption | exact vu_s | exact vu_t (by omega) (by first | assumption | exact vu_s | exact vu_t (by omega) (by first | assumption | exact vu_s))) | rfl | (simp only [va_up, Nat.reduceEqDiff, ↓reduceIte]; first | rfl | assumption)) rfl ?_
  obtain ⟨s, t⟩ := σ
  have i1' : s ≤ 9 := i1
  rcases (show s = 0 ∨ s = 1 ∨ s = 2 ∨ s = 3 ∨ s = 4 ∨ s = 5 ∨ s = 6 ∨ s = 7 ∨ s = 8 ∨ s = 9 by omega) with rfl | rfl | rfl | rfl | rfl | rfl | rfl | rfl | rfl | rfl
  · refine x_tableIn (x := nI 0) 56 d_G_take_4 (by decide) (by decide) (off := 52) (by decide) (by decide) ?_
    refine x_aload_n d_G_take_56 rfl ?_
    refine x_iload_n d_G_take_57 rfl ?_
    refine x_cV (c_G_takeChainStart _ c hN) k_G_64 v_G_takeChainStart d_G_take_58 rfl (by omega) (by first | assumption | exact vu_s | exact vu_t (by omega) (by first | assumption | exact vu_s | exact vu_t (by omega) (by first | assumption | exact vu_s | exact vu_t (by omega) (by first | assumption | exact vu_s))) | rfl | (simp only [va_up, Nat.reduceEqDiff, ↓reduceIte]; first | rfl | assumption)) rfl (by omega) (Nat.le_of_ble_eq_true rfl) ?_
    intro r h' hq
    rw [show gTake (0, t) c = gCh0 (0, t) c from rfl]
    cases hg : gCh0 (0, t) c <;> (rw [hg] at hq; obtain ⟨rfl, rfl⟩ := hq)
    · refine x_zret d_G_take_61 (by first | rfl | assumption) ?_
      exact ⟨rfl, rfl⟩
    · refine x_zret d_G_take_61 (by first | rfl | assumption) ?_
      exact ⟨rfl, rfl⟩
  · refine x_tableIn (x := nI 1) 62 d_G_take_4 (by decide) (by decide) (off := 58) (by decide) (by decide) ?_
    refine x_aload_n d_G_take_62 rfl ?_
    refine x_iload_n d_G_take_63 rfl ?_
    refine x_cV (c_G_takeChainRest _ c hN) k_G_67 v_G_takeChainRest d_G_take_64 rfl (by omega) (by first | assumption | exact vu_s | exact vu_t (by omega) (by first | assumption | exact vu_s | exact vu_t (by omega) (by first | assumption | exact vu_s | exact vu_t (by omega) (by first | assumption | exact vu_s))) | rfl | (simp only [va_up, Nat.reduceEqDiff, ↓reduceIte]; first | rfl | assumption)) rfl (by omega) (Nat.le_of_ble_eq_true rfl) ?_
    intro r h' hq
    rw [show gTake (1, t) c = gCh1 (1, t) c from rfl]
    cases hg : gCh1 (1, t) c <;> (rw [hg] at hq; obtain ⟨rfl, rfl⟩ := hq)
    · refine x_zret d_G_take_67 (by first | rfl | assumption) ?_
      exact ⟨rfl, rfl⟩
    · refine x_zret d_G_take_67 (by first | rfl | assumption) ?_
      exact ⟨rfl, rfl⟩
  · refine x_tableIn (x := nI 2) 68 d_G_take_4 (by decide) (by decide) (off := 64) (by decide) (by decide) ?_
    refine x_aload_n d_G_take_68 rfl ?_
    refine x_iload_n d_G_take_69 rfl ?_
    refine x_cV (c_G_takeFactor _ c hN i2) k_G_70 v_G_takeFactor d_G_take_70 rfl (by omega) (by first | assumption | exact vu_s | exact vu_t (by omega) (by first | assumption | exact vu_s | exact vu_t (by omega) (by first | assumption | exact vu_s | exact vu_t (by omega) (by first | assumption | exact vu_s))) | rfl | (simp only [va_up, Nat.reduceEqDiff, ↓reduceIte]; first | rfl | assumption)) rfl (by omega) (Nat.le_of_ble_eq_true rfl) ?_
    intro r h' hq
    rw [show gTake (2, t) c = gFactor (2, t) c from rfl]
    cases hg : gFactor (2, t) c <;> (rw [hg] at hq; obtain ⟨rfl, rfl⟩ := hq)
    · refine x_zret d_G_take_73 (by first | rfl | assumption) ?_
      exact ⟨rfl, rfl⟩
    · refine x_zret d_G_take_73 (by first | rfl | assumption) ?_
      exact ⟨rfl, rfl⟩
  · refine x_tableIn (x := nI 3) 74 d_G_take_4 (by decide) (by decide) (off := 70) (by decide) (by decide) ?_
    refine x_aload_n d_G_take_74 rfl ?_
    refine x_iload_n d_G_take_75 rfl ?_
    refine x_cV (c_G_takeAfterFactor _ c hN i2) k_G_73 v_G_takeAfterFactor d_G_take_76 rfl (by omega) (by first | assumption | exact vu_s | exact vu_t (by omega) (by first | assumption | exact vu_s | exact vu_t (by omega) (by first | assumption | exact vu_s | exact vu_t (by omega) (by first | assumption | exact vu_s))) | rfl | (simp only [va_up, Nat.reduceEqDiff, ↓reduceIte]; first | rfl | assumption)) rfl (by omega) (Nat.le_of_ble_eq_true rfl) ?_
    intro r h' hq
    rw [show gTake (3, t) c = gAfter (3, t) c from rfl]
    cases hg : gAfter (3, t) c <;> (rw [hg] at hq; obtain ⟨rfl, rfl⟩ := hq)
    · refine x_zret d_G_take_79 (by first | rfl | assumption) ?_
      exact ⟨rfl, rfl⟩
    · refine x_zret d_G_take_79 (by first | rfl | assumption) ?_
      exact ⟨rfl, rfl⟩
  · refine x_tableIn (x := nI 4) 80 d_G_take_4 (by decide) (by decide) (off := 76) (by decide) (by decide) ?_
    refine x_aload_n d_G_take_80 rfl ?_
    refine x_iload_n d_G_take_81 rfl ?_
    refine x_cV (c_G_takeConditionColumn _ c hN) k_G_76 v_G_takeConditionColumn d_G_take_82 rfl (by omega) (by first | assumption | exact vu_s | exact vu_t (by omega) (by first | assumption | exact vu_s | exact vu_t (by omega) (by first | assumption | exact vu_s | exact vu_t (by omega) (by first | assumption | exact vu_s))) | rfl | (simp only [va_up, Nat.reduceEqDiff, ↓reduceIte]; first | rfl | assumption)) rfl (by omega) (Nat.le_of_ble_eq_true rfl) ?_
    intro r h' hq
    rw [show gTake (4, t) c = gCol (4, t) c from rfl]
    cases hg : gCol (4, t) c <;> (rw [hg] at hq; obtain ⟨rfl, rfl⟩ := hq)
    · refine x_zret d_G_take_85 (by first | rfl | assumption) ?_
      exact ⟨rfl, rfl⟩
    · refine x_zret d_G_take_85 (by first | rfl | assumption) ?_
      exact ⟨rfl, rfl⟩
  · refine x_tableIn (x := nI 5) 86 d_G_take_4 (by decide) (by decide) (off := 82) (by decide) (by decide) ?_
    refine x_aload_n d_G_take_86 rfl ?_
    refine x_iload_n d_G_take_87 rfl ?_
    refine x_cV (c_G_takeConditionKind _ c hN hc.1 hc.2) k_G_79 v_G_takeConditionKind d_G_take_88 rfl (by omega) (by first | assumption | exact vu_s | exact vu_t (by omega) (by first | assumption | exact vu_s | exact vu_t (by omega) (by first | assumption | exact vu_s | exact vu_t (by omega) (by first | assumption | exact vu_s))) | rfl | (simp only [va_up, Nat.reduceEqDiff, ↓reduceIte]; first | rfl | assumption)) rfl (by omega) (Nat.le_of_ble_eq_true rfl) ?_
    intro r h' hq
    rw [show gTake (5, t) c = gKind (5, t) c from rfl]
    cases hg : gKind (5, t) c <;> (rw [hg] at hq; obtain ⟨rfl, rfl⟩ := hq)
    · refine x_zret d_G_take_91 (by first | rfl | assumption) ?_
      exact ⟨rfl, rfl⟩
    · refine x_zret d_G_take_91 (by first | rfl | assumption) ?_
      exact ⟨rfl, rfl⟩
  · refine x_tableIn (x := nI 6) 92 d_G_take_4 (by decide) (by decide) (off := 88) (by decide) (by decide) ?_
    refine x_aload_n d_G_take_92 rfl ?_
    refine x_iload_n d_G_take_93 rfl ?_
    refine x_cV (c_G_takeConditionDigit _ c hN i3) k_G_82 v_G_takeConditionDigit d_G_take_94 rfl (by omega) (by first | assumption | exact vu_s | exact vu_t (by omega) (by first | assumption | exact vu_s | exact vu_t (by omega) (by first | assumption | exact vu_s | exact vu_t (by omega) (by first | assumption | exact vu_s))) | rfl | (simp only [va_up, Nat.reduceEqDiff, ↓reduceIte]; first | rfl | assumption)) rfl (by omega) (Nat.le_of_ble_eq_true rfl) ?_
    intro r h' hq
    rw [show gTake (6, t) c = gDig (6, t) c from rfl]
    cases hg : gDig (6, t) c <;> (rw [hg] at hq; obtain ⟨rfl, rfl⟩ := hq)
    · refine x_zret d_G_take_97 (by first | rfl | assumption) ?_
      exact ⟨rfl, rfl⟩
    · refine x_zret d_G_take_97 (by first | rfl | assumption) ?_
      exact ⟨rfl, rfl⟩
  · refine x_tableIn (x := nI 7) 98 d_G_take_4 (by decide) (by decide) (off := 94) (by decide) (by decide) ?_
    refine x_aload_n d_G_take_98 rfl ?_
    refine x_iload_n d_G_take_99 rfl ?_
    refine x_cV (c_G_takeTail _ c hN) k_G_85 v_G_takeTail d_G_take_100 rfl (by omega) (by first | assumption | exact vu_s | exact vu_t (by omega) (by first | assumption | exact vu_s | exact vu_t (by omega) (by first | assumption | exact vu_s | exact vu_t (by omega) (by first | assumption | exact vu_s))) | rfl | (simp only [va_up, Nat.reduceEqDiff, ↓reduceIte]; first | rfl | assumption)) rfl (by omega) (Nat.le_of_ble_eq_true rfl) ?_
    intro r h' hq
    rw [show gTake (7, t) c = gTail (7, t) c from rfl]
    cases hg : gTail (7, t) c <;> (rw [hg] at hq; obtain ⟨rfl, rfl⟩ := hq)
    · refine x_zret d_G_take_103 (by first | rfl | assumption) ?_
      exact ⟨rfl, rfl⟩
    · refine x_zret d_G_take_103 (by first | rfl | assumption) ?_
      exact ⟨rfl, rfl⟩
  · refine x_tableIn (x := nI 8) 104 d_G_take_4 (by decide) (by decide) (off := 100) (by decide) (by decide) ?_
    refine x_aload_n d_G_take_104 rfl ?_
    refine x_iload_n d_G_take_105 rfl ?_
    refine x_cV (c_G_takeGroupColumn _ c hN) k_G_88 v_G_takeGroupColumn d_G_take_106 rfl (by omega) (by first | assumption | exact vu_s | exact vu_t (by omega) (by first | assumption | exact vu_s | exact vu_t (by omega) (by first | assumption | exact vu_s | exact vu_t (by omega) (by first | assumption | exact vu_s))) | rfl | (simp only [va_up, Nat.reduceEqDiff, ↓reduceIte]; first | rfl | assumption)) rfl (by omega) (Nat.le_of_ble_eq_true rfl) ?_
    intro r h' hq
    rw [show gTake (8, t) c = gGrp (8, t) c from rfl]
    cases hg : gGrp (8, t) c <;> (rw [hg] at hq; obtain ⟨rfl, rfl⟩ := hq)
    · refine x_zret d_G_take_109 (by first | rfl | assumption) ?_
      exact ⟨rfl, rfl⟩
    · refine x_zret d_G_take_109 (by first | rfl | assumption) ?_
      exact ⟨rfl, rfl⟩
  · refine x_tableOut (x := nI 9) 110 d_G_take_4 (by decide) (by decide) ?_
    refine x_iconst (v := 0) d_G_take_110 (by decide) ?_
    refine x_zret d_G_take_111 (by first | rfl | assumption) ?_
    exact ⟨rfl, rfl⟩
