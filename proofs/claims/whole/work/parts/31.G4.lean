/-! Grammar: restart, isWhole, faultIn, what it keeps. -/
def g0 (σ : GS) : GS := (0, 0, 0, 0, 0, σ.2.2.2.2.2.1, σ.2.2.2.2.2.2.1, 0, -2, filF σ.2.2.2.2.2.2.2.2.2 63 4)
set_option maxRecDepth 100000 in
set_option maxHeartbeats 4000000 in
theorem c_G_restart {N : Nat} {h : xHp} (σ : GS) (hN : 94 ≤ N) : XM y_G_restart b_G_restart 1 none 1 0 0 [.ref 7] N (hG h σ) (xR none (hG h (g0 σ))) := by
  have h7 := hG_7 h σ
  have h8 := hG_8 h σ
  obtain ⟨s, fi, la, op, bt, cc, ck, cn, gr, al⟩ := σ
  refine xM_intro [some (.ref 7)] (by decide) (fun _ => rfl) (fun _ => Nat.le_of_ble_eq_true rfl) (fun Γ => ?_)
  refine x_aload_n d_G_restart_0 rfl ?_
  refine x_iconst (v := 0) d_G_restart_1 (by decide) ?_
  refine x_put f_G_49 d_G_restart_2 (by omega) (by first | assumption | exact vu_s | exact vu_t (by omega) (by first | assumption | exact vu_s | exact vu_t (by omega) (by first | assumption | exact vu_s | exact vu_t (by omega) (by first | assumption | exact vu_s))) | rfl | (simp only [va_up, Nat.reduceEqDiff, ↓reduceIte]; first | rfl | assumption)) (Nat.le_of_ble_eq_true rfl) (fun _ => ⟨rfl, rfl⟩) ?_
  refine x_aload_n d_G_restart_5 rfl ?_
  refine x_iconst (v := 0) d_G_restart_6 (by decide) ?_
  refine x_put f_G_36 d_G_restart_7 (by omega) (by first | assumption | exact vu_s | exact vu_t (by omega) (by first | assumption | exact vu_s | exact vu_t (by omega) (by first | assumption | exact vu_s | exact vu_t (by omega) (by first | assumption | exact vu_s))) | rfl | (simp only [va_up, Nat.reduceEqDiff, ↓reduceIte]; first | rfl | assumption)) (Nat.le_of_ble_eq_true rfl) (fun _ => ⟨rfl, rfl⟩) ?_
  refine x_aload_n d_G_restart_10 rfl ?_
  refine x_iconst (v := 0) d_G_restart_11 (by decide) ?_
  refine x_put f_G_40 d_G_restart_12 (by omega) (by first | assumption | exact vu_s | exact vu_t (by omega) (by first | assumption | exact vu_s | exact vu_t (by omega) (by first | assumption | exact vu_s | exact vu_t (by omega) (by first | assumption | exact vu_s))) | rfl | (simp only [va_up, Nat.reduceEqDiff, ↓reduceIte]; first | rfl | assumption)) (Nat.le_of_ble_eq_true rfl) (fun _ => ⟨rfl, rfl⟩) ?_
  refine x_aload_n d_G_restart_15 rfl ?_
  refine x_iconst (v := 0) d_G_restart_16 (by decide) ?_
  refine x_put f_G_52 d_G_restart_17 (by omega) (by first | assumption | exact vu_s | exact vu_t (by omega) (by first | assumption | exact vu_s | exact vu_t (by omega) (by first | assumption | exact vu_s | exact vu_t (by omega) (by first | assumption | exact vu_s))) | rfl | (simp only [va_up, Nat.reduceEqDiff, ↓reduceIte]; first | rfl | assumption)) (Nat.le_of_ble_eq_true rfl) (fun _ => ⟨rfl, rfl⟩) ?_
  refine x_aload_n d_G_restart_20 rfl ?_
  refine x_iconst (v := 0) d_G_restart_21 (by decide) ?_
  refine x_put f_G_55 d_G_restart_22 (by omega) (by first | assumption | exact vu_s | exact vu_t (by omega) (by first | assumption | exact vu_s | exact vu_t (by omega) (by first | assumption | exact vu_s | exact vu_t (by omega) (by first | assumption | exact vu_s))) | rfl | (simp only [va_up, Nat.reduceEqDiff, ↓reduceIte]; first | rfl | assumption)) (Nat.le_of_ble_eq_true rfl) (fun _ => ⟨rfl, rfl⟩) ?_
  refine x_aload_n d_G_restart_25 rfl ?_
  refine x_iconst (v := 0) d_G_restart_26 (by decide) ?_
  refine x_put f_G_43 d_G_restart_27 (by omega) (by first | assumption | exact vu_s | exact vu_t (by omega) (by first | assumption | exact vu_s | exact vu_t (by omega) (by first | assumption | exact vu_s | exact vu_t (by omega) (by first | assumption | exact vu_s))) | rfl | (simp only [va_up, Nat.reduceEqDiff, ↓reduceIte]; first | rfl | assumption)) (Nat.le_of_ble_eq_true rfl) (fun _ => ⟨rfl, rfl⟩) ?_
  refine x_aload_n d_G_restart_30 rfl ?_
  refine x_get f_G_9 d_G_restart_31 (by omega) (by first | assumption | exact vu_s | exact vu_t (by omega) (by first | assumption | exact vu_s | exact vu_t (by omega) (by first | assumption | exact vu_s | exact vu_t (by omega) (by first | assumption | exact vu_s))) | rfl | (simp only [va_up, Nat.reduceEqDiff, ↓reduceIte]; first | rfl | assumption)) rfl ?_
  refine x_bipush (v := 63) d_G_restart_34 (by decide) ?_
  rw [bx_uu, bx_uu, bx_uu, bx_uu, bx_uu]
  refine x_cSv (c_A_fill 63 (by omega) (by decide) (vu_t (by decide) h8)) k_G_58 s_A_fill d_G_restart_36 rfl (by omega) (Nat.le_of_ble_eq_true rfl) ?_
  refine x_aload_n d_G_restart_39 rfl ?_
  refine x_bipush (v := -2) d_G_restart_40 (by decide) ?_
  refine x_put f_G_46 d_G_restart_42 (by omega) (by first | assumption | exact vu_s | exact vu_t (by omega) (by first | assumption | exact vu_s | exact vu_t (by omega) (by first | assumption | exact vu_s | exact vu_t (by omega) (by first | assumption | exact vu_s))) | rfl | (simp only [va_up, Nat.reduceEqDiff, ↓reduceIte]; first | rfl | assumption)) (Nat.le_of_ble_eq_true rfl) (fun _ => ⟨rfl, rfl⟩) ?_
  refine x_vret d_G_restart_45 ?_
  refine ⟨rfl, ?_⟩
  unfold hG
  rw [bx_uu, vu_c _ _ _ (by decide : (8 : Nat) ≠ 7), bx_uu, bx_uu]
  rfl
def gW (σ : GS) : Bool := decide (σ.1 = 3 ∧ σ.2.2.2.1 = 0) || (decide (σ.1 = 7) || decide (σ.1 = 9))
theorem nI_inj {a b : Nat} (ha : a < 2 ^ 31) (hb : b < 2 ^ 31) : nI a = nI b ↔ a = b := nI_eq ha hb
set_option maxRecDepth 100000 in
set_option maxHeartbeats 4000000 in
theorem c_G_isWhole {N : Nat} {h : xHp} (σ : GS) (hN : 94 ≤ N) (hI : gI σ) : XM y_G_isWhole b_G_isWhole 1 (some .boolean) 0 0 0 [.ref 7] N (hG h σ) (xR (some (.int (bi (gW σ)))) (hG h σ)) := by
  have h7 := hG_7 h σ
  obtain ⟨i1, i2, -⟩ := hI
  obtain ⟨s, fi, la, op, bt, t⟩ := σ
  have i1' : s ≤ 9 := i1
  have i2' : op ≤ 8 := i2
  refine xM_intro [some (.ref 7)] (by decide) (fun _ => rfl) (fun _ => Nat.le_of_ble_eq_true rfl) (fun Γ => ?_)
  have yes : gW (s, fi, la, op, bt, t) = true → XW Γ y_G_isWhole b_G_isWhole 1 (some .boolean) (0, 0, 0) (xQ Γ (N + 0) 0 0 (xR (some (.int (bi (gW (s, fi, la, op, bt, t))))) (hG h (s, fi, la, op, bt, t)))) 0 0 N (hG h (s, fi, la, op, bt, t)) 33 [some (.ref 7)] [] := by
    intro e
    rw [e]
    refine x_iconst (v := 1) d_G_isWhole_33 (by decide) ?_
    refine x_goto 38 d_G_isWhole_34 (by decide) ?_
    refine x_zret d_G_isWhole_38 (by first | rfl | assumption) ?_
    exact ⟨rfl, rfl⟩
  have rest : ¬ (s = 3 ∧ op = 0) → XW Γ y_G_isWhole b_G_isWhole 1 (some .boolean) (0, 0, 0) (xQ Γ (N + 0) 0 0 (xR (some (.int (bi (gW (s, fi, la, op, bt, t))))) (hG h (s, fi, la, op, bt, t)))) 0 0 N (hG h (s, fi, la, op, bt, t)) 15 [some (.ref 7)] [] := by
    intro e
    refine x_aload_n d_G_isWhole_15 rfl ?_
    refine x_get f_G_49 d_G_isWhole_16 (by omega) (by first | assumption | exact vu_s | exact vu_t (by omega) (by first | assumption | exact vu_s | exact vu_t (by omega) (by first | assumption | exact vu_s | exact vu_t (by omega) (by first | assumption | exact vu_s))) | rfl | (simp only [va_up, Nat.reduceEqDiff, ↓reduceIte]; first | rfl | assumption)) rfl ?_
    refine x_bipush (v := 7) d_G_isWhole_19 (by decide) ?_
    refine x_icmp_eq 33 d_G_isWhole_21 (by decide) (fun c1 => ?_) (fun c1 => ?_)
    · exact yes (by have := (nI_inj (b := 7) (show s < 2 ^ 31 by omega) (by decide)).mp c1; simp [gW, this])
    · have d1 : ¬ s = 7 := fun z => c1 (by rw [z]; rfl)
      refine x_aload_n d_G_isWhole_24 rfl ?_
      refine x_get f_G_49 d_G_isWhole_25 (by omega) (by first | assumption | exact vu_s | exact vu_t (by omega) (by first | assumption | exact vu_s | exact vu_t (by omega) (by first | assumption | exact vu_s | exact vu_t (by omega) (by first | assumption | exact vu_s))) | rfl | (simp only [va_up, Nat.reduceEqDiff, ↓reduceIte]; first | rfl | assumption)) rfl ?_
      refine x_bipush (v := 9) d_G_isWhole_28 (by decide) ?_
      refine x_icmp_ne 37 d_G_isWhole_30 (by decide) (fun c2 => ?_) (fun c2 => ?_)
      · have d2 : ¬ s = 9 := fun z => c2 (by rw [z]; rfl)
        refine x_iconst (v := 0) d_G_isWhole_37 (by decide) ?_
        refine x_zret d_G_isWhole_38 (by first | rfl | assumption) ?_
        have e3 : gW (s, fi, la, op, bt, t) = false := by
          simp only [gW, d1, d2, decide_false, Bool.or_false]
          exact decide_eq_false e
        rw [e3]
        exact ⟨rfl, rfl⟩
      · exact yes (by have := (nI_inj (b := 9) (show s < 2 ^ 31 by omega) (by decide)).mp c2; simp [gW, this])
  refine x_aload_n d_G_isWhole_0 rfl ?_
  refine x_get f_G_49 d_G_isWhole_1 (by omega) (by first | assumption | exact vu_s | exact vu_t (by omega) (by first | assumption | exact vu_s | exact vu_t (by omega) (by first | assumption | exact vu_s | exact vu_t (by omega) (by first | assumption | exact vu_s))) | rfl | (simp only [va_up, Nat.reduceEqDiff, ↓reduceIte]; first | rfl | assumption)) rfl ?_
  refine x_iconst (v := 3) d_G_isWhole_4 (by decide) ?_
  refine x_icmp_ne 15 d_G_isWhole_5 (by decide) (fun c1 => ?_) (fun c1 => ?_)
  · exact rest (fun z => c1 (by rw [z.1]; rfl))
  · refine x_aload_n d_G_isWhole_8 rfl ?_
    refine x_get f_G_52 d_G_isWhole_9 (by omega) (by first | assumption | exact vu_s | exact vu_t (by omega) (by first | assumption | exact vu_s | exact vu_t (by omega) (by first | assumption | exact vu_s | exact vu_t (by omega) (by first | assumption | exact vu_s))) | rfl | (simp only [va_up, Nat.reduceEqDiff, ↓reduceIte]; first | rfl | assumption)) rfl ?_
    have e3 := (nI_inj (b := 3) (show s < 2 ^ 31 by omega) (by decide)).mp c1
    refine x_if_eq 33 d_G_isWhole_12 (by decide) (fun c2 => ?_) (fun c2 => ?_)
    · have e4 := (nI_inj (b := 0) (show op < 2 ^ 31 by omega) (by decide)).mp c2
      exact yes (by simp [gW, e3, e4])
    · exact rest (fun z => c2 (by rw [z.2]; rfl))
theorem colOf_in {fi la c : Int32} (h0 : 0 ≤ fi) (h : isCC fi la c = true) : vp_in (colOf c) 4 ∧ 0 ≤ colOf c := by
  have h1 : fi ≤ colOf c := by
    simp only [isCC, Bool.and_eq_true, decide_eq_true_eq] at h
    exact h.1
  have h2 : 0 ≤ colOf c := Int32.le_trans h0 h1
  refine ⟨?_, h2⟩
  unfold colOf at h2 ⊢
  by_cases e : 65 ≤ c ∧ c ≤ 68
  · rw [if_pos e]
    have a1 := Int32.le_iff_toInt_le.mp e.1
    have a2 := Int32.le_iff_toInt_le.mp e.2
    refine vp_in_iff.mpr ?_
    have a3 : (c - 65).toInt = c.toInt - 65 := by
      have b1 : (65 : Int32).toInt = 65 := rfl
      have b2 : (68 : Int32).toInt = 68 := rfl
      rw [Int32.toInt_sub, b1]
      apply Int.bmod_eq_of_le
      · omega
      · omega
    have b1 : (65 : Int32).toInt = 65 := rfl
    have b2 : (68 : Int32).toInt = 68 := rfl
    omega
  · rw [if_neg e] at h2
    exact absurd h2 (by decide)
