/-! Question: object q, allowed q + 1, polynomial q + 2 (coefficients q + 3), oneColumn q + 4, otherColumn q + 5. -/
theorem nI_end {k n : Nat} (hk : k ≤ n) (hn : n < 2 ^ 31) (c : nI n ≤ nI k) : k = n := by
  rcases Nat.lt_or_ge k n with q | q
  · exact absurd c (nI_ge q hn)
  · omega
theorem nI_more {k n : Nat} (hk : k ≤ n) (hn : n < 2 ^ 31) (c : ¬ nI n ≤ nI k) : k < n := by
  rcases Nat.lt_or_ge k n with q | q
  · exact q
  · exact absurd (nI_le q (by omega)) c
abbrev aL (n : Nat) (f : Nat → Int64) : xE := .inl (2, n, .inr (.inl f))
abbrev oQ (q : Nat) (t a b g c : Int32) : xE := .inr (6, [.int t, .int a, .int b, .int g, .int c, .ref (q + 1), .ref (q + 2), .ref (q + 4), .ref (q + 5)])
def aOK (a : Int32) (v : Nat) : Bool := !decide (a >>> (nI v &&& 31) &&& 1 = 0)
def lpow (v : Nat) : Nat → Int64
  | 0 => 1
  | n + 1 => lpow v n * (nI v).toInt64
def shareV (al : Nat → Int32) (g grp : Int32) (k c v : Nat) : Int64 := if aOK (al c) v = false then 0 else if nI c = g ∧ ¬ grp = -1 ∧ ¬ nI v = grp then 0 else lpow v (pw k c)
set_option maxRecDepth 100000 in
set_option maxHeartbeats 4000000 in
theorem c_Q_share {N : Nat} {h : xHp} {q : Nat} {t a b g cn grp : Int32} {al : Nat → Int32} {c v k : Nat} (hN : q + 5 < N) (hc : c < 4) (hv : v < 6) (hk : k < 81) (h1 : h q = oQ q t a b g cn) (h2 : h (q + 1) = aI 4 al) : XM y_Q_share b_Q_share 9 (some .long) 1 0 0 [.ref q, .int (nI c), .int (nI v), .int (nI k), .int grp] N h (xR (some (.long (shareV al g grp k c v))) h) := by
  have hi : vp_in (nI c) 4 := vp_in_nI hc (by decide)
  have hcc : (nI c).toNatClampNeg = c := nI_clamp (by omega)
  refine xM_intro [some (.ref q), some (.int (nI c)), some (.int (nI v)), some (.int (nI k)), some (.int grp), none, none, none, none] (by decide) (fun _ => rfl) (fun _ => Nat.le_of_ble_eq_true rfl) (fun Γ => ?_)
  have fin : aOK (al c) v = true → ¬ (nI c = g ∧ ¬ grp = -1 ∧ ¬ nI v = grp) → XW Γ y_Q_share b_Q_share 9 (some .long) (1, 0, 0) (xQ Γ (N + 0) 0 0 (xR (some (.long (shareV al g grp k c v))) h)) 0 0 N h 37 [some (.ref q), some (.int (nI c)), some (.int (nI v)), some (.int (nI k)), some (.int grp), none, none, none, none] [] := by
    intro e1 e2
    refine x_lconst (v := 1) d_Q_share_37 (by decide) ?_
    refine x_lstore d_Q_share_38 (by decide) rfl ?_
    refine x_iload_n d_Q_share_40 rfl ?_
    refine x_iload_n d_Q_share_41 rfl ?_
    refine x_cSe (c_P_powerAt (by omega) hc) k_Q_94 s_P_powerAt d_Q_share_42 rfl (by omega) (Nat.le_of_ble_eq_true rfl) ?_
    refine x_istore d_Q_share_45 (by decide) rfl ?_
    refine x_iconst (v := 0) d_Q_share_47 (by decide) ?_
    refine x_istore d_Q_share_48 (by decide) rfl ?_
    have hpw := pw_lt k c
    have key : ∀ (n j : Nat), j ≤ pw k c → pw k c - j < n → XW Γ y_Q_share b_Q_share 9 (some .long) (1, 0, 0) (xQ Γ (N + 0) 0 0 (xR (some (.long (shareV al g grp k c v))) h)) 0 0 N h 50 [some (.ref q), some (.int (nI c)), some (.int (nI v)), some (.int (nI k)), some (.int grp), some (.long (lpow v j)), none, some (.int (nI (pw k c))), some (.int (nI j))] [] := by
      intro n
      induction n with
      | zero => intro j _ h0; omega
      | succ n ih =>
        intro j hj hjn
        refine x_iload d_Q_share_50 rfl ?_
        refine x_iload d_Q_share_52 rfl ?_
        refine x_icmp_ge 70 d_Q_share_54 (by decide) (fun c1 => ?_) (fun c1 => ?_)
        · have e := nI_end hj (by omega) c1
          refine x_lload d_Q_share_70 rfl ?_
          refine x_lret d_Q_share_72 ?_
          refine ⟨?_, rfl⟩
          rw [shareV, e1, if_neg (by decide), if_neg e2, e]
        · have hlt := nI_more hj (by omega) c1
          refine x_lload d_Q_share_57 rfl ?_
          refine x_iload_n d_Q_share_59 rfl ?_
          refine x_i2l d_Q_share_60 ?_
          refine x_lmul d_Q_share_61 ?_
          refine x_lstore d_Q_share_62 (by decide) rfl ?_
          refine x_iinc1 d_Q_share_64 rfl (by decide) rfl ?_
          refine x_goto 50 d_Q_share_67 (by decide) ?_
          rw [nI_1]
          exact ih (j + 1) (by omega) (by omega)
    exact key (pw k c + 1) 0 (by omega) (by omega)
  refine x_aload_n d_Q_share_0 rfl ?_
  refine x_get f_Q_9 d_Q_share_1 (by omega) (by first | assumption | exact vu_s | exact vu_t (by omega) (by first | assumption | exact vu_s | exact vu_t (by omega) (by first | assumption | exact vu_s | exact vu_t (by omega) (by first | assumption | exact vu_s))) | rfl | (simp only [va_up, Nat.reduceEqDiff, ↓reduceIte]; first | rfl | assumption)) rfl ?_
  refine x_iload_n d_Q_share_4 rfl ?_
  refine x_iald d_Q_share_5 (by omega) (by first | assumption | exact vu_s | exact vu_t (by omega) (by first | assumption | exact vu_s | exact vu_t (by omega) (by first | assumption | exact vu_s | exact vu_t (by omega) (by first | assumption | exact vu_s))) | rfl | (simp only [va_up, Nat.reduceEqDiff, ↓reduceIte]; first | rfl | assumption)) (by assumption) ?_
  refine x_iload_n d_Q_share_6 rfl ?_
  refine x_ishr d_Q_share_7 ?_
  refine x_iconst (v := 1) d_Q_share_8 (by decide) ?_
  refine x_iand d_Q_share_9 ?_
  refine x_if_ne 15 d_Q_share_10 (by decide) (fun c1 => ?_) (fun c1 => ?_)
  · rw [hcc] at c1
    have e1 : aOK (al c) v = true := by simp [aOK, c1]
    refine x_iload_n d_Q_share_15 rfl ?_
    refine x_aload_n d_Q_share_16 rfl ?_
    refine x_get f_Q_50 d_Q_share_17 (by omega) (by first | assumption | exact vu_s | exact vu_t (by omega) (by first | assumption | exact vu_s | exact vu_t (by omega) (by first | assumption | exact vu_s | exact vu_t (by omega) (by first | assumption | exact vu_s))) | rfl | (simp only [va_up, Nat.reduceEqDiff, ↓reduceIte]; first | rfl | assumption)) rfl ?_
    refine x_icmp_ne 37 d_Q_share_20 (by decide) (fun c2 => ?_) (fun c2 => ?_)
    · exact fin e1 (fun z => c2 z.1)
    · refine x_iload d_Q_share_23 rfl ?_
      refine x_iconst (v := -1) d_Q_share_25 (by decide) ?_
      refine x_icmp_eq 37 d_Q_share_26 (by decide) (fun c3 => ?_) (fun c3 => ?_)
      · exact fin e1 (fun z => z.2.1 c3)
      · refine x_iload_n d_Q_share_29 rfl ?_
        refine x_iload d_Q_share_30 rfl ?_
        refine x_icmp_eq 37 d_Q_share_32 (by decide) (fun c4 => ?_) (fun c4 => ?_)
        · exact fin e1 (fun z => z.2.2 c4)
        · refine x_lconst (v := 0) d_Q_share_35 (by decide) ?_
          refine x_lret d_Q_share_36 ?_
          refine ⟨?_, rfl⟩
          rw [shareV, e1, if_neg (by decide), if_pos ⟨c2, c3, c4⟩]
  · rw [hcc] at c1
    have e1 : aOK (al c) v = false := by simp [aOK, c1]
    refine x_lconst (v := 0) d_Q_share_13 (by decide) ?_
    refine x_lret d_Q_share_14 ?_
    refine ⟨?_, rfl⟩
    rw [shareV, if_pos e1]
def joinS (ra : Nat → Int64) (f : Nat → Int32) (r y : Nat) : Nat → Int64
  | 0 => 0
  | x + 1 => joinS ra f r y x + ra x * (f ((r * 6 + x) * 6 + y)).toInt64
theorem joinS_congr {ra rb : Nat → Int64} {f : Nat → Int32} {r y : Nat} : ∀ n, (∀ j, j < n → ra j = rb j) → joinS ra f r y n = joinS rb f r y n
  | 0, _ => rfl
  | n + 1, h => by
    unfold joinS
    rw [joinS_congr n (fun j hj => h j (by omega)), h n (by omega)]
theorem plOf_n {r x y : Nat} : plOf (nI r) (nI x) (nI y) = nI ((r * 6 + x) * 6 + y) := by
  unfold plOf
  rw [show (6 : Int32) = nI 6 from rfl, pk_mul, nI_add, pk_mul, nI_add]
set_option maxRecDepth 100000 in
set_option maxHeartbeats 4000000 in
theorem c_Q_joined {N : Nat} {h : xHp} {n : Int32} {f : Nat → Int32} {ra : Nat → Int64} {a r y : Nat} (hN : 94 ≤ N) (ha : a < N) (hr : r < 3) (hy : y < 6) (h1 : h 1 = oR n) (h2 : h 2 = aI 108 f) (h3 : h a = aL 6 ra) : XM y_Q_joined b_Q_joined 7 (some .long) 1 0 0 [.ref 1, .int (nI r), .ref a, .int (nI y)] N h (xR (some (.long (joinS ra f r y 6))) h) := by
  have h1' := h1
  unfold oR at h1
  refine xM_intro [some (.ref 1), some (.int (nI r)), some (.ref a), some (.int (nI y)), none, none, none] (by decide) (fun _ => rfl) (fun _ => Nat.le_of_ble_eq_true rfl) (fun Γ => ?_)
  refine x_lconst (v := 0) d_Q_joined_0 (by decide) ?_
  refine x_lstore d_Q_joined_1 (by decide) rfl ?_
  refine x_iconst (v := 0) d_Q_joined_3 (by decide) ?_
  refine x_istore d_Q_joined_4 (by decide) rfl ?_
  have key : ∀ (m x : Nat), x ≤ 6 → 6 - x < m → XW Γ y_Q_joined b_Q_joined 7 (some .long) (1, 0, 0) (xQ Γ (N + 0) 0 0 (xR (some (.long (joinS ra f r y 6))) h)) 0 0 N h 6 [some (.ref 1), some (.int (nI r)), some (.ref a), some (.int (nI y)), some (.long (joinS ra f r y x)), none, some (.int (nI x))] [] := by
    intro m
    induction m with
    | zero => intro x _ h0; omega
    | succ m ih =>
      intro x hx hxm
      refine x_iload d_Q_joined_6 rfl ?_
      refine x_bipush (v := 6) d_Q_joined_8 (by decide) ?_
      refine x_icmp_ge 41 d_Q_joined_10 (by decide) (fun c1 => ?_) (fun c1 => ?_)
      · have e := nI_end (n := 6) hx (by decide) c1
        subst e
        refine x_lload d_Q_joined_41 rfl ?_
        refine x_lret d_Q_joined_43 ?_
        exact ⟨rfl, rfl⟩
      · have hlt := nI_more (n := 6) hx (by decide) c1
        have hi : vp_in (nI x) 6 := vp_in_nI hlt (by decide)
        refine x_lload d_Q_joined_13 rfl ?_
        refine x_aload_n d_Q_joined_15 rfl ?_
        refine x_iload d_Q_joined_16 rfl ?_
        refine x_lald d_Q_joined_18 (by omega) (by first | assumption | exact vu_s | exact vu_t (by omega) (by first | assumption | exact vu_s | exact vu_t (by omega) (by first | assumption | exact vu_s | exact vu_t (by omega) (by first | assumption | exact vu_s))) | rfl | (simp only [va_up, Nat.reduceEqDiff, ↓reduceIte]; first | rfl | assumption)) (by assumption) ?_
        refine x_aload_n d_Q_joined_19 rfl ?_
        refine x_iload_n d_Q_joined_20 rfl ?_
        refine x_iload d_Q_joined_21 rfl ?_
        refine x_iload_n d_Q_joined_23 rfl ?_
        refine x_cSe (c_R_placeOf _ _ _) k_Q_87 s_R_placeOf d_Q_joined_24 rfl (by omega) (Nat.le_of_ble_eq_true rfl) ?_
        rw [plOf_n]
        refine x_cVe (c_R_at hN h1' h2 (vp_in_nI (show (r * 6 + x) * 6 + y < 108 by omega) (by decide))) k_Q_93 v_R_at d_Q_joined_27 rfl (by omega) (by first | assumption | exact vu_s | exact vu_t (by omega) (by first | assumption | exact vu_s | exact vu_t (by omega) (by first | assumption | exact vu_s | exact vu_t (by omega) (by first | assumption | exact vu_s))) | rfl | (simp only [va_up, Nat.reduceEqDiff, ↓reduceIte]; first | rfl | assumption)) rfl (by omega) (Nat.le_of_ble_eq_true rfl) ?_
        refine x_i2l d_Q_joined_30 ?_
        refine x_lmul d_Q_joined_31 ?_
        refine x_ladd d_Q_joined_32 ?_
        refine x_lstore d_Q_joined_33 (by decide) rfl ?_
        refine x_iinc1 d_Q_joined_35 rfl (by decide) rfl ?_
        refine x_goto 6 d_Q_joined_38 (by decide) ?_
        rw [nI_1, nI_clamp (show x < 2 ^ 31 by omega), nI_clamp (show (r * 6 + x) * 6 + y < 2 ^ 31 by omega)]
        exact ih (x + 1) (by omega) (by omega)
  exact key 7 0 (by omega) (by omega)
