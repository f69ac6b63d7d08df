/-! JoinKeeper: its cells 0 .. 93, and its methods. -/
abbrev CQ : Type := Bool × Nat × Nat × Int32 × Int32 × (Nat → Int32) × (Nat → Int32)
abbrev oK : xE := .inr (0, [.ref 1, .ref 5, .ref 7, .ref 9, .ref 69])
def iR (f : Nat → Int32) (n : Nat) (pl bs : Nat → Int32) (h : xHp) : Prop := h 1 = oR (nI n) ∧ h 2 = aI 108 f ∧ h 3 = aI 512 pl ∧ h 4 = aI 512 bs
def iG (h : xHp) : Prop := ∃ σ : GS, vp_in σ.2.2.2.2.2.1 4 ∧ h 7 = oG σ ∧ h 8 = aI 4 σ.2.2.2.2.2.2.2.2.2
def iE (h : xHp) : Prop := ∃ p, eSt h p
def qSt (q : Nat) (Q : CQ) (h : xHp) : Prop := h q = oQ q (bi Q.1) (nI Q.2.1) (nI Q.2.2.1) Q.2.2.2.1 Q.2.2.2.2.1 ∧ h (q + 1) = aI 4 Q.2.2.2.2.2.1 ∧ h (q + 2) = oP (q + 2) ∧ h (q + 3) = aI 81 Q.2.2.2.2.2.2 ∧ (∃ ra, h (q + 4) = aL 6 ra) ∧ ∃ rb, h (q + 5) = aL 6 rb
def iQ (Qs : Nat → CQ) (h : xHp) : Prop := (∃ s, h 69 = aR 5 4 s ∧ ∀ i, i < 4 → s i = some (70 + 6 * i)) ∧ ∀ i, i < 4 → qSt (70 + 6 * i) (Qs i) h
def IC (f : Nat → Int32) (n : Nat) (pl bs tf : Nat → Int32) (tn : Nat) (Qs : Nat → CQ) (h : xHp) : Prop := h 0 = oK ∧ iR f n pl bs h ∧ tSt h tf tn ∧ iG h ∧ iE h ∧ iQ Qs h
def sm (lo hi : Nat) (h h' : xHp) : Prop := ∀ k, lo ≤ k → k ≤ hi → h' k = h k
theorem iR.cg {f pl bs : Nat → Int32} {n : Nat} {h h' : xHp} (a : iR f n pl bs h) (e : sm 1 4 h h') : iR f n pl bs h' := ⟨(e 1 (by decide) (by decide)).trans a.1, (e 2 (by decide) (by decide)).trans a.2.1, (e 3 (by decide) (by decide)).trans a.2.2.1, (e 4 (by decide) (by decide)).trans a.2.2.2⟩
theorem tSt.cg {f : Nat → Int32} {n : Nat} {h h' : xHp} (a : tSt h f n) (e : sm 5 6 h h') : tSt h' f n := ⟨(e 5 (by decide) (by decide)).trans a.1, (e 6 (by decide) (by decide)).trans a.2⟩
theorem iG.cg {h h' : xHp} (a : iG h) (e : sm 7 8 h h') : iG h' := by
  obtain ⟨σ, a1, a2, a3⟩ := a
  exact ⟨σ, a1, (e 7 (by decide) (by decide)).trans a2, (e 8 (by decide) (by decide)).trans a3⟩
theorem eSt.cg {h h' : xHp} {p : Int32} (a : eSt h p) (e : sm 9 68 h h') : eSt h' p := by
  obtain ⟨a1, ⟨s1, a2, a2'⟩, ⟨s2, a3, a3'⟩, ⟨s3, a4, a4'⟩, a5⟩ := a
  refine ⟨(e 9 (by decide) (by decide)).trans a1, ⟨s1, (e 10 (by decide) (by decide)).trans a2, a2'⟩, ⟨s2, (e 11 (by decide) (by decide)).trans a3, a3'⟩, ⟨s3, (e 12 (by decide) (by decide)).trans a4, a4'⟩, fun k h1 h2 h3 => ?_⟩
  obtain ⟨z1, g, z2⟩ := a5 k h1 h2 h3
  exact ⟨(e k (by omega) (by omega)).trans z1, g, (e (k + 1) (by omega) (by omega)).trans z2⟩
theorem iE.cg {h h' : xHp} (a : iE h) (e : sm 9 68 h h') : iE h' := a.elim fun p a => ⟨p, a.cg e⟩
theorem qSt.cg {q : Nat} {Q : CQ} {h h' : xHp} (a : qSt q Q h) (e : sm q (q + 5) h h') : qSt q Q h' := by
  obtain ⟨a1, a2, a3, a4, ⟨ra, a5⟩, rb, a6⟩ := a
  exact ⟨(e _ (by omega) (by omega)).trans a1, (e _ (by omega) (by omega)).trans a2, (e _ (by omega) (by omega)).trans a3, (e _ (by omega) (by omega)).trans a4, ⟨ra, (e _ (by omega) (by omega)).trans a5⟩, rb, (e _ (by omega) (by omega)).trans a6⟩
theorem iQ.cg {Qs : Nat → CQ} {h h' : xHp} (a : iQ Qs h) (e : sm 69 93 h h') : iQ Qs h' := by
  obtain ⟨⟨s, a1, a2⟩, a3⟩ := a
  exact ⟨⟨s, (e 69 (by decide) (by decide)).trans a1, a2⟩, fun i hi => (a3 i hi).cg (fun k h1 h2 => e k (by omega) (by omega))⟩
theorem sm.up {lo hi k : Nat} {h h' : xHp} {e : xE} (a : sm lo hi h h') (hk : k < lo ∨ hi < k) : sm lo hi h (va_up h' k e) := fun j h1 h2 => (vu_n (by omega)).trans (a j h1 h2)
theorem sm.rf {lo hi : Nat} {h : xHp} : sm lo hi h h := fun _ _ _ => rfl
/-- what lies behind the class' cells stays -/
def frm (h h' : xHp) : Prop := ∀ k, 94 ≤ k → h' k = h k
theorem frm.rf {h : xHp} : frm h h := fun _ _ => rfl
theorem frm.up {h h' : xHp} {k : Nat} {e : xE} (a : frm h h') (hk : k < 94) : frm h (va_up h' k e) := fun j hj => (vu_n (by omega)).trans (a j hj)
def isVal (v : Int32) : Bool := decide (0 ≤ v) && decide (v < 6)
def isQn (v : Int32) : Bool := decide (0 ≤ v) && decide (v < 4)
def rowOK (r x y : Int32) : Bool := decide (0 ≤ r) && decide (r < 3) && (isVal x && isVal y)
set_option maxRecDepth 100000 in
set_option maxHeartbeats 4000000 in
theorem c_K_isValue {N : Nat} {h : xHp} (v : Int32) : XM y_K_isValue b_K_isValue 1 (some .boolean) 0 0 0 [.int v] N h (xR (some (.int (bi (isVal v)))) h) := by
  refine xM_intro [some (.int v)] (by decide) (fun _ => rfl) (fun _ => Nat.le_of_ble_eq_true rfl) (fun Γ => ?_)
  refine x_iload_n d_K_isValue_0 rfl ?_
  refine x_if_lt 14 d_K_isValue_1 (by decide) (fun c1 => ?_) (fun c1 => ?_)
  · refine x_iconst (v := 0) d_K_isValue_14 (by decide) ?_
    refine x_zret d_K_isValue_15 (by first | rfl | assumption) ?_
    exact ⟨by simp [isVal, bi, Int32.not_le.mpr c1], rfl⟩
  · refine x_iload_n d_K_isValue_4 rfl ?_
    refine x_bipush (v := 6) d_K_isValue_5 (by decide) ?_
    refine x_icmp_ge 14 d_K_isValue_7 (by decide) (fun c2 => ?_) (fun c2 => ?_)
    · refine x_iconst (v := 0) d_K_isValue_14 (by decide) ?_
      refine x_zret d_K_isValue_15 (by first | rfl | assumption) ?_
      exact ⟨by simp [isVal, bi, Int32.not_lt.mpr c2], rfl⟩
    · refine x_iconst (v := 1) d_K_isValue_10 (by decide) ?_
      refine x_goto 15 d_K_isValue_11 (by decide) ?_
      refine x_zret d_K_isValue_15 (by first | rfl | assumption) ?_
      exact ⟨by simp [isVal, bi, Int32.not_lt.mp c1, Int32.not_le.mp c2], rfl⟩
set_option maxRecDepth 100000 in
set_option maxHeartbeats 4000000 in
theorem c_K_isQuestion {N : Nat} {h : xHp} (v : Int32) : XM y_K_isQuestion b_K_isQuestion 1 (some .boolean) 0 0 0 [.int v] N h (xR (some (.int (bi (isQn v)))) h) := by
  refine xM_intro [some (.int v)] (by decide) (fun _ => rfl) (fun _ => Nat.le_of_ble_eq_true rfl) (fun Γ => ?_)
  refine x_iload_n d_K_isQuestion_0 rfl ?_
  refine x_if_lt 13 d_K_isQuestion_1 (by decide) (fun c1 => ?_) (fun c1 => ?_)
  · refine x_iconst (v := 0) d_K_isQuestion_13 (by decide) ?_
    refine x_zret d_K_isQuestion_14 (by first | rfl | assumption) ?_
    exact ⟨by simp [isQn, bi, Int32.not_le.mpr c1], rfl⟩
  · refine x_iload_n d_K_isQuestion_4 rfl ?_
    refine x_iconst (v := 4) d_K_isQuestion_5 (by decide) ?_
    refine x_icmp_ge 13 d_K_isQuestion_6 (by decide) (fun c2 => ?_) (fun c2 => ?_)
    · refine x_iconst (v := 0) d_K_isQuestion_13 (by decide) ?_
      refine x_zret d_K_isQuestion_14 (by first | rfl | assumption) ?_
      exact ⟨by simp [isQn, bi, Int32.not_lt.mpr c2], rfl⟩
    · refine x_iconst (v := 1) d_K_isQuestion_9 (by decide) ?_
      refine x_goto 14 d_K_isQuestion_10 (by decide) ?_
      refine x_zret d_K_isQuestion_14 (by first | rfl | assumption) ?_
      exact ⟨by simp [isQn, bi, Int32.not_lt.mp c1, Int32.not_le.mp c2], rfl⟩
set_option maxRecDepth 100000 in
set_option maxHeartbeats 4000000 in
theorem c_K_isRow {N : Nat} {h : xHp} (r x y : Int32) : XM y_K_isRow b_K_isRow 3 (some .boolean) 1 0 0 [.int r, .int x, .int y] N h (xR (some (.int (bi (rowOK r x y)))) h) := by
  refine xM_intro [some (.int r), some (.int x), some (.int y)] (by decide) (fun _ => rfl) (fun _ => Nat.le_of_ble_eq_true rfl) (fun Γ => ?_)
  refine x_iload_n d_K_isRow_0 rfl ?_
  refine x_if_lt 27 d_K_isRow_1 (by decide) (fun c1 => ?_) (fun c1 => ?_)
  · refine x_iconst (v := 0) d_K_isRow_27 (by decide) ?_
    refine x_zret d_K_isRow_28 (by first | rfl | assumption) ?_
    exact ⟨by simp [rowOK, bi, Int32.not_le.mpr c1], rfl⟩
  · refine x_iload_n d_K_isRow_4 rfl ?_
    refine x_iconst (v := 3) d_K_isRow_5 (by decide) ?_
    refine x_icmp_ge 27 d_K_isRow_6 (by decide) (fun c2 => ?_) (fun c2 => ?_)
    · refine x_iconst (v := 0) d_K_isRow_27 (by decide) ?_
      refine x_zret d_K_isRow_28 (by first | rfl | assumption) ?_
      exact ⟨by simp [rowOK, bi, Int32.not_lt.mpr c2], rfl⟩
    · refine x_iload_n d_K_isRow_9 rfl ?_
      refine x_cSe (c_K_isValue x) k_K_106 s_K_isValue d_K_isRow_10 rfl (by omega) (Nat.le_of_ble_eq_true rfl) ?_
      refine x_if_eq 27 d_K_isRow_13 (by decide) (fun c3 => ?_) (fun c3 => ?_)
      · rw [bi0] at c3
        refine x_iconst (v := 0) d_K_isRow_27 (by decide) ?_
        refine x_zret d_K_isRow_28 (by first | rfl | assumption) ?_
        exact ⟨by simp [rowOK, bi, c3], rfl⟩
      · rw [bi1] at c3
        refine x_iload_n d_K_isRow_16 rfl ?_
        refine x_cSe (c_K_isValue y) k_K_106 s_K_isValue d_K_isRow_17 rfl (by omega) (Nat.le_of_ble_eq_true rfl) ?_
        refine x_if_eq 27 d_K_isRow_20 (by decide) (fun c4 => ?_) (fun c4 => ?_)
        · rw [bi0] at c4
          refine x_iconst (v := 0) d_K_isRow_27 (by decide) ?_
          refine x_zret d_K_isRow_28 (by first | rfl | assumption) ?_
          exact ⟨by simp [rowOK, bi, c4], rfl⟩
        · rw [bi1] at c4
          refine x_iconst (v := 1) d_K_isRow_23 (by decide) ?_
          refine x_goto 28 d_K_isRow_24 (by decide) ?_
          refine x_zret d_K_isRow_28 (by first | rfl | assumption) ?_
          exact ⟨by simp [rowOK, bi, Int32.not_lt.mp c1, Int32.not_le.mp c2, c3, c4], rfl⟩
theorem i_of {x : Int32} {n : Nat} (hn : n < 2 ^ 31) (h0 : 0 ≤ x) (h : x < nI n) : ∃ j : Nat, j < n ∧ x = nI j := vp_in_of (i_in (Int32.not_lt.mpr h0) hn h) hn
theorem rowOK_n {r x y : Int32} (h : rowOK r x y = true) : ∃ a b c : Nat, a < 3 ∧ b < 6 ∧ c < 6 ∧ r = nI a ∧ x = nI b ∧ y = nI c := by
  simp only [rowOK, isVal, Bool.and_eq_true, decide_eq_true_eq] at h
  obtain ⟨⟨h1, h2⟩, ⟨h3, h4⟩, h5, h6⟩ := h
  obtain ⟨a, ha, ea⟩ := i_of (n := 3) (by decide) h1 h2
  obtain ⟨b, hb, eb⟩ := i_of (n := 6) (by decide) h3 h4
  obtain ⟨c, hc, ec⟩ := i_of (n := 6) (by decide) h5 h6
  exact ⟨a, b, c, ha, hb, hc, ea, eb, ec⟩
theorem isQn_n {q : Int32} (h : isQn q = true) : ∃ a : Nat, a < 4 ∧ q = nI a := by
  simp only [isQn, Bool.and_eq_true, decide_eq_true_eq] at h
  exact i_of (n := 4) (by decide) h.1 h.2
theorem isVal_n {q : Int32} (h : isVal q = true) : ∃ a : Nat, a < 6 ∧ q = nI a := by
  simp only [isVal, Bool.and_eq_true, decide_eq_true_eq] at h
  exact i_of (n := 6) (by decide) h.1 h.2
theorem plOf_in {r x y : Int32} (h : rowOK r x y = true) : vp_in (plOf r x y) 108 := by
  obtain ⟨a, b, c, ha, hb, hc, rfl, rfl, rfl⟩ := rowOK_n h
  rw [plOf_n]
  exact vp_in_nI (by omega) (by decide)
section KM
variable {N : Nat} {h : xHp} {f : Nat → Int32} {n : Nat} {pl bs tf : Nat → Int32} {tn : Nat} {Qs : Nat → CQ}
set_option maxRecDepth 100000 in
set_option maxHeartbeats 4000000 in
theorem c_K_change (r x y b : Int32) (hN : 94 ≤ N) (hI : IC f n pl bs tf tn Qs h) (hn : n < 512) : XM y_K_change b_K_change 5 (some .int) 2 0 0 [.ref 0, .int r, .int x, .int y, .int b] N h (fun v h' => frm h h' ∧ if rowOK r x y = true ∧ outOf (f (plOf r x y).toNatClampNeg) b = false then v = some (.int 0) ∧ IC (upd f (plOf r x y).toNatClampNeg (f (plOf r x y).toNatClampNeg + b)) (n + 1) (upd pl n (plOf r x y)) (upd bs n b) tf tn Qs h' else v = some (.int (-1)) ∧ IC f n pl bs tf tn Qs h') := by
  obtain ⟨h0, ⟨h1, h2, h3, h4⟩, hT, hG', hE, hQ⟩ := id hI
  have h1' := h1
  unfold oR at h1'
  refine xM_intro [some (.ref 0), some (.int r), some (.int x), some (.int y), some (.int b)] (by decide) (fun _ => rfl) (fun _ => Nat.le_of_ble_eq_true rfl) (fun Γ => ?_)
  refine x_iload_n d_K_change_0 rfl ?_
  refine x_iload_n d_K_change_1 rfl ?_
  refine x_iload_n d_K_change_2 rfl ?_
  refine x_cSe (c_K_isRow r x y) k_K_44 s_K_isRow d_K_change_3 rfl (by omega) (Nat.le_of_ble_eq_true rfl) ?_
  refine x_if_ne 11 d_K_change_6 (by decide) (fun c1 => ?_) (fun c1 => ?_)
  · rw [bi1] at c1
    refine x_aload_n d_K_change_11 rfl ?_
    refine x_get f_K_10 d_K_change_12 (by omega) (by first | assumption | exact vu_s | exact vu_t (by omega) (by first | assumption | exact vu_s | exact vu_t (by omega) (by first | assumption | exact vu_s | exact vu_t (by omega) (by first | assumption | exact vu_s))) | rfl | (simp only [va_up, Nat.reduceEqDiff, ↓reduceIte]; first | rfl | assumption)) rfl ?_
    refine x_iload_n d_K_change_15 rfl ?_
    refine x_iload_n d_K_change_16 rfl ?_
    refine x_iload_n d_K_change_17 rfl ?_
    refine x_cSe (c_R_placeOf r x y) k_K_48 s_R_placeOf d_K_change_18 rfl (by omega) (Nat.le_of_ble_eq_true rfl) ?_
    refine x_iload d_K_change_21 rfl ?_
    refine x_cV (c_R_raise hN hn h1 h2 h3 h4 (plOf_in c1)) k_K_52 v_R_raise d_K_change_23 rfl (by omega) (by first | assumption | exact vu_s | exact vu_t (by omega) (by first | assumption | exact vu_s | exact vu_t (by omega) (by first | assumption | exact vu_s | exact vu_t (by omega) (by first | assumption | exact vu_s))) | rfl | (simp only [va_up, Nat.reduceEqDiff, ↓reduceIte]; first | rfl | assumption)) rfl (by omega) (Nat.le_of_ble_eq_true rfl) ?_
    intro v h' hq
    by_cases e : outOf (f (plOf r x y).toNatClampNeg) b = true
    · rw [if_pos e] at hq
      obtain ⟨rfl, rfl⟩ := hq
      refine x_if_eq 33 d_K_change_26 (by decide) (fun c2 => ?_) (fun c2 => ?_)
      · refine x_iconst (v := -1) d_K_change_33 (by decide) ?_
        refine x_iret d_K_change_34 ?_
        refine ⟨frm.rf, ?_⟩
        rw [if_neg (fun z => by rw [e] at z; exact absurd z.2 (by decide))]
        exact ⟨rfl, hI⟩
      · exact absurd rfl c2
    · rw [if_neg e] at hq
      obtain ⟨rfl, rfl⟩ := hq
      refine x_if_eq 33 d_K_change_26 (by decide) (fun c2 => ?_) (fun c2 => ?_)
      · exact absurd c2 (by decide)
      · refine x_iconst (v := 0) d_K_change_29 (by decide) ?_
        refine x_goto 34 d_K_change_30 (by decide) ?_
        refine x_iret d_K_change_34 ?_
        refine ⟨(((frm.rf.up (by decide)).up (by decide)).up (by decide)).up (by decide), ?_⟩
        rw [if_pos ⟨c1, by simpa using e⟩]
        refine ⟨rfl, ?_, ⟨?_, ?_, ?_, ?_⟩, hT.cg ?_, hG'.cg ?_, hE.cg ?_, hQ.cg ?_⟩
        · exact vu_t (by decide) (vu_t (by decide) (vu_t (by decide) (vu_t (by decide) h0)))
        · exact vu_s
        · exact vu_t (by decide) (vu_t (by decide) (vu_t (by decide) vu_s))
        · exact vu_t (by decide) (vu_t (by decide) vu_s)
        · exact vu_t (by decide) vu_s
        all_goals exact (((sm.rf.up (by decide)).up (by decide)).up (by decide)).up (by decide)
  · rw [bi0] at c1
    refine x_iconst (v := -1) d_K_change_9 (by decide) ?_
    refine x_iret d_K_change_10 ?_
    refine ⟨frm.rf, ?_⟩
    rw [if_neg (fun z => by rw [c1] at z; exact absurd z.1 (by decide))]
    exact ⟨rfl, hI⟩
set_option maxRecDepth 100000 in
set_option maxHeartbeats 4000000 in
theorem c_K_back (hN : 94 ≤ N) (hI : IC f n pl bs tf tn Qs h) (hn : n ≤ 512) (hp : ∀ j, j < n → vp_in (pl j) 108) : XM y_K_back b_K_back 1 (some .int) 1 0 0 [.ref 0] N h (fun v h' => frm h h' ∧ if n = 0 then v = some (.int (-1)) ∧ IC f n pl bs tf tn Qs h' else v = some (.int (nI (n - 1))) ∧ IC (upd f (pl (n - 1)).toNatClampNeg (f (pl (n - 1)).toNatClampNeg - bs (n - 1))) (n - 1) pl bs tf tn Qs h') := by
  obtain ⟨h0, ⟨h1, h2, h3, h4⟩, hT, hG', hE, hQ⟩ := id hI
  have h1' := h1
  unfold oR at h1'
  refine xM_intro [some (.ref 0)] (by decide) (fun _ => rfl) (fun _ => Nat.le_of_ble_eq_true rfl) (fun Γ => ?_)
  refine x_aload_n d_K_back_0 rfl ?_
  refine x_get f_K_10 d_K_back_1 (by omega) (by first | assumption | exact vu_s | exact vu_t (by omega) (by first | assumption | exact vu_s | exact vu_t (by omega) (by first | assumption | exact vu_s | exact vu_t (by omega) (by first | assumption | exact vu_s))) | rfl | (simp only [va_up, Nat.reduceEqDiff, ↓reduceIte]; first | rfl | assumption)) rfl ?_
  refine x_cV (c_R_takeBack hN hn h1 h2 h3 h4 hp) k_K_56 v_R_takeBack d_K_back_4 rfl (by omega) (by first | assumption | exact vu_s | exact vu_t (by omega) (by first | assumption | exact vu_s | exact vu_t (by omega) (by first | assumption | exact vu_s | exact vu_t (by omega) (by first | assumption | exact vu_s))) | rfl | (simp only [va_up, Nat.reduceEqDiff, ↓reduceIte]; first | rfl | assumption)) rfl (by omega) (Nat.le_of_ble_eq_true rfl) ?_
  intro v h' hq
  by_cases e : n = 0
  · rw [if_pos e] at hq
    obtain ⟨rfl, rfl⟩ := hq
    refine x_if_eq 20 d_K_back_7 (by decide) (fun c2 => ?_) (fun c2 => ?_)
    · refine x_iconst (v := -1) d_K_back_20 (by decide) ?_
      refine x_iret d_K_back_21 ?_
      refine ⟨frm.rf, ?_⟩
      rw [if_pos e]
      exact ⟨rfl, hI⟩
    · exact absurd rfl c2
  · rw [if_neg e] at hq
    obtain ⟨rfl, rfl⟩ := hq
    refine x_if_eq 20 d_K_back_7 (by decide) (fun c2 => ?_) (fun c2 => ?_)
    · exact absurd c2 (by decide)
    · have k0 : va_up (va_up h 1 (oR (nI (n - 1)))) 2 (aI 108 (upd f (pl (n - 1)).toNatClampNeg (f (pl (n - 1)).toNatClampNeg - bs (n - 1)))) 0 = oK := vu_t (by decide) (vu_t (by decide) h0)
      have k1 : va_up (va_up h 1 (oR (nI (n - 1)))) 2 (aI 108 (upd f (pl (n - 1)).toNatClampNeg (f (pl (n - 1)).toNatClampNeg - bs (n - 1)))) 1 = oR (nI (n - 1)) := vu_t (by decide) vu_s
      have k1' := k1
      unfold oR at k1'
      refine x_aload_n d_K_back_10 rfl ?_
      refine x_get f_K_10 d_K_back_11 (by omega) (by first | assumption | exact vu_s | exact vu_t (by omega) (by first | assumption | exact vu_s | exact vu_t (by omega) (by first | assumption | exact vu_s | exact vu_t (by omega) (by first | assumption | exact vu_s))) | rfl | (simp only [va_up, Nat.reduceEqDiff, ↓reduceIte]; first | rfl | assumption)) rfl ?_
      refine x_cVe (c_R_changesLeft hN k1) k_K_60 v_R_changesLeft d_K_back_14 rfl (by omega) (by first | assumption | exact vu_s | exact vu_t (by omega) (by first | assumption | exact vu_s | exact vu_t (by omega) (by first | assumption | exact vu_s | exact vu_t (by omega) (by first | assumption | exact vu_s))) | rfl | (simp only [va_up, Nat.reduceEqDiff, ↓reduceIte]; first | rfl | assumption)) rfl (by omega) (Nat.le_of_ble_eq_true rfl) ?_
      refine x_goto 21 d_K_back_17 (by decide) ?_
      refine x_iret d_K_back_21 ?_
      refine ⟨(frm.rf.up (by decide)).up (by decide), ?_⟩
      rw [if_neg e]
      refine ⟨rfl, k0, ⟨k1, vu_s, vu_t (by decide) (vu_t (by decide) h3), vu_t (by decide) (vu_t (by decide) h4)⟩, hT.cg ?_, hG'.cg ?_, hE.cg ?_, hQ.cg ?_⟩
      all_goals exact (sm.rf.up (by decide)).up (by decide)
set_option maxRecDepth 100000 in
set_option maxHeartbeats 4000000 in
theorem c_K_clear (hN : 94 ≤ N) (hI : IC f n pl bs tf tn Qs h) : XM y_K_clear b_K_clear 1 (some .int) 1 0 0 [.ref 0] N h (fun v h' => frm h h' ∧ v = some (.int 0) ∧ IC f n pl bs tf 0 Qs h') := by
  obtain ⟨h0, hR, ⟨h5, h6⟩, hG', hE, hQ⟩ := id hI
  refine xM_intro [some (.ref 0)] (by decide) (fun _ => rfl) (fun _ => Nat.le_of_ble_eq_true rfl) (fun Γ => ?_)
  refine x_aload_n d_K_clear_0 rfl ?_
  refine x_get f_K_19 d_K_clear_1 (by omega) (by first | assumption | exact vu_s | exact vu_t (by omega) (by first | assumption | exact vu_s | exact vu_t (by omega) (by first | assumption | exact vu_s | exact vu_t (by omega) (by first | assumption | exact vu_s))) | rfl | (simp only [va_up, Nat.reduceEqDiff, ↓reduceIte]; first | rfl | assumption)) rfl ?_
  refine x_cVv (c_T_empty hN h5) k_K_71 v_T_empty d_K_clear_4 rfl (by omega) (by first | assumption | exact vu_s | exact vu_t (by omega) (by first | assumption | exact vu_s | exact vu_t (by omega) (by first | assumption | exact vu_s | exact vu_t (by omega) (by first | assumption | exact vu_s))) | rfl | (simp only [va_up, Nat.reduceEqDiff, ↓reduceIte]; first | rfl | assumption)) rfl (by omega) (Nat.le_of_ble_eq_true rfl) ?_
  refine x_iconst (v := 0) d_K_clear_7 (by decide) ?_
  refine x_iret d_K_clear_8 ?_
  refine ⟨frm.rf.up (by decide), rfl, vu_t (by decide) h0, hR.cg ?_, ⟨vu_s, vu_t (by decide) h6⟩, hG'.cg ?_, hE.cg ?_, hQ.cg ?_⟩
  all_goals exact sm.rf.up (by decide)
set_option maxRecDepth 100000 in
set_option maxHeartbeats 4000000 in
theorem c_K_count (r x y : Int32) (hN : 94 ≤ N) (hI : IC f n pl bs tf tn Qs h) : XM y_K_count b_K_count 4 (some .long) 2 0 0 [.ref 0, .int r, .int x, .int y] N h (xR (some (.long (if rowOK r x y then (f (plOf r x y).toNatClampNeg).toInt64 else 9000000000000000000))) h) := by
  obtain ⟨h0, ⟨h1, h2, h3, h4⟩, -⟩ := id hI
  have h1' := h1
  unfold oR at h1'
  refine xM_intro [some (.ref 0), some (.int r), some (.int x), some (.int y)] (by decide) (fun _ => rfl) (fun _ => Nat.le_of_ble_eq_true rfl) (fun Γ => ?_)
  refine x_iload_n d_K_count_0 rfl ?_
  refine x_iload_n d_K_count_1 rfl ?_
  refine x_iload_n d_K_count_2 rfl ?_
  refine x_cSe (c_K_isRow r x y) k_K_44 s_K_isRow d_K_count_3 rfl (by omega) (Nat.le_of_ble_eq_true rfl) ?_
  refine x_if_ne 13 d_K_count_6 (by decide) (fun c1 => ?_) (fun c1 => ?_)
  · rw [bi1] at c1
    refine x_aload_n d_K_count_13 rfl ?_
    refine x_get f_K_10 d_K_count_14 (by omega) (by first | assumption | exact vu_s | exact vu_t (by omega) (by first | assumption | exact vu_s | exact vu_t (by omega) (by first | assumption | exact vu_s | exact vu_t (by omega) (by first | assumption | exact vu_s))) | rfl | (simp only [va_up, Nat.reduceEqDiff, ↓reduceIte]; first | rfl | assumption)) rfl ?_
    refine x_iload_n d_K_count_17 rfl ?_
    refine x_iload_n d_K_count_18 rfl ?_
    refine x_iload_n d_K_count_19 rfl ?_
    refine x_cSe (c_R_placeOf r x y) k_K_48 s_R_placeOf d_K_count_20 rfl (by omega) (Nat.le_of_ble_eq_true rfl) ?_
    refine x_cVe (c_R_at hN h1 h2 (plOf_in c1)) k_K_118 v_R_at d_K_count_23 rfl (by omega) (by first | assumption | exact vu_s | exact vu_t (by omega) (by first | assumption | exact vu_s | exact vu_t (by omega) (by first | assumption | exact vu_s | exact vu_t (by omega) (by first | assumption | exact vu_s))) | rfl | (simp only [va_up, Nat.reduceEqDiff, ↓reduceIte]; first | rfl | assumption)) rfl (by omega) (Nat.le_of_ble_eq_true rfl) ?_
    refine x_i2l d_K_count_26 ?_
    refine x_lret d_K_count_27 ?_
    exact ⟨by rw [c1]; rfl, rfl⟩
  · rw [bi0] at c1
    refine x_ldc2 l_K_109 d_K_count_9 ?_
    refine x_lret d_K_count_12 ?_
    exact ⟨by rw [c1]; rfl, rfl⟩
set_option maxRecDepth 100000 in
set_option maxHeartbeats 4000000 in
theorem c_K_state (w : Int32) (hN : 94 ≤ N) (hI : IC f n pl bs tf tn Qs h) : XM y_K_state b_K_state 2 (some .int) 1 0 0 [.ref 0, .int w] N h (xR (some (.int (if w = 0 then nI tn else if w = 1 then nI n else if w = 2 then nI (filN f 108) else -1))) h) := by
  obtain ⟨h0, ⟨h1, h2, h3, h4⟩, ⟨h5, h6⟩, -⟩ := id hI
  have h1' := h1
  unfold oR at h1'
  refine xM_intro [some (.ref 0), some (.int w)] (by decide) (fun _ => rfl) (fun _ => Nat.le_of_ble_eq_true rfl) (fun Γ => ?_)
  refine x_iload_n d_K_state_0 rfl ?_
  by_cases e0 : w = 0
  · subst e0
    refine x_tableIn 28 d_K_state_1 (by decide) (by decide) (off := 27) (by decide) (by decide) ?_
    refine x_aload_n d_K_state_28 rfl ?_
    refine x_get f_K_19 d_K_state_29 (by omega) (by first | assumption | exact vu_s | exact vu_t (by omega) (by first | assumption | exact vu_s | exact vu_t (by omega) (by first | assumption | exact vu_s | exact vu_t (by omega) (by first | assumption | exact vu_s))) | rfl | (simp only [va_up, Nat.reduceEqDiff, ↓reduceIte]; first | rfl | assumption)) rfl ?_
    refine x_cVe (c_T_length hN h5) k_K_68 v_T_length d_K_state_32 rfl (by omega) (by first | assumption | exact vu_s | exact vu_t (by omega) (by first | assumption | exact vu_s | exact vu_t (by omega) (by first | assumption | exact vu_s | exact vu_t (by omega) (by first | assumption | exact vu_s))) | rfl | (simp only [va_up, Nat.reduceEqDiff, ↓reduceIte]; first | rfl | assumption)) rfl (by omega) (Nat.le_of_ble_eq_true rfl) ?_
    refine x_iret d_K_state_35 ?_
    exact ⟨rfl, rfl⟩
  · by_cases e1 : w = 1
    · subst e1
      refine x_tableIn 36 d_K_state_1 (by decide) (by decide) (off := 35) (by decide) (by decide) ?_
      refine x_aload_n d_K_state_36 rfl ?_
      refine x_get f_K_10 d_K_state_37 (by omega) (by first | assumption | exact vu_s | exact vu_t (by omega) (by first | assumption | exact vu_s | exact vu_t (by omega) (by first | assumption | exact vu_s | exact vu_t (by omega) (by first | assumption | exact vu_s))) | rfl | (simp only [va_up, Nat.reduceEqDiff, ↓reduceIte]; first | rfl | assumption)) rfl ?_
      refine x_cVe (c_R_changesLeft hN h1) k_K_60 v_R_changesLeft d_K_state_40 rfl (by omega) (by first | assumption | exact vu_s | exact vu_t (by omega) (by first | assumption | exact vu_s | exact vu_t (by omega) (by first | assumption | exact vu_s | exact vu_t (by omega) (by first | assumption | exact vu_s))) | rfl | (simp only [va_up, Nat.reduceEqDiff, ↓reduceIte]; first | rfl | assumption)) rfl (by omega) (Nat.le_of_ble_eq_true rfl) ?_
      refine x_iret d_K_state_43 ?_
      exact ⟨rfl, rfl⟩
    · by_cases e2 : w = 2
      · subst e2
        refine x_tableIn 44 d_K_state_1 (by decide) (by decide) (off := 43) (by decide) (by decide) ?_
        refine x_aload_n d_K_state_44 rfl ?_
        refine x_get f_K_10 d_K_state_45 (by omega) (by first | assumption | exact vu_s | exact vu_t (by omega) (by first | assumption | exact vu_s | exact vu_t (by omega) (by first | assumption | exact vu_s | exact vu_t (by omega) (by first | assumption | exact vu_s))) | rfl | (simp only [va_up, Nat.reduceEqDiff, ↓reduceIte]; first | rfl | assumption)) rfl ?_
        refine x_cVe (c_R_filled hN h1 h2) k_K_134 v_R_filled d_K_state_48 rfl (by omega) (by first | assumption | exact vu_s | exact vu_t (by omega) (by first | assumption | exact vu_s | exact vu_t (by omega) (by first | assumption | exact vu_s | exact vu_t (by omega) (by first | assumption | exact vu_s))) | rfl | (simp only [va_up, Nat.reduceEqDiff, ↓reduceIte]; first | rfl | assumption)) rfl (by omega) (Nat.le_of_ble_eq_true rfl) ?_
        refine x_iret d_K_state_51 ?_
        exact ⟨rfl, rfl⟩
      · have z0 := lv_neT (a := 0) e0 (by decide)
        have z1 := lv_neT (a := 1) e1 (by decide)
        have z2 := lv_neT (a := 2) e2 (by decide)
        refine x_tableOut 52 d_K_state_1 (by omega) (by decide) ?_
        refine x_iconst (v := -1) d_K_state_52 (by decide) ?_
        refine x_iret d_K_state_53 ?_
        exact ⟨by rw [if_neg e0, if_neg e1, if_neg e2], rfl⟩
end KM
