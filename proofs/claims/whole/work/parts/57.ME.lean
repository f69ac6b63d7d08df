/-! The reference: read, fault. -/
theorem rv_n : ∀ p, p < 200 → rv false p < 0 ∧ (-1 - rv false p = nI p) ∧ ¬ rv true p < 0 := by decide +kernel
theorem rdC_b (f : Nat → Int32) : ∀ m p ca, (rdC f m p ca).2.1 ≤ p + m
  | 0, p, ca => Nat.le_refl _
  | m + 1, p, ca => by
    rw [rdC]
    split
    · split
      · exact Nat.le_add_right _ _
      · show p + 1 ≤ _
        omega
    · split
      · have := rdC_b f m (p + 1) (ca ||| rlB (f p))
        omega
      · exact Nat.le_add_right _ _
theorem rdE_b (f : Nat → Int32) (n : Nat) (ca : Int32) : ∀ m S p d o w, m = n + 1 - p → (rdE f n ca m S p d o w).2.1 ≤ n
  | 0, S, p, d, o, w, h => Nat.le_refl _
  | m + 1, S, p, d, o, w, h => by
    have hp : p ≤ n := by omega
    rw [rdE]
    repeat' split
    all_goals first | exact hp | exact rdE_b f n ca m _ _ _ _ _ (by omega)
theorem rdQ_b (f : Nat → Int32) (n : Nat) (ca : Int32) : ∀ m p k C, (rdQ f n ca m p k C).2.1 ≤ p + 4 * m + n
  | 0, p, k, C => by
    rw [rdQ]
    show p ≤ _
    omega
  | m + 1, p, k, C => by
    rw [rdQ]
    split
    · split
      · show min (p + 1) n ≤ _
        omega
      · split
        · show min (p + 2) n ≤ _
          omega
        · split
          · show min (p + 3) n ≤ _
            omega
          · have := rdQ_b f n ca m (p + 4) (k + 1) (upd C.1 k (colOf (at1 f n (p + 1))), upd C.2.1 k (at1 f n (p + 2)), upd C.2.2 k (at1 f n (p + 3) - 48))
            omega
    · show p ≤ _
      omega
abbrev lgO (S : RS) : Bool := S.2.2.2.2.2.2
def lgS : RS → Bool → RS
  | (sm, tm, bg, sn, mn, fa, _), b => (sm, tm, bg, sn, mn, fa, b)
abbrev rdK (f : Nat → Int32) (n : Nat) : Bool × Nat × Int32 := rdC f n 0 0
abbrev rdX (f : Nat → Int32) (n : Nat) (S : RS) : Bool × Nat × RS := rdE f n (rdK f n).2.2 (n + 1 - (rdK f n).2.1) (bgS (lgS S false) 0) (rdK f n).2.1 0 0 true
abbrev rdO (f : Nat → Int32) (n : Nat) (S : RS) (C : CS) : Bool × Nat × Nat × CS := rdQ f n (rdK f n).2.2 31 (rdX f n S).2.1 0 C
/-- what read answers and leaves: the answer, chain, conditions, grouping, the rest -/
def rdA (f : Nat → Int32) (n : Nat) (cd : Int32) (S : RS) (C : CS) : Int32 × Int32 × Int32 × Int32 × RS × CS :=
  if (rdK f n).1 = false then (nI (rdK f n).2.1, (rdK f n).2.2, cd, -2, lgS S false, C)
  else if (rdX f n S).1 = false then (nI (rdX f n S).2.1, (rdK f n).2.2, cd, -2, (rdX f n S).2.2, C)
  else if (rdO f n S C).1 = false then (nI (rdO f n S C).2.1, (rdK f n).2.2, nI (rdO f n S C).2.2.1, -2, (rdX f n S).2.2, (rdO f n S C).2.2.2)
  else if at1 f n (rdO f n S C).2.1 = 47 then
    if hasM (rdK f n).2.2 (at1 f n ((rdO f n S C).2.1 + 1)) = false then (nI (min ((rdO f n S C).2.1 + 1) n), (rdK f n).2.2, nI (rdO f n S C).2.2.1, -2, (rdX f n S).2.2, (rdO f n S C).2.2.2)
    else (if (rdO f n S C).2.1 + 2 < n then nI ((rdO f n S C).2.1 + 2) else -2, (rdK f n).2.2, nI (rdO f n S C).2.2.1, colOf (at1 f n ((rdO f n S C).2.1 + 1)), (rdX f n S).2.2, (rdO f n S C).2.2.2)
  else (if (rdO f n S C).2.1 < n then nI (rdO f n S C).2.1 else -2, (rdK f n).2.2, nI (rdO f n S C).2.2.1, -2, (rdX f n S).2.2, (rdO f n S C).2.2.2)
def frM (h h' : xHp) : Prop := ∀ i, i ≠ 94 → (i < 99 ∨ (101 < i ∧ i < 109) ∨ 115 < i) → h' i = h i
theorem frM_R {a b c : xHp} (x : frM a b) (y : frR b c) : frM a c := fun i p q => (y i p (by omega)).trans (x i p q)
theorem frM_C {a b c : xHp} (x : frM a b) (y : frC b c) : frM a c := fun i p q => (y i p (by omega)).trans (x i p q)
theorem frM_u {a b : xHp} (x : frM a b) {v : xE} : frM a (va_up b 94 v) := fun i p q => (vu_n p).trans (x i p q)
theorem RI_C {ch ln ca cd gp ca' cd' gp' : Int32} {S : RS} {C : CS} {h h' : xHp} (i : RI ch ln ca cd gp S h) (e : CI ch ln ca' cd' gp' (bi (lgO S)) C h') (f : frC h h') : RI ch ln ca' cd' gp' S h' := by
  obtain ⟨h1, h2, h3, h4, h5, h6, h7, pr, h8⟩ := i
  exact ⟨e.1, (f _ (by decide) (by decide)).trans h2, (f _ (by decide) (by decide)).trans h3, (f _ (by decide) (by decide)).trans h4, (f _ (by decide) (by decide)).trans h5, (f _ (by decide) (by decide)).trans h6, (f _ (by decide) (by decide)).trans h7, pr, (f _ (by decide) (by decide)).trans h8⟩
theorem RI_o {ch ln ca cd gp ch' ln' ca' cd' gp' : Int32} {S : RS} {h : xHp} (i : RI ch ln ca cd gp S h) : RI ch' ln' ca' cd' gp' S (va_up h 94 (oM ch' ln' ca' cd' gp' (bi (lgO S)))) := by
  obtain ⟨h1, h2, h3, h4, h5, h6, h7, pr, h8⟩ := i
  exact ⟨vu_s, vu_t (by decide) h2, vu_t (by decide) h3, vu_t (by decide) h4, vu_t (by decide) h5, vu_t (by decide) h6, vu_t (by decide) h7, pr, vu_t (by decide) h8⟩
theorem RI_l {ch ln ca cd gp ca' cd' gp' : Int32} {S : RS} {h : xHp} (b : Bool) (i : RI ch ln ca cd gp S h) : RI ch ln ca' cd' gp' (lgS S b) (va_up h 94 (oM ch ln ca' cd' gp' (bi b))) := by
  obtain ⟨sm, tm, bg, sn, mn, fa, lg⟩ := S
  obtain ⟨h1, h2, h3, h4, h5, h6, h7, pr, h8⟩ := i
  exact ⟨vu_s, vu_t (by decide) h2, vu_t (by decide) h3, vu_t (by decide) h4, vu_t (by decide) h5, vu_t (by decide) h6, vu_t (by decide) h7, pr, vu_t (by decide) h8⟩
set_option maxRecDepth 100000 in
set_option maxHeartbeats 4000000 in
theorem c_M_read {N : Nat} {h : xHp} {ch ca cd gp : Int32} {f : Nat → Int32} {S : RS} {C : CS} {n : Nat} (hN : 116 ≤ N) (hn : n ≤ 30) (h98 : h 98 = aI 30 f) (hS : RI ch (nI n) ca cd gp S h) (hC : CI ch (nI n) ca cd gp (bi (lgO S)) C h) : XM y_M_read b_M_read 2 (some .int) 4 0 0 [.ref 94] N h (fun r h' => r = some (.int (rdA f n cd S C).1) ∧ RI ch (nI n) (rdA f n cd S C).2.1 (rdA f n cd S C).2.2.1 (rdA f n cd S C).2.2.2.1 (rdA f n cd S C).2.2.2.2.1 h' ∧ CI ch (nI n) (rdA f n cd S C).2.1 (rdA f n cd S C).2.2.1 (rdA f n cd S C).2.2.2.1 (bi (lgO (rdA f n cd S C).2.2.2.2.1)) (rdA f n cd S C).2.2.2.2.2 h' ∧ frM h h') := by
  refine xM_intro [some (.ref 94), none] (by decide) (fun _ => rfl) (fun _ => Nat.le_of_ble_eq_true rfl) (fun Γ => ?_)
  generalize hR : rdA f n cd S C = R
  generalize hQ : (fun (r : Option Value) (h' : xHp) => r = some (.int R.1) ∧ RI ch (nI n) R.2.1 R.2.2.1 R.2.2.2.1 R.2.2.2.2.1 h' ∧ CI ch (nI n) R.2.1 R.2.2.1 R.2.2.2.1 (bi (lgO R.2.2.2.2.1)) R.2.2.2.2.2 h' ∧ frM h h') = Qp
  rw [rdA] at hR
  have b1 : (rdK f n).2.1 ≤ n := by
    have : (rdK f n).2.1 ≤ 0 + n := rdC_b f n 0 0
    omega
  have b2 : (rdX f n S).2.1 ≤ n := rdE_b f n _ _ _ _ _ _ _ rfl
  have b3 : (rdO f n S C).2.1 ≤ 184 := by
    have : (rdO f n S C).2.1 ≤ (rdX f n S).2.1 + 4 * 31 + n := rdQ_b f n (rdK f n).2.2 31 (rdX f n S).2.1 0 C
    omega
  have s36 : ∀ (p : Nat) (h' : xHp) (ca cd gp : Int32) (S' : RS) (C' : CS), p < 200 → (nI p, ca, cd, gp, S', C') = R → RI ch (nI n) ca cd gp S' h' → CI ch (nI n) ca cd gp (bi (lgO S')) C' h' → frM h h' → XW Γ y_M_read b_M_read 2 (some .int) (4, 0, 0) (xQ Γ (N + 0) 0 0 Qp) 0 0 N h' 36 [some (.ref 94), some (.int (rv false p))] [] := by
    intro p h' ca cd gp S' C' hp e i1 i2 fr
    obtain ⟨z1, z2, z3⟩ := rv_n p hp
    refine x_iload_n d_M_read_36 rfl ?_
    refine x_if_ge 44 d_M_read_37 (by decide) (fun c1 => ?_) (fun c1 => ?_)
    · exact absurd z1 (Int32.not_lt.mpr c1)
    · refine x_iconst (v := -1) d_M_read_40 (by decide) ?_
      refine x_iload_n d_M_read_41 rfl ?_
      refine x_isub d_M_read_42 ?_
      refine x_iret d_M_read_43 ?_
      rw [← hQ, ← e, z2]
      exact ⟨rfl, i1, i2, fr⟩
  have s26 : ∀ (p : Nat) (h' : xHp) (ca cd gp : Int32) (S' : RS) (C' : CS), p < 200 → (nI p, ca, cd, gp, S', C') = R → RI ch (nI n) ca cd gp S' h' → CI ch (nI n) ca cd gp (bi (lgO S')) C' h' → frM h h' → XW Γ y_M_read b_M_read 2 (some .int) (4, 0, 0) (xQ Γ (N + 0) 0 0 Qp) 0 0 N h' 26 [some (.ref 94), some (.int (rv false p))] [] := by
    intro p h' ca cd gp S' C' hp e i1 i2 fr
    obtain ⟨z1, z2, z3⟩ := rv_n p hp
    refine x_iload_n d_M_read_26 rfl ?_
    refine x_if_lt 36 d_M_read_27 (by decide) (fun c1 => ?_) (fun c1 => ?_)
    · exact s36 p h' ca cd gp S' C' hp e i1 i2 fr
    · exact absurd z1 c1
  have s93 : ∀ (p : Nat) (h' : xHp) (ca cd gp : Int32) (S' : RS) (C' : CS), p < 200 → (if p < n then nI p else -2, ca, cd, gp, S', C') = R → RI ch (nI n) ca cd gp S' h' → CI ch (nI n) ca cd gp (bi (lgO S')) C' h' → frM h h' → XW Γ y_M_read b_M_read 2 (some .int) (4, 0, 0) (xQ Γ (N + 0) 0 0 Qp) 0 0 N h' 93 [some (.ref 94), some (.int (nI p))] [] := by
    intro p h' ca cd gp S' C' hp e i1 i2 fr
    have g1 := i1.1
    refine x_iload_n d_M_read_93 rfl ?_
    refine x_aload_n d_M_read_94 rfl ?_
    refine x_get f_M_82 d_M_read_95 (by omega) (by first | assumption | exact vu_s | exact vu_t (by omega) (by first | assumption | exact vu_s | exact vu_t (by omega) (by first | assumption | exact vu_s | exact vu_t (by omega) (by first | assumption | exact vu_s))) | rfl | (simp only [va_up, Nat.reduceEqDiff, ↓reduceIte]; first | rfl | assumption)) rfl ?_
    refine x_icmp_ge 105 d_M_read_98 (by decide) (fun c1 => ?_) (fun c1 => ?_)
    · have : ¬ p < n := fun z => absurd c1 (nI_ge z (by omega))
      rw [if_neg this] at e
      refine x_bipush (v := -2) d_M_read_105 (by decide) ?_
      refine x_iret d_M_read_107 ?_
      rw [← hQ, ← e]
      exact ⟨rfl, i1, i2, fr⟩
    · have : p < n := by
        rcases Nat.lt_or_ge p n with q | q
        · exact q
        · exact absurd (nI_le q (by omega)) c1
      rw [if_pos this] at e
      refine x_iload_n d_M_read_101 rfl ?_
      refine x_goto 107 d_M_read_102 (by decide) ?_
      refine x_iret d_M_read_107 ?_
      rw [← hQ, ← e]
      exact ⟨rfl, i1, i2, fr⟩
  have g1 := hS.1
  refine x_aload_n d_M_read_0 rfl ?_
  refine x_iconst (v := 0) d_M_read_1 (by decide) ?_
  refine x_put f_M_85 d_M_read_2 (by omega) (by first | assumption | exact vu_s | exact vu_t (by omega) (by first | assumption | exact vu_s | exact vu_t (by omega) (by first | assumption | exact vu_s | exact vu_t (by omega) (by first | assumption | exact vu_s))) | rfl | (simp only [va_up, Nat.reduceEqDiff, ↓reduceIte]; first | rfl | assumption)) (Nat.le_of_ble_eq_true rfl) (fun _ => ⟨rfl, rfl⟩) ?_
  refine x_aload_n d_M_read_5 rfl ?_
  refine x_bipush (v := -2) d_M_read_6 (by decide) ?_
  refine x_put f_M_125 d_M_read_8 (by omega) (by first | assumption | exact vu_s | exact vu_t (by omega) (by first | assumption | exact vu_s | exact vu_t (by omega) (by first | assumption | exact vu_s | exact vu_t (by omega) (by first | assumption | exact vu_s))) | rfl | (simp only [va_up, Nat.reduceEqDiff, ↓reduceIte]; first | rfl | assumption)) (Nat.le_of_ble_eq_true rfl) (fun _ => ⟨rfl, rfl⟩) ?_
  refine x_aload_n d_M_read_11 rfl ?_
  rw [bx_uu]
  refine x_cVe (c_M_readChain (ca := ca) (cd := cd) (gp := -2) (lg := 0) hN hn vu_s (vu_t (by decide) h98)) k_M_128 v_M_readChain d_M_read_12 rfl (by omega) (by first | assumption | exact vu_s | exact vu_t (by omega) (by first | assumption | exact vu_s | exact vu_t (by omega) (by first | assumption | exact vu_s | exact vu_t (by omega) (by first | assumption | exact vu_s))) | rfl | (simp only [va_up, Nat.reduceEqDiff, ↓reduceIte]; first | rfl | assumption)) rfl (by omega) (Nat.le_of_ble_eq_true rfl) ?_
  rw [bx_uu]
  have i1 : RI ch (nI n) (rdK f n).2.2 cd (-2) (lgS S false) (va_up h 94 (oM ch (nI n) (rdK f n).2.2 cd (-2) 0)) := RI_l false hS
  have j1 : CI ch (nI n) (rdK f n).2.2 cd (-2) 0 C (va_up h 94 (oM ch (nI n) (rdK f n).2.2 cd (-2) 0)) := ⟨vu_s, vu_t (by decide) hC.2.1, vu_t (by decide) hC.2.2.1, vu_t (by decide) hC.2.2.2⟩
  have f1 : frM h (va_up h 94 (oM ch (nI n) (rdK f n).2.2 cd (-2) 0)) := frM_u (fun _ _ _ => rfl)
  generalize hh1 : va_up h 94 (oM ch (nI n) (rdK f n).2.2 cd (-2) 0) = h1 at i1 j1 f1
  clear hh1
  have rvt : ∀ p, rv true p = nI p := fun _ => rfl
  show XW Γ y_M_read b_M_read 2 (some .int) (4, 0, 0) (xQ Γ (N + 0) 0 0 Qp) 0 0 N h1 15 [some (.ref 94), none] [.int (rv (rdK f n).1 (rdK f n).2.1)]
  obtain ⟨z1, z2, z3⟩ := rv_n (rdK f n).2.1 (by omega)
  cases hk : (rdK f n).1
  · rw [if_pos hk] at hR
    refine x_istore_n d_M_read_15 (by decide) rfl ?_
    refine x_iload_n d_M_read_16 rfl ?_
    refine x_if_lt 26 d_M_read_17 (by decide) (fun c1 => ?_) (fun c1 => ?_)
    · exact s26 _ h1 _ _ _ _ _ (by omega) hR i1 j1 f1
    · exact absurd z1 c1
  · rw [if_neg (by rw [hk]; decide)] at hR
    refine x_istore_n d_M_read_15 (by decide) rfl ?_
    refine x_iload_n d_M_read_16 rfl ?_
    refine x_if_lt 26 d_M_read_17 (by decide) (fun c1 => ?_) (fun c1 => ?_)
    · exact absurd c1 z3
    · have k1 := i1.1
      have k98 : h1 98 = aI 30 f := (f1 98 (by decide) (by decide)).trans h98
      rw [rvt]
      refine x_aload_n d_M_read_20 rfl ?_
      refine x_iload_n d_M_read_21 rfl ?_
      refine x_cV (c_M_readExpression hN hn b1 k98 i1) k_M_132 v_M_readExpression d_M_read_22 rfl (by omega) (by first | assumption | exact vu_s | exact vu_t (by omega) (by first | assumption | exact vu_s | exact vu_t (by omega) (by first | assumption | exact vu_s | exact vu_t (by omega) (by first | assumption | exact vu_s))) | rfl | (simp only [va_up, Nat.reduceEqDiff, ↓reduceIte]; first | rfl | assumption)) rfl (by omega) (Nat.le_of_ble_eq_true rfl) ?_
      rintro r h2 ⟨rfl, i2, f2⟩
      show XW Γ y_M_read b_M_read 2 (some .int) (4, 0, 0) (xQ Γ (N + 0) 0 0 Qp) 0 0 N h2 25 [some (.ref 94), some (.int (nI (rdK f n).2.1))] [.int (rv (rdX f n S).1 (rdX f n S).2.1)]
      have i2' : RI ch (nI n) (rdK f n).2.2 cd (-2) (rdX f n S).2.2 h2 := i2
      clear i2
      have j2 : CI ch (nI n) (rdK f n).2.2 cd (-2) (bi (lgO (rdX f n S).2.2)) C h2 := ⟨i2'.1, (f2 _ (by decide) (by decide)).trans j1.2.1, (f2 _ (by decide) (by decide)).trans j1.2.2.1, (f2 _ (by decide) (by decide)).trans j1.2.2.2⟩
      have fm2 := frM_R f1 f2
      obtain ⟨z1, z2, z3⟩ := rv_n (rdX f n S).2.1 (by omega)
      cases he : (rdX f n S).1
      · rw [if_pos he] at hR
        refine x_istore_n d_M_read_25 (by decide) rfl ?_
        refine x_iload_n d_M_read_26 rfl ?_
        refine x_if_lt 36 d_M_read_27 (by decide) (fun c2 => ?_) (fun c2 => ?_)
        · exact s36 _ h2 _ _ _ _ _ (by omega) hR i2' j2 fm2
        · exact absurd z1 c2
      · rw [if_neg (by rw [he]; decide)] at hR
        refine x_istore_n d_M_read_25 (by decide) rfl ?_
        refine x_iload_n d_M_read_26 rfl ?_
        refine x_if_lt 36 d_M_read_27 (by decide) (fun c2 => ?_) (fun c2 => ?_)
        · exact absurd c2 z3
        · have k2 := i2'.1
          have k98 : h2 98 = aI 30 f := (fm2 98 (by decide) (by decide)).trans h98
          rw [rvt]
          refine x_aload_n d_M_read_30 rfl ?_
          refine x_iload_n d_M_read_31 rfl ?_
          refine x_cV (c_M_readConditions hN hn b2 k98 j2) k_M_135 v_M_readConditions d_M_read_32 rfl (by omega) (by first | assumption | exact vu_s | exact vu_t (by omega) (by first | assumption | exact vu_s | exact vu_t (by omega) (by first | assumption | exact vu_s | exact vu_t (by omega) (by first | assumption | exact vu_s))) | rfl | (simp only [va_up, Nat.reduceEqDiff, ↓reduceIte]; first | rfl | assumption)) rfl (by omega) (Nat.le_of_ble_eq_true rfl) ?_
          rintro r h3 ⟨rfl, j3, f3⟩
          show XW Γ y_M_read b_M_read 2 (some .int) (4, 0, 0) (xQ Γ (N + 0) 0 0 Qp) 0 0 N h3 35 [some (.ref 94), some (.int (nI (rdX f n S).2.1))] [.int (rv (rdO f n S C).1 (rdO f n S C).2.1)]
          have j3' : CI ch (nI n) (rdK f n).2.2 (nI (rdO f n S C).2.2.1) (-2) (bi (lgO (rdX f n S).2.2)) (rdO f n S C).2.2.2 h3 := j3
          clear j3
          have i3 := RI_C i2' j3' f3
          have fm3 := frM_C fm2 f3
          have k3 := i3.1
          have k98 : h3 98 = aI 30 f := (fm3 98 (by decide) (by decide)).trans h98
          obtain ⟨z1, z2, z3⟩ := rv_n (rdO f n S C).2.1 (by omega)
          cases hq : (rdO f n S C).1
          · rw [if_pos hq] at hR
            refine x_istore_n d_M_read_35 (by decide) rfl ?_
            exact s36 _ h3 _ _ _ _ _ (by omega) hR i3 j3' fm3
          · rw [if_neg (by rw [hq]; decide)] at hR
            clear z1 z2
            refine x_istore_n d_M_read_35 (by decide) rfl ?_
            refine x_iload_n d_M_read_36 rfl ?_
            rw [rvt] at z3 ⊢
            clear hq
            generalize (rdO f n S C).2.1 = p at hR b3 z3
            clear c1 c2 b1 b2 he hk
            refine x_if_ge 44 d_M_read_37 (by decide) (fun c3 => ?_) (fun c3 => ?_)
            · refine x_aload_n d_M_read_44 rfl ?_
              refine x_iload_n d_M_read_45 rfl ?_
              refine x_cVe (c_M_at p hN hn (by omega) k3 k98) k_M_100 v_M_at d_M_read_46 rfl (by omega) (by first | assumption | exact vu_s | exact vu_t (by omega) (by first | assumption | exact vu_s | exact vu_t (by omega) (by first | assumption | exact vu_s | exact vu_t (by omega) (by first | assumption | exact vu_s))) | rfl | (simp only [va_up, Nat.reduceEqDiff, ↓reduceIte]; first | rfl | assumption)) rfl (by omega) (Nat.le_of_ble_eq_true rfl) ?_
              rw [show (if p < n then f p else -1) = at1 f n p from rfl]
              refine x_bipush (v := 47) d_M_read_49 (by decide) ?_
              refine x_icmp_ne 93 d_M_read_51 (by decide) (fun c4 => ?_) (fun c4 => ?_)
              · rw [if_neg c4] at hR
                exact s93 p h3 _ _ _ _ _ (by omega) hR i3 j3' fm3
              · rw [if_pos c4] at hR
                refine x_aload_n d_M_read_54 rfl ?_
                refine x_aload_n d_M_read_55 rfl ?_
                refine x_iload_n d_M_read_56 rfl ?_
                refine x_iconst (v := 1) d_M_read_57 (by decide) ?_
                refine x_iadd d_M_read_58 ?_
                rw [nI_1]
                refine x_cVe (c_M_at (p + 1) hN hn (by omega) k3 k98) k_M_100 v_M_at d_M_read_59 rfl (by omega) (by first | assumption | exact vu_s | exact vu_t (by omega) (by first | assumption | exact vu_s | exact vu_t (by omega) (by first | assumption | exact vu_s | exact vu_t (by omega) (by first | assumption | exact vu_s))) | rfl | (simp only [va_up, Nat.reduceEqDiff, ↓reduceIte]; first | rfl | assumption)) rfl (by omega) (Nat.le_of_ble_eq_true rfl) ?_
                rw [show (if p + 1 < n then f (p + 1) else -1) = at1 f n (p + 1) from rfl]
                refine x_cVe (c_M_has _ hN k3) k_M_106 v_M_has d_M_read_62 rfl (by omega) (by first | assumption | exact vu_s | exact vu_t (by omega) (by first | assumption | exact vu_s | exact vu_t (by omega) (by first | assumption | exact vu_s | exact vu_t (by omega) (by first | assumption | exact vu_s))) | rfl | (simp only [va_up, Nat.reduceEqDiff, ↓reduceIte]; first | rfl | assumption)) rfl (by omega) (Nat.le_of_ble_eq_true rfl) ?_
                refine x_if_ne 76 d_M_read_65 (by decide) (fun c5 => ?_) (fun c5 => ?_)
                · rw [bi1] at c5
                  rw [if_neg (by rw [c5]; decide)] at hR
                  refine x_aload_n d_M_read_76 rfl ?_
                  refine x_aload_n d_M_read_77 rfl ?_
                  refine x_iload_n d_M_read_78 rfl ?_
                  refine x_iconst (v := 1) d_M_read_79 (by decide) ?_
                  refine x_iadd d_M_read_80 ?_
                  rw [nI_1]
                  refine x_cVe (c_M_at (p + 1) hN hn (by omega) k3 k98) k_M_100 v_M_at d_M_read_81 rfl (by omega) (by first | assumption | exact vu_s | exact vu_t (by omega) (by first | assumption | exact vu_s | exact vu_t (by omega) (by first | assumption | exact vu_s | exact vu_t (by omega) (by first | assumption | exact vu_s))) | rfl | (simp only [va_up, Nat.reduceEqDiff, ↓reduceIte]; first | rfl | assumption)) rfl (by omega) (Nat.le_of_ble_eq_true rfl) ?_
                  rw [show (if p + 1 < n then f (p + 1) else -1) = at1 f n (p + 1) from rfl]
                  refine x_cSe (c_M_letter _) k_M_74 s_M_letter d_M_read_84 rfl (by omega) (Nat.le_of_ble_eq_true rfl) ?_
                  refine x_put f_M_125 d_M_read_87 (by omega) (by first | assumption | exact vu_s | exact vu_t (by omega) (by first | assumption | exact vu_s | exact vu_t (by omega) (by first | assumption | exact vu_s | exact vu_t (by omega) (by first | assumption | exact vu_s))) | rfl | (simp only [va_up, Nat.reduceEqDiff, ↓reduceIte]; first | rfl | assumption)) (Nat.le_of_ble_eq_true rfl) (fun _ => ⟨rfl, rfl⟩) ?_
                  refine x_iinc d_M_read_90 rfl rfl (by decide) rfl ?_
                  rw [show nI p + Int32.ofInt 2 = nI (p + 2) from nI_add p 2]
                  exact s93 (p + 2) _ _ _ _ _ _ (by omega) hR (RI_o i3) ⟨vu_s, vu_t (by decide) j3'.2.1, vu_t (by decide) j3'.2.2.1, vu_t (by decide) j3'.2.2.2⟩ (frM_u fm3)
                · rw [bi0] at c5
                  rw [if_pos c5] at hR
                  refine x_aload_n d_M_read_68 rfl ?_
                  refine x_iload_n d_M_read_69 rfl ?_
                  refine x_iconst (v := 1) d_M_read_70 (by decide) ?_
                  refine x_iadd d_M_read_71 ?_
                  rw [nI_1]
                  refine x_cVe (c_M_shorter (p + 1) hN hn (by omega) k3) k_M_122 v_M_shorter d_M_read_72 rfl (by omega) (by first | assumption | exact vu_s | exact vu_t (by omega) (by first | assumption | exact vu_s | exact vu_t (by omega) (by first | assumption | exact vu_s | exact vu_t (by omega) (by first | assumption | exact vu_s))) | rfl | (simp only [va_up, Nat.reduceEqDiff, ↓reduceIte]; first | rfl | assumption)) rfl (by omega) (Nat.le_of_ble_eq_true rfl) ?_
                  refine x_iret d_M_read_75 ?_
                  rw [← hQ, ← hR]
                  exact ⟨rfl, i3, j3', fm3⟩
            · exact absurd (Int32.not_le.mp c3) z3
set_option maxRecDepth 100000 in
set_option maxHeartbeats 4000000 in
theorem c_M_fault {N : Nat} {h : xHp} {ch ca cd gp : Int32} {f : Nat → Int32} {S : RS} {C : CS} {n : Nat} (hN : 116 ≤ N) (hn : n ≤ 30) (h98 : h 98 = aI 30 f) (hS : RI ch (nI n) ca cd gp S h) (hC : CI ch (nI n) ca cd gp (bi (lgO S)) C h) : XM y_M_fault b_M_fault 1 (some .int) 5 0 0 [.ref 94] N h (fun r h' => r = some (.int (rdA f n cd S C).1) ∧ RI ch (nI n) (rdA f n cd S C).2.1 (rdA f n cd S C).2.2.1 (rdA f n cd S C).2.2.2.1 (rdA f n cd S C).2.2.2.2.1 h' ∧ CI ch (nI n) (rdA f n cd S C).2.1 (rdA f n cd S C).2.2.1 (rdA f n cd S C).2.2.2.1 (bi (lgO (rdA f n cd S C).2.2.2.2.1)) (rdA f n cd S C).2.2.2.2.2 h' ∧ frM h h') := by
  refine xM_intro [some (.ref 94)] (by decide) (fun _ => rfl) (fun _ => Nat.le_of_ble_eq_true rfl) (fun Γ => ?_)
  have g1 := hS.1
  refine x_aload_n d_M_fault_0 rfl ?_
  refine x_cV (c_M_read hN hn h98 hS hC) k_M_153 v_M_read d_M_fault_1 rfl (by omega) (by first | assumption | exact vu_s | exact vu_t (by omega) (by first | assumption | exact vu_s | exact vu_t (by omega) (by first | assumption | exact vu_s | exact vu_t (by omega) (by first | assumption | exact vu_s))) | rfl | (simp only [va_up, Nat.reduceEqDiff, ↓reduceIte]; first | rfl | assumption)) rfl (by omega) (Nat.le_of_ble_eq_true rfl) ?_
  rintro r h2 ⟨rfl, i2, j2, f2⟩
  refine x_iret d_M_fault_4 ?_
  exact ⟨rfl, i2, j2, f2⟩
