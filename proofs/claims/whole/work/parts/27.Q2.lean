/-! Question: the sums. -/
/-- along the chain: for each value of the latest column the sum so far -/
def dpQ (al : Nat → Int32) (g grp : Int32) (f : Nat → Int32) (k a : Nat) : Nat → Nat → Int64
  | 0, v => shareV al g grp k a v
  | t + 1, y => shareV al g grp k (a + t + 1) y * joinS (dpQ al g grp f k a t) f (a + t) y 6
def sum6 (F : Nat → Int64) : Nat → Int64
  | 0 => 0
  | v + 1 => sum6 F v + F v
theorem sum6_congr {F G : Nat → Int64} : ∀ n, (∀ j, j < n → F j = G j) → sum6 F n = sum6 G n
  | 0, _ => rfl
  | n + 1, h => by
    unfold sum6
    rw [sum6_congr n (fun j hj => h j (by omega)), h n (by omega)]
def powS (al : Nat → Int32) (g grp : Int32) (f : Nat → Int32) (k a b : Nat) : Int64 := sum6 (dpQ al g grp f k a (b + 1 - a)) 6
theorem lg_eq0 (x y : Int64) : (lg_cmp x y = 0) ↔ x = y := by
  unfold lg_cmp
  simp only [gt_iff_lt, Int64.lt_iff_toInt_lt, ← Int64.toInt_inj]
  repeat' split
  all_goals (constructor <;> intro hh <;> first | omega | decide | exact absurd hh (by decide))
theorem updL_s {f : Nat → Int64} {k : Nat} {x : Int64} : vp_updL f k x k = x := if_pos rfl
theorem updL_n {f : Nat → Int64} {k j : Nat} {x : Int64} (h : j ≠ k) : vp_updL f k x j = f j := if_neg h
/-- only the two scratch columns differ -/
def scr (q : Nat) (h h' : xHp) : Prop := (∃ ra rb, h' (q + 4) = aL 6 ra ∧ h' (q + 5) = aL 6 rb) ∧ ∀ j, j ≠ q + 4 → j ≠ q + 5 → h' j = h j
theorem scr.rf {q : Nat} {h : xHp} {ra rb : Nat → Int64} (h1 : h (q + 4) = aL 6 ra) (h2 : h (q + 5) = aL 6 rb) : scr q h h := ⟨⟨ra, rb, h1, h2⟩, fun _ _ _ => rfl⟩
theorem scr.tr {q : Nat} {h h1 h2 : xHp} (a : scr q h h1) (b : scr q h1 h2) : scr q h h2 := ⟨b.1, fun j e1 e2 => (b.2 j e1 e2).trans (a.2 j e1 e2)⟩
set_option maxRecDepth 100000 in
set_option maxHeartbeats 4000000 in
theorem c_Q_sumOfPowers {N : Nat} {h : xHp} {q : Nat} {n t g cn grp : Int32} {f al : Nat → Int32} {ra0 rb0 : Nat → Int64} {a b k : Nat} (hN : 94 ≤ N) (hq : q + 5 < N) (hq2 : 5 < q) (hab : a ≤ b) (hb : b < 3) (hk : k < 81) (h1 : h 1 = oR n) (h2 : h 2 = aI 108 f) (h3 : h q = oQ q t (nI a) (nI b) g cn) (h4 : h (q + 1) = aI 4 al) (h5 : h (q + 4) = aL 6 ra0) (h6 : h (q + 5) = aL 6 rb0) : XM y_Q_sumOfPowers b_Q_sumOfPowers 10 (some .long) 2 0 0 [.ref q, .ref 1, .int (nI k), .int grp] N h (fun r h' => r = some (.long (powS al g grp f k a b)) ∧ scr q h h') := by
  refine xM_intro [some (.ref q), some (.ref 1), some (.int (nI k)), some (.int grp), none, none, none, none, none, none] (by decide) (fun _ => rfl) (fun _ => Nat.le_of_ble_eq_true rfl) (fun Γ => ?_)
  generalize hQ : (fun (r : Option Value) (h' : xHp) => r = some (.long (powS al g grp f k a b)) ∧ scr q h h') = Qp
  have fin : ∀ (c x : Nat) (hh : xHp) (x7 x8 : Option Value), scr q h hh → (c = q + 4 ∨ c = q + 5) → (∃ rc, hh c = aL 6 rc ∧ ∀ j, j < 6 → rc j = dpQ al g grp f k a (b + 1 - a) j) → XW Γ y_Q_sumOfPowers b_Q_sumOfPowers 10 (some .long) (2, 0, 0) (xQ Γ (N + 0) 0 0 Qp) 0 0 N hh 137 [some (.ref q), some (.ref 1), some (.int (nI k)), some (.int grp), some (.ref c), some (.ref x), some (.int (nI (b + 1))), x7, x8, none] [] := by
    intro c x hh x7 x8 hs hc hrc
    obtain ⟨rc, hr1, hr2⟩ := hrc
    refine x_lconst (v := 0) d_Q_sumOfPowers_137 (by decide) ?_
    refine x_lstore d_Q_sumOfPowers_138 (by decide) rfl ?_
    refine x_iconst (v := 0) d_Q_sumOfPowers_140 (by decide) ?_
    refine x_istore d_Q_sumOfPowers_141 (by decide) rfl ?_
    have key : ∀ (m v : Nat), v ≤ 6 → 6 - v < m → XW Γ y_Q_sumOfPowers b_Q_sumOfPowers 10 (some .long) (2, 0, 0) (xQ Γ (N + 0) 0 0 Qp) 0 0 N hh 143 [some (.ref q), some (.ref 1), some (.int (nI k)), some (.int grp), some (.ref c), some (.ref x), some (.long (sum6 rc v)), none, some (.int (nI v)), none] [] := by
      intro m
      induction m with
      | zero => intro v _ h0; omega
      | succ m ih =>
        intro v hv hvm
        refine x_iload d_Q_sumOfPowers_143 rfl ?_
        refine x_bipush (v := 6) d_Q_sumOfPowers_145 (by decide) ?_
        refine x_icmp_ge 166 d_Q_sumOfPowers_147 (by decide) (fun c1 => ?_) (fun c1 => ?_)
        · have e := nI_end (n := 6) hv (by decide) c1
          subst e
          refine x_lload d_Q_sumOfPowers_166 rfl ?_
          refine x_lret d_Q_sumOfPowers_168 ?_
          rw [← hQ]
          exact ⟨by rw [powS, sum6_congr 6 hr2], hs⟩
        · have hlt := nI_more (n := 6) hv (by decide) c1
          have hi : vp_in (nI v) 6 := vp_in_nI hlt (by decide)
          refine x_lload d_Q_sumOfPowers_150 rfl ?_
          refine x_aload d_Q_sumOfPowers_152 rfl ?_
          refine x_iload d_Q_sumOfPowers_154 rfl ?_
          refine x_lald d_Q_sumOfPowers_156 (by omega) (by first | assumption | exact vu_s | exact vu_t (by omega) (by first | assumption | exact vu_s | exact vu_t (by omega) (by first | assumption | exact vu_s | exact vu_t (by omega) (by first | assumption | exact vu_s))) | rfl | (simp only [va_up, Nat.reduceEqDiff, ↓reduceIte]; first | rfl | assumption)) (by assumption) ?_
          refine x_ladd d_Q_sumOfPowers_157 ?_
          refine x_lstore d_Q_sumOfPowers_158 (by decide) rfl ?_
          refine x_iinc1 d_Q_sumOfPowers_160 rfl (by decide) rfl ?_
          refine x_goto 143 d_Q_sumOfPowers_163 (by decide) ?_
          rw [nI_1, nI_clamp (show v < 2 ^ 31 by omega)]
          exact ih (v + 1) (by omega) (by omega)
    exact key 7 0 (by omega) (by omega)
  have outer : ∀ (m u : Nat) (c c' : Nat) (hh : xHp) (x7 x8 : Option Value), a + u ≤ b + 1 → b + 1 - (a + u) < m → scr q h hh → ((c = q + 4 ∧ c' = q + 5) ∨ (c = q + 5 ∧ c' = q + 4)) → (∃ rc, hh c = aL 6 rc ∧ ∀ j, j < 6 → rc j = dpQ al g grp f k a u j) → XW Γ y_Q_sumOfPowers b_Q_sumOfPowers 10 (some .long) (2, 0, 0) (xQ Γ (N + 0) 0 0 Qp) 0 0 N hh 51 [some (.ref q), some (.ref 1), some (.int (nI k)), some (.int grp), some (.ref c), some (.ref c'), some (.int (nI (a + u))), x7, x8, none] [] := by
    intro m
    induction m with
    | zero => intro u c c' hh x7 x8 _ h0; omega
    | succ m ih =>
      intro u c c' hh x7 x8 hu hum hs hc hrc
      have g3 : hh q = oQ q t (nI a) (nI b) g cn := (hs.2 q (by omega) (by omega)).trans h3
      have g4 : hh (q + 1) = aI 4 al := (hs.2 (q + 1) (by omega) (by omega)).trans h4
      have g1 : hh 1 = oR n := (hs.2 1 (by omega) (by omega)).trans h1
      have g2 : hh 2 = aI 108 f := (hs.2 2 (by omega) (by omega)).trans h2
      refine x_iload d_Q_sumOfPowers_51 rfl ?_
      refine x_aload_n d_Q_sumOfPowers_53 rfl ?_
      refine x_get f_Q_45 d_Q_sumOfPowers_54 (by omega) (by first | assumption | exact vu_s | exact vu_t (by omega) (by first | assumption | exact vu_s | exact vu_t (by omega) (by first | assumption | exact vu_s | exact vu_t (by omega) (by first | assumption | exact vu_s))) | rfl | (simp only [va_up, Nat.reduceEqDiff, ↓reduceIte]; first | rfl | assumption)) rfl ?_
      refine x_icmp_gt 137 d_Q_sumOfPowers_57 (by decide) (fun c1 => ?_) (fun c1 => ?_)
      · have e : a + u = b + 1 := by
          have := (nI_ltI (show b < 2 ^ 31 by omega) (show a + u < 2 ^ 31 by omega)).mp c1
          omega
        rw [e]
        have e2 : b + 1 - a = u := by omega
        refine fin c _ hh x7 x8 hs ?_ ?_
        · rcases hc with z | z <;> omega
        · rw [e2]
          exact hrc
      · have hlt : a + u ≤ b := by
          rcases Nat.lt_or_ge b (a + u) with z | z
          · exact absurd (nI_lt z (by omega)) c1
          · exact z
        obtain ⟨rc, hr1, hr2⟩ := hrc
        have hcc : c < N ∧ c' < N ∧ c ≠ c' ∧ 5 < c ∧ 5 < c' := by omega
        obtain ⟨rd, hd⟩ : ∃ rd, hh c' = aL 6 rd := by
          obtain ⟨⟨ra, rb, z1, z2⟩, -⟩ := hs
          rcases hc with ⟨-, z⟩ | ⟨-, z⟩
          · exact ⟨rb, by rw [z]; exact z2⟩
          · exact ⟨ra, by rw [z]; exact z1⟩
        refine x_iconst (v := 0) d_Q_sumOfPowers_60 (by decide) ?_
        refine x_istore d_Q_sumOfPowers_61 (by decide) rfl ?_
        have inner : ∀ (m2 y : Nat) (rd : Nat → Int64) (x8 : Option Value), y ≤ 6 → 6 - y < m2 → (∀ j, j < y → rd j = dpQ al g grp f k a (u + 1) j) → XW Γ y_Q_sumOfPowers b_Q_sumOfPowers 10 (some .long) (2, 0, 0) (xQ Γ (N + 0) 0 0 Qp) 0 0 N (va_up hh c' (aL 6 rd)) 63 [some (.ref q), some (.ref 1), some (.int (nI k)), some (.int grp), some (.ref c), some (.ref c'), some (.int (nI (a + u))), some (.int (nI y)), x8, none] [] := by
          intro m2
          induction m2 with
          | zero => intro y rd x8 _ h0; omega
          | succ m2 ih2 =>
            intro y rd x8 hy hym hrd
            refine x_iload d_Q_sumOfPowers_63 rfl ?_
            refine x_bipush (v := 6) d_Q_sumOfPowers_65 (by decide) ?_
            refine x_icmp_ge 119 d_Q_sumOfPowers_67 (by decide) (fun c2 => ?_) (fun c2 => ?_)
            · have e := nI_end (n := 6) hy (by decide) c2
              subst e
              refine x_aload d_Q_sumOfPowers_119 rfl ?_
              refine x_astore d_Q_sumOfPowers_121 (by decide) rfl ?_
              refine x_aload d_Q_sumOfPowers_123 rfl ?_
              refine x_astore d_Q_sumOfPowers_125 (by decide) rfl ?_
              refine x_aload d_Q_sumOfPowers_127 rfl ?_
              refine x_astore d_Q_sumOfPowers_129 (by decide) rfl ?_
              refine x_iinc1 d_Q_sumOfPowers_131 rfl (by decide) rfl ?_
              refine x_goto 51 d_Q_sumOfPowers_134 (by decide) ?_
              rw [nI_1]
              have hs' : scr q h (va_up hh c' (aL 6 rd)) := by
                refine ⟨?_, fun j e1 e2 => ?_⟩
                · rcases hc with ⟨z1, z2⟩ | ⟨z1, z2⟩
                  · exact ⟨rc, rd, by rw [vu_n (by omega), ← z1]; exact hr1, by rw [z2]; exact vu_s⟩
                  · exact ⟨rd, rc, by rw [z2]; exact vu_s, by rw [vu_n (by omega), ← z1]; exact hr1⟩
                · rw [vu_n (by omega)]
                  exact hs.2 j e1 e2
              exact ih (u + 1) c' c _ (some (.ref c)) x8 (by omega) (by omega) hs' (by omega) ⟨rd, vu_s, hrd⟩
            · have hlt2 := nI_more (n := 6) hy (by decide) c2
              have hi : vp_in (nI y) 6 := vp_in_nI hlt2 (by decide)
              have step : ∀ v, v = dpQ al g grp f k a (u + 1) y → XW Γ y_Q_sumOfPowers b_Q_sumOfPowers 10 (some .long) (2, 0, 0) (xQ Γ (N + 0) 0 0 Qp) 0 0 N (va_up hh c' (aL 6 rd)) 112 [some (.ref q), some (.ref 1), some (.int (nI k)), some (.int grp), some (.ref c), some (.ref c'), some (.int (nI (a + u))), some (.int (nI y)), some (.long (shareV al g grp k (a + u + 1) y)), none] [.long v, .int (nI y), .ref c'] := by
                intro v hv
                refine x_last d_Q_sumOfPowers_112 (by omega) (by first | assumption | exact vu_s | exact vu_t (by omega) (by first | assumption | exact vu_s | exact vu_t (by omega) (by first | assumption | exact vu_s | exact vu_t (by omega) (by first | assumption | exact vu_s))) | rfl | (simp only [va_up, Nat.reduceEqDiff, ↓reduceIte]; first | rfl | assumption)) (by assumption) ?_
                refine x_iinc1 d_Q_sumOfPowers_113 rfl (by decide) rfl ?_
                refine x_goto 63 d_Q_sumOfPowers_116 (by decide) ?_
                rw [nI_1, nI_clamp (show y < 2 ^ 31 by omega), bx_uu]
                refine ih2 (y + 1) _ _ (by omega) (by omega) (fun j hj => ?_)
                by_cases e : j = y
                · subst e
                  rw [updL_s, hv]
                · rw [updL_n e]
                  exact hrd j (by omega)
              refine x_aload_n d_Q_sumOfPowers_70 rfl ?_
              refine x_iload d_Q_sumOfPowers_71 rfl ?_
              refine x_iconst (v := 1) d_Q_sumOfPowers_73 (by decide) ?_
              refine x_iadd d_Q_sumOfPowers_74 ?_
              refine x_iload d_Q_sumOfPowers_75 rfl ?_
              refine x_iload_n d_Q_sumOfPowers_77 rfl ?_
              refine x_iload_n d_Q_sumOfPowers_78 rfl ?_
              rw [nI_1]
              refine x_cVe (c_Q_share (by omega) (by omega) hlt2 hk (vu_t (by omega) g3) (vu_t (by omega) g4)) k_Q_79 v_Q_share d_Q_sumOfPowers_79 rfl (by omega) (by first | assumption | exact vu_s | exact vu_t (by omega) (by first | assumption | exact vu_s | exact vu_t (by omega) (by first | assumption | exact vu_s | exact vu_t (by omega) (by first | assumption | exact vu_s))) | rfl | (simp only [va_up, Nat.reduceEqDiff, ↓reduceIte]; first | rfl | assumption)) rfl (by omega) (Nat.le_of_ble_eq_true rfl) ?_
              refine x_lstore d_Q_sumOfPowers_82 (by decide) rfl ?_
              refine x_aload d_Q_sumOfPowers_84 rfl ?_
              refine x_iload d_Q_sumOfPowers_86 rfl ?_
              refine x_lload d_Q_sumOfPowers_88 rfl ?_
              refine x_lconst (v := 0) d_Q_sumOfPowers_90 (by decide) ?_
              refine x_lcmp d_Q_sumOfPowers_91 ?_
              refine x_if_ne 99 d_Q_sumOfPowers_92 (by decide) (fun c3 => ?_) (fun c3 => ?_)
              · refine x_lload d_Q_sumOfPowers_99 rfl ?_
                refine x_aload_n d_Q_sumOfPowers_101 rfl ?_
                refine x_iload d_Q_sumOfPowers_102 rfl ?_
                refine x_aload d_Q_sumOfPowers_104 rfl ?_
                refine x_iload d_Q_sumOfPowers_106 rfl ?_
                refine x_cSe (c_Q_joined hN (by omega) (by omega) hlt2 (vu_t (by omega) g1) (vu_t (by omega) g2) (vu_t (by omega) hr1)) k_Q_83 s_Q_joined d_Q_sumOfPowers_108 rfl (by omega) (Nat.le_of_ble_eq_true rfl) ?_
                refine x_lmul d_Q_sumOfPowers_111 ?_
                refine step _ ?_
                rw [dpQ, joinS_congr 6 hr2]
              · refine x_lconst (v := 0) d_Q_sumOfPowers_95 (by decide) ?_
                refine x_goto 112 d_Q_sumOfPowers_96 (by decide) ?_
                refine step _ ?_
                have e0 : shareV al g grp k (a + u + 1) y = 0 := (lg_eq0 _ _).mp c3
                rw [dpQ, e0, Int64.zero_mul]
        have := inner 7 0 rd x8 (by omega) (by omega) (fun j hj => by omega)
        rw [← hd, vu_e] at this
        exact this
  have h3' := h3
  refine x_aload_n d_Q_sumOfPowers_0 rfl ?_
  refine x_get f_Q_22 d_Q_sumOfPowers_1 (by omega) (by first | assumption | exact vu_s | exact vu_t (by omega) (by first | assumption | exact vu_s | exact vu_t (by omega) (by first | assumption | exact vu_s | exact vu_t (by omega) (by first | assumption | exact vu_s))) | rfl | (simp only [va_up, Nat.reduceEqDiff, ↓reduceIte]; first | rfl | assumption)) rfl ?_
  refine x_astore d_Q_sumOfPowers_4 (by decide) rfl ?_
  refine x_aload_n d_Q_sumOfPowers_6 rfl ?_
  refine x_get f_Q_26 d_Q_sumOfPowers_7 (by omega) (by first | assumption | exact vu_s | exact vu_t (by omega) (by first | assumption | exact vu_s | exact vu_t (by omega) (by first | assumption | exact vu_s | exact vu_t (by omega) (by first | assumption | exact vu_s))) | rfl | (simp only [va_up, Nat.reduceEqDiff, ↓reduceIte]; first | rfl | assumption)) rfl ?_
  refine x_astore d_Q_sumOfPowers_10 (by decide) rfl ?_
  refine x_iconst (v := 0) d_Q_sumOfPowers_12 (by decide) ?_
  refine x_istore d_Q_sumOfPowers_13 (by decide) rfl ?_
  have first : ∀ (m v : Nat) (ra : Nat → Int64), v ≤ 6 → 6 - v < m → (∀ j, j < v → ra j = shareV al g grp k a j) → XW Γ y_Q_sumOfPowers b_Q_sumOfPowers 10 (some .long) (2, 0, 0) (xQ Γ (N + 0) 0 0 Qp) 0 0 N (va_up h (q + 4) (aL 6 ra)) 15 [some (.ref q), some (.ref 1), some (.int (nI k)), some (.int grp), some (.ref (q + 4)), some (.ref (q + 5)), some (.int (nI v)), none, none, none] [] := by
    intro m
    induction m with
    | zero => intro v ra _ h0; omega
    | succ m ih =>
      intro v ra hv hvm hra
      refine x_iload d_Q_sumOfPowers_15 rfl ?_
      refine x_bipush (v := 6) d_Q_sumOfPowers_17 (by decide) ?_
      refine x_icmp_ge 45 d_Q_sumOfPowers_19 (by decide) (fun c1 => ?_) (fun c1 => ?_)
      · have e := nI_end (n := 6) hv (by decide) c1
        subst e
        refine x_aload_n d_Q_sumOfPowers_45 rfl ?_
        refine x_get f_Q_39 d_Q_sumOfPowers_46 (by omega) (by first | assumption | exact vu_s | exact vu_t (by omega) (by first | assumption | exact vu_s | exact vu_t (by omega) (by first | assumption | exact vu_s | exact vu_t (by omega) (by first | assumption | exact vu_s))) | rfl | (simp only [va_up, Nat.reduceEqDiff, ↓reduceIte]; first | rfl | assumption)) rfl ?_
        refine x_istore d_Q_sumOfPowers_49 (by decide) rfl ?_
        refine outer (b + 2) 0 (q + 4) (q + 5) _ none none (by omega) (by omega) ⟨⟨ra, rb0, vu_s, vu_t (by omega) h6⟩, fun j e1 e2 => vu_n e1⟩ (Or.inl ⟨rfl, rfl⟩) ⟨ra, vu_s, hra⟩
      · have hlt := nI_more (n := 6) hv (by decide) c1
        have hi : vp_in (nI v) 6 := vp_in_nI hlt (by decide)
        refine x_aload d_Q_sumOfPowers_22 rfl ?_
        refine x_iload d_Q_sumOfPowers_24 rfl ?_
        refine x_aload_n d_Q_sumOfPowers_26 rfl ?_
        refine x_aload_n d_Q_sumOfPowers_27 rfl ?_
        refine x_get f_Q_39 d_Q_sumOfPowers_28 (by omega) (by first | assumption | exact vu_s | exact vu_t (by omega) (by first | assumption | exact vu_s | exact vu_t (by omega) (by first | assumption | exact vu_s | exact vu_t (by omega) (by first | assumption | exact vu_s))) | rfl | (simp only [va_up, Nat.reduceEqDiff, ↓reduceIte]; first | rfl | assumption)) rfl ?_
        refine x_iload d_Q_sumOfPowers_31 rfl ?_
        refine x_iload_n d_Q_sumOfPowers_33 rfl ?_
        refine x_iload_n d_Q_sumOfPowers_34 rfl ?_
        refine x_cVe (c_Q_share (by omega) (by omega) hlt hk (vu_t (by omega) h3) (vu_t (by omega) h4)) k_Q_79 v_Q_share d_Q_sumOfPowers_35 rfl (by omega) (by first | assumption | exact vu_s | exact vu_t (by omega) (by first | assumption | exact vu_s | exact vu_t (by omega) (by first | assumption | exact vu_s | exact vu_t (by omega) (by first | assumption | exact vu_s))) | rfl | (simp only [va_up, Nat.reduceEqDiff, ↓reduceIte]; first | rfl | assumption)) rfl (by omega) (Nat.le_of_ble_eq_true rfl) ?_
        refine x_last d_Q_sumOfPowers_38 (by omega) (by first | assumption | exact vu_s | exact vu_t (by omega) (by first | assumption | exact vu_s | exact vu_t (by omega) (by first | assumption | exact vu_s | exact vu_t (by omega) (by first | assumption | exact vu_s))) | rfl | (simp only [va_up, Nat.reduceEqDiff, ↓reduceIte]; first | rfl | assumption)) (by assumption) ?_
        refine x_iinc1 d_Q_sumOfPowers_39 rfl (by decide) rfl ?_
        refine x_goto 15 d_Q_sumOfPowers_42 (by decide) ?_
        rw [nI_1, nI_clamp (show v < 2 ^ 31 by omega), bx_uu]
        refine ih (v + 1) _ (by omega) (by omega) (fun j hj => ?_)
        by_cases e : j = v
        · subst e
          exact updL_s
        · rw [updL_n e]
          exact hra j (by omega)
  have := first 7 0 ra0 (by omega) (by omega) (fun j hj => by omega)
  rw [← h5, vu_e] at this
  exact this
/-- over the first k combinations of powers -/
def sumK (co : Nat → Int32) (F : Nat → Int64) : Nat → Int64
  | 0 => 0
  | k + 1 => sumK co F k + (if co k = 0 then 0 else (co k).toInt64 * F k)
def ansC (al : Nat → Int32) (g grp : Int32) (f co : Nat → Int32) (a b : Nat) : Int64 := sumK co (fun k => powS al g grp f k a b) 81
set_option maxRecDepth 100000 in
set_option maxHeartbeats 4000000 in
theorem c_Q_sumOver {N : Nat} {h : xHp} {q : Nat} {n t g cn grp : Int32} {f al co : Nat → Int32} {ra0 rb0 : Nat → Int64} {a b : Nat} (hN : 94 ≤ N) (hq : q + 5 < N) (hq2 : 5 < q) (hab : a ≤ b) (hb : b < 3) (h1 : h 1 = oR n) (h2 : h 2 = aI 108 f) (h3 : h q = oQ q t (nI a) (nI b) g cn) (h4 : h (q + 1) = aI 4 al) (h7 : h (q + 2) = oP (q + 2)) (h8 : h (q + 3) = aI 81 co) (h5 : h (q + 4) = aL 6 ra0) (h6 : h (q + 5) = aL 6 rb0) : XM y_Q_sumOver b_Q_sumOver 7 (some .long) 3 0 0 [.ref q, .ref 1, .int grp] N h (fun r h' => r = some (.long (ansC al g grp f co a b)) ∧ scr q h h') := by
  refine xM_intro [some (.ref q), some (.ref 1), some (.int grp), none, none, none, none] (by decide) (fun _ => rfl) (fun _ => Nat.le_of_ble_eq_true rfl) (fun Γ => ?_)
  generalize hQ : (fun (r : Option Value) (h' : xHp) => r = some (.long (ansC al g grp f co a b)) ∧ scr q h h') = Qp
  refine x_lconst (v := 0) d_Q_sumOver_0 (by decide) ?_
  refine x_lstore_n d_Q_sumOver_1 (by decide) rfl ?_
  refine x_iconst (v := 0) d_Q_sumOver_2 (by decide) ?_
  refine x_istore d_Q_sumOver_3 (by decide) rfl ?_
  have key : ∀ (m k : Nat) (hh : xHp) (x6 : Option Value), k ≤ 81 → 81 - k < m → scr q h hh → XW Γ y_Q_sumOver b_Q_sumOver 7 (some .long) (3, 0, 0) (xQ Γ (N + 0) 0 0 Qp) 0 0 N hh 5 [some (.ref q), some (.ref 1), some (.int grp), some (.long (sumK co (fun k => powS al g grp f k a b) k)), none, some (.int (nI k)), x6] [] := by
    intro m
    induction m with
    | zero => intro k hh x6 _ h0; omega
    | succ m ih =>
      intro k hh x6 hk hkm hs
      have g3 : hh q = oQ q t (nI a) (nI b) g cn := (hs.2 q (by omega) (by omega)).trans h3
      have g4 : hh (q + 1) = aI 4 al := (hs.2 (q + 1) (by omega) (by omega)).trans h4
      have g7 : hh (q + 2) = oP (q + 2) := (hs.2 (q + 2) (by omega) (by omega)).trans h7
      have g8 : hh (q + 3) = aI 81 co := (hs.2 (q + 3) (by omega) (by omega)).trans h8
      have g1 : hh 1 = oR n := (hs.2 1 (by omega) (by omega)).trans h1
      have g2 : hh 2 = aI 108 f := (hs.2 2 (by omega) (by omega)).trans h2
      obtain ⟨⟨ra, rb, g5, g6⟩, -⟩ := id hs
      refine x_iload d_Q_sumOver_5 rfl ?_
      refine x_bipush (v := 81) d_Q_sumOver_7 (by decide) ?_
      refine x_icmp_ge 49 d_Q_sumOver_9 (by decide) (fun c1 => ?_) (fun c1 => ?_)
      · have e := nI_end (n := 81) hk (by decide) c1
        subst e
        refine x_lload_n d_Q_sumOver_49 rfl ?_
        refine x_lret d_Q_sumOver_50 ?_
        rw [← hQ]
        exact ⟨rfl, hs⟩
      · have hlt := nI_more (n := 81) hk (by decide) c1
        have hi : vp_in (nI k) 81 := vp_in_nI hlt (by decide)
        have hck : (nI k).toNatClampNeg = k := nI_clamp (by omega)
        refine x_aload_n d_Q_sumOver_12 rfl ?_
        refine x_get f_Q_18 d_Q_sumOver_13 (by omega) (by first | assumption | exact vu_s | exact vu_t (by omega) (by first | assumption | exact vu_s | exact vu_t (by omega) (by first | assumption | exact vu_s | exact vu_t (by omega) (by first | assumption | exact vu_s))) | rfl | (simp only [va_up, Nat.reduceEqDiff, ↓reduceIte]; first | rfl | assumption)) rfl ?_
        refine x_iload d_Q_sumOver_16 rfl ?_
        refine x_cVe (c_P_at (by omega) g7 g8 hi) k_Q_72 v_P_at d_Q_sumOver_18 rfl (by omega) (by first | assumption | exact vu_s | exact vu_t (by omega) (by first | assumption | exact vu_s | exact vu_t (by omega) (by first | assumption | exact vu_s | exact vu_t (by omega) (by first | assumption | exact vu_s))) | rfl | (simp only [va_up, Nat.reduceEqDiff, ↓reduceIte]; first | rfl | assumption)) rfl (by omega) (Nat.le_of_ble_eq_true rfl) ?_
        rw [hck]
        refine x_istore d_Q_sumOver_21 (by decide) rfl ?_
        refine x_iload d_Q_sumOver_23 rfl ?_
        refine x_if_eq 43 d_Q_sumOver_25 (by decide) (fun c2 => ?_) (fun c2 => ?_)
        · refine x_iinc1 d_Q_sumOver_43 rfl (by decide) rfl ?_
          refine x_goto 5 d_Q_sumOver_46 (by decide) ?_
          rw [nI_1]
          have := ih (k + 1) hh (some (.int (co k))) (by omega) (by omega) hs
          rw [show sumK co (fun k => powS al g grp f k a b) (k + 1) = sumK co (fun k => powS al g grp f k a b) k by simp [sumK, c2]] at this
          exact this
        · refine x_lload_n d_Q_sumOver_28 rfl ?_
          refine x_iload d_Q_sumOver_29 rfl ?_
          refine x_i2l d_Q_sumOver_31 ?_
          refine x_aload_n d_Q_sumOver_32 rfl ?_
          refine x_aload_n d_Q_sumOver_33 rfl ?_
          refine x_iload d_Q_sumOver_34 rfl ?_
          refine x_iload_n d_Q_sumOver_36 rfl ?_
          refine x_cV (c_Q_sumOfPowers hN hq hq2 hab hb hlt g1 g2 g3 g4 g5 g6) k_Q_75 v_Q_sumOfPowers d_Q_sumOver_37 rfl (by omega) (by first | assumption | exact vu_s | exact vu_t (by omega) (by first | assumption | exact vu_s | exact vu_t (by omega) (by first | assumption | exact vu_s | exact vu_t (by omega) (by first | assumption | exact vu_s))) | rfl | (simp only [va_up, Nat.reduceEqDiff, ↓reduceIte]; first | rfl | assumption)) rfl (by omega) (Nat.le_of_ble_eq_true rfl) ?_
          rintro r h' ⟨rfl, hs'⟩
          refine x_lmul d_Q_sumOver_40 ?_
          refine x_ladd d_Q_sumOver_41 ?_
          refine x_lstore_n d_Q_sumOver_42 (by decide) rfl ?_
          refine x_iinc1 d_Q_sumOver_43 rfl (by decide) rfl ?_
          refine x_goto 5 d_Q_sumOver_46 (by decide) ?_
          rw [nI_1]
          have := ih (k + 1) h' (some (.int (co k))) (by omega) (by omega) (hs.tr hs')
          rw [show sumK co (fun k => powS al g grp f k a b) (k + 1) = sumK co (fun k => powS al g grp f k a b) k + (co k).toInt64 * powS al g grp f k a b by simp [sumK, c2]] at this
          exact this
  exact key 82 0 h none (by omega) (by omega) (scr.rf h5 h6)
set_option maxRecDepth 100000 in
set_option maxHeartbeats 4000000 in
theorem c_Q_answerFor {N : Nat} {h : xHp} {q : Nat} {n t g cn grp : Int32} {f al co : Nat → Int32} {ra0 rb0 : Nat → Int64} {a b : Nat} (hN : 94 ≤ N) (hq : q + 5 < N) (hq2 : 5 < q) (hab : a ≤ b) (hb : b < 3) (h1 : h 1 = oR n) (h2 : h 2 = aI 108 f) (h3 : h q = oQ q t (nI a) (nI b) g cn) (h4 : h (q + 1) = aI 4 al) (h7 : h (q + 2) = oP (q + 2)) (h8 : h (q + 3) = aI 81 co) (h5 : h (q + 4) = aL 6 ra0) (h6 : h (q + 5) = aL 6 rb0) : XM y_Q_answerFor b_Q_answerFor 3 (some .long) 4 0 0 [.ref q, .ref 1, .int grp] N h (fun r h' => r = some (.long (if g = -2 then (if grp = 0 then ansC al g (-1) f co a b else 0) else ansC al g grp f co a b)) ∧ scr q h h') := by
  refine xM_intro [some (.ref q), some (.ref 1), some (.int grp)] (by decide) (fun _ => rfl) (fun _ => Nat.le_of_ble_eq_true rfl) (fun Γ => ?_)
  refine x_aload_n d_Q_answerFor_0 rfl ?_
  refine x_get f_Q_50 d_Q_answerFor_1 (by omega) (by first | assumption | exact vu_s | exact vu_t (by omega) (by first | assumption | exact vu_s | exact vu_t (by omega) (by first | assumption | exact vu_s | exact vu_t (by omega) (by first | assumption | exact vu_s))) | rfl | (simp only [va_up, Nat.reduceEqDiff, ↓reduceIte]; first | rfl | assumption)) rfl ?_
  refine x_bipush (v := -2) d_Q_answerFor_4 (by decide) ?_
  refine x_icmp_ne 24 d_Q_answerFor_6 (by decide) (fun c1 => ?_) (fun c1 => ?_)
  · refine x_aload_n d_Q_answerFor_24 rfl ?_
    refine x_aload_n d_Q_answerFor_25 rfl ?_
    refine x_iload_n d_Q_answerFor_26 rfl ?_
    refine x_cV (c_Q_sumOver hN hq hq2 hab hb h1 h2 h3 h4 h7 h8 h5 h6) k_Q_68 v_Q_sumOver d_Q_answerFor_27 rfl (by omega) (by first | assumption | exact vu_s | exact vu_t (by omega) (by first | assumption | exact vu_s | exact vu_t (by omega) (by first | assumption | exact vu_s | exact vu_t (by omega) (by first | assumption | exact vu_s))) | rfl | (simp only [va_up, Nat.reduceEqDiff, ↓reduceIte]; first | rfl | assumption)) rfl (by omega) (Nat.le_of_ble_eq_true rfl) ?_
    rintro r h' ⟨rfl, hs'⟩
    refine x_lret d_Q_answerFor_30 ?_
    exact ⟨by rw [if_neg c1], hs'⟩
  · refine x_iload_n d_Q_answerFor_9 rfl ?_
    refine x_if_ne 22 d_Q_answerFor_10 (by decide) (fun c2 => ?_) (fun c2 => ?_)
    · refine x_lconst (v := 0) d_Q_answerFor_22 (by decide) ?_
      refine x_lret d_Q_answerFor_23 ?_
      exact ⟨by rw [if_pos c1, if_neg c2], scr.rf h5 h6⟩
    · refine x_aload_n d_Q_answerFor_13 rfl ?_
      refine x_aload_n d_Q_answerFor_14 rfl ?_
      refine x_iconst (v := -1) d_Q_answerFor_15 (by decide) ?_
      refine x_cV (c_Q_sumOver hN hq hq2 hab hb h1 h2 h3 h4 h7 h8 h5 h6) k_Q_68 v_Q_sumOver d_Q_answerFor_16 rfl (by omega) (by first | assumption | exact vu_s | exact vu_t (by omega) (by first | assumption | exact vu_s | exact vu_t (by omega) (by first | assumption | exact vu_s | exact vu_t (by omega) (by first | assumption | exact vu_s))) | rfl | (simp only [va_up, Nat.reduceEqDiff, ↓reduceIte]; first | rfl | assumption)) rfl (by omega) (Nat.le_of_ble_eq_true rfl) ?_
      rintro r h' ⟨rfl, hs'⟩
      refine x_goto 23 d_Q_answerFor_19 (by decide) ?_
      refine x_lret d_Q_answerFor_23 ?_
      exact ⟨by rw [if_pos c1, if_pos c2], hs'⟩
