/-! Pure: the conditions and the group alike. -/
/-- the conditions that were read are of the chain's columns, with a relation and a digit -/
def kC (a b : Nat) (C : CS) (k : Nat) : Prop := ∀ j, j < k → ∃ x y z, a ≤ x ∧ x ≤ b + 1 ∧ y < 128 ∧ z < 10 ∧ C.1 j = nI x ∧ C.2.1 j = nI y ∧ C.2.2 j = nI z
def wC (C : CS) (j : Nat) : Nat := (cnD C j).toNatClampNeg
theorem wC_v {C : CS} {j x y z : Nat} (hx : x < 4) (hy : y < 128) (hz : z < 10) (e1 : C.1 j = nI x) (e2 : C.2.1 j = nI y) (e3 : C.2.2 j = nI z) : cnD C j = nI ((x * 128 + y) * 16 + z) ∧ wC C j = (x * 128 + y) * 16 + z := by
  have h1 : cnD C j = nI ((x * 128 + y) * 16 + z) := by
    rw [cnD, e1, e2, e3, show (128 : Int32) = nI 128 from rfl, show (16 : Int32) = nI 16 from rfl, pk_mul, nI_add, pk_mul, nI_add]
  refine ⟨h1, ?_⟩
  rw [wC, h1, nI_clamp (by omega)]
theorem alF_cg {u v : Nat → Nat} : ∀ k, (∀ j, j < k → u j = v j) → alF u k = alF v k
  | 0, _ => rfl
  | k + 1, h => by rw [alF, alF, alF_cg k (fun j hj => h j (by omega)), h k (by omega)]
theorem alF_o {a b : Nat} {C : CS} (hb : b < 3) : ∀ k, kC a b C k → ∀ c, (c < a ∨ b + 1 < c) → alF (wC C) k c = 63
  | 0, _, c, _ => rfl
  | k + 1, h, c, hc => by
    obtain ⟨x, y, z, h1, h2, h3, h4, e1, e2, e3⟩ := h k (by omega)
    have w := (wC_v (by omega) h3 h4 e1 e2 e3).2
    rw [alF]
    simp only [upd]
    rw [if_neg (by rw [w]; omega)]
    exact alF_o hb k (fun j hj => h j (by omega)) c hc
/-- one sign of a state that wants one -/
theorem one_w {f : Nat → Int32} {n i : Nat} {σ : GS} {X : Int32 → Bool} {nx : Int32 → GS} (hi : i ≤ n) (hW : gW σ = false) (hX : X (-1) = false) (hg : ∀ c, gTake σ c = if X c then some (nx c) else none) : (X (at1 f n i) = false → gFl n (gRun f (n - i) σ i) = nI (min i n)) ∧ (X (at1 f n i) = true → i < n ∧ gRun f (n - i) σ i = gRun f (n - (i + 1)) (nx (at1 f n i)) (i + 1)) := by
  rcases Nat.lt_or_ge i n with h | h
  · have e1 : at1 f n i = f i := if_pos h
    obtain ⟨k, hk⟩ : ∃ k, n - i = k + 1 := ⟨n - i - 1, by omega⟩
    rw [e1, hk, show n - (i + 1) = k by omega]
    refine ⟨fun e => ?_, fun e => ⟨h, ?_⟩⟩
    · rw [gRun_n (by rw [hg, if_neg (by rw [e]; decide)]), Nat.min_eq_left hi]
      rfl
    · rw [gRun_s (by rw [hg, if_pos e])]
  · have : i = n := by omega
    subst this
    have e1 : at1 f i i = -1 := if_neg (Nat.lt_irrefl _)
    rw [e1]
    refine ⟨fun _ => ?_, fun e => by rw [hX] at e; cases e⟩
    rw [Nat.sub_self, gRun, Nat.min_self]
    show (if gW σ = true then (-2 : Int32) else nI i) = _
    rw [hW]
    rfl
theorem rlM_i (c : Int32) : rlM c = true ↔ (c = 61 ∨ c = 35 ∨ c = 60 ∨ c = 62) := by
  simp only [rlM, Bool.or_eq_true, decide_eq_true_eq, or_assoc]
theorem rlM_n {c : Int32} (h : rlM c = true) : ∃ y, y < 128 ∧ c = nI y := by
  rcases (rlM_i c).mp h with e | e | e | e
  · exact ⟨61, by decide, e⟩
  · exact ⟨35, by decide, e⟩
  · exact ⟨60, by decide, e⟩
  · exact ⟨62, by decide, e⟩
theorem dig_n {c : Int32} (h : isDig c = true) : ∃ z, z < 10 ∧ c - 48 = nI z ∧ c = nI (z + 48) := by
  rw [isDig, Bool.and_eq_true, decide_eq_true_eq, decide_eq_true_eq] at h
  have h1 := Int32.le_iff_toInt_le.mp h.1
  have h2 := Int32.le_iff_toInt_le.mp h.2
  rw [show (48 : Int32).toInt = 48 from rfl] at h1
  rw [show (57 : Int32).toInt = 57 from rfl] at h2
  obtain ⟨z, hz⟩ : ∃ z : Nat, c.toInt = z + 48 := ⟨(c.toInt - 48).toNat, by omega⟩
  have e : c = nI (z + 48) := Int32.toInt_inj.mp (by rw [nI_toInt (by omega), hz]; omega)
  refine ⟨z, by omega, ?_, e⟩
  rw [e, show (48 : Int32) = nI 48 from rfl, nI_sb (by omega), Nat.add_sub_cancel]
theorem cc_n {a b : Nat} (hab : a ≤ b) (hb : b < 3) {c : Int32} (h : isCC (nI a) (nI b) c = true) : ∃ x, a ≤ x ∧ x ≤ b + 1 ∧ colOf c = nI x := by
  rw [isCC, Bool.and_eq_true, decide_eq_true_eq, decide_eq_true_eq] at h
  rcases col_c c with e | ⟨i, hi, e⟩
  · rw [e] at h
    have := has_m a (by omega)
    simp only [decide_eq_false_iff_not] at this
    exact absurd h.1 this
  · rw [e, nI_1] at h
    exact ⟨i, (nI_leI (by omega) (by omega)).mp h.1, (nI_leI (by omega) (by omega)).mp h.2, e⟩
section WF
variable {f : Nat → Int32} {n a b : Nat}
theorem rdQ_w (hab : a ≤ b) (hb : b < 3) : ∀ m p k C s cc ck gr al, n < p + 4 * m → p ≤ n → (s = 7 ∨ (s = 3 ∧ (at1 f n p = 63 ∨ at1 f n p = 47 ∨ p = n))) → kC a b C k → (∀ j, j < 4 → al j = alF (wC C) k j) →
    ((rdQ f n (nI (chN a (b + 1))) m p k C).1 = false → gFl n (gRun f (n - p) (s, nI a, nI b, 0, 0, cc, ck, nI k, gr, al) p) = nI (rdQ f n (nI (chN a (b + 1))) m p k C).2.1) ∧
    ((rdQ f n (nI (chN a (b + 1))) m p k C).1 = true → p ≤ (rdQ f n (nI (chN a (b + 1))) m p k C).2.1 ∧ (rdQ f n (nI (chN a (b + 1))) m p k C).2.1 ≤ n ∧ ¬ at1 f n (rdQ f n (nI (chN a (b + 1))) m p k C).2.1 = 63 ∧ kC a b (rdQ f n (nI (chN a (b + 1))) m p k C).2.2.2 (rdQ f n (nI (chN a (b + 1))) m p k C).2.2.1 ∧ ∃ s' cc' ck' al', (s' = 7 ∨ (s' = 3 ∧ (at1 f n (rdQ f n (nI (chN a (b + 1))) m p k C).2.1 = 47 ∨ (rdQ f n (nI (chN a (b + 1))) m p k C).2.1 = n))) ∧ (∀ j, j < 4 → al' j = alF (wC (rdQ f n (nI (chN a (b + 1))) m p k C).2.2.2) (rdQ f n (nI (chN a (b + 1))) m p k C).2.2.1 j) ∧ gRun f (n - p) (s, nI a, nI b, 0, 0, cc, ck, nI k, gr, al) p = gRun f (n - (rdQ f n (nI (chN a (b + 1))) m p k C).2.1) (s', nI a, nI b, 0, 0, cc', ck', nI (rdQ f n (nI (chN a (b + 1))) m p k C).2.2.1, gr, al') (rdQ f n (nI (chN a (b + 1))) m p k C).2.1)
  | 0, p, k, C, s, cc, ck, gr, al, hm, hp, hs, hk, hl => by omega
  | m + 1, p, k, C, s, cc, ck, gr, al, hm, hp, hs, hk, hl => by
    rw [rdQ]
    by_cases c0 : at1 f n p = 63
    · rw [if_pos c0, has_w hab hb]
      have hlt : p < n := by
        rcases Nat.lt_or_ge p n with h | h
        · exact h
        · rw [at1, if_neg (by omega)] at c0
          exact absurd c0 (by decide)
      have c0' : f p = 63 := by rwa [at1, if_pos hlt] at c0
      have g0 : gTake (s, nI a, nI b, 0, 0, cc, ck, nI k, gr, al) (f p) = some (4, nI a, nI b, 0, 0, cc, ck, nI k, gr, al) := by
        rcases hs with rfl | ⟨rfl, -⟩
        · show gTail (7, nI a, nI b, 0, 0, cc, ck, nI k, gr, al) (f p) = _
          rw [c0', gTail, if_pos rfl]
        · show gAfter (3, nI a, nI b, 0, 0, cc, ck, nI k, gr, al) (f p) = _
          rw [c0', gAfter, if_neg (by decide), if_pos rfl, gTail, if_pos rfl]
      obtain ⟨q, hq⟩ : ∃ q, n - p = q + 1 := ⟨n - p - 1, by omega⟩
      rw [hq, gRun_s g0, show q = n - (p + 1) by omega]
      have w1 := one_w (f := f) (n := n) (i := p + 1) (σ := (4, nI a, nI b, 0, 0, cc, ck, nI k, gr, al)) (X := isCC (nI a) (nI b)) (nx := fun c => (5, nI a, nI b, 0, 0, colOf c, ck, nI k, gr, al)) (by omega) rfl (cc_m (by omega) _) (fun c => rfl)
      by_cases c1 : isCC (nI a) (nI b) (at1 f n (p + 1)) = false
      · rw [if_pos c1]
        exact ⟨fun _ => w1.1 c1, fun h => by cases h⟩
      · rw [if_neg c1]
        have c1' : isCC (nI a) (nI b) (at1 f n (p + 1)) = true := by simpa using c1
        obtain ⟨l1, r1⟩ := w1.2 c1'
        rw [r1]
        have w2 := one_w (f := f) (n := n) (i := p + 1 + 1) (σ := (5, nI a, nI b, 0, 0, colOf (at1 f n (p + 1)), ck, nI k, gr, al)) (X := rlM) (nx := fun c => (6, nI a, nI b, 0, 0, colOf (at1 f n (p + 1)), c, nI k, gr, al)) (by omega) rfl (by decide) (fun c => by
          show gKind (5, nI a, nI b, 0, 0, colOf (at1 f n (p + 1)), ck, nI k, gr, al) c = _
          rw [gKind]
          by_cases e : rlM c = true
          · rw [if_pos e, if_pos ((rlM_i c).mp e)]
          · rw [if_neg e, if_neg (fun z => e ((rlM_i c).mpr z))])
        by_cases c2 : rlM (at1 f n (p + 2)) = false
        · rw [if_pos c2]
          exact ⟨fun _ => w2.1 c2, fun h => by cases h⟩
        · rw [if_neg c2]
          have c2' : rlM (at1 f n (p + 2)) = true := by simpa using c2
          obtain ⟨l2, r2⟩ := w2.2 c2'
          rw [r2]
          have w3 := one_w (f := f) (n := n) (i := p + 1 + 1 + 1) (σ := (6, nI a, nI b, 0, 0, colOf (at1 f n (p + 1)), at1 f n (p + 1 + 1), nI k, gr, al)) (X := isDig) (nx := fun c => (7, nI a, nI b, 0, 0, colOf (at1 f n (p + 1)), at1 f n (p + 1 + 1), nI k + 1, gr, upd al (colOf (at1 f n (p + 1))).toNatClampNeg (rst (al (colOf (at1 f n (p + 1))).toNatClampNeg) (at1 f n (p + 1 + 1)) (c - 48) 6))) (by omega) rfl (by decide) (fun c => rfl)
          by_cases c3 : isDig (at1 f n (p + 3)) = false
          · rw [if_pos c3]
            exact ⟨fun _ => w3.1 c3, fun h => by cases h⟩
          · rw [if_neg c3]
            have c3' : isDig (at1 f n (p + 3)) = true := by simpa using c3
            obtain ⟨l3, r3⟩ := w3.2 c3'
            rw [r3]
            obtain ⟨x, x1, x2, ex⟩ := cc_n hab hb c1'
            obtain ⟨y, y1, ey⟩ := rlM_n c2'
            obtain ⟨z, z1, ez, -⟩ := dig_n c3'
            have hC : kC a b (upd C.1 k (colOf (at1 f n (p + 1))), upd C.2.1 k (at1 f n (p + 2)), upd C.2.2 k (at1 f n (p + 3) - 48)) (k + 1) := by
              intro j hj
              by_cases e : j = k
              · subst e
                refine ⟨x, y, z, x1, x2, y1, z1, ?_, ?_, ?_⟩
                · show upd C.1 j _ j = _
                  rw [upd_s, ex]
                · show upd C.2.1 j _ j = _
                  rw [upd_s, ey]
                · show upd C.2.2 j _ j = _
                  rw [upd_s, ez]
              · obtain ⟨x, y, z, h1, h2, h3, h4, h5, h6, h7⟩ := hk j (by omega)
                refine ⟨x, y, z, h1, h2, h3, h4, ?_, ?_, ?_⟩
                · show upd C.1 k _ j = _
                  rw [upd, if_neg e, h5]
                · show upd C.2.1 k _ j = _
                  rw [upd, if_neg e, h6]
                · show upd C.2.2 k _ j = _
                  rw [upd, if_neg e, h7]
            have hw := (wC_v (C := (upd C.1 k (colOf (at1 f n (p + 1))), upd C.2.1 k (at1 f n (p + 2)), upd C.2.2 k (at1 f n (p + 3) - 48))) (j := k) (x := x) (y := y) (z := z) (by omega) y1 z1 (by show upd C.1 k _ k = _; rw [upd_s, ex]) (by show upd C.2.1 k _ k = _; rw [upd_s, ey]) (by show upd C.2.2 k _ k = _; rw [upd_s, ez])).2
            have hcg : alF (wC (upd C.1 k (colOf (at1 f n (p + 1))), upd C.2.1 k (at1 f n (p + 2)), upd C.2.2 k (at1 f n (p + 3) - 48))) k = alF (wC C) k := by
              refine alF_cg k (fun j hj => ?_)
              have e : ¬ j = k := by omega
              simp only [wC, cnD, upd, if_neg e]
            have hl' : ∀ j, j < 4 → upd al (colOf (at1 f n (p + 1))).toNatClampNeg (rst (al (colOf (at1 f n (p + 1))).toNatClampNeg) (at1 f n (p + 1 + 1)) (at1 f n (p + 1 + 1 + 1) - 48) 6) j = alF (wC (upd C.1 k (colOf (at1 f n (p + 1))), upd C.2.1 k (at1 f n (p + 2)), upd C.2.2 k (at1 f n (p + 3) - 48))) (k + 1) j := by
              intro j hj
              rw [alF, hw, hcg, ex, show p + 1 + 1 = p + 2 from rfl, show p + 2 + 1 = p + 3 from rfl, ey, ez, nI_clamp (by omega), show ((x * 128 + y) * 16 + z) / 2048 = x by omega, show ((x * 128 + y) * 16 + z) / 16 % 128 = y by omega, show ((x * 128 + y) * 16 + z) % 16 = z by omega]
              simp only [upd]
              rw [hl x (by omega)]
              by_cases e : j = x
              · rw [if_pos e, if_pos e]
              · rw [if_neg e, if_neg e]
                exact hl j hj
            have ih := rdQ_w hab hb m (p + 4) (k + 1) (upd C.1 k (colOf (at1 f n (p + 1))), upd C.2.1 k (at1 f n (p + 2)), upd C.2.2 k (at1 f n (p + 3) - 48)) 7 (colOf (at1 f n (p + 1))) (at1 f n (p + 1 + 1)) gr _ (by omega) (by omega) (Or.inl rfl) hC hl'
            rw [nI_1]
            exact ⟨ih.1, fun h => ⟨by have := (ih.2 h).1; omega, (ih.2 h).2⟩⟩
    · rw [if_neg c0]
      refine ⟨fun h => (by cases h), fun _ => ⟨Nat.le_refl _, hp, c0, hk, s, cc, ck, al, ?_, hl, rfl⟩⟩
      rcases hs with rfl | ⟨rfl, h⟩
      · exact Or.inl rfl
      · rcases h with h | h | h
        · exact absurd h c0
        · exact Or.inr ⟨rfl, Or.inl h⟩
        · exact Or.inr ⟨rfl, Or.inr h⟩
end WF
