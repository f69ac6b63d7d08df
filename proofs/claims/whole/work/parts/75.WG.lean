/-! Pure: the readers alike. -/
theorem nI_neg {k : Nat} (h : k < 2 ^ 31) : ¬ nI k = -2 := by
  intro e
  have h1 := congrArg Int32.toInt e
  rw [nI_toInt h] at h1
  have h2 : (-2 : Int32).toInt = -2 := rfl
  omega
theorem at1_l {f : Nat → Int32} {n p : Nat} (h : ¬ at1 f n p = -1) : p < n := by
  rcases Nat.lt_or_ge p n with q | q
  · exact q
  · exact absurd (if_neg (by omega)) h
/-- a whole text, as both have read it -/
def rdZ (f : Nat → Int32) (n : Nat) (S : RS) (A : Int32 × Int32 × Int32 × Int32 × RS × CS) (a b k : Nat) (τ : GS) : Prop :=
  a ≤ b ∧ b < 3 ∧ k ≤ 7 ∧ gRes gz f n = .inr τ ∧ τ.2.1 = nI a ∧ τ.2.2.1 = nI b ∧ τ.2.2.2.2.2.2.2.1 = nI k ∧ (τ.2.2.2.2.2.2.2.2.1 = -2 ∨ ∃ g, a ≤ g ∧ g ≤ b + 1 ∧ τ.2.2.2.2.2.2.2.2.1 = nI g) ∧
  A.2.1 = nI (chN a (b + 1)) ∧ A.2.2.1 = nI k ∧ A.2.2.2.1 = τ.2.2.2.2.2.2.2.2.1 ∧ kC a b A.2.2.2.2.2 k ∧ (∀ j, j < 4 → τ.2.2.2.2.2.2.2.2.2 j = alF (wC A.2.2.2.2.2) k j) ∧ b - a + 2 ≤ n ∧
  (rdE f n (nI (chN a (b + 1))) (n + 1 - (b - a + 2)) (bgS (lgS S false) 0) (b - a + 2) 0 0 true).1 = true ∧ A.2.2.2.2.1 = (rdE f n (nI (chN a (b + 1))) (n + 1 - (b - a + 2)) (bgS (lgS S false) 0) (b - a + 2) 0 0 true).2.2
theorem mn_bg (S : RS) : mnO (bgS (lgS S false) 0) = upd (mnO S) 0 0 := rfl
theorem rd_w {f : Nat → Int32} {n : Nat} (hn : n ≤ 30) (cd : Int32) (S : RS) (C : CS) : (rdA f n cd S C).1 = fltC gz f n ∧ ((rdA f n cd S C).1 = -2 → ∃ a b k τ, rdZ f n S (rdA f n cd S C) a b k τ) := by
  rw [flt_run]
  have hC := rdC_0 f n 0 0 (0, 0, 0, 0, 0, -2, fun _ => 63)
  have hCb := rdC_b f n 0 0
  have hre : gRes gz f n = gRun f n (0, 0, 0, 0, 0, 0, 0, 0, -2, fun _ => 63) 0 := gRes_0 f n
  rw [show gz = (0, 0, 0, 0, 0, 0, 0, 0, -2, fun _ => 63) from rfl]
  unfold rdA rdO rdX rdK
  generalize rdC f n 0 0 = K at hC hCb
  obtain ⟨k1, k2, k3⟩ := K
  dsimp only at hC hCb ⊢
  cases k1 with
  | false =>
    rw [if_pos rfl]
    exact ⟨(hC.1 rfl).symm, fun e => absurd e (nI_neg (by omega))⟩
  | true =>
    obtain ⟨a, b, hab, hb, rfl, rfl, hp, hr⟩ := hC.2 rfl
    rw [if_neg (by decide), hr]
    rw [hr] at hre
    clear hr hC hCb
    have hE := rdE_w (f := f) (n := n) hab hb (0, 0, 0, -2, fun _ => 63) (n + 1 - (b - a + 2)) (b - a + 2) (bgS (lgS S false) 0) 0 0 true 0 0 rfl hp (by rw [mn_bg]; exact eJ_0 _)
    have hEb := rdE_b f n (nI (chN a (b + 1))) (n + 1 - (b - a + 2)) (bgS (lgS S false) 0) (b - a + 2) 0 0 true rfl
    rw [if_pos rfl] at hE
    have hX0 : ∀ X, X = rdE f n (nI (chN a (b + 1))) (n + 1 - (b - a + 2)) (bgS (lgS S false) 0) (b - a + 2) 0 0 true → (rdE f n (nI (chN a (b + 1))) (n + 1 - (b - a + 2)) (bgS (lgS S false) 0) (b - a + 2) 0 0 true).1 = X.1 ∧ (rdE f n (nI (chN a (b + 1))) (n + 1 - (b - a + 2)) (bgS (lgS S false) 0) (b - a + 2) 0 0 true).2.2 = X.2.2 := fun X e => by rw [e]; exact ⟨rfl, rfl⟩
    generalize hX : rdE f n (nI (chN a (b + 1))) (n + 1 - (b - a + 2)) (bgS (lgS S false) 0) (b - a + 2) 0 0 true = X at hE hEb ⊢
    have hX1 := hX0 X hX.symm
    clear hX0 hX
    obtain ⟨x1, x2, x3⟩ := X
    dsimp only at hE hEb hX1 ⊢
    cases x1 with
    | false =>
      rw [if_pos rfl]
      exact ⟨(hE.1 rfl).symm, fun e => absurd e (nI_neg (by omega))⟩
    | true =>
      obtain ⟨e1, e2, e3, e4⟩ := hE.2 rfl
      rw [if_neg (by decide), e3]
      rw [e3] at hre
      clear e3 hE hEb
      have hQ := rdQ_w (f := f) (n := n) hab hb 31 x2 0 C 3 0 0 (-2) (fun _ => 63) (by omega) e2 (Or.inr ⟨rfl, e4⟩) (fun j hj => absurd hj (by omega)) (fun j hj => rfl)
      have hQb := rdQ_b f n (nI (chN a (b + 1))) 31 x2 0 C
      have hQk := rdQ_k f n (nI (chN a (b + 1))) 31 x2 0 C (by omega) e2
      rw [show nI 0 = 0 from rfl] at hQ
      generalize rdQ f n (nI (chN a (b + 1))) 31 x2 0 C = Y at hQ hQb hQk ⊢
      obtain ⟨y1, y2, y3, y4⟩ := Y
      dsimp only at hQ hQb hQk ⊢
      cases y1 with
      | false =>
        rw [if_pos rfl]
        exact ⟨(hQ.1 rfl).symm, fun e => absurd e (nI_neg (by omega))⟩
      | true =>
        obtain ⟨q1, q2, q3, q4, s', cc', ck', al', q5, q6, q7⟩ := hQ.2 rfl
        rw [if_neg (by decide), q7]
        rw [q7] at hre
        clear q7 hQ hQb
        by_cases c1 : at1 f n y2 = 47
        · rw [if_pos c1, has_w hab hb]
          have hlt : y2 < n := at1_l (by rw [c1]; decide)
          have c1' : f y2 = 47 := by rwa [at1, if_pos hlt] at c1
          have g0 : gTake (s', nI a, nI b, 0, 0, cc', ck', nI y3, -2, al') (f y2) = some (8, nI a, nI b, 0, 0, cc', ck', nI y3, -2, al') := by
            rcases q5 with rfl | ⟨rfl, -⟩
            · show gTail (7, nI a, nI b, 0, 0, cc', ck', nI y3, -2, al') (f y2) = _
              rw [c1', gTail, if_neg (by decide), if_pos rfl]
            · show gAfter (3, nI a, nI b, 0, 0, cc', ck', nI y3, -2, al') (f y2) = _
              rw [c1', gAfter, if_neg (by decide), if_pos rfl, gTail, if_neg (by decide), if_pos rfl]
          obtain ⟨q, hq⟩ : ∃ q, n - y2 = q + 1 := ⟨n - y2 - 1, by omega⟩
          rw [hq, gRun_s g0, show q = n - (y2 + 1) by omega] at hre ⊢
          have w1 := one_w (f := f) (n := n) (i := y2 + 1) (σ := (8, nI a, nI b, 0, 0, cc', ck', nI y3, -2, al')) (X := isCC (nI a) (nI b)) (nx := fun c => (9, nI a, nI b, 0, 0, cc', ck', nI y3, colOf c, al')) (by omega) rfl (cc_m (by omega) _) (fun c => rfl)
          by_cases c2 : isCC (nI a) (nI b) (at1 f n (y2 + 1)) = false
          · rw [if_pos c2]
            exact ⟨(w1.1 c2).symm, fun e => absurd e (nI_neg (by omega))⟩
          · rw [if_neg c2]
            have c2' : isCC (nI a) (nI b) (at1 f n (y2 + 1)) = true := by simpa using c2
            obtain ⟨l1, r1⟩ := w1.2 c2'
            rw [r1] at hre ⊢
            rw [show y2 + 1 + 1 = y2 + 2 from rfl] at hre ⊢
            by_cases c3 : y2 + 2 < n
            · rw [if_pos c3]
              obtain ⟨q', hq'⟩ : ∃ q', n - (y2 + 2) = q' + 1 := ⟨n - (y2 + 2) - 1, by omega⟩
              rw [hq', gRun_n rfl]
              exact ⟨rfl, fun e => absurd e (nI_neg (by omega))⟩
            · have : n - (y2 + 2) = 0 := by omega
              rw [this, gRun] at hre
              rw [if_neg c3, this, gRun]
              refine ⟨rfl, fun _ => ⟨a, b, y3, _, hab, hb, by omega, hre, rfl, rfl, rfl, Or.inr ?_, rfl, rfl, rfl, q4, q6, hp, hX1.1, hX1.2.symm⟩⟩
              exact cc_n hab hb c2'
        · rw [if_neg c1]
          rcases Nat.lt_or_ge y2 n with h | h
          · rw [if_pos h]
            have hs : s' = 7 := by
              rcases q5 with e | ⟨-, e | e⟩
              · exact e
              · exact absurd e c1
              · omega
            subst hs
            obtain ⟨q, hq⟩ : ∃ q, n - y2 = q + 1 := ⟨n - y2 - 1, by omega⟩
            have e0 : at1 f n y2 = f y2 := if_pos h
            rw [e0] at q3 c1
            rw [hq, gRun_n (by
              show gTail (7, nI a, nI b, 0, 0, cc', ck', nI y3, -2, al') (f y2) = _
              rw [gTail, if_neg q3, if_neg c1])]
            exact ⟨rfl, fun e => absurd e (nI_neg (by omega))⟩
          · have : n - y2 = 0 := by omega
            rw [this, gRun] at hre
            rw [if_neg (by omega), this, gRun]
            refine ⟨?_, fun _ => ⟨a, b, y3, _, hab, hb, by omega, hre, rfl, rfl, rfl, Or.inl rfl, rfl, rfl, rfl, q4, q6, hp, hX1.1, hX1.2.symm⟩⟩
            rcases q5 with rfl | ⟨rfl, -⟩ <;> rfl
