/-! Pure: large alike; no product of small ones is 0. -/
theorem fil_s (f : Po) : ∀ n, nI (filN f n) = sI (fun i => if f i = 0 then 0 else 1) n
  | 0 => rfl
  | n + 1 => by
    rw [filN, sI, ← fil_s f n]
    by_cases e : f n = 0
    · rw [if_pos e, if_pos e, Int32.add_zero]
      rfl
    · rw [if_neg e, if_neg e, nI_1]
theorem fil_w {a b : Po} (h : pr a b) : filN a 81 = filN b 81 := by
  have e : nI (filN a 81) = nI (filN b 81) := by
    rw [fil_s, fil_s, ← sI_rho]
    refine sI_cg 81 (fun i hi => ?_)
    rw [h i hi]
  have h1 := filN_le a 81
  have h2 := filN_le b 81
  exact (nI_inj (by omega) (by omega)).mp e
theorem lgT_i (f : Po) : ∀ n, lgT f n = true ↔ ∃ i, i < n ∧ (1000 < f i ∨ f i < -1000)
  | 0 => by
    simp [lgT]
  | n + 1 => by
    rw [lgT_s, Bool.or_eq_true, lgT_i f n, Bool.or_eq_true, decide_eq_true_eq, decide_eq_true_eq]
    constructor
    · rintro (⟨i, a, b⟩ | h)
      · exact ⟨i, by omega, b⟩
      · exact ⟨n, by omega, h⟩
    · rintro ⟨i, a, b⟩
      rcases Nat.lt_or_ge i n with q | q
      · exact Or.inl ⟨i, q, b⟩
      · have : i = n := by omega
        subst this
        exact Or.inr b
theorem lgT_w {a b : Po} (h : pr a b) : lgT a 81 = lgT b 81 := by
  rw [Bool.eq_iff_iff, lgT_i, lgT_i]
  constructor
  · rintro ⟨i, hi, e⟩
    refine ⟨rho i, rho_lt i hi, ?_⟩
    rw [← h _ (rho_lt i hi), rho_rho i hi]
    exact e
  · rintro ⟨i, hi, e⟩
    exact ⟨rho i, rho_lt i hi, by rw [h i hi]; exact e⟩
theorem isLg_w {a b : Po} (h : pr a b) : isLg a = isLg b := by
  unfold isLg
  rw [fil_w h, lgT_w h]
theorem sml {f : Po} (h : isLg f = false) {i : Nat} (hi : i < 81) : -1000 ≤ (f i).toInt ∧ (f i).toInt ≤ 1000 := by
  have h2 : ¬ lgT f 81 = true := by
    intro e
    rw [isLg, e] at h
    exact absurd h (by simp)
  rw [lgT_i] at h2
  constructor
  · rcases Int.lt_or_le (f i).toInt (-1000) with q | q
    · exact absurd ⟨i, hi, Or.inr (Int32.lt_iff_toInt_lt.mpr q)⟩ h2
    · exact q
  · rcases Int.lt_or_le 1000 (f i).toInt with q | q
    · exact absurd ⟨i, hi, Or.inl (Int32.lt_iff_toInt_lt.mpr q)⟩ h2
    · exact q
theorem mul_nz {a b : Int32} (ha : -1000 ≤ a.toInt ∧ a.toInt ≤ 1000) (hb : -1000 ≤ b.toInt ∧ b.toInt ≤ 1000) (h1 : ¬ a = 0) (h2 : ¬ b = 0) : ¬ a * b = 0 := by
  intro e
  have e1 : (a * b).toInt = 0 := by rw [e]; rfl
  rw [Int32.toInt_mul] at e1
  have z1 : a.toInt ≠ 0 := fun z => h1 (Int32.toInt_inj.mp (z.trans rfl))
  have z2 : b.toInt ≠ 0 := fun z => h2 (Int32.toInt_inj.mp (z.trans rfl))
  have p1 : a.toInt * b.toInt ≤ 1000000 := by
    have : (1000 - a.toInt) * (1000 + b.toInt) ≥ 0 := Int.mul_nonneg (by omega) (by omega)
    have : (1000 + a.toInt) * (1000 - b.toInt) ≥ 0 := Int.mul_nonneg (by omega) (by omega)
    grind
  have p2 : -1000000 ≤ a.toInt * b.toInt := by
    have : (1000 - a.toInt) * (1000 - b.toInt) ≥ 0 := Int.mul_nonneg (by omega) (by omega)
    have : (1000 + a.toInt) * (1000 + b.toInt) ≥ 0 := Int.mul_nonneg (by omega) (by omega)
    grind
  have p3 : a.toInt * b.toInt ≠ 0 := Int.mul_ne_zero z1 z2
  generalize a.toInt * b.toInt = t at e1 p1 p2 p3
  rw [Int.bmod_eq_of_le (by omega) (by omega)] at e1
  exact p3 e1
theorem out_AF {l r l' r' : Po} (hl : pr l' l) (hr : pr r' r) (h1 : isLg l' = false) (h2 : isLg r' = false) : outW (pwd l' r' 6561) ↔ ¬ AF l r := by
  rw [← AF_w hl hr]
  constructor
  · intro h q
    exact out_n q h
  · intro h
    exact out_y (fun i j hi hj a b => mul_nz (sml h1 hi) (sml h2 hj) a b) h
