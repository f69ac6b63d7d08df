/-! Pure: the first factor; simple factors turned. -/
theorem fit_0 : ∀ j, j < 81 → pfit 0 j = true := by decide +kernel
theorem AF_1 (G : Po) : AF (pNum 1) G := by
  intro i j hi hj a _
  have : i = 0 := by
    by_cases e : i = 0
    · exact e
    · exact absurd (show pNum 1 i = 0 by simp only [pNum, upd, if_neg e]; rfl) a
  subst this
  exact fit_0 j hj
theorem mul_1 (G : Po) : pe (pMul (pNum 1) G) G := by
  intro k hk
  rw [pMul_d, sI_1 (k := 0) 81 (by decide), sI_1 (k := k) 81 hk]
  · rw [if_pos (by omega), show pNum 1 0 = 1 from rfl, Int32.one_mul]
  · intro j _ hne
    rw [if_neg (by omega)]
  · intro i _ hne
    refine sI_z 81 (fun j _ => ?_)
    rw [show pNum 1 i = 0 by simp only [pNum, upd, if_neg hne]; rfl, Int32.zero_mul, ite_self]
theorem rho_cp : ∀ c, c < 4 → rho (cp c) = mp c ∧ rho (mp c) = cp c := by decide
