/-! Pure: the chain's columns alike. -/
theorem col_c (c : Int32) : colOf c = -1 ∨ ∃ i, i < 4 ∧ colOf c = nI i := by
  by_cases h : 65 ≤ c ∧ c ≤ 68
  · have h1 := Int32.le_iff_toInt_le.mp h.1
    have h2 := Int32.le_iff_toInt_le.mp h.2
    have e : c.toInt = 65 ∨ c.toInt = 66 ∨ c.toInt = 67 ∨ c.toInt = 68 := by
      rw [show (65 : Int32).toInt = 65 from rfl] at h1
      rw [show (68 : Int32).toInt = 68 from rfl] at h2
      omega
    right
    rcases e with e | e | e | e
    · have : c = 65 := Int32.toInt_inj.mp e
      exact ⟨0, by decide, by rw [this]; decide⟩
    · have : c = 66 := Int32.toInt_inj.mp e
      exact ⟨1, by decide, by rw [this]; decide⟩
    · have : c = 67 := Int32.toInt_inj.mp e
      exact ⟨2, by decide, by rw [this]; decide⟩
    · have : c = 68 := Int32.toInt_inj.mp e
      exact ⟨3, by decide, by rw [this]; decide⟩
  · left
    rw [colOf, if_neg h]
theorem has_t : ∀ b, b < 3 → ∀ a, a ≤ b → ∀ i, i < 4 → (decide (nI a ≤ nI i) && decide (nI i ≤ nI b + 1)) = (decide (0 ≤ nI i) && decide (colsM (nI (chN a (b + 1))) >>> (nI i &&& 31) &&& 1 = 1)) := by decide +kernel
theorem has_m : ∀ a, a < 3 → decide (nI a ≤ -1) = false := by decide
theorem has_w {a b : Nat} (hab : a ≤ b) (hb : b < 3) (c : Int32) : hasM (nI (chN a (b + 1))) c = isCC (nI a) (nI b) c := by
  rw [hasM, isCC]
  rcases col_c c with e | ⟨i, hi, e⟩
  · rw [e, has_m a (by omega), Bool.false_and, show decide ((0 : Int32) ≤ -1) = false from rfl, Bool.false_and]
  · rw [e, has_t b hb a hab i hi]
