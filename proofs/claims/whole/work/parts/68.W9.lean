/-! Pure: the allowed values of a column are those that meet its conditions. -/
theorem clr_b : ∀ A, A < 64 → ∀ u, u < 6 → ∃ B, B < 64 ∧ nI A &&& (((1 : Int32) <<< (nI u &&& 31)) ^^^ (-1)) = nI B := by decide +kernel
theorem clr_v : ∀ A, A < 64 → ∀ u, u < 6 → ∀ v, v < 6 → aOK (nI A &&& (((1 : Int32) <<< (nI u &&& 31)) ^^^ (-1))) v = (aOK (nI A) v && !decide (v = u)) := by decide +kernel
theorem all_v : ∀ v, v < 6 → aOK 63 v = true := by decide
theorem rst_w (kind d : Int32) {A : Nat} (hA : A < 64) : ∀ m, m ≤ 6 → ∃ B, B < 64 ∧ rst (nI A) kind d m = nI B ∧ ∀ v, v < 6 → aOK (nI B) v = (aOK (nI A) v && (decide (m ≤ v) || meetsB v kind d))
  | 0, _ => ⟨A, hA, rfl, fun v _ => by simp⟩
  | m + 1, hm => by
    obtain ⟨B, hB, e, h⟩ := rst_w kind d hA m (by omega)
    rw [rst, e]
    by_cases q : meetsB m kind d = true
    · refine ⟨B, hB, by rw [if_pos q], fun v hv => ?_⟩
      rw [h v hv]
      by_cases z : v = m
      · subst z
        rw [q]
        simp
      · rw [show decide (m ≤ v) = decide (m + 1 ≤ v) from decide_eq_decide.mpr (by omega)]
    · obtain ⟨B', hB', e'⟩ := clr_b B hB m (by omega)
      refine ⟨B', hB', by rw [if_neg q, e'], fun v hv => ?_⟩
      rw [← e', clr_v B hB m (by omega) v hv, h v hv]
      by_cases z : v = m
      · subst z
        rw [show meetsB v kind d = false by simpa using q]
        simp
      · rw [show decide (m ≤ v) = decide (m + 1 ≤ v) from decide_eq_decide.mpr (by omega)]
        simp [z]
theorem rst_6 (kind d : Int32) {A : Nat} (hA : A < 64) : ∃ B, B < 64 ∧ rst (nI A) kind d 6 = nI B ∧ ∀ v, v < 6 → aOK (nI B) v = (aOK (nI A) v && meetsB v kind d) := by
  obtain ⟨B, hB, e, h⟩ := rst_w kind d hA 6 (by omega)
  refine ⟨B, hB, e, fun v hv => ?_⟩
  rw [h v hv, decide_eq_false (show ¬ 6 ≤ v by omega), Bool.false_or]
