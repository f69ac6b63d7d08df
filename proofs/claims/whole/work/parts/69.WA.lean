/-! Pure: a joined row meets the conditions iff each column's value is allowed. -/
def alF (cd : Nat → Nat) : Nat → Nat → Int32
  | 0 => fun _ => 63
  | n + 1 => upd (alF cd n) (cd n / 2048) (rst (alF cd n (cd n / 2048)) (nI (cd n / 16 % 128)) (nI (cd n % 16)) 6)
theorem alF_b (cd : Nat → Nat) : ∀ n c, ∃ A, A < 64 ∧ alF cd n c = nI A
  | 0, c => ⟨63, by decide, rfl⟩
  | n + 1, c => by
    by_cases e : c = cd n / 2048
    · subst e
      obtain ⟨A, hA, h⟩ := alF_b cd n (cd n / 2048)
      obtain ⟨B, hB, h2, _⟩ := rst_6 (nI (cd n / 16 % 128)) (nI (cd n % 16)) hA
      refine ⟨B, hB, ?_⟩
      simp only [alF, upd, if_true]
      rw [h, h2]
    · obtain ⟨A, hA, h⟩ := alF_b cd n c
      refine ⟨A, hA, ?_⟩
      simp only [alF, upd, if_neg e]
      exact h
theorem alF_s (cd : Nat → Nat) (n c : Nat) {v : Nat} (hv : v < 6) : aOK (alF cd (n + 1) c) v = (aOK (alF cd n c) v && (!decide (c = cd n / 2048) || meetsB v (nI (cd n / 16 % 128)) (nI (cd n % 16)))) := by
  by_cases e : c = cd n / 2048
  · subst e
    obtain ⟨A, hA, h⟩ := alF_b cd n (cd n / 2048)
    obtain ⟨B, hB, h2, h3⟩ := rst_6 (nI (cd n / 16 % 128)) (nI (cd n % 16)) hA
    simp only [alF, upd, if_true]
    rw [h, h2, h3 v hv]
    simp
  · simp only [alF, upd, if_neg e]
    simp [e]
theorem met_w (cd : Nat → Nat) {j : Nat} (hj : j < 1296) : ∀ n, (∀ i, i < n → cd i / 2048 < 4) → (metM cd j n = true ↔ ∀ c, c < 4 → aOK (alF cd n c) (ofN j c) = true)
  | 0, _ => ⟨fun _ c _ => all_v _ (ofN_l hj c), fun _ => rfl⟩
  | n + 1, h => by
    have ih := met_w cd hj n (fun i hi => h i (by omega))
    rw [metM, Bool.and_eq_true, ih]
    constructor
    · rintro ⟨p, q⟩ c hc
      rw [alF_s cd n c (ofN_l hj c), p c hc, Bool.true_and]
      by_cases e : c = cd n / 2048
      · rw [e, q, Bool.or_true]
      · simp [e]
    · intro p
      refine ⟨fun c hc => ?_, ?_⟩
      · have := p c hc
        rw [alF_s cd n c (ofN_l hj c), Bool.and_eq_true] at this
        exact this.1
      · have := p _ (h n (by omega))
        rw [alF_s cd n _ (ofN_l hj _), Bool.and_eq_true] at this
        simpa using this.2
