/-! Pure: the class's reading as a run; the chain alike. -/
def gRun (f : Nat → Int32) : Nat → GS → Nat → Nat ⊕ GS
  | 0, σ, _ => .inr σ
  | m + 1, σ, p => match gTake σ (f p) with
    | none => .inl p
    | some σ' => gRun f m σ' (p + 1)
theorem gRun_n {f : Nat → Int32} {m p : Nat} {σ : GS} (h : gTake σ (f p) = none) : gRun f (m + 1) σ p = .inl p := by
  rw [gRun, h]
theorem gRun_s {f : Nat → Int32} {m p : Nat} {σ σ' : GS} (h : gTake σ (f p) = some σ') : gRun f (m + 1) σ p = gRun f m σ' (p + 1) := by
  rw [gRun, h]
theorem gRes_run {σ0 : GS} {f : Nat → Int32} : ∀ m p σ, gRes σ0 f p = .inr σ → gRes σ0 f (p + m) = gRun f m σ p
  | 0, p, σ, h => h
  | m + 1, p, σ, h => by
    cases e : gTake σ (f p) with
    | none =>
      have h1 : gRes σ0 f (p + 1) = .inl p := by simp only [gRes, h, e]
      rw [gRun_n e]
      exact gRes_inl (by omega) h1
    | some σ' =>
      have h1 : gRes σ0 f (p + 1) = .inr σ' := by simp only [gRes, h, e]
      rw [gRun_s e, ← gRes_run m (p + 1) σ' h1]
      congr 1
      omega
/-- the answer of fault, of a run's end -/
def gFl (n : Nat) : Nat ⊕ GS → Int32
  | .inl k => nI k
  | .inr σ => if gW σ then -2 else nI n
theorem gRes_0 (f : Nat → Int32) (n : Nat) : gRes gz f n = gRun f n gz 0 := by
  have := gRes_run (f := f) n 0 gz rfl
  rwa [Nat.zero_add] at this
theorem flt_run (f : Nat → Int32) (n : Nat) : fltC gz f n = gFl n (gRun f n gz 0) := by
  rw [fltC, gRes_0]
  cases gRun f n gz 0 <;> rfl
theorem rel_c (c : Int32) : (relOf c = -1 ∧ rlB c = 0) ∨ ∃ r, r < 3 ∧ relOf c = nI r ∧ rlB c = nI (2 ^ r) := by
  by_cases h : 82 ≤ c ∧ c ≤ 84
  · have h1 := Int32.le_iff_toInt_le.mp h.1
    have h2 := Int32.le_iff_toInt_le.mp h.2
    have e : c.toInt = 82 ∨ c.toInt = 83 ∨ c.toInt = 84 := by
      rw [show (82 : Int32).toInt = 82 from rfl] at h1
      rw [show (84 : Int32).toInt = 84 from rfl] at h2
      omega
    right
    rcases e with e | e | e
    · have : c = 82 := Int32.toInt_inj.mp e
      exact ⟨0, by decide, by rw [this]; decide, by rw [this]; decide⟩
    · have : c = 83 := Int32.toInt_inj.mp e
      exact ⟨1, by decide, by rw [this]; decide, by rw [this]; decide⟩
    · have : c = 84 := Int32.toInt_inj.mp e
      exact ⟨2, by decide, by rw [this]; decide, by rw [this]; decide⟩
  · left
    refine ⟨by rw [relOf, if_neg h], ?_⟩
    have a1 : ¬ c = 82 := fun e => h (by rw [e]; decide)
    have a2 : ¬ c = 83 := fun e => h (by rw [e]; decide)
    have a3 : ¬ c = 84 := fun e => h (by rw [e]; decide)
    rw [rlB, if_neg a1, if_neg a2, if_neg a3]
theorem rel_t1 : ∀ b, b < 3 → ∀ a, a ≤ b → ∀ r, r < 3 → (decide (¬ nI (2 ^ r) = 0) && (decide (nI (chN a (b + 1)) ≤ 0) || decide (¬ nI (chN a (b + 1)) &&& (nI (2 ^ r) >>> ((1 : Int32) &&& 31)) = 0)) && decide (nI (chN a (b + 1)) < nI (2 ^ r))) = decide (r = b + 1) := by decide +kernel
theorem rel_t2 : ∀ b, b < 2 → ∀ a, a ≤ b → nI (chN a (b + 1)) ||| nI (2 ^ (b + 1)) = nI (chN a (b + 1 + 1)) := by decide +kernel
theorem rel_t4 : ∀ b, b < 3 → ∀ a, a ≤ b → ¬ nI (chN a (b + 1)) = 0 := by decide +kernel
theorem rel_t {b : Nat} (hb : b < 3) {a : Nat} (ha : a ≤ b) {r : Nat} (hr : r < 3) : ((¬ nI (2 ^ r) = 0 ∧ (nI (chN a (b + 1)) ≤ 0 ∨ ¬ nI (chN a (b + 1)) &&& (nI (2 ^ r) >>> ((1 : Int32) &&& 31)) = 0) ∧ nI (chN a (b + 1)) < nI (2 ^ r)) ↔ r = b + 1) ∧ (r = b + 1 → nI (chN a (b + 1)) ||| nI (2 ^ r) = nI (chN a (r + 1))) ∧ (nI r = nI b + 1 ↔ r = b + 1) ∧ ¬ nI (chN a (b + 1)) = 0 := by
  refine ⟨?_, fun e => ?_, ?_, rel_t4 b hb a ha⟩
  · have := rel_t1 b hb a ha r hr
    rw [Bool.eq_iff_iff, Bool.and_eq_true, Bool.and_eq_true, Bool.or_eq_true, decide_eq_true_eq, decide_eq_true_eq, decide_eq_true_eq, decide_eq_true_eq, decide_eq_true_eq, and_assoc] at this
    exact this
  · subst e
    exact rel_t2 b (by omega) a ha
  · rw [nI_1, nI_inj (by omega) (by omega)]
theorem rel_0 : ∀ r, r < 3 → ¬ nI (2 ^ r) = 0 ∧ (0 : Int32) < nI (2 ^ r) ∧ (0 : Int32) ||| nI (2 ^ r) = nI (chN r (r + 1)) ∧ (0 : Int32) ≤ nI r := by decide +kernel
theorem rel_58 : relOf 58 = -1 ∧ rlB 58 = 0 := by decide
theorem rel_m : ∀ b, b < 3 → ¬ (-1 : Int32) = nI b + 1 := by decide
theorem rdC_1 (f : Nat → Int32) (n : Nat) (t : Nat × Int32 × Int32 × Int32 × Int32 × Int32 × (Nat → Int32)) : ∀ m p a b, p + m = n → a ≤ b → b < 3 → ((rdC f m p (nI (chN a (b + 1)))).1 = false → gFl n (gRun f m (1, nI a, nI b, t) p) = nI (rdC f m p (nI (chN a (b + 1)))).2.1) ∧ ((rdC f m p (nI (chN a (b + 1)))).1 = true → ∃ b', b ≤ b' ∧ b' < 3 ∧ (rdC f m p (nI (chN a (b + 1)))).2.2 = nI (chN a (b' + 1)) ∧ (rdC f m p (nI (chN a (b + 1)))).2.1 = p + (b' - b) + 1 ∧ p + (b' - b) + 1 ≤ n ∧ gRun f m (1, nI a, nI b, t) p = gRun f (n - (p + (b' - b) + 1)) (2, nI a, nI b', t) (p + (b' - b) + 1))
  | 0, p, a, b, hm, hab, hb => by
    refine ⟨fun _ => ?_, fun h => by simp [rdC] at h⟩
    have : p = n := by omega
    subst this
    rfl
  | m + 1, p, a, b, hm, hab, hb => by
    by_cases e : f p = 58
    · have g : gTake (1, nI a, nI b, t) (f p) = some (2, nI a, nI b, t) := by
        show gCh1 (1, nI a, nI b, t) (f p) = _
        rw [gCh1, if_pos e]
      have h0 := (rel_t hb hab (show 0 < 3 by decide)).2.2.2
      rw [rdC, if_pos e, if_neg h0]
      refine ⟨fun h => by simp at h, fun _ => ⟨b, Nat.le_refl _, hb, rfl, by show p + 1 = _; omega, by omega, ?_⟩⟩
      rw [gRun_s g, show p + (b - b) + 1 = p + 1 by omega, show n - (p + 1) = m by omega]
    · rcases rel_c (f p) with ⟨e1, e2⟩ | ⟨r, hr, e1, e2⟩
      · have g : gTake (1, nI a, nI b, t) (f p) = none := by
          show gCh1 (1, nI a, nI b, t) (f p) = _
          rw [gCh1, if_neg e, e1, if_neg (rel_m b hb)]
        rw [rdC, if_neg e, e2, if_neg (fun z => z.1 rfl), gRun_n g]
        exact ⟨fun _ => rfl, fun h => by simp at h⟩
      · obtain ⟨t1, t2, t3, t4⟩ := rel_t hb hab hr
        by_cases q : r = b + 1
        · have g : gTake (1, nI a, nI b, t) (f p) = some (1, nI a, nI r, t) := by
            show gCh1 (1, nI a, nI b, t) (f p) = _
            rw [gCh1, if_neg e, e1, if_pos (t3.mpr q), ← t3.mpr q]
          rw [rdC, if_neg e, e2, if_pos (t1.mpr q), t2 q, gRun_s g]
          have ih := rdC_1 f n t m (p + 1) a r (by omega) (by omega) hr
          refine ⟨ih.1, fun h => ?_⟩
          obtain ⟨b', c1, c2, c3, c4, c5, c6⟩ := ih.2 h
          have ep : p + 1 + (b' - r) + 1 = p + (b' - b) + 1 := by omega
          rw [ep] at c4 c5 c6
          exact ⟨b', by omega, c2, c3, c4, c5, c6⟩
        · have g : gTake (1, nI a, nI b, t) (f p) = none := by
            show gCh1 (1, nI a, nI b, t) (f p) = _
            rw [gCh1, if_neg e, e1, if_neg (fun z => q (t3.mp z))]
          rw [rdC, if_neg e, e2, if_neg (fun z => q (t1.mp z)), gRun_n g]
          exact ⟨fun _ => rfl, fun h => by simp at h⟩
theorem rdC_0 (f : Nat → Int32) (n : Nat) (fi la : Int32) (t : Nat × Int32 × Int32 × Int32 × Int32 × Int32 × (Nat → Int32)) : ((rdC f n 0 0).1 = false → gFl n (gRun f n (0, fi, la, t) 0) = nI (rdC f n 0 0).2.1) ∧ ((rdC f n 0 0).1 = true → ∃ a b, a ≤ b ∧ b < 3 ∧ (rdC f n 0 0).2.2 = nI (chN a (b + 1)) ∧ (rdC f n 0 0).2.1 = b - a + 2 ∧ b - a + 2 ≤ n ∧ gRun f n (0, fi, la, t) 0 = gRun f (n - (b - a + 2)) (2, nI a, nI b, t) (b - a + 2)) := by
  cases n with
  | zero => exact ⟨fun _ => rfl, fun h => by simp [rdC] at h⟩
  | succ m =>
    rcases rel_c (f 0) with ⟨e1, e2⟩ | ⟨r, hr, e1, e2⟩
    · have g : gTake (0, fi, la, t) (f 0) = none := by
        show gCh0 (0, fi, la, t) (f 0) = _
        rw [gCh0, e1]
        rfl
      rw [gRun_n g, rdC]
      by_cases e : f 0 = 58
      · rw [if_pos e, if_pos rfl]
        exact ⟨fun _ => rfl, fun h => by simp at h⟩
      · rw [if_neg e, e2, if_neg (fun z => z.1 rfl)]
        exact ⟨fun _ => rfl, fun h => by simp at h⟩
    · obtain ⟨t1, t2, t3, t4⟩ := rel_0 r hr
      have g : gTake (0, fi, la, t) (f 0) = some (1, nI r, nI r, t) := by
        show gCh0 (0, fi, la, t) (f 0) = _
        rw [gCh0, e1, if_pos t4]
      have e : ¬ f 0 = 58 := by
        intro e
        rw [e, rel_58.2] at e2
        exact t1 e2.symm
      rw [gRun_s g, rdC, if_neg e, e2, if_pos ⟨t1, Or.inl (Int32.le_refl 0), t2⟩, t3]
      have ih := rdC_1 f (m + 1) t m (0 + 1) r r (by omega) (Nat.le_refl _) hr
      refine ⟨ih.1, fun h => ?_⟩
      obtain ⟨b', c1, c2, c3, c4, c5, c6⟩ := ih.2 h
      have ep : 0 + 1 + (b' - r) + 1 = b' - r + 2 := by omega
      rw [ep] at c4 c5 c6
      exact ⟨r, b', c1, c2, c3, c4, c5, c6⟩
