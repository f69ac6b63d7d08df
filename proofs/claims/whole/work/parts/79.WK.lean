/-! Pure: the answers of a question alike. -/
section WK
variable {al : Nat → Int32} {g : Int32} {f : Nat → Int32} {co co' : Po} {w : Nat → Nat} {k a b : Nat}
theorem met_c (hal : ∀ c, c < 4 → al c = alF w k c) (ho : ∀ c, c < a ∨ b + 1 < c → alF w k c = 63) (hb : b < 3) (hw : ∀ i, i < k → w i / 2048 < 4) {j : Nat} (hj : j < 1296) : metM w j k = true ↔ ∀ c, a ≤ c → c ≤ b + 1 → aOK (al c) (ofN j c) = true := by
  rw [met_w w hj k hw]
  constructor
  · intro h c h1 h2
    rw [hal c (by omega)]
    exact h c (by omega)
  · intro h c hc
    by_cases e : a ≤ c ∧ c ≤ b + 1
    · rw [← hal c hc]
      exact h c e.1 e.2
    · rw [ho c (by omega)]
      exact all_v _ (ofN_l hj c)
theorem tB_m (c v : Nat) : tB al g (-1) c v = aOK (al c) v := by
  rw [tB, show decide (nI c = g ∧ ¬ (-1 : Int32) = -1 ∧ ¬ nI v = -1) = false from decide_eq_false (fun z => z.2.1 rfl)]
  simp
theorem tot_w (hal : ∀ c, c < 4 → al c = alF w k c) (ho : ∀ c, c < a ∨ b + 1 < c → alF w k c = 63) (hab : a ≤ b) (hb : b < 3) (hw : ∀ i, i < k → w i / 2048 < 4) (hp : pr co' co) (hk : kp a b co) {grp : Int32} {all : Bool} (hg : all = true ∨ g < 0) : colM f (chN a (b + 1), g, k, w, co') grp all 1296 = ansC al g (-1) f co a b := by
  refine ans_w hab hb hp hk (fun j hj _ => ?_)
  have e : (all || decide (g < 0) || decide (nI (ofN j g.toNatClampNeg) = grp)) = true := by
    rcases hg with h | h
    · rw [h]
      rfl
    · simp [h]
  rw [e, Bool.true_and, met_c hal ho hb hw hj]
  constructor
  · intro h c h1 h2
    rw [tB_m]
    exact h c h1 h2
  · intro h c h1 h2
    rw [← tB_m (g := g)]
    exact h c h1 h2
theorem grp_w (hal : ∀ c, c < 4 → al c = alF w k c) (ho : ∀ c, c < a ∨ b + 1 < c → alF w k c = 63) (hab : a ≤ b) (hb : b < 3) (hw : ∀ i, i < k → w i / 2048 < 4) (hp : pr co' co) (hk : kp a b co) {x grp : Nat} (hx1 : a ≤ x) (hx2 : x ≤ b + 1) (hgr : grp < 6) : colM f (chN a (b + 1), nI x, k, w, co') (nI grp) false 1296 = ansC al (nI x) (nI grp) f co a b := by
  refine ans_w hab hb hp hk (fun j hj _ => ?_)
  have m1 : ¬ nI grp = -1 := by
    intro z
    have h1 := congrArg Int32.toInt z
    rw [nI_toInt (by omega)] at h1
    have h2 : (-1 : Int32).toInt = -1 := rfl
    omega
  rw [show decide (nI x < 0) = false from decide_eq_false (nI_pos (by omega)), nI_clamp (by omega), Bool.false_or, Bool.false_or, Bool.and_eq_true, decide_eq_true_eq, met_c hal ho hb hw hj]
  have q : ∀ c, c < 4 → (tB al (nI x) (nI grp) c (ofN j c) = true ↔ aOK (al c) (ofN j c) = true ∧ (c = x → nI (ofN j c) = nI grp)) := by
    intro c hc
    rw [tB, Bool.and_eq_true, Bool.not_eq_true', decide_eq_false_iff_not]
    have ex : nI c = nI x ↔ c = x := nI_inj (by omega) (by omega)
    rw [ex]
    constructor
    · rintro ⟨h1, h2⟩
      refine ⟨h1, fun e => ?_⟩
      apply Classical.byContradiction
      intro h3
      exact h2 ⟨e, m1, h3⟩
    · rintro ⟨h1, h2⟩
      exact ⟨h1, fun h3 => h3.2.2 (h2 h3.1)⟩
  constructor
  · rintro ⟨h1, h2⟩ c c1 c2
    rw [q c (by omega)]
    refine ⟨h2 c c1 c2, fun e => ?_⟩
    subst e
    exact h1
  · intro h
    refine ⟨((q x (by omega)).mp (h x hx1 hx2)).2 rfl, fun c c1 c2 => ((q c (by omega)).mp (h c c1 c2)).1⟩
end WK
