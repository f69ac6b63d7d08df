/-! Pure: the answers alike. -/
theorem ans_w {al : Nat → Int32} {g grp grp' : Int32} {f : Nat → Int32} {co co' : Po} {cd : Nat → Nat} {n a b : Nat} {all : Bool} (hab : a ≤ b) (hb : b < 3) (h : pr co' co) (hs : ∀ k, k < 81 → ¬ co k = 0 → ∀ c, c < 4 → (c < a ∨ b + 1 < c) → pw k c = 0) (hH : ∀ j, j < 1296 → spM (chN a (b + 1)) (ofN j 0) (ofN j 1) (ofN j 2) (ofN j 3) = false → (((all || decide (g < 0) || decide (nI (ofN j g.toNatClampNeg) = grp)) && metM cd j n) = true ↔ ∀ c, a ≤ c → c ≤ b + 1 → tB al g grp' c (ofN j c) = true)) : colM f (chN a (b + 1), g, n, cd, co') grp all 1296 = ansC al g grp' f co a b := by
  rw [colM_w h, ansC, sumK_s]
  refine sum6_congr 81 (fun k hk => ?_)
  by_cases e : co k = 0
  · rw [e, show (0 : Int32).toInt64 = 0 from rfl, Int64.zero_mul, Int64.zero_mul]
  · refine congrArg (fun q => (co k).toInt64 * q) ?_
    have hs' := hs k hk e
    clear hs e
    have cs : (a = 0 ∧ b = 2) ∨ (a = 0 ∧ b = 1) ∨ (a = 1 ∧ b = 2) ∨ (a = 0 ∧ b = 0) ∨ (a = 1 ∧ b = 1) ∨ (a = 2 ∧ b = 2) := by omega
    rcases cs with ⟨rfl, rfl⟩ | ⟨rfl, rfl⟩ | ⟨rfl, rfl⟩ | ⟨rfl, rfl⟩ | ⟨rfl, rfl⟩ | ⟨rfl, rfl⟩
    · refine an_02  (fun j hj sp => (hH j hj sp).trans ⟨fun q => ⟨q 0 (by decide) (by decide), q 1 (by decide) (by decide), q 2 (by decide) (by decide), q 3 (by decide) (by decide)⟩, fun q c z1 z2 => ?_⟩)
      have cc : c = 0 ∨ c = 1 ∨ c = 2 ∨ c = 3 := by omega
      rcases cc with rfl | rfl | rfl | rfl
      · exact q.1
      · exact q.2.1
      · exact q.2.2.1
      · exact q.2.2.2
    · refine an_01 (hs' 3 (by decide) (by decide)) (fun j hj sp => (hH j hj sp).trans ⟨fun q => ⟨q 0 (by decide) (by decide), q 1 (by decide) (by decide), q 2 (by decide) (by decide)⟩, fun q c z1 z2 => ?_⟩)
      have cc : c = 0 ∨ c = 1 ∨ c = 2 := by omega
      rcases cc with rfl | rfl | rfl
      · exact q.1
      · exact q.2.1
      · exact q.2.2
    · refine an_12 (hs' 0 (by decide) (by decide)) (fun j hj sp => (hH j hj sp).trans ⟨fun q => ⟨q 1 (by decide) (by decide), q 2 (by decide) (by decide), q 3 (by decide) (by decide)⟩, fun q c z1 z2 => ?_⟩)
      have cc : c = 1 ∨ c = 2 ∨ c = 3 := by omega
      rcases cc with rfl | rfl | rfl
      · exact q.1
      · exact q.2.1
      · exact q.2.2
    · refine an_00 (hs' 2 (by decide) (by decide)) (hs' 3 (by decide) (by decide)) (fun j hj sp => (hH j hj sp).trans ⟨fun q => ⟨q 0 (by decide) (by decide), q 1 (by decide) (by decide)⟩, fun q c z1 z2 => ?_⟩)
      have cc : c = 0 ∨ c = 1 := by omega
      rcases cc with rfl | rfl
      · exact q.1
      · exact q.2
    · refine an_11 (hs' 0 (by decide) (by decide)) (hs' 3 (by decide) (by decide)) (fun j hj sp => (hH j hj sp).trans ⟨fun q => ⟨q 1 (by decide) (by decide), q 2 (by decide) (by decide)⟩, fun q c z1 z2 => ?_⟩)
      have cc : c = 1 ∨ c = 2 := by omega
      rcases cc with rfl | rfl
      · exact q.1
      · exact q.2
    · refine an_22 (hs' 0 (by decide) (by decide)) (hs' 1 (by decide) (by decide)) (fun j hj sp => (hH j hj sp).trans ⟨fun q => ⟨q 2 (by decide) (by decide), q 3 (by decide) (by decide)⟩, fun q c z1 z2 => ?_⟩)
      have cc : c = 2 ∨ c = 3 := by omega
      rcases cc with rfl | rfl
      · exact q.1
      · exact q.2
