/-! Grammar, pure: what of the state counts; the chain. -/
/-- the states are alike: what differs is never looked at -/
def gEq (σ τ : GS) : Prop := σ.1 = τ.1 ∧ σ.2.1 = τ.2.1 ∧ σ.2.2.1 = τ.2.2.1 ∧ σ.2.2.2.1 = τ.2.2.2.1 ∧ σ.2.2.2.2.1 = τ.2.2.2.2.1 ∧ σ.2.2.2.2.2.2.2.1 = τ.2.2.2.2.2.2.2.1 ∧ σ.2.2.2.2.2.2.2.2.1 = τ.2.2.2.2.2.2.2.2.1 ∧ (∀ j, j < 4 → σ.2.2.2.2.2.2.2.2.2 j = τ.2.2.2.2.2.2.2.2.2 j) ∧ (σ.1 = 5 ∨ σ.1 = 6 → σ.2.2.2.2.2.1 = τ.2.2.2.2.2.1) ∧ (σ.1 = 6 → σ.2.2.2.2.2.2.1 = τ.2.2.2.2.2.2.1)
def gJ (σ : GS) : Prop := ∃ a b : Nat, σ.2.1 = nI a ∧ σ.2.2.1 = nI b ∧ a ≤ b ∧ b < 3
theorem relOf_n {c : Int32} (h : 0 ≤ relOf c) : ∃ a : Nat, a < 3 ∧ relOf c = nI a := by
  refine i_of (n := 3) (by decide) h ?_
  unfold relOf
  split
  · rename_i e
    have a1 := Int32.le_iff_toInt_le.mp e.1
    have a2 := Int32.le_iff_toInt_le.mp e.2
    have b1 : (82 : Int32).toInt = 82 := rfl
    have b2 : (84 : Int32).toInt = 84 := rfl
    refine Int32.lt_iff_toInt_lt.mpr ?_
    have a3 : (c - 82).toInt = c.toInt - 82 := by
      rw [Int32.toInt_sub, b1]
      apply Int.bmod_eq_of_le
      · omega
      · omega
    rw [a3]
    have b3 : (nI 3).toInt = 3 := rfl
    omega
  · decide
theorem gEq_mk {s : Nat} {fi la : Int32} {op : Nat} {bt cc ck cn gr cc' ck' : Int32} {al al' : Nat → Int32} (e8 : ∀ j, j < 4 → al j = al' j) (h5 : s = 5 ∨ s = 6 → cc = cc') (h6 : s = 6 → ck = ck') : gEq (s, fi, la, op, bt, cc, ck, cn, gr, al) (s, fi, la, op, bt, cc', ck', cn, gr, al') := ⟨rfl, rfl, rfl, rfl, rfl, rfl, rfl, e8, h5, h6⟩
/-- both fail, or both go on alike -/
def gBoth (o o' : Option GS) : Prop := (o = none ∧ o' = none) ∨ ∃ σ τ, o = some σ ∧ o' = some τ ∧ gEq σ τ
theorem gBoth.n : gBoth none none := Or.inl ⟨rfl, rfl⟩
theorem gBoth.s {σ τ : GS} (e : gEq σ τ) : gBoth (some σ) (some τ) := Or.inr ⟨σ, τ, rfl, rfl, e⟩
theorem gBoth.i {c : Prop} [Decidable c] {a b a' b' : Option GS} (h1 : c → gBoth a a') (h2 : ¬ c → gBoth b b') : gBoth (if c then a else b) (if c then a' else b') := by
  by_cases h : c
  · rw [if_pos h, if_pos h]; exact h1 h
  · rw [if_neg h, if_neg h]; exact h2 h
section GB
variable {s : Nat} {fi la : Int32} {op : Nat} {bt cc ck cn gr cc' ck' : Int32} {al al' : Nat → Int32} {c : Int32}
theorem gTail_b (e8 : ∀ j, j < 4 → al j = al' j) : gBoth (gTail (s, fi, la, op, bt, cc, ck, cn, gr, al) c) (gTail (s, fi, la, op, bt, cc', ck', cn, gr, al') c) := gBoth.i (fun _ => gBoth.s (gEq_mk e8 (fun z => by omega) (fun z => by omega))) (fun _ => gBoth.i (fun _ => gBoth.s (gEq_mk e8 (fun z => by omega) (fun z => by omega))) (fun _ => gBoth.n))
theorem gCh0_b (e8 : ∀ j, j < 4 → al j = al' j) : gBoth (gCh0 (0, fi, la, op, bt, cc, ck, cn, gr, al) c) (gCh0 (0, fi, la, op, bt, cc', ck', cn, gr, al') c) := gBoth.i (fun _ => gBoth.s (gEq_mk e8 (fun z => by omega) (fun z => by omega))) (fun _ => gBoth.n)
theorem gCh1_b (e8 : ∀ j, j < 4 → al j = al' j) : gBoth (gCh1 (1, fi, la, op, bt, cc, ck, cn, gr, al) c) (gCh1 (1, fi, la, op, bt, cc', ck', cn, gr, al') c) := gBoth.i (fun _ => gBoth.s (gEq_mk e8 (fun z => by omega) (fun z => by omega))) (fun _ => gBoth.i (fun _ => gBoth.s (gEq_mk e8 (fun z => by omega) (fun z => by omega))) (fun _ => gBoth.n))
theorem gFactor_b (e8 : ∀ j, j < 4 → al j = al' j) : gBoth (gFactor (2, fi, la, op, bt, cc, ck, cn, gr, al) c) (gFactor (2, fi, la, op, bt, cc', ck', cn, gr, al') c) := gBoth.i (fun _ => gBoth.i (fun _ => gBoth.s (gEq_mk e8 (fun z => by omega) (fun z => by omega))) (fun _ => gBoth.n)) (fun _ => gBoth.i (fun _ => gBoth.s (gEq_mk e8 (fun z => by omega) (fun z => by omega))) (fun _ => gBoth.n))
theorem gAfter_b (e8 : ∀ j, j < 4 → al j = al' j) : gBoth (gAfter (3, fi, la, op, bt, cc, ck, cn, gr, al) c) (gAfter (3, fi, la, op, bt, cc', ck', cn, gr, al') c) := gBoth.i (fun _ => gBoth.s (gEq_mk e8 (fun z => by omega) (fun z => by omega))) (fun _ => gBoth.i (fun _ => gTail_b e8) (fun _ => gBoth.i (fun _ => gBoth.s (gEq_mk e8 (fun z => by omega) (fun z => by omega))) (fun _ => gBoth.n)))
theorem gCol_b (e8 : ∀ j, j < 4 → al j = al' j) : gBoth (gCol (4, fi, la, op, bt, cc, ck, cn, gr, al) c) (gCol (4, fi, la, op, bt, cc', ck', cn, gr, al') c) := gBoth.i (fun _ => gBoth.s (gEq_mk e8 (fun _ => rfl) (fun z => by omega))) (fun _ => gBoth.n)
theorem gKind_b (e8 : ∀ j, j < 4 → al j = al' j) (e9 : cc = cc') : gBoth (gKind (5, fi, la, op, bt, cc, ck, cn, gr, al) c) (gKind (5, fi, la, op, bt, cc', ck', cn, gr, al') c) := gBoth.i (fun _ => gBoth.s (gEq_mk e8 (fun _ => e9) (fun _ => rfl))) (fun _ => gBoth.n)
theorem gDig_b (i3 : vp_in cc 4) (e8 : ∀ j, j < 4 → al j = al' j) : gBoth (gDig (6, fi, la, op, bt, cc, ck, cn, gr, al) c) (gDig (6, fi, la, op, bt, cc, ck, cn, gr, al') c) := by
  refine gBoth.i (fun _ => gBoth.s (gEq_mk ?_ (fun z => by omega) (fun z => by omega))) (fun _ => gBoth.n)
  intro j hj
  obtain ⟨k, hk, ek⟩ := vp_in_of i3 (by decide)
  have e11 : cc.toNatClampNeg < 4 := by rw [ek, nI_clamp (by omega)]; exact hk
  rw [e8 _ e11]
  unfold upd
  by_cases h : j = cc.toNatClampNeg
  · rw [if_pos h, if_pos h]
  · rw [if_neg h, if_neg h]; exact e8 j hj
theorem gGrp_b (e8 : ∀ j, j < 4 → al j = al' j) : gBoth (gGrp (8, fi, la, op, bt, cc, ck, cn, gr, al) c) (gGrp (8, fi, la, op, bt, cc', ck', cn, gr, al') c) := gBoth.i (fun _ => gBoth.s (gEq_mk e8 (fun z => by omega) (fun z => by omega))) (fun _ => gBoth.n)
end GB
theorem gTake_eq {σ τ : GS} {c : Int32} (hI : gI σ) (e : gEq σ τ) : gBoth (gTake σ c) (gTake τ c) := by
  obtain ⟨s, fi, la, op, bt, cc, ck, cn, gr, al⟩ := σ
  obtain ⟨s', fi', la', op', bt', cc', ck', cn', gr', al'⟩ := τ
  obtain ⟨e1, e2, e3, e4, e5, e6, e7, e8, e9, e10⟩ := e
  obtain ⟨i1, i2, i3, -⟩ := hI
  dsimp only at e1 e2 e3 e4 e5 e6 e7 e8 e9 e10 i1 i3
  subst e1 e2 e3 e4 e5 e6 e7
  rcases (show s = 0 ∨ s = 1 ∨ s = 2 ∨ s = 3 ∨ s = 4 ∨ s = 5 ∨ s = 6 ∨ s = 7 ∨ s = 8 ∨ s = 9 by omega) with rfl | rfl | rfl | rfl | rfl | rfl | rfl | rfl | rfl | rfl
  · exact gCh0_b (fi := fi) (la := la) e8
  · exact gCh1_b e8
  · exact gFactor_b e8
  · exact gAfter_b e8
  · exact gCol_b (cc := cc) (cc' := cc') e8
  · exact gKind_b (ck := ck) (ck' := ck') e8 (e9 (Or.inl rfl))
  · obtain rfl := e9 (Or.inr rfl)
    obtain rfl := e10 rfl
    exact gDig_b i3 e8
  · exact gTail_b (s := 7) e8
  · exact gGrp_b (gr := gr) e8
  · exact gBoth.n
/-- a start of one's own -/
def gz : GS := (0, 0, 0, 0, 0, 0, 0, 0, -2, fun _ => 63)
theorem gz_eq (σ : GS) : gEq (g0 σ) gz := by
  unfold g0 gz
  exact gEq_mk (fun j hj => by simp [filF, hj]) (fun z => by omega) (fun z => by omega)
theorem g0_I {σ : GS} (h : vp_in σ.2.2.2.2.2.1 4) : gI (g0 σ) := ⟨by show 0 ≤ 9; decide, by show 0 ≤ 8; decide, h, by show (0 : Int32) ≤ 0; decide⟩
theorem gRes_eq {σ τ : GS} {f : Nat → Int32} (hI : gI σ) (e : gEq σ τ) : ∀ n, (∃ k, gRes σ f n = .inl k ∧ gRes τ f n = .inl k) ∨ ∃ σ' τ', gRes σ f n = .inr σ' ∧ gRes τ f n = .inr τ' ∧ gEq σ' τ' ∧ gI σ'
  | 0 => Or.inr ⟨σ, τ, rfl, rfl, e, hI⟩
  | n + 1 => by
    rcases gRes_eq (f := f) hI e n with ⟨k, h1, h2⟩ | ⟨σ', τ', h1, h2, h3, h4⟩
    · exact Or.inl ⟨k, by simp only [gRes, h1], by simp only [gRes, h2]⟩
    · rcases gTake_eq (c := f n) h4 h3 with ⟨z1, z2⟩ | ⟨σ2, τ2, z1, z2, z3⟩
      · exact Or.inl ⟨n, by simp only [gRes, h1, z1], by simp only [gRes, h2, z2]⟩
      · exact Or.inr ⟨σ2, τ2, by simp only [gRes, h1, z1], by simp only [gRes, h2, z2], z3, gTake_I h4 z1⟩
theorem gW_eq {σ τ : GS} (e : gEq σ τ) : gW σ = gW τ := by
  unfold gW
  rw [e.1, e.2.2.2.1]
theorem fltC_eq {σ : GS} {f : Nat → Int32} {n : Nat} (h : vp_in σ.2.2.2.2.2.1 4) : fltC (g0 σ) f n = fltC gz f n := by
  unfold fltC
  rcases gRes_eq (f := f) (g0_I h) (gz_eq σ) n with ⟨k, h1, h2⟩ | ⟨σ', τ', h1, h2, h3, -⟩
  · rw [h1, h2]
  · rw [h1, h2]
    dsimp only
    rw [gW_eq h3]
theorem gTail_J {σ σ' : GS} {c : Int32} (hJ : gJ σ) (h : gTail σ c = some σ') : gJ σ' := by
  obtain ⟨s, t⟩ := σ
  unfold gTail at h
  dsimp only at h
  split at h
  · cases h
    exact hJ
  · split at h
    · cases h
      exact hJ
    · cases h
theorem gTake_J {σ σ' : GS} {c : Int32} (hI : gI σ) (hJ : gJ σ) (h : gTake σ c = some σ') : gJ σ' := by
  obtain ⟨s, fi, la, op, bt, cc, ck, cn, gr, al⟩ := σ
  have i1' : s ≤ 9 := hI.1
  rcases (show s = 0 ∨ s = 1 ∨ s = 2 ∨ s = 3 ∨ s = 4 ∨ s = 5 ∨ s = 6 ∨ s = 7 ∨ s = 8 ∨ s = 9 by omega) with rfl | rfl | rfl | rfl | rfl | rfl | rfl | rfl | rfl | rfl
  · have h : gCh0 (0, fi, la, op, bt, cc, ck, cn, gr, al) c = some σ' := h
    unfold gCh0 at h
    dsimp only at h
    split at h
    · rename_i e
      obtain ⟨k, hk, ek⟩ := relOf_n e
      cases h
      exact ⟨k, k, ek, ek, Nat.le_refl _, hk⟩
    · cases h
  · have h : gCh1 (1, fi, la, op, bt, cc, ck, cn, gr, al) c = some σ' := h
    unfold gCh1 at h
    dsimp only at h
    split at h
    · cases h
      exact hJ
    · split at h
      · rename_i e1 e2
        obtain ⟨a, b, h1, h2, h3, h4⟩ := hJ
        have h2' : la = nI b := h2
        rw [h2'] at e2
        have e3 : 0 ≤ relOf c := by rw [e2, nI_1]; exact nI_pos' (by omega)
        obtain ⟨k, hk, ek⟩ := relOf_n e3
        rw [ek, nI_1] at e2
        have e4 := (nI_eq (by omega) (by omega)).mp e2
        cases h
        exact ⟨a, b + 1, h1, by show la + 1 = _; rw [h2']; exact nI_1 b, by omega, by omega⟩
      · cases h
  · have h : gFactor (2, fi, la, op, bt, cc, ck, cn, gr, al) c = some σ' := h
    unfold gFactor at h
    dsimp only at h
    split at h
    · split at h
      · cases h
        exact hJ
      · cases h
    · split at h
      · cases h
        exact hJ
      · cases h
  · have h : gAfter (3, fi, la, op, bt, cc, ck, cn, gr, al) c = some σ' := h
    unfold gAfter at h
    dsimp only at h
    split at h
    · cases h
      exact hJ
    · split at h
      · exact gTail_J (σ := (3, fi, la, op, bt, cc, ck, cn, gr, al)) hJ h
      · split at h
        · cases h
          exact hJ
        · cases h
  · have h : gCol (4, fi, la, op, bt, cc, ck, cn, gr, al) c = some σ' := h
    unfold gCol at h
    dsimp only at h
    split at h
    · cases h
      exact hJ
    · cases h
  · have h : gKind (5, fi, la, op, bt, cc, ck, cn, gr, al) c = some σ' := h
    unfold gKind at h
    dsimp only at h
    split at h
    · cases h
      exact hJ
    · cases h
  · have h : gDig (6, fi, la, op, bt, cc, ck, cn, gr, al) c = some σ' := h
    unfold gDig at h
    dsimp only at h
    split at h
    · cases h
      exact hJ
    · cases h
  · exact gTail_J (σ := (7, fi, la, op, bt, cc, ck, cn, gr, al)) hJ h
  · have h : gGrp (8, fi, la, op, bt, cc, ck, cn, gr, al) c = some σ' := h
    unfold gGrp at h
    dsimp only at h
    split at h
    · cases h
      exact hJ
    · cases h
  · cases h
theorem gRes_J {σ : GS} {f : Nat → Int32} (hI : gI σ) (hJ : gJ σ) : ∀ n σ', gRes σ f n = .inr σ' → gJ σ' ∧ gI σ'
  | 0, σ', h => by
    cases h
    exact ⟨hJ, hI⟩
  | n + 1, σ', h => by
    simp only [gRes] at h
    split at h
    · cases h
    · rename_i τ hτ
      split at h
      · cases h
      · rename_i τ' hτ'
        cases h
        obtain ⟨z1, z2⟩ := gRes_J hI hJ n τ hτ
        exact ⟨gTake_J z2 z1 hτ', gTake_I z2 hτ'⟩
