/-! Evaluator: the model of its reading; what of a polynomial counts (places below 81). -/
abbrev Po : Type := Nat → Int32
def pe (f g : Po) : Prop := ∀ j, j < 81 → f j = g j
theorem pe.rf (f : Po) : pe f f := fun _ _ => rfl
theorem pe.sy {f g : Po} (h : pe f g) : pe g f := fun j hj => (h j hj).symm
theorem pe.tr {f g k : Po} (h : pe f g) (h2 : pe g k) : pe f k := fun j hj => (h j hj).trans (h2 j hj)
theorem filN_pe {f g : Po} : ∀ n, (∀ j, j < n → f j = g j) → filN f n = filN g n
  | 0, _ => rfl
  | n + 1, h => by simp only [filN, filN_pe n (fun j hj => h j (by omega)), h n (by omega)]
theorem lgT_pe {f g : Po} : ∀ n, (∀ j, j < n → f j = g j) → lgT f n = lgT g n
  | 0, _ => rfl
  | n + 1, h => by simp only [lgT, lgT_pe n (fun j hj => h j (by omega)), h n (by omega)]
theorem isLg_pe {f g : Po} (h : pe f g) : isLg f = isLg g := by unfold isLg; rw [filN_pe 81 h, lgT_pe 81 h]
theorem AF_pe {l l' r r' : Po} (hl : pe l l') (hr : pe r r') (h : AF l r) : AF l' r' := by
  intro i j hi hj h1 h2
  rw [← hl i hi] at h1
  rw [← hr j hj] at h2
  exact h i j hi hj h1 h2
theorem pin_pe {l l' r r' F F' : Po} (hl : pe l l') (hr : pe r r') (hF : pe F F') {i : Nat} (hi : i < 81) : ∀ n, n ≤ 81 → pe (pin l r i n F) (pin l' r' i n F')
  | 0, _ => hF
  | n + 1, hn => by
    have ih := pin_pe hl hr hF hi n (by omega)
    intro k hk
    simp only [pin]
    rw [hr n (by omega)]
    by_cases e : r' n = 0
    · rw [if_pos e, if_pos e]
      exact ih k hk
    · rw [if_neg e, if_neg e]
      by_cases e2 : k = i + n
      · subst e2
        simp only [upd, if_true]
        rw [ih (i + n) hk, hl i hi]
      · simp only [upd, if_neg e2]
        exact ih k hk
theorem pout_pe {l l' r r' F F' : Po} (hl : pe l l') (hr : pe r r') (hF : pe F F') : ∀ n, n ≤ 81 → pe (pout l r F n) (pout l' r' F' n)
  | 0, _ => hF
  | n + 1, hn => by
    have ih := pout_pe hl hr hF n (by omega)
    intro k hk
    simp only [pout]
    rw [hl n (by omega)]
    by_cases e : l' n = 0
    · rw [if_pos e, if_pos e]
      exact ih k hk
    · rw [if_neg e, if_neg e]
      exact pin_pe hl hr ih (by omega) 81 (Nat.le_refl _) k hk
def pZ : Po := fun _ => 0
def pNum (v : Int32) : Po := upd pZ 0 v
def pCol (c : Nat) : Po := upd pZ (cp c) 1
def pNeg (f : Po) : Po := fun j => -f j
def pAdd (f g : Po) (t : Int32) : Po := fun j => f j + t * g j
def pMul (l r : Po) : Po := pout l r pZ 81
noncomputable def afB (l r : Po) : Bool := @decide (AF l r) (Classical.propDecidable _)
theorem afB_t {l r : Po} (h : AF l r) : afB l r = true := @decide_eq_true _ (Classical.propDecidable _) h
theorem afB_f {l r : Po} (h : ¬ AF l r) : afB l r = false := @decide_eq_false _ (Classical.propDecidable _) h
/-- the sign at a place -/
def tx (f : Nat → Int32) (n : Nat) (p : Int32) : Int32 := if 0 ≤ p ∧ p < nI n then f p.toNatClampNeg else 0
abbrev Rd : Type := Int32 → Option (Po × Int32)
def eFac (f : Nat → Int32) (n : Nat) (S F : Rd) : Rd := fun p =>
  if tx f n p = 40 then (S (p + 1)).map (fun q => (q.1, q.2 + 1))
  else if tx f n p = 45 then (F (p + 1)).map (fun q => (pNeg q.1, q.2))
  else if tx f n p |> colOf |> (· < 0) then some (pNum (tx f n p - 48), p + 1) else some (pCol (colOf (tx f n p)).toNatClampNeg, p + 1)
noncomputable def eProd (f : Nat → Int32) (n : Nat) (fac : Rd) : Nat → Po → Rd
  | 0, _, _ => none
  | m + 1, P, p => match fac p with
    | none => none
    | some (G, q) => if afB P G && !isLg (pMul P G) then (if tx f n q = 42 then eProd f n fac m (pMul P G) (q + 1) else some (pMul P G, q)) else none
noncomputable def eSum (f : Nat → Int32) (n : Nat) (fac : Rd) : Nat → Po → Int32 → Rd
  | 0, _, _, _ => none
  | m + 1, S, t, p => match eProd f n fac 30 (pNum 1) p with
    | none => none
    | some (P, q) => if isLg (pAdd S P t) then none else if tx f n q = 43 then eSum f n fac m (pAdd S P t) 1 (q + 1) else if tx f n q = 45 then eSum f n fac m (pAdd S P t) (-1) (q + 1) else some (pAdd S P t, q)
/-- with d levels left: sum and factor -/
noncomputable def eLev (f : Nat → Int32) (n : Nat) : Nat → Rd × Rd
  | 0 => (fun _ => none, fun _ => none)
  | d + 1 => (fun p => eSum f n (eFac f n (eLev f n d).1 (eLev f n d).2) 30 (pNum 0) 1 p, eFac f n (eLev f n d).1 (eLev f n d).2)
/-! The evaluator's cells: object 9, arrays 10, 11, 12, spare 13 and 14; level l: sums 15 + 6 l, products 17 + 6 l, factors 19 + 6 l, coefficients one behind. -/
abbrev aR (t n : Nat) (s : Nat → Option Nat) : xE := .inl (t, n, .inr (.inr (.inr (.inr s))))
abbrev oE (p : Int32) : xE := .inr (4, [.ref 10, .ref 11, .ref 12, .ref 13, .int p])
def eSt (h : xHp) (p : Int32) : Prop := h 9 = oE p ∧ (∃ s, h 10 = aR 4 9 s ∧ ∀ l, l < 9 → s l = some (15 + 6 * l)) ∧ (∃ s, h 11 = aR 4 9 s ∧ ∀ l, l < 9 → s l = some (17 + 6 * l)) ∧ (∃ s, h 12 = aR 4 9 s ∧ ∀ l, l < 9 → s l = some (19 + 6 * l)) ∧ ∀ k, 13 ≤ k → k ≤ 67 → k % 2 = 1 → h k = oP k ∧ ∃ g, h (k + 1) = aI 81 g
/-- only the place, the spare's and some even cells from b on differ -/
def eFr (b : Nat) (h h' : xHp) : Prop := ∀ k, k ≠ 9 → k ≠ 14 → ¬ (b ≤ k ∧ k ≤ 68 ∧ k % 2 = 0) → h' k = h k
theorem eFr.rf (b : Nat) (h : xHp) : eFr b h h := fun _ _ _ _ => rfl
theorem eFr.tr {b c : Nat} {h h1 h2 : xHp} (hbc : b ≤ c) (a : eFr b h h1) (a2 : eFr c h1 h2) : eFr b h h2 := fun k e1 e2 e3 => (a2 k e1 e2 (fun z => e3 ⟨by omega, z.2⟩)).trans (a k e1 e2 e3)
theorem eFr.mo {b c : Nat} {h h1 : xHp} (hbc : b ≤ c) (a : eFr c h h1) : eFr b h h1 := fun k e1 e2 e3 => a k e1 e2 (fun z => e3 ⟨by omega, z.2⟩)
theorem eFr.up {b k : Nat} {h h1 : xHp} {e : xE} (a : eFr b h h1) (hk : k = 9 ∨ k = 14 ∨ (b ≤ k ∧ k ≤ 68 ∧ k % 2 = 0)) : eFr b h (va_up h1 k e) := by
  intro j e1 e2 e3
  have hj : j ≠ k := by
    intro z
    subst z
    rcases hk with z | z | z
    · exact e1 z
    · exact e2 z
    · exact e3 z
  rw [vu_n hj]
  exact a j e1 e2 e3
theorem eSt.up {h : xHp} {p : Int32} {k : Nat} {g : Nat → Int32} (a : eSt h p) (hk : 14 ≤ k) (hk2 : k ≤ 68) (hk3 : k % 2 = 0) : eSt (va_up h k (aI 81 g)) p := by
  obtain ⟨a1, ⟨s1, a2, a2'⟩, ⟨s2, a3, a3'⟩, ⟨s3, a4, a4'⟩, a5⟩ := a
  refine ⟨vu_t (by omega) a1, ⟨s1, vu_t (by omega) a2, a2'⟩, ⟨s2, vu_t (by omega) a3, a3'⟩, ⟨s3, vu_t (by omega) a4, a4'⟩, fun j h1 h2 h3 => ⟨vu_t (by omega) (a5 j h1 h2 h3).1, ?_⟩⟩
  by_cases e : j + 1 = k
  · subst e
    exact ⟨g, vu_s⟩
  · obtain ⟨g', hg'⟩ := (a5 j h1 h2 h3).2
    exact ⟨g', vu_t e hg'⟩
theorem eSt.pl {h : xHp} {p q : Int32} (a : eSt h p) : eSt (va_up h 9 (oE q)) q := by
  obtain ⟨a1, ⟨s1, a2, a2'⟩, ⟨s2, a3, a3'⟩, ⟨s3, a4, a4'⟩, a5⟩ := a
  refine ⟨vu_s, ⟨s1, vu_t (by omega) a2, a2'⟩, ⟨s2, vu_t (by omega) a3, a3'⟩, ⟨s3, vu_t (by omega) a4, a4'⟩, fun j h1 h2 h3 => ⟨vu_t (by omega) (a5 j h1 h2 h3).1, ?_⟩⟩
  obtain ⟨g', hg'⟩ := (a5 j h1 h2 h3).2
  exact ⟨g', vu_t (by omega) hg'⟩
/-- the text's cells -/
def tSt (h : xHp) (f : Nat → Int32) (n : Nat) : Prop := h 5 = .inr (2, [.ref 6, .int (nI n)]) ∧ h 6 = .inl (1, 30, .inl f)
theorem tSt.fr {h h' : xHp} {f : Nat → Int32} {n b : Nat} (a : tSt h f n) (e : eFr b h h') (hb : 10 ≤ b) : tSt h' f n := ⟨(e 5 (by decide) (by decide) (by omega)).trans a.1, (e 6 (by decide) (by decide) (by omega)).trans a.2⟩
/-- what a reading method answers: cell c has the polynomial -/
def eOut (c : Nat) (h : xHp) (o : Option (Po × Int32)) : Option Value → xHp → Prop := fun r h' => ∃ p', eSt h' p' ∧ eFr c h h' ∧ match o with
  | none => r = some (.int 0)
  | some q => r = some (.int 1) ∧ p' = q.2 ∧ ∃ g, h' c = aI 81 g ∧ pe g q.1
