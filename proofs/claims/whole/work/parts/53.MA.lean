/-! The reference: readExpression. -/
def sN (mu : Nat → Nat) : Nat → Nat
  | 0 => 0
  | k + 1 => sN mu k + mu k
theorem sN_cg {a b : Nat → Nat} : ∀ k, (∀ j, j < k → a j = b j) → sN a k = sN b k
  | 0, _ => rfl
  | k + 1, h => by rw [sN, sN, sN_cg k (fun j hj => h j (by omega)), h k (by omega)]
theorem nI_sb {a b : Nat} (h : b ≤ a) : nI a - nI b = nI (a - b) := by
  obtain ⟨c, rfl⟩ : ∃ c, a = c + b := ⟨a - b, by omega⟩
  rw [← nI_add, Int32.add_sub_cancel, show c + b - b = c by omega]
theorem nI_dn {a : Nat} (h : 0 < a) : nI a + -1 = nI (a - 1) := by
  have := nI_sb (a := a) (b := 1) h
  rw [← this, Int32.sub_eq_add_neg]
  rfl
/-- the depth and the open signs fit -/
def rJ (mn : Nat → Int32) (d : Nat) (o : Int32) (w : Bool) : Prop := ∃ mu : Nat → Nat, (∀ j, j ≤ d → mn j = nI (mu j)) ∧ o = nI (d + sN mu (d + 1)) ∧ d + sN mu (d + 1) ≤ 8 ∧ (w = false → mu d = 0)
theorem rJ_0 (mn : Nat → Int32) : rJ (upd mn 0 0) 0 0 true := ⟨fun _ => 0, fun j hj => by
  have : j = 0 := by omega
  subst this
  simp [upd]
  rfl, rfl, by decide, fun z => by cases z⟩
theorem rJ_d {mn : Nat → Int32} {d : Nat} {o : Int32} {w : Bool} (h : rJ mn d o w) : d < 9 := by
  obtain ⟨mu, _, _, a, _⟩ := h
  omega
theorem rJ_o {mn : Nat → Int32} {d : Nat} {o : Int32} {w : Bool} (h : rJ mn d o w) (h8 : o ≠ 8) : d < 8 := by
  obtain ⟨mu, _, rfl, a, _⟩ := h
  have : d + sN mu (d + 1) ≠ 8 := fun e => h8 (by rw [e]; rfl)
  omega
theorem rJ_f {mn : Nat → Int32} {d : Nat} {o : Int32} {w w' : Bool} (h : rJ mn d o w) : rJ (upd mn d 0) d (o - mn d) w' := by
  obtain ⟨mu, a, rfl, b, _⟩ := h
  have e : sN (fun j => if j = d then 0 else mu j) (d + 1) = sN mu d := by
    rw [sN, sN_cg d (fun j hj => if_neg (by omega) : ∀ j, j < d → (if j = d then 0 else mu j) = mu j)]
    simp
  refine ⟨fun j => if j = d then 0 else mu j, fun j hj => ?_, ?_, ?_, fun _ => by simp⟩
  · by_cases q : j = d
    · simp only [upd, if_pos q]; rfl
    · simp only [upd, if_neg q]; exact a j hj
  · rw [e, a d (Nat.le_refl d), sN, nI_sb (by omega)]
    congr 1
    omega
  · rw [e]
    rw [sN] at b
    omega
theorem rJ_m {mn : Nat → Int32} {d : Nat} {o : Int32} {w : Bool} (h : rJ mn d o w) (h8 : o ≠ 8) : rJ (upd mn d (mn d + 1)) d (o + 1) true := by
  obtain ⟨mu, a, rfl, b, _⟩ := h
  have h7 : d + sN mu (d + 1) ≠ 8 := fun e => h8 (by rw [e]; rfl)
  have e : sN (fun j => if j = d then mu d + 1 else mu j) (d + 1) = sN mu (d + 1) + 1 := by
    rw [sN, sN, sN_cg d (fun j hj => if_neg (by omega) : ∀ j, j < d → (if j = d then mu d + 1 else mu j) = mu j)]
    simp only [if_true]
    omega
  refine ⟨fun j => if j = d then mu d + 1 else mu j, fun j hj => ?_, ?_, ?_, fun z => by cases z⟩
  · by_cases q : j = d
    · simp only [upd, if_pos q]
      rw [a d (Nat.le_refl d), nI_1]
    · simp only [upd, if_neg q]; exact a j hj
  · rw [e, nI_1]
    rfl
  · rw [e]
    omega
theorem rJ_b {mn : Nat → Int32} {d : Nat} {o : Int32} {w : Bool} (h : rJ mn d o w) (h8 : o ≠ 8) : rJ (upd mn (d + 1) 0) (d + 1) (o + 1) true := by
  obtain ⟨mu, a, rfl, b, _⟩ := h
  have h7 : d + sN mu (d + 1) ≠ 8 := fun e => h8 (by rw [e]; rfl)
  have e : sN (fun j => if j = d + 1 then 0 else mu j) (d + 1 + 1) = sN mu (d + 1) := by
    rw [sN, sN_cg (d + 1) (fun j hj => if_neg (by omega) : ∀ j, j < d + 1 → (if j = d + 1 then 0 else mu j) = mu j)]
    simp
  refine ⟨fun j => if j = d + 1 then 0 else mu j, fun j hj => ?_, ?_, ?_, fun z => by cases z⟩
  · by_cases q : j = d + 1
    · simp only [upd, if_pos q]; rfl
    · simp only [upd, if_neg q]; exact a j (by omega)
  · rw [e, nI_1]
    congr 1
    omega
  · rw [e]
    omega
theorem rJ_w {mn : Nat → Int32} {d : Nat} {o : Int32} {w : Bool} (h : rJ mn d o w) : rJ mn d o true := by
  obtain ⟨mu, a, b, c, _⟩ := h
  exact ⟨mu, a, b, c, fun z => by cases z⟩
theorem rJ_c {mn : Nat → Int32} {d : Nat} {o : Int32} (h : rJ mn (d + 1) o false) : rJ (upd mn d 0) d (o - (1 + mn d)) false := by
  obtain ⟨mu, a, rfl, b, c⟩ := h
  have c0 := c rfl
  have e0 : sN mu (d + 1 + 1) = sN mu (d + 1) := by rw [sN, c0]; rfl
  rw [e0] at b
  have : rJ mn d (nI (d + sN mu (d + 1))) true := ⟨mu, fun j hj => a j (by omega), rfl, by omega, fun z => by cases z⟩
  have f := rJ_f (w' := false) this
  rw [e0, show nI (d + 1 + sN mu (d + 1)) - (1 + mn d) = nI (d + sN mu (d + 1)) - mn d by
    rw [show d + 1 + sN mu (d + 1) = d + sN mu (d + 1) + 1 by omega, ← nI_1, a d (by omega)]
    have : ∀ x y : Int32, x + 1 - (1 + y) = x - y := fun x y => by grind
    exact this _ _]
  exact f
/-- one minus more -/
def mnS : RS → Nat → RS
  | (sm, tm, bg, sn, mn, fa, lg), d => (sm, tm, bg, sn, upd mn d (mn d + 1), fa, lg)
def snS : RS → Nat → Int32 → RS
  | (sm, tm, bg, sn, mn, fa, lg), d, v => (sm, tm, bg, upd sn d v, mn, fa, lg)
/-- the factor gets the sum -/
def cpS : RS → Nat → RS
  | (sm, tm, bg, sn, mn, fa, lg), d => (sm, tm, bg, sn, mn, cpA (sg sm d) fa 81, lg)
abbrev mnO (S : RS) : Nat → Int32 := S.2.2.2.2.1
theorem efS_mn (S : RS) (d : Nat) : mnO (efS S d) = upd (mnO S) d 0 := by
  obtain ⟨sm, tm, bg, sn, mn, fa, lg⟩ := S
  cases lg
  · simp only [efS, Bool.false_eq_true, if_false]
    by_cases e : bg d = 0
    · rw [if_pos e]; rfl
    · rw [if_neg e]; rfl
  · rfl
/-- a place, or the place of a fault -/
def rv : Bool → Nat → Int32
  | true, p => nI p
  | false, p => -1 - nI p
def rdE (f : Nat → Int32) (n : Nat) (ca : Int32) : Nat → RS → Nat → Nat → Int32 → Bool → Bool × Nat × RS
  | 0, S, _, _, _, _ => (false, n, S)
  | m + 1, S, p, d, o, w =>
    if w then
      if isDig (if p < n then f p else -1) || hasM ca (if p < n then f p else -1) then rdE f n ca m (efS (siS S (if p < n then f p else -1)) d) (p + 1) d (o - mnO S d) false
      else if ((if p < n then f p else -1) = 40 ∨ (if p < n then f p else -1) = 45) ∧ o ≠ 8 then
        if (if p < n then f p else -1) = 45 then rdE f n ca m (mnS S d) (p + 1) d (o + 1) true
        else rdE f n ca m (bgS S (d + 1)) (p + 1) (d + 1) (o + 1) true
      else (false, p, S)
    else if (if p < n then f p else -1) = 42 then rdE f n ca m S (p + 1) d o true
    else if (if p < n then f p else -1) = 43 ∨ (if p < n then f p else -1) = 45 then rdE f n ca m (snS (etS S d) d (if (if p < n then f p else -1) = 43 then 1 else -1)) (p + 1) d o true
    else if (if p < n then f p else -1) = 41 ∧ 0 < d then rdE f n ca m (efS (cpS (etS S d) d) (d - 1)) (p + 1) (d - 1) (o - (1 + mnO S (d - 1))) false
    else if d = 0 ∧ ((if p < n then f p else -1) = 63 ∨ (if p < n then f p else -1) = 47 ∨ p = n) then (true, p, etS S 0)
    else (false, p, S)
