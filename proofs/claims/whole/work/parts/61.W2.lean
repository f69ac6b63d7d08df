/-! Pure: the turned index; the class's product and the reference's. -/
def rho (k : Nat) : Nat := k % 3 * 27 + k / 3 % 3 * 9 + k / 9 % 3 * 3 + k / 27
theorem rho_lt : ∀ k, k < 81 → rho k < 81 := by decide +kernel
theorem rho_rho : ∀ k, k < 81 → rho (rho k) = k := by decide +kernel
theorem rho_ft : ∀ i, i < 81 → ∀ j, j < 81 → fitw (rho i) (rho j) = fitw i j := by decide +kernel
theorem rho_ad : ∀ i, i < 81 → ∀ j, j < 81 → fitw i j = true → rho (i + j) = rho i + rho j := by decide +kernel
theorem pfit_w : ∀ i, i < 81 → ∀ j, j < 81 → pfit i j = fitw i j := by decide +kernel
theorem rho_inj {a b : Nat} (ha : a < 81) (hb : b < 81) (h : rho a = rho b) : a = b := by
  rw [← rho_rho a ha, h, rho_rho b hb]
theorem sI_rho (F : Nat → Int32) : sI (fun i => F (rho i)) 81 = sI F 81 := by
  have e1 : sI (fun i => F (rho i)) 81 = sI (fun i => sI (fun k => if rho i = k then F k else 0) 81) 81 := by
    refine sI_cg 81 (fun i hi => ?_)
    rw [sI_1 (k := rho i) 81 (rho_lt i hi) (fun k _ hne => if_neg (fun z => hne z.symm)), if_pos rfl]
  rw [e1, sI_sw]
  refine sI_cg 81 (fun k hk => ?_)
  rw [sI_1 (k := rho k) 81 (rho_lt k hk) (fun i hi hne => if_neg (fun z => hne (by rw [← z, rho_rho i hi]))), if_pos (rho_rho k hk)]
theorem pin_d (l r : Po) (i : Nat) (F : Po) (k : Nat) : ∀ n, pin l r i n F k = F k + sI (fun j => if i + j = k then l i * r j else 0) n
  | 0 => by
    rw [sI, Int32.add_zero]
    rfl
  | n + 1 => by
    have ih := pin_d l r i F k n
    rw [pin, sI]
    by_cases e : r n = 0
    · rw [if_pos e, ih, e, Int32.mul_zero]
      by_cases q : i + n = k
      · rw [if_pos q, Int32.add_zero]
      · rw [if_neg q, Int32.add_zero]
    · rw [if_neg e]
      by_cases q : i + n = k
      · rw [if_pos q, ← Int32.add_assoc, ← ih, q]
        simp only [upd, if_true]
      · rw [if_neg q, Int32.add_zero]
        simp only [upd, if_neg (fun z : k = i + n => q z.symm)]
        exact ih
theorem pout_d (l r : Po) (F : Po) (k : Nat) : ∀ n, pout l r F n k = F k + sI (fun i => sI (fun j => if i + j = k then l i * r j else 0) 81) n
  | 0 => by
    rw [sI, Int32.add_zero]
    rfl
  | n + 1 => by
    have ih := pout_d l r F k n
    rw [pout, sI]
    by_cases e : l n = 0
    · rw [if_pos e, ih, sI_z 81 (fun j _ => by rw [e, Int32.zero_mul]; exact ite_self 0), Int32.add_zero]
    · rw [if_neg e, pin_d, ih, Int32.add_assoc]
theorem pMul_d (l r : Po) (k : Nat) : pMul l r k = sI (fun i => sI (fun j => if i + j = k then l i * r j else 0) 81) 81 := by
  rw [pMul, pout_d, show pZ k = 0 from rfl, Int32.zero_add]
/-- turned alike -/
def pr (a b : Po) : Prop := ∀ k, k < 81 → a (rho k) = b k
theorem AF_w {l r l' r' : Po} (hl : pr l' l) (hr : pr r' r) : AFw l' r' ↔ AF l r := by
  constructor
  · intro h i j hi hj a b
    rw [← hl i hi] at a
    rw [← hr j hj] at b
    rw [pfit_w i hi j hj, ← rho_ft i hi j hj]
    exact h _ _ (rho_lt i hi) (rho_lt j hj) a b
  · intro h i j hi hj a b
    have ei := rho_rho i hi
    have ej := rho_rho j hj
    rw [← ei, hl _ (rho_lt i hi)] at a
    rw [← ej, hr _ (rho_lt j hj)] at b
    have := h _ _ (rho_lt i hi) (rho_lt j hj) a b
    rw [pfit_w _ (rho_lt i hi) _ (rho_lt j hj), rho_ft i hi j hj] at this
    exact this
theorem mul_w {l r l' r' : Po} (hl : pr l' l) (hr : pr r' r) (h : AF l r) : pr (fun k => pwd l' r' 6561 (wd k)) (pMul l r) := by
  intro k hk
  show pwd l' r' 6561 (wd (rho k)) = _
  rw [pwd_d, pMul_d, ← sI_rho]
  refine sI_cg 81 (fun i hi => ?_)
  rw [← sI_rho]
  refine sI_cg 81 (fun j hj => ?_)
  rw [hl i hi, hr j hj]
  by_cases z : l i = 0
  · rw [z, Int32.zero_mul, ite_self, ite_self]
  · by_cases z2 : r j = 0
    · rw [z2, Int32.mul_zero, ite_self, ite_self]
    · have f := h i j hi hj z z2
      rw [pfit_w i hi j hj] at f
      have e : wd (rho i) + wd (rho j) = wd (rho k) ↔ i + j = k := by
        rw [w_in (rho_lt i hi) (rho_lt j hj) (rho_lt k hk), rho_ft i hi j hj, ← rho_ad i hi j hj f]
        constructor
        · intro q
          exact rho_inj (w_ft i hi j hj f).1 hk q.2
        · intro q
          exact ⟨f, by rw [q]⟩
      by_cases q : i + j = k
      · rw [if_pos q, if_pos (e.mpr q)]
      · rw [if_neg q, if_neg (fun x => q (e.mp x))]
