/-! Pure: sums of longs; the answers' parts as sums. -/
theorem s6_z {F : Nat → Int64} : ∀ n, (∀ i, i < n → F i = 0) → sum6 F n = 0
  | 0, _ => rfl
  | n + 1, h => by
    rw [sum6, s6_z n (fun i hi => h i (by omega)), h n (by omega)]
    rfl
theorem s6_1 {F : Nat → Int64} {k : Nat} : ∀ n, k < n → (∀ i, i < n → i ≠ k → F i = 0) → sum6 F n = F k
  | 0, h, _ => by omega
  | n + 1, hk, h => by
    rw [sum6]
    by_cases e : k = n
    · subst e
      rw [s6_z k (fun i hi => h i (by omega) (by omega)), Int64.zero_add]
    · rw [s6_1 n (by omega) (fun i hi => h i (by omega)), h n (by omega) (by omega), Int64.add_zero]
theorem s6_ad (F G : Nat → Int64) : ∀ n, sum6 (fun i => F i + G i) n = sum6 F n + sum6 G n
  | 0 => rfl
  | n + 1 => by
    rw [sum6, sum6, sum6, s6_ad F G n]
    grind
theorem s6_ml (c : Int64) (F : Nat → Int64) : ∀ n, sum6 (fun i => c * F i) n = c * sum6 F n
  | 0 => by
    rw [sum6, sum6, Int64.mul_zero]
  | n + 1 => by
    rw [sum6, sum6, s6_ml c F n]
    grind
theorem s6_mr (c : Int64) (F : Nat → Int64) : ∀ n, sum6 (fun i => F i * c) n = sum6 F n * c
  | 0 => by
    rw [sum6, sum6, Int64.zero_mul]
  | n + 1 => by
    rw [sum6, sum6, s6_mr c F n]
    grind
theorem s6_sw (F : Nat → Nat → Int64) (m : Nat) : ∀ n, sum6 (fun i => sum6 (F i) m) n = sum6 (fun j => sum6 (fun i => F i j) n) m
  | 0 => (s6_z m (fun i _ => rfl)).symm
  | n + 1 => by
    rw [sum6, s6_sw F m n, ← s6_ad]
    rfl
/-- pairs as one number -/
theorem s6_pr (F : Nat → Nat → Int64) {m : Nat} (hm : 0 < m) : ∀ n k, k ≤ m → sum6 (fun t => F (t / m) (t % m)) (m * n + k) = sum6 (fun i => sum6 (F i) m) n + sum6 (F n) k
  | 0, 0, _ => by
    rw [show m * 0 + 0 = 0 by omega]
    rfl
  | n + 1, 0, _ => by
    rw [show m * (n + 1) + 0 = m * n + m by rw [Nat.mul_succ]; rfl, s6_pr F hm n m (Nat.le_refl _)]
    simp only [sum6]
    rw [Int64.add_zero]
  | n, k + 1, h => by
    rw [show m * n + (k + 1) = m * n + k + 1 by omega, sum6, s6_pr F hm n k (by omega), sum6, Int64.add_assoc]
    rw [Nat.mul_add_div hm, Nat.div_eq_of_lt (show k < m by omega), Nat.add_zero, Nat.mul_add_mod, Nat.mod_eq_of_lt (show k < m by omega)]
theorem s6_rho (F : Nat → Int64) : sum6 (fun i => F (rho i)) 81 = sum6 F 81 := by
  have e1 : sum6 (fun i => F (rho i)) 81 = sum6 (fun i => sum6 (fun k => if rho i = k then F k else 0) 81) 81 := by
    refine sum6_congr 81 (fun i hi => ?_)
    rw [s6_1 (k := rho i) 81 (rho_lt i hi) (fun k _ hne => if_neg (fun z => hne z.symm)), if_pos rfl]
  rw [e1, s6_sw]
  refine sum6_congr 81 (fun k hk => ?_)
  rw [s6_1 (k := rho k) 81 (rho_lt k hk) (fun i hi hne => if_neg (fun z => hne (by rw [← z, rho_rho i hi]))), if_pos (rho_rho k hk)]
/-- the joined rows, value by value -/
theorem s6_4 (F : Nat → Nat → Nat → Nat → Int64) : sum6 (fun j => F (ofN j 0) (ofN j 1) (ofN j 2) (ofN j 3)) 1296 = sum6 (fun a => sum6 (fun b => sum6 (fun c => sum6 (fun d => F a b c d) 6) 6) 6) 6 := by
  have e1 : sum6 (fun j => F (ofN j 0) (ofN j 1) (ofN j 2) (ofN j 3)) 1296 = sum6 (fun j => (fun t d => F (t / 36) (t / 6 % 6) (t % 6) d) (j / 6) (j % 6)) 1296 := by
    refine sum6_congr 1296 (fun j hj => ?_)
    simp only [ofN]
    rw [show j / 6 / 36 = j / 216 by omega, show j / 6 / 6 % 6 = j / 36 % 6 by omega]
    rfl
  have e2 := s6_pr (fun t d => F (t / 36) (t / 6 % 6) (t % 6) d) (m := 6) (by decide) 216 0 (by decide)
  have e3 : sum6 (fun i => sum6 (fun d => F (i / 36) (i / 6 % 6) (i % 6) d) 6) 216 = sum6 (fun i => (fun t c => sum6 (fun d => F (t / 6) (t % 6) c d) 6) (i / 6) (i % 6)) 216 := by
    refine sum6_congr 216 (fun j hj => ?_)
    dsimp only
    rw [show j / 6 / 6 = j / 36 by omega]
  have e4 := s6_pr (fun t c => sum6 (fun d => F (t / 6) (t % 6) c d) 6) (m := 6) (by decide) 36 0 (by decide)
  have e5 := s6_pr (fun a b => sum6 (fun c => sum6 (fun d => F a b c d) 6) 6) (m := 6) (by decide) 6 0 (by decide)
  rw [show 6 * 216 + 0 = 1296 from rfl, show sum6 ((fun t d => F (t / 36) (t / 6 % 6) (t % 6) d) 216) 0 = 0 from rfl, Int64.add_zero] at e2
  rw [show 6 * 36 + 0 = 216 from rfl, show sum6 ((fun t c => sum6 (fun d => F (t / 6) (t % 6) c d) 6) 36) 0 = 0 from rfl, Int64.add_zero] at e4
  rw [show 6 * 6 + 0 = 36 from rfl, show sum6 ((fun a b => sum6 (fun c => sum6 (fun d => F a b c d) 6) 6) 6) 0 = 0 from rfl, Int64.add_zero] at e5
  rw [e1, e2, e3, e4, e5]
theorem join_s (ra : Nat → Int64) (f : Nat → Int32) (r y : Nat) : ∀ n, joinS ra f r y n = sum6 (fun x => ra x * (f ((r * 6 + x) * 6 + y)).toInt64) n
  | 0 => rfl
  | n + 1 => by rw [joinS, sum6, join_s ra f r y n]
theorem sumK_s (co : Nat → Int32) (F : Nat → Int64) : ∀ n, sumK co F n = sum6 (fun k => (co k).toInt64 * F k) n
  | 0 => rfl
  | n + 1 => by
    rw [sumK, sum6, sumK_s co F n]
    by_cases e : co n = 0
    · rw [if_pos e, e, show (0 : Int32).toInt64 = 0 from rfl, Int64.zero_mul]
    · rw [if_neg e]
theorem colM_s (f : Nat → Int32) (Q : MQ2) (grp : Int32) (all : Bool) : ∀ n, colM f Q grp all n = sum6 (fun j => if ((all || decide (Q.2.1 < 0) || decide (nI (ofN j Q.2.1.toNatClampNeg) = grp)) && metM Q.2.2.2.1 j Q.2.2.1) = true then wM f Q.1 j * valM Q.2.2.2.2 j 81 else 0) n
  | 0 => rfl
  | n + 1 => by
    rw [colM, sum6, colM_s f Q grp all n]
    by_cases e : ((all || decide (Q.2.1 < 0) || decide (nI (ofN n Q.2.1.toNatClampNeg) = grp)) && metM Q.2.2.2.1 n Q.2.2.1) = true
    · rw [if_pos e, if_pos e]
    · rw [if_neg e, if_neg e, Int64.add_zero]
