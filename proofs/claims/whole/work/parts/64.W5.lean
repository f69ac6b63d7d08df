/-! Pure: the value of a joined row in the class's terms. -/
theorem pwr_l : ∀ v, v < 6 → ∀ e, e < 3 → (nI (pwr v e)).toInt64 = lpow v e := by decide +kernel
theorem pwr_2 : ∀ v, v < 6 → ∀ e, e < 3 → ∀ w, w < 6 → ∀ d, d < 3 → (nI (pwr v e * pwr w d)).toInt64 = lpow v e * lpow w d := by decide +kernel
theorem rho_p : ∀ k, k < 81 → rho k / 27 = pw k 0 ∧ rho k / 9 % 3 = pw k 1 ∧ rho k / 3 % 3 = pw k 2 ∧ rho k % 3 = pw k 3 := by decide +kernel
theorem ofN_l {j : Nat} (hj : j < 1296) (c : Nat) : ofN j c < 6 := by
  simp only [ofN]
  split
  · omega
  · split
    · omega
    · split
      · omega
      · omega
theorem valT_w {x : Int32} {j k : Nat} (hj : j < 1296) (hk : k < 81) : valT x j (rho k) = x.toInt64 * (lpow (ofN j 0) (pw k 0) * lpow (ofN j 1) (pw k 1) * lpow (ofN j 2) (pw k 2) * lpow (ofN j 3) (pw k 3)) := by
  obtain ⟨a, b, c, d⟩ := rho_p k hk
  rw [valT, a, b, c, d, pwr_2 _ (ofN_l hj 0) _ (pw_lt k 0) _ (ofN_l hj 1) _ (pw_lt k 1), pwr_l _ (ofN_l hj 2) _ (pw_lt k 2), pwr_l _ (ofN_l hj 3) _ (pw_lt k 3)]
  grind
theorem valM_s (co : Nat → Int32) (j : Nat) : ∀ n, valM co j n = sum6 (fun k => valT (co k) j k) n
  | 0 => rfl
  | n + 1 => by
    rw [valM, sum6, valM_s co j n]
    by_cases e : co n = 0
    · rw [if_pos e, e, valT, show (0 : Int32).toInt64 = 0 from rfl, Int64.zero_mul, Int64.zero_mul, Int64.zero_mul, Int64.add_zero]
    · rw [if_neg e]
theorem valM_w {co' co : Po} (h : pr co' co) {j : Nat} (hj : j < 1296) : valM co' j 81 = sum6 (fun k => (co k).toInt64 * (lpow (ofN j 0) (pw k 0) * lpow (ofN j 1) (pw k 1) * lpow (ofN j 2) (pw k 2) * lpow (ofN j 3) (pw k 3))) 81 := by
  rw [valM_s, ← s6_rho]
  refine sum6_congr 81 (fun k hk => ?_)
  rw [valT_w hj hk, h k hk]
/-- the reference's answer, term by term -/
theorem colM_w {co' co : Po} (h : pr co' co) (f : Nat → Int32) (ch n : Nat) (g grp : Int32) (cd : Nat → Nat) (all : Bool) : colM f (ch, g, n, cd, co') grp all 1296 = sum6 (fun k => (co k).toInt64 * sum6 (fun j => if ((all || decide (g < 0) || decide (nI (ofN j g.toNatClampNeg) = grp)) && metM cd j n) = true then wM f ch j * (lpow (ofN j 0) (pw k 0) * lpow (ofN j 1) (pw k 1) * lpow (ofN j 2) (pw k 2) * lpow (ofN j 3) (pw k 3)) else 0) 1296) 81 := by
  rw [colM_s]
  have e1 : ∀ k, (co k).toInt64 * sum6 (fun j => if ((all || decide (g < 0) || decide (nI (ofN j g.toNatClampNeg) = grp)) && metM cd j n) = true then wM f ch j * (lpow (ofN j 0) (pw k 0) * lpow (ofN j 1) (pw k 1) * lpow (ofN j 2) (pw k 2) * lpow (ofN j 3) (pw k 3)) else 0) 1296 = sum6 (fun j => (co k).toInt64 * (if ((all || decide (g < 0) || decide (nI (ofN j g.toNatClampNeg) = grp)) && metM cd j n) = true then wM f ch j * (lpow (ofN j 0) (pw k 0) * lpow (ofN j 1) (pw k 1) * lpow (ofN j 2) (pw k 2) * lpow (ofN j 3) (pw k 3)) else 0)) 1296 := fun k => (s6_ml _ _ _).symm
  rw [sum6_congr 81 (fun k _ => e1 k), s6_sw]
  refine sum6_congr 1296 (fun j hj => ?_)
  dsimp only
  by_cases e : ((all || decide (g < 0) || decide (nI (ofN j g.toNatClampNeg) = grp)) && metM cd j n) = true
  · simp only [if_pos e]
    rw [valM_w h hj, ← s6_ml]
    refine sum6_congr 81 (fun k _ => ?_)
    grind
  · simp only [if_neg e]
    exact (s6_z 81 (fun k _ => Int64.mul_zero)).symm
