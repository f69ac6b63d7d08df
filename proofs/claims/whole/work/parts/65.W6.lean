/-! Pure: sums along a chain. -/
theorem ch2 (s t : Nat → Int64) (C : Nat → Nat → Int64) (n m : Nat) : sum6 (fun x => sum6 (fun y => s x * t y * C x y) m) n = sum6 (fun y => t y * sum6 (fun x => s x * C x y) n) m := by
  rw [s6_sw]
  refine sum6_congr m (fun y _ => ?_)
  rw [← s6_ml]
  refine sum6_congr n (fun x _ => ?_)
  grind
theorem ch3 (s t u : Nat → Int64) (C D : Nat → Nat → Int64) : sum6 (fun a => sum6 (fun b => sum6 (fun c => s a * t b * u c * (C a b * D b c)) 6) 6) 6 = sum6 (fun c => u c * sum6 (fun b => (t b * sum6 (fun a => s a * C a b) 6) * D b c) 6) 6 := by
  rw [← ch2 (fun b => t b * sum6 (fun a => s a * C a b) 6) u D, s6_sw]
  refine sum6_congr 6 (fun b _ => ?_)
  rw [s6_sw]
  refine sum6_congr 6 (fun c _ => ?_)
  rw [show t b * sum6 (fun a => s a * C a b) 6 * u c * D b c = sum6 (fun a => s a * C a b) 6 * (t b * u c * D b c) by grind, ← s6_mr]
  refine sum6_congr 6 (fun a _ => ?_)
  grind
theorem ch4 (s t u v : Nat → Int64) (C D E : Nat → Nat → Int64) : sum6 (fun a => sum6 (fun b => sum6 (fun c => sum6 (fun d => s a * t b * u c * v d * (C a b * D b c * E c d)) 6) 6) 6) 6 = sum6 (fun d => v d * sum6 (fun c => (u c * sum6 (fun b => (t b * sum6 (fun a => s a * C a b) 6) * D b c) 6) * E c d) 6) 6 := by
  rw [← ch3 (fun b => t b * sum6 (fun a => s a * C a b) 6) u v D E, s6_sw]
  refine sum6_congr 6 (fun b _ => ?_)
  rw [s6_sw]
  refine sum6_congr 6 (fun c _ => ?_)
  rw [s6_sw]
  refine sum6_congr 6 (fun d _ => ?_)
  rw [show t b * sum6 (fun a => s a * C a b) 6 * u c * v d * (D b c * E c d) = sum6 (fun a => s a * C a b) 6 * (t b * u c * v d * (D b c * E c d)) by grind, ← s6_mr]
  refine sum6_congr 6 (fun a _ => ?_)
  grind
/-- the class's sum for one combination of powers, chain by chain -/
theorem powS_1 (al : Nat → Int32) (g grp : Int32) (f : Nat → Int32) (k a : Nat) : powS al g grp f k a a = sum6 (fun y => shareV al g grp k (a + 1) y * sum6 (fun x => shareV al g grp k a x * cntL f a x y) 6) 6 := by
  rw [powS, show a + 1 - a = 1 by omega]
  refine sum6_congr 6 (fun y _ => ?_)
  rw [dpQ, join_s]
  rfl
theorem powS_2 (al : Nat → Int32) (g grp : Int32) (f : Nat → Int32) (k a : Nat) : powS al g grp f k a (a + 1) = sum6 (fun z => shareV al g grp k (a + 2) z * sum6 (fun y => (shareV al g grp k (a + 1) y * sum6 (fun x => shareV al g grp k a x * cntL f a x y) 6) * cntL f (a + 1) y z) 6) 6 := by
  rw [powS, show a + 1 + 1 - a = 2 by omega]
  refine sum6_congr 6 (fun z _ => ?_)
  rw [dpQ, join_s]
  refine congrArg (fun q => shareV al g grp k (a + 2) z * q) (sum6_congr 6 (fun y _ => ?_))
  rw [dpQ, join_s]
  rfl
theorem powS_3 (al : Nat → Int32) (g grp : Int32) (f : Nat → Int32) (k a : Nat) : powS al g grp f k a (a + 2) = sum6 (fun w => shareV al g grp k (a + 3) w * sum6 (fun z => (shareV al g grp k (a + 2) z * sum6 (fun y => (shareV al g grp k (a + 1) y * sum6 (fun x => shareV al g grp k a x * cntL f a x y) 6) * cntL f (a + 1) y z) 6) * cntL f (a + 2) z w) 6) 6 := by
  rw [powS, show a + 2 + 1 - a = 3 by omega]
  refine sum6_congr 6 (fun w _ => ?_)
  rw [dpQ, join_s]
  refine congrArg (fun q => shareV al g grp k (a + 3) w * q) (sum6_congr 6 (fun z _ => ?_))
  rw [dpQ, join_s]
  refine congrArg (fun q => shareV al g grp k (a + 2) z * q * cntL f (a + 2) z w) (sum6_congr 6 (fun y _ => ?_))
  rw [dpQ, join_s]
  rfl
