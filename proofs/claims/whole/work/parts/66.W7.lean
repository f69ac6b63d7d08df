/-! Pure: for one combination of powers the sums are alike. -/
def tB (al : Nat → Int32) (g grp : Int32) (c v : Nat) : Bool := aOK (al c) v && !(decide (nI c = g ∧ ¬ grp = -1 ∧ ¬ nI v = grp))
theorem sh_t {al : Nat → Int32} {g grp : Int32} {k c v : Nat} (h : tB al g grp c v = true) : shareV al g grp k c v = lpow v (pw k c) := by
  simp only [tB, Bool.and_eq_true, Bool.not_eq_true', decide_eq_false_iff_not] at h
  rw [shareV, if_neg (by rw [h.1]; decide), if_neg h.2]
theorem sh_f {al : Nat → Int32} {g grp : Int32} {k c v : Nat} (h : ¬ tB al g grp c v = true) : shareV al g grp k c v = 0 := by
  rw [shareV]
  by_cases e : aOK (al c) v = false
  · rw [if_pos e]
  · rw [if_neg e]
    by_cases e2 : nI c = g ∧ ¬ grp = -1 ∧ ¬ nI v = grp
    · rw [if_pos e2]
    · refine absurd ?_ h
      simp only [tB, Bool.and_eq_true, Bool.not_eq_true', decide_eq_false_iff_not]
      exact ⟨by simpa using e, e2⟩
set_option maxHeartbeats 4000000 in
theorem an_02 {cnd : Nat → Bool} {al : Nat → Int32} {g grp : Int32} {f : Nat → Int32} {k : Nat}  (hH : ∀ j, j < 1296 → spM 7 (ofN j 0) (ofN j 1) (ofN j 2) (ofN j 3) = false → (cnd j = true ↔ tB al g grp 0 (ofN j 0) = true ∧ tB al g grp 1 (ofN j 1) = true ∧ tB al g grp 2 (ofN j 2) = true ∧ tB al g grp 3 (ofN j 3) = true)) : sum6 (fun j => if cnd j = true then wM f 7 j * (lpow (ofN j 0) (pw k 0) * lpow (ofN j 1) (pw k 1) * lpow (ofN j 2) (pw k 2) * lpow (ofN j 3) (pw k 3)) else 0) 1296 = powS al g grp f k 0 2 := by
  have e1 : sum6 (fun j => if cnd j = true then wM f 7 j * (lpow (ofN j 0) (pw k 0) * lpow (ofN j 1) (pw k 1) * lpow (ofN j 2) (pw k 2) * lpow (ofN j 3) (pw k 3)) else 0) 1296 = sum6 (fun j => (fun a b c d => shareV al g grp k 0 a * shareV al g grp k 1 b * shareV al g grp k 2 c * shareV al g grp k 3 d * (cntL f 0 a b * cntL f 1 b c * cntL f 2 c d)) (ofN j 0) (ofN j 1) (ofN j 2) (ofN j 3)) 1296 := by
    refine sum6_congr 1296 (fun j hj => ?_)
    dsimp only
    by_cases sp : spM 7 (ofN j 0) (ofN j 1) (ofN j 2) (ofN j 3) = true
    · rw [wM, if_pos sp, Int64.zero_mul, ite_self]
      simp [spM] at sp
    · have hh := hH j hj (by simpa using sp)
      rw [wM, if_neg sp]
      simp [spM] at sp
      by_cases q : cnd j = true
      · have q2 := hh.mp q
        rw [if_pos q, sh_t q2.1, sh_t q2.2.1, sh_t q2.2.2.1, sh_t q2.2.2.2]
        simp [wgt, lpow]
        try grind
      · rw [if_neg q]
        symm
        by_cases z0 : tB al g grp 0 (ofN j 0) = true
        rotate_left
        · rw [sh_f z0]
          simp
        by_cases z1 : tB al g grp 1 (ofN j 1) = true
        rotate_left
        · rw [sh_f z1]
          simp
        by_cases z2 : tB al g grp 2 (ofN j 2) = true
        rotate_left
        · rw [sh_f z2]
          simp
        by_cases z3 : tB al g grp 3 (ofN j 3) = true
        rotate_left
        · rw [sh_f z3]
          simp
        exact absurd (hh.mpr ⟨z0, z1, z2, z3⟩) q
  rw [e1, s6_4 (fun a b c d => shareV al g grp k 0 a * shareV al g grp k 1 b * shareV al g grp k 2 c * shareV al g grp k 3 d * (cntL f 0 a b * cntL f 1 b c * cntL f 2 c d))]
  exact (ch4 (shareV al g grp k 0) (shareV al g grp k 1) (shareV al g grp k 2) (shareV al g grp k 3) (cntL f 0) (cntL f 1) (cntL f 2)).trans (powS_3 al g grp f k 0).symm
set_option maxHeartbeats 4000000 in
theorem an_01 {cnd : Nat → Bool} {al : Nat → Int32} {g grp : Int32} {f : Nat → Int32} {k : Nat} (s3 : pw k 3 = 0) (hH : ∀ j, j < 1296 → spM 3 (ofN j 0) (ofN j 1) (ofN j 2) (ofN j 3) = false → (cnd j = true ↔ tB al g grp 0 (ofN j 0) = true ∧ tB al g grp 1 (ofN j 1) = true ∧ tB al g grp 2 (ofN j 2) = true)) : sum6 (fun j => if cnd j = true then wM f 3 j * (lpow (ofN j 0) (pw k 0) * lpow (ofN j 1) (pw k 1) * lpow (ofN j 2) (pw k 2) * lpow (ofN j 3) (pw k 3)) else 0) 1296 = powS al g grp f k 0 1 := by
  have e1 : sum6 (fun j => if cnd j = true then wM f 3 j * (lpow (ofN j 0) (pw k 0) * lpow (ofN j 1) (pw k 1) * lpow (ofN j 2) (pw k 2) * lpow (ofN j 3) (pw k 3)) else 0) 1296 = sum6 (fun j => (fun a b c d => (if d = 0 then shareV al g grp k 0 a * shareV al g grp k 1 b * shareV al g grp k 2 c * (cntL f 0 a b * cntL f 1 b c) else 0)) (ofN j 0) (ofN j 1) (ofN j 2) (ofN j 3)) 1296 := by
    refine sum6_congr 1296 (fun j hj => ?_)
    dsimp only
    by_cases sp : spM 3 (ofN j 0) (ofN j 1) (ofN j 2) (ofN j 3) = true
    · rw [wM, if_pos sp, Int64.zero_mul, ite_self]
      simp [spM] at sp
      repeat' split
      all_goals first | rfl | omega
    · have hh := hH j hj (by simpa using sp)
      rw [wM, if_neg sp]
      simp [spM] at sp
      have v3 : ofN j 3 = 0 := by omega
      simp only [v3, s3, if_true]
      by_cases q : cnd j = true
      · have q2 := hh.mp q
        rw [if_pos q, sh_t q2.1, sh_t q2.2.1, sh_t q2.2.2]
        simp [wgt, lpow]
        try grind
      · rw [if_neg q]
        symm
        by_cases z0 : tB al g grp 0 (ofN j 0) = true
        rotate_left
        · rw [sh_f z0]
          simp
        by_cases z1 : tB al g grp 1 (ofN j 1) = true
        rotate_left
        · rw [sh_f z1]
          simp
        by_cases z2 : tB al g grp 2 (ofN j 2) = true
        rotate_left
        · rw [sh_f z2]
          simp
        exact absurd (hh.mpr ⟨z0, z1, z2⟩) q
  rw [e1, s6_4 (fun a b c d => (if d = 0 then shareV al g grp k 0 a * shareV al g grp k 1 b * shareV al g grp k 2 c * (cntL f 0 a b * cntL f 1 b c) else 0))]
  refine Eq.trans (sum6_congr 6 (fun a _ => sum6_congr 6 (fun b _ => sum6_congr 6 (fun c _ => (show sum6 (fun d => (if d = 0 then shareV al g grp k 0 a * shareV al g grp k 1 b * shareV al g grp k 2 c * (cntL f 0 a b * cntL f 1 b c) else 0)) 6 = shareV al g grp k 0 a * shareV al g grp k 1 b * shareV al g grp k 2 c * (cntL f 0 a b * cntL f 1 b c) by simp [sum6]))))) ?_
  exact (ch3 (shareV al g grp k 0) (shareV al g grp k 1) (shareV al g grp k 2) (cntL f 0) (cntL f 1)).trans (powS_2 al g grp f k 0).symm
set_option maxHeartbeats 4000000 in
theorem an_12 {cnd : Nat → Bool} {al : Nat → Int32} {g grp : Int32} {f : Nat → Int32} {k : Nat} (s0 : pw k 0 = 0) (hH : ∀ j, j < 1296 → spM 6 (ofN j 0) (ofN j 1) (ofN j 2) (ofN j 3) = false → (cnd j = true ↔ tB al g grp 1 (ofN j 1) = true ∧ tB al g grp 2 (ofN j 2) = true ∧ tB al g grp 3 (ofN j 3) = true)) : sum6 (fun j => if cnd j = true then wM f 6 j * (lpow (ofN j 0) (pw k 0) * lpow (ofN j 1) (pw k 1) * lpow (ofN j 2) (pw k 2) * lpow (ofN j 3) (pw k 3)) else 0) 1296 = powS al g grp f k 1 2 := by
  have e1 : sum6 (fun j => if cnd j = true then wM f 6 j * (lpow (ofN j 0) (pw k 0) * lpow (ofN j 1) (pw k 1) * lpow (ofN j 2) (pw k 2) * lpow (ofN j 3) (pw k 3)) else 0) 1296 = sum6 (fun j => (fun a b c d => (if a = 0 then shareV al g grp k 1 b * shareV al g grp k 2 c * shareV al g grp k 3 d * (cntL f 1 b c * cntL f 2 c d) else 0)) (ofN j 0) (ofN j 1) (ofN j 2) (ofN j 3)) 1296 := by
    refine sum6_congr 1296 (fun j hj => ?_)
    dsimp only
    by_cases sp : spM 6 (ofN j 0) (ofN j 1) (ofN j 2) (ofN j 3) = true
    · rw [wM, if_pos sp, Int64.zero_mul, ite_self]
      simp [spM] at sp
      repeat' split
      all_goals first | rfl | omega
    · have hh := hH j hj (by simpa using sp)
      rw [wM, if_neg sp]
      simp [spM] at sp
      have v0 : ofN j 0 = 0 := by omega
      simp only [v0, s0, if_true]
      by_cases q : cnd j = true
      · have q2 := hh.mp q
        rw [if_pos q, sh_t q2.1, sh_t q2.2.1, sh_t q2.2.2]
        simp [wgt, lpow]
        try grind
      · rw [if_neg q]
        symm
        by_cases z1 : tB al g grp 1 (ofN j 1) = true
        rotate_left
        · rw [sh_f z1]
          simp
        by_cases z2 : tB al g grp 2 (ofN j 2) = true
        rotate_left
        · rw [sh_f z2]
          simp
        by_cases z3 : tB al g grp 3 (ofN j 3) = true
        rotate_left
        · rw [sh_f z3]
          simp
        exact absurd (hh.mpr ⟨z1, z2, z3⟩) q
  rw [e1, s6_4 (fun a b c d => (if a = 0 then shareV al g grp k 1 b * shareV al g grp k 2 c * shareV al g grp k 3 d * (cntL f 1 b c * cntL f 2 c d) else 0))]
  rw [s6_1 (k := 0) 6 (by decide) (fun i _ hne => s6_z 6 (fun b _ => s6_z 6 (fun c _ => s6_z 6 (fun d _ => if_neg hne))))]
  refine Eq.trans (sum6_congr 6 (fun b _ => sum6_congr 6 (fun c _ => sum6_congr 6 (fun d _ => (show (if (0 : Nat) = 0 then shareV al g grp k 1 b * shareV al g grp k 2 c * shareV al g grp k 3 d * (cntL f 1 b c * cntL f 2 c d) else 0) = shareV al g grp k 1 b * shareV al g grp k 2 c * shareV al g grp k 3 d * (cntL f 1 b c * cntL f 2 c d) by simp [sum6]))))) ?_
  exact (ch3 (shareV al g grp k 1) (shareV al g grp k 2) (shareV al g grp k 3) (cntL f 1) (cntL f 2)).trans (powS_2 al g grp f k 1).symm
set_option maxHeartbeats 4000000 in
theorem an_00 {cnd : Nat → Bool} {al : Nat → Int32} {g grp : Int32} {f : Nat → Int32} {k : Nat} (s2 : pw k 2 = 0) (s3 : pw k 3 = 0) (hH : ∀ j, j < 1296 → spM 1 (ofN j 0) (ofN j 1) (ofN j 2) (ofN j 3) = false → (cnd j = true ↔ tB al g grp 0 (ofN j 0) = true ∧ tB al g grp 1 (ofN j 1) = true)) : sum6 (fun j => if cnd j = true then wM f 1 j * (lpow (ofN j 0) (pw k 0) * lpow (ofN j 1) (pw k 1) * lpow (ofN j 2) (pw k 2) * lpow (ofN j 3) (pw k 3)) else 0) 1296 = powS al g grp f k 0 0 := by
  have e1 : sum6 (fun j => if cnd j = true then wM f 1 j * (lpow (ofN j 0) (pw k 0) * lpow (ofN j 1) (pw k 1) * lpow (ofN j 2) (pw k 2) * lpow (ofN j 3) (pw k 3)) else 0) 1296 = sum6 (fun j => (fun a b c d => (if c = 0 then (if d = 0 then shareV al g grp k 0 a * shareV al g grp k 1 b * cntL f 0 a b else 0) else 0)) (ofN j 0) (ofN j 1) (ofN j 2) (ofN j 3)) 1296 := by
    refine sum6_congr 1296 (fun j hj => ?_)
    dsimp only
    by_cases sp : spM 1 (ofN j 0) (ofN j 1) (ofN j 2) (ofN j 3) = true
    · rw [wM, if_pos sp, Int64.zero_mul, ite_self]
      simp [spM] at sp
      repeat' split
      all_goals first | rfl | omega
    · have hh := hH j hj (by simpa using sp)
      rw [wM, if_neg sp]
      simp [spM] at sp
      have v2 : ofN j 2 = 0 := by omega
      have v3 : ofN j 3 = 0 := by omega
      simp only [v2, v3, s2, s3, if_true]
      by_cases q : cnd j = true
      · have q2 := hh.mp q
        rw [if_pos q, sh_t q2.1, sh_t q2.2]
        simp [wgt, lpow]
        try grind
      · rw [if_neg q]
        symm
        by_cases z0 : tB al g grp 0 (ofN j 0) = true
        rotate_left
        · rw [sh_f z0]
          simp
        by_cases z1 : tB al g grp 1 (ofN j 1) = true
        rotate_left
        · rw [sh_f z1]
          simp
        exact absurd (hh.mpr ⟨z0, z1⟩) q
  rw [e1, s6_4 (fun a b c d => (if c = 0 then (if d = 0 then shareV al g grp k 0 a * shareV al g grp k 1 b * cntL f 0 a b else 0) else 0))]
  refine Eq.trans (sum6_congr 6 (fun a _ => sum6_congr 6 (fun b _ => (show sum6 (fun c => sum6 (fun d => (if c = 0 then (if d = 0 then shareV al g grp k 0 a * shareV al g grp k 1 b * cntL f 0 a b else 0) else 0)) 6) 6 = shareV al g grp k 0 a * shareV al g grp k 1 b * cntL f 0 a b by simp [sum6])))) ?_
  exact (ch2 (shareV al g grp k 0) (shareV al g grp k 1) (cntL f 0) 6 6).trans (powS_1 al g grp f k 0).symm
set_option maxHeartbeats 4000000 in
theorem an_11 {cnd : Nat → Bool} {al : Nat → Int32} {g grp : Int32} {f : Nat → Int32} {k : Nat} (s0 : pw k 0 = 0) (s3 : pw k 3 = 0) (hH : ∀ j, j < 1296 → spM 2 (ofN j 0) (ofN j 1) (ofN j 2) (ofN j 3) = false → (cnd j = true ↔ tB al g grp 1 (ofN j 1) = true ∧ tB al g grp 2 (ofN j 2) = true)) : sum6 (fun j => if cnd j = true then wM f 2 j * (lpow (ofN j 0) (pw k 0) * lpow (ofN j 1) (pw k 1) * lpow (ofN j 2) (pw k 2) * lpow (ofN j 3) (pw k 3)) else 0) 1296 = powS al g grp f k 1 1 := by
  have e1 : sum6 (fun j => if cnd j = true then wM f 2 j * (lpow (ofN j 0) (pw k 0) * lpow (ofN j 1) (pw k 1) * lpow (ofN j 2) (pw k 2) * lpow (ofN j 3) (pw k 3)) else 0) 1296 = sum6 (fun j => (fun a b c d => (if a = 0 then (if d = 0 then shareV al g grp k 1 b * shareV al g grp k 2 c * cntL f 1 b c else 0) else 0)) (ofN j 0) (ofN j 1) (ofN j 2) (ofN j 3)) 1296 := by
    refine sum6_congr 1296 (fun j hj => ?_)
    dsimp only
    by_cases sp : spM 2 (ofN j 0) (ofN j 1) (ofN j 2) (ofN j 3) = true
    · rw [wM, if_pos sp, Int64.zero_mul, ite_self]
      simp [spM] at sp
      repeat' split
      all_goals first | rfl | omega
    · have hh := hH j hj (by simpa using sp)
      rw [wM, if_neg sp]
      simp [spM] at sp
      have v0 : ofN j 0 = 0 := by omega
      have v3 : ofN j 3 = 0 := by omega
      simp only [v0, v3, s0, s3, if_true]
      by_cases q : cnd j = true
      · have q2 := hh.mp q
        rw [if_pos q, sh_t q2.1, sh_t q2.2]
        simp [wgt, lpow]
        try grind
      · rw [if_neg q]
        symm
        by_cases z1 : tB al g grp 1 (ofN j 1) = true
        rotate_left
        · rw [sh_f z1]
          simp
        by_cases z2 : tB al g grp 2 (ofN j 2) = true
        rotate_left
        · rw [sh_f z2]
          simp
        exact absurd (hh.mpr ⟨z1, z2⟩) q
  rw [e1, s6_4 (fun a b c d => (if a = 0 then (if d = 0 then shareV al g grp k 1 b * shareV al g grp k 2 c * cntL f 1 b c else 0) else 0))]
  rw [s6_1 (k := 0) 6 (by decide) (fun i _ hne => s6_z 6 (fun b _ => s6_z 6 (fun c _ => s6_z 6 (fun d _ => if_neg hne))))]
  refine Eq.trans (sum6_congr 6 (fun b _ => sum6_congr 6 (fun c _ => (show sum6 (fun d => (if (0 : Nat) = 0 then (if d = 0 then shareV al g grp k 1 b * shareV al g grp k 2 c * cntL f 1 b c else 0) else 0)) 6 = shareV al g grp k 1 b * shareV al g grp k 2 c * cntL f 1 b c by simp [sum6])))) ?_
  exact (ch2 (shareV al g grp k 1) (shareV al g grp k 2) (cntL f 1) 6 6).trans (powS_1 al g grp f k 1).symm
set_option maxHeartbeats 4000000 in
theorem an_22 {cnd : Nat → Bool} {al : Nat → Int32} {g grp : Int32} {f : Nat → Int32} {k : Nat} (s0 : pw k 0 = 0) (s1 : pw k 1 = 0) (hH : ∀ j, j < 1296 → spM 4 (ofN j 0) (ofN j 1) (ofN j 2) (ofN j 3) = false → (cnd j = true ↔ tB al g grp 2 (ofN j 2) = true ∧ tB al g grp 3 (ofN j 3) = true)) : sum6 (fun j => if cnd j = true then wM f 4 j * (lpow (ofN j 0) (pw k 0) * lpow (ofN j 1) (pw k 1) * lpow (ofN j 2) (pw k 2) * lpow (ofN j 3) (pw k 3)) else 0) 1296 = powS al g grp f k 2 2 := by
  have e1 : sum6 (fun j => if cnd j = true then wM f 4 j * (lpow (ofN j 0) (pw k 0) * lpow (ofN j 1) (pw k 1) * lpow (ofN j 2) (pw k 2) * lpow (ofN j 3) (pw k 3)) else 0) 1296 = sum6 (fun j => (fun a b c d => (if a = 0 then (if b = 0 then shareV al g grp k 2 c * shareV al g grp k 3 d * cntL f 2 c d else 0) else 0)) (ofN j 0) (ofN j 1) (ofN j 2) (ofN j 3)) 1296 := by
    refine sum6_congr 1296 (fun j hj => ?_)
    dsimp only
    by_cases sp : spM 4 (ofN j 0) (ofN j 1) (ofN j 2) (ofN j 3) = true
    · rw [wM, if_pos sp, Int64.zero_mul, ite_self]
      simp [spM] at sp
      repeat' split
      all_goals first | rfl | omega
    · have hh := hH j hj (by simpa using sp)
      rw [wM, if_neg sp]
      simp [spM] at sp
      have v0 : ofN j 0 = 0 := by omega
      have v1 : ofN j 1 = 0 := by omega
      simp only [v0, v1, s0, s1, if_true]
      by_cases q : cnd j = true
      · have q2 := hh.mp q
        rw [if_pos q, sh_t q2.1, sh_t q2.2]
        simp [wgt, lpow]
        try grind
      · rw [if_neg q]
        symm
        by_cases z2 : tB al g grp 2 (ofN j 2) = true
        rotate_left
        · rw [sh_f z2]
          simp
        by_cases z3 : tB al g grp 3 (ofN j 3) = true
        rotate_left
        · rw [sh_f z3]
          simp
        exact absurd (hh.mpr ⟨z2, z3⟩) q
  rw [e1, s6_4 (fun a b c d => (if a = 0 then (if b = 0 then shareV al g grp k 2 c * shareV al g grp k 3 d * cntL f 2 c d else 0) else 0))]
  rw [s6_1 (k := 0) 6 (by decide) (fun i _ hne => s6_z 6 (fun b _ => s6_z 6 (fun c _ => s6_z 6 (fun d _ => if_neg hne))))]
  rw [s6_1 (k := 0) 6 (by decide) (fun i _ hne => s6_z 6 (fun c _ => s6_z 6 (fun d _ => (if_pos rfl).trans (if_neg hne))))]
  refine Eq.trans (sum6_congr 6 (fun c _ => sum6_congr 6 (fun d _ => (show (if (0 : Nat) = 0 then (if (0 : Nat) = 0 then shareV al g grp k 2 c * shareV al g grp k 3 d * cntL f 2 c d else 0) else 0) = shareV al g grp k 2 c * shareV al g grp k 3 d * cntL f 2 c d by simp [sum6])))) ?_
  exact (ch2 (shareV al g grp k 2) (shareV al g grp k 3) (cntL f 2) 6 6).trans (powS_1 al g grp f k 2).symm
