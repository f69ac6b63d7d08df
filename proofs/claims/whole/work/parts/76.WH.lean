/-! Pure: factors, terms and sums turned; polynomials keep to the chain's columns. -/
def kp (a b : Nat) (P : Po) : Prop := ∀ k, k < 81 → ¬ P k = 0 → ∀ c, c < 4 → (c < a ∨ b + 1 < c) → pw k c = 0
def negN (z : Nat) (G : Po) : Po := if z % 2 = 1 then pNeg G else G
theorem negN_s (z : Nat) (G : Po) : negN z (pNeg G) = negN (z + 1) G := by
  unfold negN
  rcases Nat.mod_two_eq_zero_or_one z with h | h
  · rw [if_neg (by omega), if_pos (by omega)]
  · rw [if_pos h, if_neg (by omega)]
    funext j
    exact Int32.neg_neg
theorem par_w : ∀ z, z < 10 → decide (nI z - nI z / 2 * 2 = 1) = decide (z % 2 = 1) := by decide +kernel
theorem ef_w {F G : Po} (h : pr F G) {z : Nat} (hz : z < 10) : pr (efF F (nI z) 81) (negN z G) := by
  intro k hk
  have p := par_w z hz
  have r := rho_lt k hk
  unfold negN
  simp only [efF]
  by_cases e : z % 2 = 1
  · rw [if_pos e, if_pos ⟨r, by simpa [e] using p⟩, h k hk]
    rfl
  · rw [if_neg e, if_neg (fun q => by
      have := q.2
      simp [e] at p
      exact p this), h k hk]
theorem lg_num : ∀ z, z < 10 → isLg (pNum (nI z)) = false := by decide +kernel
theorem lg_col : ∀ x, x < 4 → isLg (pCol x) = false := by decide +kernel
theorem rho_0 {k : Nat} (hk : k < 81) : rho k = 0 ↔ k = 0 := by
  constructor
  · intro e
    exact rho_inj hk (by decide) e
  · intro e
    subst e
    rfl
theorem pr_num (fa : Po) {c : Int32} (h : isDig c = true) : pr (simF fa c) (pNum (c - 48)) := by
  intro k hk
  have r := rho_lt k hk
  rw [simF, if_pos h]
  simp only [upd, pNum, filF]
  by_cases e : k = 0
  · rw [if_pos ((rho_0 hk).mpr e), if_pos e]
  · rw [if_neg (fun z => e ((rho_0 hk).mp z)), if_neg e, if_pos r]
    rfl
theorem cp_l : ∀ x, x < 4 → cp x < 81 := by decide
theorem mp_c : ∀ x, x < 4 → (if nI (65 + x) = 65 then 27 else if nI (65 + x) = 66 then 9 else if nI (65 + x) = 67 then 3 else 1) = mp x := by decide
theorem dig_c : ∀ x, x < 4 → isDig (nI (65 + x)) = false := by decide
theorem col_x {c : Int32} {x : Nat} (hx : x < 4) (h : colOf c = nI x) : c = nI (65 + x) := by
  rw [colOf] at h
  by_cases e : 65 ≤ c ∧ c ≤ 68
  · rw [if_pos e] at h
    have : c = nI x + 65 := by rw [← h, Int32.sub_add_cancel]
    rw [this, show (65 : Int32) = nI 65 from rfl, nI_add, Nat.add_comm]
  · rw [if_neg e] at h
    have h1 := congrArg Int32.toInt h
    rw [nI_toInt (by omega)] at h1
    have h2 : (-1 : Int32).toInt = -1 := rfl
    omega
theorem pr_col (fa : Po) {c : Int32} {x : Nat} (hx : x < 4) (h : colOf c = nI x) : pr (simF fa c) (pCol x) := by
  intro k hk
  have r := rho_lt k hk
  have e := col_x hx h
  subst e
  rw [simF, dig_c x hx, if_neg (by decide), mp_c x hx]
  simp only [upd, pCol, filF]
  have q := (rho_cp x hx).1
  by_cases e : k = cp x
  · rw [if_pos e, e, q, if_pos rfl]
  · rw [if_neg (fun z => e (rho_inj hk (cp_l x hx) (by rw [q]; exact z))), if_neg e, if_pos r]
    rfl
theorem pw_0 : ∀ c, c < 4 → pw 0 c = 0 := by decide
theorem pw_c : ∀ x, x < 4 → ∀ c, c < 4 → c ≠ x → pw (cp x) c = 0 := by decide
theorem kp_num (a b : Nat) (v : Int32) : kp a b (pNum v) := by
  intro k hk h c hc _
  have : k = 0 := by
    by_cases e : k = 0
    · exact e
    · exact absurd (show pNum v k = 0 by simp only [pNum, upd, if_neg e]; rfl) h
  subst this
  exact pw_0 c hc
theorem kp_col {a b x : Nat} (hx : x < 4) (h1 : a ≤ x) (h2 : x ≤ b + 1) : kp a b (pCol x) := by
  intro k hk h c hc hcc
  have : k = cp x := by
    by_cases e : k = cp x
    · exact e
    · exact absurd (show pCol x k = 0 by simp only [pCol, upd, if_neg e]; rfl) h
  subst this
  exact pw_c x hx c hc (by omega)
theorem kp_neg {a b : Nat} {P : Po} (h : kp a b P) : kp a b (pNeg P) := by
  intro k hk h1 c hc hcc
  refine h k hk (fun e => h1 ?_) c hc hcc
  show -P k = 0
  rw [e]
  rfl
theorem kp_add {a b : Nat} {P G : Po} (h : kp a b P) (h2 : kp a b G) (t : Int32) : kp a b (pAdd P G t) := by
  intro k hk h1 c hc hcc
  by_cases e : P k = 0
  · refine h2 k hk (fun e2 => h1 ?_) c hc hcc
    show P k + t * G k = 0
    rw [e, e2, Int32.mul_zero]
    rfl
  · exact h k hk e c hc hcc
theorem pw_ad : ∀ c, c < 4 → ∀ i, i < 81 → ∀ j, j < 81 → (decide (pw i c = 0) && (decide (pw j c = 0) && pfit i j)) = true → pw (i + j) c = 0 := by decide +kernel
theorem kp_mul {a b : Nat} {P G : Po} (h : kp a b P) (h2 : kp a b G) (hf : AF P G) : kp a b (pMul P G) := by
  intro k hk h1 c hc hcc
  apply Classical.byContradiction
  intro hne
  apply h1
  rw [pMul_d]
  refine sI_z 81 (fun i hi => sI_z 81 (fun j hj => ?_))
  by_cases e : i + j = k
  · rw [if_pos e]
    by_cases z : P i = 0
    · rw [z, Int32.zero_mul]
    · by_cases z2 : G j = 0
      · rw [z2, Int32.mul_zero]
      · exfalso
        apply hne
        rw [← e]
        exact pw_ad c hc i hi j hj (by simp [h i hi z c hc hcc, h2 j hj z2 c hc hcc, hf i j hi hj z z2])
  · rw [if_neg e]
theorem neg_0 (x : Int32) : -x = 0 ↔ x = 0 := by
  constructor
  · intro h
    rw [← Int32.neg_neg (a := x), h]
    rfl
  · intro h
    rw [h]
    rfl
theorem fil_neg (f : Po) : ∀ n, filN (pNeg f) n = filN f n
  | 0 => rfl
  | n + 1 => by
    rw [filN, filN, fil_neg f n, show pNeg f n = -f n from rfl]
    by_cases e : f n = 0
    · rw [if_pos e, if_pos ((neg_0 _).mpr e)]
    · rw [if_neg e, if_neg (fun z => e ((neg_0 _).mp z))]
theorem lg_neg {f : Po} (h : isLg f = false) : isLg (pNeg f) = false := by
  have s := fun i hi => sml (f := f) h (i := i) hi
  rw [isLg, Bool.or_eq_false_iff] at h ⊢
  refine ⟨?_, by rw [fil_neg]; exact h.2⟩
  rw [← Bool.not_eq_true, lgT_i]
  rintro ⟨i, hi, e⟩
  obtain ⟨s1, s2⟩ := s i hi
  have t : (-f i).toInt = - (f i).toInt := by
    rw [Int32.toInt_neg]
    exact Int.bmod_eq_of_le (by omega) (by omega)
  have e1 : (1000 : Int32).toInt = 1000 := rfl
  have e2 : (-1000 : Int32).toInt = -1000 := rfl
  rcases e with e | e
  · have := Int32.lt_iff_toInt_lt.mp e
    change (1000 : Int32).toInt < (-f i).toInt at this
    omega
  · have := Int32.lt_iff_toInt_lt.mp e
    change (-f i).toInt < (-1000 : Int32).toInt at this
    omega
theorem pr_cg {F F' G : Po} (h : pr F G) (e : ∀ k, k < 81 → F' k = F k) : pr F' G := fun k hk => (e _ (rho_lt k hk)).trans (h k hk)
theorem pr_add {F F' G G' : Po} (h : pr F G) (h2 : pr F' G') (t : Int32) : pr (fun k => F k + t * F' k) (pAdd G G' t) := by
  intro k hk
  show F (rho k) + t * F' (rho k) = G k + t * G' k
  rw [h k hk, h2 k hk]
theorem pr_pe {F G G' : Po} (h : pr F G) (e : pe G G') : pr F G' := fun k hk => (h k hk).trans (e k hk)
/-- large stays -/
theorem ef_l {S : RS} {d : Nat} (h : lgO S = true) : lgO (efS S d) = true := by
  obtain ⟨sm, tm, bg, sn, mn, fa, lg⟩ := S
  have : lg = true := h
  subst this
  rfl
theorem et_t {S : RS} {d : Nat} (h : lgO S = true) : lgO (etS S d) = true := by
  obtain ⟨sm, tm, bg, sn, mn, fa, lg⟩ := S
  have : lg = true := h
  subst this
  rfl
theorem lg_m (f : Nat → Int32) (n : Nat) (ca : Int32) : ∀ m S p d o w, lgO S = true → lgO (rdE f n ca m S p d o w).2.2 = true
  | 0, S, p, d, o, w, h => h
  | m + 1, S, p, d, o, w, h => by
    rw [rdE]
    generalize (if p < n then f p else -1) = c
    split
    · split
      · exact lg_m f n ca m _ _ _ _ _ (ef_l h)
      · split
        · split
          · exact lg_m f n ca m _ _ _ _ _ h
          · exact lg_m f n ca m _ _ _ _ _ h
        · exact h
    · split
      · exact lg_m f n ca m _ _ _ _ _ h
      · split
        · exact lg_m f n ca m _ _ _ _ _ (et_t (d := d) h)
        · split
          · exact lg_m f n ca m _ _ _ _ _ (ef_l (show lgO (cpS (etS S d) d) = true from et_t (d := d) h))
          · split
            · exact et_t h
            · exact h
theorem et_l {f : Nat → Int32} {n : Nat} {ca : Int32} {m : Nat} {S : RS} {p d : Nat} {o : Int32} (hc : ¬ at1 f n p = 42) (hr : (rdE f n ca (m + 1) S p d o false).1 = true) (h : lgO (etS S d) = true) : lgO (rdE f n ca (m + 1) S p d o false).2.2 = true := by
  rw [at1] at hc
  rw [rdE, if_neg (by decide), if_neg hc] at hr ⊢
  generalize (if p < n then f p else -1) = c at hr hc ⊢
  split at hr
  · rename_i c2
    rw [if_pos c2]
    exact lg_m f n ca m _ _ _ _ _ h
  · rename_i c2
    rw [if_neg c2]
    split at hr
    · rename_i c3
      rw [if_pos c3]
      exact lg_m f n ca m _ _ _ _ _ (ef_l h)
    · rename_i c3
      rw [if_neg c3]
      split at hr
      · rename_i c4
        rw [if_pos c4]
        obtain rfl := c4.1
        exact h
      · cases hr
theorem tx_n {f : Nat → Int32} {n p : Nat} (hn : n ≤ 30) (hp : p ≤ n) : tx f n (nI p) = if p < n then f p else 0 := by
  rw [tx, nI_clamp (by omega)]
  by_cases e : p < n
  · rw [if_pos e, if_pos ⟨nI_pos' (by omega), nI_lt e (by omega)⟩]
  · rw [if_neg e, if_neg (fun z => absurd z.2 (nI_nlt (by omega) (by omega)))]
