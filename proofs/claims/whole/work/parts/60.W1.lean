/-! Pure: sums, the turned index, the wide product. -/
def sI (F : Nat → Int32) : Nat → Int32
  | 0 => 0
  | n + 1 => sI F n + F n
theorem sI_cg {F G : Nat → Int32} : ∀ n, (∀ i, i < n → F i = G i) → sI F n = sI G n
  | 0, _ => rfl
  | n + 1, h => by rw [sI, sI, sI_cg n (fun i hi => h i (by omega)), h n (by omega)]
theorem sI_z {F : Nat → Int32} : ∀ n, (∀ i, i < n → F i = 0) → sI F n = 0
  | 0, _ => rfl
  | n + 1, h => by
    rw [sI, sI_z n (fun i hi => h i (by omega)), h n (by omega)]
    rfl
theorem sI_1 {F : Nat → Int32} {k : Nat} : ∀ n, k < n → (∀ i, i < n → i ≠ k → F i = 0) → sI F n = F k
  | 0, h, _ => by omega
  | n + 1, hk, h => by
    rw [sI]
    by_cases e : k = n
    · subst e
      rw [sI_z k (fun i hi => h i (by omega) (by omega)), Int32.zero_add]
    · rw [sI_1 n (by omega) (fun i hi => h i (by omega)), h n (by omega) (by omega), Int32.add_zero]
theorem sI_ex {F : Nat → Int32} : ∀ n, ¬ sI F n = 0 → ∃ i, i < n ∧ ¬ F i = 0
  | 0, h => absurd rfl h
  | n + 1, h => by
    by_cases e : F n = 0
    · rw [sI, e, Int32.add_zero] at h
      obtain ⟨i, a, b⟩ := sI_ex n h
      exact ⟨i, by omega, b⟩
    · exact ⟨n, by omega, e⟩
theorem sI_ad (F G : Nat → Int32) : ∀ n, sI (fun i => F i + G i) n = sI F n + sI G n
  | 0 => rfl
  | n + 1 => by
    rw [sI, sI, sI, sI_ad F G n]
    grind
theorem sI_sw (F : Nat → Nat → Int32) (m : Nat) : ∀ n, sI (fun i => sI (F i) m) n = sI (fun j => sI (fun i => F i j) n) m
  | 0 => by
    exact (sI_z m (fun i _ => rfl)).symm
  | n + 1 => by
    rw [sI, sI_sw F m n]
    rw [← sI_ad]
    rfl
/-- pairs as one number -/
theorem sI_pr (F : Nat → Nat → Int32) : ∀ n k, k ≤ 81 → sI (fun t => F (t / 81) (t % 81)) (81 * n + k) = sI (fun i => sI (F i) 81) n + sI (F n) k
  | 0, 0, _ => rfl
  | n + 1, 0, _ => by
    rw [show 81 * (n + 1) + 0 = 81 * n + 81 by omega, sI_pr F n 81 (Nat.le_refl _)]
    simp only [sI]
    rw [Int32.add_zero]
  | n, k + 1, h => by
    rw [show 81 * n + (k + 1) = 81 * n + k + 1 by omega, sI, sI_pr F n k (by omega), sI, Int32.add_assoc]
    rw [show (81 * n + k) / 81 = n by omega, show (81 * n + k) % 81 = k by omega]
theorem pwd_s (l r : Po) (w : Nat) : ∀ n, pwd l r n w = sI (fun t => if wd (t / 81) + wd (t % 81) = w then l (t / 81) * r (t % 81) else 0) n
  | 0 => rfl
  | n + 1 => by
    have ih := pwd_s l r w n
    simp only [pwd] at ih
    rw [sI]
    simp only [pwd, pwg, upd]
    by_cases e : w = wd (n / 81) + wd (n % 81)
    · rw [if_pos e, if_pos e.symm, ← e, ih]
    · rw [if_neg e, if_neg (fun z => e z.symm), ih, Int32.add_zero]
theorem pwd_d (l r : Po) (w : Nat) : pwd l r 6561 w = sI (fun i => sI (fun j => if wd i + wd j = w then l i * r j else 0) 81) 81 := by
  rw [pwd_s]
  have := sI_pr (fun i j => if wd i + wd j = w then l i * r j else 0) 81 0 (by omega)
  rw [show 81 * 81 + 0 = 6561 from rfl] at this
  rw [this, sI, Int32.add_zero]
/-- a digit of a narrow, of a wide index -/
def tg (k c : Nat) : Nat := k / 3 ^ c % 3
def dg (w c : Nat) : Nat := w / 5 ^ c % 5
def fitw (i j : Nat) : Bool := decide (tg i 0 + tg j 0 ≤ 2) && decide (tg i 1 + tg j 1 ≤ 2) && decide (tg i 2 + tg j 2 ≤ 2) && decide (tg i 3 + tg j 3 ≤ 2)
theorem w_dg : ∀ i, i < 81 → ∀ j, j < 81 → ∀ c, c < 4 → dg (wd i + wd j) c = tg i c + tg j c := by decide +kernel
theorem w_d1 : ∀ i, i < 81 → ∀ c, c < 4 → dg (wd i) c = tg i c := by decide +kernel
theorem w_ft : ∀ i, i < 81 → ∀ j, j < 81 → fitw i j = true → i + j < 81 ∧ wd (i + j) = wd i + wd j := by decide +kernel
theorem tg_le (k c : Nat) : tg k c ≤ 2 := by
  have := Nat.mod_lt (k / 3 ^ c) (show 0 < 3 by decide)
  rw [tg]
  omega
theorem fitw_i {i j : Nat} : fitw i j = true ↔ ∀ c, c < 4 → tg i c + tg j c ≤ 2 := by
  simp only [fitw, Bool.and_eq_true, decide_eq_true_eq]
  constructor
  · intro h c hc
    have : c = 0 ∨ c = 1 ∨ c = 2 ∨ c = 3 := by omega
    rcases this with rfl | rfl | rfl | rfl
    · exact h.1.1.1
    · exact h.1.1.2
    · exact h.1.2
    · exact h.2
  · intro h
    exact ⟨⟨⟨h 0 (by decide), h 1 (by decide)⟩, h 2 (by decide)⟩, h 3 (by decide)⟩
theorem w_in {i j k : Nat} (hi : i < 81) (hj : j < 81) (hk : k < 81) : wd i + wd j = wd k ↔ (fitw i j = true ∧ i + j = k) := by
  constructor
  · intro e
    have f : fitw i j = true := by
      rw [fitw_i]
      intro c hc
      rw [← w_dg i hi j hj c hc, e, w_d1 k hk c hc]
      exact tg_le k c
    obtain ⟨a, b⟩ := w_ft i hi j hj f
    exact ⟨f, wd_inj _ a _ hk (b.trans e)⟩
  · rintro ⟨f, rfl⟩
    exact ((w_ft i hi j hj f).2).symm
/-- no pair of terms leaves the powers -/
def AFw (l r : Po) : Prop := ∀ i j, i < 81 → j < 81 → ¬ l i = 0 → ¬ r j = 0 → fitw i j = true
theorem out_n {l r : Po} (h : AFw l r) : ¬ outW (pwd l r 6561) := by
  rintro ⟨w, hw, h1, h2⟩
  rw [pwd_d] at h2
  obtain ⟨i, hi, h3⟩ := sI_ex 81 h2
  obtain ⟨j, hj, h4⟩ := sI_ex 81 h3
  by_cases e : wd i + wd j = w
  · rw [if_pos e] at h4
    have a : ¬ l i = 0 := fun z => h4 (by rw [z, Int32.zero_mul])
    have b : ¬ r j = 0 := fun z => h4 (by rw [z, Int32.mul_zero])
    obtain ⟨p, q⟩ := w_ft i hi j hj (h i j hi hj a b)
    exact h1 (i + j) p (q.trans e)
  · exact h4 (if_neg e)
/-- the greatest of the terms by a key -/
theorem mx_ex (P : Nat → Prop) (K : Nat → Nat) : ∀ n, (∃ i, i < n ∧ P i) → ∃ i, i < n ∧ P i ∧ ∀ j, j < n → P j → K j ≤ K i
  | 0, ⟨i, h, _⟩ => by omega
  | n + 1, ⟨i, h, hp⟩ => by
    by_cases e : ∃ i, i < n ∧ P i
    · obtain ⟨m, a, b, c⟩ := mx_ex P K n e
      by_cases q : P n ∧ K m < K n
      · refine ⟨n, by omega, q.1, fun j hj hpj => ?_⟩
        rcases Nat.lt_or_ge j n with z | z
        · have := c j z hpj
          omega
        · have : j = n := by omega
          subst this
          exact Nat.le_refl _
      · refine ⟨m, by omega, b, fun j hj hpj => ?_⟩
        rcases Nat.lt_or_ge j n with z | z
        · exact c j z hpj
        · have : j = n := by omega
          subst this
          exact Nat.le_of_not_lt (fun z => q ⟨hpj, z⟩)
    · have e1 : i = n := by
        rcases Nat.lt_or_ge i n with z | z
        · exact absurd ⟨i, z, hp⟩ e
        · omega
      subst e1
      refine ⟨i, by omega, hp, fun j hj hpj => ?_⟩
      rcases Nat.lt_or_ge j i with z | z
      · exact absurd ⟨j, z, hpj⟩ e
      · have : j = i := by omega
        subst this
        exact Nat.le_refl _
def key (c i : Nat) : Nat := 625 * tg i c + wd i
theorem out_y {l r : Po} (hm : ∀ i j, i < 81 → j < 81 → ¬ l i = 0 → ¬ r j = 0 → ¬ l i * r j = 0) (h : ¬ AFw l r) : outW (pwd l r 6561) := by
  have h0 : ∃ i j c, i < 81 ∧ j < 81 ∧ ¬ l i = 0 ∧ ¬ r j = 0 ∧ c < 4 ∧ 2 < tg i c + tg j c := by
    refine Classical.byContradiction (fun q => h (fun i j hi hj a b => ?_))
    rw [fitw_i]
    intro c hc
    refine Classical.byContradiction (fun z => q ⟨i, j, c, hi, hj, a, b, hc, by omega⟩)
  obtain ⟨i, j, c, hi, hj, a, b, hc, hd⟩ := h0
  obtain ⟨I, hI, aI', mI⟩ := mx_ex (fun i => ¬ l i = 0) (key c) 81 ⟨i, hi, a⟩
  obtain ⟨J, hJ, aJ, mJ⟩ := mx_ex (fun i => ¬ r i = 0) (key c) 81 ⟨j, hj, b⟩
  have wI := wd_lt I hI
  have wJ := wd_lt J hJ
  have wi := wd_lt i hi
  have wj := wd_lt j hj
  have k1 := mI i hi a
  have k2 := mJ j hj b
  simp only [key] at k1 k2
  have big : 2 < tg I c + tg J c := by omega
  have one : ∀ p q, p < 81 → q < 81 → ¬ l p = 0 → ¬ r q = 0 → wd p + wd q = wd I + wd J → p = I ∧ q = J := by
    intro p q hp hq ap aq e
    have z1 := mI p hp ap
    have z2 := mJ q hq aq
    have z3 : tg p c + tg q c = tg I c + tg J c := by rw [← w_dg p hp q hq c hc, e, w_dg I hI J hJ c hc]
    simp only [key] at z1 z2
    have wp := wd_lt p hp
    have wq := wd_lt q hq
    exact ⟨wd_inj p hp I hI (by omega), wd_inj q hq J hJ (by omega)⟩
  refine ⟨wd I + wd J, by omega, fun k hk e => ?_, ?_⟩
  · have := (w_in hI hJ hk).mp e.symm
    have := fitw_i.mp this.1 c hc
    omega
  · rw [pwd_d, sI_1 (k := I) 81 hI, sI_1 (k := J) 81 hJ]
    · rw [if_pos rfl]
      exact hm I J hI hJ aI' aJ
    · intro q hq hne
      by_cases e : wd I + wd q = wd I + wd J
      · exact absurd (wd_inj q hq J hJ (by omega)) hne
      · rw [if_neg e]
    · intro p hp hne
      refine sI_z 81 (fun q hq => ?_)
      by_cases e : wd p + wd q = wd I + wd J
      · rw [if_pos e]
        by_cases e1 : l p = 0
        · rw [e1, Int32.zero_mul]
        · by_cases e2 : r q = 0
          · rw [e2, Int32.mul_zero]
          · exact absurd (one p q hp hq e1 e2 e).1 hne
      · rw [if_neg e]
