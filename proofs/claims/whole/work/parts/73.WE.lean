/-! Pure: the expression alike: places. -/
/-- the open signs as bits -/
def enc (mu : Nat → Nat) : Nat → Nat
  | 0 => 0
  | d + 1 => (enc mu d * 2 + 1) * 2 ^ mu (d + 1)
theorem enc_cg {a b : Nat → Nat} : ∀ d, (∀ j, j ≤ d → a j = b j) → enc a d = enc b d
  | 0, _ => rfl
  | d + 1, h => by rw [enc, enc, enc_cg d (fun j hj => h j (by omega)), h (d + 1) (Nat.le_refl _)]
theorem enc_lt (mu : Nat → Nat) : ∀ d, enc mu d < 2 ^ (d + sN mu (d + 1))
  | 0 => Nat.two_pow_pos _
  | d + 1 => by
    have ih := enc_lt mu d
    rw [enc, sN, show d + 1 + (sN mu (d + 1) + mu (d + 1)) = (d + sN mu (d + 1) + 1) + mu (d + 1) by omega, Nat.pow_add]
    refine Nat.mul_lt_mul_of_pos_right ?_ (Nat.two_pow_pos _)
    rw [Nat.pow_succ]
    omega
theorem enc_8 {mu : Nat → Nat} {d k : Nat} (h : d + sN mu (d + 1) ≤ k) : enc mu d < 2 ^ k := Nat.lt_of_lt_of_le (enc_lt mu d) (Nat.pow_le_pow_right (by decide) h)
theorem sh_l : ∀ B, B < 128 → (nI B <<< ((1 : Int32) &&& 31) ||| 0 = nI (B * 2)) ∧ (nI B <<< ((1 : Int32) &&& 31) ||| 1 = nI (B * 2 + 1)) := by decide +kernel
theorem sh_r : ∀ B, B < 256 → nI B >>> ((1 : Int32) &&& 31) = nI (B / 2) := by decide +kernel
theorem bit_0 : ∀ B, B < 256 → decide (nI B &&& 1 = 0) = decide (B % 2 = 0) := by decide +kernel
theorem gend_z : ∀ z, gend z (nI 0) = (0, nI 0)
  | 0 => rfl
  | z + 1 => by
    rw [gend, if_pos (by decide), sh_r 0 (by decide)]
    exact gend_z z
theorem gend_o : ∀ z k B, (2 * B + 1) * 2 ^ z < 256 → gend (k + 1 + z) (nI ((2 * B + 1) * 2 ^ z)) = (k + 1, nI (2 * B + 1))
  | 0, k, B, h => by
    have h' : 2 * B + 1 < 256 := by omega
    have e := bit_0 _ h'
    rw [show decide ((2 * B + 1) % 2 = 0) = false by simp] at e
    rw [show (2 * B + 1) * 2 ^ 0 = 2 * B + 1 by omega, Nat.add_zero, gend, if_neg (by simpa using e)]
  | z + 1, k, B, h => by
    have e1 : (2 * B + 1) * 2 ^ (z + 1) = ((2 * B + 1) * 2 ^ z) * 2 := by rw [Nat.pow_succ, Nat.mul_assoc]
    rw [e1] at h ⊢
    have e := bit_0 _ h
    rw [show decide ((2 * B + 1) * 2 ^ z * 2 % 2 = 0) = true by simp] at e
    rw [show k + 1 + (z + 1) = (k + 1 + z) + 1 by omega, gend, if_pos (by simpa using e), sh_r _ h, Nat.mul_div_cancel _ (by decide)]
    exact gend_o z k B (by omega)
/-- the depth, the open signs and the bits fit -/
def eJ (mn : Nat → Int32) (d : Nat) (o : Int32) (op : Nat) (bt : Int32) (w : Bool) : Prop := ∃ mu : Nat → Nat, (∀ j, j ≤ d → mn j = nI (mu j)) ∧ o = nI op ∧ op = d + sN mu (d + 1) ∧ op ≤ 8 ∧ bt = nI (enc mu d) ∧ (w = false → mu d = 0)
theorem eJ_0 (mn : Nat → Int32) : eJ (upd mn 0 0) 0 0 0 0 true := ⟨fun _ => 0, fun j hj => by
  have : j = 0 := by omega
  subst this
  simp [upd]
  rfl, rfl, rfl, by decide, rfl, fun z => by cases z⟩
theorem eJ_w {mn : Nat → Int32} {d : Nat} {o : Int32} {op : Nat} {bt : Int32} {w : Bool} (h : eJ mn d o op bt w) : eJ mn d o op bt true := by
  obtain ⟨mu, a1, a2, a3, a4, a5, -⟩ := h
  exact ⟨mu, a1, a2, a3, a4, a5, fun z => by cases z⟩
theorem eJ_g {mn : Nat → Int32} {mu : Nat → Nat} {d : Nat} (a1 : ∀ j, j ≤ d → mn j = nI (mu j)) (a4 : d + sN mu (d + 1) ≤ 8) {o : Int32} (ho : o = nI (d + sN mu d)) : eJ (upd mn d 0) d o (gend (d + sN mu (d + 1)) (nI (enc mu d))).1 (gend (d + sN mu (d + 1)) (nI (enc mu d))).2 false := by
  have key : gend (d + sN mu (d + 1)) (nI (enc mu d)) = (d + sN mu d, nI (enc (fun j => if j = d then 0 else mu j) d)) := by
    cases d with
    | zero =>
      rw [enc, gend_z]
      rfl
    | succ e =>
      have h8 : enc mu (e + 1) < 2 ^ 8 := enc_8 a4
      have e2 : enc (fun j => if j = e + 1 then 0 else mu j) e = enc mu e := enc_cg e (fun j hj => if_neg (by omega))
      have e3 : enc (fun j => if j = e + 1 then 0 else mu j) (e + 1) = 2 * enc mu e + 1 := by
        rw [enc, e2, if_pos rfl, Nat.pow_zero, Nat.mul_one, Nat.mul_comm]
      rw [e3]
      rw [enc, Nat.mul_comm (enc mu e) 2] at h8
      rw [enc, sN, show e + 1 + (sN mu (e + 1) + mu (e + 1)) = (e + sN mu (e + 1)) + 1 + mu (e + 1) by omega, Nat.mul_comm (enc mu e) 2, gend_o _ _ _ (by omega)]
      rw [show e + sN mu (e + 1) + 1 = e + 1 + sN mu (e + 1) by omega]
  rw [key]
  have hs : sN (fun j => if j = d then 0 else mu j) d = sN mu d := sN_cg d (fun j hj => if_neg (by omega))
  refine ⟨fun j => if j = d then 0 else mu j, fun j hj => ?_, ho, ?_, ?_, rfl, fun _ => if_pos rfl⟩
  · by_cases e : j = d
    · subst e
      simp [upd]
      rfl
    · simp only [upd, if_neg e]
      exact a1 j hj
  · show d + sN mu d = _
    rw [sN, hs, if_pos rfl, Nat.add_zero]
  · show d + sN mu d ≤ 8
    rw [sN] at a4
    omega
theorem eJ_f {mn : Nat → Int32} {d : Nat} {o : Int32} {op : Nat} {bt : Int32} {w : Bool} (h : eJ mn d o op bt w) : eJ (upd mn d 0) d (o - mn d) (gend op bt).1 (gend op bt).2 false := by
  obtain ⟨mu, a1, rfl, rfl, a4, rfl, -⟩ := h
  refine eJ_g a1 a4 ?_
  rw [a1 d (Nat.le_refl _), nI_sb (by rw [sN]; omega)]
  congr 1
  rw [sN]
  omega
theorem eJ_m {mn : Nat → Int32} {d : Nat} {o : Int32} {op : Nat} {bt : Int32} {w : Bool} (h : eJ mn d o op bt w) (h8 : op < 8) : eJ (upd mn d (mn d + 1)) d (o + 1) (op + 1) (bt <<< ((1 : Int32) &&& 31) ||| 0) true := by
  obtain ⟨mu, a1, rfl, a3, a4, rfl, -⟩ := h
  have hb : enc mu d < 2 ^ 7 := enc_8 (by omega)
  have hs : sN (fun j => if j = d then mu j + 1 else mu j) d = sN mu d := sN_cg d (fun j hj => if_neg (by omega))
  refine ⟨fun j => if j = d then mu j + 1 else mu j, fun j hj => ?_, nI_1 op, ?_, by omega, ?_, fun z => by cases z⟩
  · by_cases e : j = d
    · subst e
      simp only [upd, if_true]
      rw [a1 j hj, nI_1]
    · simp only [upd, if_neg e]
      exact a1 j hj
  · rw [sN, hs, if_pos rfl]
    rw [sN] at a3
    omega
  · rw [(sh_l _ hb).1]
    congr 1
    cases d with
    | zero => rfl
    | succ e =>
      rw [enc, enc, if_pos rfl, Nat.pow_succ, enc_cg (b := mu) e (fun j hj => if_neg (by omega)), Nat.mul_assoc]
theorem eJ_b {mn : Nat → Int32} {d : Nat} {o : Int32} {op : Nat} {bt : Int32} {w : Bool} (h : eJ mn d o op bt w) (h8 : op < 8) : eJ (upd mn (d + 1) 0) (d + 1) (o + 1) (op + 1) (bt <<< ((1 : Int32) &&& 31) ||| 1) true := by
  obtain ⟨mu, a1, rfl, a3, a4, rfl, -⟩ := h
  have hb : enc mu d < 2 ^ 7 := enc_8 (by omega)
  have hs : sN (fun j => if j = d + 1 then 0 else mu j) (d + 1) = sN mu (d + 1) := sN_cg _ (fun j hj => if_neg (by omega))
  refine ⟨fun j => if j = d + 1 then 0 else mu j, fun j hj => ?_, nI_1 op, ?_, by omega, ?_, fun z => by cases z⟩
  · by_cases e : j = d + 1
    · subst e
      simp [upd]
      rfl
    · simp only [upd, if_neg e]
      exact a1 j (by omega)
  · rw [sN, hs, if_pos rfl]
    omega
  · rw [(sh_l _ hb).2]
    congr 1
    rw [enc, if_pos rfl, enc_cg (b := mu) d (fun j hj => if_neg (by omega))]
    omega
theorem eJ_c {mn : Nat → Int32} {d : Nat} {o : Int32} {op : Nat} {bt : Int32} (h : eJ mn (d + 1) o op bt false) : eJ (upd mn d 0) d (o - (1 + mn d)) (gend (op - 1) (bt >>> ((1 : Int32) &&& 31))).1 (gend (op - 1) (bt >>> ((1 : Int32) &&& 31))).2 false := by
  obtain ⟨mu, a1, rfl, rfl, a4, rfl, a6⟩ := h
  have hb : enc mu (d + 1) < 2 ^ 8 := enc_8 a4
  have z := a6 rfl
  have e1 : d + 1 + sN mu (d + 1 + 1) = d + sN mu (d + 1) + 1 := by
    rw [sN, z]
    omega
  rw [sh_r _ hb, e1, show enc mu (d + 1) / 2 = enc mu d by rw [enc, z]; omega, Nat.add_sub_cancel]
  refine eJ_g (fun j hj => a1 j (by omega)) (by omega) ?_
  rw [a1 d (by omega), show (1 : Int32) = nI 1 from rfl, nI_add, nI_sb (by rw [sN]; omega)]
  congr 1
  rw [sN]
  omega
theorem eJ_z {mn : Nat → Int32} {d : Nat} {o : Int32} {op : Nat} {bt : Int32} (h : eJ mn d o op bt false) : op = 0 ↔ d = 0 := by
  obtain ⟨mu, a1, rfl, rfl, a4, rfl, a6⟩ := h
  constructor
  · intro z
    omega
  · intro z
    subst z
    rw [sN, a6 rfl]
    rfl
theorem eJ_o {mn : Nat → Int32} {d : Nat} {o : Int32} {op : Nat} {bt : Int32} {w : Bool} (h : eJ mn d o op bt w) : (o ≠ 8 ↔ op < 8) := by
  obtain ⟨mu, a1, rfl, a3, a4, rfl, a6⟩ := h
  have : nI op = 8 ↔ op = 8 := nI_inj (b := 8) (by omega) (by decide)
  rw [Ne, this]
  omega
theorem eJ_t {mn : Nat → Int32} {o : Int32} {op : Nat} {bt : Int32} (h : eJ mn 0 o op bt false) : op = 0 ∧ bt = 0 := by
  refine ⟨(eJ_z h).mpr rfl, ?_⟩
  obtain ⟨mu, a1, rfl, rfl, a4, rfl, a6⟩ := h
  rfl
theorem cc_m {a : Nat} (ha : a < 3) (b : Int32) : isCC (nI a) b (-1) = false := by
  rw [isCC, show colOf (-1) = -1 from rfl, has_m a ha, Bool.false_and]
theorem col_40 : isDig 40 = false ∧ isDig 45 = false ∧ isDig (-1) = false ∧ colOf 40 = -1 ∧ colOf 45 = -1 := by decide
theorem rdE_w {f : Nat → Int32} {n a b : Nat} (hab : a ≤ b) (hb : b < 3) (t : Int32 × Int32 × Int32 × Int32 × (Nat → Int32)) : ∀ m p S d o w op bt, m = n + 1 - p → p ≤ n → eJ (mnO S) d o op bt w → ((rdE f n (nI (chN a (b + 1))) m S p d o w).1 = false → gFl n (gRun f (n - p) (if w then 2 else 3, nI a, nI b, op, bt, t) p) = nI (rdE f n (nI (chN a (b + 1))) m S p d o w).2.1) ∧ ((rdE f n (nI (chN a (b + 1))) m S p d o w).1 = true → p ≤ (rdE f n (nI (chN a (b + 1))) m S p d o w).2.1 ∧ (rdE f n (nI (chN a (b + 1))) m S p d o w).2.1 ≤ n ∧ gRun f (n - p) (if w then 2 else 3, nI a, nI b, op, bt, t) p = gRun f (n - (rdE f n (nI (chN a (b + 1))) m S p d o w).2.1) (3, nI a, nI b, 0, 0, t) (rdE f n (nI (chN a (b + 1))) m S p d o w).2.1 ∧ (at1 f n (rdE f n (nI (chN a (b + 1))) m S p d o w).2.1 = 63 ∨ at1 f n (rdE f n (nI (chN a (b + 1))) m S p d o w).2.1 = 47 ∨ (rdE f n (nI (chN a (b + 1))) m S p d o w).2.1 = n))
  | 0, p, S, d, o, w, op, bt, hm, hp, hJ => by omega
  | m + 1, p, S, d, o, w, op, bt, hm, hp, hJ => by
    rcases Nat.lt_or_ge p n with hlt | hge
    · -- a sign is there
      obtain ⟨k, hk⟩ : ∃ k, n - p = k + 1 := ⟨n - p - 1, by omega⟩
      have hk2 : n - (p + 1) = k := by omega
      rw [rdE, if_pos hlt, hk, has_w hab hb]
      generalize hc : f p = c
      have go : ∀ S' d' o' w' op' bt', eJ (mnO S') d' o' op' bt' w' → gTake (if w then 2 else 3, nI a, nI b, op, bt, t) c = some (if w' then 2 else 3, nI a, nI b, op', bt', t) → ((rdE f n (nI (chN a (b + 1))) m S' (p + 1) d' o' w').1 = false → gFl n (gRun f (k + 1) (if w then 2 else 3, nI a, nI b, op, bt, t) p) = nI (rdE f n (nI (chN a (b + 1))) m S' (p + 1) d' o' w').2.1) ∧ ((rdE f n (nI (chN a (b + 1))) m S' (p + 1) d' o' w').1 = true → p ≤ (rdE f n (nI (chN a (b + 1))) m S' (p + 1) d' o' w').2.1 ∧ (rdE f n (nI (chN a (b + 1))) m S' (p + 1) d' o' w').2.1 ≤ n ∧ gRun f (k + 1) (if w then 2 else 3, nI a, nI b, op, bt, t) p = gRun f (n - (rdE f n (nI (chN a (b + 1))) m S' (p + 1) d' o' w').2.1) (3, nI a, nI b, 0, 0, t) (rdE f n (nI (chN a (b + 1))) m S' (p + 1) d' o' w').2.1 ∧ (at1 f n (rdE f n (nI (chN a (b + 1))) m S' (p + 1) d' o' w').2.1 = 63 ∨ at1 f n (rdE f n (nI (chN a (b + 1))) m S' (p + 1) d' o' w').2.1 = 47 ∨ (rdE f n (nI (chN a (b + 1))) m S' (p + 1) d' o' w').2.1 = n)) := by
        intro S' d' o' w' op' bt' hJ' hg
        have ih := rdE_w (f := f) (n := n) hab hb t m (p + 1) S' d' o' w' op' bt' (by omega) (by omega) hJ'
        rw [gRun_s (hc ▸ hg), ← hk2]
        exact ⟨ih.1, fun h => ⟨by have := (ih.2 h).1; omega, (ih.2 h).2⟩⟩
      have bad : ∀ S' : RS, gTake (if w then 2 else 3, nI a, nI b, op, bt, t) c = none → (((false, p, S') : Bool × Nat × RS).1 = false → gFl n (gRun f (k + 1) (if w then 2 else 3, nI a, nI b, op, bt, t) p) = nI ((false, p, S') : Bool × Nat × RS).2.1) ∧ (((false, p, S') : Bool × Nat × RS).1 = true → p ≤ ((false, p, S') : Bool × Nat × RS).2.1 ∧ ((false, p, S') : Bool × Nat × RS).2.1 ≤ n ∧ gRun f (k + 1) (if w then 2 else 3, nI a, nI b, op, bt, t) p = gRun f (n - ((false, p, S') : Bool × Nat × RS).2.1) (3, nI a, nI b, 0, 0, t) ((false, p, S') : Bool × Nat × RS).2.1 ∧ (at1 f n ((false, p, S') : Bool × Nat × RS).2.1 = 63 ∨ at1 f n ((false, p, S') : Bool × Nat × RS).2.1 = 47 ∨ ((false, p, S') : Bool × Nat × RS).2.1 = n)) := by
        intro S' hg
        rw [gRun_n (hc ▸ hg)]
        exact ⟨fun _ => rfl, fun h => by cases h⟩
      cases w with
      | true =>
        rw [if_pos rfl]
        by_cases c1 : (isDig c || isCC (nI a) (nI b) c) = true
        · rw [if_pos c1]
          have n1 : ¬ (c = 40 ∨ c = 45) := by
            rintro (e | e)
            · subst e
              rw [col_40.1, isCC, col_40.2.2.2.1, has_m a (by omega)] at c1
              cases c1
            · subst e
              rw [col_40.2.1, isCC, col_40.2.2.2.2, has_m a (by omega)] at c1
              cases c1
          refine go _ d _ false (gend op bt).1 (gend op bt).2 ?_ ?_
          · rw [efS_mn]
            exact eJ_f hJ
          · show gFactor (2, nI a, nI b, op, bt, t) c = _
            rw [gFactor, if_neg n1, if_pos c1]
            rfl
        · rw [if_neg c1]
          by_cases c2 : c = 40 ∨ c = 45
          · by_cases c3 : op < 8
            · rw [if_pos ⟨c2, (eJ_o hJ).mpr c3⟩]
              by_cases c4 : c = 45
              · rw [if_pos c4]
                refine go _ d _ true (op + 1) _ (eJ_m hJ c3) ?_
                show gFactor (2, nI a, nI b, op, bt, t) c = _
                rw [gFactor, if_pos c2, if_pos c3, if_neg (by rw [c4]; decide)]
                rfl
              · rw [if_neg c4]
                refine go _ (d + 1) _ true (op + 1) _ (eJ_b hJ c3) ?_
                show gFactor (2, nI a, nI b, op, bt, t) c = _
                rw [gFactor, if_pos c2, if_pos c3, if_pos (by rcases c2 with e | e; exact e; exact absurd e c4)]
                rfl
            · rw [if_neg (fun z => c3 ((eJ_o hJ).mp z.2))]
              refine bad _ ?_
              show gFactor (2, nI a, nI b, op, bt, t) c = _
              rw [gFactor, if_pos c2, if_neg c3]
          · rw [if_neg (fun z => c2 z.1)]
            refine bad _ ?_
            show gFactor (2, nI a, nI b, op, bt, t) c = _
            rw [gFactor, if_neg c2, if_neg c1]
      | false =>
        rw [if_neg (by decide)]
        by_cases c1 : c = 42
        · rw [if_pos c1]
          refine go _ d _ true op bt (eJ_w hJ) ?_
          show gAfter (3, nI a, nI b, op, bt, t) c = _
          rw [gAfter, if_pos (Or.inr (Or.inr c1))]
          rfl
        · rw [if_neg c1]
          by_cases c2 : c = 43 ∨ c = 45
          · rw [if_pos c2]
            refine go _ d _ true op bt (eJ_w hJ) ?_
            show gAfter (3, nI a, nI b, op, bt, t) c = _
            rw [gAfter, if_pos (by rcases c2 with e | e; exact Or.inl e; exact Or.inr (Or.inl e))]
            rfl
          · rw [if_neg c2]
            have c3 : ¬ (c = 43 ∨ c = 45 ∨ c = 42) := by
              rintro (e | e | e)
              · exact c2 (Or.inl e)
              · exact c2 (Or.inr e)
              · exact c1 e
            have hz := eJ_z hJ
            by_cases c4 : c = 41 ∧ 0 < d
            · rw [if_pos c4]
              obtain ⟨e, rfl⟩ : ∃ e, d = e + 1 := ⟨d - 1, by omega⟩
              refine go _ e _ false (gend (op - 1) (bt >>> ((1 : Int32) &&& 31))).1 (gend (op - 1) (bt >>> ((1 : Int32) &&& 31))).2 ?_ ?_
              · rw [efS_mn]
                exact eJ_c hJ
              · show gAfter (3, nI a, nI b, op, bt, t) c = _
                rw [gAfter, if_neg c3, if_neg (fun z => by have := hz.mp z; omega), if_pos c4.1]
                rfl
            · rw [if_neg c4]
              by_cases c5 : d = 0 ∧ (c = 63 ∨ c = 47 ∨ p = n)
              · rw [if_pos c5]
                obtain ⟨c5a, c5b⟩ := c5
                subst c5a
                obtain ⟨z1, z2⟩ := eJ_t hJ
                subst z1 z2
                refine ⟨fun h => (by cases h), fun _ => ⟨Nat.le_refl _, hp, ?_, ?_⟩⟩
                · rw [← hk]
                  rfl
                · show at1 f n p = 63 ∨ at1 f n p = 47 ∨ p = n
                  rw [at1, if_pos hlt, hc]
                  exact c5b
              · rw [if_neg c5]
                refine bad _ ?_
                show gAfter (3, nI a, nI b, op, bt, t) c = _
                rw [gAfter, if_neg c3]
                by_cases c6 : op = 0
                · have d0 := hz.mp c6
                  rw [if_pos c6, gTail, if_neg (fun e => c5 ⟨d0, Or.inl e⟩), if_neg (fun e => c5 ⟨d0, Or.inr (Or.inl e)⟩)]
                · rw [if_neg c6, if_neg (fun e => c4 ⟨e, by
                    rcases Nat.eq_zero_or_pos d with q | q
                    · exact absurd (hz.mpr q) c6
                    · exact q⟩)]
    · -- the text's end
      have : p = n := by omega
      subst this
      rw [rdE, if_neg (Nat.lt_irrefl _), has_w hab hb, col_40.2.2.1, cc_m (by omega), Nat.sub_self, gRun]
      cases w with
      | true =>
        rw [if_pos rfl, if_neg (by decide), if_neg (fun z => absurd z.1 (by decide))]
        exact ⟨fun _ => rfl, fun h => by cases h⟩
      | false =>
        rw [if_neg (by decide), if_neg (by decide), if_neg (by decide), if_neg (fun z => absurd z.1 (by decide))]
        have hz := eJ_z hJ
        by_cases c1 : d = 0
        · subst c1
          obtain ⟨z1, z2⟩ := eJ_t hJ
          subst z1 z2
          rw [if_pos ⟨rfl, Or.inr (Or.inr rfl)⟩]
          refine ⟨fun h => (by cases h), fun _ => ⟨Nat.le_refl _, Nat.le_refl _, ?_, Or.inr (Or.inr rfl)⟩⟩
          show _ = gRun f (p - p) (3, nI a, nI b, 0, 0, t) p
          rw [Nat.sub_self]
          rfl
        · rw [if_neg (fun z => c1 z.1)]
          refine ⟨fun _ => ?_, fun h => by cases h⟩
          have : ¬ op = 0 := fun z => c1 (hz.mp z)
          show (if gW (3, nI a, nI b, op, bt, t) = true then (-2 : Int32) else nI p) = nI p
          rw [if_neg (by simp [gW, this])]
