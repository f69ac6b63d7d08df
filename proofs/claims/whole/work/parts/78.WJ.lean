/-! Pure: the values alike: terms, sums, the whole expression. -/
section WJ
variable {f : Nat → Int32} {n a b : Nat}
theorem at_tx (hn : n ≤ 30) {p : Nat} (hp : p ≤ n) {c : Int32} (h0 : ¬ c = 0) (h1 : ¬ c = -1) : tx f n (nI p) = c ↔ at1 f n p = c := by
  rw [tx_n hn hp, at1]
  by_cases e : p < n
  · rw [if_pos e, if_pos e]
  · rw [if_neg e, if_neg e]
    exact ⟨fun z => absurd z.symm h0, fun z => absurd z.symm h1⟩
theorem stepP (hn : n ≤ 30) {m : Nat} (hF : PF f n a b m) (ih : ∀ m', m' < m → PP f n a b m') : PP f n a b m := by
  intro k p S d L P hm h1 hp hk hmn hL hlg hP hkp hr
  obtain ⟨k0, rfl⟩ : ∃ k0, k = k0 + 1 := ⟨k - 1, by omega⟩
  have hmn' : mnO S d = nI 0 := hmn
  have t := hF p S d L 0 hm h1 hp hmn' (by omega) hL hlg hr
  rw [show nI L - nI 0 = nI L from Int32.sub_zero _] at t
  rcases t with ⟨t1, t2⟩ | ⟨G, q, S1, t1, t2, t3, t4, ⟨t5, t6, t7⟩, t8, t9, t10, t11⟩
  · left
    rw [eProd, t1]
    exact ⟨rfl, t2⟩
  · have e := ef_step (S := S1) (d := d) (P := P) (G := G) t8 (by
      rcases hP with ⟨x, y⟩ | ⟨x, y, z⟩
      · exact Or.inl ⟨(t6 d (Nat.le_refl _)).1.trans x, y⟩
      · exact Or.inr ⟨fun w => x ((t6 d (Nat.le_refl _)).1.symm.trans w), pr_cg y (fun j hj => (t5 (81 * d + j) (by omega)).2), z⟩) t9 t10
    rcases e with ⟨e1, e2⟩ | ⟨e1, e2, e3, e4, e5, e6⟩
    · left
      rw [eProd, t1]
      dsimp only
      rw [e1, if_neg (by decide)]
      refine ⟨rfl, ?_⟩
      rw [t4]
      exact lg_m _ _ _ _ _ _ _ _ _ e2
    · have hkm := kp_mul hkp t11 e2
      obtain ⟨r, hr2⟩ : ∃ r, n + 1 - q = r + 1 := ⟨n - q, by omega⟩
      have fr1 : ∀ j, j < 81 * (d + 1) → smO (efS S1 d) j = smO S j := fun j hj => by rw [ef_sm]; exact (t5 j hj).1
      have fr2 : ∀ j, j < 81 * d → tmO (efS S1 d) j = tmO S j := fun j hj => (ef_tm S1 d hj).trans (t5 j (by omega)).2
      have fr3 : ∀ j, j < d → bgO (efS S1 d) j = bgO S j ∧ mnO (efS S1 d) j = mnO S j := fun j hj => ⟨(ef_bg S1 d (by omega)).trans (t6 j (by omega)).1, by
        rw [efS_mn, upd, if_neg (by omega)]
        exact t7 j hj⟩
      have fr4 : ∀ j, j ≤ d → snO (efS S1 d) j = snO S j := fun j hj => by rw [ef_sn]; exact (t6 j hj).2
      have fr5 : mnO (efS S1 d) d = 0 := by rw [efS_mn, upd_s]
      by_cases c : at1 f n q = 42
      · have c' : tx f n (nI q) = 42 := (at_tx hn t3 (by decide) (by decide)).mpr c
        have hq : q < n := at1_l (by rw [c]; decide)
        have hE : rdE f n (nI (chN a (b + 1))) (n + 1 - q) (efS S1 d) q d (nI L) false = rdE f n (nI (chN a (b + 1))) r (efS S1 d) (q + 1) d (nI L) true := by
          rw [hr2, rdE, if_neg (by decide), show (if q < n then f q else -1) = at1 f n q from rfl, if_pos c]
        have u := ih r (by omega) k0 (q + 1) (efS S1 d) d L (pMul P G) (by omega) (by omega) (by omega) (by omega) fr5 hL e4 (Or.inr ⟨by rw [e6]; decide, e5, e3⟩) hkm (by rw [← hE, ← t4]; exact hr)
        have hP2 : eProd f n (eLev f n (9 - L)).2 (k0 + 1) P (nI p) = eProd f n (eLev f n (9 - L)).2 k0 (pMul P G) (nI (q + 1)) := by
          rw [eProd, t1]
          dsimp only
          rw [e1, if_pos rfl, if_pos c', nI_1]
        rw [hP2, t4, hE]
        rcases u with u | ⟨P', q', S2, u1, u2, u3, u4, u5, ⟨u6, u7, u8, u9⟩, u10, u11, u12, u13⟩
        · exact Or.inl u
        · exact Or.inr ⟨P', q', S2, u1, by omega, u3, u4, u5, ⟨fun j hj => (u6 j hj).trans (fr1 j hj), fun j hj => (u7 j hj).trans (fr2 j hj), fun j hj => ⟨(u8 j hj).1.trans (fr3 j hj).1, (u8 j hj).2.trans (fr3 j hj).2⟩, fun j hj => (u9 j hj).trans (fr4 j hj)⟩, u10, u11, u12, u13⟩
      · have c' : ¬ tx f n (nI q) = 42 := fun z => c ((at_tx hn t3 (by decide) (by decide)).mp z)
        right
        refine ⟨pMul P G, q, efS S1 d, ?_, t2, t3, t4, c, ⟨fr1, fr2, fr3, fr4⟩, fr5, e4, e5, hkm⟩
        rw [eProd, t1]
        dsimp only
        rw [e1, if_pos rfl, if_neg c']
theorem stepS (hn : n ≤ 30) {m : Nat} (hP : PP f n a b m) (ih : ∀ m', m' < m → PS f n a b m') : PS f n a b m := by
  intro k p S d L Z hm h1 hp hk hmn hbg hL hlg hZ hkp hr
  obtain ⟨k0, rfl⟩ : ∃ k0, k = k0 + 1 := ⟨k - 1, by omega⟩
  have t := hP 30 p S d L (pNum 1) hm h1 hp (by omega) hmn hL hlg (Or.inl ⟨hbg, rfl⟩) (kp_num a b 1) hr
  rcases t with ⟨t1, t2⟩ | ⟨P, q, S2, t1, t2, t3, t4, t5, ⟨t6, t7, t8, t9⟩, t10, t11, t12, t13⟩
  · left
    rw [eSum, t1]
    exact ⟨rfl, t2⟩
  · obtain ⟨r, hr2⟩ : ∃ r, n + 1 - q = r + 1 := ⟨n - q, by omega⟩
    obtain ⟨e1, e2⟩ := et_step (S := S2) (d := d) (Z := Z) (P := P) t11 (pr_cg hZ (fun j hj => t6 (81 * d + j) (by omega))) t12
    rw [t9 d (Nat.le_refl _)] at e1 e2
    have hka := kp_add hkp t13 (snO S d)
    cases hl : isLg (pAdd Z P (snO S d)) with
    | true =>
      left
      rw [eSum, t1]
      dsimp only
      rw [hl, if_pos rfl]
      refine ⟨rfl, ?_⟩
      rw [t4, hr2] at hr ⊢
      exact et_l t5 hr (e2.trans hl)
    | false =>
      have e2' := e2.trans hl
      have more : ∀ v : Int32, (at1 f n q = 43 ∨ at1 f n q = 45) → (if at1 f n q = 43 then (1 : Int32) else -1) = v → eSum f n (eLev f n (9 - L)).2 (k0 + 1) Z (snO S d) (nI p) = eSum f n (eLev f n (9 - L)).2 k0 (pAdd Z P (snO S d)) v (nI (q + 1)) → (eSum f n (eLev f n (9 - L)).2 (k0 + 1) Z (snO S d) (nI p) = none ∧ lgO (rdE f n (nI (chN a (b + 1))) m S p d (nI L) true).2.2 = true) ∨ ∃ (Z' : Po) (q : Nat) (S2 : RS), eSum f n (eLev f n (9 - L)).2 (k0 + 1) Z (snO S d) (nI p) = some (Z', nI q) ∧ p < q ∧ q ≤ n ∧ rdE f n (nI (chN a (b + 1))) m S p d (nI L) true = rdE f n (nI (chN a (b + 1))) (n + 1 - q) S2 q d (nI L) false ∧ (¬ at1 f n q = 42 ∧ ¬ (at1 f n q = 43 ∨ at1 f n q = 45)) ∧ ((∀ j, j < 81 * d → smO S2 j = smO S j ∧ tmO S2 j = tmO S j) ∧ (∀ j, j < d → bgO S2 j = bgO S j ∧ snO S2 j = snO S j ∧ mnO S2 j = mnO S j)) ∧ lgO (etS S2 d) = false ∧ pr (sg (smO (etS S2 d)) d) Z' ∧ isLg Z' = false ∧ kp a b Z' := by
        intro v c hv hs
        have hq : q < n := at1_l (by rcases c with c | c <;> rw [c] <;> decide)
        have hE : rdE f n (nI (chN a (b + 1))) (n + 1 - q) S2 q d (nI L) false = rdE f n (nI (chN a (b + 1))) r (snS (etS S2 d) d v) (q + 1) d (nI L) true := by
          rw [hr2, rdE, if_neg (by decide), show (if q < n then f q else -1) = at1 f n q from rfl, if_neg t5, if_pos c, hv]
        have u := ih r (by omega) k0 (q + 1) (snS (etS S2 d) d v) d L (pAdd Z P (snO S d)) (by omega) (by omega) (by omega) (by omega) t10 (upd_s _ _ _) hL e2' e1 hka (by rw [← hE, ← t4]; exact hr)
        rw [show snO (snS (etS S2 d) d v) d = v from upd_s _ _ _] at u
        rw [hs, t4, hE]
        rcases u with u | ⟨Z', q', S3, u1, u2, u3, u4, u5, ⟨u6, u7⟩, u8, u9, u10, u11⟩
        · exact Or.inl u
        · refine Or.inr ⟨Z', q', S3, u1, by omega, u3, u4, u5, ⟨fun j hj => ⟨?_, ?_⟩, fun j hj => ⟨?_, ?_, ?_⟩⟩, u8, u9, u10, u11⟩
          · rw [(u6 j hj).1]
            exact (et_sm S2 d hj).trans (t6 j (by omega))
          · rw [(u6 j hj).2]
            exact t7 j hj
          · rw [(u7 j hj).1]
            refine Eq.trans ?_ (t8 j hj).1
            show upd (bgO S2) d 0 j = _
            rw [upd, if_neg (by omega)]
          · rw [(u7 j hj).2.1]
            refine Eq.trans ?_ (t9 j (by omega))
            show upd (snO S2) d v j = _
            rw [upd, if_neg (by omega)]
          · rw [(u7 j hj).2.2]
            exact (t8 j hj).2
      by_cases c1 : at1 f n q = 43
      · refine more 1 (Or.inl c1) (if_pos c1) ?_
        rw [eSum, t1]
        dsimp only
        rw [hl, if_neg (by decide), if_pos ((at_tx hn t3 (by decide) (by decide)).mpr c1), nI_1]
      · have c1' : ¬ tx f n (nI q) = 43 := fun z => c1 ((at_tx hn t3 (by decide) (by decide)).mp z)
        by_cases c2 : at1 f n q = 45
        · refine more (-1) (Or.inr c2) (if_neg c1) ?_
          rw [eSum, t1]
          dsimp only
          rw [hl, if_neg (by decide), if_neg c1', if_pos ((at_tx hn t3 (by decide) (by decide)).mpr c2), nI_1]
        · have c2' : ¬ tx f n (nI q) = 45 := fun z => c2 ((at_tx hn t3 (by decide) (by decide)).mp z)
          right
          refine ⟨pAdd Z P (snO S d), q, S2, ?_, t2, t3, t4, ⟨t5, fun z => z.elim c1 c2⟩, ⟨fun j hj => ⟨t6 j (by omega), t7 j hj⟩, fun j hj => ⟨(t8 j hj).1, t9 j (by omega), (t8 j hj).2⟩⟩, e2', e1, hl, hka⟩
          rw [eSum, t1]
          dsimp only
          rw [hl, if_neg (by decide), if_neg c1', if_neg c2']
theorem all_w (hn : n ≤ 30) (hab : a ≤ b) (hb : b < 3) : ∀ m, PF f n a b m ∧ PP f n a b m ∧ PS f n a b m := by
  intro m
  induction m using Nat.strongRecOn with
  | _ m ih =>
    have h1 : PF f n a b m := stepF hn hab hb (fun m' h => ⟨(ih m' h).1, (ih m' h).2.2⟩)
    have h2 : PP f n a b m := stepP hn h1 (fun m' h => (ih m' h).2.1)
    exact ⟨h1, h2, stepS hn h2 (fun m' h => (ih m' h).2.2)⟩
/-- the polynomial of a whole text, as both have it -/
theorem val_w (hn : n ≤ 30) (hab : a ≤ b) (hb : b < 3) {S : RS} (hp : b - a + 2 ≤ n) (hr : (rdE f n (nI (chN a (b + 1))) (n + 1 - (b - a + 2)) (bgS (lgS S false) 0) (b - a + 2) 0 0 true).1 = true) :
    ((eLev f n 9).1 (nI (b - a + 2)) = none ∧ lgO (rdE f n (nI (chN a (b + 1))) (n + 1 - (b - a + 2)) (bgS (lgS S false) 0) (b - a + 2) 0 0 true).2.2 = true) ∨ ∃ P e, (eLev f n 9).1 (nI (b - a + 2)) = some (P, e) ∧ lgO (rdE f n (nI (chN a (b + 1))) (n + 1 - (b - a + 2)) (bgS (lgS S false) 0) (b - a + 2) 0 0 true).2.2 = false ∧ pr (smO (rdE f n (nI (chN a (b + 1))) (n + 1 - (b - a + 2)) (bgS (lgS S false) 0) (b - a + 2) 0 0 true).2.2) P ∧ kp a b P := by
  have hsum : (eLev f n 9).1 (nI (b - a + 2)) = eSum f n (eLev f n (9 - 0)).2 30 (pNum 0) 1 (nI (b - a + 2)) := rfl
  have t := (all_w (f := f) hn hab hb (n + 1 - (b - a + 2))).2.2 30 (b - a + 2) (bgS (lgS S false) 0) 0 0 (pNum 0) rfl (by omega) hp (by omega) (show upd (mnO S) 0 0 0 = 0 from upd_s _ _ _) (show upd (bgO S) 0 0 0 = 0 from upd_s _ _ _) (by omega) rfl (by
    intro k hk
    have := stF_in (smO S) 0 pZ (rho_lt k hk)
    rw [show sg (smO (bgS (lgS S false) 0)) 0 (rho k) = pZ (rho k) from this]
    show (0 : Int32) = upd pZ 0 0 k
    simp only [upd]
    split <;> rfl) (kp_num a b 0) hr
  rw [show snO (bgS (lgS S false) 0) 0 = 1 from (show upd (snO S) 0 1 0 = 1 from upd_s _ _ _), ← hsum] at t
  rw [show nI 0 = 0 from rfl] at t
  rcases t with t | ⟨Z, q, S2, t1, t2, t3, t4, ⟨t5, t5'⟩, t6, t8, t9, t10, t11⟩
  · exact Or.inl t
  · right
    obtain ⟨r, hr2⟩ : ∃ r, n + 1 - q = r + 1 := ⟨n - q, by omega⟩
    have hE : rdE f n (nI (chN a (b + 1))) (n + 1 - (b - a + 2)) (bgS (lgS S false) 0) (b - a + 2) 0 0 true = (true, q, etS S2 0) := by
      rw [t4, hr2, rdE, if_neg (by decide), show (if q < n then f q else -1) = at1 f n q from rfl, if_neg t5, if_neg t5', if_neg (fun z => absurd z.2 (by omega))] at hr ⊢
      by_cases c : 0 = 0 ∧ (at1 f n q = 63 ∨ at1 f n q = 47 ∨ q = n)
      · rw [if_pos c]
      · rw [if_neg c] at hr
        cases hr
    generalize etS S2 0 = X at hE t8 t9
    rw [hE]
    refine ⟨Z, nI q, t1, t8, pr_cg t9 (fun k hk => ?_), t11⟩
    show smO X k = smO X (81 * 0 + k)
    rw [Nat.mul_zero, Nat.zero_add]
end WJ
