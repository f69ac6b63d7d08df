/-! Pure: a question as both hold it. -/
def qRel (i : Nat) (Q : CQ) (th : Nat → Bool) (te co gr cn cf po : Nat → Int32) : Prop :=
  th i = Q.1 ∧ okQ Q ∧ (Q.1 = true → ∃ (k : Nat) (w : Nat → Nat), k ≤ 10 ∧ te i = nI (filN Q.2.2.2.2.2.2 81) ∧ co i = nI (chN Q.2.1 (Q.2.2.1 + 1)) ∧ gr i = Q.2.2.2.1 ∧ cn i = nI k ∧ Q.2.2.2.2.1 = nI k ∧ (∀ j, j < k → cf (10 * i + j) = nI (w j) ∧ w j < 8192 ∧ w j / 2048 < 4) ∧ (∀ c, c < 4 → Q.2.2.2.2.2.1 c = alF w k c) ∧ (∀ c, c < Q.2.1 ∨ Q.2.2.1 + 1 < c → alF w k c = 63) ∧ pr (fun j => po (81 * i + j)) Q.2.2.2.2.2.2 ∧ kp Q.2.1 Q.2.2.1 Q.2.2.2.2.2.2 ∧ (Q.2.2.2.1 = -2 ∨ ∃ x, Q.2.1 ≤ x ∧ x ≤ Q.2.2.1 + 1 ∧ Q.2.2.2.1 = nI x))
theorem chN_l : ∀ b, b < 3 → ∀ a, a ≤ b → chN a (b + 1) < 8 := by decide
/-- the reference's question and what it answers -/
theorem qRel_m {i : Nat} {Q : CQ} {th : Nat → Bool} {te co gr cn cf po : Nat → Int32} (h : qRel i Q th te co gr cn cf po) (ht : th i = true) : ∃ M : MQ2, (M.1 < 8 ∧ M.2.2.1 ≤ 10 ∧ co i = nI M.1 ∧ gr i = M.2.1 ∧ cn i = nI M.2.2.1 ∧ (∀ k, k < M.2.2.1 → cf (10 * i + k) = nI (M.2.2.2.1 k) ∧ M.2.2.2.1 k < 8192) ∧ (∀ k, k < 81 → po (81 * i + k) = M.2.2.2.2 k) ∧ (M.2.1 < 0 ∨ ∃ g : Nat, g < 4 ∧ M.2.1 = nI g)) ∧
    (∀ f, colM f M 0 true 1296 = ansQ Q f (-1)) ∧ ∀ f grp, isVal grp = true → (if M.2.1 < 0 ∧ 0 < grp then 0 else colM f M grp false 1296) = (if Q.2.2.2.1 = -2 then (if grp = 0 then ansQ Q f (-1) else 0) else ansQ Q f grp) := by
  obtain ⟨h1, ⟨o1, o2⟩, h2⟩ := h
  obtain ⟨k, w, r1, r2, r3, r4, r5, r6, r7, r8, r9, r10, r11, r12⟩ := h2 (h1.symm.trans ht)
  obtain ⟨t, a, b, g, cq, al, cf'⟩ := Q
  dsimp only at o1 o2 r2 r3 r4 r6 r8 r9 r10 r11 r12
  refine ⟨(chN a (b + 1), g, k, w, fun j => po (81 * i + j)), ⟨chN_l b o2 a o1, r1, r3, r4, r5, fun j hj => ⟨(r7 j hj).1, (r7 j hj).2.1⟩, fun j _ => rfl, ?_⟩, fun f => ?_, fun f grp hg => ?_⟩
  · rcases r12 with e | ⟨x, x1, x2, e⟩
    · left
      show g < 0
      rw [e]
      decide
    · exact Or.inr ⟨x, by omega, e⟩
  · exact tot_w r8 r9 o1 o2 (fun j hj => (r7 j hj).2.2) r10 r11 (Or.inl rfl)
  · dsimp only
    obtain ⟨v, hv, rfl⟩ := isVal_n hg
    rcases r12 with e | ⟨x, x1, x2, e⟩
    · subst e
      rw [if_pos rfl]
      have e0 : (0 : Int32) < nI v ↔ ¬ nI v = 0 := by
        rw [show (0 : Int32) = nI 0 from rfl, nI_ltI (by omega) (by omega), nI_inj (by omega) (by omega)]
        omega
      by_cases c : nI v = 0
      · rw [if_neg (fun z => (e0.mp z.2) c), if_pos c]
        exact tot_w r8 r9 o1 o2 (fun j hj => (r7 j hj).2.2) r10 r11 (Or.inr (by decide))
      · rw [if_pos ⟨by decide, e0.mpr c⟩, if_neg c]
    · subst e
      rw [if_neg (fun z => nI_pos (show x < 2 ^ 31 by omega) z.1), if_neg (nI_neg (by omega))]
      exact grp_w r8 r9 o1 o2 (fun j hj => (r7 j hj).2.2) r10 r11 x1 x2 hv
theorem qst_w {i : Nat} {Q : CQ} {th : Nat → Bool} {te co gr cn cf po : Nat → Int32} (h : qRel i Q th te co gr cn cf po) (w : Int32) : (if w = 0 then bi (th i) else if th i = false then -1 else if w = 1 then te i else if w = 2 then co i else if w = 3 then gr i else if w = 4 then cn i else -1) = qstV Q w := by
  obtain ⟨h1, -, h2⟩ := h
  rw [h1, qstV]
  by_cases e : w = 0
  · rw [if_pos e, if_pos e]
  · rw [if_neg e, if_neg e]
    cases hq : Q.1 with
    | false => rfl
    | true =>
      obtain ⟨k, w', r1, r2, r3, r4, r5, r6, -⟩ := h2 hq
      rw [if_neg (c := true = false) (by decide), if_neg (c := true = false) (by decide), r2, r3, r4, r5, r6]
/-- another question is made: this one stays -/
theorem qRel_o {i q : Nat} {Q : CQ} {th : Nat → Bool} {te co gr cn cf po : Nat → Int32} (h : qRel i Q th te co gr cn cf po) (hi : i ≠ q) {t : Bool} {u v x y : Int32} {F G : Nat → Int32} {k : Nat} (hk : k ≤ 10) : qRel i Q (fun j => if j = q then t else th j) (upd te q u) (upd co q v) (upd gr q x) (upd cn q y) (stG cf (10 * q) F k) (stF po q G 81) := by
  obtain ⟨h1, h0, h2⟩ := h
  refine ⟨(if_neg hi).trans h1, h0, fun ht => ?_⟩
  obtain ⟨k', w, r1, r2, r3, r4, r5, r6, r7, r8, r9, r10, r11⟩ := h2 ht
  refine ⟨k', w, r1, (if_neg hi).trans r2, (if_neg hi).trans r3, (if_neg hi).trans r4, (if_neg hi).trans r5, r6, fun j hj => ⟨?_, (r7 j hj).2⟩, r8, r9, pr_cg r10 (fun j hj => ?_), r11⟩
  · rw [← (r7 j hj).1]
    simp only [stG]
    rw [if_neg (by omega)]
  · simp only [stF]
    rw [if_neg (by omega)]
/-- the new question -/
theorem qRel_n {q : Nat} {Q : CQ} {th : Nat → Bool} {te co gr cn cf po : Nat → Int32} {f : Nat → Int32} {n : Nat} {S : RS} {A : Int32 × Int32 × Int32 × Int32 × RS × CS} {a b k : Nat} {τ : GS} {P : Po} {e : Int32} (hn : n ≤ 30) (hz : rdZ f n S A a b k τ) (hl : lgO A.2.2.2.2.1 = false) (hd : dfP f n τ = some (P, e)) (hN : isNew τ P Q) : qRel q Q (fun j => if j = q then true else th j) (upd te q (nI (filN A.2.2.2.2.1.1 81))) (upd co q A.2.1) (upd gr q A.2.2.2.1) (upd cn q A.2.2.1) (stG cf (10 * q) (cnD A.2.2.2.2.2) A.2.2.1.toNatClampNeg) (stF po q A.2.2.2.2.1.1 81) ∧ filN P 81 = filN A.2.2.2.2.1.1 81 ∧ A.2.2.1.toNatClampNeg ≤ 10 := by
  obtain ⟨hab, hb, hk7, z0, z1, z2, z3, z4, z5, z6, z7, z8, z9, z10, z11, z12⟩ := hz
  have hv := val_w (f := f) hn hab hb (S := S) z10 z11
  rw [← z12] at hv
  have hdf : dfP f n τ = (eLev f n 9).1 (nI (b - a + 2)) := by
    unfold dfP
    rw [z1, z2, nI_sb hab, nI_1, nI_1]
  rcases hv with ⟨v1, v2⟩ | ⟨P', e', v1, v2, v3, v4⟩
  · rw [hl] at v2
    cases v2
  · rw [hdf, v1] at hd
    cases hd
    obtain ⟨n1, n2, n3, n4, n5, n6, n7, n8⟩ := hN
    rw [z1] at n2
    rw [z2] at n3
    have e1 : Q.2.1 = a := (nI_inj (by have := n8.1; have := n8.2; omega) (by omega)).mp n2
    have e2 : Q.2.2.1 = b := (nI_inj (by have := n8.2; omega) (by omega)).mp n3
    have hf : filN P 81 = filN A.2.2.2.2.1.1 81 := (fil_w v3).symm
    have hc : A.2.2.1.toNatClampNeg = k := by rw [z6, nI_clamp (by omega)]
    have hw : ∀ j, j < k → cnD A.2.2.2.2.2 j = nI (wC A.2.2.2.2.2 j) ∧ wC A.2.2.2.2.2 j < 8192 ∧ wC A.2.2.2.2.2 j / 2048 < 4 := by
      intro j hj
      obtain ⟨x, y, zz, y1, y2, y3, y4, y5, y6, y7⟩ := z8 j hj
      obtain ⟨w1, w2⟩ := wC_v (by omega) y3 y4 y5 y6 y7
      rw [w1, w2]
      exact ⟨rfl, by omega, by omega⟩
    refine ⟨⟨(if_pos rfl).trans n1.symm, n8, fun _ => ⟨k, wC A.2.2.2.2.2, by omega, ?_, ?_, ?_, ?_, by rw [n5, z3], fun j hj => ⟨?_, (hw j hj).2⟩, fun c hc => ?_, ?_, fun j hj => ?_, ?_, ?_⟩⟩, hf, by omega⟩
    · rw [upd_s, ← hf, filN_pe 81 n7]
    · rw [upd_s, z5, e1, e2]
    · rw [upd_s, z7, n4]
    · rw [upd_s, z6]
    · rw [← (hw j hj).1, hc]
      simp only [stG]
      rw [if_pos (by omega), show 10 * q + j - 10 * q = j by omega]
    · rw [n6 c hc, z9 c hc]
    · rw [e1, e2]
      exact alF_o hb k z8
    · show stF po q A.2.2.2.2.1.1 81 (81 * q + rho j) = _
      have r := rho_lt j hj
      simp only [stF]
      rw [if_pos (by omega), show 81 * q + rho j - 81 * q = rho j by omega]
      exact (v3 j hj).trans (n7 j hj).symm
    · rw [e1, e2]
      intro j hj h0
      rw [n7 j hj] at h0
      exact v4 j hj h0
    · rw [e1, e2, n4]
      exact z4
