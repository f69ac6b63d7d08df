/-! The reference's fault and define, over the invariant. -/
theorem bi_upd (th : Nat → Bool) (q : Nat) : upd (fun j => bi (th j)) q 1 = fun j => bi (if j = q then true else th j) := by
  funext j
  simp only [upd]
  by_cases e : j = q
  · rw [if_pos e, if_pos e]
    rfl
  · rw [if_neg e, if_neg e]
section LB
variable {N : Nat} {h : xHp} {f : Nat → Int32} {n : Nat} {pl bs tf : Nat → Int32} {tn : Nat} {Qs : Nat → CQ}
theorem MI_M {ca cd gp : Int32} {S : RS} {C : CS} {h h' : xHp} (hI : MI f n pl bs tf tn Qs h) (hS : RI (nI n) (nI tn) ca cd gp S h') (hC : CI (nI n) (nI tn) ca cd gp (bi (lgO S)) C h') (fr : frM h h') : frL h h' ∧ MI f n pl bs tf tn Qs h' := by
  obtain ⟨-, -, -, -, -, th, te, co, gr, cn, cf, po, a1, -, -, ⟨b1, b2, b3, b4, b5, b6, b7⟩, a5⟩ := hI
  exact ⟨fun k hk => fr k (by omega) (by omega), ca, cd, gp, S, C, th, te, co, gr, cn, cf, po, ⟨(fr _ (by decide) (by decide)).trans a1.1, (fr _ (by decide) (by decide)).trans a1.2.1, (fr _ (by decide) (by decide)).trans a1.2.2.1, (fr _ (by decide) (by decide)).trans a1.2.2.2⟩, hS, hC, ⟨(fr _ (by decide) (by decide)).trans b1, (fr _ (by decide) (by decide)).trans b2, (fr _ (by decide) (by decide)).trans b3, (fr _ (by decide) (by decide)).trans b4, (fr _ (by decide) (by decide)).trans b5, (fr _ (by decide) (by decide)).trans b6, (fr _ (by decide) (by decide)).trans b7⟩, a5⟩
theorem m_fault (hN : 116 ≤ N) (ht : tn ≤ 30) (hI : MI f n pl bs tf tn Qs h) : XM y_M_fault b_M_fault 1 (some .int) 5 0 0 [.ref 94] N h (fun v h' => frL h h' ∧ v = some (.int (fltC gz tf tn)) ∧ MI f n pl bs tf tn Qs h') := by
  obtain ⟨ca, cd, gp, S, C, th, te, co, gr, cn, cf, po, a1, a2, a3, a4, a5⟩ := id hI
  refine xM_mono (c_M_fault hN ht a1.2.2.2 a2 a3) ?_
  have hw := (rd_w (f := tf) ht cd S C).1
  generalize rdA tf tn cd S C = A at hw
  rintro v h' ⟨rfl, r1, r2, r3⟩
  obtain ⟨x1, x2⟩ := MI_M hI r1 r2 r3
  exact ⟨x1, by rw [hw], x2⟩
/-- what the reference's define answers and leaves -/
def dM (f : Nat → Int32) (n : Nat) (pl bs tf : Nat → Int32) (tn : Nat) (Qs : Nat → CQ) (q : Int32) (v : Option Value) (h' : xHp) : Prop :=
  (isQn q = false ∧ v = some (.int (-1)) ∧ MI f n pl bs tf tn Qs h') ∨ (isQn q = true ∧ ¬ fltC gz tf tn = -2 ∧ v = some (.int (-2)) ∧ MI f n pl bs tf tn Qs h') ∨ (isQn q = true ∧ fltC gz tf tn = -2 ∧ ∃ τ, gRes gz tf tn = .inr τ ∧ ((dfP tf tn τ = none ∧ v = some (.int (-3)) ∧ MI f n pl bs tf tn Qs h') ∨ ∃ P e, dfP tf tn τ = some (P, e) ∧ v = some (.int (nI (filN P 81))) ∧ ∀ Q', isNew τ P Q' → MI f n pl bs tf tn (upQ Qs q.toNatClampNeg Q') h'))
theorem dfP_w {f : Nat → Int32} {n : Nat} {S : RS} {A : Int32 × Int32 × Int32 × Int32 × RS × CS} {a b k : Nat} {τ : GS} (hn : n ≤ 30) (hz : rdZ f n S A a b k τ) : (dfP f n τ = none ∧ lgO A.2.2.2.2.1 = true) ∨ ∃ P e, dfP f n τ = some (P, e) ∧ lgO A.2.2.2.2.1 = false := by
  obtain ⟨hab, hb, hk7, z0, z1, z2, z3, z4, z5, z6, z7, z8, z9, z10, z11, z12⟩ := hz
  have hv := val_w (f := f) hn hab hb (S := S) z10 z11
  rw [← z12] at hv
  have hdf : dfP f n τ = (eLev f n 9).1 (nI (b - a + 2)) := by
    unfold dfP
    rw [z1, z2, nI_sb hab, nI_1, nI_1]
  rw [hdf]
  rcases hv with v | ⟨P', e', v1, v2, -⟩
  · exact Or.inl v
  · exact Or.inr ⟨P', e', v1, v2⟩
theorem m_define (q : Int32) (hN : 116 ≤ N) (ht : tn ≤ 30) (hI : MI f n pl bs tf tn Qs h) : XM y_M_define b_M_define 4 (some .int) 5 0 0 [.ref 94, .int q] N h (fun v h' => frL h h' ∧ dM f n pl bs tf tn Qs q v h') := by
  obtain ⟨ca, cd, gp, S, C, th, te, co, gr, cn, cf, po, a1, a2, a3, ⟨b1, b2, b3, b4, b5, b6, b7⟩, a5⟩ := id hI
  refine xM_mono (c_M_define q hN ht a1.2.2.2 a2 a3 b1 b2 b3 b4 b5 b6 b7) ?_
  have hw := rd_w (f := tf) ht cd S C
  generalize rdA tf tn cd S C = A at hw
  intro v h' z
  by_cases c1 : isQn q = false
  · rw [if_pos c1] at z
    obtain ⟨rfl, rfl⟩ := z
    exact ⟨fun _ _ => rfl, Or.inl ⟨c1, rfl, hI⟩⟩
  · rw [if_neg c1] at z
    have c1' : isQn q = true := by simpa using c1
    obtain ⟨r1, r2, r3⟩ := z
    by_cases c2 : A.1 = -2
    · rw [if_pos c2] at r3
      obtain ⟨a, b, k, τ, hz⟩ := hw.2 c2
      have hd := dfP_w ht hz
      have c2' : fltC gz tf tn = -2 := by rw [← hw.1]; exact c2
      rcases hd with ⟨d1, d2⟩ | ⟨P, e, d1, d2⟩
      · rw [if_pos d2] at r3
        obtain ⟨rfl, r4⟩ := r3
        obtain ⟨x1, x2⟩ := MI_M hI r1 r2 r4
        exact ⟨x1, Or.inr (Or.inr ⟨c1', c2', τ, hz.2.2.2.1, Or.inl ⟨d1, rfl, x2⟩⟩)⟩
      · rw [if_neg (by rw [d2]; decide)] at r3
        obtain ⟨rfl, r4, r5, r6, r7, r8, r9, r10, r11⟩ := r3
        obtain ⟨qn, hqn, rfl⟩ := isQn_n c1'
        rw [nI_clamp (by omega)] at r5 r6 r7 r8 r9 r10 r11
        refine ⟨fun j hj => r4 j (Or.inl hj), Or.inr (Or.inr ⟨c1', c2', τ, hz.2.2.2.1, Or.inr ⟨P, e, d1, ?_, fun Q' hQ' => ?_⟩⟩)⟩
        · have hv := val_w (f := tf) ht hz.1 hz.2.1 (S := S) hz.2.2.2.2.2.2.2.2.2.2.2.2.2.1 hz.2.2.2.2.2.2.2.2.2.2.2.2.2.2.1
          rw [← hz.2.2.2.2.2.2.2.2.2.2.2.2.2.2.2] at hv
          have hdf : dfP tf tn τ = (eLev tf tn 9).1 (nI (b - a + 2)) := by
            unfold dfP
            rw [hz.2.2.2.2.1, hz.2.2.2.2.2.1, nI_sb hz.1, nI_1, nI_1]
          rcases hv with ⟨v1, v2⟩ | ⟨P', e', v1, v2, v3, v4⟩
          · rw [d2] at v2
            cases v2
          · rw [hdf, v1] at d1
            cases d1
            rw [fil_w v3]
        · rw [nI_clamp (by omega)]
          have nw := qRel_n (q := qn) (th := th) (te := te) (co := co) (gr := gr) (cn := cn) (cf := cf) (po := po) ht hz d2 d1 hQ'
          rw [bi_upd] at r5
          refine ⟨A.2.1, A.2.2.1, A.2.2.2.1, A.2.2.2.2.1, A.2.2.2.2.2, fun j => if j = qn then true else th j, _, _, _, _, _, _, ⟨(r4 _ (by decide)).trans a1.1, (r4 _ (by decide)).trans a1.2.1, (r4 _ (by decide)).trans a1.2.2.1, (r4 _ (by decide)).trans a1.2.2.2⟩, r1, r2, ⟨r5, r6, r7, r8, r9, r10, r11⟩, fun i hi => ?_⟩
          by_cases e : i = qn
          · subst e
            rw [show ∀ Q, upQ Qs i Q i = Q from fun Q => if_pos rfl]
            exact nw.1
          · rw [show ∀ Q, upQ Qs qn Q i = Qs i from fun Q => if_neg e]
            exact qRel_o (a5 i hi) e nw.2.2
    · rw [if_neg c2] at r3
      obtain ⟨rfl, r4⟩ := r3
      obtain ⟨x1, x2⟩ := MI_M hI r1 r2 r4
      exact ⟨x1, Or.inr (Or.inl ⟨c1', by rw [← hw.1]; exact c2, rfl, x2⟩)⟩
end LB
