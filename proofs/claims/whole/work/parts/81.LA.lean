/-! The reference's cells as one invariant, alike to the class's; its methods over it. -/
def MI (f : Nat → Int32) (n : Nat) (pl bs tf : Nat → Int32) (tn : Nat) (Qs : Nat → CQ) (h : xHp) : Prop := ∃ (ca cd gp : Int32) (S : RS) (C : CS) (th : Nat → Bool) (te co gr cn cf po : Nat → Int32), iM4 f pl bs tf h ∧ RI (nI n) (nI tn) ca cd gp S h ∧ CI (nI n) (nI tn) ca cd gp (bi (lgO S)) C h ∧ (h 102 = aB 4 (fun j => bi (th j)) ∧ h 103 = aI 4 te ∧ h 104 = aI 4 co ∧ h 105 = aI 4 gr ∧ h 106 = aI 4 cn ∧ h 107 = aI 40 cf ∧ h 108 = aI 324 po) ∧ ∀ i, i < 4 → qRel i (Qs i) th te co gr cn cf po
/-- what lies below stays -/
def frL (h h' : xHp) : Prop := ∀ k, k < 94 → h' k = h k
theorem RI.cg {ch ln ca cd gp : Int32} {S : RS} {h h' : xHp} (a : RI ch ln ca cd gp S h) (e : ∀ k, 94 ≤ k → k ≤ 115 → h' k = h k) : RI ch ln ca cd gp S h' := by
  obtain ⟨h1, h2, h3, h4, h5, h6, h7, pr, h8⟩ := a
  exact ⟨(e _ (by decide) (by decide)).trans h1, (e _ (by decide) (by decide)).trans h2, (e _ (by decide) (by decide)).trans h3, (e _ (by decide) (by decide)).trans h4, (e _ (by decide) (by decide)).trans h5, (e _ (by decide) (by decide)).trans h6, (e _ (by decide) (by decide)).trans h7, pr, (e _ (by decide) (by decide)).trans h8⟩
theorem CI.cg {ch ln ca cd gp lg : Int32} {C : CS} {h h' : xHp} (a : CI ch ln ca cd gp lg C h) (e : ∀ k, 94 ≤ k → k ≤ 115 → h' k = h k) : CI ch ln ca cd gp lg C h' := by
  obtain ⟨h1, h2, h3, h4⟩ := a
  exact ⟨(e _ (by decide) (by decide)).trans h1, (e _ (by decide) (by decide)).trans h2, (e _ (by decide) (by decide)).trans h3, (e _ (by decide) (by decide)).trans h4⟩
theorem iM4.cg {f pl bs tf : Nat → Int32} {h h' : xHp} (a : iM4 f pl bs tf h) (e : ∀ k, 94 ≤ k → k ≤ 115 → h' k = h k) : iM4 f pl bs tf h' := by
  obtain ⟨h1, h2, h3, h4⟩ := a
  exact ⟨(e _ (by decide) (by decide)).trans h1, (e _ (by decide) (by decide)).trans h2, (e _ (by decide) (by decide)).trans h3, (e _ (by decide) (by decide)).trans h4⟩
theorem MI.cg {f pl bs tf : Nat → Int32} {n tn : Nat} {Qs : Nat → CQ} {h h' : xHp} (a : MI f n pl bs tf tn Qs h) (e : frm h h') : MI f n pl bs tf tn Qs h' := by
  obtain ⟨ca, cd, gp, S, C, th, te, co, gr, cn, cf, po, a1, a2, a3, ⟨b1, b2, b3, b4, b5, b6, b7⟩, a5⟩ := a
  have e' : ∀ k, 94 ≤ k → k ≤ 115 → h' k = h k := fun k z _ => e k z
  exact ⟨ca, cd, gp, S, C, th, te, co, gr, cn, cf, po, a1.cg e', a2.cg e', a3.cg e', ⟨(e _ (by decide)).trans b1, (e _ (by decide)).trans b2, (e _ (by decide)).trans b3, (e _ (by decide)).trans b4, (e _ (by decide)).trans b5, (e _ (by decide)).trans b6, (e _ (by decide)).trans b7⟩, a5⟩
theorem IC.lo {f pl bs tf : Nat → Int32} {n tn : Nat} {Qs : Nat → CQ} {h h' : xHp} (a : IC f n pl bs tf tn Qs h) (e : frL h h') : IC f n pl bs tf tn Qs h' := by
  obtain ⟨h0, hR, hT, hG', hE, hQ⟩ := a
  exact ⟨(e 0 (by decide)).trans h0, hR.cg (fun k _ z => e k (by omega)), hT.cg (fun k _ z => e k (by omega)), hG'.cg (fun k _ z => e k (by omega)), hE.cg (fun k _ z => e k (by omega)), hQ.cg (fun k _ z => e k (by omega))⟩
theorem MI.ok {f pl bs tf : Nat → Int32} {n tn : Nat} {Qs : Nat → CQ} {h : xHp} (a : MI f n pl bs tf tn Qs h) : ∀ i, i < 4 → okQ (Qs i) := by
  obtain ⟨ca, cd, gp, S, C, th, te, co, gr, cn, cf, po, a1, a2, a3, a4, a5⟩ := a
  exact fun i hi => (a5 i hi).2.1
theorem CI_o {ch ln ca cd gp lg ch' ln' ca' cd' gp' lg' : Int32} {C : CS} {h : xHp} (i : CI ch ln ca cd gp lg C h) : CI ch' ln' ca' cd' gp' lg' C (va_up h 94 (oM ch' ln' ca' cd' gp' lg')) := ⟨vu_s, vu_t (by decide) i.2.1, vu_t (by decide) i.2.2.1, vu_t (by decide) i.2.2.2⟩
theorem RI_u {ch ln ca cd gp : Int32} {S : RS} {h : xHp} {k : Nat} {v : xE} (i : RI ch ln ca cd gp S h) (hk : k < 94 ∨ (94 < k ∧ k < 109)) : RI ch ln ca cd gp S (va_up h k v) := by
  obtain ⟨h1, h2, h3, h4, h5, h6, h7, pr, h8⟩ := i
  exact ⟨vu_t (by omega) h1, vu_t (by omega) h2, vu_t (by omega) h3, vu_t (by omega) h4, vu_t (by omega) h5, vu_t (by omega) h6, vu_t (by omega) h7, pr, vu_t (by omega) h8⟩
theorem CI_u {ch ln ca cd gp lg : Int32} {C : CS} {h : xHp} {k : Nat} {v : xE} (i : CI ch ln ca cd gp lg C h) (hk : k < 94 ∨ (94 < k ∧ k < 99) ∨ 101 < k) : CI ch ln ca cd gp lg C (va_up h k v) := ⟨vu_t (by omega) i.1, vu_t (by omega) i.2.1, vu_t (by omega) i.2.2.1, vu_t (by omega) i.2.2.2⟩
section LA
variable {N : Nat} {h : xHp} {f : Nat → Int32} {n : Nat} {pl bs tf : Nat → Int32} {tn : Nat} {Qs : Nat → CQ}
theorem m_change (r x y b : Int32) (hN : 116 ≤ N) (hn : n < 512) (hI : MI f n pl bs tf tn Qs h) : XM y_M_change b_M_change 8 (some .int) 2 0 0 [.ref 94, .int r, .int x, .int y, .int b] N h (fun v h' => frL h h' ∧ if rowOK r x y = true ∧ outOf (f (plOf r x y).toNatClampNeg) b = false then v = some (.int 0) ∧ MI (upd f (plOf r x y).toNatClampNeg (f (plOf r x y).toNatClampNeg + b)) (n + 1) (upd pl n (plOf r x y)) (upd bs n b) tf tn Qs h' else v = some (.int (-1)) ∧ MI f n pl bs tf tn Qs h') := by
  obtain ⟨ca, cd, gp, S, C, th, te, co, gr, cn, cf, po, a1, a2, a3, ⟨b1, b2, b3, b4, b5, b6, b7⟩, a5⟩ := id hI
  refine xM_mono (c_M_change r x y b hN hn a2.1 a1) ?_
  intro v h' q
  by_cases c : rowOK r x y = true ∧ outOf (f (plOf r x y).toNatClampNeg) b = false
  · rw [if_pos c] at q ⊢
    obtain ⟨rfl, rfl⟩ := q
    refine ⟨fun k hk => ?_, rfl, ca, cd, gp, S, C, th, te, co, gr, cn, cf, po, ⟨vu_t (by decide) (vu_t (by decide) (vu_t (by decide) vu_s)), vu_t (by decide) (vu_t (by decide) vu_s), vu_t (by decide) vu_s, vu_t (by decide) (vu_t (by decide) (vu_t (by decide) (vu_t (by decide) a1.2.2.2)))⟩, RI_o (RI_u (RI_u (RI_u a2 (by decide)) (by decide)) (by decide)), CI_o (CI_u (CI_u (CI_u a3 (by decide)) (by decide)) (by decide)), ⟨?_, ?_, ?_, ?_, ?_, ?_, ?_⟩, a5⟩
    · rw [vu_n (by omega), vu_n (by omega), vu_n (by omega), vu_n (by omega)]
    · exact vu_t (by decide) (vu_t (by decide) (vu_t (by decide) (vu_t (by decide) b1)))
    · exact vu_t (by decide) (vu_t (by decide) (vu_t (by decide) (vu_t (by decide) b2)))
    · exact vu_t (by decide) (vu_t (by decide) (vu_t (by decide) (vu_t (by decide) b3)))
    · exact vu_t (by decide) (vu_t (by decide) (vu_t (by decide) (vu_t (by decide) b4)))
    · exact vu_t (by decide) (vu_t (by decide) (vu_t (by decide) (vu_t (by decide) b5)))
    · exact vu_t (by decide) (vu_t (by decide) (vu_t (by decide) (vu_t (by decide) b6)))
    · exact vu_t (by decide) (vu_t (by decide) (vu_t (by decide) (vu_t (by decide) b7)))
  · rw [if_neg c] at q ⊢
    obtain ⟨rfl, rfl⟩ := q
    exact ⟨fun _ _ => rfl, rfl, hI⟩
theorem m_back (hN : 116 ≤ N) (hn : n ≤ 512) (hp : ∀ j, j < n → vp_in (pl j) 108) (hI : MI f n pl bs tf tn Qs h) : XM y_M_back b_M_back 1 (some .int) 0 0 0 [.ref 94] N h (fun v h' => frL h h' ∧ if n = 0 then v = some (.int (-1)) ∧ MI f n pl bs tf tn Qs h' else v = some (.int (nI (n - 1))) ∧ MI (upd f (pl (n - 1)).toNatClampNeg (f (pl (n - 1)).toNatClampNeg - bs (n - 1))) (n - 1) pl bs tf tn Qs h') := by
  obtain ⟨ca, cd, gp, S, C, th, te, co, gr, cn, cf, po, a1, a2, a3, ⟨b1, b2, b3, b4, b5, b6, b7⟩, a5⟩ := id hI
  refine xM_mono (c_M_back hN hn a2.1 a1 hp) ?_
  intro v h' q
  by_cases c : n = 0
  · rw [if_pos c] at q ⊢
    obtain ⟨rfl, rfl⟩ := q
    exact ⟨fun _ _ => rfl, rfl, hI⟩
  · rw [if_neg c] at q ⊢
    obtain ⟨rfl, rfl⟩ := q
    refine ⟨fun k hk => ?_, rfl, ca, cd, gp, S, C, th, te, co, gr, cn, cf, po, ⟨vu_s, vu_t (by decide) (vu_t (by decide) a1.2.1), vu_t (by decide) (vu_t (by decide) a1.2.2.1), vu_t (by decide) (vu_t (by decide) a1.2.2.2)⟩, RI_u (RI_o a2) (by decide), CI_u (CI_o a3) (by decide), ⟨?_, ?_, ?_, ?_, ?_, ?_, ?_⟩, a5⟩
    · rw [vu_n (by omega), vu_n (by omega)]
    · exact vu_t (by decide) (vu_t (by decide) b1)
    · exact vu_t (by decide) (vu_t (by decide) b2)
    · exact vu_t (by decide) (vu_t (by decide) b3)
    · exact vu_t (by decide) (vu_t (by decide) b4)
    · exact vu_t (by decide) (vu_t (by decide) b5)
    · exact vu_t (by decide) (vu_t (by decide) b6)
    · exact vu_t (by decide) (vu_t (by decide) b7)
theorem m_sign (c : Int32) (hN : 116 ≤ N) (ht : tn ≤ 30) (hI : MI f n pl bs tf tn Qs h) : XM y_M_sign b_M_sign 2 (some .int) 0 0 0 [.ref 94, .int c] N h (fun v h' => frL h h' ∧ if 33 ≤ c ∧ c ≤ 126 ∧ tn < 30 then v = some (.int (nI (tn + 1))) ∧ MI f n pl bs (upd tf tn c) (tn + 1) Qs h' else v = some (.int (-1)) ∧ MI f n pl bs tf tn Qs h') := by
  obtain ⟨ca, cd, gp, S, C, th, te, co, gr, cn, cf, po, a1, a2, a3, ⟨b1, b2, b3, b4, b5, b6, b7⟩, a5⟩ := id hI
  refine xM_mono (c_M_sign c hN ht a2.1 a1.2.2.2) ?_
  intro v h' q
  by_cases c1 : 33 ≤ c ∧ c ≤ 126 ∧ tn < 30
  · rw [if_pos c1] at q ⊢
    obtain ⟨rfl, rfl⟩ := q
    refine ⟨fun k hk => ?_, rfl, ca, cd, gp, S, C, th, te, co, gr, cn, cf, po, ⟨vu_t (by decide) (vu_t (by decide) a1.1), vu_t (by decide) (vu_t (by decide) a1.2.1), vu_t (by decide) (vu_t (by decide) a1.2.2.1), vu_t (by decide) vu_s⟩, RI_o (RI_u a2 (by decide)), CI_o (CI_u a3 (by decide)), ⟨?_, ?_, ?_, ?_, ?_, ?_, ?_⟩, a5⟩
    · rw [vu_n (by omega), vu_n (by omega)]
    · exact vu_t (by decide) (vu_t (by decide) b1)
    · exact vu_t (by decide) (vu_t (by decide) b2)
    · exact vu_t (by decide) (vu_t (by decide) b3)
    · exact vu_t (by decide) (vu_t (by decide) b4)
    · exact vu_t (by decide) (vu_t (by decide) b5)
    · exact vu_t (by decide) (vu_t (by decide) b6)
    · exact vu_t (by decide) (vu_t (by decide) b7)
  · rw [if_neg c1] at q ⊢
    obtain ⟨rfl, rfl⟩ := q
    exact ⟨fun _ _ => rfl, rfl, hI⟩
theorem m_clear (hN : 116 ≤ N) (hI : MI f n pl bs tf tn Qs h) : XM y_M_clear b_M_clear 1 (some .int) 0 0 0 [.ref 94] N h (fun v h' => frL h h' ∧ v = some (.int 0) ∧ MI f n pl bs tf 0 Qs h') := by
  obtain ⟨ca, cd, gp, S, C, th, te, co, gr, cn, cf, po, a1, a2, a3, ⟨b1, b2, b3, b4, b5, b6, b7⟩, a5⟩ := id hI
  refine xM_mono (c_M_clear hN a2.1) ?_
  rintro v h' ⟨rfl, rfl⟩
  exact ⟨fun k hk => vu_n (by omega), rfl, ca, cd, gp, S, C, th, te, co, gr, cn, cf, po, ⟨vu_t (by decide) a1.1, vu_t (by decide) a1.2.1, vu_t (by decide) a1.2.2.1, vu_t (by decide) a1.2.2.2⟩, RI_o a2, CI_o a3, ⟨vu_t (by decide) b1, vu_t (by decide) b2, vu_t (by decide) b3, vu_t (by decide) b4, vu_t (by decide) b5, vu_t (by decide) b6, vu_t (by decide) b7⟩, a5⟩
theorem m_count (r x y : Int32) (hN : 116 ≤ N) (hI : MI f n pl bs tf tn Qs h) : XM y_M_count b_M_count 5 (some .long) 2 0 0 [.ref 94, .int r, .int x, .int y] N h (xR (some (.long (if rowOK r x y then (f (plOf r x y).toNatClampNeg).toInt64 else 9000000000000000000))) h) := by
  obtain ⟨ca, cd, gp, S, C, th, te, co, gr, cn, cf, po, a1, a2, a3, a4, a5⟩ := hI
  exact c_M_count r x y hN a2.1 a1
theorem m_state (w : Int32) (hN : 116 ≤ N) (hI : MI f n pl bs tf tn Qs h) : XM y_M_state b_M_state 4 (some .int) 0 0 0 [.ref 94, .int w] N h (xR (some (.int (if w = 0 then nI tn else if w = 1 then nI n else if w = 2 then nI (filN f 108) else -1))) h) := by
  obtain ⟨ca, cd, gp, S, C, th, te, co, gr, cn, cf, po, a1, a2, a3, a4, a5⟩ := hI
  exact c_M_state w hN a2.1 a1
theorem m_drop (q : Int32) (hN : 116 ≤ N) (hI : MI f n pl bs tf tn Qs h) : XM y_M_drop b_M_drop 2 (some .int) 1 0 0 [.ref 94, .int q] N h (fun v h' => frL h h' ∧ if (isQn q && (Qs q.toNatClampNeg).1) = true then v = some (.int 0) ∧ MI f n pl bs tf tn (upQ Qs q.toNatClampNeg (false, (Qs q.toNatClampNeg).2)) h' else v = some (.int (-1)) ∧ MI f n pl bs tf tn Qs h') := by
  obtain ⟨ca, cd, gp, S, C, th, te, co, gr, cn, cf, po, a1, a2, a3, ⟨b1, b2, b3, b4, b5, b6, b7⟩, a5⟩ := id hI
  refine xM_mono (c_M_drop q hN a2.1 b1) ?_
  intro v h' z
  have e : (isQn q && th q.toNatClampNeg) = (isQn q && (Qs q.toNatClampNeg).1) := by
    cases hq : isQn q with
    | false => rfl
    | true =>
      obtain ⟨k, hk, rfl⟩ := isQn_n hq
      rw [nI_clamp (by omega), (a5 k hk).1]
  rw [e] at z
  by_cases c : (isQn q && (Qs q.toNatClampNeg).1) = true
  · rw [if_pos c] at z ⊢
    obtain ⟨rfl, rfl⟩ := z
    refine ⟨fun k hk => vu_n (by omega), rfl, ca, cd, gp, S, C, fun j => if j = q.toNatClampNeg then false else th j, te, co, gr, cn, cf, po, ⟨vu_t (by decide) a1.1, vu_t (by decide) a1.2.1, vu_t (by decide) a1.2.2.1, vu_t (by decide) a1.2.2.2⟩, RI_u a2 (by decide), CI_u a3 (by decide), ⟨vu_s, vu_t (by decide) b2, vu_t (by decide) b3, vu_t (by decide) b4, vu_t (by decide) b5, vu_t (by decide) b6, vu_t (by decide) b7⟩, fun i hi => ?_⟩
    obtain ⟨y1, y2, y3⟩ := a5 i hi
    by_cases e2 : i = q.toNatClampNeg
    · subst e2
      rw [show ∀ Q, upQ Qs q.toNatClampNeg Q q.toNatClampNeg = Q from fun Q => if_pos rfl]
      exact ⟨if_pos rfl, y2, fun z => by cases z⟩
    · rw [show ∀ Q, upQ Qs q.toNatClampNeg Q i = Qs i from fun Q => if_neg e2]
      exact ⟨(if_neg e2).trans y1, y2, y3⟩
  · rw [if_neg c] at z ⊢
    obtain ⟨rfl, rfl⟩ := z
    exact ⟨fun _ _ => rfl, rfl, hI⟩
theorem m_question (q w : Int32) (hN : 116 ≤ N) (hI : MI f n pl bs tf tn Qs h) : XM y_M_question b_M_question 3 (some .int) 1 0 0 [.ref 94, .int q, .int w] N h (xR (some (.int (if isQn q then qstV (Qs q.toNatClampNeg) w else -1))) h) := by
  obtain ⟨ca, cd, gp, S, C, th, te, co, gr, cn, cf, po, a1, a2, a3, ⟨b1, b2, b3, b4, b5, b6, b7⟩, a5⟩ := id hI
  refine xM_mono (c_M_question q w hN a2.1 b1 b2 b3 b4 b5) ?_
  rintro v h' ⟨rfl, rfl⟩
  refine ⟨?_, rfl⟩
  cases hq : isQn q with
  | false => rfl
  | true =>
    obtain ⟨k, hk, rfl⟩ := isQn_n hq
    rw [nI_clamp (by omega), if_pos rfl, if_pos rfl, qst_w (a5 k hk) w]
theorem m_qs (hI : MI f n pl bs tf tn Qs h) : ∃ (th : Nat → Bool) (Ms : Nat → MQ2), h 102 = aB 4 (fun j => bi (th j)) ∧ (∀ i, i < 4 → th i = (Qs i).1) ∧ ∀ i, i < 4 → th i = true → mqSt i (Ms i) h ∧ (∀ f, colM f (Ms i) 0 true 1296 = ansQ (Qs i) f (-1)) ∧ ∀ f grp, isVal grp = true → (if (Ms i).2.1 < 0 ∧ 0 < grp then 0 else colM f (Ms i) grp false 1296) = (if (Qs i).2.2.2.1 = -2 then (if grp = 0 then ansQ (Qs i) f (-1) else 0) else ansQ (Qs i) f grp) := by
  obtain ⟨ca, cd, gp, S, C, th, te, co, gr, cn, cf, po, a1, a2, a3, ⟨b1, b2, b3, b4, b5, b6, b7⟩, a5⟩ := hI
  have key : ∀ i, ∃ M : MQ2, i < 4 → th i = true → mqSt i M h ∧ (∀ f, colM f M 0 true 1296 = ansQ (Qs i) f (-1)) ∧ ∀ f grp, isVal grp = true → (if M.2.1 < 0 ∧ 0 < grp then 0 else colM f M grp false 1296) = (if (Qs i).2.2.2.1 = -2 then (if grp = 0 then ansQ (Qs i) f (-1) else 0) else ansQ (Qs i) f grp) := by
    intro i
    by_cases c : i < 4 ∧ th i = true
    · obtain ⟨M, ⟨m1, m2, m3, m4, m5, m6, m7, m8⟩, r1, r2⟩ := qRel_m (a5 i c.1) c.2
      exact ⟨M, fun _ _ => ⟨⟨m1, m2, ⟨co, b3, m3⟩, ⟨gr, b4, m4⟩, ⟨cn, b5, m5⟩, ⟨cf, b6, m6⟩, ⟨po, b7, m7⟩, m8⟩, r1, r2⟩⟩
    · exact ⟨(0, 0, 0, fun _ => 0, fun _ => 0), fun x y => absurd ⟨x, y⟩ c⟩
  obtain ⟨Ms, hMs⟩ := Classical.axiomOfChoice key
  exact ⟨th, Ms, b1, fun i hi => (a5 i hi).1, hMs⟩
theorem m_total (q : Int32) (hN : 116 ≤ N) (hI : MI f n pl bs tf tn Qs h) : XM y_M_total b_M_total 2 (some .long) 4 0 0 [.ref 94, .int q] N h (xR (some (.long (if (isQn q && (Qs q.toNatClampNeg).1) = true then ansQ (Qs q.toNatClampNeg) f (-1) else 9000000000000000000))) h) := by
  obtain ⟨th, Ms, t1, t2, t3⟩ := m_qs hI
  obtain ⟨ca, cd, gp, S, C, -, te, co, gr, cn, cf, po, a1, a2, -⟩ := hI
  refine xM_mono (c_M_total Ms q hN a2.1 a1 t1 (fun i hi ht => (t3 i hi ht).1)) ?_
  rintro v h' ⟨rfl, rfl⟩
  refine ⟨?_, rfl⟩
  cases hq : isQn q with
  | false => rfl
  | true =>
    obtain ⟨k, hk, rfl⟩ := isQn_n hq
    rw [nI_clamp (by omega), t2 k hk]
    cases hth : (Qs k).1 with
    | false => rfl
    | true =>
      rw [Bool.and_self, if_pos rfl, if_pos rfl, (t3 k hk ((t2 k hk).trans hth)).2.1]
theorem m_answer (q grp : Int32) (hN : 116 ≤ N) (hI : MI f n pl bs tf tn Qs h) : XM y_M_answer b_M_answer 3 (some .long) 4 0 0 [.ref 94, .int q, .int grp] N h (xR (some (.long (if (isQn q && (Qs q.toNatClampNeg).1) = true ∧ isVal grp = true then (if (Qs q.toNatClampNeg).2.2.2.1 = -2 then (if grp = 0 then ansQ (Qs q.toNatClampNeg) f (-1) else 0) else ansQ (Qs q.toNatClampNeg) f grp) else 9000000000000000000))) h) := by
  obtain ⟨th, Ms, t1, t2, t3⟩ := m_qs hI
  obtain ⟨ca, cd, gp, S, C, -, te, co, gr, cn, cf, po, a1, a2, -⟩ := hI
  refine xM_mono (c_M_answer Ms q grp hN a2.1 a1 t1 (fun i hi ht => (t3 i hi ht).1)) ?_
  rintro v h' ⟨rfl, rfl⟩
  refine ⟨?_, rfl⟩
  have e : (isQn q && th q.toNatClampNeg) = (isQn q && (Qs q.toNatClampNeg).1) := by
    cases hq : isQn q with
    | false => rfl
    | true =>
      obtain ⟨k, hk, rfl⟩ := isQn_n hq
      rw [nI_clamp (by omega), t2 k hk]
  rw [e]
  by_cases c : (isQn q && (Qs q.toNatClampNeg).1) = true ∧ isVal grp = true
  · have c' := c.1
    rw [Bool.and_eq_true] at c'
    obtain ⟨k, hk, rfl⟩ := isQn_n c'.1
    rw [if_pos c, if_pos c, nI_clamp (by omega)]
    rw [nI_clamp (by omega)] at c'
    rw [(t3 k hk ((t2 k hk).trans c'.2)).2.2 f grp c.2]
  · rw [if_neg c, if_neg c]
end LA
