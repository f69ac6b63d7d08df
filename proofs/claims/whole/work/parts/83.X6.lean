/-! X: the script of the law, the law's own end. -/
/-- the script: L ints xs at the special address 0, below the first cell -/
def xX (Γ : xG) (L : Nat) (xs : Nat → Int32) : Prop :=
  match Γ with
  | (_, _, _, _, s, _, _, _, _, _, Ω) => va_X (Ω.2.2.2.1 0) L xs s Ω.2.2.2.2 ∧ Ω.2.2.2.1 0 < Ω.2.2.1
theorem xH_S {Ω : xO} {N : Nat} {h : xHp} {H : Heap} {locs : List Loc} (hH : xH Ω N h H) (hl : ∀ q ∈ locs, Ω.2.2.1 ≤ q.base) : va_S (fun q => Ω.2.2.1 ≤ q) Ω.2.2.2.2 H locs := ⟨by have := hH.2.1; have := hH.2.2.1; omega, fun q h1 h2 => hH.2.2.2.1 q (by have := hH.2.2.1; omega), hl⟩
theorem xi_0 (Ω : xO) : xi Ω 1000000 = Ω.2.2.2.1 0 := by rw [xi, if_neg (Nat.lt_irrefl _), Nat.sub_self]
section XR6
variable {Γ : xG} {y : MethodName} {cc : ByteArray} {nL : Nat} {ret : Option FieldType} {dd : Nat × Nat × Nat} {Q : State → Prop} {ce sl N : Nat} {h : xHp} {pc : Nat} {lv : List (Option Value)} {st : List Value}
theorem x_sld {L : Nat} {xs : Nat → Int32} {i : Int32} (hX : xX Γ L xs) (d : decode cc pc = .ok (.iaload, 1)) (hi : vp_in i L) (k : XW Γ y cc nL ret dd Q ce sl N h (pc + 1) lv (.int (xs i.toNatClampNeg) :: st)) : XW Γ y cc nL ret dd Q ce sl N h pc lv (.int i :: .ref 1000000 :: st) := by
  obtain ⟨p, l, e, R, s, m, args, below, meth, c, Ω⟩ := Γ
  intro C H locs ls hH hl hv
  obtain ⟨x1, x2⟩ := hX
  have hz := hH.2.2.1
  show W p l e R s m args below meth c H locs ce sl Q (F0 m pc ls (.int i :: .ref (xi Ω 1000000) :: st.map (xv Ω)))
  rw [xi_0]
  exact va_sld C.ex C.co x1 (by omega) (fun z => by have : Ω.2.2.1 ≤ Ω.2.2.2.1 0 := z; omega) (xH_S hH hl) hi d (k C H locs ls hH hl hv)
theorem x_slen {L : Nat} {xs : Nat → Int32} (hX : xX Γ L xs) (d : decode cc pc = .ok (.arraylength, 1)) (k : XW Γ y cc nL ret dd Q ce sl N h (pc + 1) lv (.int (nI L) :: st)) : XW Γ y cc nL ret dd Q ce sl N h pc lv (.ref 1000000 :: st) := by
  obtain ⟨p, l, e, R, s, m, args, below, meth, c, Ω⟩ := Γ
  intro C H locs ls hH hl hv
  obtain ⟨x1, x2⟩ := hX
  have hz := hH.2.2.1
  show W p l e R s m args below meth c H locs ce sl Q (F0 m pc ls (.ref (xi Ω 1000000) :: st.map (xv Ω)))
  rw [xi_0]
  exact va_slen C.ex C.co x1 (by omega) (fun z => by have : Ω.2.2.1 ≤ Ω.2.2.2.1 0 := z; omega) (xH_S hH hl) d (k C H locs ls hH hl hv)
end XR6
theorem if_v {c : Prop} [Decidable c] {v : Option Value} {a b : Int32} {P Q : Prop} (h : if c then v = some (.int a) ∧ P else v = some (.int b) ∧ Q) : ∃ x, v = some (.int x) ∧ ((c ∧ x = a ∧ P) ∨ (¬ c ∧ x = b ∧ Q)) := by
  by_cases e : c
  · rw [if_pos e] at h
    exact ⟨a, h.1, Or.inl ⟨e, rfl, h.2⟩⟩
  · rw [if_neg e] at h
    exact ⟨b, h.1, Or.inr ⟨e, rfl, h.2⟩⟩
/-- both objects hold the same, behind r calls -/
def LV (r : Nat) (h : xHp) : Prop := ∃ (f : Nat → Int32) (n : Nat) (pl bs tf : Nat → Int32) (tn : Nat) (Qs : Nat → CQ), IC f n pl bs tf tn Qs h ∧ MI f n pl bs tf tn Qs h ∧ n ≤ r ∧ tn ≤ 30 ∧ (∀ j, chOK (tf j)) ∧ ∀ j, j < n → vp_in (pl j) 108
theorem MI.o {f pl bs tf : Nat → Int32} {n tn : Nat} {Qs : Nat → CQ} {h : xHp} (a : MI f n pl bs tf tn Qs h) : ∃ ca cd gp lg, h 94 = oM (nI n) (nI tn) ca cd gp lg := by
  obtain ⟨ca, cd, gp, S, C, th, te, co, gr, cn, cf, po, a1, a2, -⟩ := a
  exact ⟨ca, cd, gp, _, a2.1⟩
theorem chOK_c {c : Int32} (h1 : 33 ≤ c) (h2 : c ≤ 126) : chOK c := by
  have a1 := Int32.le_iff_toInt_le.mp h1
  have a2 := Int32.le_iff_toInt_le.mp h2
  rw [show (33 : Int32).toInt = 33 from rfl] at a1
  rw [show (126 : Int32).toInt = 126 from rfl] at a2
  obtain ⟨z, hz⟩ : ∃ z : Nat, c.toInt = z := ⟨c.toInt.toNat, by omega⟩
  have e : c = nI z := Int32.toInt_inj.mp (by rw [nI_toInt (by omega), hz])
  rw [e]
  exact pk_charN (by omega)
theorem dO_v {f : Nat → Int32} {n : Nat} {pl bs tf : Nat → Int32} {tn : Nat} {Qs : Nat → CQ} {q : Int32} {v : Option Value} {h : xHp} (d : dOut f n pl bs tf tn Qs q v h) : ∃ x, v = some (.int x) := by
  rcases d with ⟨-, e, -⟩ | ⟨-, -, e, -⟩ | ⟨-, -, τ, -, ⟨-, e, -⟩ | ⟨P, e', Q', -, e, -⟩⟩
  · exact ⟨_, e⟩
  · exact ⟨_, e⟩
  · exact ⟨_, e⟩
  · exact ⟨_, e⟩
theorem dM_v {f : Nat → Int32} {n : Nat} {pl bs tf : Nat → Int32} {tn : Nat} {Qs : Nat → CQ} {q : Int32} {v : Option Value} {h : xHp} (d : dM f n pl bs tf tn Qs q v h) : ∃ x, v = some (.int x) := by
  rcases d with ⟨-, e, -⟩ | ⟨-, -, e, -⟩ | ⟨-, -, τ, -, ⟨-, e, -⟩ | ⟨P, e', -, e, -⟩⟩
  · exact ⟨_, e⟩
  · exact ⟨_, e⟩
  · exact ⟨_, e⟩
  · exact ⟨_, e⟩
/-- define on both sides: the same answer, the same questions -/
theorem d_both {f : Nat → Int32} {n : Nat} {pl bs tf : Nat → Int32} {tn : Nat} {Qs : Nat → CQ} {q : Int32} {x y : Int32} {h1 h2 : xHp} (d : dOut f n pl bs tf tn Qs q (some (.int x)) h1) (e : dM f n pl bs tf tn Qs q (some (.int y)) h2) : x = y ∧ ∃ Qs', IC f n pl bs tf tn Qs' h1 ∧ MI f n pl bs tf tn Qs' h2 := by
  rcases d with ⟨a1, a2, a3⟩ | ⟨a1, a2, a3, a4⟩ | ⟨a1, a2, τ, a3, a4⟩
  · rcases e with ⟨b1, b2, b3⟩ | ⟨b1, b2, b3, b4⟩ | ⟨b1, b2, σ, b3, b4⟩
    · cases a2
      cases b2
      exact ⟨rfl, Qs, a3, b3⟩
    · rw [a1] at b1
      cases b1
    · rw [a1] at b1
      cases b1
  · rcases e with ⟨b1, b2, b3⟩ | ⟨b1, b2, b3, b4⟩ | ⟨b1, b2, σ, b3, b4⟩
    · rw [a1] at b1
      cases b1
    · cases a3
      cases b3
      exact ⟨rfl, Qs, a4, b4⟩
    · exact absurd b2 a2
  · rcases e with ⟨b1, b2, b3⟩ | ⟨b1, b2, b3, b4⟩ | ⟨b1, b2, σ, b3, b4⟩
    · rw [a1] at b1
      cases b1
    · exact absurd a2 b2
    · rw [a3] at b3
      cases b3
      rcases a4 with ⟨c1, c2, c3⟩ | ⟨P, p', Q', c1, c2, c3, c4⟩
      · rcases b4 with ⟨d1, d2, d3⟩ | ⟨P2, p2, d1, d2, d3⟩
        · cases c2
          cases d2
          exact ⟨rfl, Qs, c3, d3⟩
        · rw [c1] at d1
          cases d1
      · rcases b4 with ⟨d1, d2, d3⟩ | ⟨P2, p2, d1, d2, d3⟩
        · rw [c1] at d1
          cases d1
        · rw [c1] at d1
          cases d1
          cases c2
          cases d2
          exact ⟨rfl, _, c4, d3 Q' c3⟩
