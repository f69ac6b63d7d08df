/-! Grammar: object 7, allowed 8. State: step, first, last, open, bits, condition's column and kind, conditions, group, allowed. -/
abbrev GS : Type := Nat × Int32 × Int32 × Nat × Int32 × Int32 × Int32 × Int32 × Int32 × (Nat → Int32)
abbrev oG (σ : GS) : xE := .inr (3, [.int (nI σ.1), .int σ.2.1, .int σ.2.2.1, .int (nI σ.2.2.2.1), .int σ.2.2.2.2.1, .int σ.2.2.2.2.2.1, .int σ.2.2.2.2.2.2.1, .int σ.2.2.2.2.2.2.2.1, .ref 8, .int σ.2.2.2.2.2.2.2.2.1])
def hG (h : xHp) (σ : GS) : xHp := va_up (va_up h 8 (aI 4 σ.2.2.2.2.2.2.2.2.2)) 7 (oG σ)
theorem hG_7 (h : xHp) (σ : GS) : hG h σ 7 = oG σ := vu_s
theorem hG_8 (h : xHp) (σ : GS) : hG h σ 8 = aI 4 σ.2.2.2.2.2.2.2.2.2 := vu_t (by decide) vu_s
theorem hG_n (h : xHp) (σ : GS) {j : Nat} (h7 : j ≠ 7) (h8 : j ≠ 8) : hG h σ j = h j := (vu_n h7).trans (vu_n h8)
theorem hG_put (h : xHp) (σ σ' : GS) (e : σ'.2.2.2.2.2.2.2.2.2 = σ.2.2.2.2.2.2.2.2.2) : va_up (hG h σ) 7 (oG σ') = hG h σ' := by
  unfold hG
  rw [bx_uu, e]
theorem hG_of {h : xHp} {σ : GS} (h7 : h 7 = oG σ) (h8 : h 8 = aI 4 σ.2.2.2.2.2.2.2.2.2) : hG h σ = h := by
  unfold hG
  rw [← h8, vu_e, ← h7, vu_e]
theorem hG_hG (h : xHp) (σ σ' : GS) : hG (hG h σ) σ' = hG h σ' := by
  unfold hG
  rw [vu_c _ _ _ (by decide : (8 : Nat) ≠ 7), bx_uu, bx_uu]
theorem XW_h {Γ : xG} {y : MethodName} {cc : ByteArray} {nL : Nat} {ret : Option FieldType} {dd : Nat × Nat × Nat} {Q : State → Prop} {ce sl N : Nat} {h h' : xHp} {pc : Nat} {lv : List (Option Value)} {st : List Value} (e : h = h') (k : XW Γ y cc nL ret dd Q ce sl N h' pc lv st) : XW Γ y cc nL ret dd Q ce sl N h pc lv st := e ▸ k
def gOut (h : xHp) (σ : GS) (o : Option GS) : Option Value → xHp → Prop := fun r h' => match o with
  | some σ' => r = some (.int 1) ∧ h' = hG h σ'
  | none => r = some (.int 0) ∧ h' = hG h σ
def isCC (fi la c : Int32) : Bool := decide (fi ≤ colOf c) && decide (colOf c ≤ la + 1)
def gend : Nat → Int32 → Nat × Int32
  | 0, b => (0, b)
  | n + 1, b => if b &&& 1 = 0 then gend n (b >>> ((1 : Int32) &&& 31)) else (n + 1, b)
def gEnd : GS → GS
  | (_, fi, la, op, bt, t) => (3, fi, la, (gend op bt).1, (gend op bt).2, t)
def gTail : GS → Int32 → Option GS
  | (_, t), c => if c = 63 then some (4, t) else if c = 47 then some (8, t) else none
def gFactor : GS → Int32 → Option GS
  | (s, fi, la, op, bt, t), c => if c = 40 ∨ c = 45 then (if op < 8 then some (s, fi, la, op + 1, bt <<< ((1 : Int32) &&& 31) ||| (if c = 40 then 1 else 0), t) else none) else if isDig c || isCC fi la c then some (gEnd (s, fi, la, op, bt, t)) else none
def gAfter : GS → Int32 → Option GS
  | (s, fi, la, op, bt, t), c => if c = 43 ∨ c = 45 ∨ c = 42 then some (2, fi, la, op, bt, t) else if op = 0 then gTail (s, fi, la, op, bt, t) c else if c = 41 then some (gEnd (s, fi, la, op - 1, bt >>> ((1 : Int32) &&& 31), t)) else none
def gCh0 : GS → Int32 → Option GS
  | (_, _, _, t), c => if 0 ≤ relOf c then some (1, relOf c, relOf c, t) else none
def gCh1 : GS → Int32 → Option GS
  | (s, fi, la, t), c => if c = 58 then some (2, fi, la, t) else if relOf c = la + 1 then some (s, fi, la + 1, t) else none
def gCol : GS → Int32 → Option GS
  | (_, fi, la, op, bt, _, t), c => if isCC fi la c then some (5, fi, la, op, bt, colOf c, t) else none
def gKind : GS → Int32 → Option GS
  | (_, fi, la, op, bt, cc, _, t), c => if c = 61 ∨ c = 35 ∨ c = 60 ∨ c = 62 then some (6, fi, la, op, bt, cc, c, t) else none
def meetsB (v : Nat) (kind d : Int32) : Bool := if kind = 35 then decide (¬ nI v = d) else if kind = 60 then decide (nI v < d) else if kind = 61 then decide (nI v = d) else decide (d < nI v)
def rst (a kind d : Int32) : Nat → Int32
  | 0 => a
  | v + 1 => if meetsB v kind d then rst a kind d v else rst a kind d v &&& (((1 : Int32) <<< (nI v &&& 31)) ^^^ (-1))
def gDig : GS → Int32 → Option GS
  | (_, fi, la, op, bt, cc, ck, cn, gr, al), c => if isDig c then some (7, fi, la, op, bt, cc, ck, cn + 1, gr, upd al cc.toNatClampNeg (rst (al cc.toNatClampNeg) ck (c - 48) 6)) else none
def gGrp : GS → Int32 → Option GS
  | (_, fi, la, op, bt, cc, ck, cn, _, al), c => if isCC fi la c then some (9, fi, la, op, bt, cc, ck, cn, colOf c, al) else none
def gTake (σ : GS) (c : Int32) : Option GS := match σ.1 with
  | 0 => gCh0 σ c
  | 1 => gCh1 σ c
  | 2 => gFactor σ c
  | 3 => gAfter σ c
  | 4 => gCol σ c
  | 5 => gKind σ c
  | 6 => gDig σ c
  | 7 => gTail σ c
  | 8 => gGrp σ c
  | _ => none
set_option maxRecDepth 100000 in
set_option maxHeartbeats 4000000 in
theorem c_G_isChainColumn {N : Nat} {h : xHp} (σ : GS) (c : Int32) (hN : 94 ≤ N) : XM y_G_isChainColumn b_G_isChainColumn 3 (some .boolean) 1 0 0 [.ref 7, .int c] N (hG h σ) (xR (some (.int (bi (isCC σ.2.1 σ.2.2.1 c)))) (hG h σ)) := by
  have h7 := hG_7 h σ
  refine xM_intro [some (.ref 7), some (.int c), none] (by decide) (fun _ => rfl) (fun _ => Nat.le_of_ble_eq_true rfl) (fun Γ => ?_)
  refine x_iload_n d_G_isChainColumn_0 rfl ?_
  refine x_cSe (c_T_columnOf c) k_G_107 s_T_columnOf d_G_isChainColumn_1 rfl (by omega) (Nat.le_of_ble_eq_true rfl) ?_
  refine x_istore_n d_G_isChainColumn_4 (by decide) rfl ?_
  refine x_iload_n d_G_isChainColumn_5 rfl ?_
  refine x_aload_n d_G_isChainColumn_6 rfl ?_
  refine x_get f_G_36 d_G_isChainColumn_7 (by omega) (by first | assumption | exact vu_s | exact vu_t (by omega) (by first | assumption | exact vu_s | exact vu_t (by omega) (by first | assumption | exact vu_s | exact vu_t (by omega) (by first | assumption | exact vu_s))) | rfl | (simp only [va_up, Nat.reduceEqDiff, ↓reduceIte]; first | rfl | assumption)) rfl ?_
  refine x_icmp_lt 27 d_G_isChainColumn_10 (by decide) (fun c1 => ?_) (fun c1 => ?_)
  · refine x_iconst (v := 0) d_G_isChainColumn_27 (by decide) ?_
    refine x_zret d_G_isChainColumn_28 (by first | rfl | assumption) ?_
    exact ⟨by simp [isCC, bi, Int32.not_le.mpr c1], rfl⟩
  · refine x_iload_n d_G_isChainColumn_13 rfl ?_
    refine x_aload_n d_G_isChainColumn_14 rfl ?_
    refine x_get f_G_40 d_G_isChainColumn_15 (by omega) (by first | assumption | exact vu_s | exact vu_t (by omega) (by first | assumption | exact vu_s | exact vu_t (by omega) (by first | assumption | exact vu_s | exact vu_t (by omega) (by first | assumption | exact vu_s))) | rfl | (simp only [va_up, Nat.reduceEqDiff, ↓reduceIte]; first | rfl | assumption)) rfl ?_
    refine x_iconst (v := 1) d_G_isChainColumn_18 (by decide) ?_
    refine x_iadd d_G_isChainColumn_19 ?_
    refine x_icmp_gt 27 d_G_isChainColumn_20 (by decide) (fun c2 => ?_) (fun c2 => ?_)
    · refine x_iconst (v := 0) d_G_isChainColumn_27 (by decide) ?_
      refine x_zret d_G_isChainColumn_28 (by first | rfl | assumption) ?_
      exact ⟨by simp [isCC, bi, Int32.not_le.mpr c2], rfl⟩
    · refine x_iconst (v := 1) d_G_isChainColumn_23 (by decide) ?_
      refine x_goto 28 d_G_isChainColumn_24 (by decide) ?_
      refine x_zret d_G_isChainColumn_28 (by first | rfl | assumption) ?_
      exact ⟨by simp [isCC, bi, Int32.not_lt.mp c1, Int32.not_lt.mp c2], rfl⟩
set_option maxRecDepth 100000 in
set_option maxHeartbeats 4000000 in
theorem c_G_takeTail {N : Nat} {h : xHp} (σ : GS) (c : Int32) (hN : 94 ≤ N) : XM y_G_takeTail b_G_takeTail 2 (some .boolean) 0 0 0 [.ref 7, .int c] N (hG h σ) (gOut h σ (gTail σ c)) := by
  have h7 := hG_7 h σ
  obtain ⟨s, t⟩ := σ
  refine xM_intro [some (.ref 7), some (.int c)] (by decide) (fun _ => rfl) (fun _ => Nat.le_of_ble_eq_true rfl) (fun Γ => ?_)
  refine x_iload_n d_G_takeTail_0 rfl ?_
  refine x_bipush (v := 63) d_G_takeTail_1 (by decide) ?_
  refine x_icmp_ne 13 d_G_takeTail_3 (by decide) (fun c1 => ?_) (fun c1 => ?_)
  · refine x_iload_n d_G_takeTail_13 rfl ?_
    refine x_bipush (v := 47) d_G_takeTail_14 (by decide) ?_
    refine x_icmp_ne 27 d_G_takeTail_16 (by decide) (fun c2 => ?_) (fun c2 => ?_)
    · refine x_iconst (v := 0) d_G_takeTail_27 (by decide) ?_
      refine x_zret d_G_takeTail_28 (by first | rfl | assumption) ?_
      rw [show gTail (s, t) c = none by simp [gTail, c1, c2]]
      exact ⟨rfl, rfl⟩
    · refine x_aload_n d_G_takeTail_19 rfl ?_
      refine x_bipush (v := 8) d_G_takeTail_20 (by decide) ?_
      refine x_put f_G_49 d_G_takeTail_22 (by omega) (by first | assumption | exact vu_s | exact vu_t (by omega) (by first | assumption | exact vu_s | exact vu_t (by omega) (by first | assumption | exact vu_s | exact vu_t (by omega) (by first | assumption | exact vu_s))) | rfl | (simp only [va_up, Nat.reduceEqDiff, ↓reduceIte]; first | rfl | assumption)) (Nat.le_of_ble_eq_true rfl) (fun _ => ⟨rfl, rfl⟩) ?_
      refine x_iconst (v := 1) d_G_takeTail_25 (by decide) ?_
      refine x_zret d_G_takeTail_26 (by first | rfl | assumption) ?_
      rw [show gTail (s, t) c = some (8, t) by simp [gTail, c1, c2]]
      exact ⟨rfl, hG_put h (s, t) (8, t) rfl⟩
  · refine x_aload_n d_G_takeTail_6 rfl ?_
    refine x_iconst (v := 4) d_G_takeTail_7 (by decide) ?_
    refine x_put f_G_49 d_G_takeTail_8 (by omega) (by first | assumption | exact vu_s | exact vu_t (by omega) (by first | assumption | exact vu_s | exact vu_t (by omega) (by first | assumption | exact vu_s | exact vu_t (by omega) (by first | assumption | exact vu_s))) | rfl | (simp only [va_up, Nat.reduceEqDiff, ↓reduceIte]; first | rfl | assumption)) (Nat.le_of_ble_eq_true rfl) (fun _ => ⟨rfl, rfl⟩) ?_
    refine x_iconst (v := 1) d_G_takeTail_11 (by decide) ?_
    refine x_zret d_G_takeTail_12 (by first | rfl | assumption) ?_
    rw [show gTail (s, t) c = some (4, t) by simp [gTail, c1]]
    exact ⟨rfl, hG_put h (s, t) (4, t) rfl⟩
theorem nI_pos0 {n : Nat} (h : n < 2 ^ 31) : (nI n ≤ 0) ↔ n = 0 := by
  constructor
  · intro q
    rcases Nat.eq_zero_or_pos n with z | z
    · exact z
    · exact absurd q (nI_nle z h)
  · intro q
    subst q
    decide
set_option maxRecDepth 100000 in
set_option maxHeartbeats 4000000 in
theorem c_G_endFactor {N : Nat} {h : xHp} (σ : GS) (hN : 94 ≤ N) (ho : σ.2.2.2.1 ≤ 8) : XM y_G_endFactor b_G_endFactor 1 none 0 0 0 [.ref 7] N (hG h σ) (xR none (hG h (gEnd σ))) := by
  obtain ⟨s, fi, la, op, bt, t⟩ := σ
  refine xM_intro [some (.ref 7)] (by decide) (fun _ => rfl) (fun _ => Nat.le_of_ble_eq_true rfl) (fun Γ => ?_)
  have key : ∀ (n : Nat) (op : Nat) (bt : Int32), op ≤ 8 → op < n → XW Γ y_G_endFactor b_G_endFactor 1 none (0, 0, 0) (xQ Γ (N + 0) 0 0 (xR none (hG h (gEnd (s, fi, la, op, bt, t))))) 0 0 N (hG h (s, fi, la, op, bt, t)) 0 [some (.ref 7)] [] := by
    intro n
    induction n with
    | zero => intro op bt _ h0; omega
    | succ n ih =>
      intro op bt ho hn
      have h7 := hG_7 h (s, fi, la, op, bt, t)
      refine x_aload_n d_G_endFactor_0 rfl ?_
      refine x_get f_G_52 d_G_endFactor_1 (by omega) (by first | assumption | exact vu_s | exact vu_t (by omega) (by first | assumption | exact vu_s | exact vu_t (by omega) (by first | assumption | exact vu_s | exact vu_t (by omega) (by first | assumption | exact vu_s))) | rfl | (simp only [va_up, Nat.reduceEqDiff, ↓reduceIte]; first | rfl | assumption)) rfl ?_
      refine x_if_le 39 d_G_endFactor_4 (by decide) (fun c1 => ?_) (fun c1 => ?_)
      · have e : op = 0 := (nI_pos0 (show op < 2 ^ 31 by omega)).mp c1
        subst e
        refine x_aload_n d_G_endFactor_39 rfl ?_
        refine x_iconst (v := 3) d_G_endFactor_40 (by decide) ?_
        refine x_put f_G_49 d_G_endFactor_41 (by omega) (by first | assumption | exact vu_s | exact vu_t (by omega) (by first | assumption | exact vu_s | exact vu_t (by omega) (by first | assumption | exact vu_s | exact vu_t (by omega) (by first | assumption | exact vu_s))) | rfl | (simp only [va_up, Nat.reduceEqDiff, ↓reduceIte]; first | rfl | assumption)) (Nat.le_of_ble_eq_true rfl) (fun _ => ⟨rfl, rfl⟩) ?_
        refine x_vret d_G_endFactor_44 ?_
        exact ⟨rfl, hG_put h (s, fi, la, 0, bt, t) (3, fi, la, 0, bt, t) rfl⟩
      · obtain ⟨k, rfl⟩ : ∃ k, op = k + 1 := by
          refine ⟨op - 1, ?_⟩
          have : ¬ op = 0 := fun z => c1 ((nI_pos0 (show op < 2 ^ 31 by omega)).mpr z)
          omega
        refine x_aload_n d_G_endFactor_7 rfl ?_
        refine x_get f_G_55 d_G_endFactor_8 (by omega) (by first | assumption | exact vu_s | exact vu_t (by omega) (by first | assumption | exact vu_s | exact vu_t (by omega) (by first | assumption | exact vu_s | exact vu_t (by omega) (by first | assumption | exact vu_s))) | rfl | (simp only [va_up, Nat.reduceEqDiff, ↓reduceIte]; first | rfl | assumption)) rfl ?_
        refine x_iconst (v := 1) d_G_endFactor_11 (by decide) ?_
        refine x_iand d_G_endFactor_12 ?_
        refine x_if_ne 39 d_G_endFactor_13 (by decide) (fun c2 => ?_) (fun c2 => ?_)
        · refine x_aload_n d_G_endFactor_39 rfl ?_
          refine x_iconst (v := 3) d_G_endFactor_40 (by decide) ?_
          refine x_put f_G_49 d_G_endFactor_41 (by omega) (by first | assumption | exact vu_s | exact vu_t (by omega) (by first | assumption | exact vu_s | exact vu_t (by omega) (by first | assumption | exact vu_s | exact vu_t (by omega) (by first | assumption | exact vu_s))) | rfl | (simp only [va_up, Nat.reduceEqDiff, ↓reduceIte]; first | rfl | assumption)) (Nat.le_of_ble_eq_true rfl) (fun _ => ⟨rfl, rfl⟩) ?_
          refine x_vret d_G_endFactor_44 ?_
          have e2 : gEnd (s, fi, la, k + 1, bt, t) = (3, fi, la, k + 1, bt, t) := by simp [gEnd, gend, c2]
          rw [e2]
          exact ⟨rfl, hG_put h (s, fi, la, k + 1, bt, t) (3, fi, la, k + 1, bt, t) rfl⟩
        · have e1 : nI (k + 1) - 1 = nI k := nI_pred k
          refine x_aload_n d_G_endFactor_16 rfl ?_
          refine x_dup d_G_endFactor_17 rfl ?_
          refine x_get f_G_52 d_G_endFactor_18 (by omega) (by first | assumption | exact vu_s | exact vu_t (by omega) (by first | assumption | exact vu_s | exact vu_t (by omega) (by first | assumption | exact vu_s | exact vu_t (by omega) (by first | assumption | exact vu_s))) | rfl | (simp only [va_up, Nat.reduceEqDiff, ↓reduceIte]; first | rfl | assumption)) rfl ?_
          refine x_iconst (v := 1) d_G_endFactor_21 (by decide) ?_
          refine x_isub d_G_endFactor_22 ?_
          rw [e1]
          refine x_put f_G_52 d_G_endFactor_23 (by omega) (by first | assumption | exact vu_s | exact vu_t (by omega) (by first | assumption | exact vu_s | exact vu_t (by omega) (by first | assumption | exact vu_s | exact vu_t (by omega) (by first | assumption | exact vu_s))) | rfl | (simp only [va_up, Nat.reduceEqDiff, ↓reduceIte]; first | rfl | assumption)) (Nat.le_of_ble_eq_true rfl) (fun _ => ⟨rfl, rfl⟩) ?_
          refine x_aload_n d_G_endFactor_26 rfl ?_
          refine x_dup d_G_endFactor_27 rfl ?_
          refine x_get f_G_55 d_G_endFactor_28 (by omega) (by first | assumption | exact vu_s | exact vu_t (by omega) (by first | assumption | exact vu_s | exact vu_t (by omega) (by first | assumption | exact vu_s | exact vu_t (by omega) (by first | assumption | exact vu_s))) | rfl | (simp only [va_up, Nat.reduceEqDiff, ↓reduceIte]; first | rfl | assumption)) rfl ?_
          refine x_iconst (v := 1) d_G_endFactor_31 (by decide) ?_
          refine x_ishr d_G_endFactor_32 ?_
          refine x_put f_G_55 d_G_endFactor_33 (by omega) (by first | assumption | exact vu_s | exact vu_t (by omega) (by first | assumption | exact vu_s | exact vu_t (by omega) (by first | assumption | exact vu_s | exact vu_t (by omega) (by first | assumption | exact vu_s))) | rfl | (simp only [va_up, Nat.reduceEqDiff, ↓reduceIte]; first | rfl | assumption)) (Nat.le_of_ble_eq_true rfl) (fun _ => ⟨rfl, rfl⟩) ?_
          refine x_goto 0 d_G_endFactor_36 (by decide) ?_
          have e2 : gEnd (s, fi, la, k + 1, bt, t) = gEnd (s, fi, la, k, bt >>> ((1 : Int32) &&& 31), t) := by simp [gEnd, gend, c2]
          rw [e2, bx_uu]
          have := ih k (bt >>> ((1 : Int32) &&& 31)) (by omega) (by omega)
          rw [← hG_put h (s, fi, la, k + 1, bt, t) (s, fi, la, k, bt >>> ((1 : Int32) &&& 31), t) rfl] at this
          exact this
  exact key 9 op bt ho (by have : op ≤ 8 := ho; omega)
