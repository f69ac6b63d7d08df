/-! Constructors: Evaluator, JoinKeeper. -/
theorem XW_n {Γ : xG} {y : MethodName} {cc : ByteArray} {nL : Nat} {ret : Option FieldType} {dd : Nat × Nat × Nat} {Q : State → Prop} {ce sl N ce' sl' N' : Nat} {h : xHp} {pc : Nat} {lv : List (Option Value)} {st : List Value} (e1 : ce = ce') (e2 : sl = sl') (e3 : N = N') (k : XW Γ y cc nL ret dd Q ce' sl' N' h pc lv st) : XW Γ y cc nL ret dd Q ce sl N h pc lv st := by
  subst e1 e2 e3
  exact k
set_option maxRecDepth 100000 in
set_option maxHeartbeats 4000000 in
theorem c_E_init {h : xHp} (h1 : h 9 = .inr (4, [.null, .null, .null, .null, .int 0])) : XM y_E_init b_E_init 2 none 2 59 2323 [.ref 9] 10 h (fun r h' => r = none ∧ iE h' ∧ ∀ k, k < 9 → h' k = h k) := by
  refine xM_intro [some (.ref 9), none] (by decide) (fun _ => rfl) (fun _ => Nat.le_of_ble_eq_true rfl) (fun Γ => ?_)
  refine x_aload_n d_E_init_0 rfl ?_
  refine x_objInit o_E_3 d_E_init_1 (by omega) (Nat.le_of_ble_eq_true rfl) ?_
  refine x_aload_n d_E_init_4 rfl ?_
  refine x_bipush (v := 9) d_E_init_5 (by decide) ?_
  refine x_anew (t := 4) (n := 9) ⟨cl_E_11, by decide⟩ rfl d_E_init_7 (by decide) (by decide) (by decide) (by omega) ⟨by first | exact Nat.le_of_ble_eq_true rfl | (dsimp only; omega), by first | exact Nat.le_of_ble_eq_true rfl | (dsimp only; omega)⟩ ?_
  refine x_putF f_E_13 rfl d_E_init_10 (by omega) (by first | assumption | exact vu_s | exact vu_t (by omega) (by first | assumption | exact vu_s | exact vu_t (by omega) (by first | assumption | exact vu_s | exact vu_t (by omega) (by first | assumption | exact vu_s))) | rfl | (simp only [va_up, Nat.reduceEqDiff, ↓reduceIte]; first | rfl | assumption)) (Nat.le_of_ble_eq_true rfl) (fun _ => ⟨rfl, rfl⟩) ?_
  refine x_aload_n d_E_init_13 rfl ?_
  refine x_bipush (v := 9) d_E_init_14 (by decide) ?_
  refine x_anew (t := 4) (n := 9) ⟨cl_E_11, by decide⟩ rfl d_E_init_16 (by decide) (by decide) (by decide) (by omega) ⟨by first | exact Nat.le_of_ble_eq_true rfl | (dsimp only; omega), by first | exact Nat.le_of_ble_eq_true rfl | (dsimp only; omega)⟩ ?_
  refine x_putF f_E_17 rfl d_E_init_19 (by omega) (by first | assumption | exact vu_s | exact vu_t (by omega) (by first | assumption | exact vu_s | exact vu_t (by omega) (by first | assumption | exact vu_s | exact vu_t (by omega) (by first | assumption | exact vu_s))) | rfl | (simp only [va_up, Nat.reduceEqDiff, ↓reduceIte]; first | rfl | assumption)) (Nat.le_of_ble_eq_true rfl) (fun _ => ⟨rfl, rfl⟩) ?_
  refine x_aload_n d_E_init_22 rfl ?_
  refine x_bipush (v := 9) d_E_init_23 (by decide) ?_
  refine x_anew (t := 4) (n := 9) ⟨cl_E_11, by decide⟩ rfl d_E_init_25 (by decide) (by decide) (by decide) (by omega) ⟨by first | exact Nat.le_of_ble_eq_true rfl | (dsimp only; omega), by first | exact Nat.le_of_ble_eq_true rfl | (dsimp only; omega)⟩ ?_
  refine x_putF f_E_20 rfl d_E_init_28 (by omega) (by first | assumption | exact vu_s | exact vu_t (by omega) (by first | assumption | exact vu_s | exact vu_t (by omega) (by first | assumption | exact vu_s | exact vu_t (by omega) (by first | assumption | exact vu_s))) | rfl | (simp only [va_up, Nat.reduceEqDiff, ↓reduceIte]; first | rfl | assumption)) (Nat.le_of_ble_eq_true rfl) (fun _ => ⟨rfl, rfl⟩) ?_
  refine x_aload_n d_E_init_31 rfl ?_
  refine x_new n_E_11 d_E_init_32 (by omega) ⟨by first | exact Nat.le_of_ble_eq_true rfl | (dsimp only; omega), by first | exact Nat.le_of_ble_eq_true rfl | (dsimp only; omega)⟩ ?_
  refine x_dup d_E_init_35 rfl ?_
  refine x_callIN (c_P_init (o := 13) (by omega) vu_s) k_E_23 v_P_init d_E_init_36 rfl (by omega) (by omega) (Nat.le_of_ble_eq_true rfl) ⟨by first | exact Nat.le_of_ble_eq_true rfl | (dsimp only; omega), by first | exact Nat.le_of_ble_eq_true rfl | (dsimp only; omega)⟩ ?_
  rintro r h' ⟨rfl, p1, p2, p3⟩
  have q9 : h' 9 = .inr (4, [.ref 10, .ref 11, .ref 12, .null, .int 0]) := p3 9 (by omega)
  have q10 : h' 10 = aR 4 9 (fun _ => none) := p3 10 (by omega)
  have q11 : h' 11 = aR 4 9 (fun _ => none) := p3 11 (by omega)
  have q12 : h' 12 = aR 4 9 (fun _ => none) := p3 12 (by omega)
  have q0 : ∀ k, k < 9 → h' k = h k := by
    intro k hk
    rw [p3 k (by omega), vu_n (by omega), vu_n (by omega), vu_n (by omega), vu_n (by omega), vu_n (by omega), vu_n (by omega), vu_n (by omega)]
  refine x_putF f_E_24 rfl d_E_init_39 (by omega) (by first | assumption | exact vu_s | exact vu_t (by omega) (by first | assumption | exact vu_s | exact vu_t (by omega) (by first | assumption | exact vu_s | exact vu_t (by omega) (by first | assumption | exact vu_s))) | rfl | (simp only [va_up, Nat.reduceEqDiff, ↓reduceIte]; first | rfl | assumption)) (Nat.le_of_ble_eq_true rfl) (fun _ => ⟨rfl, rfl⟩) ?_
  refine x_iconst (v := 0) d_E_init_42 (by decide) ?_
  refine x_istore_n d_E_init_43 (by decide) rfl ?_
  have key : ∀ (m l : Nat) (hh : xHp) (a b c : Nat → Option Nat), l ≤ 9 → 9 - l < m → hh 9 = oE 0 → hh 10 = aR 4 9 a → hh 11 = aR 4 9 b → hh 12 = aR 4 9 c → (∀ j, j < l → a j = some (15 + 6 * j) ∧ b j = some (17 + 6 * j) ∧ c j = some (19 + 6 * j)) → (∀ k, 13 ≤ k → k < 15 + 6 * l → k % 2 = 1 → hh k = oP k ∧ ∃ g, hh (k + 1) = aI 81 g) → (∀ k, k < 9 → hh k = h k) → XW Γ y_E_init b_E_init 2 none (2, 59, 2323) (xQ Γ (10 + 59) 59 2323 (fun r h' => r = none ∧ iE h' ∧ ∀ k, k < 9 → h' k = h k)) (5 + 6 * l) (109 + 246 * l) (15 + 6 * l) hh 44 [some (.ref 9), some (.int (nI l))] [] := by
    intro m
    induction m with
    | zero => intro l hh a b c _ h0; omega
    | succ m ih =>
      intro l hh a b c hl hlm g9 g10 g11 g12 hj hp hf
      refine x_iload_n d_E_init_44 rfl ?_
      refine x_bipush (v := 9) d_E_init_45 (by decide) ?_
      refine x_icmp_ge 95 d_E_init_47 (by decide) (fun c1 => ?_) (fun c1 => ?_)
      · have e := nI_end (n := 9) hl (by decide) c1
        subst e
        refine x_vret d_E_init_95 ?_
        refine ⟨rfl, ⟨0, g9, ⟨a, g10, fun j z => (hj j z).1⟩, ⟨b, g11, fun j z => (hj j z).2.1⟩, ⟨c, g12, fun j z => (hj j z).2.2⟩, fun k z1 z2 z3 => hp k z1 (by omega) z3⟩, hf⟩
      · have hlt := nI_more (n := 9) hl (by decide) c1
        have hi : vp_in (nI l) 9 := vp_in_nI hlt (by decide)
        have hcl : (nI l).toNatClampNeg = l := nI_clamp (by omega)
        refine x_aload_n d_E_init_50 rfl ?_
        refine x_get f_E_13 d_E_init_51 (by omega) (by first | assumption | exact vu_s | exact vu_t (by omega) (by first | assumption | exact vu_s | exact vu_t (by omega) (by first | assumption | exact vu_s | exact vu_t (by omega) (by first | assumption | exact vu_s))) | rfl | (simp only [va_up, Nat.reduceEqDiff, ↓reduceIte]; first | rfl | assumption)) rfl ?_
        refine x_iload_n d_E_init_54 rfl ?_
        refine x_new n_E_11 d_E_init_55 (by omega) ⟨by first | exact Nat.le_of_ble_eq_true rfl | (dsimp only; omega), by first | exact Nat.le_of_ble_eq_true rfl | (dsimp only; omega)⟩ ?_
        refine x_dup d_E_init_58 rfl ?_
        refine x_callIN (c_P_init (o := 15 + 6 * l) (by omega) vu_s) k_E_23 v_P_init d_E_init_59 rfl (by omega) (by omega) (Nat.le_of_ble_eq_true rfl) ⟨by first | exact Nat.le_of_ble_eq_true rfl | (dsimp only; omega), by first | exact Nat.le_of_ble_eq_true rfl | (dsimp only; omega)⟩ ?_
        rintro r h2 ⟨rfl, p1, p2, p3⟩
        have f9 : h2 9 = oE 0 := (p3 9 (by omega)).trans (vu_t (by omega) g9)
        have f10 : h2 10 = aR 4 9 a := (p3 10 (by omega)).trans (vu_t (by omega) g10)
        have f11 : h2 11 = aR 4 9 b := (p3 11 (by omega)).trans (vu_t (by omega) g11)
        have f12 : h2 12 = aR 4 9 c := (p3 12 (by omega)).trans (vu_t (by omega) g12)
        have ff : ∀ k, k < 15 + 6 * l → h2 k = hh k := fun k hk => (p3 k hk).trans (vu_n (by omega))
        clear p3
        refine x_aast (t := 4) (r := (R_P, F_P, 1)) (ci := 5) rfl d_E_init_62 (by omega) f10 hi (by omega) p1 rfl ?_
        rw [hcl]
        generalize hv3 : va_up h2 10 (aR 4 9 (va_up a l (some (15 + 6 * l)))) = h3
        have e9 : h3 9 = oE 0 := by rw [← hv3]; exact vu_t (by omega) f9
        have e10 : h3 10 = aR 4 9 (va_up a l (some (15 + 6 * l))) := by rw [← hv3]; exact vu_s
        have e11 : h3 11 = aR 4 9 b := by rw [← hv3]; exact vu_t (by omega) f11
        have e12 : h3 12 = aR 4 9 c := by rw [← hv3]; exact vu_t (by omega) f12
        have ep1 : h3 (15 + 6 * l) = oP (15 + 6 * l) := by rw [← hv3]; exact vu_t (by omega) p1
        have ep2 : h3 (16 + 6 * l) = aI 81 z32 := by rw [← hv3, show 16 + 6 * l = 15 + 6 * l + 1 by omega]; exact vu_t (by omega) p2
        have ef : ∀ k, k < 15 + 6 * l → k ≠ 10 → h3 k = hh k := fun k hk hk2 => by rw [← hv3, vu_n hk2]; exact ff k hk
        clear hv3 f9 f10 f11 f12 ff p1 p2
        refine x_aload_n d_E_init_63 rfl ?_
        refine x_get f_E_17 d_E_init_64 (by omega) (by first | assumption | exact vu_s | exact vu_t (by omega) (by first | assumption | exact vu_s | exact vu_t (by omega) (by first | assumption | exact vu_s | exact vu_t (by omega) (by first | assumption | exact vu_s))) | rfl | (simp only [va_up, Nat.reduceEqDiff, ↓reduceIte]; first | rfl | assumption)) rfl ?_
        refine x_iload_n d_E_init_67 rfl ?_
        refine x_new n_E_11 d_E_init_68 (by omega) ⟨by first | exact Nat.le_of_ble_eq_true rfl | (dsimp only; omega), by first | exact Nat.le_of_ble_eq_true rfl | (dsimp only; omega)⟩ ?_
        refine x_dup d_E_init_71 rfl ?_
        refine x_callIN (c_P_init (o := 15 + 6 * l + 1 + 1) (by omega) vu_s) k_E_23 v_P_init d_E_init_72 rfl (by omega) (by omega) (Nat.le_of_ble_eq_true rfl) ⟨by first | exact Nat.le_of_ble_eq_true rfl | (dsimp only; omega), by first | exact Nat.le_of_ble_eq_true rfl | (dsimp only; omega)⟩ ?_
        rintro r h4 ⟨rfl, p1, p2, p3⟩
        have f9 : h4 9 = oE 0 := (p3 9 (by omega)).trans (vu_t (by omega) e9)
        have f10 : h4 10 = aR 4 9 (va_up a l (some (15 + 6 * l))) := (p3 10 (by omega)).trans (vu_t (by omega) e10)
        have f11 : h4 11 = aR 4 9 b := (p3 11 (by omega)).trans (vu_t (by omega) e11)
        have f12 : h4 12 = aR 4 9 c := (p3 12 (by omega)).trans (vu_t (by omega) e12)
        have fp1 : h4 (15 + 6 * l) = oP (15 + 6 * l) := (p3 _ (by omega)).trans (vu_t (by omega) ep1)
        have fp2 : h4 (16 + 6 * l) = aI 81 z32 := (p3 _ (by omega)).trans (vu_t (by omega) ep2)
        have ff : ∀ k, k < 15 + 6 * l → k ≠ 10 → h4 k = hh k := fun k hk hk2 => (p3 k (by omega)).trans ((vu_n (by omega)).trans (ef k hk hk2))
        clear p3 e9 e10 e11 e12 ep1 ep2 ef
        refine x_aast (t := 4) (r := (R_P, F_P, 1)) (ci := 5) rfl d_E_init_75 (by omega) f11 hi (by omega) p1 rfl ?_
        rw [hcl]
        generalize hv3 : va_up h4 11 (aR 4 9 (va_up b l (some (15 + 6 * l + 1 + 1)))) = h5
        have e9 : h5 9 = oE 0 := by rw [← hv3]; exact vu_t (by omega) f9
        have e10 : h5 10 = aR 4 9 (va_up a l (some (15 + 6 * l))) := by rw [← hv3]; exact vu_t (by omega) f10
        have e11 : h5 11 = aR 4 9 (va_up b l (some (15 + 6 * l + 1 + 1))) := by rw [← hv3]; exact vu_s
        have e12 : h5 12 = aR 4 9 c := by rw [← hv3]; exact vu_t (by omega) f12
        have ep1 : h5 (15 + 6 * l) = oP (15 + 6 * l) := by rw [← hv3]; exact vu_t (by omega) fp1
        have ep2 : h5 (16 + 6 * l) = aI 81 z32 := by rw [← hv3]; exact vu_t (by omega) fp2
        have ep3 : h5 (17 + 6 * l) = oP (17 + 6 * l) := by rw [← hv3, show 17 + 6 * l = 15 + 6 * l + 1 + 1 by omega]; exact vu_t (by omega) p1
        have ep4 : h5 (18 + 6 * l) = aI 81 z32 := by rw [← hv3, show 18 + 6 * l = 15 + 6 * l + 1 + 1 + 1 by omega]; exact vu_t (by omega) p2
        have ef : ∀ k, k < 15 + 6 * l → k ≠ 10 → k ≠ 11 → h5 k = hh k := fun k hk hk2 hk3 => by rw [← hv3, vu_n hk3]; exact ff k hk hk2
        clear hv3 f9 f10 f11 f12 ff p1 p2 fp1 fp2
        refine x_aload_n d_E_init_76 rfl ?_
        refine x_get f_E_20 d_E_init_77 (by omega) (by first | assumption | exact vu_s | exact vu_t (by omega) (by first | assumption | exact vu_s | exact vu_t (by omega) (by first | assumption | exact vu_s | exact vu_t (by omega) (by first | assumption | exact vu_s))) | rfl | (simp only [va_up, Nat.reduceEqDiff, ↓reduceIte]; first | rfl | assumption)) rfl ?_
        refine x_iload_n d_E_init_80 rfl ?_
        refine x_new n_E_11 d_E_init_81 (by omega) ⟨by first | exact Nat.le_of_ble_eq_true rfl | (dsimp only; omega), by first | exact Nat.le_of_ble_eq_true rfl | (dsimp only; omega)⟩ ?_
        refine x_dup d_E_init_84 rfl ?_
        refine x_callIN (c_P_init (o := 15 + 6 * l + 1 + 1 + 1 + 1) (by omega) vu_s) k_E_23 v_P_init d_E_init_85 rfl (by omega) (by omega) (Nat.le_of_ble_eq_true rfl) ⟨by first | exact Nat.le_of_ble_eq_true rfl | (dsimp only; omega), by first | exact Nat.le_of_ble_eq_true rfl | (dsimp only; omega)⟩ ?_
        rintro r h6 ⟨rfl, p1, p2, p3⟩
        have f9 : h6 9 = oE 0 := (p3 9 (by omega)).trans (vu_t (by omega) e9)
        have f10 : h6 10 = aR 4 9 (va_up a l (some (15 + 6 * l))) := (p3 10 (by omega)).trans (vu_t (by omega) e10)
        have f11 : h6 11 = aR 4 9 (va_up b l (some (15 + 6 * l + 1 + 1))) := (p3 11 (by omega)).trans (vu_t (by omega) e11)
        have f12 : h6 12 = aR 4 9 c := (p3 12 (by omega)).trans (vu_t (by omega) e12)
        have fp1 : h6 (15 + 6 * l) = oP (15 + 6 * l) := (p3 _ (by omega)).trans (vu_t (by omega) ep1)
        have fp2 : h6 (16 + 6 * l) = aI 81 z32 := (p3 _ (by omega)).trans (vu_t (by omega) ep2)
        have fp3 : h6 (17 + 6 * l) = oP (17 + 6 * l) := (p3 _ (by omega)).trans (vu_t (by omega) ep3)
        have fp4 : h6 (18 + 6 * l) = aI 81 z32 := (p3 _ (by omega)).trans (vu_t (by omega) ep4)
        have ff : ∀ k, k < 15 + 6 * l → k ≠ 10 → k ≠ 11 → h6 k = hh k := fun k hk hk2 hk3 => (p3 k (by omega)).trans ((vu_n (by omega)).trans (ef k hk hk2 hk3))
        clear p3 e9 e10 e11 e12 ep1 ep2 ep3 ep4 ef
        refine x_aast (t := 4) (r := (R_P, F_P, 1)) (ci := 5) rfl d_E_init_88 (by omega) f12 hi (by omega) p1 rfl ?_
        rw [hcl]
        refine x_iinc1 d_E_init_89 rfl (by decide) rfl ?_
        refine x_goto 44 d_E_init_92 (by decide) ?_
        rw [nI_1]
        have := ih (l + 1) (va_up h6 12 (aR 4 9 (va_up c l (some (15 + 6 * l + 1 + 1 + 1 + 1))))) _ _ _ (by omega) (by omega) (vu_t (by omega) f9) (vu_t (by omega) f10) (vu_t (by omega) f11) vu_s (by
          intro j hj'
          by_cases e : j = l
          · subst e
            exact ⟨by rw [vu_s], by rw [vu_s]; congr 1; omega, by rw [vu_s]; congr 1; omega⟩
          · rw [vu_n e, vu_n e, vu_n e]
            exact hj j (by omega)) (by
          intro k z1 z2 z3
          by_cases e1 : k < 15 + 6 * l
          · obtain ⟨w1, g, w2⟩ := hp k z1 e1 z3
            refine ⟨?_, g, ?_⟩
            · rw [vu_n (by omega), ff k e1 (by omega) (by omega)]
              exact w1
            · rw [vu_n (by omega), ff (k + 1) (by omega) (by omega) (by omega)]
              exact w2
          · rcases (show k = 15 + 6 * l ∨ k = 17 + 6 * l ∨ k = 19 + 6 * l by omega) with rfl | rfl | rfl
            · exact ⟨vu_t (by omega) fp1, z32, by rw [show 15 + 6 * l + 1 = 16 + 6 * l by omega]; exact vu_t (by omega) fp2⟩
            · exact ⟨vu_t (by omega) fp3, z32, by rw [show 17 + 6 * l + 1 = 18 + 6 * l by omega]; exact vu_t (by omega) fp4⟩
            · exact ⟨by rw [show 19 + 6 * l = 15 + 6 * l + 1 + 1 + 1 + 1 by omega]; exact vu_t (by omega) p1, z32, by rw [show 19 + 6 * l + 1 = 15 + 6 * l + 1 + 1 + 1 + 1 + 1 by omega]; exact vu_t (by omega) p2⟩) (by
          intro k hk
          rw [vu_n (by omega), ff k (by omega) (by omega) (by omega)]
          exact hf k hk)
        exact XW_n (by omega) (by omega) (by omega) this
  refine XW_n (by omega) (by omega) (by omega) (key 10 0 _ _ _ _ (by omega) (by omega) vu_s (vu_t (by omega) q10) (vu_t (by omega) q11) (vu_t (by omega) q12) (fun j hj => by omega) (fun k z1 z2 z3 => ?_) (fun k hk => (vu_n (by omega)).trans (q0 k hk)))
  obtain rfl : k = 13 := by omega
  exact ⟨vu_t (by omega) p1, z32, vu_t (by omega) p2⟩
