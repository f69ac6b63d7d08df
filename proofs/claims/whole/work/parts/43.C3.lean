/-! Constructor of JoinKeeper. -/
def zQ : Nat → CQ := fun _ => (false, 0, 0, 0, 0, z32, z32)
set_option maxRecDepth 100000 in
set_option maxHeartbeats 4000000 in
theorem c_K_init {h : xHp} (h1 : h 0 = .inr (0, [.null, .null, .null, .null, .null])) : XM y_K_init b_K_init 2 none 3 93 3942 [.ref 0] 1 h (fun r h' => r = none ∧ IC z32 0 z32 z32 z32 0 zQ h') := by
  refine xM_intro [some (.ref 0), none] (by decide) (fun _ => rfl) (fun _ => Nat.le_of_ble_eq_true rfl) (fun Γ => ?_)
  refine x_aload_n d_K_init_0 rfl ?_
  refine x_objInit o_K_1 d_K_init_1 (by omega) (Nat.le_of_ble_eq_true rfl) ?_
  refine x_aload_n d_K_init_4 rfl ?_
  refine x_new n_K_7 d_K_init_5 (by omega) ⟨by first | exact Nat.le_of_ble_eq_true rfl | (dsimp only; omega), by first | exact Nat.le_of_ble_eq_true rfl | (dsimp only; omega)⟩ ?_
  refine x_dup d_K_init_8 rfl ?_
  refine x_callIN (c_R_init vu_s) k_K_9 v_R_init d_K_init_9 rfl (by omega) (by omega) (Nat.le_of_ble_eq_true rfl) ⟨by first | exact Nat.le_of_ble_eq_true rfl | (dsimp only; omega), by first | exact Nat.le_of_ble_eq_true rfl | (dsimp only; omega)⟩ ?_
  rintro r h2 ⟨rfl, hR, f2⟩
  have a0 : h2 0 = .inr (0, [.null, .null, .null, .null, .null]) := (f2 0 (by omega)).trans (vu_t (by omega) h1)
  clear f2
  refine x_putF f_K_10 rfl d_K_init_12 (by omega) (by first | assumption | exact vu_s | exact vu_t (by omega) (by first | assumption | exact vu_s | exact vu_t (by omega) (by first | assumption | exact vu_s | exact vu_t (by omega) (by first | assumption | exact vu_s))) | rfl | (simp only [va_up, Nat.reduceEqDiff, ↓reduceIte]; first | rfl | assumption)) (Nat.le_of_ble_eq_true rfl) (fun _ => ⟨rfl, rfl⟩) ?_
  refine x_aload_n d_K_init_15 rfl ?_
  refine x_new n_K_16 d_K_init_16 (by omega) ⟨by first | exact Nat.le_of_ble_eq_true rfl | (dsimp only; omega), by first | exact Nat.le_of_ble_eq_true rfl | (dsimp only; omega)⟩ ?_
  refine x_dup d_K_init_19 rfl ?_
  refine x_callIN (c_T_init vu_s) k_K_18 v_T_init d_K_init_20 rfl (by omega) (by omega) (Nat.le_of_ble_eq_true rfl) ⟨by first | exact Nat.le_of_ble_eq_true rfl | (dsimp only; omega), by first | exact Nat.le_of_ble_eq_true rfl | (dsimp only; omega)⟩ ?_
  rintro r h3 ⟨rfl, hT, f3⟩
  have b0 : h3 0 = .inr (0, [.ref 1, .null, .null, .null, .null]) := f3 0 (by omega)
  have bR : iR z32 0 z32 z32 h3 := hR.cg (fun k z1 z2 => (f3 k (by omega)).trans ((vu_n (by omega)).trans (vu_n (by omega))))
  clear f3 hR a0
  refine x_putF f_K_19 rfl d_K_init_23 (by omega) (by first | assumption | exact vu_s | exact vu_t (by omega) (by first | assumption | exact vu_s | exact vu_t (by omega) (by first | assumption | exact vu_s | exact vu_t (by omega) (by first | assumption | exact vu_s))) | rfl | (simp only [va_up, Nat.reduceEqDiff, ↓reduceIte]; first | rfl | assumption)) (Nat.le_of_ble_eq_true rfl) (fun _ => ⟨rfl, rfl⟩) ?_
  refine x_aload_n d_K_init_26 rfl ?_
  refine x_new n_K_23 d_K_init_27 (by omega) ⟨by first | exact Nat.le_of_ble_eq_true rfl | (dsimp only; omega), by first | exact Nat.le_of_ble_eq_true rfl | (dsimp only; omega)⟩ ?_
  refine x_dup d_K_init_30 rfl ?_
  refine x_callIN (c_G_init vu_s) k_K_25 v_G_init d_K_init_31 rfl (by omega) (by omega) (Nat.le_of_ble_eq_true rfl) ⟨by first | exact Nat.le_of_ble_eq_true rfl | (dsimp only; omega), by first | exact Nat.le_of_ble_eq_true rfl | (dsimp only; omega)⟩ ?_
  rintro r h4 ⟨rfl, hG4, f4⟩
  have d0 : h4 0 = .inr (0, [.ref 1, .ref 5, .null, .null, .null]) := f4 0 (by omega)
  have dR : iR z32 0 z32 z32 h4 := bR.cg (fun k z1 z2 => (f4 k (by omega)).trans ((vu_n (by omega)).trans (vu_n (by omega))))
  have dT : tSt h4 z32 0 := hT.cg (fun k z1 z2 => (f4 k (by omega)).trans ((vu_n (by omega)).trans (vu_n (by omega))))
  clear f4 bR b0 hT
  refine x_putF f_K_26 rfl d_K_init_34 (by omega) (by first | assumption | exact vu_s | exact vu_t (by omega) (by first | assumption | exact vu_s | exact vu_t (by omega) (by first | assumption | exact vu_s | exact vu_t (by omega) (by first | assumption | exact vu_s))) | rfl | (simp only [va_up, Nat.reduceEqDiff, ↓reduceIte]; first | rfl | assumption)) (Nat.le_of_ble_eq_true rfl) (fun _ => ⟨rfl, rfl⟩) ?_
  refine x_aload_n d_K_init_37 rfl ?_
  refine x_new n_K_30 d_K_init_38 (by omega) ⟨by first | exact Nat.le_of_ble_eq_true rfl | (dsimp only; omega), by first | exact Nat.le_of_ble_eq_true rfl | (dsimp only; omega)⟩ ?_
  refine x_dup d_K_init_41 rfl ?_
  refine x_callI (c_E_init vu_s) k_K_32 v_E_init d_K_init_42 rfl (by omega) (by omega) (Nat.le_of_ble_eq_true rfl) ⟨by first | exact Nat.le_of_ble_eq_true rfl | (dsimp only; omega), by first | exact Nat.le_of_ble_eq_true rfl | (dsimp only; omega)⟩ ?_
  rintro r h5 ⟨rfl, hE5, f5⟩
  have e0 : h5 0 = .inr (0, [.ref 1, .ref 5, .ref 7, .null, .null]) := f5 0 (by omega)
  have eR : iR z32 0 z32 z32 h5 := dR.cg (fun k z1 z2 => (f5 k (by omega)).trans ((vu_n (by omega)).trans (vu_n (by omega))))
  have eT : tSt h5 z32 0 := dT.cg (fun k z1 z2 => (f5 k (by omega)).trans ((vu_n (by omega)).trans (vu_n (by omega))))
  have eG : iG h5 := hG4.cg (fun k z1 z2 => (f5 k (by omega)).trans ((vu_n (by omega)).trans (vu_n (by omega))))
  clear f5 dR d0 dT hG4
  refine x_putF f_K_33 rfl d_K_init_45 (by omega) (by first | assumption | exact vu_s | exact vu_t (by omega) (by first | assumption | exact vu_s | exact vu_t (by omega) (by first | assumption | exact vu_s | exact vu_t (by omega) (by first | assumption | exact vu_s))) | rfl | (simp only [va_up, Nat.reduceEqDiff, ↓reduceIte]; first | rfl | assumption)) (Nat.le_of_ble_eq_true rfl) (fun _ => ⟨rfl, rfl⟩) ?_
  refine x_aload_n d_K_init_48 rfl ?_
  refine x_iconst (v := 4) d_K_init_49 (by decide) ?_
  refine x_anew (t := 5) (n := 4) ⟨cl_K_37, by decide⟩ rfl d_K_init_50 (by decide) (by decide) (by decide) (by omega) ⟨by first | exact Nat.le_of_ble_eq_true rfl | (dsimp only; omega), by first | exact Nat.le_of_ble_eq_true rfl | (dsimp only; omega)⟩ ?_
  refine x_putF f_K_39 rfl d_K_init_53 (by omega) (by first | assumption | exact vu_s | exact vu_t (by omega) (by first | assumption | exact vu_s | exact vu_t (by omega) (by first | assumption | exact vu_s | exact vu_t (by omega) (by first | assumption | exact vu_s))) | rfl | (simp only [va_up, Nat.reduceEqDiff, ↓reduceIte]; first | rfl | assumption)) (Nat.le_of_ble_eq_true rfl) (fun _ => ⟨rfl, rfl⟩) ?_
  refine x_iconst (v := 0) d_K_init_56 (by decide) ?_
  refine x_istore_n d_K_init_57 (by decide) rfl ?_
  have key : ∀ (m l : Nat) (hh : xHp) (a : Nat → Option Nat), l ≤ 4 → 4 - l < m → hh 0 = oK → iR z32 0 z32 z32 hh → tSt hh z32 0 → iG hh → iE hh → hh 69 = aR 5 4 a → (∀ j, j < l → a j = some (70 + 6 * j) ∧ qSt (70 + 6 * j) (false, 0, 0, 0, 0, z32, z32) hh) → XW Γ y_K_init b_K_init 2 none (3, 93, 3942) (xQ Γ (1 + 93) 93 3942 (fun r h' => r = none ∧ IC z32 0 z32 z32 z32 0 zQ h')) (69 + 6 * l) (3514 + 107 * l) (70 + 6 * l) hh 58 [some (.ref 0), some (.int (nI l))] [] := by
    intro m
    induction m with
    | zero => intro l hh a _ h0; omega
    | succ m ih =>
      intro l hh a hl hlm g0 gR gT gG gE g69 hj
      refine x_iload_n d_K_init_58 rfl ?_
      refine x_iconst (v := 4) d_K_init_59 (by decide) ?_
      refine x_icmp_ge 82 d_K_init_60 (by decide) (fun c1 => ?_) (fun c1 => ?_)
      · have e := nI_end (n := 4) hl (by decide) c1
        subst e
        refine x_vret d_K_init_82 ?_
        exact ⟨rfl, g0, gR, gT, gG, gE, ⟨a, g69, fun i hi => (hj i hi).1⟩, fun i hi => (hj i hi).2⟩
      · have hlt := nI_more (n := 4) hl (by decide) c1
        have hi : vp_in (nI l) 4 := vp_in_nI hlt (by decide)
        have hcl : (nI l).toNatClampNeg = l := nI_clamp (by omega)
        refine x_aload_n d_K_init_63 rfl ?_
        refine x_get f_K_39 d_K_init_64 (by omega) (by first | assumption | exact vu_s | exact vu_t (by omega) (by first | assumption | exact vu_s | exact vu_t (by omega) (by first | assumption | exact vu_s | exact vu_t (by omega) (by first | assumption | exact vu_s))) | rfl | (simp only [va_up, Nat.reduceEqDiff, ↓reduceIte]; first | rfl | assumption)) rfl ?_
        refine x_iload_n d_K_init_67 rfl ?_
        refine x_new n_K_37 d_K_init_68 (by omega) ⟨by first | exact Nat.le_of_ble_eq_true rfl | (dsimp only; omega), by first | exact Nat.le_of_ble_eq_true rfl | (dsimp only; omega)⟩ ?_
        refine x_dup d_K_init_71 rfl ?_
        refine x_callIN (c_Q_init (o := 70 + 6 * l) (by omega) vu_s) k_K_43 v_Q_init d_K_init_72 rfl (by omega) (by omega) (Nat.le_of_ble_eq_true rfl) ⟨by first | exact Nat.le_of_ble_eq_true rfl | (dsimp only; omega), by first | exact Nat.le_of_ble_eq_true rfl | (dsimp only; omega)⟩ ?_
        rintro r h2 ⟨rfl, q1, q2⟩
        have ff : ∀ k, k < 70 + 6 * l → h2 k = hh k := fun k hk => (q2 k hk).trans (vu_n (by omega))
        have f69 : h2 69 = aR 5 4 a := (ff 69 (by omega)).trans g69
        have q0 := q1.1
        refine x_aast (t := 5) (r := (R_Q, F_Q, 9)) (ci := 6) rfl d_K_init_75 (by omega) f69 hi (by omega) q0 rfl ?_
        rw [hcl]
        refine x_iinc1 d_K_init_76 rfl (by decide) rfl ?_
        refine x_goto 58 d_K_init_79 (by decide) ?_
        rw [nI_1]
        have fs : ∀ {lo hi}, hi < 69 → sm lo hi hh (va_up h2 69 (aR 5 4 (va_up a l (some (70 + 6 * l))))) := fun hz k z1 z2 => (vu_n (by omega)).trans (ff k (by omega))
        have := ih (l + 1) (va_up h2 69 (aR 5 4 (va_up a l (some (70 + 6 * l))))) _ (by omega) (by omega) ((fs (lo := 0) (hi := 0) (by decide) 0 (by decide) (by decide)).trans g0) (gR.cg (fs (by decide))) (gT.cg (fs (by decide))) (gG.cg (fs (by decide))) (gE.cg (fs (by decide))) vu_s (by
          intro j hj'
          by_cases e : j = l
          · subst e
            exact ⟨by rw [vu_s], q1.cg (fun k z1 z2 => vu_n (by omega))⟩
          · refine ⟨by rw [vu_n e]; exact (hj j (by omega)).1, (hj j (by omega)).2.cg (fun k z1 z2 => (vu_n (by omega)).trans (ff k (by omega)))⟩)
        exact XW_n (by omega) (by omega) (by omega) this
  have fs : ∀ {lo hi}, 0 < lo → hi < 69 → sm lo hi h5 (va_up (va_up (va_up h5 0 (.inr (0, [.ref 1, .ref 5, .ref 7, .ref 9, .null]))) 69 (aR 5 4 (fun _ => none))) 0 oK) := fun z0 hz k z1 z2 => (vu_n (by omega)).trans ((vu_n (by omega)).trans (vu_n (by omega)))
  exact XW_n (by omega) (by omega) (by omega) (key 5 0 _ _ (by omega) (by omega) vu_s (eR.cg (fs (by decide) (by decide))) (eT.cg (fs (by decide) (by decide))) (eG.cg (fs (by decide) (by decide))) (hE5.cg (fs (by decide) (by decide))) (vu_t (by omega) vu_s) (fun j hj => by omega))
