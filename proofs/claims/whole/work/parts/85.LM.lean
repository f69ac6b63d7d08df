/-! The law: its loop. -/
theorem vp_5 {r L k : Nat} (h : 5 * r + 5 ≤ L) (hL : L ≤ 2560) (hk : k < 5) : vp_in (nI (5 * r) + nI k) L := by
  rw [nI_add]
  exact vp_in_nI (by omega) (by omega)
theorem sub_5 {L i : Nat} (hL : L ≤ 2560) (hi : i ≤ 2560) (h : ¬ nI L - 5 < nI i) : i + 5 ≤ L := by
  have h1 := Int32.not_lt.mp h
  have h2 := Int32.le_iff_toInt_le.mp h1
  rw [nI_toInt (by omega), show (5 : Int32) = nI 5 from rfl, pk_sub_toInt (by omega) (by omega)] at h2
  omega
theorem LV.up {r : Nat} {h : xHp} (hV : LV r h) : LV (r + 1) h := by
  obtain ⟨f, n, pl, bs, tf, tn, Qs, I, M, hn, ht, hf, hp⟩ := hV
  exact ⟨f, n, pl, bs, tf, tn, Qs, I, M, by omega, ht, hf, hp⟩
section LM
variable {Γ : xG} {nm ds : String} {Z : State → Prop} {L : Nat} {xs : Nat → Int32}
set_option maxRecDepth 100000 in
set_option maxHeartbeats 4000000 in
theorem l_loop (hL : L ≤ 2560) (hX : xX Γ L xs) (hE : ∀ (r : Nat) (h : xHp), AtL Γ nm ds Z h 421 r []) : ∀ (m r : Nat) (h : xHp), L < 5 * r + m → 5 * r ≤ 2560 → LV r h → AtL Γ nm ds Z h 18 r [] := by
  intro m
  induction m with
  | zero =>
    intro r h h1 h2 hV
    refine x_iload_n d_L_law_18 rfl ?_
    refine x_aload_n d_L_law_19 rfl ?_
    refine x_slen hX d_L_law_20 ?_
    refine x_iconst (v := 5) d_L_law_21 (by decide) ?_
    refine x_isub d_L_law_22 ?_
    refine x_icmp_gt 421 d_L_law_23 (by decide) (fun c1 => ?_) (fun c1 => ?_)
    · exact hE r h
    · exact absurd (sub_5 hL h2 c1) (by omega)
  | succ m ih =>
    intro r h h1 h2 hV
    refine x_iload_n d_L_law_18 rfl ?_
    refine x_aload_n d_L_law_19 rfl ?_
    refine x_slen hX d_L_law_20 ?_
    refine x_iconst (v := 5) d_L_law_21 (by decide) ?_
    refine x_isub d_L_law_22 ?_
    refine x_icmp_gt 421 d_L_law_23 (by decide) (fun c1 => ?_) (fun c1 => ?_)
    · exact hE r h
    · have h5 := sub_5 hL h2 c1
      have v0 : vp_in (nI (5 * r)) L := vp_in_nI (by omega) (by omega)
      have v1 : vp_in (nI (5 * r) + 1) L := vp_5 (k := 1) h5 hL (by decide)
      have v2 : vp_in (nI (5 * r) + 2) L := vp_5 (k := 2) h5 hL (by decide)
      have v3 : vp_in (nI (5 * r) + 3) L := vp_5 (k := 3) h5 hL (by decide)
      have v4 : vp_in (nI (5 * r) + 4) L := vp_5 (k := 4) h5 hL (by decide)
      have hr : r < 512 := by omega
      have next : ∀ h', LV (r + 1) h' → AtL Γ nm ds Z h' 415 r [] := by
        intro h' hV'
        refine x_iinc d_L_law_415 rfl rfl (by decide) rfl ?_
        refine x_goto 18 d_L_law_418 (by decide) ?_
        have e5 : nI (5 * r) + Int32.ofInt 5 = nI (5 * (r + 1)) := by
          rw [show Int32.ofInt 5 = nI 5 from rfl, nI_add]
          exact congrArg nI (by omega)
        rw [e5]
        exact ih (r + 1) h' (by omega) (by omega) hV'
      refine x_aload_n d_L_law_26 rfl ?_
      refine x_iload_n d_L_law_27 rfl ?_
      refine x_sld hX d_L_law_28 (by assumption) ?_
      refine x_bipush (v := 15) d_L_law_29 (by decide) ?_
      refine x_iand d_L_law_31 ?_
      obtain ⟨j, hj, ej⟩ := pk_andE (xs (nI (5 * r)).toNatClampNeg) (m := 15) 4 rfl
      refine XW_c ej ?_
      have cs : j = 0 ∨ j = 1 ∨ j = 2 ∨ j = 3 ∨ j = 4 ∨ j = 5 ∨ j = 6 ∨ j = 7 ∨ j = 8 ∨ j = 9 ∨ j = 10 ∨ j = 11 ∨ j = 12 ∨ j = 13 ∨ j = 14 ∨ j = 15 := by omega
      rcases cs with rfl | rfl | rfl | rfl | rfl | rfl | rfl | rfl | rfl | rfl | rfl | rfl | rfl | rfl | rfl | rfl
      · exact x_tableIn 96 d_L_law_32 (by decide) (by decide) (off := 64) (by decide) (by decide) (l_0 hX v1 v2 v3 v4 hr hV next)
      · exact x_tableIn 149 d_L_law_32 (by decide) (by decide) (off := 117) (by decide) (by decide) (l_1 hr hV next)
      · exact x_tableIn 162 d_L_law_32 (by decide) (by decide) (off := 130) (by decide) (by decide) (l_2 hX v1 hV next)
      · exact x_tableIn 185 d_L_law_32 (by decide) (by decide) (off := 153) (by decide) (by decide) (l_3 hV next)
      · exact x_tableIn 198 d_L_law_32 (by decide) (by decide) (off := 166) (by decide) (by decide) (l_4 hX v1 hV next)
      · exact x_tableIn 221 d_L_law_32 (by decide) (by decide) (off := 189) (by decide) (by decide) (l_5 hV next)
      · exact x_tableIn 234 d_L_law_32 (by decide) (by decide) (off := 202) (by decide) (by decide) (l_6 hX v1 hV next)
      · exact x_tableIn 257 d_L_law_32 (by decide) (by decide) (off := 225) (by decide) (by decide) (l_7 hX v1 v2 hV next)
      · exact x_tableIn 291 d_L_law_32 (by decide) (by decide) (off := 259) (by decide) (by decide) (l_8 hX v1 hV next)
      · exact x_tableIn 315 d_L_law_32 (by decide) (by decide) (off := 283) (by decide) (by decide) (l_9 hX v1 v2 v3 hV next)
      · exact x_tableIn 359 d_L_law_32 (by decide) (by decide) (off := 327) (by decide) (by decide) (l_A hX v1 v2 hV next)
      · exact x_tableIn 392 d_L_law_32 (by decide) (by decide) (off := 360) (by decide) (by decide) (l_B hX v1 hV next)
      · exact x_tableOut 415 d_L_law_32 (by decide) (by decide) (next h (LV.up hV))
      · exact x_tableOut 415 d_L_law_32 (by decide) (by decide) (next h (LV.up hV))
      · exact x_tableOut 415 d_L_law_32 (by decide) (by decide) (next h (LV.up hV))
      · exact x_tableOut 415 d_L_law_32 (by decide) (by decide) (next h (LV.up hV))
end LM
