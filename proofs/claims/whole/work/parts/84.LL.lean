/-! The law: its calls. -/
abbrev yL (nm ds : String) : MethodName := ⟨"JoinKeeperLaw", nm, ds⟩
abbrev AtL (Γ : xG) (nm ds : String) (Z : State → Prop) (h : xHp) (pc r : Nat) (st : List Value) : Prop := XW Γ (yL nm ds) code 4 ret (50, 116, 7757) Z 116 7757 116 h pc [some (.ref 1000000), some (.ref 0), some (.ref 94), some (.int (nI (5 * r)))] st
section LL
variable {Γ : xG} {nm ds : String} {Z : State → Prop} {L r : Nat} {xs : Nat → Int32} {h : xHp}
set_option maxRecDepth 100000 in
set_option maxHeartbeats 4000000 in
theorem l_0 (hX : xX Γ L xs) (v1 : vp_in (nI (5 * r) + 1) L) (v2 : vp_in (nI (5 * r) + 2) L) (v3 : vp_in (nI (5 * r) + 3) L) (v4 : vp_in (nI (5 * r) + 4) L) (hr : r < 512) (hV : LV r h) (next : ∀ h', LV (r + 1) h' → AtL Γ nm ds Z h' 415 r []) : AtL Γ nm ds Z h 96 r [] := by
  obtain ⟨f, n, pl, bs, tf, tn, Qs, I, M, hn, ht, hf, hp⟩ := hV
  have h0 := I.1
  refine x_aload_n d_L_law_96 rfl ?_
  refine x_aload_n d_L_law_97 rfl ?_
  refine x_iload_n d_L_law_98 rfl ?_
  refine x_iconst (v := 1) d_L_law_99 (by decide) ?_
  refine x_iadd d_L_law_100 ?_
  refine x_sld hX d_L_law_101 (by assumption) ?_
  refine x_aload_n d_L_law_102 rfl ?_
  refine x_iload_n d_L_law_103 rfl ?_
  refine x_iconst (v := 2) d_L_law_104 (by decide) ?_
  refine x_iadd d_L_law_105 ?_
  refine x_sld hX d_L_law_106 (by assumption) ?_
  refine x_aload_n d_L_law_107 rfl ?_
  refine x_iload_n d_L_law_108 rfl ?_
  refine x_iconst (v := 3) d_L_law_109 (by decide) ?_
  refine x_iadd d_L_law_110 ?_
  refine x_sld hX d_L_law_111 (by assumption) ?_
  refine x_aload_n d_L_law_112 rfl ?_
  refine x_iload_n d_L_law_113 rfl ?_
  refine x_iconst (v := 4) d_L_law_114 (by decide) ?_
  refine x_iadd d_L_law_115 ?_
  refine x_sld hX d_L_law_116 (by assumption) ?_
  refine x_cV (c_K_change _ _ _ _ (by decide) I (by omega)) k_L_13 v_K_change d_L_law_117 rfl (by omega) (by first | assumption | exact vu_s | exact vu_t (by omega) (by first | assumption | exact vu_s | exact vu_t (by omega) (by first | assumption | exact vu_s | exact vu_t (by omega) (by first | assumption | exact vu_s))) | rfl | (simp only [va_up, Nat.reduceEqDiff, ↓reduceIte]; first | rfl | assumption)) rfl (by omega) (Nat.le_of_ble_eq_true rfl) ?_
  rintro v h1 ⟨fr1, q1⟩
  obtain ⟨x, rfl, z1⟩ := if_v q1
  have M1 := M.cg fr1
  obtain ⟨ca, cd, gp, lg, g94⟩ := M1.o
  refine x_aload_n d_L_law_120 rfl ?_
  refine x_aload_n d_L_law_121 rfl ?_
  refine x_iload_n d_L_law_122 rfl ?_
  refine x_iconst (v := 1) d_L_law_123 (by decide) ?_
  refine x_iadd d_L_law_124 ?_
  refine x_sld hX d_L_law_125 (by assumption) ?_
  refine x_aload_n d_L_law_126 rfl ?_
  refine x_iload_n d_L_law_127 rfl ?_
  refine x_iconst (v := 2) d_L_law_128 (by decide) ?_
  refine x_iadd d_L_law_129 ?_
  refine x_sld hX d_L_law_130 (by assumption) ?_
  refine x_aload_n d_L_law_131 rfl ?_
  refine x_iload_n d_L_law_132 rfl ?_
  refine x_iconst (v := 3) d_L_law_133 (by decide) ?_
  refine x_iadd d_L_law_134 ?_
  refine x_sld hX d_L_law_135 (by assumption) ?_
  refine x_aload_n d_L_law_136 rfl ?_
  refine x_iload_n d_L_law_137 rfl ?_
  refine x_iconst (v := 4) d_L_law_138 (by decide) ?_
  refine x_iadd d_L_law_139 ?_
  refine x_sld hX d_L_law_140 (by assumption) ?_
  refine x_cV (m_change _ _ _ _ (by decide) (by omega) M1) k_L_17 v_M_change d_L_law_141 rfl (by omega) (by first | assumption | exact vu_s | exact vu_t (by omega) (by first | assumption | exact vu_s | exact vu_t (by omega) (by first | assumption | exact vu_s | exact vu_t (by omega) (by first | assumption | exact vu_s))) | rfl | (simp only [va_up, Nat.reduceEqDiff, ↓reduceIte]; first | rfl | assumption)) rfl (by omega) (Nat.le_of_ble_eq_true rfl) ?_
  rintro v h2 ⟨fr2, q2⟩
  obtain ⟨x2, rfl, z2⟩ := if_v q2
  refine x_icmp_eq 415 d_L_law_144 (by decide) (fun e1 => ?_) (fun e1 => ?_)
  · refine next h2 ?_
    rcases z1 with ⟨c, rfl, I1⟩ | ⟨c, rfl, I1⟩
    · rcases z2 with ⟨-, rfl, M2⟩ | ⟨c', -⟩
      · refine ⟨_, _, _, _, _, _, _, I1.lo fr2, M2, by omega, ht, hf, fun j hj => ?_⟩
        by_cases e : j = n
        · subst e
          rw [upd_s]
          exact plOf_in c.1
        · rw [upd, if_neg e]
          exact hp j (by omega)
      · exact absurd c c'
    · rcases z2 with ⟨c', -⟩ | ⟨-, rfl, M2⟩
      · exact absurd c' c
      · exact ⟨_, _, _, _, _, _, _, I1.lo fr2, M2, by omega, ht, hf, hp⟩
  · exfalso
    rcases z1 with ⟨c, rfl, -⟩ | ⟨c, rfl, -⟩
    · rcases z2 with ⟨-, rfl, -⟩ | ⟨c', -⟩
      · exact e1 rfl
      · exact c' c
    · rcases z2 with ⟨c', -⟩ | ⟨-, rfl, -⟩
      · exact c c'
      · exact e1 rfl
set_option maxRecDepth 100000 in
set_option maxHeartbeats 4000000 in
theorem l_1 (hr : r < 512) (hV : LV r h) (next : ∀ h', LV (r + 1) h' → AtL Γ nm ds Z h' 415 r []) : AtL Γ nm ds Z h 149 r [] := by
  obtain ⟨f, n, pl, bs, tf, tn, Qs, I, M, hn, ht, hf, hp⟩ := hV
  have h0 := I.1
  refine x_aload_n d_L_law_149 rfl ?_
  refine x_cV (c_K_back (by decide) I (by omega) hp) k_L_18 v_K_back d_L_law_150 rfl (by omega) (by first | assumption | exact vu_s | exact vu_t (by omega) (by first | assumption | exact vu_s | exact vu_t (by omega) (by first | assumption | exact vu_s | exact vu_t (by omega) (by first | assumption | exact vu_s))) | rfl | (simp only [va_up, Nat.reduceEqDiff, ↓reduceIte]; first | rfl | assumption)) rfl (by omega) (Nat.le_of_ble_eq_true rfl) ?_
  rintro v h1 ⟨fr1, q1⟩
  obtain ⟨x, rfl, z1⟩ := if_v q1
  have M1 := M.cg fr1
  obtain ⟨ca, cd, gp, lg, g94⟩ := M1.o
  refine x_aload_n d_L_law_153 rfl ?_
  refine x_cV (m_back (by decide) (by omega) hp M1) k_L_22 v_M_back d_L_law_154 rfl (by omega) (by first | assumption | exact vu_s | exact vu_t (by omega) (by first | assumption | exact vu_s | exact vu_t (by omega) (by first | assumption | exact vu_s | exact vu_t (by omega) (by first | assumption | exact vu_s))) | rfl | (simp only [va_up, Nat.reduceEqDiff, ↓reduceIte]; first | rfl | assumption)) rfl (by omega) (Nat.le_of_ble_eq_true rfl) ?_
  rintro v h2 ⟨fr2, q2⟩
  obtain ⟨x2, rfl, z2⟩ := if_v q2
  refine x_icmp_eq 415 d_L_law_157 (by decide) (fun e1 => ?_) (fun e1 => ?_)
  · refine next h2 ?_
    rcases z1 with ⟨c, rfl, I1⟩ | ⟨c, rfl, I1⟩
    · rcases z2 with ⟨-, rfl, M2⟩ | ⟨c', -⟩
      · exact ⟨_, _, _, _, _, _, _, I1.lo fr2, M2, by omega, ht, hf, hp⟩
      · exact absurd c c'
    · rcases z2 with ⟨c', -⟩ | ⟨-, rfl, M2⟩
      · exact absurd c' c
      · exact ⟨_, _, _, _, _, _, _, I1.lo fr2, M2, by omega, ht, hf, fun j hj => hp j (by omega)⟩
  · exfalso
    rcases z1 with ⟨c, rfl, -⟩ | ⟨c, rfl, -⟩
    · rcases z2 with ⟨-, rfl, -⟩ | ⟨c', -⟩
      · exact e1 rfl
      · exact c' c
    · rcases z2 with ⟨c', -⟩ | ⟨-, rfl, -⟩
      · exact c c'
      · exact e1 rfl
set_option maxRecDepth 100000 in
set_option maxHeartbeats 4000000 in
theorem l_2 (hX : xX Γ L xs) (v1 : vp_in (nI (5 * r) + 1) L) (hV : LV r h) (next : ∀ h', LV (r + 1) h' → AtL Γ nm ds Z h' 415 r []) : AtL Γ nm ds Z h 162 r [] := by
  obtain ⟨f, n, pl, bs, tf, tn, Qs, I, M, hn, ht, hf, hp⟩ := hV
  have h0 := I.1
  refine x_aload_n d_L_law_162 rfl ?_
  refine x_aload_n d_L_law_163 rfl ?_
  refine x_iload_n d_L_law_164 rfl ?_
  refine x_iconst (v := 1) d_L_law_165 (by decide) ?_
  refine x_iadd d_L_law_166 ?_
  refine x_sld hX d_L_law_167 (by assumption) ?_
  refine x_cV (c_K_sign _ (by decide) I ht) k_L_23 v_K_sign d_L_law_168 rfl (by omega) (by first | assumption | exact vu_s | exact vu_t (by omega) (by first | assumption | exact vu_s | exact vu_t (by omega) (by first | assumption | exact vu_s | exact vu_t (by omega) (by first | assumption | exact vu_s))) | rfl | (simp only [va_up, Nat.reduceEqDiff, ↓reduceIte]; first | rfl | assumption)) rfl (by omega) (Nat.le_of_ble_eq_true rfl) ?_
  rintro v h1 ⟨fr1, q1⟩
  obtain ⟨x, rfl, z1⟩ := if_v q1
  have M1 := M.cg fr1
  obtain ⟨ca, cd, gp, lg, g94⟩ := M1.o
  refine x_aload_n d_L_law_171 rfl ?_
  refine x_aload_n d_L_law_172 rfl ?_
  refine x_iload_n d_L_law_173 rfl ?_
  refine x_iconst (v := 1) d_L_law_174 (by decide) ?_
  refine x_iadd d_L_law_175 ?_
  refine x_sld hX d_L_law_176 (by assumption) ?_
  refine x_cV (m_sign _ (by decide) ht M1) k_L_27 v_M_sign d_L_law_177 rfl (by omega) (by first | assumption | exact vu_s | exact vu_t (by omega) (by first | assumption | exact vu_s | exact vu_t (by omega) (by first | assumption | exact vu_s | exact vu_t (by omega) (by first | assumption | exact vu_s))) | rfl | (simp only [va_up, Nat.reduceEqDiff, ↓reduceIte]; first | rfl | assumption)) rfl (by omega) (Nat.le_of_ble_eq_true rfl) ?_
  rintro v h2 ⟨fr2, q2⟩
  obtain ⟨x2, rfl, z2⟩ := if_v q2
  refine x_icmp_eq 415 d_L_law_180 (by decide) (fun e1 => ?_) (fun e1 => ?_)
  · refine next h2 ?_
    rcases z1 with ⟨c, rfl, I1⟩ | ⟨c, rfl, I1⟩
    · rcases z2 with ⟨-, rfl, M2⟩ | ⟨c', -⟩
      · refine ⟨_, _, _, _, _, _, _, I1.lo fr2, M2, by omega, by omega, fun j => ?_, hp⟩
        by_cases e : j = tn
        · subst e
          rw [upd_s]
          exact chOK_c c.1 c.2.1
        · rw [upd, if_neg e]
          exact hf j
      · exact absurd c c'
    · rcases z2 with ⟨c', -⟩ | ⟨-, rfl, M2⟩
      · exact absurd c' c
      · exact ⟨_, _, _, _, _, _, _, I1.lo fr2, M2, by omega, ht, hf, hp⟩
  · exfalso
    rcases z1 with ⟨c, rfl, -⟩ | ⟨c, rfl, -⟩
    · rcases z2 with ⟨-, rfl, -⟩ | ⟨c', -⟩
      · exact e1 rfl
      · exact c' c
    · rcases z2 with ⟨c', -⟩ | ⟨-, rfl, -⟩
      · exact c c'
      · exact e1 rfl
set_option maxRecDepth 100000 in
set_option maxHeartbeats 4000000 in
theorem l_3 (hV : LV r h) (next : ∀ h', LV (r + 1) h' → AtL Γ nm ds Z h' 415 r []) : AtL Γ nm ds Z h 185 r [] := by
  obtain ⟨f, n, pl, bs, tf, tn, Qs, I, M, hn, ht, hf, hp⟩ := hV
  have h0 := I.1
  refine x_aload_n d_L_law_185 rfl ?_
  refine x_cV (c_K_clear (by decide) I) k_L_28 v_K_clear d_L_law_186 rfl (by omega) (by first | assumption | exact vu_s | exact vu_t (by omega) (by first | assumption | exact vu_s | exact vu_t (by omega) (by first | assumption | exact vu_s | exact vu_t (by omega) (by first | assumption | exact vu_s))) | rfl | (simp only [va_up, Nat.reduceEqDiff, ↓reduceIte]; first | rfl | assumption)) rfl (by omega) (Nat.le_of_ble_eq_true rfl) ?_
  rintro v h1 ⟨fr1, rfl, I1⟩
  have M1 := M.cg fr1
  obtain ⟨ca, cd, gp, lg, g94⟩ := M1.o
  refine x_aload_n d_L_law_189 rfl ?_
  refine x_cV (m_clear (by decide) M1) k_L_31 v_M_clear d_L_law_190 rfl (by omega) (by first | assumption | exact vu_s | exact vu_t (by omega) (by first | assumption | exact vu_s | exact vu_t (by omega) (by first | assumption | exact vu_s | exact vu_t (by omega) (by first | assumption | exact vu_s))) | rfl | (simp only [va_up, Nat.reduceEqDiff, ↓reduceIte]; first | rfl | assumption)) rfl (by omega) (Nat.le_of_ble_eq_true rfl) ?_
  rintro v h2 ⟨fr2, rfl, M2⟩
  refine x_icmp_eq 415 d_L_law_193 (by decide) (fun e1 => ?_) (fun e1 => ?_)
  · exact next h2 ⟨_, _, _, _, _, _, _, I1.lo fr2, M2, by omega, by omega, hf, hp⟩
  · exact absurd rfl e1
set_option maxRecDepth 100000 in
set_option maxHeartbeats 4000000 in
theorem l_4 (hX : xX Γ L xs) (v1 : vp_in (nI (5 * r) + 1) L) (hV : LV r h) (next : ∀ h', LV (r + 1) h' → AtL Γ nm ds Z h' 415 r []) : AtL Γ nm ds Z h 198 r [] := by
  obtain ⟨f, n, pl, bs, tf, tn, Qs, I, M, hn, ht, hf, hp⟩ := hV
  have h0 := I.1
  refine x_aload_n d_L_law_198 rfl ?_
  refine x_aload_n d_L_law_199 rfl ?_
  refine x_iload_n d_L_law_200 rfl ?_
  refine x_iconst (v := 1) d_L_law_201 (by decide) ?_
  refine x_iadd d_L_law_202 ?_
  refine x_sld hX d_L_law_203 (by assumption) ?_
  refine x_cV (c_K_define _ (by decide) I ht hf) k_L_32 v_K_define d_L_law_204 rfl (by omega) (by first | assumption | exact vu_s | exact vu_t (by omega) (by first | assumption | exact vu_s | exact vu_t (by omega) (by first | assumption | exact vu_s | exact vu_t (by omega) (by first | assumption | exact vu_s))) | rfl | (simp only [va_up, Nat.reduceEqDiff, ↓reduceIte]; first | rfl | assumption)) rfl (by omega) (Nat.le_of_ble_eq_true rfl) ?_
  rintro v h1 ⟨fr1, q1⟩
  obtain ⟨x, rfl⟩ := dO_v q1
  have M1 := M.cg fr1
  obtain ⟨ca, cd, gp, lg, g94⟩ := M1.o
  refine x_aload_n d_L_law_207 rfl ?_
  refine x_aload_n d_L_law_208 rfl ?_
  refine x_iload_n d_L_law_209 rfl ?_
  refine x_iconst (v := 1) d_L_law_210 (by decide) ?_
  refine x_iadd d_L_law_211 ?_
  refine x_sld hX d_L_law_212 (by assumption) ?_
  refine x_cV (m_define _ (by decide) ht M1) k_L_35 v_M_define d_L_law_213 rfl (by omega) (by first | assumption | exact vu_s | exact vu_t (by omega) (by first | assumption | exact vu_s | exact vu_t (by omega) (by first | assumption | exact vu_s | exact vu_t (by omega) (by first | assumption | exact vu_s))) | rfl | (simp only [va_up, Nat.reduceEqDiff, ↓reduceIte]; first | rfl | assumption)) rfl (by omega) (Nat.le_of_ble_eq_true rfl) ?_
  rintro v h2 ⟨fr2, q2⟩
  obtain ⟨x2, rfl⟩ := dM_v q2
  obtain ⟨e0, Qs', I1, M2⟩ := d_both q1 q2
  refine x_icmp_eq 415 d_L_law_216 (by decide) (fun e1 => ?_) (fun e1 => ?_)
  · exact next h2 ⟨_, _, _, _, _, _, _, I1.lo fr2, M2, by omega, ht, hf, hp⟩
  · exact absurd e0 e1
set_option maxRecDepth 100000 in
set_option maxHeartbeats 4000000 in
theorem l_5 (hV : LV r h) (next : ∀ h', LV (r + 1) h' → AtL Γ nm ds Z h' 415 r []) : AtL Γ nm ds Z h 221 r [] := by
  obtain ⟨f, n, pl, bs, tf, tn, Qs, I, M, hn, ht, hf, hp⟩ := hV
  have h0 := I.1
  refine x_aload_n d_L_law_221 rfl ?_
  refine x_cV (c_K_fault (by decide) I ht hf) k_L_36 v_K_fault d_L_law_222 rfl (by omega) (by first | assumption | exact vu_s | exact vu_t (by omega) (by first | assumption | exact vu_s | exact vu_t (by omega) (by first | assumption | exact vu_s | exact vu_t (by omega) (by first | assumption | exact vu_s))) | rfl | (simp only [va_up, Nat.reduceEqDiff, ↓reduceIte]; first | rfl | assumption)) rfl (by omega) (Nat.le_of_ble_eq_true rfl) ?_
  rintro v h1 ⟨fr1, rfl, I1⟩
  have M1 := M.cg fr1
  obtain ⟨ca, cd, gp, lg, g94⟩ := M1.o
  refine x_aload_n d_L_law_225 rfl ?_
  refine x_cV (m_fault (by decide) ht M1) k_L_39 v_M_fault d_L_law_226 rfl (by omega) (by first | assumption | exact vu_s | exact vu_t (by omega) (by first | assumption | exact vu_s | exact vu_t (by omega) (by first | assumption | exact vu_s | exact vu_t (by omega) (by first | assumption | exact vu_s))) | rfl | (simp only [va_up, Nat.reduceEqDiff, ↓reduceIte]; first | rfl | assumption)) rfl (by omega) (Nat.le_of_ble_eq_true rfl) ?_
  rintro v h2 ⟨fr2, rfl, M2⟩
  generalize fltC gz tf tn = x
  refine x_icmp_eq 415 d_L_law_229 (by decide) (fun e1 => ?_) (fun e1 => ?_)
  · exact next h2 ⟨_, _, _, _, _, _, _, I1.lo fr2, M2, by omega, ht, hf, hp⟩
  · exact absurd rfl e1
set_option maxRecDepth 100000 in
set_option maxHeartbeats 4000000 in
theorem l_6 (hX : xX Γ L xs) (v1 : vp_in (nI (5 * r) + 1) L) (hV : LV r h) (next : ∀ h', LV (r + 1) h' → AtL Γ nm ds Z h' 415 r []) : AtL Γ nm ds Z h 234 r [] := by
  obtain ⟨f, n, pl, bs, tf, tn, Qs, I, M, hn, ht, hf, hp⟩ := hV
  have h0 := I.1
  refine x_aload_n d_L_law_234 rfl ?_
  refine x_aload_n d_L_law_235 rfl ?_
  refine x_iload_n d_L_law_236 rfl ?_
  refine x_iconst (v := 1) d_L_law_237 (by decide) ?_
  refine x_iadd d_L_law_238 ?_
  refine x_sld hX d_L_law_239 (by assumption) ?_
  refine x_cV (c_K_drop _ (by decide) I) k_L_40 v_K_drop d_L_law_240 rfl (by omega) (by first | assumption | exact vu_s | exact vu_t (by omega) (by first | assumption | exact vu_s | exact vu_t (by omega) (by first | assumption | exact vu_s | exact vu_t (by omega) (by first | assumption | exact vu_s))) | rfl | (simp only [va_up, Nat.reduceEqDiff, ↓reduceIte]; first | rfl | assumption)) rfl (by omega) (Nat.le_of_ble_eq_true rfl) ?_
  rintro v h1 ⟨fr1, q1⟩
  obtain ⟨x, rfl, z1⟩ := if_v q1
  have M1 := M.cg fr1
  obtain ⟨ca, cd, gp, lg, g94⟩ := M1.o
  refine x_aload_n d_L_law_243 rfl ?_
  refine x_aload_n d_L_law_244 rfl ?_
  refine x_iload_n d_L_law_245 rfl ?_
  refine x_iconst (v := 1) d_L_law_246 (by decide) ?_
  refine x_iadd d_L_law_247 ?_
  refine x_sld hX d_L_law_248 (by assumption) ?_
  refine x_cV (m_drop _ (by decide) M1) k_L_43 v_M_drop d_L_law_249 rfl (by omega) (by first | assumption | exact vu_s | exact vu_t (by omega) (by first | assumption | exact vu_s | exact vu_t (by omega) (by first | assumption | exact vu_s | exact vu_t (by omega) (by first | assumption | exact vu_s))) | rfl | (simp only [va_up, Nat.reduceEqDiff, ↓reduceIte]; first | rfl | assumption)) rfl (by omega) (Nat.le_of_ble_eq_true rfl) ?_
  rintro v h2 ⟨fr2, q2⟩
  obtain ⟨x2, rfl, z2⟩ := if_v q2
  refine x_icmp_eq 415 d_L_law_252 (by decide) (fun e1 => ?_) (fun e1 => ?_)
  · refine next h2 ?_
    rcases z1 with ⟨c, rfl, I1⟩ | ⟨c, rfl, I1⟩
    · rcases z2 with ⟨-, rfl, M2⟩ | ⟨c', -⟩
      · exact ⟨_, _, _, _, _, _, _, I1.lo fr2, M2, by omega, ht, hf, hp⟩
      · exact absurd c c'
    · rcases z2 with ⟨c', -⟩ | ⟨-, rfl, M2⟩
      · exact absurd c' c
      · exact ⟨_, _, _, _, _, _, _, I1.lo fr2, M2, by omega, ht, hf, hp⟩
  · exfalso
    rcases z1 with ⟨c, rfl, -⟩ | ⟨c, rfl, -⟩
    · rcases z2 with ⟨-, rfl, -⟩ | ⟨c', -⟩
      · exact e1 rfl
      · exact c' c
    · rcases z2 with ⟨c', -⟩ | ⟨-, rfl, -⟩
      · exact c c'
      · exact e1 rfl
set_option maxRecDepth 100000 in
set_option maxHeartbeats 4000000 in
theorem l_7 (hX : xX Γ L xs) (v1 : vp_in (nI (5 * r) + 1) L) (v2 : vp_in (nI (5 * r) + 2) L) (hV : LV r h) (next : ∀ h', LV (r + 1) h' → AtL Γ nm ds Z h' 415 r []) : AtL Γ nm ds Z h 257 r [] := by
  obtain ⟨f, n, pl, bs, tf, tn, Qs, I, M, hn, ht, hf, hp⟩ := hV
  have h0 := I.1
  have ok := M.ok
  refine x_aload_n d_L_law_257 rfl ?_
  refine x_aload_n d_L_law_258 rfl ?_
  refine x_iload_n d_L_law_259 rfl ?_
  refine x_iconst (v := 1) d_L_law_260 (by decide) ?_
  refine x_iadd d_L_law_261 ?_
  refine x_sld hX d_L_law_262 (by assumption) ?_
  refine x_aload_n d_L_law_263 rfl ?_
  refine x_iload_n d_L_law_264 rfl ?_
  refine x_iconst (v := 2) d_L_law_265 (by decide) ?_
  refine x_iadd d_L_law_266 ?_
  refine x_sld hX d_L_law_267 (by assumption) ?_
  refine x_cV (c_K_answer _ _ (by decide) I ok) k_L_44 v_K_answer d_L_law_268 rfl (by omega) (by first | assumption | exact vu_s | exact vu_t (by omega) (by first | assumption | exact vu_s | exact vu_t (by omega) (by first | assumption | exact vu_s | exact vu_t (by omega) (by first | assumption | exact vu_s))) | rfl | (simp only [va_up, Nat.reduceEqDiff, ↓reduceIte]; first | rfl | assumption)) rfl (by omega) (Nat.le_of_ble_eq_true rfl) ?_
  rintro v h1 ⟨⟨fr1, I1⟩, rfl⟩
  have M1 := M.cg fr1
  obtain ⟨ca, cd, gp, lg, g94⟩ := M1.o
  refine x_aload_n d_L_law_271 rfl ?_
  refine x_aload_n d_L_law_272 rfl ?_
  refine x_iload_n d_L_law_273 rfl ?_
  refine x_iconst (v := 1) d_L_law_274 (by decide) ?_
  refine x_iadd d_L_law_275 ?_
  refine x_sld hX d_L_law_276 (by assumption) ?_
  refine x_aload_n d_L_law_277 rfl ?_
  refine x_iload_n d_L_law_278 rfl ?_
  refine x_iconst (v := 2) d_L_law_279 (by decide) ?_
  refine x_iadd d_L_law_280 ?_
  refine x_sld hX d_L_law_281 (by assumption) ?_
  refine x_cVe (m_answer _ _ (by decide) M1) k_L_48 v_M_answer d_L_law_282 rfl (by omega) (by first | assumption | exact vu_s | exact vu_t (by omega) (by first | assumption | exact vu_s | exact vu_t (by omega) (by first | assumption | exact vu_s | exact vu_t (by omega) (by first | assumption | exact vu_s))) | rfl | (simp only [va_up, Nat.reduceEqDiff, ↓reduceIte]; first | rfl | assumption)) rfl (by omega) (Nat.le_of_ble_eq_true rfl) ?_
  refine x_lcmp d_L_law_285 ?_
  refine x_if_eq 415 d_L_law_286 (by decide) (fun e1 => ?_) (fun e1 => ?_)
  · exact next h1 ⟨_, _, _, _, _, _, _, I1, M1, by omega, ht, hf, hp⟩
  · exact absurd ((lg_eq0 _ _).mpr rfl) e1
set_option maxRecDepth 100000 in
set_option maxHeartbeats 4000000 in
theorem l_8 (hX : xX Γ L xs) (v1 : vp_in (nI (5 * r) + 1) L) (hV : LV r h) (next : ∀ h', LV (r + 1) h' → AtL Γ nm ds Z h' 415 r []) : AtL Γ nm ds Z h 291 r [] := by
  obtain ⟨f, n, pl, bs, tf, tn, Qs, I, M, hn, ht, hf, hp⟩ := hV
  have h0 := I.1
  have ok := M.ok
  refine x_aload_n d_L_law_291 rfl ?_
  refine x_aload_n d_L_law_292 rfl ?_
  refine x_iload_n d_L_law_293 rfl ?_
  refine x_iconst (v := 1) d_L_law_294 (by decide) ?_
  refine x_iadd d_L_law_295 ?_
  refine x_sld hX d_L_law_296 (by assumption) ?_
  refine x_cV (c_K_total _ (by decide) I ok) k_L_49 v_K_total d_L_law_297 rfl (by omega) (by first | assumption | exact vu_s | exact vu_t (by omega) (by first | assumption | exact vu_s | exact vu_t (by omega) (by first | assumption | exact vu_s | exact vu_t (by omega) (by first | assumption | exact vu_s))) | rfl | (simp only [va_up, Nat.reduceEqDiff, ↓reduceIte]; first | rfl | assumption)) rfl (by omega) (Nat.le_of_ble_eq_true rfl) ?_
  rintro v h1 ⟨⟨fr1, I1⟩, rfl⟩
  have M1 := M.cg fr1
  obtain ⟨ca, cd, gp, lg, g94⟩ := M1.o
  refine x_aload_n d_L_law_300 rfl ?_
  refine x_aload_n d_L_law_301 rfl ?_
  refine x_iload_n d_L_law_302 rfl ?_
  refine x_iconst (v := 1) d_L_law_303 (by decide) ?_
  refine x_iadd d_L_law_304 ?_
  refine x_sld hX d_L_law_305 (by assumption) ?_
  refine x_cVe (m_total _ (by decide) M1) k_L_53 v_M_total d_L_law_306 rfl (by omega) (by first | assumption | exact vu_s | exact vu_t (by omega) (by first | assumption | exact vu_s | exact vu_t (by omega) (by first | assumption | exact vu_s | exact vu_t (by omega) (by first | assumption | exact vu_s))) | rfl | (simp only [va_up, Nat.reduceEqDiff, ↓reduceIte]; first | rfl | assumption)) rfl (by omega) (Nat.le_of_ble_eq_true rfl) ?_
  refine x_lcmp d_L_law_309 ?_
  refine x_if_eq 415 d_L_law_310 (by decide) (fun e1 => ?_) (fun e1 => ?_)
  · exact next h1 ⟨_, _, _, _, _, _, _, I1, M1, by omega, ht, hf, hp⟩
  · exact absurd ((lg_eq0 _ _).mpr rfl) e1
set_option maxRecDepth 100000 in
set_option maxHeartbeats 4000000 in
theorem l_9 (hX : xX Γ L xs) (v1 : vp_in (nI (5 * r) + 1) L) (v2 : vp_in (nI (5 * r) + 2) L) (v3 : vp_in (nI (5 * r) + 3) L) (hV : LV r h) (next : ∀ h', LV (r + 1) h' → AtL Γ nm ds Z h' 415 r []) : AtL Γ nm ds Z h 315 r [] := by
  obtain ⟨f, n, pl, bs, tf, tn, Qs, I, M, hn, ht, hf, hp⟩ := hV
  have h0 := I.1
  obtain ⟨ca, cd, gp, lg, g94⟩ := M.o
  refine x_aload_n d_L_law_315 rfl ?_
  refine x_aload_n d_L_law_316 rfl ?_
  refine x_iload_n d_L_law_317 rfl ?_
  refine x_iconst (v := 1) d_L_law_318 (by decide) ?_
  refine x_iadd d_L_law_319 ?_
  refine x_sld hX d_L_law_320 (by assumption) ?_
  refine x_aload_n d_L_law_321 rfl ?_
  refine x_iload_n d_L_law_322 rfl ?_
  refine x_iconst (v := 2) d_L_law_323 (by decide) ?_
  refine x_iadd d_L_law_324 ?_
  refine x_sld hX d_L_law_325 (by assumption) ?_
  refine x_aload_n d_L_law_326 rfl ?_
  refine x_iload_n d_L_law_327 rfl ?_
  refine x_iconst (v := 3) d_L_law_328 (by decide) ?_
  refine x_iadd d_L_law_329 ?_
  refine x_sld hX d_L_law_330 (by assumption) ?_
  refine x_cVe (c_K_count _ _ _ (by decide) I) k_L_54 v_K_count d_L_law_331 rfl (by omega) (by first | assumption | exact vu_s | exact vu_t (by omega) (by first | assumption | exact vu_s | exact vu_t (by omega) (by first | assumption | exact vu_s | exact vu_t (by omega) (by first | assumption | exact vu_s))) | rfl | (simp only [va_up, Nat.reduceEqDiff, ↓reduceIte]; first | rfl | assumption)) rfl (by omega) (Nat.le_of_ble_eq_true rfl) ?_
  refine x_aload_n d_L_law_334 rfl ?_
  refine x_aload_n d_L_law_335 rfl ?_
  refine x_iload_n d_L_law_336 rfl ?_
  refine x_iconst (v := 1) d_L_law_337 (by decide) ?_
  refine x_iadd d_L_law_338 ?_
  refine x_sld hX d_L_law_339 (by assumption) ?_
  refine x_aload_n d_L_law_340 rfl ?_
  refine x_iload_n d_L_law_341 rfl ?_
  refine x_iconst (v := 2) d_L_law_342 (by decide) ?_
  refine x_iadd d_L_law_343 ?_
  refine x_sld hX d_L_law_344 (by assumption) ?_
  refine x_aload_n d_L_law_345 rfl ?_
  refine x_iload_n d_L_law_346 rfl ?_
  refine x_iconst (v := 3) d_L_law_347 (by decide) ?_
  refine x_iadd d_L_law_348 ?_
  refine x_sld hX d_L_law_349 (by assumption) ?_
  refine x_cVe (m_count _ _ _ (by decide) M) k_L_58 v_M_count d_L_law_350 rfl (by omega) (by first | assumption | exact vu_s | exact vu_t (by omega) (by first | assumption | exact vu_s | exact vu_t (by omega) (by first | assumption | exact vu_s | exact vu_t (by omega) (by first | assumption | exact vu_s))) | rfl | (simp only [va_up, Nat.reduceEqDiff, ↓reduceIte]; first | rfl | assumption)) rfl (by omega) (Nat.le_of_ble_eq_true rfl) ?_
  refine x_lcmp d_L_law_353 ?_
  refine x_if_eq 415 d_L_law_354 (by decide) (fun e1 => ?_) (fun e1 => ?_)
  · exact next h ⟨_, _, _, _, _, _, _, I, M, by omega, ht, hf, hp⟩
  · exact absurd ((lg_eq0 _ _).mpr rfl) e1
set_option maxRecDepth 100000 in
set_option maxHeartbeats 4000000 in
theorem l_A (hX : xX Γ L xs) (v1 : vp_in (nI (5 * r) + 1) L) (v2 : vp_in (nI (5 * r) + 2) L) (hV : LV r h) (next : ∀ h', LV (r + 1) h' → AtL Γ nm ds Z h' 415 r []) : AtL Γ nm ds Z h 359 r [] := by
  obtain ⟨f, n, pl, bs, tf, tn, Qs, I, M, hn, ht, hf, hp⟩ := hV
  have h0 := I.1
  have ok := M.ok
  obtain ⟨ca, cd, gp, lg, g94⟩ := M.o
  refine x_aload_n d_L_law_359 rfl ?_
  refine x_aload_n d_L_law_360 rfl ?_
  refine x_iload_n d_L_law_361 rfl ?_
  refine x_iconst (v := 1) d_L_law_362 (by decide) ?_
  refine x_iadd d_L_law_363 ?_
  refine x_sld hX d_L_law_364 (by assumption) ?_
  refine x_aload_n d_L_law_365 rfl ?_
  refine x_iload_n d_L_law_366 rfl ?_
  refine x_iconst (v := 2) d_L_law_367 (by decide) ?_
  refine x_iadd d_L_law_368 ?_
  refine x_sld hX d_L_law_369 (by assumption) ?_
  refine x_cVe (c_K_question _ _ (by decide) I ok) k_L_59 v_K_question d_L_law_370 rfl (by omega) (by first | assumption | exact vu_s | exact vu_t (by omega) (by first | assumption | exact vu_s | exact vu_t (by omega) (by first | assumption | exact vu_s | exact vu_t (by omega) (by first | assumption | exact vu_s))) | rfl | (simp only [va_up, Nat.reduceEqDiff, ↓reduceIte]; first | rfl | assumption)) rfl (by omega) (Nat.le_of_ble_eq_true rfl) ?_
  refine x_aload_n d_L_law_373 rfl ?_
  refine x_aload_n d_L_law_374 rfl ?_
  refine x_iload_n d_L_law_375 rfl ?_
  refine x_iconst (v := 1) d_L_law_376 (by decide) ?_
  refine x_iadd d_L_law_377 ?_
  refine x_sld hX d_L_law_378 (by assumption) ?_
  refine x_aload_n d_L_law_379 rfl ?_
  refine x_iload_n d_L_law_380 rfl ?_
  refine x_iconst (v := 2) d_L_law_381 (by decide) ?_
  refine x_iadd d_L_law_382 ?_
  refine x_sld hX d_L_law_383 (by assumption) ?_
  refine x_cVe (m_question _ _ (by decide) M) k_L_63 v_M_question d_L_law_384 rfl (by omega) (by first | assumption | exact vu_s | exact vu_t (by omega) (by first | assumption | exact vu_s | exact vu_t (by omega) (by first | assumption | exact vu_s | exact vu_t (by omega) (by first | assumption | exact vu_s))) | rfl | (simp only [va_up, Nat.reduceEqDiff, ↓reduceIte]; first | rfl | assumption)) rfl (by omega) (Nat.le_of_ble_eq_true rfl) ?_
  refine x_icmp_eq 415 d_L_law_387 (by decide) (fun e1 => ?_) (fun e1 => ?_)
  · exact next h ⟨_, _, _, _, _, _, _, I, M, by omega, ht, hf, hp⟩
  · exact absurd rfl e1
set_option maxRecDepth 100000 in
set_option maxHeartbeats 4000000 in
theorem l_B (hX : xX Γ L xs) (v1 : vp_in (nI (5 * r) + 1) L) (hV : LV r h) (next : ∀ h', LV (r + 1) h' → AtL Γ nm ds Z h' 415 r []) : AtL Γ nm ds Z h 392 r [] := by
  obtain ⟨f, n, pl, bs, tf, tn, Qs, I, M, hn, ht, hf, hp⟩ := hV
  have h0 := I.1
  obtain ⟨ca, cd, gp, lg, g94⟩ := M.o
  refine x_aload_n d_L_law_392 rfl ?_
  refine x_aload_n d_L_law_393 rfl ?_
  refine x_iload_n d_L_law_394 rfl ?_
  refine x_iconst (v := 1) d_L_law_395 (by decide) ?_
  refine x_iadd d_L_law_396 ?_
  refine x_sld hX d_L_law_397 (by assumption) ?_
  refine x_cVe (c_K_state _ (by decide) I) k_L_64 v_K_state d_L_law_398 rfl (by omega) (by first | assumption | exact vu_s | exact vu_t (by omega) (by first | assumption | exact vu_s | exact vu_t (by omega) (by first | assumption | exact vu_s | exact vu_t (by omega) (by first | assumption | exact vu_s))) | rfl | (simp only [va_up, Nat.reduceEqDiff, ↓reduceIte]; first | rfl | assumption)) rfl (by omega) (Nat.le_of_ble_eq_true rfl) ?_
  refine x_aload_n d_L_law_401 rfl ?_
  refine x_aload_n d_L_law_402 rfl ?_
  refine x_iload_n d_L_law_403 rfl ?_
  refine x_iconst (v := 1) d_L_law_404 (by decide) ?_
  refine x_iadd d_L_law_405 ?_
  refine x_sld hX d_L_law_406 (by assumption) ?_
  refine x_cVe (m_state _ (by decide) M) k_L_67 v_M_state d_L_law_407 rfl (by omega) (by first | assumption | exact vu_s | exact vu_t (by omega) (by first | assumption | exact vu_s | exact vu_t (by omega) (by first | assumption | exact vu_s | exact vu_t (by omega) (by first | assumption | exact vu_s))) | rfl | (simp only [va_up, Nat.reduceEqDiff, ↓reduceIte]; first | rfl | assumption)) rfl (by omega) (Nat.le_of_ble_eq_true rfl) ?_
  refine x_icmp_eq 415 d_L_law_410 (by decide) (fun e1 => ?_) (fun e1 => ?_)
  · exact next h ⟨_, _, _, _, _, _, _, I, M, by omega, ht, hf, hp⟩
  · exact absurd rfl e1
end LL
