/-! Fields, classes, calls by the constant pools: printed by wip/whole/gen_names.py. -/
theorem xm1 {i : Nat} {w : Cond} (h : tables_1_1[i]? = some w) (g : goodWord w = true) : w ∈ xBIG := List.mem_filter.mpr ⟨List.mem_append_right _ (List.mem_append_left _ (List.mem_of_getElem? h)), g⟩
theorem xm2 {i : Nat} {w : Cond} (h : tables_1_2[i]? = some w) (g : goodWord w = true) : w ∈ xBIG := List.mem_filter.mpr ⟨List.mem_append_right _ (List.mem_append_right _ (List.mem_append_left _ (List.mem_of_getElem? h))), g⟩
theorem xm3 {i : Nat} {w : Cond} (h : tables_1_3[i]? = some w) (g : goodWord w = true) : w ∈ xBIG := List.mem_filter.mpr ⟨List.mem_append_right _ (List.mem_append_right _ (List.mem_append_right _ (List.mem_append_left _ (List.mem_of_getElem? h)))), g⟩
theorem xm4 {i : Nat} {w : Cond} (h : tables_1_4[i]? = some w) (g : goodWord w = true) : w ∈ xBIG := List.mem_filter.mpr ⟨List.mem_append_right _ (List.mem_append_right _ (List.mem_append_right _ (List.mem_append_right _ (List.mem_of_getElem? h)))), g⟩
theorem f_K_10 : xFld "JoinKeeper" 10 0 0 true (.object "JoinKeeper$Rows") := ⟨R_K, F_K, 5, ft_K, rfl, by decide, in_K, xm1 (i := 161) rfl rfl, rfl, ty_K, rfl, nm_K, fun _ => rfl⟩
theorem f_K_19 : xFld "JoinKeeper" 19 0 1 true (.object "JoinKeeper$Text") := ⟨R_K, F_K, 5, ft_K, rfl, by decide, in_K, xm1 (i := 162) rfl rfl, rfl, ty_K, rfl, nm_K, fun _ => rfl⟩
theorem f_K_26 : xFld "JoinKeeper" 26 0 2 true (.object "JoinKeeper$Grammar") := ⟨R_K, F_K, 5, ft_K, rfl, by decide, in_K, xm1 (i := 163) rfl rfl, rfl, ty_K, rfl, nm_K, fun _ => rfl⟩
theorem f_K_33 : xFld "JoinKeeper" 33 0 3 true (.object "JoinKeeper$Evaluator") := ⟨R_K, F_K, 5, ft_K, rfl, by decide, in_K, xm1 (i := 164) rfl rfl, rfl, ty_K, rfl, nm_K, fun _ => rfl⟩
theorem f_K_39 : xFld "JoinKeeper" 39 0 4 true (.array (.object "JoinKeeper$Question")) := ⟨R_K, F_K, 5, ft_K, rfl, by decide, in_K, xm1 (i := 165) rfl rfl, rfl, ty_K, rfl, nm_K, fun _ => rfl⟩
theorem f_E_13 : xFld "JoinKeeper$Evaluator" 13 4 0 true (.array (.object "JoinKeeper$Polynomial")) := ⟨R_E, F_E, 5, ft_E, rfl, by decide, in_E, xm1 (i := 107) rfl rfl, rfl, ty_E, rfl, nm_E, fun _ => rfl⟩
theorem f_E_17 : xFld "JoinKeeper$Evaluator" 17 4 1 true (.array (.object "JoinKeeper$Polynomial")) := ⟨R_E, F_E, 5, ft_E, rfl, by decide, in_E, xm1 (i := 108) rfl rfl, rfl, ty_E, rfl, nm_E, fun _ => rfl⟩
theorem f_E_20 : xFld "JoinKeeper$Evaluator" 20 4 2 true (.array (.object "JoinKeeper$Polynomial")) := ⟨R_E, F_E, 5, ft_E, rfl, by decide, in_E, xm1 (i := 109) rfl rfl, rfl, ty_E, rfl, nm_E, fun _ => rfl⟩
theorem f_E_24 : xFld "JoinKeeper$Evaluator" 24 4 3 true (.object "JoinKeeper$Polynomial") := ⟨R_E, F_E, 5, ft_E, rfl, by decide, in_E, xm1 (i := 110) rfl rfl, rfl, ty_E, rfl, nm_E, fun _ => rfl⟩
theorem f_E_28 : xFld "JoinKeeper$Evaluator" 28 4 4 false .int := ⟨R_E, F_E, 5, ft_E, rfl, by decide, in_E, xm1 (i := 111) rfl rfl, rfl, ty_E, rfl, nm_E, fun _ => rfl⟩
theorem f_G_9 : xFld "JoinKeeper$Grammar" 9 3 8 true (.array .int) := ⟨R_G, F_G, 10, ft_G, rfl, by decide, in_G, xm1 (i := 67) rfl rfl, rfl, ty_G, rfl, nm_G, fun _ => rfl⟩
theorem f_G_36 : xFld "JoinKeeper$Grammar" 36 3 1 false .int := ⟨R_G, F_G, 10, ft_G, rfl, by decide, in_G, xm1 (i := 60) rfl rfl, rfl, ty_G, rfl, nm_G, fun _ => rfl⟩
theorem f_G_40 : xFld "JoinKeeper$Grammar" 40 3 2 false .int := ⟨R_G, F_G, 10, ft_G, rfl, by decide, in_G, xm1 (i := 61) rfl rfl, rfl, ty_G, rfl, nm_G, fun _ => rfl⟩
theorem f_G_43 : xFld "JoinKeeper$Grammar" 43 3 7 false .int := ⟨R_G, F_G, 10, ft_G, rfl, by decide, in_G, xm1 (i := 66) rfl rfl, rfl, ty_G, rfl, nm_G, fun _ => rfl⟩
theorem f_G_46 : xFld "JoinKeeper$Grammar" 46 3 9 false .int := ⟨R_G, F_G, 10, ft_G, rfl, by decide, in_G, xm1 (i := 68) rfl rfl, rfl, ty_G, rfl, nm_G, fun _ => rfl⟩
theorem f_G_49 : xFld "JoinKeeper$Grammar" 49 3 0 false .int := ⟨R_G, F_G, 10, ft_G, rfl, by decide, in_G, xm1 (i := 59) rfl rfl, rfl, ty_G, rfl, nm_G, fun _ => rfl⟩
theorem f_G_52 : xFld "JoinKeeper$Grammar" 52 3 3 false .int := ⟨R_G, F_G, 10, ft_G, rfl, by decide, in_G, xm1 (i := 62) rfl rfl, rfl, ty_G, rfl, nm_G, fun _ => rfl⟩
theorem f_G_55 : xFld "JoinKeeper$Grammar" 55 3 4 false .int := ⟨R_G, F_G, 10, ft_G, rfl, by decide, in_G, xm1 (i := 63) rfl rfl, rfl, ty_G, rfl, nm_G, fun _ => rfl⟩
theorem f_G_110 : xFld "JoinKeeper$Grammar" 110 3 5 false .int := ⟨R_G, F_G, 10, ft_G, rfl, by decide, in_G, xm1 (i := 64) rfl rfl, rfl, ty_G, rfl, nm_G, fun _ => rfl⟩
theorem f_G_113 : xFld "JoinKeeper$Grammar" 113 3 6 false .char := ⟨R_G, F_G, 10, ft_G, rfl, by decide, in_G, xm1 (i := 65) rfl rfl, rfl, ty_G, rfl, nm_G, fun _ => rfl⟩
theorem f_P_11 : xFld "JoinKeeper$Polynomial" 11 5 0 true (.array .int) := ⟨R_P, F_P, 1, ft_P, rfl, by decide, in_P, xm1 (i := 103) rfl rfl, rfl, ty_P, rfl, nm_P, fun _ => rfl⟩
theorem w_P_15 : Jvm.Cond.fieldLink "JoinKeeper$Polynomial" 15 "JoinKeeper$Polynomial" "COLUMN_PLACES" "[I" ∈ xBIG := xm2 (i := 129) rfl rfl
theorem f_Q_9 : xFld "JoinKeeper$Question" 9 6 5 true (.array .int) := ⟨R_Q, F_Q, 9, ft_Q, rfl, by decide, in_Q, xm1 (i := 137) rfl rfl, rfl, ty_Q, rfl, nm_Q, fun _ => rfl⟩
theorem f_Q_18 : xFld "JoinKeeper$Question" 18 6 6 true (.object "JoinKeeper$Polynomial") := ⟨R_Q, F_Q, 9, ft_Q, rfl, by decide, in_Q, xm1 (i := 138) rfl rfl, rfl, ty_Q, rfl, nm_Q, fun _ => rfl⟩
theorem f_Q_22 : xFld "JoinKeeper$Question" 22 6 7 true (.array .long) := ⟨R_Q, F_Q, 9, ft_Q, rfl, by decide, in_Q, xm1 (i := 139) rfl rfl, rfl, ty_Q, rfl, nm_Q, fun _ => rfl⟩
theorem f_Q_26 : xFld "JoinKeeper$Question" 26 6 8 true (.array .long) := ⟨R_Q, F_Q, 9, ft_Q, rfl, by decide, in_Q, xm1 (i := 140) rfl rfl, rfl, ty_Q, rfl, nm_Q, fun _ => rfl⟩
theorem f_Q_29 : xFld "JoinKeeper$Question" 29 6 0 false .boolean := ⟨R_Q, F_Q, 9, ft_Q, rfl, by decide, in_Q, xm1 (i := 132) rfl rfl, rfl, ty_Q, rfl, nm_Q, fun _ => rfl⟩
theorem f_Q_39 : xFld "JoinKeeper$Question" 39 6 1 false .int := ⟨R_Q, F_Q, 9, ft_Q, rfl, by decide, in_Q, xm1 (i := 133) rfl rfl, rfl, ty_Q, rfl, nm_Q, fun _ => rfl⟩
theorem f_Q_45 : xFld "JoinKeeper$Question" 45 6 2 false .int := ⟨R_Q, F_Q, 9, ft_Q, rfl, by decide, in_Q, xm1 (i := 134) rfl rfl, rfl, ty_Q, rfl, nm_Q, fun _ => rfl⟩
theorem f_Q_50 : xFld "JoinKeeper$Question" 50 6 3 false .int := ⟨R_Q, F_Q, 9, ft_Q, rfl, by decide, in_Q, xm1 (i := 135) rfl rfl, rfl, ty_Q, rfl, nm_Q, fun _ => rfl⟩
theorem f_Q_55 : xFld "JoinKeeper$Question" 55 6 4 false .int := ⟨R_Q, F_Q, 9, ft_Q, rfl, by decide, in_Q, xm1 (i := 136) rfl rfl, rfl, ty_Q, rfl, nm_Q, fun _ => rfl⟩
theorem f_R_9 : xFld "JoinKeeper$Rows" 9 1 0 true (.array .int) := ⟨R_R, F_R, 4, ft_R, rfl, by decide, in_R, xm1 (i := 25) rfl rfl, rfl, ty_R, rfl, nm_R, fun _ => rfl⟩
theorem f_R_15 : xFld "JoinKeeper$Rows" 15 1 1 true (.array .int) := ⟨R_R, F_R, 4, ft_R, rfl, by decide, in_R, xm1 (i := 26) rfl rfl, rfl, ty_R, rfl, nm_R, fun _ => rfl⟩
theorem f_R_18 : xFld "JoinKeeper$Rows" 18 1 2 true (.array .int) := ⟨R_R, F_R, 4, ft_R, rfl, by decide, in_R, xm1 (i := 27) rfl rfl, rfl, ty_R, rfl, nm_R, fun _ => rfl⟩
theorem f_R_25 : xFld "JoinKeeper$Rows" 25 1 3 false .int := ⟨R_R, F_R, 4, ft_R, rfl, by decide, in_R, xm1 (i := 28) rfl rfl, rfl, ty_R, rfl, nm_R, fun _ => rfl⟩
theorem f_T_9 : xFld "JoinKeeper$Text" 9 2 0 true (.array .char) := ⟨R_T, F_T, 2, ft_T, rfl, by decide, in_T, xm1 (i := 45) rfl rfl, rfl, ty_T, rfl, nm_T, fun _ => rfl⟩
theorem f_T_13 : xFld "JoinKeeper$Text" 13 2 1 false .int := ⟨R_T, F_T, 2, ft_T, rfl, by decide, in_T, xm1 (i := 46) rfl rfl, rfl, ty_T, rfl, nm_T, fun _ => rfl⟩
theorem f_M_7 : xFld "JoinKeeperModel" 7 7 0 true (.array .int) := ⟨R_M, F_M, 27, ft_M, rfl, by decide, in_M, xm3 (i := 41) rfl rfl, rfl, ty_M, rfl, nm_M, fun _ => rfl⟩
theorem f_M_13 : xFld "JoinKeeperModel" 13 7 1 true (.array .int) := ⟨R_M, F_M, 27, ft_M, rfl, by decide, in_M, xm3 (i := 42) rfl rfl, rfl, ty_M, rfl, nm_M, fun _ => rfl⟩
theorem f_M_16 : xFld "JoinKeeperModel" 16 7 2 true (.array .int) := ⟨R_M, F_M, 27, ft_M, rfl, by decide, in_M, xm3 (i := 43) rfl rfl, rfl, ty_M, rfl, nm_M, fun _ => rfl⟩
theorem f_M_19 : xFld "JoinKeeperModel" 19 7 4 true (.array .int) := ⟨R_M, F_M, 27, ft_M, rfl, by decide, in_M, xm3 (i := 45) rfl rfl, rfl, ty_M, rfl, nm_M, fun _ => rfl⟩
theorem f_M_22 : xFld "JoinKeeperModel" 22 7 7 true (.array .int) := ⟨R_M, F_M, 27, ft_M, rfl, by decide, in_M, xm3 (i := 48) rfl rfl, rfl, ty_M, rfl, nm_M, fun _ => rfl⟩
theorem f_M_25 : xFld "JoinKeeperModel" 25 7 8 true (.array .int) := ⟨R_M, F_M, 27, ft_M, rfl, by decide, in_M, xm3 (i := 49) rfl rfl, rfl, ty_M, rfl, nm_M, fun _ => rfl⟩
theorem f_M_28 : xFld "JoinKeeperModel" 28 7 9 true (.array .int) := ⟨R_M, F_M, 27, ft_M, rfl, by decide, in_M, xm3 (i := 50) rfl rfl, rfl, ty_M, rfl, nm_M, fun _ => rfl⟩
theorem f_M_31 : xFld "JoinKeeperModel" 31 7 12 true (.array .boolean) := ⟨R_M, F_M, 27, ft_M, rfl, by decide, in_M, xm3 (i := 53) rfl rfl, rfl, ty_M, rfl, nm_M, fun _ => rfl⟩
theorem f_M_35 : xFld "JoinKeeperModel" 35 7 13 true (.array .int) := ⟨R_M, F_M, 27, ft_M, rfl, by decide, in_M, xm3 (i := 54) rfl rfl, rfl, ty_M, rfl, nm_M, fun _ => rfl⟩
theorem f_M_38 : xFld "JoinKeeperModel" 38 7 14 true (.array .int) := ⟨R_M, F_M, 27, ft_M, rfl, by decide, in_M, xm3 (i := 55) rfl rfl, rfl, ty_M, rfl, nm_M, fun _ => rfl⟩
theorem f_M_41 : xFld "JoinKeeperModel" 41 7 15 true (.array .int) := ⟨R_M, F_M, 27, ft_M, rfl, by decide, in_M, xm3 (i := 56) rfl rfl, rfl, ty_M, rfl, nm_M, fun _ => rfl⟩
theorem f_M_44 : xFld "JoinKeeperModel" 44 7 16 true (.array .int) := ⟨R_M, F_M, 27, ft_M, rfl, by decide, in_M, xm3 (i := 57) rfl rfl, rfl, ty_M, rfl, nm_M, fun _ => rfl⟩
theorem f_M_47 : xFld "JoinKeeperModel" 47 7 17 true (.array .int) := ⟨R_M, F_M, 27, ft_M, rfl, by decide, in_M, xm3 (i := 58) rfl rfl, rfl, ty_M, rfl, nm_M, fun _ => rfl⟩
theorem f_M_50 : xFld "JoinKeeperModel" 50 7 18 true (.array .int) := ⟨R_M, F_M, 27, ft_M, rfl, by decide, in_M, xm3 (i := 59) rfl rfl, rfl, ty_M, rfl, nm_M, fun _ => rfl⟩
theorem f_M_53 : xFld "JoinKeeperModel" 53 7 19 true (.array .int) := ⟨R_M, F_M, 27, ft_M, rfl, by decide, in_M, xm3 (i := 60) rfl rfl, rfl, ty_M, rfl, nm_M, fun _ => rfl⟩
theorem f_M_56 : xFld "JoinKeeperModel" 56 7 20 true (.array .int) := ⟨R_M, F_M, 27, ft_M, rfl, by decide, in_M, xm3 (i := 61) rfl rfl, rfl, ty_M, rfl, nm_M, fun _ => rfl⟩
theorem f_M_59 : xFld "JoinKeeperModel" 59 7 21 true (.array .boolean) := ⟨R_M, F_M, 27, ft_M, rfl, by decide, in_M, xm3 (i := 62) rfl rfl, rfl, ty_M, rfl, nm_M, fun _ => rfl⟩
theorem f_M_62 : xFld "JoinKeeperModel" 62 7 22 true (.array .int) := ⟨R_M, F_M, 27, ft_M, rfl, by decide, in_M, xm3 (i := 63) rfl rfl, rfl, ty_M, rfl, nm_M, fun _ => rfl⟩
theorem f_M_65 : xFld "JoinKeeperModel" 65 7 23 true (.array .int) := ⟨R_M, F_M, 27, ft_M, rfl, by decide, in_M, xm3 (i := 64) rfl rfl, rfl, ty_M, rfl, nm_M, fun _ => rfl⟩
theorem f_M_68 : xFld "JoinKeeperModel" 68 7 24 true (.array .int) := ⟨R_M, F_M, 27, ft_M, rfl, by decide, in_M, xm3 (i := 65) rfl rfl, rfl, ty_M, rfl, nm_M, fun _ => rfl⟩
theorem f_M_71 : xFld "JoinKeeperModel" 71 7 25 true (.array .int) := ⟨R_M, F_M, 27, ft_M, rfl, by decide, in_M, xm3 (i := 66) rfl rfl, rfl, ty_M, rfl, nm_M, fun _ => rfl⟩
theorem f_M_78 : xFld "JoinKeeperModel" 78 7 6 false .int := ⟨R_M, F_M, 27, ft_M, rfl, by decide, in_M, xm3 (i := 47) rfl rfl, rfl, ty_M, rfl, nm_M, fun _ => rfl⟩
theorem f_M_82 : xFld "JoinKeeperModel" 82 7 5 false .int := ⟨R_M, F_M, 27, ft_M, rfl, by decide, in_M, xm3 (i := 46) rfl rfl, rfl, ty_M, rfl, nm_M, fun _ => rfl⟩
theorem f_M_85 : xFld "JoinKeeperModel" 85 7 26 false .boolean := ⟨R_M, F_M, 27, ft_M, rfl, by decide, in_M, xm3 (i := 67) rfl rfl, rfl, ty_M, rfl, nm_M, fun _ => rfl⟩
theorem f_M_119 : xFld "JoinKeeperModel" 119 7 10 false .int := ⟨R_M, F_M, 27, ft_M, rfl, by decide, in_M, xm3 (i := 51) rfl rfl, rfl, ty_M, rfl, nm_M, fun _ => rfl⟩
theorem f_M_125 : xFld "JoinKeeperModel" 125 7 11 false .int := ⟨R_M, F_M, 27, ft_M, rfl, by decide, in_M, xm3 (i := 52) rfl rfl, rfl, ty_M, rfl, nm_M, fun _ => rfl⟩
theorem f_M_150 : xFld "JoinKeeperModel" 150 7 3 false .int := ⟨R_M, F_M, 27, ft_M, rfl, by decide, in_M, xm3 (i := 44) rfl rfl, rfl, ty_M, rfl, nm_M, fun _ => rfl⟩
theorem n_K_7 : xCls "JoinKeeper" 7 1 4 [.null, .null, .null, .int 0] := by
  refine ⟨R_R, F_R, ft_R, rfl, in_R, xm1 (i := 19) rfl rfl, xm1 (i := 20) rfl rfl, xm1 (i := 2) rfl rfl, ty_R, by decide +kernel, fun _ _ => rfl⟩
theorem cl_K_7 : Jvm.Cond.classLink "JoinKeeper" 7 "JoinKeeper$Rows" ∈ xBIG := xm1 (i := 19) rfl rfl
theorem n_K_16 : xCls "JoinKeeper" 16 2 2 [.null, .int 0] := by
  refine ⟨R_T, F_T, ft_T, rfl, in_T, xm1 (i := 39) rfl rfl, xm1 (i := 40) rfl rfl, xm1 (i := 3) rfl rfl, ty_T, by decide +kernel, fun _ _ => rfl⟩
theorem cl_K_16 : Jvm.Cond.classLink "JoinKeeper" 16 "JoinKeeper$Text" ∈ xBIG := xm1 (i := 39) rfl rfl
theorem n_K_23 : xCls "JoinKeeper" 23 3 10 [.int 0, .int 0, .int 0, .int 0, .int 0, .int 0, .int 0, .int 0, .null, .int 0] := by
  refine ⟨R_G, F_G, ft_G, rfl, in_G, xm1 (i := 53) rfl rfl, xm1 (i := 54) rfl rfl, xm1 (i := 4) rfl rfl, ty_G, by decide +kernel, fun _ _ => rfl⟩
theorem cl_K_23 : Jvm.Cond.classLink "JoinKeeper" 23 "JoinKeeper$Grammar" ∈ xBIG := xm1 (i := 53) rfl rfl
theorem n_K_30 : xCls "JoinKeeper" 30 4 5 [.null, .null, .null, .null, .int 0] := by
  refine ⟨R_E, F_E, ft_E, rfl, in_E, xm1 (i := 90) rfl rfl, xm1 (i := 91) rfl rfl, xm1 (i := 5) rfl rfl, ty_E, by decide +kernel, fun _ _ => rfl⟩
theorem cl_K_30 : Jvm.Cond.classLink "JoinKeeper" 30 "JoinKeeper$Evaluator" ∈ xBIG := xm1 (i := 90) rfl rfl
theorem n_K_37 : xCls "JoinKeeper" 37 6 9 [.int 0, .int 0, .int 0, .int 0, .int 0, .null, .null, .null, .null] := by
  refine ⟨R_Q, F_Q, ft_Q, rfl, in_Q, xm1 (i := 123) rfl rfl, xm1 (i := 125) rfl rfl, xm1 (i := 7) rfl rfl, ty_Q, by decide +kernel, fun _ _ => rfl⟩
theorem cl_K_37 : Jvm.Cond.classLink "JoinKeeper" 37 "JoinKeeper$Question" ∈ xBIG := xm1 (i := 123) rfl rfl
theorem n_E_11 : xCls "JoinKeeper$Evaluator" 11 5 1 [.null] := by
  refine ⟨R_P, F_P, ft_P, rfl, in_P, xm1 (i := 96) rfl rfl, xm1 (i := 98) rfl rfl, xm1 (i := 6) rfl rfl, ty_P, by decide +kernel, fun _ _ => rfl⟩
theorem cl_E_11 : Jvm.Cond.classLink "JoinKeeper$Evaluator" 11 "JoinKeeper$Polynomial" ∈ xBIG := xm1 (i := 96) rfl rfl
theorem n_Q_15 : xCls "JoinKeeper$Question" 15 5 1 [.null] := by
  refine ⟨R_P, F_P, ft_P, rfl, in_P, xm1 (i := 130) rfl rfl, xm1 (i := 98) rfl rfl, xm1 (i := 6) rfl rfl, ty_P, by decide +kernel, fun _ _ => rfl⟩
theorem cl_Q_15 : Jvm.Cond.classLink "JoinKeeper$Question" 15 "JoinKeeper$Polynomial" ∈ xBIG := xm1 (i := 130) rfl rfl
theorem n_L_7 : xCls "JoinKeeperLaw" 7 0 5 [.null, .null, .null, .null, .null] := by
  refine ⟨R_K, F_K, ft_K, rfl, in_K, xm1 (i := 11) rfl rfl, xm1 (i := 12) rfl rfl, xm1 (i := 1) rfl rfl, ty_K, by decide +kernel, fun _ _ => rfl⟩
theorem cl_L_7 : Jvm.Cond.classLink "JoinKeeperLaw" 7 "JoinKeeper" ∈ xBIG := xm1 (i := 11) rfl rfl
theorem n_L_10 : xCls "JoinKeeperLaw" 10 7 27 [.null, .null, .null, .int 0, .null, .int 0, .int 0, .null, .null, .null, .int 0, .int 0, .null, .null, .null, .null, .null, .null, .null, .null, .null, .null, .null, .null, .null, .null, .int 0] := by
  refine ⟨R_M, F_M, ft_M, rfl, in_M, xm3 (i := 35) rfl rfl, xm3 (i := 36) rfl rfl, xm1 (i := 8) rfl rfl, ty_M, by decide +kernel, fun _ _ => rfl⟩
theorem cl_L_10 : Jvm.Cond.classLink "JoinKeeperLaw" 10 "JoinKeeperModel" ∈ xBIG := xm3 (i := 35) rfl rfl
theorem l_K_109 : Jvm.Cond.constantLong "JoinKeeper" 109 (9000000000000000000) ∈ xBIG := xm2 (i := 211) rfl rfl
theorem l_R_21 : Jvm.Cond.constantLong "JoinKeeper$Rows" 21 (100) ∈ xBIG := xm1 (i := 194) rfl rfl
theorem l_R_23 : Jvm.Cond.constantLong "JoinKeeper$Rows" 23 (-100) ∈ xBIG := xm1 (i := 195) rfl rfl
theorem l_M_146 : Jvm.Cond.constantLong "JoinKeeperModel" 146 (100) ∈ xBIG := xm3 (i := 134) rfl rfl
theorem l_M_148 : Jvm.Cond.constantLong "JoinKeeperModel" 148 (-100) ∈ xBIG := xm3 (i := 135) rfl rfl
theorem l_M_173 : Jvm.Cond.constantLong "JoinKeeperModel" 173 (9000000000000000000) ∈ xBIG := xm3 (i := 222) rfl rfl
theorem ac_int : Jvm.Cond.arrayClass .int ∈ xBIG := xm1 (i := 38) rfl rfl
theorem ac_char : Jvm.Cond.arrayClass .char ∈ xBIG := xm1 (i := 52) rfl rfl
theorem ac_long : Jvm.Cond.arrayClass .long ∈ xBIG := xm1 (i := 160) rfl rfl
theorem ac_boolean : Jvm.Cond.arrayClass .boolean ∈ xBIG := xm3 (i := 123) rfl rfl
theorem v_K_init : y_K_init.name = "<init>" ∧ Jvm.Cond.instanceMethod y_K_init ∈ xBIG := ⟨rfl, xm1 (i := 14) rfl rfl⟩
theorem v_R_init : y_R_init.name = "<init>" ∧ Jvm.Cond.instanceMethod y_R_init ∈ xBIG := ⟨rfl, xm1 (i := 22) rfl rfl⟩
theorem v_T_init : y_T_init.name = "<init>" ∧ Jvm.Cond.instanceMethod y_T_init ∈ xBIG := ⟨rfl, xm1 (i := 42) rfl rfl⟩
theorem v_G_init : y_G_init.name = "<init>" ∧ Jvm.Cond.instanceMethod y_G_init ∈ xBIG := ⟨rfl, xm1 (i := 56) rfl rfl⟩
theorem v_E_init : y_E_init.name = "<init>" ∧ Jvm.Cond.instanceMethod y_E_init ∈ xBIG := ⟨rfl, xm1 (i := 93) rfl rfl⟩
theorem v_P_init : y_P_init.name = "<init>" ∧ Jvm.Cond.instanceMethod y_P_init ∈ xBIG := ⟨rfl, xm1 (i := 100) rfl rfl⟩
theorem v_Q_init : y_Q_init.name = "<init>" ∧ Jvm.Cond.instanceMethod y_Q_init ∈ xBIG := ⟨rfl, xm1 (i := 127) rfl rfl⟩
theorem v_K_change : Jvm.Cond.instanceMethod y_K_change ∈ xBIG ∧ Jvm.Cond.selects y_K_change.cls y_K_change y_K_change ∈ xBIG := ⟨xm1 (i := 178) rfl rfl, xm1 (i := 179) rfl rfl⟩
theorem s_K_isRow : Jvm.Cond.static y_K_isRow ∈ xBIG := xm1 (i := 182) rfl rfl
theorem s_K_isValue : Jvm.Cond.static y_K_isValue ∈ xBIG := xm1 (i := 185) rfl rfl
theorem s_R_placeOf : Jvm.Cond.static y_R_placeOf ∈ xBIG := xm1 (i := 188) rfl rfl
theorem v_R_raise : Jvm.Cond.instanceMethod y_R_raise ∈ xBIG ∧ Jvm.Cond.selects y_R_raise.cls y_R_raise y_R_raise ∈ xBIG := ⟨xm1 (i := 191) rfl rfl, xm1 (i := 192) rfl rfl⟩
theorem v_K_back : Jvm.Cond.instanceMethod y_K_back ∈ xBIG ∧ Jvm.Cond.selects y_K_back.cls y_K_back y_K_back ∈ xBIG := ⟨xm1 (i := 197) rfl rfl, xm1 (i := 198) rfl rfl⟩
theorem v_R_takeBack : Jvm.Cond.instanceMethod y_R_takeBack ∈ xBIG ∧ Jvm.Cond.selects y_R_takeBack.cls y_R_takeBack y_R_takeBack ∈ xBIG := ⟨xm1 (i := 201) rfl rfl, xm1 (i := 202) rfl rfl⟩
theorem v_R_changesLeft : Jvm.Cond.instanceMethod y_R_changesLeft ∈ xBIG ∧ Jvm.Cond.selects y_R_changesLeft.cls y_R_changesLeft y_R_changesLeft ∈ xBIG := ⟨xm1 (i := 205) rfl rfl, xm1 (i := 206) rfl rfl⟩
theorem v_K_sign : Jvm.Cond.instanceMethod y_K_sign ∈ xBIG ∧ Jvm.Cond.selects y_K_sign.cls y_K_sign y_K_sign ∈ xBIG := ⟨xm1 (i := 209) rfl rfl, xm1 (i := 210) rfl rfl⟩
theorem v_T_append : Jvm.Cond.instanceMethod y_T_append ∈ xBIG ∧ Jvm.Cond.selects y_T_append.cls y_T_append y_T_append ∈ xBIG := ⟨xm1 (i := 213) rfl rfl, xm1 (i := 214) rfl rfl⟩
theorem v_T_length : Jvm.Cond.instanceMethod y_T_length ∈ xBIG ∧ Jvm.Cond.selects y_T_length.cls y_T_length y_T_length ∈ xBIG := ⟨xm1 (i := 217) rfl rfl, xm1 (i := 218) rfl rfl⟩
theorem v_K_clear : Jvm.Cond.instanceMethod y_K_clear ∈ xBIG ∧ Jvm.Cond.selects y_K_clear.cls y_K_clear y_K_clear ∈ xBIG := ⟨xm1 (i := 221) rfl rfl, xm1 (i := 222) rfl rfl⟩
theorem v_T_empty : Jvm.Cond.instanceMethod y_T_empty ∈ xBIG ∧ Jvm.Cond.selects y_T_empty.cls y_T_empty y_T_empty ∈ xBIG := ⟨xm1 (i := 225) rfl rfl, xm1 (i := 226) rfl rfl⟩
theorem v_K_define : Jvm.Cond.instanceMethod y_K_define ∈ xBIG ∧ Jvm.Cond.selects y_K_define.cls y_K_define y_K_define ∈ xBIG := ⟨xm1 (i := 229) rfl rfl, xm1 (i := 230) rfl rfl⟩
theorem s_K_isQuestion : Jvm.Cond.static y_K_isQuestion ∈ xBIG := xm1 (i := 233) rfl rfl
theorem v_G_faultIn : Jvm.Cond.instanceMethod y_G_faultIn ∈ xBIG ∧ Jvm.Cond.selects y_G_faultIn.cls y_G_faultIn y_G_faultIn ∈ xBIG := ⟨xm1 (i := 236) rfl rfl, xm1 (i := 237) rfl rfl⟩
theorem v_G_restart : Jvm.Cond.instanceMethod y_G_restart ∈ xBIG ∧ Jvm.Cond.selects y_G_restart.cls y_G_restart y_G_restart ∈ xBIG := ⟨xm2 (i := 1) rfl rfl, xmem (i := 0) rfl rfl⟩
theorem s_A_fill : Jvm.Cond.static y_A_fill ∈ xBIG := xm2 (i := 4) rfl rfl
theorem v_T_at : Jvm.Cond.instanceMethod y_T_at ∈ xBIG ∧ Jvm.Cond.selects y_T_at.cls y_T_at y_T_at ∈ xBIG := ⟨xm2 (i := 8) rfl rfl, xm2 (i := 9) rfl rfl⟩
theorem v_G_take : Jvm.Cond.instanceMethod y_G_take ∈ xBIG ∧ Jvm.Cond.selects y_G_take.cls y_G_take y_G_take ∈ xBIG := ⟨xm2 (i := 13) rfl rfl, xmem (i := 1) rfl rfl⟩
theorem v_G_takeChainStart : Jvm.Cond.instanceMethod y_G_takeChainStart ∈ xBIG ∧ Jvm.Cond.selects y_G_takeChainStart.cls y_G_takeChainStart y_G_takeChainStart ∈ xBIG := ⟨xm2 (i := 17) rfl rfl, xmem (i := 2) rfl rfl⟩
theorem s_T_relationOf : Jvm.Cond.static y_T_relationOf ∈ xBIG := xm2 (i := 20) rfl rfl
theorem v_G_takeChainRest : Jvm.Cond.instanceMethod y_G_takeChainRest ∈ xBIG ∧ Jvm.Cond.selects y_G_takeChainRest.cls y_G_takeChainRest y_G_takeChainRest ∈ xBIG := ⟨xm2 (i := 24) rfl rfl, xmem (i := 3) rfl rfl⟩
theorem v_G_takeFactor : Jvm.Cond.instanceMethod y_G_takeFactor ∈ xBIG ∧ Jvm.Cond.selects y_G_takeFactor.cls y_G_takeFactor y_G_takeFactor ∈ xBIG := ⟨xm2 (i := 28) rfl rfl, xmem (i := 4) rfl rfl⟩
theorem v_G_takeOpening : Jvm.Cond.instanceMethod y_G_takeOpening ∈ xBIG ∧ Jvm.Cond.selects y_G_takeOpening.cls y_G_takeOpening y_G_takeOpening ∈ xBIG := ⟨xm2 (i := 32) rfl rfl, xmem (i := 5) rfl rfl⟩
theorem s_T_isDigit : Jvm.Cond.static y_T_isDigit ∈ xBIG := xm2 (i := 35) rfl rfl
theorem v_G_isChainColumn : Jvm.Cond.instanceMethod y_G_isChainColumn ∈ xBIG ∧ Jvm.Cond.selects y_G_isChainColumn.cls y_G_isChainColumn y_G_isChainColumn ∈ xBIG := ⟨xm2 (i := 39) rfl rfl, xmem (i := 6) rfl rfl⟩
theorem s_T_columnOf : Jvm.Cond.static y_T_columnOf ∈ xBIG := xm2 (i := 42) rfl rfl
theorem v_G_endFactor : Jvm.Cond.instanceMethod y_G_endFactor ∈ xBIG ∧ Jvm.Cond.selects y_G_endFactor.cls y_G_endFactor y_G_endFactor ∈ xBIG := ⟨xm2 (i := 46) rfl rfl, xmem (i := 7) rfl rfl⟩
theorem v_G_takeAfterFactor : Jvm.Cond.instanceMethod y_G_takeAfterFactor ∈ xBIG ∧ Jvm.Cond.selects y_G_takeAfterFactor.cls y_G_takeAfterFactor y_G_takeAfterFactor ∈ xBIG := ⟨xm2 (i := 50) rfl rfl, xmem (i := 8) rfl rfl⟩
theorem v_G_takeTail : Jvm.Cond.instanceMethod y_G_takeTail ∈ xBIG ∧ Jvm.Cond.selects y_G_takeTail.cls y_G_takeTail y_G_takeTail ∈ xBIG := ⟨xm2 (i := 54) rfl rfl, xmem (i := 9) rfl rfl⟩
theorem v_G_takeConditionColumn : Jvm.Cond.instanceMethod y_G_takeConditionColumn ∈ xBIG ∧ Jvm.Cond.selects y_G_takeConditionColumn.cls y_G_takeConditionColumn y_G_takeConditionColumn ∈ xBIG := ⟨xm2 (i := 58) rfl rfl, xmem (i := 10) rfl rfl⟩
theorem v_G_takeConditionKind : Jvm.Cond.instanceMethod y_G_takeConditionKind ∈ xBIG ∧ Jvm.Cond.selects y_G_takeConditionKind.cls y_G_takeConditionKind y_G_takeConditionKind ∈ xBIG := ⟨xm2 (i := 62) rfl rfl, xmem (i := 11) rfl rfl⟩
theorem v_G_takeConditionDigit : Jvm.Cond.instanceMethod y_G_takeConditionDigit ∈ xBIG ∧ Jvm.Cond.selects y_G_takeConditionDigit.cls y_G_takeConditionDigit y_G_takeConditionDigit ∈ xBIG := ⟨xm2 (i := 66) rfl rfl, xmem (i := 12) rfl rfl⟩
theorem s_G_meets : Jvm.Cond.static y_G_meets ∈ xBIG := xm2 (i := 69) rfl rfl
theorem v_G_takeGroupColumn : Jvm.Cond.instanceMethod y_G_takeGroupColumn ∈ xBIG ∧ Jvm.Cond.selects y_G_takeGroupColumn.cls y_G_takeGroupColumn y_G_takeGroupColumn ∈ xBIG := ⟨xm2 (i := 73) rfl rfl, xmem (i := 13) rfl rfl⟩
theorem v_G_isWhole : Jvm.Cond.instanceMethod y_G_isWhole ∈ xBIG ∧ Jvm.Cond.selects y_G_isWhole.cls y_G_isWhole y_G_isWhole ∈ xBIG := ⟨xm2 (i := 77) rfl rfl, xmem (i := 14) rfl rfl⟩
theorem v_G_expressionStart : Jvm.Cond.instanceMethod y_G_expressionStart ∈ xBIG ∧ Jvm.Cond.selects y_G_expressionStart.cls y_G_expressionStart y_G_expressionStart ∈ xBIG := ⟨xm2 (i := 80) rfl rfl, xm2 (i := 81) rfl rfl⟩
theorem v_E_evaluate : Jvm.Cond.instanceMethod y_E_evaluate ∈ xBIG ∧ Jvm.Cond.selects y_E_evaluate.cls y_E_evaluate y_E_evaluate ∈ xBIG := ⟨xm2 (i := 84) rfl rfl, xm2 (i := 85) rfl rfl⟩
theorem v_E_readSum : Jvm.Cond.instanceMethod y_E_readSum ∈ xBIG ∧ Jvm.Cond.selects y_E_readSum.cls y_E_readSum y_E_readSum ∈ xBIG := ⟨xm2 (i := 89) rfl rfl, xmem (i := 15) rfl rfl⟩
theorem v_P_becomeNumber : Jvm.Cond.instanceMethod y_P_becomeNumber ∈ xBIG ∧ Jvm.Cond.selects y_P_becomeNumber.cls y_P_becomeNumber y_P_becomeNumber ∈ xBIG := ⟨xm2 (i := 92) rfl rfl, xm2 (i := 93) rfl rfl⟩
theorem v_E_readProduct : Jvm.Cond.instanceMethod y_E_readProduct ∈ xBIG ∧ Jvm.Cond.selects y_E_readProduct.cls y_E_readProduct y_E_readProduct ∈ xBIG := ⟨xm2 (i := 98) rfl rfl, xmem (i := 16) rfl rfl⟩
theorem v_E_readFactor : Jvm.Cond.instanceMethod y_E_readFactor ∈ xBIG ∧ Jvm.Cond.selects y_E_readFactor.cls y_E_readFactor y_E_readFactor ∈ xBIG := ⟨xm2 (i := 102) rfl rfl, xmem (i := 17) rfl rfl⟩
theorem v_E_readRestOfBrackets : Jvm.Cond.instanceMethod y_E_readRestOfBrackets ∈ xBIG ∧ Jvm.Cond.selects y_E_readRestOfBrackets.cls y_E_readRestOfBrackets y_E_readRestOfBrackets ∈ xBIG := ⟨xm2 (i := 107) rfl rfl, xmem (i := 18) rfl rfl⟩
theorem v_P_becomeCopy : Jvm.Cond.instanceMethod y_P_becomeCopy ∈ xBIG ∧ Jvm.Cond.selects y_P_becomeCopy.cls y_P_becomeCopy y_P_becomeCopy ∈ xBIG := ⟨xm2 (i := 110) rfl rfl, xm2 (i := 111) rfl rfl⟩
theorem v_E_readRestOfNegative : Jvm.Cond.instanceMethod y_E_readRestOfNegative ∈ xBIG ∧ Jvm.Cond.selects y_E_readRestOfNegative.cls y_E_readRestOfNegative y_E_readRestOfNegative ∈ xBIG := ⟨xm2 (i := 118) rfl rfl, xmem (i := 19) rfl rfl⟩
theorem v_P_becomeNegative : Jvm.Cond.instanceMethod y_P_becomeNegative ∈ xBIG ∧ Jvm.Cond.selects y_P_becomeNegative.cls y_P_becomeNegative y_P_becomeNegative ∈ xBIG := ⟨xm2 (i := 121) rfl rfl, xm2 (i := 122) rfl rfl⟩
theorem v_P_becomeColumn : Jvm.Cond.instanceMethod y_P_becomeColumn ∈ xBIG ∧ Jvm.Cond.selects y_P_becomeColumn.cls y_P_becomeColumn y_P_becomeColumn ∈ xBIG := ⟨xm2 (i := 126) rfl rfl, xm2 (i := 127) rfl rfl⟩
theorem v_P_becomeProduct : Jvm.Cond.instanceMethod y_P_becomeProduct ∈ xBIG ∧ Jvm.Cond.selects y_P_becomeProduct.cls y_P_becomeProduct y_P_becomeProduct ∈ xBIG := ⟨xm2 (i := 132) rfl rfl, xm2 (i := 133) rfl rfl⟩
theorem s_P_powersFit : Jvm.Cond.static y_P_powersFit ∈ xBIG := xm2 (i := 136) rfl rfl
theorem s_P_powerAt : Jvm.Cond.static y_P_powerAt ∈ xBIG := xm2 (i := 139) rfl rfl
theorem v_P_hasLargeTerms : Jvm.Cond.instanceMethod y_P_hasLargeTerms ∈ xBIG ∧ Jvm.Cond.selects y_P_hasLargeTerms.cls y_P_hasLargeTerms y_P_hasLargeTerms ∈ xBIG := ⟨xm2 (i := 143) rfl rfl, xmem (i := 20) rfl rfl⟩
theorem v_P_terms : Jvm.Cond.instanceMethod y_P_terms ∈ xBIG ∧ Jvm.Cond.selects y_P_terms.cls y_P_terms y_P_terms ∈ xBIG := ⟨xm2 (i := 146) rfl rfl, xm2 (i := 147) rfl rfl⟩
theorem v_P_add : Jvm.Cond.instanceMethod y_P_add ∈ xBIG ∧ Jvm.Cond.selects y_P_add.cls y_P_add y_P_add ∈ xBIG := ⟨xm2 (i := 150) rfl rfl, xm2 (i := 151) rfl rfl⟩
theorem v_E_result : Jvm.Cond.instanceMethod y_E_result ∈ xBIG ∧ Jvm.Cond.selects y_E_result.cls y_E_result y_E_result ∈ xBIG := ⟨xm2 (i := 154) rfl rfl, xm2 (i := 155) rfl rfl⟩
theorem v_Q_become : Jvm.Cond.instanceMethod y_Q_become ∈ xBIG ∧ Jvm.Cond.selects y_Q_become.cls y_Q_become y_Q_become ∈ xBIG := ⟨xm2 (i := 158) rfl rfl, xm2 (i := 159) rfl rfl⟩
theorem v_G_firstRelation : Jvm.Cond.instanceMethod y_G_firstRelation ∈ xBIG ∧ Jvm.Cond.selects y_G_firstRelation.cls y_G_firstRelation y_G_firstRelation ∈ xBIG := ⟨xm2 (i := 162) rfl rfl, xm2 (i := 163) rfl rfl⟩
theorem v_G_lastRelation : Jvm.Cond.instanceMethod y_G_lastRelation ∈ xBIG ∧ Jvm.Cond.selects y_G_lastRelation.cls y_G_lastRelation y_G_lastRelation ∈ xBIG := ⟨xm2 (i := 166) rfl rfl, xm2 (i := 167) rfl rfl⟩
theorem v_G_groupColumn : Jvm.Cond.instanceMethod y_G_groupColumn ∈ xBIG ∧ Jvm.Cond.selects y_G_groupColumn.cls y_G_groupColumn y_G_groupColumn ∈ xBIG := ⟨xm2 (i := 170) rfl rfl, xm2 (i := 171) rfl rfl⟩
theorem v_G_conditions : Jvm.Cond.instanceMethod y_G_conditions ∈ xBIG ∧ Jvm.Cond.selects y_G_conditions.cls y_G_conditions y_G_conditions ∈ xBIG := ⟨xm2 (i := 174) rfl rfl, xm2 (i := 175) rfl rfl⟩
theorem v_G_allowedIn : Jvm.Cond.instanceMethod y_G_allowedIn ∈ xBIG ∧ Jvm.Cond.selects y_G_allowedIn.cls y_G_allowedIn y_G_allowedIn ∈ xBIG := ⟨xm2 (i := 178) rfl rfl, xm2 (i := 179) rfl rfl⟩
theorem v_Q_terms : Jvm.Cond.instanceMethod y_Q_terms ∈ xBIG ∧ Jvm.Cond.selects y_Q_terms.cls y_Q_terms y_Q_terms ∈ xBIG := ⟨xm2 (i := 183) rfl rfl, xm2 (i := 184) rfl rfl⟩
theorem v_K_fault : Jvm.Cond.instanceMethod y_K_fault ∈ xBIG ∧ Jvm.Cond.selects y_K_fault.cls y_K_fault y_K_fault ∈ xBIG := ⟨xm2 (i := 188) rfl rfl, xm2 (i := 189) rfl rfl⟩
theorem v_K_drop : Jvm.Cond.instanceMethod y_K_drop ∈ xBIG ∧ Jvm.Cond.selects y_K_drop.cls y_K_drop y_K_drop ∈ xBIG := ⟨xm2 (i := 192) rfl rfl, xm2 (i := 193) rfl rfl⟩
theorem v_K_isAskable : Jvm.Cond.instanceMethod y_K_isAskable ∈ xBIG ∧ Jvm.Cond.selects y_K_isAskable.cls y_K_isAskable y_K_isAskable ∈ xBIG := ⟨xm2 (i := 197) rfl rfl, xmem (i := 21) rfl rfl⟩
theorem v_Q_isThere : Jvm.Cond.instanceMethod y_Q_isThere ∈ xBIG ∧ Jvm.Cond.selects y_Q_isThere.cls y_Q_isThere y_Q_isThere ∈ xBIG := ⟨xm2 (i := 200) rfl rfl, xm2 (i := 201) rfl rfl⟩
theorem v_Q_remove : Jvm.Cond.instanceMethod y_Q_remove ∈ xBIG ∧ Jvm.Cond.selects y_Q_remove.cls y_Q_remove y_Q_remove ∈ xBIG := ⟨xm2 (i := 204) rfl rfl, xm2 (i := 205) rfl rfl⟩
theorem v_K_answer : Jvm.Cond.instanceMethod y_K_answer ∈ xBIG ∧ Jvm.Cond.selects y_K_answer.cls y_K_answer y_K_answer ∈ xBIG := ⟨xm2 (i := 208) rfl rfl, xm2 (i := 209) rfl rfl⟩
theorem v_Q_answerFor : Jvm.Cond.instanceMethod y_Q_answerFor ∈ xBIG ∧ Jvm.Cond.selects y_Q_answerFor.cls y_Q_answerFor y_Q_answerFor ∈ xBIG := ⟨xm2 (i := 213) rfl rfl, xm2 (i := 214) rfl rfl⟩
theorem v_Q_sumOver : Jvm.Cond.instanceMethod y_Q_sumOver ∈ xBIG ∧ Jvm.Cond.selects y_Q_sumOver.cls y_Q_sumOver y_Q_sumOver ∈ xBIG := ⟨xm2 (i := 217) rfl rfl, xm2 (i := 218) rfl rfl⟩
theorem v_P_at : Jvm.Cond.instanceMethod y_P_at ∈ xBIG ∧ Jvm.Cond.selects y_P_at.cls y_P_at y_P_at ∈ xBIG := ⟨xm2 (i := 221) rfl rfl, xm2 (i := 222) rfl rfl⟩
theorem v_Q_sumOfPowers : Jvm.Cond.instanceMethod y_Q_sumOfPowers ∈ xBIG ∧ Jvm.Cond.selects y_Q_sumOfPowers.cls y_Q_sumOfPowers y_Q_sumOfPowers ∈ xBIG := ⟨xm2 (i := 226) rfl rfl, xmem (i := 22) rfl rfl⟩
theorem v_Q_share : Jvm.Cond.instanceMethod y_Q_share ∈ xBIG ∧ Jvm.Cond.selects y_Q_share.cls y_Q_share y_Q_share ∈ xBIG := ⟨xm2 (i := 230) rfl rfl, xmem (i := 23) rfl rfl⟩
theorem s_Q_joined : Jvm.Cond.static y_Q_joined ∈ xBIG := xm2 (i := 234) rfl rfl
theorem v_R_at : Jvm.Cond.instanceMethod y_R_at ∈ xBIG ∧ Jvm.Cond.selects y_R_at.cls y_R_at y_R_at ∈ xBIG := ⟨xm2 (i := 238) rfl rfl, xm2 (i := 239) rfl rfl⟩
theorem v_K_total : Jvm.Cond.instanceMethod y_K_total ∈ xBIG ∧ Jvm.Cond.selects y_K_total.cls y_K_total y_K_total ∈ xBIG := ⟨xm3 (i := 2) rfl rfl, xm3 (i := 3) rfl rfl⟩
theorem v_K_count : Jvm.Cond.instanceMethod y_K_count ∈ xBIG ∧ Jvm.Cond.selects y_K_count.cls y_K_count y_K_count ∈ xBIG := ⟨xm3 (i := 7) rfl rfl, xm3 (i := 8) rfl rfl⟩
theorem v_K_question : Jvm.Cond.instanceMethod y_K_question ∈ xBIG ∧ Jvm.Cond.selects y_K_question.cls y_K_question y_K_question ∈ xBIG := ⟨xm3 (i := 12) rfl rfl, xm3 (i := 13) rfl rfl⟩
theorem v_Q_chain : Jvm.Cond.instanceMethod y_Q_chain ∈ xBIG ∧ Jvm.Cond.selects y_Q_chain.cls y_Q_chain y_Q_chain ∈ xBIG := ⟨xm3 (i := 16) rfl rfl, xm3 (i := 17) rfl rfl⟩
theorem v_Q_groupColumn : Jvm.Cond.instanceMethod y_Q_groupColumn ∈ xBIG ∧ Jvm.Cond.selects y_Q_groupColumn.cls y_Q_groupColumn y_Q_groupColumn ∈ xBIG := ⟨xm3 (i := 20) rfl rfl, xm3 (i := 21) rfl rfl⟩
theorem v_Q_conditions : Jvm.Cond.instanceMethod y_Q_conditions ∈ xBIG ∧ Jvm.Cond.selects y_Q_conditions.cls y_Q_conditions y_Q_conditions ∈ xBIG := ⟨xm3 (i := 24) rfl rfl, xm3 (i := 25) rfl rfl⟩
theorem v_K_state : Jvm.Cond.instanceMethod y_K_state ∈ xBIG ∧ Jvm.Cond.selects y_K_state.cls y_K_state y_K_state ∈ xBIG := ⟨xm3 (i := 28) rfl rfl, xm3 (i := 29) rfl rfl⟩
theorem v_R_filled : Jvm.Cond.instanceMethod y_R_filled ∈ xBIG ∧ Jvm.Cond.selects y_R_filled.cls y_R_filled y_R_filled ∈ xBIG := ⟨xm3 (i := 32) rfl rfl, xm3 (i := 33) rfl rfl⟩
theorem v_M_init : y_M_init.name = "<init>" ∧ Jvm.Cond.instanceMethod y_M_init ∈ xBIG := ⟨rfl, xm3 (i := 38) rfl rfl⟩
theorem v_M_change : Jvm.Cond.instanceMethod y_M_change ∈ xBIG ∧ Jvm.Cond.selects y_M_change.cls y_M_change y_M_change ∈ xBIG := ⟨xm3 (i := 125) rfl rfl, xm3 (i := 126) rfl rfl⟩
theorem s_M_cell : Jvm.Cond.static y_M_cell ∈ xBIG := xm3 (i := 129) rfl rfl
theorem s_M_in : Jvm.Cond.static y_M_in ∈ xBIG := xm3 (i := 132) rfl rfl
theorem v_M_back : Jvm.Cond.instanceMethod y_M_back ∈ xBIG ∧ Jvm.Cond.selects y_M_back.cls y_M_back y_M_back ∈ xBIG := ⟨xm3 (i := 137) rfl rfl, xm3 (i := 138) rfl rfl⟩
theorem v_M_sign : Jvm.Cond.instanceMethod y_M_sign ∈ xBIG ∧ Jvm.Cond.selects y_M_sign.cls y_M_sign y_M_sign ∈ xBIG := ⟨xm3 (i := 141) rfl rfl, xm3 (i := 142) rfl rfl⟩
theorem v_M_clear : Jvm.Cond.instanceMethod y_M_clear ∈ xBIG ∧ Jvm.Cond.selects y_M_clear.cls y_M_clear y_M_clear ∈ xBIG := ⟨xm3 (i := 145) rfl rfl, xm3 (i := 146) rfl rfl⟩
theorem v_M_fault : Jvm.Cond.instanceMethod y_M_fault ∈ xBIG ∧ Jvm.Cond.selects y_M_fault.cls y_M_fault y_M_fault ∈ xBIG := ⟨xm3 (i := 149) rfl rfl, xm3 (i := 150) rfl rfl⟩
theorem v_M_read : Jvm.Cond.instanceMethod y_M_read ∈ xBIG ∧ Jvm.Cond.selects y_M_read.cls y_M_read y_M_read ∈ xBIG := ⟨xm3 (i := 154) rfl rfl, xmem (i := 24) rfl rfl⟩
theorem v_M_readChain : Jvm.Cond.instanceMethod y_M_readChain ∈ xBIG ∧ Jvm.Cond.selects y_M_readChain.cls y_M_readChain y_M_readChain ∈ xBIG := ⟨xm3 (i := 158) rfl rfl, xmem (i := 25) rfl rfl⟩
theorem v_M_at : Jvm.Cond.instanceMethod y_M_at ∈ xBIG ∧ Jvm.Cond.selects y_M_at.cls y_M_at y_M_at ∈ xBIG := ⟨xm3 (i := 162) rfl rfl, xmem (i := 26) rfl rfl⟩
theorem v_M_readExpression : Jvm.Cond.instanceMethod y_M_readExpression ∈ xBIG ∧ Jvm.Cond.selects y_M_readExpression.cls y_M_readExpression y_M_readExpression ∈ xBIG := ⟨xm3 (i := 166) rfl rfl, xmem (i := 27) rfl rfl⟩
theorem v_M_begin : Jvm.Cond.instanceMethod y_M_begin ∈ xBIG ∧ Jvm.Cond.selects y_M_begin.cls y_M_begin y_M_begin ∈ xBIG := ⟨xm3 (i := 170) rfl rfl, xmem (i := 28) rfl rfl⟩
theorem v_M_has : Jvm.Cond.instanceMethod y_M_has ∈ xBIG ∧ Jvm.Cond.selects y_M_has.cls y_M_has y_M_has ∈ xBIG := ⟨xm3 (i := 174) rfl rfl, xmem (i := 29) rfl rfl⟩
theorem s_M_letter : Jvm.Cond.static y_M_letter ∈ xBIG := xm3 (i := 177) rfl rfl
theorem v_M_simple : Jvm.Cond.instanceMethod y_M_simple ∈ xBIG ∧ Jvm.Cond.selects y_M_simple.cls y_M_simple y_M_simple ∈ xBIG := ⟨xm3 (i := 181) rfl rfl, xmem (i := 30) rfl rfl⟩
theorem v_M_endFactor : Jvm.Cond.instanceMethod y_M_endFactor ∈ xBIG ∧ Jvm.Cond.selects y_M_endFactor.cls y_M_endFactor y_M_endFactor ∈ xBIG := ⟨xm3 (i := 185) rfl rfl, xmem (i := 31) rfl rfl⟩
theorem v_M_multiply : Jvm.Cond.instanceMethod y_M_multiply ∈ xBIG ∧ Jvm.Cond.selects y_M_multiply.cls y_M_multiply y_M_multiply ∈ xBIG := ⟨xm3 (i := 189) rfl rfl, xmem (i := 32) rfl rfl⟩
theorem s_M_wide : Jvm.Cond.static y_M_wide ∈ xBIG := xm3 (i := 192) rfl rfl
theorem v_M_look : Jvm.Cond.instanceMethod y_M_look ∈ xBIG ∧ Jvm.Cond.selects y_M_look.cls y_M_look y_M_look ∈ xBIG := ⟨xm3 (i := 196) rfl rfl, xmem (i := 33) rfl rfl⟩
theorem v_M_endTerm : Jvm.Cond.instanceMethod y_M_endTerm ∈ xBIG ∧ Jvm.Cond.selects y_M_endTerm.cls y_M_endTerm y_M_endTerm ∈ xBIG := ⟨xm3 (i := 200) rfl rfl, xmem (i := 34) rfl rfl⟩
theorem v_M_readConditions : Jvm.Cond.instanceMethod y_M_readConditions ∈ xBIG ∧ Jvm.Cond.selects y_M_readConditions.cls y_M_readConditions y_M_readConditions ∈ xBIG := ⟨xm3 (i := 204) rfl rfl, xmem (i := 35) rfl rfl⟩
theorem v_M_shorter : Jvm.Cond.instanceMethod y_M_shorter ∈ xBIG ∧ Jvm.Cond.selects y_M_shorter.cls y_M_shorter y_M_shorter ∈ xBIG := ⟨xm3 (i := 208) rfl rfl, xmem (i := 36) rfl rfl⟩
theorem v_M_define : Jvm.Cond.instanceMethod y_M_define ∈ xBIG ∧ Jvm.Cond.selects y_M_define.cls y_M_define y_M_define ∈ xBIG := ⟨xm3 (i := 211) rfl rfl, xm3 (i := 212) rfl rfl⟩
theorem v_M_drop : Jvm.Cond.instanceMethod y_M_drop ∈ xBIG ∧ Jvm.Cond.selects y_M_drop.cls y_M_drop y_M_drop ∈ xBIG := ⟨xm3 (i := 215) rfl rfl, xm3 (i := 216) rfl rfl⟩
theorem v_M_answer : Jvm.Cond.instanceMethod y_M_answer ∈ xBIG ∧ Jvm.Cond.selects y_M_answer.cls y_M_answer y_M_answer ∈ xBIG := ⟨xm3 (i := 219) rfl rfl, xm3 (i := 220) rfl rfl⟩
theorem v_M_collect : Jvm.Cond.instanceMethod y_M_collect ∈ xBIG ∧ Jvm.Cond.selects y_M_collect.cls y_M_collect y_M_collect ∈ xBIG := ⟨xm3 (i := 225) rfl rfl, xmem (i := 37) rfl rfl⟩
theorem s_M_of : Jvm.Cond.static y_M_of ∈ xBIG := xm3 (i := 228) rfl rfl
theorem v_M_meets : Jvm.Cond.instanceMethod y_M_meets ∈ xBIG ∧ Jvm.Cond.selects y_M_meets.cls y_M_meets y_M_meets ∈ xBIG := ⟨xm3 (i := 232) rfl rfl, xmem (i := 38) rfl rfl⟩
theorem v_M_weight : Jvm.Cond.instanceMethod y_M_weight ∈ xBIG ∧ Jvm.Cond.selects y_M_weight.cls y_M_weight y_M_weight ∈ xBIG := ⟨xm3 (i := 236) rfl rfl, xmem (i := 39) rfl rfl⟩
theorem v_M_value : Jvm.Cond.instanceMethod y_M_value ∈ xBIG ∧ Jvm.Cond.selects y_M_value.cls y_M_value y_M_value ∈ xBIG := ⟨xm4 (i := 0) rfl rfl, xmem (i := 40) rfl rfl⟩
theorem s_M_power : Jvm.Cond.static y_M_power ∈ xBIG := xm4 (i := 3) rfl rfl
theorem v_M_total : Jvm.Cond.instanceMethod y_M_total ∈ xBIG ∧ Jvm.Cond.selects y_M_total.cls y_M_total y_M_total ∈ xBIG := ⟨xm4 (i := 6) rfl rfl, xm4 (i := 7) rfl rfl⟩
theorem v_M_count : Jvm.Cond.instanceMethod y_M_count ∈ xBIG ∧ Jvm.Cond.selects y_M_count.cls y_M_count y_M_count ∈ xBIG := ⟨xm4 (i := 10) rfl rfl, xm4 (i := 11) rfl rfl⟩
theorem v_M_question : Jvm.Cond.instanceMethod y_M_question ∈ xBIG ∧ Jvm.Cond.selects y_M_question.cls y_M_question y_M_question ∈ xBIG := ⟨xm4 (i := 14) rfl rfl, xm4 (i := 15) rfl rfl⟩
theorem v_M_state : Jvm.Cond.instanceMethod y_M_state ∈ xBIG ∧ Jvm.Cond.selects y_M_state.cls y_M_state y_M_state ∈ xBIG := ⟨xm4 (i := 18) rfl rfl, xm4 (i := 19) rfl rfl⟩
theorem o_K_1 : Jvm.Cond.methodLink "JoinKeeper" 1 Lib.objectInit ∈ xBIG ∧ Jvm.Cond.instanceMethod Lib.objectInit ∈ xBIG ∧ Jvm.Cond.code Lib.objectInit ⟨#[0xb1]⟩ 1 none ∈ xBIG := ⟨xm1 (i := 16) rfl rfl, xm1 (i := 17) rfl rfl, xm1 (i := 18) rfl rfl⟩
theorem k_K_32 : xcB "JoinKeeper" 32 y_E_init b_E_init 2 none 0 := ⟨xm1 (i := 92) rfl rfl, xm1 (i := 5) rfl rfl, xm1 (i := 94) rfl rfl, by decide +kernel, by decide⟩
theorem k_K_44 : xcB "JoinKeeper" 44 y_K_isRow b_K_isRow 3 ((some .boolean)) 3 := ⟨xm1 (i := 181) rfl rfl, xm1 (i := 1) rfl rfl, xm1 (i := 183) rfl rfl, by decide +kernel, by decide⟩
theorem k_K_48 : xcB "JoinKeeper" 48 y_R_placeOf b_R_placeOf 3 ((some .int)) 3 := ⟨xm1 (i := 187) rfl rfl, xm1 (i := 2) rfl rfl, xm1 (i := 189) rfl rfl, by decide +kernel, by decide⟩
theorem k_K_52 : xcB "JoinKeeper" 52 y_R_raise b_R_raise 5 ((some .boolean)) 2 := ⟨xm1 (i := 190) rfl rfl, xm1 (i := 2) rfl rfl, xm1 (i := 193) rfl rfl, by decide +kernel, by decide⟩
theorem k_K_56 : xcB "JoinKeeper" 56 y_R_takeBack b_R_takeBack 1 ((some .boolean)) 0 := ⟨xm1 (i := 200) rfl rfl, xm1 (i := 2) rfl rfl, xm1 (i := 203) rfl rfl, by decide +kernel, by decide⟩
theorem k_K_60 : xcB "JoinKeeper" 60 y_R_changesLeft b_R_changesLeft 1 ((some .int)) 0 := ⟨xm1 (i := 204) rfl rfl, xm1 (i := 2) rfl rfl, xm1 (i := 207) rfl rfl, by decide +kernel, by decide⟩
theorem k_K_64 : xcB "JoinKeeper" 64 y_T_append b_T_append 2 ((some .boolean)) 1 := ⟨xm1 (i := 212) rfl rfl, xm1 (i := 3) rfl rfl, xm1 (i := 215) rfl rfl, by decide +kernel, by decide⟩
theorem k_K_68 : xcB "JoinKeeper" 68 y_T_length b_T_length 1 ((some .int)) 0 := ⟨xm1 (i := 216) rfl rfl, xm1 (i := 3) rfl rfl, xm1 (i := 219) rfl rfl, by decide +kernel, by decide⟩
theorem k_K_71 : xcB "JoinKeeper" 71 y_T_empty b_T_empty 1 none 0 := ⟨xm1 (i := 224) rfl rfl, xm1 (i := 3) rfl rfl, xm1 (i := 227) rfl rfl, by decide +kernel, by decide⟩
theorem k_K_74 : xcB "JoinKeeper" 74 y_K_isQuestion b_K_isQuestion 1 ((some .boolean)) 1 := ⟨xm1 (i := 232) rfl rfl, xm1 (i := 1) rfl rfl, xm1 (i := 234) rfl rfl, by decide +kernel, by decide⟩
theorem k_K_78 : xcB "JoinKeeper" 78 y_G_faultIn b_G_faultIn 3 ((some .int)) 1 := ⟨xm1 (i := 235) rfl rfl, xm1 (i := 4) rfl rfl, xm1 (i := 238) rfl rfl, by decide +kernel, by decide⟩
theorem k_K_82 : xcB "JoinKeeper" 82 y_G_expressionStart b_G_expressionStart 2 ((some .int)) 0 := ⟨xm2 (i := 79) rfl rfl, xm1 (i := 4) rfl rfl, xm2 (i := 82) rfl rfl, by decide +kernel, by decide⟩
theorem k_K_85 : xcB "JoinKeeper" 85 y_E_evaluate b_E_evaluate 3 ((some .boolean)) 2 := ⟨xm2 (i := 83) rfl rfl, xm1 (i := 5) rfl rfl, xm2 (i := 86) rfl rfl, by decide +kernel, by decide⟩
theorem k_K_89 : xcB "JoinKeeper" 89 y_E_result b_E_result 1 ((some (.object "JoinKeeper$Polynomial"))) 0 := ⟨xm2 (i := 153) rfl rfl, xm1 (i := 5) rfl rfl, xm2 (i := 156) rfl rfl, by decide +kernel, by decide⟩
theorem k_K_93 : xcB "JoinKeeper" 93 y_Q_become b_Q_become 4 none 2 := ⟨xm2 (i := 157) rfl rfl, xm1 (i := 7) rfl rfl, xm2 (i := 160) rfl rfl, by decide +kernel, by decide⟩
theorem k_K_97 : xcB "JoinKeeper" 97 y_Q_terms b_Q_terms 1 ((some .int)) 0 := ⟨xm2 (i := 182) rfl rfl, xm1 (i := 7) rfl rfl, xm2 (i := 185) rfl rfl, by decide +kernel, by decide⟩
theorem k_K_100 : xcB "JoinKeeper" 100 y_K_isAskable b_K_isAskable 2 ((some .boolean)) 1 := ⟨xm2 (i := 195) rfl rfl, xm1 (i := 1) rfl rfl, xm2 (i := 198) rfl rfl, by decide +kernel, by decide⟩
theorem k_K_103 : xcB "JoinKeeper" 103 y_Q_remove b_Q_remove 1 none 0 := ⟨xm2 (i := 203) rfl rfl, xm1 (i := 7) rfl rfl, xm2 (i := 206) rfl rfl, by decide +kernel, by decide⟩
theorem k_K_106 : xcB "JoinKeeper" 106 y_K_isValue b_K_isValue 1 ((some .boolean)) 1 := ⟨xm1 (i := 184) rfl rfl, xm1 (i := 1) rfl rfl, xm1 (i := 186) rfl rfl, by decide +kernel, by decide⟩
theorem k_K_111 : xcB "JoinKeeper" 111 y_Q_answerFor b_Q_answerFor 3 ((some .long)) 2 := ⟨xm2 (i := 212) rfl rfl, xm1 (i := 7) rfl rfl, xm2 (i := 215) rfl rfl, by decide +kernel, by decide⟩
theorem k_K_115 : xcB "JoinKeeper" 115 y_Q_sumOver b_Q_sumOver 7 ((some .long)) 2 := ⟨xm3 (i := 5) rfl rfl, xm1 (i := 7) rfl rfl, xm2 (i := 219) rfl rfl, by decide +kernel, by decide⟩
theorem k_K_118 : xcB "JoinKeeper" 118 y_R_at b_R_at 2 ((some .int)) 1 := ⟨xm3 (i := 10) rfl rfl, xm1 (i := 2) rfl rfl, xm3 (i := 0) rfl rfl, by decide +kernel, by decide⟩
theorem k_K_122 : xcB "JoinKeeper" 122 y_Q_isThere b_Q_isThere 1 ((some .boolean)) 0 := ⟨xm2 (i := 199) rfl rfl, xm1 (i := 7) rfl rfl, xm2 (i := 202) rfl rfl, by decide +kernel, by decide⟩
theorem k_K_125 : xcB "JoinKeeper" 125 y_Q_chain b_Q_chain 3 ((some .int)) 0 := ⟨xm3 (i := 15) rfl rfl, xm1 (i := 7) rfl rfl, xm3 (i := 18) rfl rfl, by decide +kernel, by decide⟩
theorem k_K_128 : xcB "JoinKeeper" 128 y_Q_groupColumn b_Q_groupColumn 1 ((some .int)) 0 := ⟨xm3 (i := 19) rfl rfl, xm1 (i := 7) rfl rfl, xm3 (i := 22) rfl rfl, by decide +kernel, by decide⟩
theorem k_K_131 : xcB "JoinKeeper" 131 y_Q_conditions b_Q_conditions 1 ((some .int)) 0 := ⟨xm3 (i := 23) rfl rfl, xm1 (i := 7) rfl rfl, xm3 (i := 26) rfl rfl, by decide +kernel, by decide⟩
theorem k_K_134 : xcB "JoinKeeper" 134 y_R_filled b_R_filled 3 ((some .int)) 0 := ⟨xm3 (i := 31) rfl rfl, xm1 (i := 2) rfl rfl, xm3 (i := 34) rfl rfl, by decide +kernel, by decide⟩
theorem o_E_3 : Jvm.Cond.methodLink "JoinKeeper$Evaluator" 3 Lib.objectInit ∈ xBIG ∧ Jvm.Cond.instanceMethod Lib.objectInit ∈ xBIG ∧ Jvm.Cond.code Lib.objectInit ⟨#[0xb1]⟩ 1 none ∈ xBIG := ⟨xm1 (i := 95) rfl rfl, xm1 (i := 17) rfl rfl, xm1 (i := 18) rfl rfl⟩
theorem k_E_32 : xcB "JoinKeeper$Evaluator" 32 y_E_readSum b_E_readSum 6 ((some .boolean)) 2 := ⟨xm2 (i := 87) rfl rfl, xm1 (i := 5) rfl rfl, xm2 (i := 90) rfl rfl, by decide +kernel, by decide⟩
theorem k_E_36 : xcB "JoinKeeper$Evaluator" 36 y_P_becomeNumber b_P_becomeNumber 2 none 1 := ⟨xm2 (i := 91) rfl rfl, xm1 (i := 6) rfl rfl, xm2 (i := 94) rfl rfl, by decide +kernel, by decide⟩
theorem k_E_42 : xcB "JoinKeeper$Evaluator" 42 y_E_readProduct b_E_readProduct 4 ((some .boolean)) 2 := ⟨xm2 (i := 96) rfl rfl, xm1 (i := 5) rfl rfl, xm2 (i := 99) rfl rfl, by decide +kernel, by decide⟩
theorem k_E_45 : xcB "JoinKeeper$Evaluator" 45 y_P_add b_P_add 4 ((some .boolean)) 2 := ⟨xm2 (i := 149) rfl rfl, xm1 (i := 6) rfl rfl, xm2 (i := 152) rfl rfl, by decide +kernel, by decide⟩
theorem k_E_49 : xcB "JoinKeeper$Evaluator" 49 y_T_at b_T_at 2 ((some .char)) 1 := ⟨xm2 (i := 104) rfl rfl, xm1 (i := 3) rfl rfl, xm2 (i := 10) rfl rfl, by decide +kernel, by decide⟩
theorem k_E_53 : xcB "JoinKeeper$Evaluator" 53 y_E_readFactor b_E_readFactor 5 ((some .boolean)) 2 := ⟨xm2 (i := 100) rfl rfl, xm1 (i := 5) rfl rfl, xm2 (i := 103) rfl rfl, by decide +kernel, by decide⟩
theorem k_E_56 : xcB "JoinKeeper$Evaluator" 56 y_P_becomeProduct b_P_becomeProduct 5 ((some .boolean)) 2 := ⟨xm2 (i := 131) rfl rfl, xm1 (i := 6) rfl rfl, xm2 (i := 134) rfl rfl, by decide +kernel, by decide⟩
theorem k_E_60 : xcB "JoinKeeper$Evaluator" 60 y_P_becomeCopy b_P_becomeCopy 2 none 1 := ⟨xm2 (i := 109) rfl rfl, xm1 (i := 6) rfl rfl, xm2 (i := 112) rfl rfl, by decide +kernel, by decide⟩
theorem k_E_64 : xcB "JoinKeeper$Evaluator" 64 y_E_readRestOfBrackets b_E_readRestOfBrackets 3 ((some .boolean)) 2 := ⟨xm2 (i := 105) rfl rfl, xm1 (i := 5) rfl rfl, xm2 (i := 108) rfl rfl, by decide +kernel, by decide⟩
theorem k_E_67 : xcB "JoinKeeper$Evaluator" 67 y_E_readRestOfNegative b_E_readRestOfNegative 3 ((some .boolean)) 2 := ⟨xm2 (i := 116) rfl rfl, xm1 (i := 5) rfl rfl, xm2 (i := 119) rfl rfl, by decide +kernel, by decide⟩
theorem k_E_70 : xcB "JoinKeeper$Evaluator" 70 y_T_columnOf b_T_columnOf 1 ((some .int)) 1 := ⟨xm2 (i := 124) rfl rfl, xm1 (i := 3) rfl rfl, xm2 (i := 43) rfl rfl, by decide +kernel, by decide⟩
theorem k_E_74 : xcB "JoinKeeper$Evaluator" 74 y_P_becomeColumn b_P_becomeColumn 2 none 1 := ⟨xm2 (i := 125) rfl rfl, xm1 (i := 6) rfl rfl, xm2 (i := 128) rfl rfl, by decide +kernel, by decide⟩
theorem k_E_77 : xcB "JoinKeeper$Evaluator" 77 y_P_becomeNegative b_P_becomeNegative 3 none 1 := ⟨xm2 (i := 120) rfl rfl, xm1 (i := 6) rfl rfl, xm2 (i := 123) rfl rfl, by decide +kernel, by decide⟩
theorem o_G_3 : Jvm.Cond.methodLink "JoinKeeper$Grammar" 3 Lib.objectInit ∈ xBIG ∧ Jvm.Cond.instanceMethod Lib.objectInit ∈ xBIG ∧ Jvm.Cond.code Lib.objectInit ⟨#[0xb1]⟩ 1 none ∈ xBIG := ⟨xm1 (i := 58) rfl rfl, xm1 (i := 17) rfl rfl, xm1 (i := 18) rfl rfl⟩
theorem k_G_15 : xcB "JoinKeeper$Grammar" 15 y_G_restart b_G_restart 1 none 0 := ⟨xm1 (i := 239) rfl rfl, xm1 (i := 4) rfl rfl, xm2 (i := 2) rfl rfl, by decide +kernel, by decide⟩
theorem k_G_18 : xcB "JoinKeeper$Grammar" 18 y_T_length b_T_length 1 ((some .int)) 0 := ⟨xm2 (i := 6) rfl rfl, xm1 (i := 3) rfl rfl, xm1 (i := 219) rfl rfl, by decide +kernel, by decide⟩
theorem k_G_24 : xcB "JoinKeeper$Grammar" 24 y_T_at b_T_at 2 ((some .char)) 1 := ⟨xm2 (i := 7) rfl rfl, xm1 (i := 3) rfl rfl, xm2 (i := 10) rfl rfl, by decide +kernel, by decide⟩
theorem k_G_28 : xcB "JoinKeeper$Grammar" 28 y_G_take b_G_take 2 ((some .boolean)) 1 := ⟨xm2 (i := 11) rfl rfl, xm1 (i := 4) rfl rfl, xm2 (i := 14) rfl rfl, by decide +kernel, by decide⟩
theorem k_G_32 : xcB "JoinKeeper$Grammar" 32 y_G_isWhole b_G_isWhole 1 ((some .boolean)) 0 := ⟨xm2 (i := 75) rfl rfl, xm1 (i := 4) rfl rfl, xm2 (i := 78) rfl rfl, by decide +kernel, by decide⟩
theorem k_G_58 : xcB "JoinKeeper$Grammar" 58 y_A_fill b_A_fill 4 none 2 := ⟨xm2 (i := 3) rfl rfl, xm1 (i := 9) rfl rfl, xm2 (i := 5) rfl rfl, by decide +kernel, by decide⟩
theorem k_G_64 : xcB "JoinKeeper$Grammar" 64 y_G_takeChainStart b_G_takeChainStart 3 ((some .boolean)) 1 := ⟨xm2 (i := 15) rfl rfl, xm1 (i := 4) rfl rfl, xm2 (i := 18) rfl rfl, by decide +kernel, by decide⟩
theorem k_G_67 : xcB "JoinKeeper$Grammar" 67 y_G_takeChainRest b_G_takeChainRest 2 ((some .boolean)) 1 := ⟨xm2 (i := 22) rfl rfl, xm1 (i := 4) rfl rfl, xm2 (i := 25) rfl rfl, by decide +kernel, by decide⟩
theorem k_G_70 : xcB "JoinKeeper$Grammar" 70 y_G_takeFactor b_G_takeFactor 2 ((some .boolean)) 1 := ⟨xm2 (i := 26) rfl rfl, xm1 (i := 4) rfl rfl, xm2 (i := 29) rfl rfl, by decide +kernel, by decide⟩
theorem k_G_73 : xcB "JoinKeeper$Grammar" 73 y_G_takeAfterFactor b_G_takeAfterFactor 2 ((some .boolean)) 1 := ⟨xm2 (i := 48) rfl rfl, xm1 (i := 4) rfl rfl, xm2 (i := 51) rfl rfl, by decide +kernel, by decide⟩
theorem k_G_76 : xcB "JoinKeeper$Grammar" 76 y_G_takeConditionColumn b_G_takeConditionColumn 2 ((some .boolean)) 1 := ⟨xm2 (i := 56) rfl rfl, xm1 (i := 4) rfl rfl, xm2 (i := 59) rfl rfl, by decide +kernel, by decide⟩
theorem k_G_79 : xcB "JoinKeeper$Grammar" 79 y_G_takeConditionKind b_G_takeConditionKind 2 ((some .boolean)) 1 := ⟨xm2 (i := 60) rfl rfl, xm1 (i := 4) rfl rfl, xm2 (i := 63) rfl rfl, by decide +kernel, by decide⟩
theorem k_G_82 : xcB "JoinKeeper$Grammar" 82 y_G_takeConditionDigit b_G_takeConditionDigit 3 ((some .boolean)) 1 := ⟨xm2 (i := 64) rfl rfl, xm1 (i := 4) rfl rfl, xm2 (i := 67) rfl rfl, by decide +kernel, by decide⟩
theorem k_G_85 : xcB "JoinKeeper$Grammar" 85 y_G_takeTail b_G_takeTail 2 ((some .boolean)) 1 := ⟨xm2 (i := 52) rfl rfl, xm1 (i := 4) rfl rfl, xm2 (i := 55) rfl rfl, by decide +kernel, by decide⟩
theorem k_G_88 : xcB "JoinKeeper$Grammar" 88 y_G_takeGroupColumn b_G_takeGroupColumn 2 ((some .boolean)) 1 := ⟨xm2 (i := 71) rfl rfl, xm1 (i := 4) rfl rfl, xm2 (i := 74) rfl rfl, by decide +kernel, by decide⟩
theorem k_G_91 : xcB "JoinKeeper$Grammar" 91 y_T_relationOf b_T_relationOf 1 ((some .int)) 1 := ⟨xm2 (i := 19) rfl rfl, xm1 (i := 3) rfl rfl, xm2 (i := 21) rfl rfl, by decide +kernel, by decide⟩
theorem k_G_95 : xcB "JoinKeeper$Grammar" 95 y_G_takeOpening b_G_takeOpening 2 ((some .boolean)) 1 := ⟨xm2 (i := 30) rfl rfl, xm1 (i := 4) rfl rfl, xm2 (i := 33) rfl rfl, by decide +kernel, by decide⟩
theorem k_G_98 : xcB "JoinKeeper$Grammar" 98 y_T_isDigit b_T_isDigit 1 ((some .boolean)) 1 := ⟨xm2 (i := 34) rfl rfl, xm1 (i := 3) rfl rfl, xm2 (i := 36) rfl rfl, by decide +kernel, by decide⟩
theorem k_G_101 : xcB "JoinKeeper$Grammar" 101 y_G_isChainColumn b_G_isChainColumn 3 ((some .boolean)) 1 := ⟨xm2 (i := 37) rfl rfl, xm1 (i := 4) rfl rfl, xm2 (i := 40) rfl rfl, by decide +kernel, by decide⟩
theorem k_G_104 : xcB "JoinKeeper$Grammar" 104 y_G_endFactor b_G_endFactor 1 none 0 := ⟨xm2 (i := 44) rfl rfl, xm1 (i := 4) rfl rfl, xm2 (i := 47) rfl rfl, by decide +kernel, by decide⟩
theorem k_G_107 : xcB "JoinKeeper$Grammar" 107 y_T_columnOf b_T_columnOf 1 ((some .int)) 1 := ⟨xm2 (i := 41) rfl rfl, xm1 (i := 3) rfl rfl, xm2 (i := 43) rfl rfl, by decide +kernel, by decide⟩
theorem k_G_117 : xcB "JoinKeeper$Grammar" 117 y_G_meets b_G_meets 3 ((some .boolean)) 3 := ⟨xm2 (i := 68) rfl rfl, xm1 (i := 4) rfl rfl, xm2 (i := 70) rfl rfl, by decide +kernel, by decide⟩
theorem o_P_3 : Jvm.Cond.methodLink "JoinKeeper$Polynomial" 3 Lib.objectInit ∈ xBIG ∧ Jvm.Cond.instanceMethod Lib.objectInit ∈ xBIG ∧ Jvm.Cond.code Lib.objectInit ⟨#[0xb1]⟩ 1 none ∈ xBIG := ⟨xm1 (i := 102) rfl rfl, xm1 (i := 17) rfl rfl, xm1 (i := 18) rfl rfl⟩
theorem k_P_18 : xcB "JoinKeeper$Polynomial" 18 y_A_fill b_A_fill 4 none 2 := ⟨xm2 (i := 95) rfl rfl, xm1 (i := 9) rfl rfl, xm2 (i := 5) rfl rfl, by decide +kernel, by decide⟩
theorem ay_P_24 : Jvm.Cond.methodLink "JoinKeeper$Polynomial" 24 arraycopyName ∈ xBIG ∧ Jvm.Cond.native arraycopyName ∈ xBIG ∧ Jvm.Cond.static arraycopyName ∈ xBIG ∧ Jvm.Cond.initialized "java/lang/System" ∈ xBIG := ⟨xm2 (i := 113) rfl rfl, xm2 (i := 115) rfl rfl, xm2 (i := 114) rfl rfl, xm1 (i := 10) rfl rfl⟩
theorem k_P_30 : xcB "JoinKeeper$Polynomial" 30 y_P_hasLargeTerms b_P_hasLargeTerms 2 ((some .boolean)) 0 := ⟨xm2 (i := 141) rfl rfl, xm1 (i := 6) rfl rfl, xm2 (i := 144) rfl rfl, by decide +kernel, by decide⟩
theorem k_P_34 : xcB "JoinKeeper$Polynomial" 34 y_P_powersFit b_P_powersFit 3 ((some .boolean)) 2 := ⟨xm2 (i := 135) rfl rfl, xm1 (i := 6) rfl rfl, xm2 (i := 137) rfl rfl, by decide +kernel, by decide⟩
theorem k_P_38 : xcB "JoinKeeper$Polynomial" 38 y_P_powerAt b_P_powerAt 2 ((some .int)) 2 := ⟨xm2 (i := 138) rfl rfl, xm1 (i := 6) rfl rfl, xm2 (i := 140) rfl rfl, by decide +kernel, by decide⟩
theorem k_P_42 : xcB "JoinKeeper$Polynomial" 42 y_P_terms b_P_terms 3 ((some .int)) 0 := ⟨xm2 (i := 145) rfl rfl, xm1 (i := 6) rfl rfl, xm2 (i := 148) rfl rfl, by decide +kernel, by decide⟩
theorem o_Q_3 : Jvm.Cond.methodLink "JoinKeeper$Question" 3 Lib.objectInit ∈ xBIG ∧ Jvm.Cond.instanceMethod Lib.objectInit ∈ xBIG ∧ Jvm.Cond.code Lib.objectInit ⟨#[0xb1]⟩ 1 none ∈ xBIG := ⟨xm1 (i := 129) rfl rfl, xm1 (i := 17) rfl rfl, xm1 (i := 18) rfl rfl⟩
theorem k_Q_33 : xcB "JoinKeeper$Question" 33 y_G_firstRelation b_G_firstRelation 1 ((some .int)) 0 := ⟨xm2 (i := 161) rfl rfl, xm1 (i := 4) rfl rfl, xm2 (i := 164) rfl rfl, by decide +kernel, by decide⟩
theorem k_Q_42 : xcB "JoinKeeper$Question" 42 y_G_lastRelation b_G_lastRelation 1 ((some .int)) 0 := ⟨xm2 (i := 165) rfl rfl, xm1 (i := 4) rfl rfl, xm2 (i := 168) rfl rfl, by decide +kernel, by decide⟩
theorem k_Q_47 : xcB "JoinKeeper$Question" 47 y_G_groupColumn b_G_groupColumn 1 ((some .int)) 0 := ⟨xm2 (i := 169) rfl rfl, xm1 (i := 4) rfl rfl, xm2 (i := 172) rfl rfl, by decide +kernel, by decide⟩
theorem k_Q_52 : xcB "JoinKeeper$Question" 52 y_G_conditions b_G_conditions 1 ((some .int)) 0 := ⟨xm2 (i := 173) rfl rfl, xm1 (i := 4) rfl rfl, xm2 (i := 176) rfl rfl, by decide +kernel, by decide⟩
theorem k_Q_57 : xcB "JoinKeeper$Question" 57 y_G_allowedIn b_G_allowedIn 2 ((some .int)) 1 := ⟨xm2 (i := 177) rfl rfl, xm1 (i := 4) rfl rfl, xm2 (i := 180) rfl rfl, by decide +kernel, by decide⟩
theorem k_Q_61 : xcB "JoinKeeper$Question" 61 y_P_becomeCopy b_P_becomeCopy 2 none 1 := ⟨xm2 (i := 181) rfl rfl, xm1 (i := 6) rfl rfl, xm2 (i := 112) rfl rfl, by decide +kernel, by decide⟩
theorem k_Q_65 : xcB "JoinKeeper$Question" 65 y_P_terms b_P_terms 3 ((some .int)) 0 := ⟨xm2 (i := 186) rfl rfl, xm1 (i := 6) rfl rfl, xm2 (i := 148) rfl rfl, by decide +kernel, by decide⟩
theorem k_Q_68 : xcB "JoinKeeper$Question" 68 y_Q_sumOver b_Q_sumOver 7 ((some .long)) 2 := ⟨xm2 (i := 216) rfl rfl, xm1 (i := 7) rfl rfl, xm2 (i := 219) rfl rfl, by decide +kernel, by decide⟩
theorem k_Q_72 : xcB "JoinKeeper$Question" 72 y_P_at b_P_at 2 ((some .int)) 1 := ⟨xm2 (i := 220) rfl rfl, xm1 (i := 6) rfl rfl, xm2 (i := 223) rfl rfl, by decide +kernel, by decide⟩
theorem k_Q_75 : xcB "JoinKeeper$Question" 75 y_Q_sumOfPowers b_Q_sumOfPowers 10 ((some .long)) 3 := ⟨xm2 (i := 224) rfl rfl, xm1 (i := 7) rfl rfl, xm2 (i := 227) rfl rfl, by decide +kernel, by decide⟩
theorem k_Q_79 : xcB "JoinKeeper$Question" 79 y_Q_share b_Q_share 9 ((some .long)) 4 := ⟨xm2 (i := 228) rfl rfl, xm1 (i := 7) rfl rfl, xm2 (i := 231) rfl rfl, by decide +kernel, by decide⟩
theorem k_Q_83 : xcB "JoinKeeper$Question" 83 y_Q_joined b_Q_joined 7 ((some .long)) 4 := ⟨xm2 (i := 233) rfl rfl, xm1 (i := 7) rfl rfl, xm2 (i := 235) rfl rfl, by decide +kernel, by decide⟩
theorem k_Q_87 : xcB "JoinKeeper$Question" 87 y_R_placeOf b_R_placeOf 3 ((some .int)) 3 := ⟨xm2 (i := 236) rfl rfl, xm1 (i := 2) rfl rfl, xm1 (i := 189) rfl rfl, by decide +kernel, by decide⟩
theorem k_Q_93 : xcB "JoinKeeper$Question" 93 y_R_at b_R_at 2 ((some .int)) 1 := ⟨xm2 (i := 237) rfl rfl, xm1 (i := 2) rfl rfl, xm3 (i := 0) rfl rfl, by decide +kernel, by decide⟩
theorem k_Q_94 : xcB "JoinKeeper$Question" 94 y_P_powerAt b_P_powerAt 2 ((some .int)) 2 := ⟨xm2 (i := 232) rfl rfl, xm1 (i := 6) rfl rfl, xm2 (i := 140) rfl rfl, by decide +kernel, by decide⟩
theorem o_R_3 : Jvm.Cond.methodLink "JoinKeeper$Rows" 3 Lib.objectInit ∈ xBIG ∧ Jvm.Cond.instanceMethod Lib.objectInit ∈ xBIG ∧ Jvm.Cond.code Lib.objectInit ⟨#[0xb1]⟩ 1 none ∈ xBIG := ⟨xm1 (i := 24) rfl rfl, xm1 (i := 17) rfl rfl, xm1 (i := 18) rfl rfl⟩
theorem o_T_1 : Jvm.Cond.methodLink "JoinKeeper$Text" 1 Lib.objectInit ∈ xBIG ∧ Jvm.Cond.instanceMethod Lib.objectInit ∈ xBIG ∧ Jvm.Cond.code Lib.objectInit ⟨#[0xb1]⟩ 1 none ∈ xBIG := ⟨xm1 (i := 44) rfl rfl, xm1 (i := 17) rfl rfl, xm1 (i := 18) rfl rfl⟩
theorem k_L_9 : xcB "JoinKeeperLaw" 9 y_K_init b_K_init 2 none 0 := ⟨xm1 (i := 13) rfl rfl, xm1 (i := 1) rfl rfl, xm1 (i := 15) rfl rfl, by decide +kernel, by decide⟩
theorem k_L_12 : xcB "JoinKeeperLaw" 12 y_M_init b_M_init 1 none 0 := ⟨xm3 (i := 37) rfl rfl, xm1 (i := 8) rfl rfl, xm3 (i := 39) rfl rfl, by decide +kernel, by decide⟩
theorem k_L_13 : xcB "JoinKeeperLaw" 13 y_K_change b_K_change 5 ((some .int)) 4 := ⟨xm1 (i := 177) rfl rfl, xm1 (i := 1) rfl rfl, xm1 (i := 180) rfl rfl, by decide +kernel, by decide⟩
theorem k_L_17 : xcB "JoinKeeperLaw" 17 y_M_change b_M_change 8 ((some .int)) 4 := ⟨xm3 (i := 124) rfl rfl, xm1 (i := 8) rfl rfl, xm3 (i := 127) rfl rfl, by decide +kernel, by decide⟩
theorem k_L_18 : xcB "JoinKeeperLaw" 18 y_K_back b_K_back 1 ((some .int)) 0 := ⟨xm1 (i := 196) rfl rfl, xm1 (i := 1) rfl rfl, xm1 (i := 199) rfl rfl, by decide +kernel, by decide⟩
theorem k_L_22 : xcB "JoinKeeperLaw" 22 y_M_back b_M_back 1 ((some .int)) 0 := ⟨xm3 (i := 136) rfl rfl, xm1 (i := 8) rfl rfl, xm3 (i := 139) rfl rfl, by decide +kernel, by decide⟩
theorem k_L_23 : xcB "JoinKeeperLaw" 23 y_K_sign b_K_sign 2 ((some .int)) 1 := ⟨xm1 (i := 208) rfl rfl, xm1 (i := 1) rfl rfl, xm1 (i := 211) rfl rfl, by decide +kernel, by decide⟩
theorem k_L_27 : xcB "JoinKeeperLaw" 27 y_M_sign b_M_sign 2 ((some .int)) 1 := ⟨xm3 (i := 140) rfl rfl, xm1 (i := 8) rfl rfl, xm3 (i := 143) rfl rfl, by decide +kernel, by decide⟩
theorem k_L_28 : xcB "JoinKeeperLaw" 28 y_K_clear b_K_clear 1 ((some .int)) 0 := ⟨xm1 (i := 220) rfl rfl, xm1 (i := 1) rfl rfl, xm1 (i := 223) rfl rfl, by decide +kernel, by decide⟩
theorem k_L_31 : xcB "JoinKeeperLaw" 31 y_M_clear b_M_clear 1 ((some .int)) 0 := ⟨xm3 (i := 144) rfl rfl, xm1 (i := 8) rfl rfl, xm3 (i := 147) rfl rfl, by decide +kernel, by decide⟩
theorem k_L_32 : xcB "JoinKeeperLaw" 32 y_K_define b_K_define 2 ((some .int)) 1 := ⟨xm1 (i := 228) rfl rfl, xm1 (i := 1) rfl rfl, xm1 (i := 231) rfl rfl, by decide +kernel, by decide⟩
theorem k_L_35 : xcB "JoinKeeperLaw" 35 y_M_define b_M_define 4 ((some .int)) 1 := ⟨xm3 (i := 210) rfl rfl, xm1 (i := 8) rfl rfl, xm3 (i := 213) rfl rfl, by decide +kernel, by decide⟩
theorem k_L_36 : xcB "JoinKeeperLaw" 36 y_K_fault b_K_fault 1 ((some .int)) 0 := ⟨xm2 (i := 187) rfl rfl, xm1 (i := 1) rfl rfl, xm2 (i := 190) rfl rfl, by decide +kernel, by decide⟩
theorem k_L_39 : xcB "JoinKeeperLaw" 39 y_M_fault b_M_fault 1 ((some .int)) 0 := ⟨xm3 (i := 148) rfl rfl, xm1 (i := 8) rfl rfl, xm3 (i := 151) rfl rfl, by decide +kernel, by decide⟩
theorem k_L_40 : xcB "JoinKeeperLaw" 40 y_K_drop b_K_drop 2 ((some .int)) 1 := ⟨xm2 (i := 191) rfl rfl, xm1 (i := 1) rfl rfl, xm2 (i := 194) rfl rfl, by decide +kernel, by decide⟩
theorem k_L_43 : xcB "JoinKeeperLaw" 43 y_M_drop b_M_drop 2 ((some .int)) 1 := ⟨xm3 (i := 214) rfl rfl, xm1 (i := 8) rfl rfl, xm3 (i := 217) rfl rfl, by decide +kernel, by decide⟩
theorem k_L_44 : xcB "JoinKeeperLaw" 44 y_K_answer b_K_answer 3 ((some .long)) 2 := ⟨xm2 (i := 207) rfl rfl, xm1 (i := 1) rfl rfl, xm2 (i := 210) rfl rfl, by decide +kernel, by decide⟩
theorem k_L_48 : xcB "JoinKeeperLaw" 48 y_M_answer b_M_answer 3 ((some .long)) 2 := ⟨xm3 (i := 218) rfl rfl, xm1 (i := 8) rfl rfl, xm3 (i := 221) rfl rfl, by decide +kernel, by decide⟩
theorem k_L_49 : xcB "JoinKeeperLaw" 49 y_K_total b_K_total 2 ((some .long)) 1 := ⟨xm3 (i := 1) rfl rfl, xm1 (i := 1) rfl rfl, xm3 (i := 4) rfl rfl, by decide +kernel, by decide⟩
theorem k_L_53 : xcB "JoinKeeperLaw" 53 y_M_total b_M_total 2 ((some .long)) 1 := ⟨xm4 (i := 5) rfl rfl, xm1 (i := 8) rfl rfl, xm4 (i := 8) rfl rfl, by decide +kernel, by decide⟩
theorem k_L_54 : xcB "JoinKeeperLaw" 54 y_K_count b_K_count 4 ((some .long)) 3 := ⟨xm3 (i := 6) rfl rfl, xm1 (i := 1) rfl rfl, xm3 (i := 9) rfl rfl, by decide +kernel, by decide⟩
theorem k_L_58 : xcB "JoinKeeperLaw" 58 y_M_count b_M_count 5 ((some .long)) 3 := ⟨xm4 (i := 9) rfl rfl, xm1 (i := 8) rfl rfl, xm4 (i := 12) rfl rfl, by decide +kernel, by decide⟩
theorem k_L_59 : xcB "JoinKeeperLaw" 59 y_K_question b_K_question 4 ((some .int)) 2 := ⟨xm3 (i := 11) rfl rfl, xm1 (i := 1) rfl rfl, xm3 (i := 14) rfl rfl, by decide +kernel, by decide⟩
theorem k_L_63 : xcB "JoinKeeperLaw" 63 y_M_question b_M_question 3 ((some .int)) 2 := ⟨xm4 (i := 13) rfl rfl, xm1 (i := 8) rfl rfl, xm4 (i := 16) rfl rfl, by decide +kernel, by decide⟩
theorem k_L_64 : xcB "JoinKeeperLaw" 64 y_K_state b_K_state 2 ((some .int)) 1 := ⟨xm3 (i := 27) rfl rfl, xm1 (i := 1) rfl rfl, xm3 (i := 30) rfl rfl, by decide +kernel, by decide⟩
theorem k_L_67 : xcB "JoinKeeperLaw" 67 y_M_state b_M_state 4 ((some .int)) 1 := ⟨xm4 (i := 17) rfl rfl, xm1 (i := 8) rfl rfl, xm4 (i := 20) rfl rfl, by decide +kernel, by decide⟩
theorem o_M_1 : Jvm.Cond.methodLink "JoinKeeperModel" 1 Lib.objectInit ∈ xBIG ∧ Jvm.Cond.instanceMethod Lib.objectInit ∈ xBIG ∧ Jvm.Cond.code Lib.objectInit ⟨#[0xb1]⟩ 1 none ∈ xBIG := ⟨xm3 (i := 40) rfl rfl, xm1 (i := 17) rfl rfl, xm1 (i := 18) rfl rfl⟩
theorem k_M_74 : xcB "JoinKeeperModel" 74 y_M_letter b_M_letter 1 ((some .int)) 1 := ⟨xm3 (i := 176) rfl rfl, xm1 (i := 8) rfl rfl, xm3 (i := 178) rfl rfl, by decide +kernel, by decide⟩
theorem k_M_89 : xcB "JoinKeeperModel" 89 y_M_wide b_M_wide 1 ((some .int)) 1 := ⟨xm3 (i := 191) rfl rfl, xm1 (i := 8) rfl rfl, xm3 (i := 193) rfl rfl, by decide +kernel, by decide⟩
theorem k_M_92 : xcB "JoinKeeperModel" 92 y_M_multiply b_M_multiply 3 none 1 := ⟨xm3 (i := 187) rfl rfl, xm1 (i := 8) rfl rfl, xm3 (i := 190) rfl rfl, by decide +kernel, by decide⟩
theorem k_M_96 : xcB "JoinKeeperModel" 96 y_M_look b_M_look 6 none 2 := ⟨xm3 (i := 194) rfl rfl, xm1 (i := 8) rfl rfl, xm3 (i := 197) rfl rfl, by decide +kernel, by decide⟩
theorem k_M_100 : xcB "JoinKeeperModel" 100 y_M_at b_M_at 2 ((some .int)) 1 := ⟨xm3 (i := 160) rfl rfl, xm1 (i := 8) rfl rfl, xm3 (i := 163) rfl rfl, by decide +kernel, by decide⟩
theorem k_M_103 : xcB "JoinKeeperModel" 103 y_M_begin b_M_begin 3 none 1 := ⟨xm3 (i := 168) rfl rfl, xm1 (i := 8) rfl rfl, xm3 (i := 171) rfl rfl, by decide +kernel, by decide⟩
theorem k_M_106 : xcB "JoinKeeperModel" 106 y_M_has b_M_has 4 ((some .boolean)) 1 := ⟨xm3 (i := 172) rfl rfl, xm1 (i := 8) rfl rfl, xm3 (i := 175) rfl rfl, by decide +kernel, by decide⟩
theorem k_M_110 : xcB "JoinKeeperModel" 110 y_M_simple b_M_simple 3 none 1 := ⟨xm3 (i := 179) rfl rfl, xm1 (i := 8) rfl rfl, xm3 (i := 182) rfl rfl, by decide +kernel, by decide⟩
theorem k_M_113 : xcB "JoinKeeperModel" 113 y_M_endFactor b_M_endFactor 3 none 1 := ⟨xm3 (i := 183) rfl rfl, xm1 (i := 8) rfl rfl, xm3 (i := 186) rfl rfl, by decide +kernel, by decide⟩
theorem k_M_116 : xcB "JoinKeeperModel" 116 y_M_endTerm b_M_endTerm 3 none 1 := ⟨xm3 (i := 198) rfl rfl, xm1 (i := 8) rfl rfl, xm3 (i := 201) rfl rfl, by decide +kernel, by decide⟩
theorem k_M_122 : xcB "JoinKeeperModel" 122 y_M_shorter b_M_shorter 2 ((some .int)) 1 := ⟨xm3 (i := 206) rfl rfl, xm1 (i := 8) rfl rfl, xm3 (i := 209) rfl rfl, by decide +kernel, by decide⟩
theorem k_M_128 : xcB "JoinKeeperModel" 128 y_M_readChain b_M_readChain 4 ((some .int)) 0 := ⟨xm3 (i := 156) rfl rfl, xm1 (i := 8) rfl rfl, xm3 (i := 159) rfl rfl, by decide +kernel, by decide⟩
theorem k_M_132 : xcB "JoinKeeperModel" 132 y_M_readExpression b_M_readExpression 8 ((some .int)) 1 := ⟨xm3 (i := 164) rfl rfl, xm1 (i := 8) rfl rfl, xm3 (i := 167) rfl rfl, by decide +kernel, by decide⟩
theorem k_M_135 : xcB "JoinKeeperModel" 135 y_M_readConditions b_M_readConditions 4 ((some .int)) 1 := ⟨xm3 (i := 202) rfl rfl, xm1 (i := 8) rfl rfl, xm3 (i := 205) rfl rfl, by decide +kernel, by decide⟩
theorem k_M_138 : xcB "JoinKeeperModel" 138 y_M_in b_M_in 2 ((some .boolean)) 2 := ⟨xm3 (i := 131) rfl rfl, xm1 (i := 8) rfl rfl, xm3 (i := 133) rfl rfl, by decide +kernel, by decide⟩
theorem k_M_142 : xcB "JoinKeeperModel" 142 y_M_cell b_M_cell 3 ((some .int)) 3 := ⟨xm3 (i := 128) rfl rfl, xm1 (i := 8) rfl rfl, xm3 (i := 130) rfl rfl, by decide +kernel, by decide⟩
theorem k_M_153 : xcB "JoinKeeperModel" 153 y_M_read b_M_read 2 ((some .int)) 0 := ⟨xm3 (i := 152) rfl rfl, xm1 (i := 8) rfl rfl, xm3 (i := 155) rfl rfl, by decide +kernel, by decide⟩
theorem k_M_156 : xcB "JoinKeeperModel" 156 y_M_of b_M_of 2 ((some .int)) 2 := ⟨xm3 (i := 227) rfl rfl, xm1 (i := 8) rfl rfl, xm3 (i := 229) rfl rfl, by decide +kernel, by decide⟩
theorem k_M_160 : xcB "JoinKeeperModel" 160 y_M_power b_M_power 2 ((some .int)) 2 := ⟨xm4 (i := 2) rfl rfl, xm1 (i := 8) rfl rfl, xm4 (i := 4) rfl rfl, by decide +kernel, by decide⟩
theorem k_M_163 : xcB "JoinKeeperModel" 163 y_M_meets b_M_meets 9 ((some .boolean)) 2 := ⟨xm3 (i := 230) rfl rfl, xm1 (i := 8) rfl rfl, xm3 (i := 233) rfl rfl, by decide +kernel, by decide⟩
theorem k_M_166 : xcB "JoinKeeperModel" 166 y_M_weight b_M_weight 11 ((some .long)) 2 := ⟨xm3 (i := 234) rfl rfl, xm1 (i := 8) rfl rfl, xm3 (i := 237) rfl rfl, by decide +kernel, by decide⟩
theorem k_M_170 : xcB "JoinKeeperModel" 170 y_M_value b_M_value 8 ((some .long)) 2 := ⟨xm3 (i := 238) rfl rfl, xm1 (i := 8) rfl rfl, xm4 (i := 1) rfl rfl, by decide +kernel, by decide⟩
theorem k_M_175 : xcB "JoinKeeperModel" 175 y_M_collect b_M_collect 10 ((some .long)) 3 := ⟨xm3 (i := 223) rfl rfl, xm1 (i := 8) rfl rfl, xm3 (i := 226) rfl rfl, by decide +kernel, by decide⟩
theorem k_K_9 : xcN "JoinKeeper" 9 y_R_init "JoinKeeper" b_R_init 1 none 0 := ⟨by decide +kernel, xm1 (i := 2) rfl rfl, xm1 (i := 23) rfl rfl, by decide +kernel, by decide⟩
theorem k_K_18 : xcN "JoinKeeper" 18 y_T_init "JoinKeeper" b_T_init 1 none 0 := ⟨by decide +kernel, xm1 (i := 3) rfl rfl, xm1 (i := 43) rfl rfl, by decide +kernel, by decide⟩
theorem k_K_25 : xcN "JoinKeeper" 25 y_G_init "JoinKeeper" b_G_init 1 none 0 := ⟨by decide +kernel, xm1 (i := 4) rfl rfl, xm1 (i := 57) rfl rfl, by decide +kernel, by decide⟩
theorem k_E_23 : xcN "JoinKeeper$Evaluator" 23 y_P_init "JoinKeeper" b_P_init 1 none 0 := ⟨by decide +kernel, xm1 (i := 6) rfl rfl, xm1 (i := 101) rfl rfl, by decide +kernel, by decide⟩
theorem k_K_43 : xcN "JoinKeeper" 43 y_Q_init "JoinKeeper" b_Q_init 1 none 0 := ⟨by decide +kernel, xm1 (i := 7) rfl rfl, xm1 (i := 128) rfl rfl, by decide +kernel, by decide⟩
theorem k_Q_17 : xcN "JoinKeeper$Question" 17 y_P_init "JoinKeeper" b_P_init 1 none 0 := ⟨by decide +kernel, xm1 (i := 6) rfl rfl, xm1 (i := 101) rfl rfl, by decide +kernel, by decide⟩
