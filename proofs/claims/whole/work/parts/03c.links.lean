theorem lw_in_by {ws : List Cond} (ps : List Nat) (hp : ws = ps.filterMap (fun i => tables_1[i]?)) (h : ws.all goodWord = true) : ∀ w ∈ ws, w ∈ lw_good := by
  intro w hw
  have h1 := List.all_eq_true.mp h w hw
  rw [hp] at hw
  obtain ⟨i, -, hi⟩ := List.mem_filterMap.mp hw
  exact lw_good_in (List.mem_append_right _ (by first | exact List.mem_of_getElem? hi | exact List.getElem?_mem hi)) h1
theorem hg_0 : ∀ w ∈ u_ws RX0 TX0 5, w ∈ lw_good := lw_in_by [230, 232, 234, 236, 238] (by decide +kernel) (by decide +kernel)
theorem hg_1 : ∀ w ∈ u_ws RX1 TX1 19, w ∈ lw_good := lw_in_by [95, 97, 99, 101, 103, 105, 107, 109, 111, 113, 115, 117, 119, 121, 123, 125, 127, 129, 131] (by decide +kernel) (by decide +kernel)
theorem hg_2 : ∀ w ∈ u_ws RX2 TX2 4, w ∈ lw_good := lw_in_by [188, 190, 192, 194] (by decide +kernel) (by decide +kernel)
theorem hg_3 : ∀ w ∈ u_ws RX3 TX3 3, w ∈ lw_good := lw_in_by [152, 154, 156] (by decide +kernel) (by decide +kernel)
theorem hg_4 : ∀ w ∈ u_ws RX4 TX4 4, w ∈ lw_good := lw_in_by [208, 210, 212, 214] (by decide +kernel) (by decide +kernel)
theorem hg_5 : ∀ w ∈ u_ws RX5 TX5 2, w ∈ lw_good := lw_in_by [169, 171] (by decide +kernel) (by decide +kernel)
theorem hg_6 : ∀ w ∈ u_ws RX6 TX6 3, w ∈ lw_good := lw_in_by [41, 43, 45] (by decide +kernel) (by decide +kernel)
theorem hg_7 : ∀ w ∈ u_ws RX7 TX7 14, w ∈ lw_good := lw_in_by [255, 257, 259, 261, 263, 265, 267, 269, 271, 273, 275, 277, 279, 281] (by decide +kernel) (by decide +kernel)
theorem hg_8 : ∀ w ∈ u_ws RX8 TX8 64, w ∈ lw_good := lw_in_by [956, 958, 960, 962, 964, 966, 968, 970, 972, 974, 976, 978, 980, 982, 984, 986, 988, 990, 992, 994, 996, 998, 1000, 1002, 1004, 1006, 1008, 1010, 1012, 1014, 1016, 1018, 1020, 1022, 1024, 1026, 1028, 1030, 1032, 1034, 1036, 1038, 1040, 1042, 1044, 1046, 1048, 1050, 1052, 1054, 1056, 1058, 1060, 1062, 1064, 1066, 1068, 1070, 1072, 1074, 1076, 1078, 1080, 1082] (by decide +kernel) (by decide +kernel)
theorem cw_J7_fill_53178 : Cond.code yJ7_fill_53178 cJ7_fill_53178 4 none ∈ lw_tbl := (List.mem_append_right _ (List.mem_of_getElem? (i := 36) (by decide +kernel)))
theorem ok_J7_fill_53178 : okMH yJ7_fill_53178 2 := ⟨by decide +kernel, by decide +kernel, by decide +kernel⟩
theorem im_J7_fill_53178 : Cond.static yJ7_fill_53178 ∈ lw_tbl := (List.mem_append_right _ (List.mem_of_getElem? (i := 35) (by decide +kernel)))
theorem ini_RJ7 : Cond.initialized RJ7 ∈ lw_tbl := (List.mem_append_right _ (List.mem_of_getElem? (i := 3) (by decide +kernel)))
theorem ck_X6_23 : CKS RX6 23 yJ7_fill_53178 cJ7_fill_53178 4 none 2 := ckS_of (List.mem_append_right _ (List.mem_of_getElem? (i := 34) (by decide +kernel))) im_J7_fill_53178 ini_RJ7 cw_J7_fill_53178 ok_J7_fill_53178
theorem gf_X6_9 : GF RX6 9 6 0 := gf_of (C := RX6) (T := TX6) (N := 3) rfl hg_6 (by decide) (nm := "held") (ds := "[I") (ow := "ClapTogether$Shelves") ⟨rfl, rfl, rfl⟩ (List.mem_append_right _ (List.mem_of_getElem? (i := 37) (by decide +kernel)))
theorem gf_X7_124 : GF RX7 124 6 0 := gfN_of (C := RX6) (T := TX6) (N := 3) (host := "ClapTogether") rfl hg_6 (by decide) (nm := "held") (ds := "[I") (ow := "ClapTogether$Shelves") ⟨rfl, rfl, rfl⟩ (List.mem_append_right _ (List.mem_of_getElem? (i := 38) (by decide +kernel)))
theorem gf_X6_15 : GF RX6 15 6 1 := gf_of (C := RX6) (T := TX6) (N := 3) rfl hg_6 (by decide) (nm := "sizes") (ds := "[I") (ow := "ClapTogether$Shelves") ⟨rfl, rfl, rfl⟩ (List.mem_append_right _ (List.mem_of_getElem? (i := 39) (by decide +kernel)))
theorem gf_X6_20 : GF RX6 20 6 2 := gf_of (C := RX6) (T := TX6) (N := 3) rfl hg_6 (by decide) (nm := "cells") (ds := "[[J") (ow := "ClapTogether$Shelves") ⟨rfl, rfl, rfl⟩ (List.mem_append_right _ (List.mem_of_getElem? (i := 40) (by decide +kernel)))
theorem gf_X1_11 : GF RX1 11 1 0 := gf_of (C := RX1) (T := TX1) (N := 19) rfl hg_1 (by decide) (nm := "traits") (ds := "[[I") (ow := "ClapTogether$Crowd") ⟨rfl, rfl, rfl⟩ (List.mem_append_right _ (List.mem_of_getElem? (i := 58) (by decide +kernel)))
theorem gf_X7_159 : GF RX7 159 1 0 := gfN_of (C := RX1) (T := TX1) (N := 19) (host := "ClapTogether") rfl hg_1 (by decide) (nm := "traits") (ds := "[[I") (ow := "ClapTogether$Crowd") ⟨rfl, rfl, rfl⟩ (List.mem_append_right _ (List.mem_of_getElem? (i := 59) (by decide +kernel)))
theorem gf_X1_16 : GF RX1 16 1 1 := gf_of (C := RX1) (T := TX1) (N := 19) rfl hg_1 (by decide) (nm := "kind") (ds := "[I") (ow := "ClapTogether$Crowd") ⟨rfl, rfl, rfl⟩ (List.mem_append_right _ (List.mem_of_getElem? (i := 60) (by decide +kernel)))
theorem gf_X0_28 : GF RX0 28 1 1 := gfN_of (C := RX1) (T := TX1) (N := 19) (host := "ClapTogether") rfl hg_1 (by decide) (nm := "kind") (ds := "[I") (ow := "ClapTogether$Crowd") ⟨rfl, rfl, rfl⟩ (List.mem_append_right _ (List.mem_of_getElem? (i := 61) (by decide +kernel)))
theorem gf_X7_130 : GF RX7 130 1 1 := gfN_of (C := RX1) (T := TX1) (N := 19) (host := "ClapTogether") rfl hg_1 (by decide) (nm := "kind") (ds := "[I") (ow := "ClapTogether$Crowd") ⟨rfl, rfl, rfl⟩ (List.mem_append_right _ (List.mem_of_getElem? (i := 62) (by decide +kernel)))
theorem gf_X1_20 : GF RX1 20 1 2 := gf_of (C := RX1) (T := TX1) (N := 19) rfl hg_1 (by decide) (nm := "seat") (ds := "[I") (ow := "ClapTogether$Crowd") ⟨rfl, rfl, rfl⟩ (List.mem_append_right _ (List.mem_of_getElem? (i := 63) (by decide +kernel)))
theorem gf_X7_166 : GF RX7 166 1 2 := gfN_of (C := RX1) (T := TX1) (N := 19) (host := "ClapTogether") rfl hg_1 (by decide) (nm := "seat") (ds := "[I") (ow := "ClapTogether$Crowd") ⟨rfl, rfl, rfl⟩ (List.mem_append_right _ (List.mem_of_getElem? (i := 64) (by decide +kernel)))
theorem gf_X1_23 : GF RX1 23 1 3 := gf_of (C := RX1) (T := TX1) (N := 19) rfl hg_1 (by decide) (nm := "likes") (ds := "[I") (ow := "ClapTogether$Crowd") ⟨rfl, rfl, rfl⟩ (List.mem_append_right _ (List.mem_of_getElem? (i := 65) (by decide +kernel)))
theorem gf_X1_26 : GF RX1 26 1 4 := gf_of (C := RX1) (T := TX1) (N := 19) rfl hg_1 (by decide) (nm := "pace") (ds := "[I") (ow := "ClapTogether$Crowd") ⟨rfl, rfl, rfl⟩ (List.mem_append_right _ (List.mem_of_getElem? (i := 66) (by decide +kernel)))
theorem gf_X0_32 : GF RX0 32 1 4 := gfN_of (C := RX1) (T := TX1) (N := 19) (host := "ClapTogether") rfl hg_1 (by decide) (nm := "pace") (ds := "[I") (ow := "ClapTogether$Crowd") ⟨rfl, rfl, rfl⟩ (List.mem_append_right _ (List.mem_of_getElem? (i := 67) (by decide +kernel)))
theorem gf_X1_29 : GF RX1 29 1 5 := gf_of (C := RX1) (T := TX1) (N := 19) rfl hg_1 (by decide) (nm := "at") (ds := "[I") (ow := "ClapTogether$Crowd") ⟨rfl, rfl, rfl⟩ (List.mem_append_right _ (List.mem_of_getElem? (i := 68) (by decide +kernel)))
theorem gf_X1_32 : GF RX1 32 1 6 := gf_of (C := RX1) (T := TX1) (N := 19) rfl hg_1 (by decide) (nm := "phase") (ds := "[I") (ow := "ClapTogether$Crowd") ⟨rfl, rfl, rfl⟩ (List.mem_append_right _ (List.mem_of_getElem? (i := 69) (by decide +kernel)))
theorem gf_X7_172 : GF RX7 172 1 6 := gfN_of (C := RX1) (T := TX1) (N := 19) (host := "ClapTogether") rfl hg_1 (by decide) (nm := "phase") (ds := "[I") (ow := "ClapTogether$Crowd") ⟨rfl, rfl, rfl⟩ (List.mem_append_right _ (List.mem_of_getElem? (i := 70) (by decide +kernel)))
theorem gf_X1_35 : GF RX1 35 1 7 := gf_of (C := RX1) (T := TX1) (N := 19) rfl hg_1 (by decide) (nm := "mood") (ds := "[I") (ow := "ClapTogether$Crowd") ⟨rfl, rfl, rfl⟩ (List.mem_append_right _ (List.mem_of_getElem? (i := 71) (by decide +kernel)))
theorem gf_X2_45 : GF RX2 45 1 7 := gfN_of (C := RX1) (T := TX1) (N := 19) (host := "ClapTogether") rfl hg_1 (by decide) (nm := "mood") (ds := "[I") (ow := "ClapTogether$Crowd") ⟨rfl, rfl, rfl⟩ (List.mem_append_right _ (List.mem_of_getElem? (i := 72) (by decide +kernel)))
theorem gf_X7_221 : GF RX7 221 1 7 := gfN_of (C := RX1) (T := TX1) (N := 19) (host := "ClapTogether") rfl hg_1 (by decide) (nm := "mood") (ds := "[I") (ow := "ClapTogether$Crowd") ⟨rfl, rfl, rfl⟩ (List.mem_append_right _ (List.mem_of_getElem? (i := 73) (by decide +kernel)))
theorem gf_X1_38 : GF RX1 38 1 8 := gf_of (C := RX1) (T := TX1) (N := 19) rfl hg_1 (by decide) (nm := "ticks") (ds := "[I") (ow := "ClapTogether$Crowd") ⟨rfl, rfl, rfl⟩ (List.mem_append_right _ (List.mem_of_getElem? (i := 74) (by decide +kernel)))
theorem gf_X1_41 : GF RX1 41 1 9 := gf_of (C := RX1) (T := TX1) (N := 19) rfl hg_1 (by decide) (nm := "stands") (ds := "[I") (ow := "ClapTogether$Crowd") ⟨rfl, rfl, rfl⟩ (List.mem_append_right _ (List.mem_of_getElem? (i := 75) (by decide +kernel)))
theorem gf_X1_44 : GF RX1 44 1 10 := gf_of (C := RX1) (T := TX1) (N := 19) rfl hg_1 (by decide) (nm := "glove") (ds := "[I") (ow := "ClapTogether$Crowd") ⟨rfl, rfl, rfl⟩ (List.mem_append_right _ (List.mem_of_getElem? (i := 76) (by decide +kernel)))
theorem gf_X7_178 : GF RX7 178 1 10 := gfN_of (C := RX1) (T := TX1) (N := 19) (host := "ClapTogether") rfl hg_1 (by decide) (nm := "glove") (ds := "[I") (ow := "ClapTogether$Crowd") ⟨rfl, rfl, rfl⟩ (List.mem_append_right _ (List.mem_of_getElem? (i := 77) (by decide +kernel)))
theorem gf_X1_47 : GF RX1 47 1 11 := gf_of (C := RX1) (T := TX1) (N := 19) rfl hg_1 (by decide) (nm := "count") (ds := "I") (ow := "ClapTogether$Crowd") ⟨rfl, rfl, rfl⟩ (List.mem_append_right _ (List.mem_of_getElem? (i := 78) (by decide +kernel)))
theorem pf_X1_47 : PF RX1 47 1 11 .int := pf_of (own := RX1) (index := 47) (j := 11) (C := RX1) (T := TX1) (N := 19) rfl hg_1 (by decide) tyX1 tyX1_ok nmX1 (nm := "count") (ds := "I") (ow := "ClapTogether$Crowd") ⟨rfl, rfl, rfl, rfl⟩ rfl (List.mem_append_right _ (List.mem_of_getElem? (i := 78) (by decide +kernel)))
theorem gf_X2_42 : GF RX2 42 1 11 := gfN_of (C := RX1) (T := TX1) (N := 19) (host := "ClapTogether") rfl hg_1 (by decide) (nm := "count") (ds := "I") (ow := "ClapTogether$Crowd") ⟨rfl, rfl, rfl⟩ (List.mem_append_right _ (List.mem_of_getElem? (i := 79) (by decide +kernel)))
theorem pf_X2_42 : PF RX2 42 1 11 .int := pfN_of (own := RX2) (index := 42) (j := 11) (C := RX1) (T := TX1) (N := 19) (host := "ClapTogether") rfl hg_1 (by decide) tyX1 tyX1_ok nmX1 (nm := "count") (ds := "I") (ow := "ClapTogether$Crowd") ⟨rfl, rfl, rfl, rfl⟩ rfl (List.mem_append_right _ (List.mem_of_getElem? (i := 79) (by decide +kernel)))
theorem gf_X7_146 : GF RX7 146 1 11 := gfN_of (C := RX1) (T := TX1) (N := 19) (host := "ClapTogether") rfl hg_1 (by decide) (nm := "count") (ds := "I") (ow := "ClapTogether$Crowd") ⟨rfl, rfl, rfl⟩ (List.mem_append_right _ (List.mem_of_getElem? (i := 80) (by decide +kernel)))
theorem pf_X7_146 : PF RX7 146 1 11 .int := pfN_of (own := RX7) (index := 146) (j := 11) (C := RX1) (T := TX1) (N := 19) (host := "ClapTogether") rfl hg_1 (by decide) tyX1 tyX1_ok nmX1 (nm := "count") (ds := "I") (ow := "ClapTogether$Crowd") ⟨rfl, rfl, rfl, rfl⟩ rfl (List.mem_append_right _ (List.mem_of_getElem? (i := 80) (by decide +kernel)))
theorem gf_X1_51 : GF RX1 51 1 12 := gf_of (C := RX1) (T := TX1) (N := 19) rfl hg_1 (by decide) (nm := "now") (ds := "I") (ow := "ClapTogether$Crowd") ⟨rfl, rfl, rfl⟩ (List.mem_append_right _ (List.mem_of_getElem? (i := 81) (by decide +kernel)))
theorem pf_X1_51 : PF RX1 51 1 12 .int := pf_of (own := RX1) (index := 51) (j := 12) (C := RX1) (T := TX1) (N := 19) rfl hg_1 (by decide) tyX1 tyX1_ok nmX1 (nm := "now") (ds := "I") (ow := "ClapTogether$Crowd") ⟨rfl, rfl, rfl, rfl⟩ rfl (List.mem_append_right _ (List.mem_of_getElem? (i := 81) (by decide +kernel)))
theorem gf_X2_55 : GF RX2 55 1 12 := gfN_of (C := RX1) (T := TX1) (N := 19) (host := "ClapTogether") rfl hg_1 (by decide) (nm := "now") (ds := "I") (ow := "ClapTogether$Crowd") ⟨rfl, rfl, rfl⟩ (List.mem_append_right _ (List.mem_of_getElem? (i := 82) (by decide +kernel)))
theorem pf_X2_55 : PF RX2 55 1 12 .int := pfN_of (own := RX2) (index := 55) (j := 12) (C := RX1) (T := TX1) (N := 19) (host := "ClapTogether") rfl hg_1 (by decide) tyX1 tyX1_ok nmX1 (nm := "now") (ds := "I") (ow := "ClapTogether$Crowd") ⟨rfl, rfl, rfl, rfl⟩ rfl (List.mem_append_right _ (List.mem_of_getElem? (i := 82) (by decide +kernel)))
theorem gf_X7_207 : GF RX7 207 1 12 := gfN_of (C := RX1) (T := TX1) (N := 19) (host := "ClapTogether") rfl hg_1 (by decide) (nm := "now") (ds := "I") (ow := "ClapTogether$Crowd") ⟨rfl, rfl, rfl⟩ (List.mem_append_right _ (List.mem_of_getElem? (i := 83) (by decide +kernel)))
theorem pf_X7_207 : PF RX7 207 1 12 .int := pfN_of (own := RX7) (index := 207) (j := 12) (C := RX1) (T := TX1) (N := 19) (host := "ClapTogether") rfl hg_1 (by decide) tyX1 tyX1_ok nmX1 (nm := "now") (ds := "I") (ow := "ClapTogether$Crowd") ⟨rfl, rfl, rfl, rfl⟩ rfl (List.mem_append_right _ (List.mem_of_getElem? (i := 83) (by decide +kernel)))
theorem gf_X1_54 : GF RX1 54 1 13 := gf_of (C := RX1) (T := TX1) (N := 19) rfl hg_1 (by decide) (nm := "seed") (ds := "I") (ow := "ClapTogether$Crowd") ⟨rfl, rfl, rfl⟩ (List.mem_append_right _ (List.mem_of_getElem? (i := 84) (by decide +kernel)))
theorem pf_X1_54 : PF RX1 54 1 13 .int := pf_of (own := RX1) (index := 54) (j := 13) (C := RX1) (T := TX1) (N := 19) rfl hg_1 (by decide) tyX1 tyX1_ok nmX1 (nm := "seed") (ds := "I") (ow := "ClapTogether$Crowd") ⟨rfl, rfl, rfl, rfl⟩ rfl (List.mem_append_right _ (List.mem_of_getElem? (i := 84) (by decide +kernel)))
theorem gf_X7_204 : GF RX7 204 1 13 := gfN_of (C := RX1) (T := TX1) (N := 19) (host := "ClapTogether") rfl hg_1 (by decide) (nm := "seed") (ds := "I") (ow := "ClapTogether$Crowd") ⟨rfl, rfl, rfl⟩ (List.mem_append_right _ (List.mem_of_getElem? (i := 85) (by decide +kernel)))
theorem pf_X7_204 : PF RX7 204 1 13 .int := pfN_of (own := RX7) (index := 204) (j := 13) (C := RX1) (T := TX1) (N := 19) (host := "ClapTogether") rfl hg_1 (by decide) tyX1 tyX1_ok nmX1 (nm := "seed") (ds := "I") (ow := "ClapTogether$Crowd") ⟨rfl, rfl, rfl, rfl⟩ rfl (List.mem_append_right _ (List.mem_of_getElem? (i := 85) (by decide +kernel)))
theorem gf_X1_57 : GF RX1 57 1 14 := gf_of (C := RX1) (T := TX1) (N := 19) rfl hg_1 (by decide) (nm := "lastHits") (ds := "I") (ow := "ClapTogether$Crowd") ⟨rfl, rfl, rfl⟩ (List.mem_append_right _ (List.mem_of_getElem? (i := 86) (by decide +kernel)))
theorem pf_X1_57 : PF RX1 57 1 14 .int := pf_of (own := RX1) (index := 57) (j := 14) (C := RX1) (T := TX1) (N := 19) rfl hg_1 (by decide) tyX1 tyX1_ok nmX1 (nm := "lastHits") (ds := "I") (ow := "ClapTogether$Crowd") ⟨rfl, rfl, rfl, rfl⟩ rfl (List.mem_append_right _ (List.mem_of_getElem? (i := 86) (by decide +kernel)))
theorem gf_X7_241 : GF RX7 241 1 14 := gfN_of (C := RX1) (T := TX1) (N := 19) (host := "ClapTogether") rfl hg_1 (by decide) (nm := "lastHits") (ds := "I") (ow := "ClapTogether$Crowd") ⟨rfl, rfl, rfl⟩ (List.mem_append_right _ (List.mem_of_getElem? (i := 87) (by decide +kernel)))
theorem pf_X7_241 : PF RX7 241 1 14 .int := pfN_of (own := RX7) (index := 241) (j := 14) (C := RX1) (T := TX1) (N := 19) (host := "ClapTogether") rfl hg_1 (by decide) tyX1 tyX1_ok nmX1 (nm := "lastHits") (ds := "I") (ow := "ClapTogether$Crowd") ⟨rfl, rfl, rfl, rfl⟩ rfl (List.mem_append_right _ (List.mem_of_getElem? (i := 87) (by decide +kernel)))
theorem gf_X1_60 : GF RX1 60 1 15 := gf_of (C := RX1) (T := TX1) (N := 19) rfl hg_1 (by decide) (nm := "lastClapping") (ds := "I") (ow := "ClapTogether$Crowd") ⟨rfl, rfl, rfl⟩ (List.mem_append_right _ (List.mem_of_getElem? (i := 88) (by decide +kernel)))
theorem pf_X1_60 : PF RX1 60 1 15 .int := pf_of (own := RX1) (index := 60) (j := 15) (C := RX1) (T := TX1) (N := 19) rfl hg_1 (by decide) tyX1 tyX1_ok nmX1 (nm := "lastClapping") (ds := "I") (ow := "ClapTogether$Crowd") ⟨rfl, rfl, rfl, rfl⟩ rfl (List.mem_append_right _ (List.mem_of_getElem? (i := 88) (by decide +kernel)))
theorem gf_X7_249 : GF RX7 249 1 15 := gfN_of (C := RX1) (T := TX1) (N := 19) (host := "ClapTogether") rfl hg_1 (by decide) (nm := "lastClapping") (ds := "I") (ow := "ClapTogether$Crowd") ⟨rfl, rfl, rfl⟩ (List.mem_append_right _ (List.mem_of_getElem? (i := 89) (by decide +kernel)))
theorem pf_X7_249 : PF RX7 249 1 15 .int := pfN_of (own := RX7) (index := 249) (j := 15) (C := RX1) (T := TX1) (N := 19) (host := "ClapTogether") rfl hg_1 (by decide) tyX1 tyX1_ok nmX1 (nm := "lastClapping") (ds := "I") (ow := "ClapTogether$Crowd") ⟨rfl, rfl, rfl, rfl⟩ rfl (List.mem_append_right _ (List.mem_of_getElem? (i := 89) (by decide +kernel)))
theorem gf_X1_63 : GF RX1 63 1 16 := gf_of (C := RX1) (T := TX1) (N := 19) rfl hg_1 (by decide) (nm := "loud") (ds := "[I") (ow := "ClapTogether$Crowd") ⟨rfl, rfl, rfl⟩ (List.mem_append_right _ (List.mem_of_getElem? (i := 90) (by decide +kernel)))
theorem gf_X7_235 : GF RX7 235 1 16 := gfN_of (C := RX1) (T := TX1) (N := 19) (host := "ClapTogether") rfl hg_1 (by decide) (nm := "loud") (ds := "[I") (ow := "ClapTogether$Crowd") ⟨rfl, rfl, rfl⟩ (List.mem_append_right _ (List.mem_of_getElem? (i := 91) (by decide +kernel)))
theorem gf_X1_66 : GF RX1 66 1 17 := gf_of (C := RX1) (T := TX1) (N := 19) rfl hg_1 (by decide) (nm := "close") (ds := "[I") (ow := "ClapTogether$Crowd") ⟨rfl, rfl, rfl⟩ (List.mem_append_right _ (List.mem_of_getElem? (i := 92) (by decide +kernel)))
theorem gf_X7_238 : GF RX7 238 1 17 := gfN_of (C := RX1) (T := TX1) (N := 19) (host := "ClapTogether") rfl hg_1 (by decide) (nm := "close") (ds := "[I") (ow := "ClapTogether$Crowd") ⟨rfl, rfl, rfl⟩ (List.mem_append_right _ (List.mem_of_getElem? (i := 93) (by decide +kernel)))
theorem gf_X1_69 : GF RX1 69 1 18 := gf_of (C := RX1) (T := TX1) (N := 19) rfl hg_1 (by decide) (nm := "turns") (ds := "[Z") (ow := "ClapTogether$Crowd") ⟨rfl, rfl, rfl⟩ (List.mem_append_right _ (List.mem_of_getElem? (i := 94) (by decide +kernel)))
theorem gf_X3_11 : GF RX3 11 3 0 := gf_of (C := RX3) (T := TX3) (N := 3) rfl hg_3 (by decide) (nm := "numbers") (ds := "[[I") (ow := "ClapTogether$LawBook") ⟨rfl, rfl, rfl⟩ (List.mem_append_right _ (List.mem_of_getElem? (i := 147) (by decide +kernel)))
theorem gf_X3_16 : GF RX3 16 3 1 := gf_of (C := RX3) (T := TX3) (N := 3) rfl hg_3 (by decide) (nm := "count") (ds := "I") (ow := "ClapTogether$LawBook") ⟨rfl, rfl, rfl⟩ (List.mem_append_right _ (List.mem_of_getElem? (i := 148) (by decide +kernel)))
theorem pf_X3_16 : PF RX3 16 3 1 .int := pf_of (own := RX3) (index := 16) (j := 1) (C := RX3) (T := TX3) (N := 3) rfl hg_3 (by decide) tyX3 tyX3_ok nmX3 (nm := "count") (ds := "I") (ow := "ClapTogether$LawBook") ⟨rfl, rfl, rfl, rfl⟩ rfl (List.mem_append_right _ (List.mem_of_getElem? (i := 148) (by decide +kernel)))
theorem gf_X7_185 : GF RX7 185 3 1 := gfN_of (C := RX3) (T := TX3) (N := 3) (host := "ClapTogether") rfl hg_3 (by decide) (nm := "count") (ds := "I") (ow := "ClapTogether$LawBook") ⟨rfl, rfl, rfl⟩ (List.mem_append_right _ (List.mem_of_getElem? (i := 149) (by decide +kernel)))
theorem pf_X7_185 : PF RX7 185 3 1 .int := pfN_of (own := RX7) (index := 185) (j := 1) (C := RX3) (T := TX3) (N := 3) (host := "ClapTogether") rfl hg_3 (by decide) tyX3 tyX3_ok nmX3 (nm := "count") (ds := "I") (ow := "ClapTogether$LawBook") ⟨rfl, rfl, rfl, rfl⟩ rfl (List.mem_append_right _ (List.mem_of_getElem? (i := 149) (by decide +kernel)))
theorem gf_X3_20 : GF RX3 20 3 2 := gf_of (C := RX3) (T := TX3) (N := 3) rfl hg_3 (by decide) (nm := "inForce") (ds := "I") (ow := "ClapTogether$LawBook") ⟨rfl, rfl, rfl⟩ (List.mem_append_right _ (List.mem_of_getElem? (i := 150) (by decide +kernel)))
theorem pf_X3_20 : PF RX3 20 3 2 .int := pf_of (own := RX3) (index := 20) (j := 2) (C := RX3) (T := TX3) (N := 3) rfl hg_3 (by decide) tyX3 tyX3_ok nmX3 (nm := "inForce") (ds := "I") (ow := "ClapTogether$LawBook") ⟨rfl, rfl, rfl, rfl⟩ rfl (List.mem_append_right _ (List.mem_of_getElem? (i := 150) (by decide +kernel)))
theorem gf_X7_201 : GF RX7 201 3 2 := gfN_of (C := RX3) (T := TX3) (N := 3) (host := "ClapTogether") rfl hg_3 (by decide) (nm := "inForce") (ds := "I") (ow := "ClapTogether$LawBook") ⟨rfl, rfl, rfl⟩ (List.mem_append_right _ (List.mem_of_getElem? (i := 151) (by decide +kernel)))
theorem pf_X7_201 : PF RX7 201 3 2 .int := pfN_of (own := RX7) (index := 201) (j := 2) (C := RX3) (T := TX3) (N := 3) (host := "ClapTogether") rfl hg_3 (by decide) tyX3 tyX3_ok nmX3 (nm := "inForce") (ds := "I") (ow := "ClapTogether$LawBook") ⟨rfl, rfl, rfl, rfl⟩ rfl (List.mem_append_right _ (List.mem_of_getElem? (i := 151) (by decide +kernel)))
theorem gf_X5_9 : GF RX5 9 5 0 := gf_of (C := RX5) (T := TX5) (N := 2) rfl hg_5 (by decide) (nm := "seats") (ds := "[I") (ow := "ClapTogether$Microphones") ⟨rfl, rfl, rfl⟩ (List.mem_append_right _ (List.mem_of_getElem? (i := 165) (by decide +kernel)))
theorem gf_X7_302 : GF RX7 302 5 0 := gfN_of (C := RX5) (T := TX5) (N := 2) (host := "ClapTogether") rfl hg_5 (by decide) (nm := "seats") (ds := "[I") (ow := "ClapTogether$Microphones") ⟨rfl, rfl, rfl⟩ (List.mem_append_right _ (List.mem_of_getElem? (i := 166) (by decide +kernel)))
theorem gf_X5_15 : GF RX5 15 5 1 := gf_of (C := RX5) (T := TX5) (N := 2) rfl hg_5 (by decide) (nm := "count") (ds := "I") (ow := "ClapTogether$Microphones") ⟨rfl, rfl, rfl⟩ (List.mem_append_right _ (List.mem_of_getElem? (i := 167) (by decide +kernel)))
theorem pf_X5_15 : PF RX5 15 5 1 .int := pf_of (own := RX5) (index := 15) (j := 1) (C := RX5) (T := TX5) (N := 2) rfl hg_5 (by decide) tyX5 tyX5_ok nmX5 (nm := "count") (ds := "I") (ow := "ClapTogether$Microphones") ⟨rfl, rfl, rfl, rfl⟩ rfl (List.mem_append_right _ (List.mem_of_getElem? (i := 167) (by decide +kernel)))
theorem gf_X7_298 : GF RX7 298 5 1 := gfN_of (C := RX5) (T := TX5) (N := 2) (host := "ClapTogether") rfl hg_5 (by decide) (nm := "count") (ds := "I") (ow := "ClapTogether$Microphones") ⟨rfl, rfl, rfl⟩ (List.mem_append_right _ (List.mem_of_getElem? (i := 168) (by decide +kernel)))
theorem pf_X7_298 : PF RX7 298 5 1 .int := pfN_of (own := RX7) (index := 298) (j := 1) (C := RX5) (T := TX5) (N := 2) (host := "ClapTogether") rfl hg_5 (by decide) tyX5 tyX5_ok nmX5 (nm := "count") (ds := "I") (ow := "ClapTogether$Microphones") ⟨rfl, rfl, rfl, rfl⟩ rfl (List.mem_append_right _ (List.mem_of_getElem? (i := 168) (by decide +kernel)))
theorem gf_X2_12 : GF RX2 12 2 0 := gf_of (C := RX2) (T := TX2) (N := 4) rfl hg_2 (by decide) (nm := "crowd") (ds := "LClapTogether$Crowd;") (ow := "ClapTogether$Evening") ⟨rfl, rfl, rfl⟩ (List.mem_append_right _ (List.mem_of_getElem? (i := 182) (by decide +kernel)))
theorem gf_X7_272 : GF RX7 272 2 0 := gfN_of (C := RX2) (T := TX2) (N := 4) (host := "ClapTogether") rfl hg_2 (by decide) (nm := "crowd") (ds := "LClapTogether$Crowd;") (ow := "ClapTogether$Evening") ⟨rfl, rfl, rfl⟩ (List.mem_append_right _ (List.mem_of_getElem? (i := 183) (by decide +kernel)))
theorem gf_X2_18 : GF RX2 18 2 1 := gf_of (C := RX2) (T := TX2) (N := 4) rfl hg_2 (by decide) (nm := "tallies") (ds := "[I") (ow := "ClapTogether$Evening") ⟨rfl, rfl, rfl⟩ (List.mem_append_right _ (List.mem_of_getElem? (i := 184) (by decide +kernel)))
theorem gf_X7_265 : GF RX7 265 2 1 := gfN_of (C := RX2) (T := TX2) (N := 4) (host := "ClapTogether") rfl hg_2 (by decide) (nm := "tallies") (ds := "[I") (ow := "ClapTogether$Evening") ⟨rfl, rfl, rfl⟩ (List.mem_append_right _ (List.mem_of_getElem? (i := 185) (by decide +kernel)))
theorem gf_X2_22 : GF RX2 22 2 2 := gf_of (C := RX2) (T := TX2) (N := 4) rfl hg_2 (by decide) (nm := "size") (ds := "I") (ow := "ClapTogether$Evening") ⟨rfl, rfl, rfl⟩ (List.mem_append_right _ (List.mem_of_getElem? (i := 186) (by decide +kernel)))
theorem pf_X2_22 : PF RX2 22 2 2 .int := pf_of (own := RX2) (index := 22) (j := 2) (C := RX2) (T := TX2) (N := 4) rfl hg_2 (by decide) tyX2 tyX2_ok nmX2 (nm := "size") (ds := "I") (ow := "ClapTogether$Evening") ⟨rfl, rfl, rfl, rfl⟩ rfl (List.mem_append_right _ (List.mem_of_getElem? (i := 186) (by decide +kernel)))
theorem gf_X2_26 : GF RX2 26 2 3 := gf_of (C := RX2) (T := TX2) (N := 4) rfl hg_2 (by decide) (nm := "joinedBits") (ds := "I") (ow := "ClapTogether$Evening") ⟨rfl, rfl, rfl⟩ (List.mem_append_right _ (List.mem_of_getElem? (i := 187) (by decide +kernel)))
theorem pf_X2_26 : PF RX2 26 2 3 .int := pf_of (own := RX2) (index := 26) (j := 3) (C := RX2) (T := TX2) (N := 4) rfl hg_2 (by decide) tyX2 tyX2_ok nmX2 (nm := "joinedBits") (ds := "I") (ow := "ClapTogether$Evening") ⟨rfl, rfl, rfl, rfl⟩ rfl (List.mem_append_right _ (List.mem_of_getElem? (i := 187) (by decide +kernel)))
theorem gf_X4_9 : GF RX4 9 4 0 := gf_of (C := RX4) (T := TX4) (N := 4) rfl hg_4 (by decide) (nm := "numbers") (ds := "[I") (ow := "ClapTogether$LawReader") ⟨rfl, rfl, rfl⟩ (List.mem_append_right _ (List.mem_of_getElem? (i := 203) (by decide +kernel)))
theorem gf_X7_186 : GF RX7 186 4 0 := gfN_of (C := RX4) (T := TX4) (N := 4) (host := "ClapTogether") rfl hg_4 (by decide) (nm := "numbers") (ds := "[I") (ow := "ClapTogether$LawReader") ⟨rfl, rfl, rfl⟩ (List.mem_append_right _ (List.mem_of_getElem? (i := 204) (by decide +kernel)))
theorem gf_X4_15 : GF RX4 15 4 1 := gf_of (C := RX4) (T := TX4) (N := 4) rfl hg_4 (by decide) (nm := "signs") (ds := "[I") (ow := "ClapTogether$LawReader") ⟨rfl, rfl, rfl⟩ (List.mem_append_right _ (List.mem_of_getElem? (i := 205) (by decide +kernel)))
theorem gf_X4_18 : GF RX4 18 4 2 := gf_of (C := RX4) (T := TX4) (N := 4) rfl hg_4 (by decide) (nm := "size") (ds := "I") (ow := "ClapTogether$LawReader") ⟨rfl, rfl, rfl⟩ (List.mem_append_right _ (List.mem_of_getElem? (i := 206) (by decide +kernel)))
theorem pf_X4_18 : PF RX4 18 4 2 .int := pf_of (own := RX4) (index := 18) (j := 2) (C := RX4) (T := TX4) (N := 4) rfl hg_4 (by decide) tyX4 tyX4_ok nmX4 (nm := "size") (ds := "I") (ow := "ClapTogether$LawReader") ⟨rfl, rfl, rfl, rfl⟩ rfl (List.mem_append_right _ (List.mem_of_getElem? (i := 206) (by decide +kernel)))
theorem gf_X4_22 : GF RX4 22 4 3 := gf_of (C := RX4) (T := TX4) (N := 4) rfl hg_4 (by decide) (nm := "place") (ds := "I") (ow := "ClapTogether$LawReader") ⟨rfl, rfl, rfl⟩ (List.mem_append_right _ (List.mem_of_getElem? (i := 207) (by decide +kernel)))
theorem pf_X4_22 : PF RX4 22 4 3 .int := pf_of (own := RX4) (index := 22) (j := 3) (C := RX4) (T := TX4) (N := 4) rfl hg_4 (by decide) tyX4 tyX4_ok nmX4 (nm := "place") (ds := "I") (ow := "ClapTogether$LawReader") ⟨rfl, rfl, rfl, rfl⟩ rfl (List.mem_append_right _ (List.mem_of_getElem? (i := 207) (by decide +kernel)))
theorem gf_X0_9 : GF RX0 9 0 0 := gf_of (C := RX0) (T := TX0) (N := 5) rfl hg_0 (by decide) (nm := "bodies") (ds := "[I") (ow := "ClapTogether$Acts") ⟨rfl, rfl, rfl⟩ (List.mem_append_right _ (List.mem_of_getElem? (i := 223) (by decide +kernel)))
theorem gf_X7_319 : GF RX7 319 0 0 := gfN_of (C := RX0) (T := TX0) (N := 5) (host := "ClapTogether") rfl hg_0 (by decide) (nm := "bodies") (ds := "[I") (ow := "ClapTogether$Acts") ⟨rfl, rfl, rfl⟩ (List.mem_append_right _ (List.mem_of_getElem? (i := 224) (by decide +kernel)))
theorem gf_X0_15 : GF RX0 15 0 1 := gf_of (C := RX0) (T := TX0) (N := 5) rfl hg_0 (by decide) (nm := "ran") (ds := "I") (ow := "ClapTogether$Acts") ⟨rfl, rfl, rfl⟩ (List.mem_append_right _ (List.mem_of_getElem? (i := 225) (by decide +kernel)))
theorem pf_X0_15 : PF RX0 15 0 1 .int := pf_of (own := RX0) (index := 15) (j := 1) (C := RX0) (T := TX0) (N := 5) rfl hg_0 (by decide) tyX0 tyX0_ok nmX0 (nm := "ran") (ds := "I") (ow := "ClapTogether$Acts") ⟨rfl, rfl, rfl, rfl⟩ rfl (List.mem_append_right _ (List.mem_of_getElem? (i := 225) (by decide +kernel)))
theorem gf_X7_316 : GF RX7 316 0 1 := gfN_of (C := RX0) (T := TX0) (N := 5) (host := "ClapTogether") rfl hg_0 (by decide) (nm := "ran") (ds := "I") (ow := "ClapTogether$Acts") ⟨rfl, rfl, rfl⟩ (List.mem_append_right _ (List.mem_of_getElem? (i := 226) (by decide +kernel)))
theorem pf_X7_316 : PF RX7 316 0 1 .int := pfN_of (own := RX7) (index := 316) (j := 1) (C := RX0) (T := TX0) (N := 5) (host := "ClapTogether") rfl hg_0 (by decide) tyX0 tyX0_ok nmX0 (nm := "ran") (ds := "I") (ow := "ClapTogether$Acts") ⟨rfl, rfl, rfl, rfl⟩ rfl (List.mem_append_right _ (List.mem_of_getElem? (i := 226) (by decide +kernel)))
theorem gf_X0_19 : GF RX0 19 0 2 := gf_of (C := RX0) (T := TX0) (N := 5) rfl hg_0 (by decide) (nm := "kind") (ds := "I") (ow := "ClapTogether$Acts") ⟨rfl, rfl, rfl⟩ (List.mem_append_right _ (List.mem_of_getElem? (i := 227) (by decide +kernel)))
theorem pf_X0_19 : PF RX0 19 0 2 .int := pf_of (own := RX0) (index := 19) (j := 2) (C := RX0) (T := TX0) (N := 5) rfl hg_0 (by decide) tyX0 tyX0_ok nmX0 (nm := "kind") (ds := "I") (ow := "ClapTogether$Acts") ⟨rfl, rfl, rfl, rfl⟩ rfl (List.mem_append_right _ (List.mem_of_getElem? (i := 227) (by decide +kernel)))
theorem gf_X0_22 : GF RX0 22 0 3 := gf_of (C := RX0) (T := TX0) (N := 5) rfl hg_0 (by decide) (nm := "number") (ds := "I") (ow := "ClapTogether$Acts") ⟨rfl, rfl, rfl⟩ (List.mem_append_right _ (List.mem_of_getElem? (i := 228) (by decide +kernel)))
theorem pf_X0_22 : PF RX0 22 0 3 .int := pf_of (own := RX0) (index := 22) (j := 3) (C := RX0) (T := TX0) (N := 5) rfl hg_0 (by decide) tyX0 tyX0_ok nmX0 (nm := "number") (ds := "I") (ow := "ClapTogether$Acts") ⟨rfl, rfl, rfl, rfl⟩ rfl (List.mem_append_right _ (List.mem_of_getElem? (i := 228) (by decide +kernel)))
theorem gf_X0_25 : GF RX0 25 0 4 := gf_of (C := RX0) (T := TX0) (N := 5) rfl hg_0 (by decide) (nm := "pace") (ds := "I") (ow := "ClapTogether$Acts") ⟨rfl, rfl, rfl⟩ (List.mem_append_right _ (List.mem_of_getElem? (i := 229) (by decide +kernel)))
theorem pf_X0_25 : PF RX0 25 0 4 .int := pf_of (own := RX0) (index := 25) (j := 4) (C := RX0) (T := TX0) (N := 5) rfl hg_0 (by decide) tyX0 tyX0_ok nmX0 (nm := "pace") (ds := "I") (ow := "ClapTogether$Acts") ⟨rfl, rfl, rfl, rfl⟩ rfl (List.mem_append_right _ (List.mem_of_getElem? (i := 229) (by decide +kernel)))
theorem gf_X7_12 : GF RX7 12 7 0 := gf_of (C := RX7) (T := TX7) (N := 14) rfl hg_7 (by decide) (nm := "shelves") (ds := "LClapTogether$Shelves;") (ow := "ClapTogether") ⟨rfl, rfl, rfl⟩ (List.mem_append_right _ (List.mem_of_getElem? (i := 241) (by decide +kernel)))
theorem gf_X7_19 : GF RX7 19 7 1 := gf_of (C := RX7) (T := TX7) (N := 14) rfl hg_7 (by decide) (nm := "crowd") (ds := "LClapTogether$Crowd;") (ow := "ClapTogether") ⟨rfl, rfl, rfl⟩ (List.mem_append_right _ (List.mem_of_getElem? (i := 242) (by decide +kernel)))
theorem gf_X7_26 : GF RX7 26 7 2 := gf_of (C := RX7) (T := TX7) (N := 14) rfl hg_7 (by decide) (nm := "book") (ds := "LClapTogether$LawBook;") (ow := "ClapTogether") ⟨rfl, rfl, rfl⟩ (List.mem_append_right _ (List.mem_of_getElem? (i := 243) (by decide +kernel)))
theorem gf_X7_33 : GF RX7 33 7 3 := gf_of (C := RX7) (T := TX7) (N := 14) rfl hg_7 (by decide) (nm := "micros") (ds := "LClapTogether$Microphones;") (ow := "ClapTogether") ⟨rfl, rfl, rfl⟩ (List.mem_append_right _ (List.mem_of_getElem? (i := 244) (by decide +kernel)))
theorem gf_X7_40 : GF RX7 40 7 4 := gf_of (C := RX7) (T := TX7) (N := 14) rfl hg_7 (by decide) (nm := "evening") (ds := "LClapTogether$Evening;") (ow := "ClapTogether") ⟨rfl, rfl, rfl⟩ (List.mem_append_right _ (List.mem_of_getElem? (i := 245) (by decide +kernel)))
theorem gf_X7_44 : GF RX7 44 7 5 := gf_of (C := RX7) (T := TX7) (N := 14) rfl hg_7 (by decide) (nm := "otherEvening") (ds := "LClapTogether$Evening;") (ow := "ClapTogether") ⟨rfl, rfl, rfl⟩ (List.mem_append_right _ (List.mem_of_getElem? (i := 246) (by decide +kernel)))
theorem gf_X7_50 : GF RX7 50 7 6 := gf_of (C := RX7) (T := TX7) (N := 14) rfl hg_7 (by decide) (nm := "reader") (ds := "LClapTogether$LawReader;") (ow := "ClapTogether") ⟨rfl, rfl, rfl⟩ (List.mem_append_right _ (List.mem_of_getElem? (i := 247) (by decide +kernel)))
theorem gf_X7_57 : GF RX7 57 7 7 := gf_of (C := RX7) (T := TX7) (N := 14) rfl hg_7 (by decide) (nm := "acts") (ds := "LClapTogether$Acts;") (ow := "ClapTogether") ⟨rfl, rfl, rfl⟩ (List.mem_append_right _ (List.mem_of_getElem? (i := 248) (by decide +kernel)))
theorem gf_X7_61 : GF RX7 61 7 8 := gf_of (C := RX7) (T := TX7) (N := 14) rfl hg_7 (by decide) (nm := "refusals") (ds := "[I") (ow := "ClapTogether") ⟨rfl, rfl, rfl⟩ (List.mem_append_right _ (List.mem_of_getElem? (i := 249) (by decide +kernel)))
theorem gf_X7_65 : GF RX7 65 7 9 := gf_of (C := RX7) (T := TX7) (N := 14) rfl hg_7 (by decide) (nm := "latestFault") (ds := "I") (ow := "ClapTogether") ⟨rfl, rfl, rfl⟩ (List.mem_append_right _ (List.mem_of_getElem? (i := 250) (by decide +kernel)))
theorem pf_X7_65 : PF RX7 65 7 9 .int := pf_of (own := RX7) (index := 65) (j := 9) (C := RX7) (T := TX7) (N := 14) rfl hg_7 (by decide) tyX7 tyX7_ok nmX7 (nm := "latestFault") (ds := "I") (ow := "ClapTogether") ⟨rfl, rfl, rfl, rfl⟩ rfl (List.mem_append_right _ (List.mem_of_getElem? (i := 250) (by decide +kernel)))
theorem gf_X7_69 : GF RX7 69 7 10 := gf_of (C := RX7) (T := TX7) (N := 14) rfl hg_7 (by decide) (nm := "imageCrowd") (ds := "LClapTogether$Crowd;") (ow := "ClapTogether") ⟨rfl, rfl, rfl⟩ (List.mem_append_right _ (List.mem_of_getElem? (i := 251) (by decide +kernel)))
theorem gf_X7_72 : GF RX7 72 7 11 := gf_of (C := RX7) (T := TX7) (N := 14) rfl hg_7 (by decide) (nm := "imageBook") (ds := "LClapTogether$LawBook;") (ow := "ClapTogether") ⟨rfl, rfl, rfl⟩ (List.mem_append_right _ (List.mem_of_getElem? (i := 252) (by decide +kernel)))
theorem gf_X7_75 : GF RX7 75 7 12 := gf_of (C := RX7) (T := TX7) (N := 14) rfl hg_7 (by decide) (nm := "imageMicros") (ds := "LClapTogether$Microphones;") (ow := "ClapTogether") ⟨rfl, rfl, rfl⟩ (List.mem_append_right _ (List.mem_of_getElem? (i := 253) (by decide +kernel)))
theorem gf_X7_78 : GF RX7 78 7 13 := gf_of (C := RX7) (T := TX7) (N := 14) rfl hg_7 (by decide) (nm := "hasImage") (ds := "Z") (ow := "ClapTogether") ⟨rfl, rfl, rfl⟩ (List.mem_append_right _ (List.mem_of_getElem? (i := 254) (by decide +kernel)))
theorem pf_X7_78 : PF RX7 78 7 13 .boolean := pf_of (own := RX7) (index := 78) (j := 13) (C := RX7) (T := TX7) (N := 14) rfl hg_7 (by decide) tyX7 tyX7_ok nmX7 (nm := "hasImage") (ds := "Z") (ow := "ClapTogether") ⟨rfl, rfl, rfl, rfl⟩ rfl (List.mem_append_right _ (List.mem_of_getElem? (i := 254) (by decide +kernel)))
theorem cw_X7_row : Cond.code yX7_row cX7_row 4 (some FieldType.int) ∈ lw_tbl := (List.mem_append_right _ (List.mem_of_getElem? (i := 287) (by decide +kernel)))
theorem ok_X7_row : okMH yX7_row 3 := ⟨by decide +kernel, by decide +kernel, by decide +kernel⟩
theorem im_X7_row : Cond.instanceMethod yX7_row ∈ lw_tbl := (List.mem_append_right _ (List.mem_of_getElem? (i := 285) (by decide +kernel)))
theorem se_X7_row : Cond.selects yX7_row.cls yX7_row yX7_row ∈ lw_tbl := (List.mem_append_right _ (List.mem_of_getElem? (i := 286) (by decide +kernel)))
theorem ini_RX7 : Cond.initialized RX7 ∈ lw_tbl := (List.mem_append_right _ (List.mem_of_getElem? (i := 1) (by decide +kernel)))
theorem ck_L_13 : CKV RL 13 yX7_row cX7_row 4 (some FieldType.int) 3 := ckV_of (List.mem_append_right _ (List.mem_of_getElem? (i := 284) (by decide +kernel))) im_X7_row se_X7_row ini_RX7 cw_X7_row ok_X7_row
theorem cw_X7_isShelf : Cond.code yX7_isShelf cX7_isShelf 1 (some FieldType.boolean) ∈ lw_tbl := (List.mem_append_right _ (List.mem_of_getElem? (i := 290) (by decide +kernel)))
theorem ok_X7_isShelf : okMH yX7_isShelf 1 := ⟨by decide +kernel, by decide +kernel, by decide +kernel⟩
theorem im_X7_isShelf : Cond.static yX7_isShelf ∈ lw_tbl := (List.mem_append_right _ (List.mem_of_getElem? (i := 289) (by decide +kernel)))
theorem ck_X7_82 : CKS RX7 82 yX7_isShelf cX7_isShelf 1 (some FieldType.boolean) 1 := ckS_of (List.mem_append_right _ (List.mem_of_getElem? (i := 288) (by decide +kernel))) im_X7_isShelf ini_RX7 cw_X7_isShelf ok_X7_isShelf
theorem cw_X7_refuse : Cond.code yX7_refuse cX7_refuse 3 (some FieldType.int) ∈ lw_tbl := (List.mem_append_right _ (List.mem_of_getElem? (i := 294) (by decide +kernel)))
theorem ok_X7_refuse : okMH yX7_refuse 1 := ⟨by decide +kernel, by decide +kernel, by decide +kernel⟩
theorem im_X7_refuse : Cond.instanceMethod yX7_refuse ∈ lw_tbl := (List.mem_append_right _ (List.mem_of_getElem? (i := 293) (by decide +kernel)))
theorem se_X7_refuse : Cond.selects yX7_refuse.cls yX7_refuse yX7_refuse ∈ lw_tbl := (List.mem_append_left _ (List.mem_of_getElem? (i := 0) (by decide +kernel)))
theorem ck_X7_86 : CKV RX7 86 yX7_refuse cX7_refuse 3 (some FieldType.int) 1 := ckV_of (List.mem_append_right _ (List.mem_of_getElem? (i := 291) (by decide +kernel))) im_X7_refuse se_X7_refuse ini_RX7 cw_X7_refuse ok_X7_refuse
theorem cw_X6_putRow : Cond.code yX6_putRow cX6_putRow 4 none ∈ lw_tbl := (List.mem_append_right _ (List.mem_of_getElem? (i := 298) (by decide +kernel)))
theorem ok_X6_putRow : okMH yX6_putRow 3 := ⟨by decide +kernel, by decide +kernel, by decide +kernel⟩
theorem im_X6_putRow : Cond.instanceMethod yX6_putRow ∈ lw_tbl := (List.mem_append_right _ (List.mem_of_getElem? (i := 297) (by decide +kernel)))
theorem se_X6_putRow : Cond.selects yX6_putRow.cls yX6_putRow yX6_putRow ∈ lw_tbl := (List.mem_append_left _ (List.mem_of_getElem? (i := 1) (by decide +kernel)))
theorem ini_RX6 : Cond.initialized RX6 ∈ lw_tbl := (List.mem_append_right _ (List.mem_of_getElem? (i := 2) (by decide +kernel)))
theorem ck_X7_90 : CKV RX7 90 yX6_putRow cX6_putRow 4 none 3 := ckVN_of (host := "ClapTogether") (List.mem_append_right _ (List.mem_of_getElem? (i := 295) (by decide +kernel))) im_X6_putRow se_X6_putRow ini_RX6 cw_X6_putRow ok_X6_putRow
theorem cw_J7_fill_d0a16 : Cond.code yJ7_fill_d0a16 cJ7_fill_d0a16 5 none ∈ lw_tbl := (List.mem_append_right _ (List.mem_of_getElem? (i := 301) (by decide +kernel)))
theorem ok_J7_fill_d0a16 : okMH yJ7_fill_d0a16 2 := ⟨by decide +kernel, by decide +kernel, by decide +kernel⟩
theorem im_J7_fill_d0a16 : Cond.static yJ7_fill_d0a16 ∈ lw_tbl := (List.mem_append_right _ (List.mem_of_getElem? (i := 300) (by decide +kernel)))
theorem ck_X6_36 : CKS RX6 36 yJ7_fill_d0a16 cJ7_fill_d0a16 5 none 2 := ckS_of (List.mem_append_right _ (List.mem_of_getElem? (i := 299) (by decide +kernel))) im_J7_fill_d0a16 ini_RJ7 cw_J7_fill_d0a16 ok_J7_fill_d0a16
theorem cw_X7_set : Cond.code yX7_set cX7_set 6 (some FieldType.int) ∈ lw_tbl := (List.mem_append_right _ (List.mem_of_getElem? (i := 305) (by decide +kernel)))
theorem ok_X7_set : okMH yX7_set 3 := ⟨by decide +kernel, by decide +kernel, by decide +kernel⟩
theorem im_X7_set : Cond.instanceMethod yX7_set ∈ lw_tbl := (List.mem_append_right _ (List.mem_of_getElem? (i := 303) (by decide +kernel)))
theorem se_X7_set : Cond.selects yX7_set.cls yX7_set yX7_set ∈ lw_tbl := (List.mem_append_right _ (List.mem_of_getElem? (i := 304) (by decide +kernel)))
theorem ck_L_20 : CKV RL 20 yX7_set cX7_set 6 (some FieldType.int) 3 := ckV_of (List.mem_append_right _ (List.mem_of_getElem? (i := 302) (by decide +kernel))) im_X7_set se_X7_set ini_RX7 cw_X7_set ok_X7_set
theorem cw_X7_refusalOfRow : Cond.code yX7_refusalOfRow cX7_refusalOfRow 2 (some FieldType.int) ∈ lw_tbl := (List.mem_append_right _ (List.mem_of_getElem? (i := 309) (by decide +kernel)))
theorem ok_X7_refusalOfRow : okMH yX7_refusalOfRow 1 := ⟨by decide +kernel, by decide +kernel, by decide +kernel⟩
theorem im_X7_refusalOfRow : Cond.instanceMethod yX7_refusalOfRow ∈ lw_tbl := (List.mem_append_right _ (List.mem_of_getElem? (i := 308) (by decide +kernel)))
theorem se_X7_refusalOfRow : Cond.selects yX7_refusalOfRow.cls yX7_refusalOfRow yX7_refusalOfRow ∈ lw_tbl := (List.mem_append_left _ (List.mem_of_getElem? (i := 2) (by decide +kernel)))
theorem ck_X7_94 : CKV RX7 94 yX7_refusalOfRow cX7_refusalOfRow 2 (some FieldType.int) 1 := ckV_of (List.mem_append_right _ (List.mem_of_getElem? (i := 306) (by decide +kernel))) im_X7_refusalOfRow se_X7_refusalOfRow ini_RX7 cw_X7_refusalOfRow ok_X7_refusalOfRow
theorem cw_X6_holdsPerson : Cond.code yX6_holdsPerson cX6_holdsPerson 2 (some FieldType.boolean) ∈ lw_tbl := (List.mem_append_right _ (List.mem_of_getElem? (i := 313) (by decide +kernel)))
theorem ok_X6_holdsPerson : okMH yX6_holdsPerson 1 := ⟨by decide +kernel, by decide +kernel, by decide +kernel⟩
theorem im_X6_holdsPerson : Cond.instanceMethod yX6_holdsPerson ∈ lw_tbl := (List.mem_append_right _ (List.mem_of_getElem? (i := 312) (by decide +kernel)))
theorem se_X6_holdsPerson : Cond.selects yX6_holdsPerson.cls yX6_holdsPerson yX6_holdsPerson ∈ lw_tbl := (List.mem_append_left _ (List.mem_of_getElem? (i := 3) (by decide +kernel)))
theorem ck_X7_334 : CKV RX7 334 yX6_holdsPerson cX6_holdsPerson 2 (some FieldType.boolean) 1 := ckVN_of (host := "ClapTogether") (List.mem_append_right _ (List.mem_of_getElem? (i := 310) (by decide +kernel))) im_X6_holdsPerson se_X6_holdsPerson ini_RX6 cw_X6_holdsPerson ok_X6_holdsPerson
theorem ck_X6_29 : CKS RX6 29 yX7_isShelf cX7_isShelf 1 (some FieldType.boolean) 1 := ckSN_of (host := "ClapTogether") (List.mem_append_right _ (List.mem_of_getElem? (i := 314) (by decide +kernel))) im_X7_isShelf ini_RX7 cw_X7_isShelf ok_X7_isShelf
theorem cw_X6_holdsRow : Cond.code yX6_holdsRow cX6_holdsRow 2 (some FieldType.boolean) ∈ lw_tbl := (List.mem_append_right _ (List.mem_of_getElem? (i := 318) (by decide +kernel)))
theorem ok_X6_holdsRow : okMH yX6_holdsRow 1 := ⟨by decide +kernel, by decide +kernel, by decide +kernel⟩
theorem im_X6_holdsRow : Cond.instanceMethod yX6_holdsRow ∈ lw_tbl := (List.mem_append_right _ (List.mem_of_getElem? (i := 317) (by decide +kernel)))
theorem se_X6_holdsRow : Cond.selects yX6_holdsRow.cls yX6_holdsRow yX6_holdsRow ∈ lw_tbl := (List.mem_append_left _ (List.mem_of_getElem? (i := 4) (by decide +kernel)))
theorem ck_X7_337 : CKV RX7 337 yX6_holdsRow cX6_holdsRow 2 (some FieldType.boolean) 1 := ckVN_of (host := "ClapTogether") (List.mem_append_right _ (List.mem_of_getElem? (i := 315) (by decide +kernel))) im_X6_holdsRow se_X6_holdsRow ini_RX6 cw_X6_holdsRow ok_X6_holdsRow
theorem cw_X6_hasElement : Cond.code yX6_hasElement cX6_hasElement 3 (some FieldType.boolean) ∈ lw_tbl := (List.mem_append_right _ (List.mem_of_getElem? (i := 322) (by decide +kernel)))
theorem ok_X6_hasElement : okMH yX6_hasElement 2 := ⟨by decide +kernel, by decide +kernel, by decide +kernel⟩
theorem im_X6_hasElement : Cond.instanceMethod yX6_hasElement ∈ lw_tbl := (List.mem_append_right _ (List.mem_of_getElem? (i := 321) (by decide +kernel)))
theorem se_X6_hasElement : Cond.selects yX6_hasElement.cls yX6_hasElement yX6_hasElement ∈ lw_tbl := (List.mem_append_left _ (List.mem_of_getElem? (i := 5) (by decide +kernel)))
theorem ck_X7_97 : CKV RX7 97 yX6_hasElement cX6_hasElement 3 (some FieldType.boolean) 2 := ckVN_of (host := "ClapTogether") (List.mem_append_right _ (List.mem_of_getElem? (i := 319) (by decide +kernel))) im_X6_hasElement se_X6_hasElement ini_RX6 cw_X6_hasElement ok_X6_hasElement
theorem ck_X6_33 : CKV RX6 33 yX6_holdsRow cX6_holdsRow 2 (some FieldType.boolean) 1 := ckV_of (List.mem_append_right _ (List.mem_of_getElem? (i := 323) (by decide +kernel))) im_X6_holdsRow se_X6_holdsRow ini_RX6 cw_X6_holdsRow ok_X6_holdsRow
theorem cw_X6_putElement : Cond.code yX6_putElement cX6_putElement 5 none ∈ lw_tbl := (List.mem_append_right _ (List.mem_of_getElem? (i := 327) (by decide +kernel)))
theorem ok_X6_putElement : okMH yX6_putElement 3 := ⟨by decide +kernel, by decide +kernel, by decide +kernel⟩
theorem im_X6_putElement : Cond.instanceMethod yX6_putElement ∈ lw_tbl := (List.mem_append_right _ (List.mem_of_getElem? (i := 326) (by decide +kernel)))
theorem se_X6_putElement : Cond.selects yX6_putElement.cls yX6_putElement yX6_putElement ∈ lw_tbl := (List.mem_append_left _ (List.mem_of_getElem? (i := 6) (by decide +kernel)))
theorem ck_X7_101 : CKV RX7 101 yX6_putElement cX6_putElement 5 none 3 := ckVN_of (host := "ClapTogether") (List.mem_append_right _ (List.mem_of_getElem? (i := 324) (by decide +kernel))) im_X6_putElement se_X6_putElement ini_RX6 cw_X6_putElement ok_X6_putElement
theorem cw_X7_copy : Cond.code yX7_copy cX7_copy 7 (some FieldType.int) ∈ lw_tbl := (List.mem_append_right _ (List.mem_of_getElem? (i := 331) (by decide +kernel)))
theorem ok_X7_copy : okMH yX7_copy 5 := ⟨by decide +kernel, by decide +kernel, by decide +kernel⟩
theorem im_X7_copy : Cond.instanceMethod yX7_copy ∈ lw_tbl := (List.mem_append_right _ (List.mem_of_getElem? (i := 329) (by decide +kernel)))
theorem se_X7_copy : Cond.selects yX7_copy.cls yX7_copy yX7_copy ∈ lw_tbl := (List.mem_append_right _ (List.mem_of_getElem? (i := 330) (by decide +kernel)))
theorem ck_L_25 : CKV RL 25 yX7_copy cX7_copy 7 (some FieldType.int) 5 := ckV_of (List.mem_append_right _ (List.mem_of_getElem? (i := 328) (by decide +kernel))) im_X7_copy se_X7_copy ini_RX7 cw_X7_copy ok_X7_copy
theorem cw_X7_refusalOfTwoRows : Cond.code yX7_refusalOfTwoRows cX7_refusalOfTwoRows 3 (some FieldType.int) ∈ lw_tbl := (List.mem_append_right _ (List.mem_of_getElem? (i := 335) (by decide +kernel)))
theorem ok_X7_refusalOfTwoRows : okMH yX7_refusalOfTwoRows 2 := ⟨by decide +kernel, by decide +kernel, by decide +kernel⟩
theorem im_X7_refusalOfTwoRows : Cond.instanceMethod yX7_refusalOfTwoRows ∈ lw_tbl := (List.mem_append_right _ (List.mem_of_getElem? (i := 334) (by decide +kernel)))
theorem se_X7_refusalOfTwoRows : Cond.selects yX7_refusalOfTwoRows.cls yX7_refusalOfTwoRows yX7_refusalOfTwoRows ∈ lw_tbl := (List.mem_append_left _ (List.mem_of_getElem? (i := 7) (by decide +kernel)))
theorem ck_X7_105 : CKV RX7 105 yX7_refusalOfTwoRows cX7_refusalOfTwoRows 3 (some FieldType.int) 2 := ckV_of (List.mem_append_right _ (List.mem_of_getElem? (i := 332) (by decide +kernel))) im_X7_refusalOfTwoRows se_X7_refusalOfTwoRows ini_RX7 cw_X7_refusalOfTwoRows ok_X7_refusalOfTwoRows
theorem cw_X6_hasPart : Cond.code yX6_hasPart cX6_hasPart 4 (some FieldType.boolean) ∈ lw_tbl := (List.mem_append_right _ (List.mem_of_getElem? (i := 339) (by decide +kernel)))
theorem ok_X6_hasPart : okMH yX6_hasPart 3 := ⟨by decide +kernel, by decide +kernel, by decide +kernel⟩
theorem im_X6_hasPart : Cond.instanceMethod yX6_hasPart ∈ lw_tbl := (List.mem_append_right _ (List.mem_of_getElem? (i := 338) (by decide +kernel)))
theorem se_X6_hasPart : Cond.selects yX6_hasPart.cls yX6_hasPart yX6_hasPart ∈ lw_tbl := (List.mem_append_left _ (List.mem_of_getElem? (i := 8) (by decide +kernel)))
theorem ck_X7_109 : CKV RX7 109 yX6_hasPart cX6_hasPart 4 (some FieldType.boolean) 3 := ckVN_of (host := "ClapTogether") (List.mem_append_right _ (List.mem_of_getElem? (i := 336) (by decide +kernel))) im_X6_hasPart se_X6_hasPart ini_RX6 cw_X6_hasPart ok_X6_hasPart
theorem cw_X6_copyPart : Cond.code yX6_copyPart cX6_copyPart 6 none ∈ lw_tbl := (List.mem_append_right _ (List.mem_of_getElem? (i := 343) (by decide +kernel)))
theorem ok_X6_copyPart : okMH yX6_copyPart 5 := ⟨by decide +kernel, by decide +kernel, by decide +kernel⟩
theorem im_X6_copyPart : Cond.instanceMethod yX6_copyPart ∈ lw_tbl := (List.mem_append_right _ (List.mem_of_getElem? (i := 342) (by decide +kernel)))
theorem se_X6_copyPart : Cond.selects yX6_copyPart.cls yX6_copyPart yX6_copyPart ∈ lw_tbl := (List.mem_append_left _ (List.mem_of_getElem? (i := 9) (by decide +kernel)))
theorem ck_X7_113 : CKV RX7 113 yX6_copyPart cX6_copyPart 6 none 5 := ckVN_of (host := "ClapTogether") (List.mem_append_right _ (List.mem_of_getElem? (i := 340) (by decide +kernel))) im_X6_copyPart se_X6_copyPart ini_RX6 cw_X6_copyPart ok_X6_copyPart
theorem cw_X7_element : Cond.code yX7_element cX7_element 3 (some FieldType.long) ∈ lw_tbl := (List.mem_append_right _ (List.mem_of_getElem? (i := 348) (by decide +kernel)))
theorem ok_X7_element : okMH yX7_element 2 := ⟨by decide +kernel, by decide +kernel, by decide +kernel⟩
theorem im_X7_element : Cond.instanceMethod yX7_element ∈ lw_tbl := (List.mem_append_right _ (List.mem_of_getElem? (i := 346) (by decide +kernel)))
theorem se_X7_element : Cond.selects yX7_element.cls yX7_element yX7_element ∈ lw_tbl := (List.mem_append_right _ (List.mem_of_getElem? (i := 347) (by decide +kernel)))
theorem ck_L_30 : CKV RL 30 yX7_element cX7_element 3 (some FieldType.long) 2 := ckV_of (List.mem_append_right _ (List.mem_of_getElem? (i := 345) (by decide +kernel))) im_X7_element se_X7_element ini_RX7 cw_X7_element ok_X7_element
theorem cw_X6_elementOr0 : Cond.code yX6_elementOr0 cX6_elementOr0 3 (some FieldType.long) ∈ lw_tbl := (List.mem_append_right _ (List.mem_of_getElem? (i := 352) (by decide +kernel)))
theorem ok_X6_elementOr0 : okMH yX6_elementOr0 2 := ⟨by decide +kernel, by decide +kernel, by decide +kernel⟩
theorem im_X6_elementOr0 : Cond.instanceMethod yX6_elementOr0 ∈ lw_tbl := (List.mem_append_right _ (List.mem_of_getElem? (i := 351) (by decide +kernel)))
theorem se_X6_elementOr0 : Cond.selects yX6_elementOr0.cls yX6_elementOr0 yX6_elementOr0 ∈ lw_tbl := (List.mem_append_left _ (List.mem_of_getElem? (i := 10) (by decide +kernel)))
theorem ck_X7_117 : CKV RX7 117 yX6_elementOr0 cX6_elementOr0 3 (some FieldType.long) 2 := ckVN_of (host := "ClapTogether") (List.mem_append_right _ (List.mem_of_getElem? (i := 349) (by decide +kernel))) im_X6_elementOr0 se_X6_elementOr0 ini_RX6 cw_X6_elementOr0 ok_X6_elementOr0
theorem ck_X6_45 : CKV RX6 45 yX6_hasElement cX6_hasElement 3 (some FieldType.boolean) 2 := ckV_of (List.mem_append_right _ (List.mem_of_getElem? (i := 353) (by decide +kernel))) im_X6_hasElement se_X6_hasElement ini_RX6 cw_X6_hasElement ok_X6_hasElement
theorem cw_X7_show : Cond.code yX7_show cX7_show 3 (some FieldType.int) ∈ lw_tbl := (List.mem_append_right _ (List.mem_of_getElem? (i := 357) (by decide +kernel)))
theorem ok_X7_show : okMH yX7_show 2 := ⟨by decide +kernel, by decide +kernel, by decide +kernel⟩
theorem im_X7_show : Cond.instanceMethod yX7_show ∈ lw_tbl := (List.mem_append_right _ (List.mem_of_getElem? (i := 355) (by decide +kernel)))
theorem se_X7_show : Cond.selects yX7_show.cls yX7_show yX7_show ∈ lw_tbl := (List.mem_append_right _ (List.mem_of_getElem? (i := 356) (by decide +kernel)))
theorem ck_L_35 : CKV RL 35 yX7_show cX7_show 3 (some FieldType.int) 2 := ckV_of (List.mem_append_right _ (List.mem_of_getElem? (i := 354) (by decide +kernel))) im_X7_show se_X7_show ini_RX7 cw_X7_show ok_X7_show
theorem cw_X1_has : Cond.code yX1_has cX1_has 2 (some FieldType.boolean) ∈ lw_tbl := (List.mem_append_right _ (List.mem_of_getElem? (i := 361) (by decide +kernel)))
theorem ok_X1_has : okMH yX1_has 1 := ⟨by decide +kernel, by decide +kernel, by decide +kernel⟩
theorem im_X1_has : Cond.instanceMethod yX1_has ∈ lw_tbl := (List.mem_append_right _ (List.mem_of_getElem? (i := 360) (by decide +kernel)))
theorem se_X1_has : Cond.selects yX1_has.cls yX1_has yX1_has ∈ lw_tbl := (List.mem_append_left _ (List.mem_of_getElem? (i := 11) (by decide +kernel)))
theorem ini_RX1 : Cond.initialized RX1 ∈ lw_tbl := (List.mem_append_right _ (List.mem_of_getElem? (i := 4) (by decide +kernel)))
theorem ck_X7_121 : CKV RX7 121 yX1_has cX1_has 2 (some FieldType.boolean) 1 := ckVN_of (host := "ClapTogether") (List.mem_append_right _ (List.mem_of_getElem? (i := 358) (by decide +kernel))) im_X1_has se_X1_has ini_RX1 cw_X1_has ok_X1_has
theorem cw_X7_holds : Cond.code yX7_holds cX7_holds 2 (some FieldType.int) ∈ lw_tbl := (List.mem_append_right _ (List.mem_of_getElem? (i := 365) (by decide +kernel)))
theorem ok_X7_holds : okMH yX7_holds 1 := ⟨by decide +kernel, by decide +kernel, by decide +kernel⟩
theorem im_X7_holds : Cond.instanceMethod yX7_holds ∈ lw_tbl := (List.mem_append_right _ (List.mem_of_getElem? (i := 363) (by decide +kernel)))
theorem se_X7_holds : Cond.selects yX7_holds.cls yX7_holds yX7_holds ∈ lw_tbl := (List.mem_append_right _ (List.mem_of_getElem? (i := 364) (by decide +kernel)))
theorem ck_L_40 : CKV RL 40 yX7_holds cX7_holds 2 (some FieldType.int) 1 := ckV_of (List.mem_append_right _ (List.mem_of_getElem? (i := 362) (by decide +kernel))) im_X7_holds se_X7_holds ini_RX7 cw_X7_holds ok_X7_holds
theorem cw_X7_says : Cond.code yX7_says cX7_says 4 (some FieldType.int) ∈ lw_tbl := (List.mem_append_right _ (List.mem_of_getElem? (i := 369) (by decide +kernel)))
theorem ok_X7_says : okMH yX7_says 2 := ⟨by decide +kernel, by decide +kernel, by decide +kernel⟩
theorem im_X7_says : Cond.instanceMethod yX7_says ∈ lw_tbl := (List.mem_append_right _ (List.mem_of_getElem? (i := 367) (by decide +kernel)))
theorem se_X7_says : Cond.selects yX7_says.cls yX7_says yX7_says ∈ lw_tbl := (List.mem_append_right _ (List.mem_of_getElem? (i := 368) (by decide +kernel)))
theorem ck_L_45 : CKV RL 45 yX7_says cX7_says 4 (some FieldType.int) 2 := ckV_of (List.mem_append_right _ (List.mem_of_getElem? (i := 366) (by decide +kernel))) im_X7_says se_X7_says ini_RX7 cw_X7_says ok_X7_says
theorem cw_X7_isKind : Cond.code yX7_isKind cX7_isKind 1 (some FieldType.boolean) ∈ lw_tbl := (List.mem_append_right _ (List.mem_of_getElem? (i := 372) (by decide +kernel)))
theorem ok_X7_isKind : okMH yX7_isKind 1 := ⟨by decide +kernel, by decide +kernel, by decide +kernel⟩
theorem im_X7_isKind : Cond.static yX7_isKind ∈ lw_tbl := (List.mem_append_right _ (List.mem_of_getElem? (i := 371) (by decide +kernel)))
theorem ck_X7_127 : CKS RX7 127 yX7_isKind cX7_isKind 1 (some FieldType.boolean) 1 := ckS_of (List.mem_append_right _ (List.mem_of_getElem? (i := 370) (by decide +kernel))) im_X7_isKind ini_RX7 cw_X7_isKind ok_X7_isKind
theorem cw_X7_isKindOrUnder : Cond.code yX7_isKindOrUnder cX7_isKindOrUnder 4 (some FieldType.boolean) ∈ lw_tbl := (List.mem_append_right _ (List.mem_of_getElem? (i := 375) (by decide +kernel)))
theorem ok_X7_isKindOrUnder : okMH yX7_isKindOrUnder 2 := ⟨by decide +kernel, by decide +kernel, by decide +kernel⟩
theorem im_X7_isKindOrUnder : Cond.static yX7_isKindOrUnder ∈ lw_tbl := (List.mem_append_right _ (List.mem_of_getElem? (i := 374) (by decide +kernel)))
theorem ck_X7_133 : CKS RX7 133 yX7_isKindOrUnder cX7_isKindOrUnder 4 (some FieldType.boolean) 2 := ckS_of (List.mem_append_right _ (List.mem_of_getElem? (i := 373) (by decide +kernel))) im_X7_isKindOrUnder ini_RX7 cw_X7_isKindOrUnder ok_X7_isKindOrUnder
theorem cw_X7_kindAbove : Cond.code yX7_kindAbove cX7_kindAbove 1 (some FieldType.int) ∈ lw_tbl := (List.mem_append_right _ (List.mem_of_getElem? (i := 378) (by decide +kernel)))
theorem ok_X7_kindAbove : okMH yX7_kindAbove 1 := ⟨by decide +kernel, by decide +kernel, by decide +kernel⟩
theorem im_X7_kindAbove : Cond.static yX7_kindAbove ∈ lw_tbl := (List.mem_append_right _ (List.mem_of_getElem? (i := 377) (by decide +kernel)))
theorem ck_X7_340 : CKS RX7 340 yX7_kindAbove cX7_kindAbove 1 (some FieldType.int) 1 := ckS_of (List.mem_append_right _ (List.mem_of_getElem? (i := 376) (by decide +kernel))) im_X7_kindAbove ini_RX7 cw_X7_kindAbove ok_X7_kindAbove
theorem cw_X1_wordOf : Cond.code yX1_wordOf cX1_wordOf 3 (some FieldType.int) ∈ lw_tbl := (List.mem_append_right _ (List.mem_of_getElem? (i := 382) (by decide +kernel)))
theorem ok_X1_wordOf : okMH yX1_wordOf 2 := ⟨by decide +kernel, by decide +kernel, by decide +kernel⟩
theorem im_X1_wordOf : Cond.instanceMethod yX1_wordOf ∈ lw_tbl := (List.mem_append_right _ (List.mem_of_getElem? (i := 381) (by decide +kernel)))
theorem se_X1_wordOf : Cond.selects yX1_wordOf.cls yX1_wordOf yX1_wordOf ∈ lw_tbl := (List.mem_append_left _ (List.mem_of_getElem? (i := 12) (by decide +kernel)))
theorem ck_X7_136 : CKV RX7 136 yX1_wordOf cX1_wordOf 3 (some FieldType.int) 2 := ckVN_of (host := "ClapTogether") (List.mem_append_right _ (List.mem_of_getElem? (i := 379) (by decide +kernel))) im_X1_wordOf se_X1_wordOf ini_RX1 cw_X1_wordOf ok_X1_wordOf
theorem cw_X1_listen : Cond.code yX1_listen cX1_listen 2 none ∈ lw_tbl := (List.mem_append_right _ (List.mem_of_getElem? (i := 386) (by decide +kernel)))
theorem ok_X1_listen : okMH yX1_listen 0 := ⟨by decide +kernel, by decide +kernel, by decide +kernel⟩
theorem im_X1_listen : Cond.instanceMethod yX1_listen ∈ lw_tbl := (List.mem_append_right _ (List.mem_of_getElem? (i := 385) (by decide +kernel)))
theorem se_X1_listen : Cond.selects yX1_listen.cls yX1_listen yX1_listen ∈ lw_tbl := (List.mem_append_left _ (List.mem_of_getElem? (i := 13) (by decide +kernel)))
theorem ck_X1_93 : CKV RX1 93 yX1_listen cX1_listen 2 none 0 := ckV_of (List.mem_append_right _ (List.mem_of_getElem? (i := 383) (by decide +kernel))) im_X1_listen se_X1_listen ini_RX1 cw_X1_listen ok_X1_listen
theorem ck_X1_100 : CKS RX1 100 yJ7_fill_53178 cJ7_fill_53178 4 none 2 := ckS_of (List.mem_append_right _ (List.mem_of_getElem? (i := 387) (by decide +kernel))) im_J7_fill_53178 ini_RJ7 cw_J7_fill_53178 ok_J7_fill_53178
theorem cw_X1_soundFrom : Cond.code yX1_soundFrom cX1_soundFrom 5 none ∈ lw_tbl := (List.mem_append_right _ (List.mem_of_getElem? (i := 391) (by decide +kernel)))
theorem ok_X1_soundFrom : okMH yX1_soundFrom 2 := ⟨by decide +kernel, by decide +kernel, by decide +kernel⟩
theorem im_X1_soundFrom : Cond.instanceMethod yX1_soundFrom ∈ lw_tbl := (List.mem_append_right _ (List.mem_of_getElem? (i := 390) (by decide +kernel)))
theorem se_X1_soundFrom : Cond.selects yX1_soundFrom.cls yX1_soundFrom yX1_soundFrom ∈ lw_tbl := (List.mem_append_left _ (List.mem_of_getElem? (i := 14) (by decide +kernel)))
theorem ck_X1_114 : CKV RX1 114 yX1_soundFrom cX1_soundFrom 5 none 2 := ckV_of (List.mem_append_right _ (List.mem_of_getElem? (i := 388) (by decide +kernel))) im_X1_soundFrom se_X1_soundFrom ini_RX1 cw_X1_soundFrom ok_X1_soundFrom
theorem cw_X7_farOf : Cond.code yX7_farOf cX7_farOf 2 (some FieldType.int) ∈ lw_tbl := (List.mem_append_right _ (List.mem_of_getElem? (i := 394) (by decide +kernel)))
theorem ok_X7_farOf : okMH yX7_farOf 2 := ⟨by decide +kernel, by decide +kernel, by decide +kernel⟩
theorem im_X7_farOf : Cond.static yX7_farOf ∈ lw_tbl := (List.mem_append_right _ (List.mem_of_getElem? (i := 393) (by decide +kernel)))
theorem ck_X1_118 : CKS RX1 118 yX7_farOf cX7_farOf 2 (some FieldType.int) 2 := ckSN_of (host := "ClapTogether") (List.mem_append_right _ (List.mem_of_getElem? (i := 392) (by decide +kernel))) im_X7_farOf ini_RX7 cw_X7_farOf ok_X7_farOf
theorem cw_X7_loudnessAt : Cond.code yX7_loudnessAt cX7_loudnessAt 1 (some FieldType.int) ∈ lw_tbl := (List.mem_append_right _ (List.mem_of_getElem? (i := 400) (by decide +kernel)))
theorem ok_X7_loudnessAt : okMH yX7_loudnessAt 1 := ⟨by decide +kernel, by decide +kernel, by decide +kernel⟩
theorem im_X7_loudnessAt : Cond.static yX7_loudnessAt ∈ lw_tbl := (List.mem_append_right _ (List.mem_of_getElem? (i := 399) (by decide +kernel)))
theorem ck_X1_121 : CKS RX1 121 yX7_loudnessAt cX7_loudnessAt 1 (some FieldType.int) 1 := ckSN_of (host := "ClapTogether") (List.mem_append_right _ (List.mem_of_getElem? (i := 398) (by decide +kernel))) im_X7_loudnessAt ini_RX7 cw_X7_loudnessAt ok_X7_loudnessAt
theorem cw_X7_person : Cond.code yX7_person cX7_person 6 (some FieldType.int) ∈ lw_tbl := (List.mem_append_right _ (List.mem_of_getElem? (i := 404) (by decide +kernel)))
theorem ok_X7_person : okMH yX7_person 5 := ⟨by decide +kernel, by decide +kernel, by decide +kernel⟩
theorem im_X7_person : Cond.instanceMethod yX7_person ∈ lw_tbl := (List.mem_append_right _ (List.mem_of_getElem? (i := 402) (by decide +kernel)))
theorem se_X7_person : Cond.selects yX7_person.cls yX7_person yX7_person ∈ lw_tbl := (List.mem_append_right _ (List.mem_of_getElem? (i := 403) (by decide +kernel)))
theorem ck_L_49 : CKV RL 49 yX7_person cX7_person 6 (some FieldType.int) 5 := ckV_of (List.mem_append_right _ (List.mem_of_getElem? (i := 401) (by decide +kernel))) im_X7_person se_X7_person ini_RX7 cw_X7_person ok_X7_person
theorem cw_X7_isSeat : Cond.code yX7_isSeat cX7_isSeat 1 (some FieldType.boolean) ∈ lw_tbl := (List.mem_append_right _ (List.mem_of_getElem? (i := 407) (by decide +kernel)))
theorem ok_X7_isSeat : okMH yX7_isSeat 1 := ⟨by decide +kernel, by decide +kernel, by decide +kernel⟩
theorem im_X7_isSeat : Cond.static yX7_isSeat ∈ lw_tbl := (List.mem_append_right _ (List.mem_of_getElem? (i := 406) (by decide +kernel)))
theorem ck_X7_139 : CKS RX7 139 yX7_isSeat cX7_isSeat 1 (some FieldType.boolean) 1 := ckS_of (List.mem_append_right _ (List.mem_of_getElem? (i := 405) (by decide +kernel))) im_X7_isSeat ini_RX7 cw_X7_isSeat ok_X7_isSeat
theorem cw_X1_mayCome : Cond.code yX1_mayCome cX1_mayCome 6 (some FieldType.boolean) ∈ lw_tbl := (List.mem_append_right _ (List.mem_of_getElem? (i := 411) (by decide +kernel)))
theorem ok_X1_mayCome : okMH yX1_mayCome 5 := ⟨by decide +kernel, by decide +kernel, by decide +kernel⟩
theorem im_X1_mayCome : Cond.instanceMethod yX1_mayCome ∈ lw_tbl := (List.mem_append_right _ (List.mem_of_getElem? (i := 410) (by decide +kernel)))
theorem se_X1_mayCome : Cond.selects yX1_mayCome.cls yX1_mayCome yX1_mayCome ∈ lw_tbl := (List.mem_append_left _ (List.mem_of_getElem? (i := 15) (by decide +kernel)))
theorem ck_X7_142 : CKV RX7 142 yX1_mayCome cX1_mayCome 6 (some FieldType.boolean) 5 := ckVN_of (host := "ClapTogether") (List.mem_append_right _ (List.mem_of_getElem? (i := 408) (by decide +kernel))) im_X1_mayCome se_X1_mayCome ini_RX1 cw_X1_mayCome ok_X1_mayCome
theorem ck_X1_79 : CKS RX1 79 yX7_isKind cX7_isKind 1 (some FieldType.boolean) 1 := ckSN_of (host := "ClapTogether") (List.mem_append_right _ (List.mem_of_getElem? (i := 412) (by decide +kernel))) im_X7_isKind ini_RX7 cw_X7_isKind ok_X7_isKind
theorem ck_X1_83 : CKS RX1 83 yX7_isSeat cX7_isSeat 1 (some FieldType.boolean) 1 := ckSN_of (host := "ClapTogether") (List.mem_append_right _ (List.mem_of_getElem? (i := 413) (by decide +kernel))) im_X7_isSeat ini_RX7 cw_X7_isSeat ok_X7_isSeat
theorem cw_X7_isWithin : Cond.code yX7_isWithin cX7_isWithin 3 (some FieldType.boolean) ∈ lw_tbl := (List.mem_append_right _ (List.mem_of_getElem? (i := 416) (by decide +kernel)))
theorem ok_X7_isWithin : okMH yX7_isWithin 3 := ⟨by decide +kernel, by decide +kernel, by decide +kernel⟩
theorem im_X7_isWithin : Cond.static yX7_isWithin ∈ lw_tbl := (List.mem_append_right _ (List.mem_of_getElem? (i := 415) (by decide +kernel)))
theorem ck_X1_86 : CKS RX1 86 yX7_isWithin cX7_isWithin 3 (some FieldType.boolean) 3 := ckSN_of (host := "ClapTogether") (List.mem_append_right _ (List.mem_of_getElem? (i := 414) (by decide +kernel))) im_X7_isWithin ini_RX7 cw_X7_isWithin ok_X7_isWithin
theorem cw_X1_isTaken : Cond.code yX1_isTaken cX1_isTaken 3 (some FieldType.boolean) ∈ lw_tbl := (List.mem_append_right _ (List.mem_of_getElem? (i := 420) (by decide +kernel)))
theorem ok_X1_isTaken : okMH yX1_isTaken 1 := ⟨by decide +kernel, by decide +kernel, by decide +kernel⟩
theorem im_X1_isTaken : Cond.instanceMethod yX1_isTaken ∈ lw_tbl := (List.mem_append_right _ (List.mem_of_getElem? (i := 419) (by decide +kernel)))
theorem se_X1_isTaken : Cond.selects yX1_isTaken.cls yX1_isTaken yX1_isTaken ∈ lw_tbl := (List.mem_append_left _ (List.mem_of_getElem? (i := 16) (by decide +kernel)))
theorem ck_X1_90 : CKV RX1 90 yX1_isTaken cX1_isTaken 3 (some FieldType.boolean) 1 := ckV_of (List.mem_append_right _ (List.mem_of_getElem? (i := 417) (by decide +kernel))) im_X1_isTaken se_X1_isTaken ini_RX1 cw_X1_isTaken ok_X1_isTaken
theorem cw_X1_admit : Cond.code yX1_admit cX1_admit 7 (some FieldType.int) ∈ lw_tbl := (List.mem_append_right _ (List.mem_of_getElem? (i := 424) (by decide +kernel)))
theorem ok_X1_admit : okMH yX1_admit 5 := ⟨by decide +kernel, by decide +kernel, by decide +kernel⟩
theorem im_X1_admit : Cond.instanceMethod yX1_admit ∈ lw_tbl := (List.mem_append_right _ (List.mem_of_getElem? (i := 423) (by decide +kernel)))
theorem se_X1_admit : Cond.selects yX1_admit.cls yX1_admit yX1_admit ∈ lw_tbl := (List.mem_append_left _ (List.mem_of_getElem? (i := 17) (by decide +kernel)))
theorem ck_X7_149 : CKV RX7 149 yX1_admit cX1_admit 7 (some FieldType.int) 5 := ckVN_of (host := "ClapTogether") (List.mem_append_right _ (List.mem_of_getElem? (i := 421) (by decide +kernel))) im_X1_admit se_X1_admit ini_RX1 cw_X1_admit ok_X1_admit
theorem cw_X7_people : Cond.code yX7_people cX7_people 6 (some FieldType.int) ∈ lw_tbl := (List.mem_append_right _ (List.mem_of_getElem? (i := 428) (by decide +kernel)))
theorem ok_X7_people : okMH yX7_people 3 := ⟨by decide +kernel, by decide +kernel, by decide +kernel⟩
theorem im_X7_people : Cond.instanceMethod yX7_people ∈ lw_tbl := (List.mem_append_right _ (List.mem_of_getElem? (i := 426) (by decide +kernel)))
theorem se_X7_people : Cond.selects yX7_people.cls yX7_people yX7_people ∈ lw_tbl := (List.mem_append_right _ (List.mem_of_getElem? (i := 427) (by decide +kernel)))
theorem ck_L_53 : CKV RL 53 yX7_people cX7_people 6 (some FieldType.int) 3 := ckV_of (List.mem_append_right _ (List.mem_of_getElem? (i := 425) (by decide +kernel))) im_X7_people se_X7_people ini_RX7 cw_X7_people ok_X7_people
theorem cw_X7_admitFrom : Cond.code yX7_admitFrom cX7_admitFrom 9 (some FieldType.boolean) ∈ lw_tbl := (List.mem_append_right _ (List.mem_of_getElem? (i := 432) (by decide +kernel)))
theorem ok_X7_admitFrom : okMH yX7_admitFrom 2 := ⟨by decide +kernel, by decide +kernel, by decide +kernel⟩
theorem im_X7_admitFrom : Cond.instanceMethod yX7_admitFrom ∈ lw_tbl := (List.mem_append_right _ (List.mem_of_getElem? (i := 431) (by decide +kernel)))
theorem se_X7_admitFrom : Cond.selects yX7_admitFrom.cls yX7_admitFrom yX7_admitFrom ∈ lw_tbl := (List.mem_append_left _ (List.mem_of_getElem? (i := 18) (by decide +kernel)))
theorem ck_X7_153 : CKV RX7 153 yX7_admitFrom cX7_admitFrom 9 (some FieldType.boolean) 2 := ckV_of (List.mem_append_right _ (List.mem_of_getElem? (i := 429) (by decide +kernel))) im_X7_admitFrom se_X7_admitFrom ini_RX7 cw_X7_admitFrom ok_X7_admitFrom
theorem cw_X6_intOr0 : Cond.code yX6_intOr0 cX6_intOr0 3 (some FieldType.int) ∈ lw_tbl := (List.mem_append_right _ (List.mem_of_getElem? (i := 436) (by decide +kernel)))
theorem ok_X6_intOr0 : okMH yX6_intOr0 2 := ⟨by decide +kernel, by decide +kernel, by decide +kernel⟩
theorem im_X6_intOr0 : Cond.instanceMethod yX6_intOr0 ∈ lw_tbl := (List.mem_append_right _ (List.mem_of_getElem? (i := 435) (by decide +kernel)))
theorem se_X6_intOr0 : Cond.selects yX6_intOr0.cls yX6_intOr0 yX6_intOr0 ∈ lw_tbl := (List.mem_append_left _ (List.mem_of_getElem? (i := 19) (by decide +kernel)))
theorem ck_X7_156 : CKV RX7 156 yX6_intOr0 cX6_intOr0 3 (some FieldType.int) 2 := ckVN_of (host := "ClapTogether") (List.mem_append_right _ (List.mem_of_getElem? (i := 433) (by decide +kernel))) im_X6_intOr0 se_X6_intOr0 ini_RX6 cw_X6_intOr0 ok_X6_intOr0
theorem ck_X6_49 : CKV RX6 49 yX6_elementOr0 cX6_elementOr0 3 (some FieldType.long) 2 := ckV_of (List.mem_append_right _ (List.mem_of_getElem? (i := 437) (by decide +kernel))) im_X6_elementOr0 se_X6_elementOr0 ini_RX6 cw_X6_elementOr0 ok_X6_elementOr0
theorem cw_X7_personOf : Cond.code yX7_personOf cX7_personOf 3 (some FieldType.int) ∈ lw_tbl := (List.mem_append_right _ (List.mem_of_getElem? (i := 441) (by decide +kernel)))
theorem ok_X7_personOf : okMH yX7_personOf 2 := ⟨by decide +kernel, by decide +kernel, by decide +kernel⟩
theorem im_X7_personOf : Cond.instanceMethod yX7_personOf ∈ lw_tbl := (List.mem_append_right _ (List.mem_of_getElem? (i := 439) (by decide +kernel)))
theorem se_X7_personOf : Cond.selects yX7_personOf.cls yX7_personOf yX7_personOf ∈ lw_tbl := (List.mem_append_right _ (List.mem_of_getElem? (i := 440) (by decide +kernel)))
theorem ck_L_57 : CKV RL 57 yX7_personOf cX7_personOf 3 (some FieldType.int) 2 := ckV_of (List.mem_append_right _ (List.mem_of_getElem? (i := 438) (by decide +kernel))) im_X7_personOf se_X7_personOf ini_RX7 cw_X7_personOf ok_X7_personOf
theorem cw_X7_move : Cond.code yX7_move cX7_move 4 (some FieldType.int) ∈ lw_tbl := (List.mem_append_right _ (List.mem_of_getElem? (i := 445) (by decide +kernel)))
theorem ok_X7_move : okMH yX7_move 2 := ⟨by decide +kernel, by decide +kernel, by decide +kernel⟩
theorem im_X7_move : Cond.instanceMethod yX7_move ∈ lw_tbl := (List.mem_append_right _ (List.mem_of_getElem? (i := 443) (by decide +kernel)))
theorem se_X7_move : Cond.selects yX7_move.cls yX7_move yX7_move ∈ lw_tbl := (List.mem_append_right _ (List.mem_of_getElem? (i := 444) (by decide +kernel)))
theorem ck_L_61 : CKV RL 61 yX7_move cX7_move 4 (some FieldType.int) 2 := ckV_of (List.mem_append_right _ (List.mem_of_getElem? (i := 442) (by decide +kernel))) im_X7_move se_X7_move ini_RX7 cw_X7_move ok_X7_move
theorem ck_X7_163 : CKV RX7 163 yX1_isTaken cX1_isTaken 3 (some FieldType.boolean) 1 := ckVN_of (host := "ClapTogether") (List.mem_append_right _ (List.mem_of_getElem? (i := 446) (by decide +kernel))) im_X1_isTaken se_X1_isTaken ini_RX1 cw_X1_isTaken ok_X1_isTaken
theorem cw_X7_alter : Cond.code yX7_alter cX7_alter 6 (some FieldType.int) ∈ lw_tbl := (List.mem_append_right _ (List.mem_of_getElem? (i := 450) (by decide +kernel)))
theorem ok_X7_alter : okMH yX7_alter 3 := ⟨by decide +kernel, by decide +kernel, by decide +kernel⟩
theorem im_X7_alter : Cond.instanceMethod yX7_alter ∈ lw_tbl := (List.mem_append_right _ (List.mem_of_getElem? (i := 448) (by decide +kernel)))
theorem se_X7_alter : Cond.selects yX7_alter.cls yX7_alter yX7_alter ∈ lw_tbl := (List.mem_append_right _ (List.mem_of_getElem? (i := 449) (by decide +kernel)))
theorem ck_L_65 : CKV RL 65 yX7_alter cX7_alter 6 (some FieldType.int) 3 := ckV_of (List.mem_append_right _ (List.mem_of_getElem? (i := 447) (by decide +kernel))) im_X7_alter se_X7_alter ini_RX7 cw_X7_alter ok_X7_alter
theorem cw_X1_mostOf : Cond.code yX1_mostOf cX1_mostOf 3 (some FieldType.int) ∈ lw_tbl := (List.mem_append_right _ (List.mem_of_getElem? (i := 454) (by decide +kernel)))
theorem ok_X1_mostOf : okMH yX1_mostOf 2 := ⟨by decide +kernel, by decide +kernel, by decide +kernel⟩
theorem im_X1_mostOf : Cond.instanceMethod yX1_mostOf ∈ lw_tbl := (List.mem_append_right _ (List.mem_of_getElem? (i := 453) (by decide +kernel)))
theorem se_X1_mostOf : Cond.selects yX1_mostOf.cls yX1_mostOf yX1_mostOf ∈ lw_tbl := (List.mem_append_left _ (List.mem_of_getElem? (i := 20) (by decide +kernel)))
theorem ck_X7_169 : CKV RX7 169 yX1_mostOf cX1_mostOf 3 (some FieldType.int) 2 := ckVN_of (host := "ClapTogether") (List.mem_append_right _ (List.mem_of_getElem? (i := 451) (by decide +kernel))) im_X1_mostOf se_X1_mostOf ini_RX1 cw_X1_mostOf ok_X1_mostOf
theorem cw_X7_modulo : Cond.code yX7_modulo cX7_modulo 2 (some FieldType.int) ∈ lw_tbl := (List.mem_append_right _ (List.mem_of_getElem? (i := 457) (by decide +kernel)))
theorem ok_X7_modulo : okMH yX7_modulo 2 := ⟨by decide +kernel, by decide +kernel, by decide +kernel⟩
theorem im_X7_modulo : Cond.static yX7_modulo ∈ lw_tbl := (List.mem_append_right _ (List.mem_of_getElem? (i := 456) (by decide +kernel)))
theorem ck_X7_175 : CKS RX7 175 yX7_modulo cX7_modulo 2 (some FieldType.int) 2 := ckS_of (List.mem_append_right _ (List.mem_of_getElem? (i := 455) (by decide +kernel))) im_X7_modulo ini_RX7 cw_X7_modulo ok_X7_modulo
theorem cw_X7_glove : Cond.code yX7_glove cX7_glove 4 (some FieldType.int) ∈ lw_tbl := (List.mem_append_right _ (List.mem_of_getElem? (i := 461) (by decide +kernel)))
theorem ok_X7_glove : okMH yX7_glove 2 := ⟨by decide +kernel, by decide +kernel, by decide +kernel⟩
theorem im_X7_glove : Cond.instanceMethod yX7_glove ∈ lw_tbl := (List.mem_append_right _ (List.mem_of_getElem? (i := 459) (by decide +kernel)))
theorem se_X7_glove : Cond.selects yX7_glove.cls yX7_glove yX7_glove ∈ lw_tbl := (List.mem_append_right _ (List.mem_of_getElem? (i := 460) (by decide +kernel)))
theorem ck_L_69 : CKV RL 69 yX7_glove cX7_glove 4 (some FieldType.int) 2 := ckV_of (List.mem_append_right _ (List.mem_of_getElem? (i := 458) (by decide +kernel))) im_X7_glove se_X7_glove ini_RX7 cw_X7_glove ok_X7_glove
theorem cw_X7_laws : Cond.code yX7_laws cX7_laws 3 (some FieldType.int) ∈ lw_tbl := (List.mem_append_right _ (List.mem_of_getElem? (i := 465) (by decide +kernel)))
theorem ok_X7_laws : okMH yX7_laws 1 := ⟨by decide +kernel, by decide +kernel, by decide +kernel⟩
theorem im_X7_laws : Cond.instanceMethod yX7_laws ∈ lw_tbl := (List.mem_append_right _ (List.mem_of_getElem? (i := 463) (by decide +kernel)))
theorem se_X7_laws : Cond.selects yX7_laws.cls yX7_laws yX7_laws ∈ lw_tbl := (List.mem_append_right _ (List.mem_of_getElem? (i := 464) (by decide +kernel)))
theorem ck_L_74 : CKV RL 74 yX7_laws cX7_laws 3 (some FieldType.int) 1 := ckV_of (List.mem_append_right _ (List.mem_of_getElem? (i := 462) (by decide +kernel))) im_X7_laws se_X7_laws ini_RX7 cw_X7_laws ok_X7_laws
theorem cw_X4_readLaws : Cond.code yX4_readLaws cX4_readLaws 5 (some FieldType.int) ∈ lw_tbl := (List.mem_append_right _ (List.mem_of_getElem? (i := 469) (by decide +kernel)))
theorem ok_X4_readLaws : okMH yX4_readLaws 2 := ⟨by decide +kernel, by decide +kernel, by decide +kernel⟩
theorem im_X4_readLaws : Cond.instanceMethod yX4_readLaws ∈ lw_tbl := (List.mem_append_right _ (List.mem_of_getElem? (i := 468) (by decide +kernel)))
theorem se_X4_readLaws : Cond.selects yX4_readLaws.cls yX4_readLaws yX4_readLaws ∈ lw_tbl := (List.mem_append_left _ (List.mem_of_getElem? (i := 21) (by decide +kernel)))
theorem ini_RX4 : Cond.initialized RX4 ∈ lw_tbl := (List.mem_append_right _ (List.mem_of_getElem? (i := 9) (by decide +kernel)))
theorem ck_X7_181 : CKV RX7 181 yX4_readLaws cX4_readLaws 5 (some FieldType.int) 2 := ckVN_of (host := "ClapTogether") (List.mem_append_right _ (List.mem_of_getElem? (i := 466) (by decide +kernel))) im_X4_readLaws se_X4_readLaws ini_RX4 cw_X4_readLaws ok_X4_readLaws
theorem cw_X6_giveInts : Cond.code yX6_giveInts cX6_giveInts 5 (some FieldType.int) ∈ lw_tbl := (List.mem_append_right _ (List.mem_of_getElem? (i := 475) (by decide +kernel)))
theorem ok_X6_giveInts : okMH yX6_giveInts 2 := ⟨by decide +kernel, by decide +kernel, by decide +kernel⟩
theorem im_X6_giveInts : Cond.instanceMethod yX6_giveInts ∈ lw_tbl := (List.mem_append_right _ (List.mem_of_getElem? (i := 474) (by decide +kernel)))
theorem se_X6_giveInts : Cond.selects yX6_giveInts.cls yX6_giveInts yX6_giveInts ∈ lw_tbl := (List.mem_append_left _ (List.mem_of_getElem? (i := 22) (by decide +kernel)))
theorem ck_X4_34 : CKV RX4 34 yX6_giveInts cX6_giveInts 5 (some FieldType.int) 2 := ckVN_of (host := "ClapTogether") (List.mem_append_right _ (List.mem_of_getElem? (i := 472) (by decide +kernel))) im_X6_giveInts se_X6_giveInts ini_RX6 cw_X6_giveInts ok_X6_giveInts
theorem cw_X4_readOne : Cond.code yX4_readOne cX4_readOne 3 (some FieldType.boolean) ∈ lw_tbl := (List.mem_append_right _ (List.mem_of_getElem? (i := 482) (by decide +kernel)))
theorem ok_X4_readOne : okMH yX4_readOne 0 := ⟨by decide +kernel, by decide +kernel, by decide +kernel⟩
theorem im_X4_readOne : Cond.instanceMethod yX4_readOne ∈ lw_tbl := (List.mem_append_right _ (List.mem_of_getElem? (i := 481) (by decide +kernel)))
theorem se_X4_readOne : Cond.selects yX4_readOne.cls yX4_readOne yX4_readOne ∈ lw_tbl := (List.mem_append_left _ (List.mem_of_getElem? (i := 23) (by decide +kernel)))
theorem ck_X4_40 : CKV RX4 40 yX4_readOne cX4_readOne 3 (some FieldType.boolean) 0 := ckV_of (List.mem_append_right _ (List.mem_of_getElem? (i := 479) (by decide +kernel))) im_X4_readOne se_X4_readOne ini_RX4 cw_X4_readOne ok_X4_readOne
theorem cw_X4_readName : Cond.code yX4_readName cX4_readName 4 (some FieldType.int) ∈ lw_tbl := (List.mem_append_right _ (List.mem_of_getElem? (i := 486) (by decide +kernel)))
theorem ok_X4_readName : okMH yX4_readName 0 := ⟨by decide +kernel, by decide +kernel, by decide +kernel⟩
theorem im_X4_readName : Cond.instanceMethod yX4_readName ∈ lw_tbl := (List.mem_append_right _ (List.mem_of_getElem? (i := 485) (by decide +kernel)))
theorem se_X4_readName : Cond.selects yX4_readName.cls yX4_readName yX4_readName ∈ lw_tbl := (List.mem_append_left _ (List.mem_of_getElem? (i := 24) (by decide +kernel)))
theorem ck_X4_48 : CKV RX4 48 yX4_readName cX4_readName 4 (some FieldType.int) 0 := ckV_of (List.mem_append_right _ (List.mem_of_getElem? (i := 483) (by decide +kernel))) im_X4_readName se_X4_readName ini_RX4 cw_X4_readName ok_X4_readName
theorem cw_X4_nameOf : Cond.code yX4_nameOf cX4_nameOf 1 (some (FieldType.object "java/lang/String")) ∈ lw_tbl := (List.mem_append_right _ (List.mem_of_getElem? (i := 489) (by decide +kernel)))
theorem ok_X4_nameOf : okMH yX4_nameOf 1 := ⟨by decide +kernel, by decide +kernel, by decide +kernel⟩
theorem im_X4_nameOf : Cond.static yX4_nameOf ∈ lw_tbl := (List.mem_append_right _ (List.mem_of_getElem? (i := 488) (by decide +kernel)))
theorem ck_X4_58 : CKS RX4 58 yX4_nameOf cX4_nameOf 1 (some (FieldType.object "java/lang/String")) 1 := ckS_of (List.mem_append_right _ (List.mem_of_getElem? (i := 487) (by decide +kernel))) im_X4_nameOf ini_RX4 cw_X4_nameOf ok_X4_nameOf
theorem cw_X4_countAlike : Cond.code yX4_countAlike cX4_countAlike 3 (some FieldType.int) ∈ lw_tbl := (List.mem_append_right _ (List.mem_of_getElem? (i := 500) (by decide +kernel)))
theorem ok_X4_countAlike : okMH yX4_countAlike 1 := ⟨by decide +kernel, by decide +kernel, by decide +kernel⟩
theorem im_X4_countAlike : Cond.instanceMethod yX4_countAlike ∈ lw_tbl := (List.mem_append_right _ (List.mem_of_getElem? (i := 499) (by decide +kernel)))
theorem se_X4_countAlike : Cond.selects yX4_countAlike.cls yX4_countAlike yX4_countAlike ∈ lw_tbl := (List.mem_append_left _ (List.mem_of_getElem? (i := 25) (by decide +kernel)))
theorem ck_X4_62 : CKV RX4 62 yX4_countAlike cX4_countAlike 3 (some FieldType.int) 1 := ckV_of (List.mem_append_right _ (List.mem_of_getElem? (i := 497) (by decide +kernel))) im_X4_countAlike se_X4_countAlike ini_RX4 cw_X4_countAlike ok_X4_countAlike
theorem cw_X4_isNext : Cond.code yX4_isNext cX4_isNext 3 (some FieldType.boolean) ∈ lw_tbl := (List.mem_append_right _ (List.mem_of_getElem? (i := 552) (by decide +kernel)))
theorem ok_X4_isNext : okMH yX4_isNext 2 := ⟨by decide +kernel, by decide +kernel, by decide +kernel⟩
theorem im_X4_isNext : Cond.instanceMethod yX4_isNext ∈ lw_tbl := (List.mem_append_right _ (List.mem_of_getElem? (i := 551) (by decide +kernel)))
theorem se_X4_isNext : Cond.selects yX4_isNext.cls yX4_isNext yX4_isNext ∈ lw_tbl := (List.mem_append_left _ (List.mem_of_getElem? (i := 26) (by decide +kernel)))
theorem ck_X4_81 : CKV RX4 81 yX4_isNext cX4_isNext 3 (some FieldType.boolean) 2 := ckV_of (List.mem_append_right _ (List.mem_of_getElem? (i := 549) (by decide +kernel))) im_X4_isNext se_X4_isNext ini_RX4 cw_X4_isNext ok_X4_isNext
theorem cw_X4_pass : Cond.code yX4_pass cX4_pass 2 (some FieldType.boolean) ∈ lw_tbl := (List.mem_append_right _ (List.mem_of_getElem? (i := 559) (by decide +kernel)))
theorem ok_X4_pass : okMH yX4_pass 1 := ⟨by decide +kernel, by decide +kernel, by decide +kernel⟩
theorem im_X4_pass : Cond.instanceMethod yX4_pass ∈ lw_tbl := (List.mem_append_right _ (List.mem_of_getElem? (i := 558) (by decide +kernel)))
theorem se_X4_pass : Cond.selects yX4_pass.cls yX4_pass yX4_pass ∈ lw_tbl := (List.mem_append_left _ (List.mem_of_getElem? (i := 27) (by decide +kernel)))
theorem ck_X4_44 : CKV RX4 44 yX4_pass cX4_pass 2 (some FieldType.boolean) 1 := ckV_of (List.mem_append_right _ (List.mem_of_getElem? (i := 556) (by decide +kernel))) im_X4_pass se_X4_pass ini_RX4 cw_X4_pass ok_X4_pass
theorem cw_X4_isDigit : Cond.code yX4_isDigit cX4_isDigit 1 (some FieldType.boolean) ∈ lw_tbl := (List.mem_append_right _ (List.mem_of_getElem? (i := 563) (by decide +kernel)))
theorem ok_X4_isDigit : okMH yX4_isDigit 0 := ⟨by decide +kernel, by decide +kernel, by decide +kernel⟩
theorem im_X4_isDigit : Cond.instanceMethod yX4_isDigit ∈ lw_tbl := (List.mem_append_right _ (List.mem_of_getElem? (i := 562) (by decide +kernel)))
theorem se_X4_isDigit : Cond.selects yX4_isDigit.cls yX4_isDigit yX4_isDigit ∈ lw_tbl := (List.mem_append_left _ (List.mem_of_getElem? (i := 28) (by decide +kernel)))
theorem ck_X4_52 : CKV RX4 52 yX4_isDigit cX4_isDigit 1 (some FieldType.boolean) 0 := ckV_of (List.mem_append_right _ (List.mem_of_getElem? (i := 560) (by decide +kernel))) im_X4_isDigit se_X4_isDigit ini_RX4 cw_X4_isDigit ok_X4_isDigit
theorem ck_X4_85 : CKS RX4 85 yX7_isWithin cX7_isWithin 3 (some FieldType.boolean) 3 := ckSN_of (host := "ClapTogether") (List.mem_append_right _ (List.mem_of_getElem? (i := 564) (by decide +kernel))) im_X7_isWithin ini_RX7 cw_X7_isWithin ok_X7_isWithin
theorem cw_X4_passDigit : Cond.code yX4_passDigit cX4_passDigit 2 (some FieldType.int) ∈ lw_tbl := (List.mem_append_right _ (List.mem_of_getElem? (i := 568) (by decide +kernel)))
theorem ok_X4_passDigit : okMH yX4_passDigit 0 := ⟨by decide +kernel, by decide +kernel, by decide +kernel⟩
theorem im_X4_passDigit : Cond.instanceMethod yX4_passDigit ∈ lw_tbl := (List.mem_append_right _ (List.mem_of_getElem? (i := 567) (by decide +kernel)))
theorem se_X4_passDigit : Cond.selects yX4_passDigit.cls yX4_passDigit yX4_passDigit ∈ lw_tbl := (List.mem_append_left _ (List.mem_of_getElem? (i := 29) (by decide +kernel)))
theorem ck_X4_55 : CKV RX4 55 yX4_passDigit cX4_passDigit 2 (some FieldType.int) 0 := ckV_of (List.mem_append_right _ (List.mem_of_getElem? (i := 565) (by decide +kernel))) im_X4_passDigit se_X4_passDigit ini_RX4 cw_X4_passDigit ok_X4_passDigit
theorem cw_X3_add : Cond.code yX3_add cX3_add 2 (some FieldType.int) ∈ lw_tbl := (List.mem_append_right _ (List.mem_of_getElem? (i := 572) (by decide +kernel)))
theorem ok_X3_add : okMH yX3_add 1 := ⟨by decide +kernel, by decide +kernel, by decide +kernel⟩
theorem im_X3_add : Cond.instanceMethod yX3_add ∈ lw_tbl := (List.mem_append_right _ (List.mem_of_getElem? (i := 571) (by decide +kernel)))
theorem se_X3_add : Cond.selects yX3_add.cls yX3_add yX3_add ∈ lw_tbl := (List.mem_append_left _ (List.mem_of_getElem? (i := 30) (by decide +kernel)))
theorem ini_RX3 : Cond.initialized RX3 ∈ lw_tbl := (List.mem_append_right _ (List.mem_of_getElem? (i := 5) (by decide +kernel)))
theorem ck_X7_189 : CKV RX7 189 yX3_add cX3_add 2 (some FieldType.int) 1 := ckVN_of (host := "ClapTogether") (List.mem_append_right _ (List.mem_of_getElem? (i := 569) (by decide +kernel))) im_X3_add se_X3_add ini_RX3 cw_X3_add ok_X3_add
theorem cw_X7_fault : Cond.code yX7_fault cX7_fault 1 (some FieldType.int) ∈ lw_tbl := (List.mem_append_right _ (List.mem_of_getElem? (i := 577) (by decide +kernel)))
theorem ok_X7_fault : okMH yX7_fault 0 := ⟨by decide +kernel, by decide +kernel, by decide +kernel⟩
theorem im_X7_fault : Cond.instanceMethod yX7_fault ∈ lw_tbl := (List.mem_append_right _ (List.mem_of_getElem? (i := 575) (by decide +kernel)))
theorem se_X7_fault : Cond.selects yX7_fault.cls yX7_fault yX7_fault ∈ lw_tbl := (List.mem_append_right _ (List.mem_of_getElem? (i := 576) (by decide +kernel)))
theorem ck_L_78 : CKV RL 78 yX7_fault cX7_fault 1 (some FieldType.int) 0 := ckV_of (List.mem_append_right _ (List.mem_of_getElem? (i := 574) (by decide +kernel))) im_X7_fault se_X7_fault ini_RX7 cw_X7_fault ok_X7_fault
theorem cw_X7_law : Cond.code yX7_law cX7_law 3 (some FieldType.int) ∈ lw_tbl := (List.mem_append_right _ (List.mem_of_getElem? (i := 581) (by decide +kernel)))
theorem ok_X7_law : okMH yX7_law 2 := ⟨by decide +kernel, by decide +kernel, by decide +kernel⟩
theorem im_X7_law : Cond.instanceMethod yX7_law ∈ lw_tbl := (List.mem_append_right _ (List.mem_of_getElem? (i := 579) (by decide +kernel)))
theorem se_X7_law : Cond.selects yX7_law.cls yX7_law yX7_law ∈ lw_tbl := (List.mem_append_right _ (List.mem_of_getElem? (i := 580) (by decide +kernel)))
theorem ck_L_83 : CKV RL 83 yX7_law cX7_law 3 (some FieldType.int) 2 := ckV_of (List.mem_append_right _ (List.mem_of_getElem? (i := 578) (by decide +kernel))) im_X7_law se_X7_law ini_RX7 cw_X7_law ok_X7_law
theorem cw_X3_has : Cond.code yX3_has cX3_has 2 (some FieldType.boolean) ∈ lw_tbl := (List.mem_append_right _ (List.mem_of_getElem? (i := 585) (by decide +kernel)))
theorem ok_X3_has : okMH yX3_has 1 := ⟨by decide +kernel, by decide +kernel, by decide +kernel⟩
theorem im_X3_has : Cond.instanceMethod yX3_has ∈ lw_tbl := (List.mem_append_right _ (List.mem_of_getElem? (i := 584) (by decide +kernel)))
theorem se_X3_has : Cond.selects yX3_has.cls yX3_has yX3_has ∈ lw_tbl := (List.mem_append_left _ (List.mem_of_getElem? (i := 31) (by decide +kernel)))
theorem ck_X7_193 : CKV RX7 193 yX3_has cX3_has 2 (some FieldType.boolean) 1 := ckVN_of (host := "ClapTogether") (List.mem_append_right _ (List.mem_of_getElem? (i := 582) (by decide +kernel))) im_X3_has se_X3_has ini_RX3 cw_X3_has ok_X3_has
theorem cw_X3_numbersOf : Cond.code yX3_numbersOf cX3_numbersOf 2 (some (FieldType.array FieldType.int)) ∈ lw_tbl := (List.mem_append_right _ (List.mem_of_getElem? (i := 589) (by decide +kernel)))
theorem ok_X3_numbersOf : okMH yX3_numbersOf 1 := ⟨by decide +kernel, by decide +kernel, by decide +kernel⟩
theorem im_X3_numbersOf : Cond.instanceMethod yX3_numbersOf ∈ lw_tbl := (List.mem_append_right _ (List.mem_of_getElem? (i := 588) (by decide +kernel)))
theorem se_X3_numbersOf : Cond.selects yX3_numbersOf.cls yX3_numbersOf yX3_numbersOf ∈ lw_tbl := (List.mem_append_left _ (List.mem_of_getElem? (i := 32) (by decide +kernel)))
theorem ck_X7_194 : CKV RX7 194 yX3_numbersOf cX3_numbersOf 2 (some (FieldType.array FieldType.int)) 1 := ckVN_of (host := "ClapTogether") (List.mem_append_right _ (List.mem_of_getElem? (i := 586) (by decide +kernel))) im_X3_numbersOf se_X3_numbersOf ini_RX3 cw_X3_numbersOf ok_X3_numbersOf
theorem ck_X3_33 : CKV RX3 33 yX3_has cX3_has 2 (some FieldType.boolean) 1 := ckV_of (List.mem_append_right _ (List.mem_of_getElem? (i := 590) (by decide +kernel))) im_X3_has se_X3_has ini_RX3 cw_X3_has ok_X3_has
theorem cw_X7_force : Cond.code yX7_force cX7_force 3 (some FieldType.int) ∈ lw_tbl := (List.mem_append_right _ (List.mem_of_getElem? (i := 594) (by decide +kernel)))
theorem ok_X7_force : okMH yX7_force 1 := ⟨by decide +kernel, by decide +kernel, by decide +kernel⟩
theorem im_X7_force : Cond.instanceMethod yX7_force ∈ lw_tbl := (List.mem_append_right _ (List.mem_of_getElem? (i := 592) (by decide +kernel)))
theorem se_X7_force : Cond.selects yX7_force.cls yX7_force yX7_force ∈ lw_tbl := (List.mem_append_right _ (List.mem_of_getElem? (i := 593) (by decide +kernel)))
theorem ck_L_87 : CKV RL 87 yX7_force cX7_force 3 (some FieldType.int) 1 := ckV_of (List.mem_append_right _ (List.mem_of_getElem? (i := 591) (by decide +kernel))) im_X7_force se_X7_force ini_RX7 cw_X7_force ok_X7_force
theorem cw_X3_hasOrNone : Cond.code yX3_hasOrNone cX3_hasOrNone 2 (some FieldType.boolean) ∈ lw_tbl := (List.mem_append_right _ (List.mem_of_getElem? (i := 598) (by decide +kernel)))
theorem ok_X3_hasOrNone : okMH yX3_hasOrNone 1 := ⟨by decide +kernel, by decide +kernel, by decide +kernel⟩
theorem im_X3_hasOrNone : Cond.instanceMethod yX3_hasOrNone ∈ lw_tbl := (List.mem_append_right _ (List.mem_of_getElem? (i := 597) (by decide +kernel)))
theorem se_X3_hasOrNone : Cond.selects yX3_hasOrNone.cls yX3_hasOrNone yX3_hasOrNone ∈ lw_tbl := (List.mem_append_left _ (List.mem_of_getElem? (i := 33) (by decide +kernel)))
theorem ck_X7_198 : CKV RX7 198 yX3_hasOrNone cX3_hasOrNone 2 (some FieldType.boolean) 1 := ckVN_of (host := "ClapTogether") (List.mem_append_right _ (List.mem_of_getElem? (i := 595) (by decide +kernel))) im_X3_hasOrNone se_X3_hasOrNone ini_RX3 cw_X3_hasOrNone ok_X3_hasOrNone
theorem cw_X7_seed : Cond.code yX7_seed cX7_seed 3 (some FieldType.int) ∈ lw_tbl := (List.mem_append_right _ (List.mem_of_getElem? (i := 602) (by decide +kernel)))
theorem ok_X7_seed : okMH yX7_seed 1 := ⟨by decide +kernel, by decide +kernel, by decide +kernel⟩
theorem im_X7_seed : Cond.instanceMethod yX7_seed ∈ lw_tbl := (List.mem_append_right _ (List.mem_of_getElem? (i := 600) (by decide +kernel)))
theorem se_X7_seed : Cond.selects yX7_seed.cls yX7_seed yX7_seed ∈ lw_tbl := (List.mem_append_right _ (List.mem_of_getElem? (i := 601) (by decide +kernel)))
theorem ck_L_91 : CKV RL 91 yX7_seed cX7_seed 3 (some FieldType.int) 1 := ckV_of (List.mem_append_right _ (List.mem_of_getElem? (i := 599) (by decide +kernel))) im_X7_seed se_X7_seed ini_RX7 cw_X7_seed ok_X7_seed
theorem cw_X7_tick : Cond.code yX7_tick cX7_tick 2 (some FieldType.int) ∈ lw_tbl := (List.mem_append_right _ (List.mem_of_getElem? (i := 606) (by decide +kernel)))
theorem ok_X7_tick : okMH yX7_tick 1 := ⟨by decide +kernel, by decide +kernel, by decide +kernel⟩
theorem im_X7_tick : Cond.instanceMethod yX7_tick ∈ lw_tbl := (List.mem_append_right _ (List.mem_of_getElem? (i := 604) (by decide +kernel)))
theorem se_X7_tick : Cond.selects yX7_tick.cls yX7_tick yX7_tick ∈ lw_tbl := (List.mem_append_right _ (List.mem_of_getElem? (i := 605) (by decide +kernel)))
theorem ck_L_95 : CKV RL 95 yX7_tick cX7_tick 2 (some FieldType.int) 1 := ckV_of (List.mem_append_right _ (List.mem_of_getElem? (i := 603) (by decide +kernel))) im_X7_tick se_X7_tick ini_RX7 cw_X7_tick ok_X7_tick
theorem cw_X3_numbersInForce : Cond.code yX3_numbersInForce cX3_numbersInForce 1 (some (FieldType.array FieldType.int)) ∈ lw_tbl := (List.mem_append_right _ (List.mem_of_getElem? (i := 610) (by decide +kernel)))
theorem ok_X3_numbersInForce : okMH yX3_numbersInForce 0 := ⟨by decide +kernel, by decide +kernel, by decide +kernel⟩
theorem im_X3_numbersInForce : Cond.instanceMethod yX3_numbersInForce ∈ lw_tbl := (List.mem_append_right _ (List.mem_of_getElem? (i := 609) (by decide +kernel)))
theorem se_X3_numbersInForce : Cond.selects yX3_numbersInForce.cls yX3_numbersInForce yX3_numbersInForce ∈ lw_tbl := (List.mem_append_left _ (List.mem_of_getElem? (i := 34) (by decide +kernel)))
theorem ck_X7_210 : CKV RX7 210 yX3_numbersInForce cX3_numbersInForce 1 (some (FieldType.array FieldType.int)) 0 := ckVN_of (host := "ClapTogether") (List.mem_append_right _ (List.mem_of_getElem? (i := 607) (by decide +kernel))) im_X3_numbersInForce se_X3_numbersInForce ini_RX3 cw_X3_numbersInForce ok_X3_numbersInForce
theorem ck_X3_37 : CKV RX3 37 yX3_numbersOf cX3_numbersOf 2 (some (FieldType.array FieldType.int)) 1 := ckV_of (List.mem_append_right _ (List.mem_of_getElem? (i := 611) (by decide +kernel))) im_X3_numbersOf se_X3_numbersOf ini_RX3 cw_X3_numbersOf ok_X3_numbersOf
theorem cw_X1_passTicks : Cond.code yX1_passTicks cX1_passTicks 5 none ∈ lw_tbl := (List.mem_append_right _ (List.mem_of_getElem? (i := 615) (by decide +kernel)))
theorem ok_X1_passTicks : okMH yX1_passTicks 2 := ⟨by decide +kernel, by decide +kernel, by decide +kernel⟩
theorem im_X1_passTicks : Cond.instanceMethod yX1_passTicks ∈ lw_tbl := (List.mem_append_right _ (List.mem_of_getElem? (i := 614) (by decide +kernel)))
theorem se_X1_passTicks : Cond.selects yX1_passTicks.cls yX1_passTicks yX1_passTicks ∈ lw_tbl := (List.mem_append_left _ (List.mem_of_getElem? (i := 35) (by decide +kernel)))
theorem ck_X7_214 : CKV RX7 214 yX1_passTicks cX1_passTicks 5 none 2 := ckVN_of (host := "ClapTogether") (List.mem_append_right _ (List.mem_of_getElem? (i := 612) (by decide +kernel))) im_X1_passTicks se_X1_passTicks ini_RX1 cw_X1_passTicks ok_X1_passTicks
theorem cw_X1_turn : Cond.code yX1_turn cX1_turn 4 (some FieldType.int) ∈ lw_tbl := (List.mem_append_right _ (List.mem_of_getElem? (i := 619) (by decide +kernel)))
theorem ok_X1_turn : okMH yX1_turn 1 := ⟨by decide +kernel, by decide +kernel, by decide +kernel⟩
theorem im_X1_turn : Cond.instanceMethod yX1_turn ∈ lw_tbl := (List.mem_append_right _ (List.mem_of_getElem? (i := 618) (by decide +kernel)))
theorem se_X1_turn : Cond.selects yX1_turn.cls yX1_turn yX1_turn ∈ lw_tbl := (List.mem_append_left _ (List.mem_of_getElem? (i := 36) (by decide +kernel)))
theorem ck_X1_125 : CKV RX1 125 yX1_turn cX1_turn 4 (some FieldType.int) 1 := ckV_of (List.mem_append_right _ (List.mem_of_getElem? (i := 616) (by decide +kernel))) im_X1_turn se_X1_turn ini_RX1 cw_X1_turn ok_X1_turn
theorem cw_X1_wouldBegin : Cond.code yX1_wouldBegin cX1_wouldBegin 3 (some FieldType.boolean) ∈ lw_tbl := (List.mem_append_right _ (List.mem_of_getElem? (i := 623) (by decide +kernel)))
theorem ok_X1_wouldBegin : okMH yX1_wouldBegin 2 := ⟨by decide +kernel, by decide +kernel, by decide +kernel⟩
theorem im_X1_wouldBegin : Cond.instanceMethod yX1_wouldBegin ∈ lw_tbl := (List.mem_append_right _ (List.mem_of_getElem? (i := 622) (by decide +kernel)))
theorem se_X1_wouldBegin : Cond.selects yX1_wouldBegin.cls yX1_wouldBegin yX1_wouldBegin ∈ lw_tbl := (List.mem_append_left _ (List.mem_of_getElem? (i := 37) (by decide +kernel)))
theorem ck_X1_136 : CKV RX1 136 yX1_wouldBegin cX1_wouldBegin 3 (some FieldType.boolean) 2 := ckV_of (List.mem_append_right _ (List.mem_of_getElem? (i := 620) (by decide +kernel))) im_X1_wouldBegin se_X1_wouldBegin ini_RX1 cw_X1_wouldBegin ok_X1_wouldBegin
theorem cw_X1_isCaught : Cond.code yX1_isCaught cX1_isCaught 3 (some FieldType.boolean) ∈ lw_tbl := (List.mem_append_right _ (List.mem_of_getElem? (i := 627) (by decide +kernel)))
theorem ok_X1_isCaught : okMH yX1_isCaught 2 := ⟨by decide +kernel, by decide +kernel, by decide +kernel⟩
theorem im_X1_isCaught : Cond.instanceMethod yX1_isCaught ∈ lw_tbl := (List.mem_append_right _ (List.mem_of_getElem? (i := 626) (by decide +kernel)))
theorem se_X1_isCaught : Cond.selects yX1_isCaught.cls yX1_isCaught yX1_isCaught ∈ lw_tbl := (List.mem_append_left _ (List.mem_of_getElem? (i := 38) (by decide +kernel)))
theorem ck_X1_146 : CKV RX1 146 yX1_isCaught cX1_isCaught 3 (some FieldType.boolean) 2 := ckV_of (List.mem_append_right _ (List.mem_of_getElem? (i := 624) (by decide +kernel))) im_X1_isCaught se_X1_isCaught ini_RX1 cw_X1_isCaught ok_X1_isCaught
theorem cw_X1_wouldStop : Cond.code yX1_wouldStop cX1_wouldStop 6 (some FieldType.boolean) ∈ lw_tbl := (List.mem_append_right _ (List.mem_of_getElem? (i := 631) (by decide +kernel)))
theorem ok_X1_wouldStop : okMH yX1_wouldStop 2 := ⟨by decide +kernel, by decide +kernel, by decide +kernel⟩
theorem im_X1_wouldStop : Cond.instanceMethod yX1_wouldStop ∈ lw_tbl := (List.mem_append_right _ (List.mem_of_getElem? (i := 630) (by decide +kernel)))
theorem se_X1_wouldStop : Cond.selects yX1_wouldStop.cls yX1_wouldStop yX1_wouldStop ∈ lw_tbl := (List.mem_append_left _ (List.mem_of_getElem? (i := 39) (by decide +kernel)))
theorem ck_X1_140 : CKV RX1 140 yX1_wouldStop cX1_wouldStop 6 (some FieldType.boolean) 2 := ckV_of (List.mem_append_right _ (List.mem_of_getElem? (i := 628) (by decide +kernel))) im_X1_wouldStop se_X1_wouldStop ini_RX1 cw_X1_wouldStop ok_X1_wouldStop
theorem cw_X1_draw : Cond.code yX1_draw cX1_draw 2 (some FieldType.int) ∈ lw_tbl := (List.mem_append_right _ (List.mem_of_getElem? (i := 635) (by decide +kernel)))
theorem ok_X1_draw : okMH yX1_draw 1 := ⟨by decide +kernel, by decide +kernel, by decide +kernel⟩
theorem im_X1_draw : Cond.instanceMethod yX1_draw ∈ lw_tbl := (List.mem_append_right _ (List.mem_of_getElem? (i := 634) (by decide +kernel)))
theorem se_X1_draw : Cond.selects yX1_draw.cls yX1_draw yX1_draw ∈ lw_tbl := (List.mem_append_left _ (List.mem_of_getElem? (i := 40) (by decide +kernel)))
theorem ck_X1_149 : CKV RX1 149 yX1_draw cX1_draw 2 (some FieldType.int) 1 := ckV_of (List.mem_append_right _ (List.mem_of_getElem? (i := 632) (by decide +kernel))) im_X1_draw se_X1_draw ini_RX1 cw_X1_draw ok_X1_draw
theorem ck_X1_153 : CKS RX1 153 yX7_modulo cX7_modulo 2 (some FieldType.int) 2 := ckSN_of (host := "ClapTogether") (List.mem_append_right _ (List.mem_of_getElem? (i := 637) (by decide +kernel))) im_X7_modulo ini_RX7 cw_X7_modulo ok_X7_modulo
theorem cw_X1_turnOne : Cond.code yX1_turnOne cX1_turnOne 3 none ∈ lw_tbl := (List.mem_append_right _ (List.mem_of_getElem? (i := 641) (by decide +kernel)))
theorem ok_X1_turnOne : okMH yX1_turnOne 1 := ⟨by decide +kernel, by decide +kernel, by decide +kernel⟩
theorem im_X1_turnOne : Cond.instanceMethod yX1_turnOne ∈ lw_tbl := (List.mem_append_right _ (List.mem_of_getElem? (i := 640) (by decide +kernel)))
theorem se_X1_turnOne : Cond.selects yX1_turnOne.cls yX1_turnOne yX1_turnOne ∈ lw_tbl := (List.mem_append_left _ (List.mem_of_getElem? (i := 41) (by decide +kernel)))
theorem ck_X1_143 : CKV RX1 143 yX1_turnOne cX1_turnOne 3 none 1 := ckV_of (List.mem_append_right _ (List.mem_of_getElem? (i := 638) (by decide +kernel))) im_X1_turnOne se_X1_turnOne ini_RX1 cw_X1_turnOne ok_X1_turnOne
theorem cw_X1_beat : Cond.code yX1_beat cX1_beat 5 none ∈ lw_tbl := (List.mem_append_right _ (List.mem_of_getElem? (i := 645) (by decide +kernel)))
theorem ok_X1_beat : okMH yX1_beat 1 := ⟨by decide +kernel, by decide +kernel, by decide +kernel⟩
theorem im_X1_beat : Cond.instanceMethod yX1_beat ∈ lw_tbl := (List.mem_append_right _ (List.mem_of_getElem? (i := 644) (by decide +kernel)))
theorem se_X1_beat : Cond.selects yX1_beat.cls yX1_beat yX1_beat ∈ lw_tbl := (List.mem_append_left _ (List.mem_of_getElem? (i := 42) (by decide +kernel)))
theorem ck_X1_129 : CKV RX1 129 yX1_beat cX1_beat 5 none 1 := ckV_of (List.mem_append_right _ (List.mem_of_getElem? (i := 642) (by decide +kernel))) im_X1_beat se_X1_beat ini_RX1 cw_X1_beat ok_X1_beat
theorem cw_J6_bitCount_0f7a4 : Cond.code yJ6_bitCount_0f7a4 cJ6_bitCount_0f7a4 1 (some FieldType.int) ∈ lw_tbl := (List.mem_append_right _ (List.mem_of_getElem? (i := 648) (by decide +kernel)))
theorem ok_J6_bitCount_0f7a4 : okMH yJ6_bitCount_0f7a4 1 := ⟨by decide +kernel, by decide +kernel, by decide +kernel⟩
theorem im_J6_bitCount_0f7a4 : Cond.static yJ6_bitCount_0f7a4 ∈ lw_tbl := (List.mem_append_right _ (List.mem_of_getElem? (i := 647) (by decide +kernel)))
theorem ini_RJ6 : Cond.initialized RJ6 ∈ lw_tbl := (List.mem_append_right _ (List.mem_of_getElem? (i := 17) (by decide +kernel)))
theorem ck_X1_156 : CKS RX1 156 yJ6_bitCount_0f7a4 cJ6_bitCount_0f7a4 1 (some FieldType.int) 1 := ckS_of (List.mem_append_right _ (List.mem_of_getElem? (i := 646) (by decide +kernel))) im_J6_bitCount_0f7a4 ini_RJ6 cw_J6_bitCount_0f7a4 ok_J6_bitCount_0f7a4
theorem cw_X1_rise : Cond.code yX1_rise cX1_rise 7 none ∈ lw_tbl := (List.mem_append_right _ (List.mem_of_getElem? (i := 655) (by decide +kernel)))
theorem ok_X1_rise : okMH yX1_rise 1 := ⟨by decide +kernel, by decide +kernel, by decide +kernel⟩
theorem im_X1_rise : Cond.instanceMethod yX1_rise ∈ lw_tbl := (List.mem_append_right _ (List.mem_of_getElem? (i := 654) (by decide +kernel)))
theorem se_X1_rise : Cond.selects yX1_rise.cls yX1_rise yX1_rise ∈ lw_tbl := (List.mem_append_left _ (List.mem_of_getElem? (i := 43) (by decide +kernel)))
theorem ck_X1_132 : CKV RX1 132 yX1_rise cX1_rise 7 none 1 := ckV_of (List.mem_append_right _ (List.mem_of_getElem? (i := 652) (by decide +kernel))) im_X1_rise se_X1_rise ini_RX1 cw_X1_rise ok_X1_rise
theorem cw_X1_countBefore : Cond.code yX1_countBefore cX1_countBefore 7 (some FieldType.int) ∈ lw_tbl := (List.mem_append_right _ (List.mem_of_getElem? (i := 659) (by decide +kernel)))
theorem ok_X1_countBefore : okMH yX1_countBefore 2 := ⟨by decide +kernel, by decide +kernel, by decide +kernel⟩
theorem im_X1_countBefore : Cond.static yX1_countBefore ∈ lw_tbl := (List.mem_append_right _ (List.mem_of_getElem? (i := 658) (by decide +kernel)))
theorem ck_X1_166 : CKS RX1 166 yX1_countBefore cX1_countBefore 7 (some FieldType.int) 2 := ckS_of (List.mem_append_right _ (List.mem_of_getElem? (i := 657) (by decide +kernel))) im_X1_countBefore ini_RX1 cw_X1_countBefore ok_X1_countBefore
theorem cw_X1_countOf : Cond.code yX1_countOf cX1_countOf 5 (some FieldType.int) ∈ lw_tbl := (List.mem_append_right _ (List.mem_of_getElem? (i := 663) (by decide +kernel)))
theorem ok_X1_countOf : okMH yX1_countOf 2 := ⟨by decide +kernel, by decide +kernel, by decide +kernel⟩
theorem im_X1_countOf : Cond.instanceMethod yX1_countOf ∈ lw_tbl := (List.mem_append_right _ (List.mem_of_getElem? (i := 662) (by decide +kernel)))
theorem se_X1_countOf : Cond.selects yX1_countOf.cls yX1_countOf yX1_countOf ∈ lw_tbl := (List.mem_append_left _ (List.mem_of_getElem? (i := 44) (by decide +kernel)))
theorem ck_X7_218 : CKV RX7 218 yX1_countOf cX1_countOf 5 (some FieldType.int) 2 := ckVN_of (host := "ClapTogether") (List.mem_append_right _ (List.mem_of_getElem? (i := 660) (by decide +kernel))) im_X1_countOf se_X1_countOf ini_RX1 cw_X1_countOf ok_X1_countOf
theorem cw_X7_begin : Cond.code yX7_begin cX7_begin 2 (some FieldType.int) ∈ lw_tbl := (List.mem_append_right _ (List.mem_of_getElem? (i := 667) (by decide +kernel)))
theorem ok_X7_begin : okMH yX7_begin 1 := ⟨by decide +kernel, by decide +kernel, by decide +kernel⟩
theorem im_X7_begin : Cond.instanceMethod yX7_begin ∈ lw_tbl := (List.mem_append_right _ (List.mem_of_getElem? (i := 665) (by decide +kernel)))
theorem se_X7_begin : Cond.selects yX7_begin.cls yX7_begin yX7_begin ∈ lw_tbl := (List.mem_append_right _ (List.mem_of_getElem? (i := 666) (by decide +kernel)))
theorem ck_L_99 : CKV RL 99 yX7_begin cX7_begin 2 (some FieldType.int) 1 := ckV_of (List.mem_append_right _ (List.mem_of_getElem? (i := 664) (by decide +kernel))) im_X7_begin se_X7_begin ini_RX7 cw_X7_begin ok_X7_begin
theorem cw_X1_ask : Cond.code yX1_ask cX1_ask 2 none ∈ lw_tbl := (List.mem_append_right _ (List.mem_of_getElem? (i := 671) (by decide +kernel)))
theorem ok_X1_ask : okMH yX1_ask 1 := ⟨by decide +kernel, by decide +kernel, by decide +kernel⟩
theorem im_X1_ask : Cond.instanceMethod yX1_ask ∈ lw_tbl := (List.mem_append_right _ (List.mem_of_getElem? (i := 670) (by decide +kernel)))
theorem se_X1_ask : Cond.selects yX1_ask.cls yX1_ask yX1_ask ∈ lw_tbl := (List.mem_append_left _ (List.mem_of_getElem? (i := 45) (by decide +kernel)))
theorem ck_X7_224 : CKV RX7 224 yX1_ask cX1_ask 2 none 1 := ckVN_of (host := "ClapTogether") (List.mem_append_right _ (List.mem_of_getElem? (i := 668) (by decide +kernel))) im_X1_ask se_X1_ask ini_RX1 cw_X1_ask ok_X1_ask
theorem cw_X7_hush : Cond.code yX7_hush cX7_hush 1 (some FieldType.int) ∈ lw_tbl := (List.mem_append_right _ (List.mem_of_getElem? (i := 675) (by decide +kernel)))
theorem ok_X7_hush : okMH yX7_hush 0 := ⟨by decide +kernel, by decide +kernel, by decide +kernel⟩
theorem im_X7_hush : Cond.instanceMethod yX7_hush ∈ lw_tbl := (List.mem_append_right _ (List.mem_of_getElem? (i := 673) (by decide +kernel)))
theorem se_X7_hush : Cond.selects yX7_hush.cls yX7_hush yX7_hush ∈ lw_tbl := (List.mem_append_right _ (List.mem_of_getElem? (i := 674) (by decide +kernel)))
theorem ck_L_103 : CKV RL 103 yX7_hush cX7_hush 1 (some FieldType.int) 0 := ckV_of (List.mem_append_right _ (List.mem_of_getElem? (i := 672) (by decide +kernel))) im_X7_hush se_X7_hush ini_RX7 cw_X7_hush ok_X7_hush
theorem cw_X1_calm : Cond.code yX1_calm cX1_calm 2 (some FieldType.int) ∈ lw_tbl := (List.mem_append_right _ (List.mem_of_getElem? (i := 679) (by decide +kernel)))
theorem ok_X1_calm : okMH yX1_calm 0 := ⟨by decide +kernel, by decide +kernel, by decide +kernel⟩
theorem im_X1_calm : Cond.instanceMethod yX1_calm ∈ lw_tbl := (List.mem_append_right _ (List.mem_of_getElem? (i := 678) (by decide +kernel)))
theorem se_X1_calm : Cond.selects yX1_calm.cls yX1_calm yX1_calm ∈ lw_tbl := (List.mem_append_left _ (List.mem_of_getElem? (i := 46) (by decide +kernel)))
theorem ck_X7_228 : CKV RX7 228 yX1_calm cX1_calm 2 (some FieldType.int) 0 := ckVN_of (host := "ClapTogether") (List.mem_append_right _ (List.mem_of_getElem? (i := 676) (by decide +kernel))) im_X1_calm se_X1_calm ini_RX1 cw_X1_calm ok_X1_calm
theorem ck_X1_96 : CKV RX1 96 yX1_countOf cX1_countOf 5 (some FieldType.int) 2 := ckV_of (List.mem_append_right _ (List.mem_of_getElem? (i := 680) (by decide +kernel))) im_X1_countOf se_X1_countOf ini_RX1 cw_X1_countOf ok_X1_countOf
theorem cw_X7_heard : Cond.code yX7_heard cX7_heard 2 (some FieldType.int) ∈ lw_tbl := (List.mem_append_right _ (List.mem_of_getElem? (i := 684) (by decide +kernel)))
theorem ok_X7_heard : okMH yX7_heard 1 := ⟨by decide +kernel, by decide +kernel, by decide +kernel⟩
theorem im_X7_heard : Cond.instanceMethod yX7_heard ∈ lw_tbl := (List.mem_append_right _ (List.mem_of_getElem? (i := 682) (by decide +kernel)))
theorem se_X7_heard : Cond.selects yX7_heard.cls yX7_heard yX7_heard ∈ lw_tbl := (List.mem_append_right _ (List.mem_of_getElem? (i := 683) (by decide +kernel)))
theorem ck_L_107 : CKV RL 107 yX7_heard cX7_heard 2 (some FieldType.int) 1 := ckV_of (List.mem_append_right _ (List.mem_of_getElem? (i := 681) (by decide +kernel))) im_X7_heard se_X7_heard ini_RX7 cw_X7_heard ok_X7_heard
theorem ck_X7_232 : CKV RX7 232 yX1_listen cX1_listen 2 none 0 := ckVN_of (host := "ClapTogether") (List.mem_append_right _ (List.mem_of_getElem? (i := 685) (by decide +kernel))) im_X1_listen se_X1_listen ini_RX1 cw_X1_listen ok_X1_listen
theorem cw_X7_beside : Cond.code yX7_beside cX7_beside 2 (some FieldType.int) ∈ lw_tbl := (List.mem_append_right _ (List.mem_of_getElem? (i := 689) (by decide +kernel)))
theorem ok_X7_beside : okMH yX7_beside 1 := ⟨by decide +kernel, by decide +kernel, by decide +kernel⟩
theorem im_X7_beside : Cond.instanceMethod yX7_beside ∈ lw_tbl := (List.mem_append_right _ (List.mem_of_getElem? (i := 687) (by decide +kernel)))
theorem se_X7_beside : Cond.selects yX7_beside.cls yX7_beside yX7_beside ∈ lw_tbl := (List.mem_append_right _ (List.mem_of_getElem? (i := 688) (by decide +kernel)))
theorem ck_L_111 : CKV RL 111 yX7_beside cX7_beside 2 (some FieldType.int) 1 := ckV_of (List.mem_append_right _ (List.mem_of_getElem? (i := 686) (by decide +kernel))) im_X7_beside se_X7_beside ini_RX7 cw_X7_beside ok_X7_beside
theorem cw_X7_many : Cond.code yX7_many cX7_many 2 (some FieldType.int) ∈ lw_tbl := (List.mem_append_right _ (List.mem_of_getElem? (i := 693) (by decide +kernel)))
theorem ok_X7_many : okMH yX7_many 1 := ⟨by decide +kernel, by decide +kernel, by decide +kernel⟩
theorem im_X7_many : Cond.instanceMethod yX7_many ∈ lw_tbl := (List.mem_append_right _ (List.mem_of_getElem? (i := 691) (by decide +kernel)))
theorem se_X7_many : Cond.selects yX7_many.cls yX7_many yX7_many ∈ lw_tbl := (List.mem_append_right _ (List.mem_of_getElem? (i := 692) (by decide +kernel)))
theorem ck_L_115 : CKV RL 115 yX7_many cX7_many 2 (some FieldType.int) 1 := ckV_of (List.mem_append_right _ (List.mem_of_getElem? (i := 690) (by decide +kernel))) im_X7_many se_X7_many ini_RX7 cw_X7_many ok_X7_many
theorem ck_X7_244 : CKS RX7 244 yJ6_bitCount_0f7a4 cJ6_bitCount_0f7a4 1 (some FieldType.int) 1 := ckS_of (List.mem_append_right _ (List.mem_of_getElem? (i := 694) (by decide +kernel))) im_J6_bitCount_0f7a4 ini_RJ6 cw_J6_bitCount_0f7a4 ok_J6_bitCount_0f7a4
theorem cw_X7_hits : Cond.code yX7_hits cX7_hits 1 (some FieldType.int) ∈ lw_tbl := (List.mem_append_right _ (List.mem_of_getElem? (i := 698) (by decide +kernel)))
theorem ok_X7_hits : okMH yX7_hits 0 := ⟨by decide +kernel, by decide +kernel, by decide +kernel⟩
theorem im_X7_hits : Cond.instanceMethod yX7_hits ∈ lw_tbl := (List.mem_append_right _ (List.mem_of_getElem? (i := 696) (by decide +kernel)))
theorem se_X7_hits : Cond.selects yX7_hits.cls yX7_hits yX7_hits ∈ lw_tbl := (List.mem_append_right _ (List.mem_of_getElem? (i := 697) (by decide +kernel)))
theorem ck_L_119 : CKV RL 119 yX7_hits cX7_hits 1 (some FieldType.int) 0 := ckV_of (List.mem_append_right _ (List.mem_of_getElem? (i := 695) (by decide +kernel))) im_X7_hits se_X7_hits ini_RX7 cw_X7_hits ok_X7_hits
theorem cw_X7_step : Cond.code yX7_step cX7_step 2 (some FieldType.int) ∈ lw_tbl := (List.mem_append_right _ (List.mem_of_getElem? (i := 702) (by decide +kernel)))
theorem ok_X7_step : okMH yX7_step 0 := ⟨by decide +kernel, by decide +kernel, by decide +kernel⟩
theorem im_X7_step : Cond.instanceMethod yX7_step ∈ lw_tbl := (List.mem_append_right _ (List.mem_of_getElem? (i := 700) (by decide +kernel)))
theorem se_X7_step : Cond.selects yX7_step.cls yX7_step yX7_step ∈ lw_tbl := (List.mem_append_right _ (List.mem_of_getElem? (i := 701) (by decide +kernel)))
theorem ck_L_123 : CKV RL 123 yX7_step cX7_step 2 (some FieldType.int) 0 := ckV_of (List.mem_append_right _ (List.mem_of_getElem? (i := 699) (by decide +kernel))) im_X7_step se_X7_step ini_RX7 cw_X7_step ok_X7_step
theorem cw_X7_length : Cond.code yX7_length cX7_length 3 (some FieldType.int) ∈ lw_tbl := (List.mem_append_right _ (List.mem_of_getElem? (i := 706) (by decide +kernel)))
theorem ok_X7_length : okMH yX7_length 2 := ⟨by decide +kernel, by decide +kernel, by decide +kernel⟩
theorem im_X7_length : Cond.instanceMethod yX7_length ∈ lw_tbl := (List.mem_append_right _ (List.mem_of_getElem? (i := 704) (by decide +kernel)))
theorem se_X7_length : Cond.selects yX7_length.cls yX7_length yX7_length ∈ lw_tbl := (List.mem_append_right _ (List.mem_of_getElem? (i := 705) (by decide +kernel)))
theorem ck_L_127 : CKV RL 127 yX7_length cX7_length 3 (some FieldType.int) 2 := ckV_of (List.mem_append_right _ (List.mem_of_getElem? (i := 703) (by decide +kernel))) im_X7_length se_X7_length ini_RX7 cw_X7_length ok_X7_length
theorem cw_X7_isEvening : Cond.code yX7_isEvening cX7_isEvening 1 (some FieldType.boolean) ∈ lw_tbl := (List.mem_append_right _ (List.mem_of_getElem? (i := 709) (by decide +kernel)))
theorem ok_X7_isEvening : okMH yX7_isEvening 1 := ⟨by decide +kernel, by decide +kernel, by decide +kernel⟩
theorem im_X7_isEvening : Cond.static yX7_isEvening ∈ lw_tbl := (List.mem_append_right _ (List.mem_of_getElem? (i := 708) (by decide +kernel)))
theorem ck_X7_252 : CKS RX7 252 yX7_isEvening cX7_isEvening 1 (some FieldType.boolean) 1 := ckS_of (List.mem_append_right _ (List.mem_of_getElem? (i := 707) (by decide +kernel))) im_X7_isEvening ini_RX7 cw_X7_isEvening ok_X7_isEvening
theorem cw_X7_goThrough : Cond.code yX7_goThrough cX7_goThrough 4 none ∈ lw_tbl := (List.mem_append_right _ (List.mem_of_getElem? (i := 713) (by decide +kernel)))
theorem ok_X7_goThrough : okMH yX7_goThrough 3 := ⟨by decide +kernel, by decide +kernel, by decide +kernel⟩
theorem im_X7_goThrough : Cond.instanceMethod yX7_goThrough ∈ lw_tbl := (List.mem_append_right _ (List.mem_of_getElem? (i := 712) (by decide +kernel)))
theorem se_X7_goThrough : Cond.selects yX7_goThrough.cls yX7_goThrough yX7_goThrough ∈ lw_tbl := (List.mem_append_left _ (List.mem_of_getElem? (i := 47) (by decide +kernel)))
theorem ck_X7_255 : CKV RX7 255 yX7_goThrough cX7_goThrough 4 none 3 := ckV_of (List.mem_append_right _ (List.mem_of_getElem? (i := 710) (by decide +kernel))) im_X7_goThrough se_X7_goThrough ini_RX7 cw_X7_goThrough ok_X7_goThrough
theorem cw_X2_startFrom : Cond.code yX2_startFrom cX2_startFrom 2 none ∈ lw_tbl := (List.mem_append_right _ (List.mem_of_getElem? (i := 717) (by decide +kernel)))
theorem ok_X2_startFrom : okMH yX2_startFrom 1 := ⟨by decide +kernel, by decide +kernel, by decide +kernel⟩
theorem im_X2_startFrom : Cond.instanceMethod yX2_startFrom ∈ lw_tbl := (List.mem_append_right _ (List.mem_of_getElem? (i := 716) (by decide +kernel)))
theorem se_X2_startFrom : Cond.selects yX2_startFrom.cls yX2_startFrom yX2_startFrom ∈ lw_tbl := (List.mem_append_left _ (List.mem_of_getElem? (i := 48) (by decide +kernel)))
theorem ini_RX2 : Cond.initialized RX2 ∈ lw_tbl := (List.mem_append_right _ (List.mem_of_getElem? (i := 8) (by decide +kernel)))
theorem ck_X7_268 : CKV RX7 268 yX2_startFrom cX2_startFrom 2 none 1 := ckVN_of (host := "ClapTogether") (List.mem_append_right _ (List.mem_of_getElem? (i := 714) (by decide +kernel))) im_X2_startFrom se_X2_startFrom ini_RX2 cw_X2_startFrom ok_X2_startFrom
theorem cw_X1_become : Cond.code yX1_become cX1_become 3 none ∈ lw_tbl := (List.mem_append_right _ (List.mem_of_getElem? (i := 721) (by decide +kernel)))
theorem ok_X1_become : okMH yX1_become 1 := ⟨by decide +kernel, by decide +kernel, by decide +kernel⟩
theorem im_X1_become : Cond.instanceMethod yX1_become ∈ lw_tbl := (List.mem_append_right _ (List.mem_of_getElem? (i := 720) (by decide +kernel)))
theorem se_X1_become : Cond.selects yX1_become.cls yX1_become yX1_become ∈ lw_tbl := (List.mem_append_left _ (List.mem_of_getElem? (i := 49) (by decide +kernel)))
theorem ck_X2_29 : CKV RX2 29 yX1_become cX1_become 3 none 1 := ckVN_of (host := "ClapTogether") (List.mem_append_right _ (List.mem_of_getElem? (i := 718) (by decide +kernel))) im_X1_become se_X1_become ini_RX1 cw_X1_become ok_X1_become
theorem cw_X2_goThrough : Cond.code yX2_goThrough cX2_goThrough 5 none ∈ lw_tbl := (List.mem_append_right _ (List.mem_of_getElem? (i := 726) (by decide +kernel)))
theorem ok_X2_goThrough : okMH yX2_goThrough 2 := ⟨by decide +kernel, by decide +kernel, by decide +kernel⟩
theorem im_X2_goThrough : Cond.instanceMethod yX2_goThrough ∈ lw_tbl := (List.mem_append_right _ (List.mem_of_getElem? (i := 725) (by decide +kernel)))
theorem se_X2_goThrough : Cond.selects yX2_goThrough.cls yX2_goThrough yX2_goThrough ∈ lw_tbl := (List.mem_append_left _ (List.mem_of_getElem? (i := 50) (by decide +kernel)))
theorem ck_X7_276 : CKV RX7 276 yX2_goThrough cX2_goThrough 5 none 2 := ckVN_of (host := "ClapTogether") (List.mem_append_right _ (List.mem_of_getElem? (i := 723) (by decide +kernel))) im_X2_goThrough se_X2_goThrough ini_RX2 cw_X2_goThrough ok_X2_goThrough
theorem ck_X2_48 : CKV RX2 48 yX1_listen cX1_listen 2 none 0 := ckVN_of (host := "ClapTogether") (List.mem_append_right _ (List.mem_of_getElem? (i := 729) (by decide +kernel))) im_X1_listen se_X1_listen ini_RX1 cw_X1_listen ok_X1_listen
theorem ck_X2_51 : CKV RX2 51 yX1_turn cX1_turn 4 (some FieldType.int) 1 := ckVN_of (host := "ClapTogether") (List.mem_append_right _ (List.mem_of_getElem? (i := 730) (by decide +kernel))) im_X1_turn se_X1_turn ini_RX1 cw_X1_turn ok_X1_turn
theorem ck_X2_58 : CKS RX2 58 yJ6_bitCount_0f7a4 cJ6_bitCount_0f7a4 1 (some FieldType.int) 1 := ckS_of (List.mem_append_right _ (List.mem_of_getElem? (i := 731) (by decide +kernel))) im_J6_bitCount_0f7a4 ini_RJ6 cw_J6_bitCount_0f7a4 ok_J6_bitCount_0f7a4
theorem cw_X2_lengthOfClapping : Cond.code yX2_lengthOfClapping cX2_lengthOfClapping 3 (some FieldType.int) ∈ lw_tbl := (List.mem_append_right _ (List.mem_of_getElem? (i := 735) (by decide +kernel)))
theorem ok_X2_lengthOfClapping : okMH yX2_lengthOfClapping 0 := ⟨by decide +kernel, by decide +kernel, by decide +kernel⟩
theorem im_X2_lengthOfClapping : Cond.instanceMethod yX2_lengthOfClapping ∈ lw_tbl := (List.mem_append_right _ (List.mem_of_getElem? (i := 734) (by decide +kernel)))
theorem se_X2_lengthOfClapping : Cond.selects yX2_lengthOfClapping.cls yX2_lengthOfClapping yX2_lengthOfClapping ∈ lw_tbl := (List.mem_append_left _ (List.mem_of_getElem? (i := 51) (by decide +kernel)))
theorem ck_X7_259 : CKV RX7 259 yX2_lengthOfClapping cX2_lengthOfClapping 3 (some FieldType.int) 0 := ckVN_of (host := "ClapTogether") (List.mem_append_right _ (List.mem_of_getElem? (i := 732) (by decide +kernel))) im_X2_lengthOfClapping se_X2_lengthOfClapping ini_RX2 cw_X2_lengthOfClapping ok_X2_lengthOfClapping
theorem cw_X7_joined : Cond.code yX7_joined cX7_joined 3 (some FieldType.int) ∈ lw_tbl := (List.mem_append_right _ (List.mem_of_getElem? (i := 739) (by decide +kernel)))
theorem ok_X7_joined : okMH yX7_joined 2 := ⟨by decide +kernel, by decide +kernel, by decide +kernel⟩
theorem im_X7_joined : Cond.instanceMethod yX7_joined ∈ lw_tbl := (List.mem_append_right _ (List.mem_of_getElem? (i := 737) (by decide +kernel)))
theorem se_X7_joined : Cond.selects yX7_joined.cls yX7_joined yX7_joined ∈ lw_tbl := (List.mem_append_right _ (List.mem_of_getElem? (i := 738) (by decide +kernel)))
theorem ck_L_131 : CKV RL 131 yX7_joined cX7_joined 3 (some FieldType.int) 2 := ckV_of (List.mem_append_right _ (List.mem_of_getElem? (i := 736) (by decide +kernel))) im_X7_joined se_X7_joined ini_RX7 cw_X7_joined ok_X7_joined
theorem cw_X2_countJoined : Cond.code yX2_countJoined cX2_countJoined 1 (some FieldType.int) ∈ lw_tbl := (List.mem_append_right _ (List.mem_of_getElem? (i := 743) (by decide +kernel)))
theorem ok_X2_countJoined : okMH yX2_countJoined 0 := ⟨by decide +kernel, by decide +kernel, by decide +kernel⟩
theorem im_X2_countJoined : Cond.instanceMethod yX2_countJoined ∈ lw_tbl := (List.mem_append_right _ (List.mem_of_getElem? (i := 742) (by decide +kernel)))
theorem se_X2_countJoined : Cond.selects yX2_countJoined.cls yX2_countJoined yX2_countJoined ∈ lw_tbl := (List.mem_append_left _ (List.mem_of_getElem? (i := 52) (by decide +kernel)))
theorem ck_X7_262 : CKV RX7 262 yX2_countJoined cX2_countJoined 1 (some FieldType.int) 0 := ckVN_of (host := "ClapTogether") (List.mem_append_right _ (List.mem_of_getElem? (i := 740) (by decide +kernel))) im_X2_countJoined se_X2_countJoined ini_RX2 cw_X2_countJoined ok_X2_countJoined
theorem cw_X7_tally : Cond.code yX7_tally cX7_tally 4 (some FieldType.int) ∈ lw_tbl := (List.mem_append_right _ (List.mem_of_getElem? (i := 747) (by decide +kernel)))
theorem ok_X7_tally : okMH yX7_tally 3 := ⟨by decide +kernel, by decide +kernel, by decide +kernel⟩
theorem im_X7_tally : Cond.instanceMethod yX7_tally ∈ lw_tbl := (List.mem_append_right _ (List.mem_of_getElem? (i := 745) (by decide +kernel)))
theorem se_X7_tally : Cond.selects yX7_tally.cls yX7_tally yX7_tally ∈ lw_tbl := (List.mem_append_right _ (List.mem_of_getElem? (i := 746) (by decide +kernel)))
theorem ck_L_135 : CKV RL 135 yX7_tally cX7_tally 4 (some FieldType.int) 3 := ckV_of (List.mem_append_right _ (List.mem_of_getElem? (i := 744) (by decide +kernel))) im_X7_tally se_X7_tally ini_RX7 cw_X7_tally ok_X7_tally
theorem cw_X7_grows : Cond.code yX7_grows cX7_grows 2 (some FieldType.int) ∈ lw_tbl := (List.mem_append_right _ (List.mem_of_getElem? (i := 751) (by decide +kernel)))
theorem ok_X7_grows : okMH yX7_grows 1 := ⟨by decide +kernel, by decide +kernel, by decide +kernel⟩
theorem im_X7_grows : Cond.instanceMethod yX7_grows ∈ lw_tbl := (List.mem_append_right _ (List.mem_of_getElem? (i := 749) (by decide +kernel)))
theorem se_X7_grows : Cond.selects yX7_grows.cls yX7_grows yX7_grows ∈ lw_tbl := (List.mem_append_right _ (List.mem_of_getElem? (i := 750) (by decide +kernel)))
theorem ck_L_139 : CKV RL 139 yX7_grows cX7_grows 2 (some FieldType.int) 1 := ckV_of (List.mem_append_right _ (List.mem_of_getElem? (i := 748) (by decide +kernel))) im_X7_grows se_X7_grows ini_RX7 cw_X7_grows ok_X7_grows
theorem cw_X1_leaveAloneWith : Cond.code yX1_leaveAloneWith cX1_leaveAloneWith 2 none ∈ lw_tbl := (List.mem_append_right _ (List.mem_of_getElem? (i := 755) (by decide +kernel)))
theorem ok_X1_leaveAloneWith : okMH yX1_leaveAloneWith 1 := ⟨by decide +kernel, by decide +kernel, by decide +kernel⟩
theorem im_X1_leaveAloneWith : Cond.instanceMethod yX1_leaveAloneWith ∈ lw_tbl := (List.mem_append_right _ (List.mem_of_getElem? (i := 754) (by decide +kernel)))
theorem se_X1_leaveAloneWith : Cond.selects yX1_leaveAloneWith.cls yX1_leaveAloneWith yX1_leaveAloneWith ∈ lw_tbl := (List.mem_append_left _ (List.mem_of_getElem? (i := 53) (by decide +kernel)))
theorem ck_X7_273 : CKV RX7 273 yX1_leaveAloneWith cX1_leaveAloneWith 2 none 1 := ckVN_of (host := "ClapTogether") (List.mem_append_right _ (List.mem_of_getElem? (i := 752) (by decide +kernel))) im_X1_leaveAloneWith se_X1_leaveAloneWith ini_RX1 cw_X1_leaveAloneWith ok_X1_leaveAloneWith
theorem ck_X1_106 : CKV RX1 106 yX1_calm cX1_calm 2 (some FieldType.int) 0 := ckV_of (List.mem_append_right _ (List.mem_of_getElem? (i := 756) (by decide +kernel))) im_X1_calm se_X1_calm ini_RX1 cw_X1_calm ok_X1_calm
theorem ck_X1_110 : CKV RX1 110 yX1_ask cX1_ask 2 none 1 := ckV_of (List.mem_append_right _ (List.mem_of_getElem? (i := 757) (by decide +kernel))) im_X1_ask se_X1_ask ini_RX1 cw_X1_ask ok_X1_ask
theorem cw_X7_few : Cond.code yX7_few cX7_few 4 (some FieldType.int) ∈ lw_tbl := (List.mem_append_right _ (List.mem_of_getElem? (i := 761) (by decide +kernel)))
theorem ok_X7_few : okMH yX7_few 1 := ⟨by decide +kernel, by decide +kernel, by decide +kernel⟩
theorem im_X7_few : Cond.instanceMethod yX7_few ∈ lw_tbl := (List.mem_append_right _ (List.mem_of_getElem? (i := 759) (by decide +kernel)))
theorem se_X7_few : Cond.selects yX7_few.cls yX7_few yX7_few ∈ lw_tbl := (List.mem_append_right _ (List.mem_of_getElem? (i := 760) (by decide +kernel)))
theorem ck_L_143 : CKV RL 143 yX7_few cX7_few 4 (some FieldType.int) 1 := ckV_of (List.mem_append_right _ (List.mem_of_getElem? (i := 758) (by decide +kernel))) im_X7_few se_X7_few ini_RX7 cw_X7_few ok_X7_few
theorem cw_X7_areEnough : Cond.code yX7_areEnough cX7_areEnough 4 (some FieldType.boolean) ∈ lw_tbl := (List.mem_append_right _ (List.mem_of_getElem? (i := 765) (by decide +kernel)))
theorem ok_X7_areEnough : okMH yX7_areEnough 3 := ⟨by decide +kernel, by decide +kernel, by decide +kernel⟩
theorem im_X7_areEnough : Cond.instanceMethod yX7_areEnough ∈ lw_tbl := (List.mem_append_right _ (List.mem_of_getElem? (i := 764) (by decide +kernel)))
theorem se_X7_areEnough : Cond.selects yX7_areEnough.cls yX7_areEnough yX7_areEnough ∈ lw_tbl := (List.mem_append_left _ (List.mem_of_getElem? (i := 54) (by decide +kernel)))
theorem ck_X7_278 : CKV RX7 278 yX7_areEnough cX7_areEnough 4 (some FieldType.boolean) 3 := ckV_of (List.mem_append_right _ (List.mem_of_getElem? (i := 762) (by decide +kernel))) im_X7_areEnough se_X7_areEnough ini_RX7 cw_X7_areEnough ok_X7_areEnough
theorem cw_X7_mayBeAsked : Cond.code yX7_mayBeAsked cX7_mayBeAsked 2 (some FieldType.boolean) ∈ lw_tbl := (List.mem_append_right _ (List.mem_of_getElem? (i := 769) (by decide +kernel)))
theorem ok_X7_mayBeAsked : okMH yX7_mayBeAsked 1 := ⟨by decide +kernel, by decide +kernel, by decide +kernel⟩
theorem im_X7_mayBeAsked : Cond.instanceMethod yX7_mayBeAsked ∈ lw_tbl := (List.mem_append_right _ (List.mem_of_getElem? (i := 768) (by decide +kernel)))
theorem se_X7_mayBeAsked : Cond.selects yX7_mayBeAsked.cls yX7_mayBeAsked yX7_mayBeAsked ∈ lw_tbl := (List.mem_append_left _ (List.mem_of_getElem? (i := 55) (by decide +kernel)))
theorem ck_X7_281 : CKV RX7 281 yX7_mayBeAsked cX7_mayBeAsked 2 (some FieldType.boolean) 1 := ckV_of (List.mem_append_right _ (List.mem_of_getElem? (i := 766) (by decide +kernel))) im_X7_mayBeAsked se_X7_mayBeAsked ini_RX7 cw_X7_mayBeAsked ok_X7_mayBeAsked
theorem cw_X7_front : Cond.code yX7_front cX7_front 2 (some FieldType.int) ∈ lw_tbl := (List.mem_append_right _ (List.mem_of_getElem? (i := 773) (by decide +kernel)))
theorem ok_X7_front : okMH yX7_front 1 := ⟨by decide +kernel, by decide +kernel, by decide +kernel⟩
theorem im_X7_front : Cond.instanceMethod yX7_front ∈ lw_tbl := (List.mem_append_right _ (List.mem_of_getElem? (i := 771) (by decide +kernel)))
theorem se_X7_front : Cond.selects yX7_front.cls yX7_front yX7_front ∈ lw_tbl := (List.mem_append_right _ (List.mem_of_getElem? (i := 772) (by decide +kernel)))
theorem ck_L_147 : CKV RL 147 yX7_front cX7_front 2 (some FieldType.int) 1 := ckV_of (List.mem_append_right _ (List.mem_of_getElem? (i := 770) (by decide +kernel))) im_X7_front se_X7_front ini_RX7 cw_X7_front ok_X7_front
theorem cw_X1_leastStandingRow : Cond.code yX1_leastStandingRow cX1_leastStandingRow 3 (some FieldType.int) ∈ lw_tbl := (List.mem_append_right _ (List.mem_of_getElem? (i := 777) (by decide +kernel)))
theorem ok_X1_leastStandingRow : okMH yX1_leastStandingRow 0 := ⟨by decide +kernel, by decide +kernel, by decide +kernel⟩
theorem im_X1_leastStandingRow : Cond.instanceMethod yX1_leastStandingRow ∈ lw_tbl := (List.mem_append_right _ (List.mem_of_getElem? (i := 776) (by decide +kernel)))
theorem se_X1_leastStandingRow : Cond.selects yX1_leastStandingRow.cls yX1_leastStandingRow yX1_leastStandingRow ∈ lw_tbl := (List.mem_append_left _ (List.mem_of_getElem? (i := 56) (by decide +kernel)))
theorem ck_X7_284 : CKV RX7 284 yX1_leastStandingRow cX1_leastStandingRow 3 (some FieldType.int) 0 := ckVN_of (host := "ClapTogether") (List.mem_append_right _ (List.mem_of_getElem? (i := 774) (by decide +kernel))) im_X1_leastStandingRow se_X1_leastStandingRow ini_RX1 cw_X1_leastStandingRow ok_X1_leastStandingRow
theorem cw_X7_fit : Cond.code yX7_fit cX7_fit 6 (some FieldType.int) ∈ lw_tbl := (List.mem_append_right _ (List.mem_of_getElem? (i := 782) (by decide +kernel)))
theorem ok_X7_fit : okMH yX7_fit 2 := ⟨by decide +kernel, by decide +kernel, by decide +kernel⟩
theorem im_X7_fit : Cond.instanceMethod yX7_fit ∈ lw_tbl := (List.mem_append_right _ (List.mem_of_getElem? (i := 780) (by decide +kernel)))
theorem se_X7_fit : Cond.selects yX7_fit.cls yX7_fit yX7_fit ∈ lw_tbl := (List.mem_append_right _ (List.mem_of_getElem? (i := 781) (by decide +kernel)))
theorem ck_L_163 : CKV RL 163 yX7_fit cX7_fit 6 (some FieldType.int) 2 := ckV_of (List.mem_append_right _ (List.mem_of_getElem? (i := 779) (by decide +kernel))) im_X7_fit se_X7_fit ini_RX7 cw_X7_fit ok_X7_fit
theorem cw_X7_isAsTold : Cond.code yX7_isAsTold cX7_isAsTold 4 (some FieldType.boolean) ∈ lw_tbl := (List.mem_append_right _ (List.mem_of_getElem? (i := 786) (by decide +kernel)))
theorem ok_X7_isAsTold : okMH yX7_isAsTold 2 := ⟨by decide +kernel, by decide +kernel, by decide +kernel⟩
theorem im_X7_isAsTold : Cond.instanceMethod yX7_isAsTold ∈ lw_tbl := (List.mem_append_right _ (List.mem_of_getElem? (i := 785) (by decide +kernel)))
theorem se_X7_isAsTold : Cond.selects yX7_isAsTold.cls yX7_isAsTold yX7_isAsTold ∈ lw_tbl := (List.mem_append_left _ (List.mem_of_getElem? (i := 57) (by decide +kernel)))
theorem ck_X7_287 : CKV RX7 287 yX7_isAsTold cX7_isAsTold 4 (some FieldType.boolean) 2 := ckV_of (List.mem_append_right _ (List.mem_of_getElem? (i := 783) (by decide +kernel))) im_X7_isAsTold se_X7_isAsTold ini_RX7 cw_X7_isAsTold ok_X7_isAsTold
theorem cw_X7_part : Cond.code yX7_part cX7_part 5 (some FieldType.int) ∈ lw_tbl := (List.mem_append_right _ (List.mem_of_getElem? (i := 790) (by decide +kernel)))
theorem ok_X7_part : okMH yX7_part 3 := ⟨by decide +kernel, by decide +kernel, by decide +kernel⟩
theorem im_X7_part : Cond.instanceMethod yX7_part ∈ lw_tbl := (List.mem_append_right _ (List.mem_of_getElem? (i := 788) (by decide +kernel)))
theorem se_X7_part : Cond.selects yX7_part.cls yX7_part yX7_part ∈ lw_tbl := (List.mem_append_right _ (List.mem_of_getElem? (i := 789) (by decide +kernel)))
theorem ck_L_167 : CKV RL 167 yX7_part cX7_part 5 (some FieldType.int) 3 := ckV_of (List.mem_append_right _ (List.mem_of_getElem? (i := 787) (by decide +kernel))) im_X7_part se_X7_part ini_RX7 cw_X7_part ok_X7_part
theorem cw_X7_spread : Cond.code yX7_spread cX7_spread 6 (some FieldType.int) ∈ lw_tbl := (List.mem_append_right _ (List.mem_of_getElem? (i := 794) (by decide +kernel)))
theorem ok_X7_spread : okMH yX7_spread 1 := ⟨by decide +kernel, by decide +kernel, by decide +kernel⟩
theorem im_X7_spread : Cond.instanceMethod yX7_spread ∈ lw_tbl := (List.mem_append_right _ (List.mem_of_getElem? (i := 792) (by decide +kernel)))
theorem se_X7_spread : Cond.selects yX7_spread.cls yX7_spread yX7_spread ∈ lw_tbl := (List.mem_append_right _ (List.mem_of_getElem? (i := 793) (by decide +kernel)))
theorem ck_L_171 : CKV RL 171 yX7_spread cX7_spread 6 (some FieldType.int) 1 := ckV_of (List.mem_append_right _ (List.mem_of_getElem? (i := 791) (by decide +kernel))) im_X7_spread se_X7_spread ini_RX7 cw_X7_spread ok_X7_spread
theorem cw_X7_micro : Cond.code yX7_micro cX7_micro 2 (some FieldType.int) ∈ lw_tbl := (List.mem_append_right _ (List.mem_of_getElem? (i := 800) (by decide +kernel)))
theorem ok_X7_micro : okMH yX7_micro 1 := ⟨by decide +kernel, by decide +kernel, by decide +kernel⟩
theorem im_X7_micro : Cond.instanceMethod yX7_micro ∈ lw_tbl := (List.mem_append_right _ (List.mem_of_getElem? (i := 798) (by decide +kernel)))
theorem se_X7_micro : Cond.selects yX7_micro.cls yX7_micro yX7_micro ∈ lw_tbl := (List.mem_append_right _ (List.mem_of_getElem? (i := 799) (by decide +kernel)))
theorem ck_L_151 : CKV RL 151 yX7_micro cX7_micro 2 (some FieldType.int) 1 := ckV_of (List.mem_append_right _ (List.mem_of_getElem? (i := 797) (by decide +kernel))) im_X7_micro se_X7_micro ini_RX7 cw_X7_micro ok_X7_micro
theorem cw_X5_add : Cond.code yX5_add cX5_add 2 (some FieldType.int) ∈ lw_tbl := (List.mem_append_right _ (List.mem_of_getElem? (i := 804) (by decide +kernel)))
theorem ok_X5_add : okMH yX5_add 1 := ⟨by decide +kernel, by decide +kernel, by decide +kernel⟩
theorem im_X5_add : Cond.instanceMethod yX5_add ∈ lw_tbl := (List.mem_append_right _ (List.mem_of_getElem? (i := 803) (by decide +kernel)))
theorem se_X5_add : Cond.selects yX5_add.cls yX5_add yX5_add ∈ lw_tbl := (List.mem_append_left _ (List.mem_of_getElem? (i := 58) (by decide +kernel)))
theorem ini_RX5 : Cond.initialized RX5 ∈ lw_tbl := (List.mem_append_right _ (List.mem_of_getElem? (i := 7) (by decide +kernel)))
theorem ck_X7_299 : CKV RX7 299 yX5_add cX5_add 2 (some FieldType.int) 1 := ckVN_of (host := "ClapTogether") (List.mem_append_right _ (List.mem_of_getElem? (i := 801) (by decide +kernel))) im_X5_add se_X5_add ini_RX5 cw_X5_add ok_X5_add
theorem cw_X7_sum : Cond.code yX7_sum cX7_sum 2 (some FieldType.int) ∈ lw_tbl := (List.mem_append_right _ (List.mem_of_getElem? (i := 808) (by decide +kernel)))
theorem ok_X7_sum : okMH yX7_sum 1 := ⟨by decide +kernel, by decide +kernel, by decide +kernel⟩
theorem im_X7_sum : Cond.instanceMethod yX7_sum ∈ lw_tbl := (List.mem_append_right _ (List.mem_of_getElem? (i := 806) (by decide +kernel)))
theorem se_X7_sum : Cond.selects yX7_sum.cls yX7_sum yX7_sum ∈ lw_tbl := (List.mem_append_right _ (List.mem_of_getElem? (i := 807) (by decide +kernel)))
theorem ck_L_155 : CKV RL 155 yX7_sum cX7_sum 2 (some FieldType.int) 1 := ckV_of (List.mem_append_right _ (List.mem_of_getElem? (i := 805) (by decide +kernel))) im_X7_sum se_X7_sum ini_RX7 cw_X7_sum ok_X7_sum
theorem cw_X5_has : Cond.code yX5_has cX5_has 2 (some FieldType.boolean) ∈ lw_tbl := (List.mem_append_right _ (List.mem_of_getElem? (i := 812) (by decide +kernel)))
theorem ok_X5_has : okMH yX5_has 1 := ⟨by decide +kernel, by decide +kernel, by decide +kernel⟩
theorem im_X5_has : Cond.instanceMethod yX5_has ∈ lw_tbl := (List.mem_append_right _ (List.mem_of_getElem? (i := 811) (by decide +kernel)))
theorem se_X5_has : Cond.selects yX5_has.cls yX5_has yX5_has ∈ lw_tbl := (List.mem_append_left _ (List.mem_of_getElem? (i := 59) (by decide +kernel)))
theorem ck_X7_301 : CKV RX7 301 yX5_has cX5_has 2 (some FieldType.boolean) 1 := ckVN_of (host := "ClapTogether") (List.mem_append_right _ (List.mem_of_getElem? (i := 809) (by decide +kernel))) im_X5_has se_X5_has ini_RX5 cw_X5_has ok_X5_has
theorem cw_X1_takenAt : Cond.code yX1_takenAt cX1_takenAt 6 (some FieldType.int) ∈ lw_tbl := (List.mem_append_right _ (List.mem_of_getElem? (i := 816) (by decide +kernel)))
theorem ok_X1_takenAt : okMH yX1_takenAt 2 := ⟨by decide +kernel, by decide +kernel, by decide +kernel⟩
theorem im_X1_takenAt : Cond.instanceMethod yX1_takenAt ∈ lw_tbl := (List.mem_append_right _ (List.mem_of_getElem? (i := 815) (by decide +kernel)))
theorem se_X1_takenAt : Cond.selects yX1_takenAt.cls yX1_takenAt yX1_takenAt ∈ lw_tbl := (List.mem_append_left _ (List.mem_of_getElem? (i := 60) (by decide +kernel)))
theorem ck_X7_305 : CKV RX7 305 yX1_takenAt cX1_takenAt 6 (some FieldType.int) 2 := ckVN_of (host := "ClapTogether") (List.mem_append_right _ (List.mem_of_getElem? (i := 813) (by decide +kernel))) im_X1_takenAt se_X1_takenAt ini_RX1 cw_X1_takenAt ok_X1_takenAt
theorem cw_X7_gloved : Cond.code yX7_gloved cX7_gloved 2 (some FieldType.int) ∈ lw_tbl := (List.mem_append_right _ (List.mem_of_getElem? (i := 820) (by decide +kernel)))
theorem ok_X7_gloved : okMH yX7_gloved 1 := ⟨by decide +kernel, by decide +kernel, by decide +kernel⟩
theorem im_X7_gloved : Cond.instanceMethod yX7_gloved ∈ lw_tbl := (List.mem_append_right _ (List.mem_of_getElem? (i := 818) (by decide +kernel)))
theorem se_X7_gloved : Cond.selects yX7_gloved.cls yX7_gloved yX7_gloved ∈ lw_tbl := (List.mem_append_right _ (List.mem_of_getElem? (i := 819) (by decide +kernel)))
theorem ck_L_159 : CKV RL 159 yX7_gloved cX7_gloved 2 (some FieldType.int) 1 := ckV_of (List.mem_append_right _ (List.mem_of_getElem? (i := 817) (by decide +kernel))) im_X7_gloved se_X7_gloved ini_RX7 cw_X7_gloved ok_X7_gloved
theorem cw_X7_judge : Cond.code yX7_judge cX7_judge 4 (some FieldType.int) ∈ lw_tbl := (List.mem_append_right _ (List.mem_of_getElem? (i := 824) (by decide +kernel)))
theorem ok_X7_judge : okMH yX7_judge 1 := ⟨by decide +kernel, by decide +kernel, by decide +kernel⟩
theorem im_X7_judge : Cond.instanceMethod yX7_judge ∈ lw_tbl := (List.mem_append_right _ (List.mem_of_getElem? (i := 822) (by decide +kernel)))
theorem se_X7_judge : Cond.selects yX7_judge.cls yX7_judge yX7_judge ∈ lw_tbl := (List.mem_append_right _ (List.mem_of_getElem? (i := 823) (by decide +kernel)))
theorem ck_L_175 : CKV RL 175 yX7_judge cX7_judge 4 (some FieldType.int) 1 := ckV_of (List.mem_append_right _ (List.mem_of_getElem? (i := 821) (by decide +kernel))) im_X7_judge se_X7_judge ini_RX7 cw_X7_judge ok_X7_judge
theorem cw_X7_act : Cond.code yX7_act cX7_act 4 (some FieldType.int) ∈ lw_tbl := (List.mem_append_right _ (List.mem_of_getElem? (i := 828) (by decide +kernel)))
theorem ok_X7_act : okMH yX7_act 3 := ⟨by decide +kernel, by decide +kernel, by decide +kernel⟩
theorem im_X7_act : Cond.instanceMethod yX7_act ∈ lw_tbl := (List.mem_append_right _ (List.mem_of_getElem? (i := 826) (by decide +kernel)))
theorem se_X7_act : Cond.selects yX7_act.cls yX7_act yX7_act ∈ lw_tbl := (List.mem_append_right _ (List.mem_of_getElem? (i := 827) (by decide +kernel)))
theorem ck_L_179 : CKV RL 179 yX7_act cX7_act 4 (some FieldType.int) 3 := ckV_of (List.mem_append_right _ (List.mem_of_getElem? (i := 825) (by decide +kernel))) im_X7_act se_X7_act ini_RX7 cw_X7_act ok_X7_act
theorem cw_X0_forget : Cond.code yX0_forget cX0_forget 1 none ∈ lw_tbl := (List.mem_append_right _ (List.mem_of_getElem? (i := 832) (by decide +kernel)))
theorem ok_X0_forget : okMH yX0_forget 0 := ⟨by decide +kernel, by decide +kernel, by decide +kernel⟩
theorem im_X0_forget : Cond.instanceMethod yX0_forget ∈ lw_tbl := (List.mem_append_right _ (List.mem_of_getElem? (i := 831) (by decide +kernel)))
theorem se_X0_forget : Cond.selects yX0_forget.cls yX0_forget yX0_forget ∈ lw_tbl := (List.mem_append_left _ (List.mem_of_getElem? (i := 61) (by decide +kernel)))
theorem ini_RX0 : Cond.initialized RX0 ∈ lw_tbl := (List.mem_append_right _ (List.mem_of_getElem? (i := 10) (by decide +kernel)))
theorem ck_X7_309 : CKV RX7 309 yX0_forget cX0_forget 1 none 0 := ckVN_of (host := "ClapTogether") (List.mem_append_right _ (List.mem_of_getElem? (i := 829) (by decide +kernel))) im_X0_forget se_X0_forget ini_RX0 cw_X0_forget ok_X0_forget
theorem cw_X0_perform : Cond.code yX0_perform cX0_perform 5 (some FieldType.int) ∈ lw_tbl := (List.mem_append_right _ (List.mem_of_getElem? (i := 836) (by decide +kernel)))
theorem ok_X0_perform : okMH yX0_perform 4 := ⟨by decide +kernel, by decide +kernel, by decide +kernel⟩
theorem im_X0_perform : Cond.instanceMethod yX0_perform ∈ lw_tbl := (List.mem_append_right _ (List.mem_of_getElem? (i := 835) (by decide +kernel)))
theorem se_X0_perform : Cond.selects yX0_perform.cls yX0_perform yX0_perform ∈ lw_tbl := (List.mem_append_left _ (List.mem_of_getElem? (i := 62) (by decide +kernel)))
theorem ck_X7_312 : CKV RX7 312 yX0_perform cX0_perform 5 (some FieldType.int) 4 := ckVN_of (host := "ClapTogether") (List.mem_append_right _ (List.mem_of_getElem? (i := 833) (by decide +kernel))) im_X0_perform se_X0_perform ini_RX0 cw_X0_perform ok_X0_perform
theorem cw_X0_call : Cond.code yX0_call cX0_call 7 (some FieldType.int) ∈ lw_tbl := (List.mem_append_right _ (List.mem_of_getElem? (i := 840) (by decide +kernel)))
theorem ok_X0_call : okMH yX0_call 4 := ⟨by decide +kernel, by decide +kernel, by decide +kernel⟩
theorem im_X0_call : Cond.instanceMethod yX0_call ∈ lw_tbl := (List.mem_append_right _ (List.mem_of_getElem? (i := 839) (by decide +kernel)))
theorem se_X0_call : Cond.selects yX0_call.cls yX0_call yX0_call ∈ lw_tbl := (List.mem_append_left _ (List.mem_of_getElem? (i := 63) (by decide +kernel)))
theorem ck_X0_34 : CKV RX0 34 yX0_call cX0_call 7 (some FieldType.int) 4 := ckV_of (List.mem_append_right _ (List.mem_of_getElem? (i := 837) (by decide +kernel))) im_X0_call se_X0_call ini_RX0 cw_X0_call ok_X0_call
theorem cw_X0_bodyOf : Cond.code yX0_bodyOf cX0_bodyOf 3 (some FieldType.int) ∈ lw_tbl := (List.mem_append_right _ (List.mem_of_getElem? (i := 843) (by decide +kernel)))
theorem ok_X0_bodyOf : okMH yX0_bodyOf 2 := ⟨by decide +kernel, by decide +kernel, by decide +kernel⟩
theorem im_X0_bodyOf : Cond.static yX0_bodyOf ∈ lw_tbl := (List.mem_append_right _ (List.mem_of_getElem? (i := 842) (by decide +kernel)))
theorem ck_X0_38 : CKS RX0 38 yX0_bodyOf cX0_bodyOf 3 (some FieldType.int) 2 := ckS_of (List.mem_append_right _ (List.mem_of_getElem? (i := 841) (by decide +kernel))) im_X0_bodyOf ini_RX0 cw_X0_bodyOf ok_X0_bodyOf
theorem ck_X0_42 : CKS RX0 42 yX7_kindAbove cX7_kindAbove 1 (some FieldType.int) 1 := ckSN_of (host := "ClapTogether") (List.mem_append_right _ (List.mem_of_getElem? (i := 846) (by decide +kernel))) im_X7_kindAbove ini_RX7 cw_X7_kindAbove ok_X7_kindAbove
theorem cw_X0_note : Cond.code yX0_note cX0_note 2 none ∈ lw_tbl := (List.mem_append_right _ (List.mem_of_getElem? (i := 850) (by decide +kernel)))
theorem ok_X0_note : okMH yX0_note 1 := ⟨by decide +kernel, by decide +kernel, by decide +kernel⟩
theorem im_X0_note : Cond.instanceMethod yX0_note ∈ lw_tbl := (List.mem_append_right _ (List.mem_of_getElem? (i := 849) (by decide +kernel)))
theorem se_X0_note : Cond.selects yX0_note.cls yX0_note yX0_note ∈ lw_tbl := (List.mem_append_left _ (List.mem_of_getElem? (i := 64) (by decide +kernel)))
theorem ck_X0_46 : CKV RX0 46 yX0_note cX0_note 2 none 1 := ckV_of (List.mem_append_right _ (List.mem_of_getElem? (i := 847) (by decide +kernel))) im_X0_note se_X0_note ini_RX0 cw_X0_note ok_X0_note
theorem cw_X0_answerOf : Cond.code yX0_answerOf cX0_answerOf 5 (some FieldType.int) ∈ lw_tbl := (List.mem_append_right _ (List.mem_of_getElem? (i := 854) (by decide +kernel)))
theorem ok_X0_answerOf : okMH yX0_answerOf 4 := ⟨by decide +kernel, by decide +kernel, by decide +kernel⟩
theorem im_X0_answerOf : Cond.instanceMethod yX0_answerOf ∈ lw_tbl := (List.mem_append_right _ (List.mem_of_getElem? (i := 853) (by decide +kernel)))
theorem se_X0_answerOf : Cond.selects yX0_answerOf.cls yX0_answerOf yX0_answerOf ∈ lw_tbl := (List.mem_append_left _ (List.mem_of_getElem? (i := 65) (by decide +kernel)))
theorem ck_X0_50 : CKV RX0 50 yX0_answerOf cX0_answerOf 5 (some FieldType.int) 4 := ckV_of (List.mem_append_right _ (List.mem_of_getElem? (i := 851) (by decide +kernel))) im_X0_answerOf se_X0_answerOf ini_RX0 cw_X0_answerOf ok_X0_answerOf
theorem cw_X7_trace : Cond.code yX7_trace cX7_trace 2 (some FieldType.int) ∈ lw_tbl := (List.mem_append_right _ (List.mem_of_getElem? (i := 858) (by decide +kernel)))
theorem ok_X7_trace : okMH yX7_trace 1 := ⟨by decide +kernel, by decide +kernel, by decide +kernel⟩
theorem im_X7_trace : Cond.instanceMethod yX7_trace ∈ lw_tbl := (List.mem_append_right _ (List.mem_of_getElem? (i := 856) (by decide +kernel)))
theorem se_X7_trace : Cond.selects yX7_trace.cls yX7_trace yX7_trace ∈ lw_tbl := (List.mem_append_right _ (List.mem_of_getElem? (i := 857) (by decide +kernel)))
theorem ck_L_183 : CKV RL 183 yX7_trace cX7_trace 2 (some FieldType.int) 1 := ckV_of (List.mem_append_right _ (List.mem_of_getElem? (i := 855) (by decide +kernel))) im_X7_trace se_X7_trace ini_RX7 cw_X7_trace ok_X7_trace
theorem cw_X7_image : Cond.code yX7_image cX7_image 1 (some FieldType.int) ∈ lw_tbl := (List.mem_append_right _ (List.mem_of_getElem? (i := 862) (by decide +kernel)))
theorem ok_X7_image : okMH yX7_image 0 := ⟨by decide +kernel, by decide +kernel, by decide +kernel⟩
theorem im_X7_image : Cond.instanceMethod yX7_image ∈ lw_tbl := (List.mem_append_right _ (List.mem_of_getElem? (i := 860) (by decide +kernel)))
theorem se_X7_image : Cond.selects yX7_image.cls yX7_image yX7_image ∈ lw_tbl := (List.mem_append_right _ (List.mem_of_getElem? (i := 861) (by decide +kernel)))
theorem ck_L_187 : CKV RL 187 yX7_image cX7_image 1 (some FieldType.int) 0 := ckV_of (List.mem_append_right _ (List.mem_of_getElem? (i := 859) (by decide +kernel))) im_X7_image se_X7_image ini_RX7 cw_X7_image ok_X7_image
theorem ck_X7_322 : CKV RX7 322 yX1_become cX1_become 3 none 1 := ckVN_of (host := "ClapTogether") (List.mem_append_right _ (List.mem_of_getElem? (i := 863) (by decide +kernel))) im_X1_become se_X1_become ini_RX1 cw_X1_become ok_X1_become
theorem cw_X3_become : Cond.code yX3_become cX3_become 3 none ∈ lw_tbl := (List.mem_append_right _ (List.mem_of_getElem? (i := 867) (by decide +kernel)))
theorem ok_X3_become : okMH yX3_become 1 := ⟨by decide +kernel, by decide +kernel, by decide +kernel⟩
theorem im_X3_become : Cond.instanceMethod yX3_become ∈ lw_tbl := (List.mem_append_right _ (List.mem_of_getElem? (i := 866) (by decide +kernel)))
theorem se_X3_become : Cond.selects yX3_become.cls yX3_become yX3_become ∈ lw_tbl := (List.mem_append_left _ (List.mem_of_getElem? (i := 66) (by decide +kernel)))
theorem ck_X7_325 : CKV RX7 325 yX3_become cX3_become 3 none 1 := ckVN_of (host := "ClapTogether") (List.mem_append_right _ (List.mem_of_getElem? (i := 864) (by decide +kernel))) im_X3_become se_X3_become ini_RX3 cw_X3_become ok_X3_become
theorem cw_X5_become : Cond.code yX5_become cX5_become 2 none ∈ lw_tbl := (List.mem_append_right _ (List.mem_of_getElem? (i := 871) (by decide +kernel)))
theorem ok_X5_become : okMH yX5_become 1 := ⟨by decide +kernel, by decide +kernel, by decide +kernel⟩
theorem im_X5_become : Cond.instanceMethod yX5_become ∈ lw_tbl := (List.mem_append_right _ (List.mem_of_getElem? (i := 870) (by decide +kernel)))
theorem se_X5_become : Cond.selects yX5_become.cls yX5_become yX5_become ∈ lw_tbl := (List.mem_append_left _ (List.mem_of_getElem? (i := 67) (by decide +kernel)))
theorem ck_X7_328 : CKV RX7 328 yX5_become cX5_become 2 none 1 := ckVN_of (host := "ClapTogether") (List.mem_append_right _ (List.mem_of_getElem? (i := 868) (by decide +kernel))) im_X5_become se_X5_become ini_RX5 cw_X5_become ok_X5_become
theorem cw_X7_restore : Cond.code yX7_restore cX7_restore 1 (some FieldType.int) ∈ lw_tbl := (List.mem_append_right _ (List.mem_of_getElem? (i := 876) (by decide +kernel)))
theorem ok_X7_restore : okMH yX7_restore 0 := ⟨by decide +kernel, by decide +kernel, by decide +kernel⟩
theorem im_X7_restore : Cond.instanceMethod yX7_restore ∈ lw_tbl := (List.mem_append_right _ (List.mem_of_getElem? (i := 874) (by decide +kernel)))
theorem se_X7_restore : Cond.selects yX7_restore.cls yX7_restore yX7_restore ∈ lw_tbl := (List.mem_append_right _ (List.mem_of_getElem? (i := 875) (by decide +kernel)))
theorem ck_L_191 : CKV RL 191 yX7_restore cX7_restore 1 (some FieldType.int) 0 := ckV_of (List.mem_append_right _ (List.mem_of_getElem? (i := 873) (by decide +kernel))) im_X7_restore se_X7_restore ini_RX7 cw_X7_restore ok_X7_restore
theorem cw_X6_forgetPeopleFrom : Cond.code yX6_forgetPeopleFrom cX6_forgetPeopleFrom 3 none ∈ lw_tbl := (List.mem_append_right _ (List.mem_of_getElem? (i := 880) (by decide +kernel)))
theorem ok_X6_forgetPeopleFrom : okMH yX6_forgetPeopleFrom 1 := ⟨by decide +kernel, by decide +kernel, by decide +kernel⟩
theorem im_X6_forgetPeopleFrom : Cond.instanceMethod yX6_forgetPeopleFrom ∈ lw_tbl := (List.mem_append_right _ (List.mem_of_getElem? (i := 879) (by decide +kernel)))
theorem se_X6_forgetPeopleFrom : Cond.selects yX6_forgetPeopleFrom.cls yX6_forgetPeopleFrom yX6_forgetPeopleFrom ∈ lw_tbl := (List.mem_append_left _ (List.mem_of_getElem? (i := 68) (by decide +kernel)))
theorem ck_X7_331 : CKV RX7 331 yX6_forgetPeopleFrom cX6_forgetPeopleFrom 3 none 1 := ckVN_of (host := "ClapTogether") (List.mem_append_right _ (List.mem_of_getElem? (i := 877) (by decide +kernel))) im_X6_forgetPeopleFrom se_X6_forgetPeopleFrom ini_RX6 cw_X6_forgetPeopleFrom ok_X6_forgetPeopleFrom
theorem ck_X6_59 : CKV RX6 59 yX6_holdsPerson cX6_holdsPerson 2 (some FieldType.boolean) 1 := ckV_of (List.mem_append_right _ (List.mem_of_getElem? (i := 881) (by decide +kernel))) im_X6_holdsPerson se_X6_holdsPerson ini_RX6 cw_X6_holdsPerson ok_X6_holdsPerson
theorem cw_X7_status : Cond.code yX7_status cX7_status 2 (some FieldType.int) ∈ lw_tbl := (List.mem_append_right _ (List.mem_of_getElem? (i := 885) (by decide +kernel)))
theorem ok_X7_status : okMH yX7_status 1 := ⟨by decide +kernel, by decide +kernel, by decide +kernel⟩
theorem im_X7_status : Cond.instanceMethod yX7_status ∈ lw_tbl := (List.mem_append_right _ (List.mem_of_getElem? (i := 883) (by decide +kernel)))
theorem se_X7_status : Cond.selects yX7_status.cls yX7_status yX7_status ∈ lw_tbl := (List.mem_append_right _ (List.mem_of_getElem? (i := 884) (by decide +kernel)))
theorem ck_L_195 : CKV RL 195 yX7_status cX7_status 2 (some FieldType.int) 1 := ckV_of (List.mem_append_right _ (List.mem_of_getElem? (i := 882) (by decide +kernel))) im_X7_status se_X7_status ini_RX7 cw_X7_status ok_X7_status
theorem gf_X8_132 : GF RX8 132 8 0 := gf_of (C := RX8) (T := TX8) (N := 64) rfl hg_8 (by decide) (nm := "people") (ds := "I") (ow := "ClapTogetherModel") ⟨rfl, rfl, rfl⟩ (List.mem_append_right _ (List.mem_of_getElem? (i := 892) (by decide +kernel)))
theorem pf_X8_132 : PF RX8 132 8 0 .int := pf_of (own := RX8) (index := 132) (j := 0) (C := RX8) (T := TX8) (N := 64) rfl hg_8 (by decide) tyX8 tyX8_ok nmX8 (nm := "people") (ds := "I") (ow := "ClapTogetherModel") ⟨rfl, rfl, rfl, rfl⟩ rfl (List.mem_append_right _ (List.mem_of_getElem? (i := 892) (by decide +kernel)))
theorem gf_X8_135 : GF RX8 135 8 1 := gf_of (C := RX8) (T := TX8) (N := 64) rfl hg_8 (by decide) (nm := "laws") (ds := "I") (ow := "ClapTogetherModel") ⟨rfl, rfl, rfl⟩ (List.mem_append_right _ (List.mem_of_getElem? (i := 893) (by decide +kernel)))
theorem pf_X8_135 : PF RX8 135 8 1 .int := pf_of (own := RX8) (index := 135) (j := 1) (C := RX8) (T := TX8) (N := 64) rfl hg_8 (by decide) tyX8 tyX8_ok nmX8 (nm := "laws") (ds := "I") (ow := "ClapTogetherModel") ⟨rfl, rfl, rfl, rfl⟩ rfl (List.mem_append_right _ (List.mem_of_getElem? (i := 893) (by decide +kernel)))
theorem gf_X8_296 : GF RX8 296 8 2 := gf_of (C := RX8) (T := TX8) (N := 64) rfl hg_8 (by decide) (nm := "micros") (ds := "I") (ow := "ClapTogetherModel") ⟨rfl, rfl, rfl⟩ (List.mem_append_right _ (List.mem_of_getElem? (i := 894) (by decide +kernel)))
theorem pf_X8_296 : PF RX8 296 8 2 .int := pf_of (own := RX8) (index := 296) (j := 2) (C := RX8) (T := TX8) (N := 64) rfl hg_8 (by decide) tyX8 tyX8_ok nmX8 (nm := "micros") (ds := "I") (ow := "ClapTogetherModel") ⟨rfl, rfl, rfl, rfl⟩ rfl (List.mem_append_right _ (List.mem_of_getElem? (i := 894) (by decide +kernel)))
theorem gf_X8_223 : GF RX8 223 8 3 := gf_of (C := RX8) (T := TX8) (N := 64) rfl hg_8 (by decide) (nm := "now") (ds := "I") (ow := "ClapTogetherModel") ⟨rfl, rfl, rfl⟩ (List.mem_append_right _ (List.mem_of_getElem? (i := 895) (by decide +kernel)))
theorem pf_X8_223 : PF RX8 223 8 3 .int := pf_of (own := RX8) (index := 223) (j := 3) (C := RX8) (T := TX8) (N := 64) rfl hg_8 (by decide) tyX8 tyX8_ok nmX8 (nm := "now") (ds := "I") (ow := "ClapTogetherModel") ⟨rfl, rfl, rfl, rfl⟩ rfl (List.mem_append_right _ (List.mem_of_getElem? (i := 895) (by decide +kernel)))
theorem gf_X8_7 : GF RX8 7 8 4 := gf_of (C := RX8) (T := TX8) (N := 64) rfl hg_8 (by decide) (nm := "seed") (ds := "I") (ow := "ClapTogetherModel") ⟨rfl, rfl, rfl⟩ (List.mem_append_right _ (List.mem_of_getElem? (i := 896) (by decide +kernel)))
theorem pf_X8_7 : PF RX8 7 8 4 .int := pf_of (own := RX8) (index := 7) (j := 4) (C := RX8) (T := TX8) (N := 64) rfl hg_8 (by decide) tyX8 tyX8_ok nmX8 (nm := "seed") (ds := "I") (ow := "ClapTogetherModel") ⟨rfl, rfl, rfl, rfl⟩ rfl (List.mem_append_right _ (List.mem_of_getElem? (i := 896) (by decide +kernel)))
theorem gf_X8_13 : GF RX8 13 8 5 := gf_of (C := RX8) (T := TX8) (N := 64) rfl hg_8 (by decide) (nm := "force") (ds := "I") (ow := "ClapTogetherModel") ⟨rfl, rfl, rfl⟩ (List.mem_append_right _ (List.mem_of_getElem? (i := 897) (by decide +kernel)))
theorem pf_X8_13 : PF RX8 13 8 5 .int := pf_of (own := RX8) (index := 13) (j := 5) (C := RX8) (T := TX8) (N := 64) rfl hg_8 (by decide) tyX8 tyX8_ok nmX8 (nm := "force") (ds := "I") (ow := "ClapTogetherModel") ⟨rfl, rfl, rfl, rfl⟩ rfl (List.mem_append_right _ (List.mem_of_getElem? (i := 897) (by decide +kernel)))
theorem gf_X8_16 : GF RX8 16 8 6 := gf_of (C := RX8) (T := TX8) (N := 64) rfl hg_8 (by decide) (nm := "fault") (ds := "I") (ow := "ClapTogetherModel") ⟨rfl, rfl, rfl⟩ (List.mem_append_right _ (List.mem_of_getElem? (i := 898) (by decide +kernel)))
theorem pf_X8_16 : PF RX8 16 8 6 .int := pf_of (own := RX8) (index := 16) (j := 6) (C := RX8) (T := TX8) (N := 64) rfl hg_8 (by decide) tyX8 tyX8_ok nmX8 (nm := "fault") (ds := "I") (ow := "ClapTogetherModel") ⟨rfl, rfl, rfl, rfl⟩ rfl (List.mem_append_right _ (List.mem_of_getElem? (i := 898) (by decide +kernel)))
theorem gf_X8_235 : GF RX8 235 8 7 := gf_of (C := RX8) (T := TX8) (N := 64) rfl hg_8 (by decide) (nm := "lastHits") (ds := "I") (ow := "ClapTogetherModel") ⟨rfl, rfl, rfl⟩ (List.mem_append_right _ (List.mem_of_getElem? (i := 899) (by decide +kernel)))
theorem pf_X8_235 : PF RX8 235 8 7 .int := pf_of (own := RX8) (index := 235) (j := 7) (C := RX8) (T := TX8) (N := 64) rfl hg_8 (by decide) tyX8 tyX8_ok nmX8 (nm := "lastHits") (ds := "I") (ow := "ClapTogetherModel") ⟨rfl, rfl, rfl, rfl⟩ rfl (List.mem_append_right _ (List.mem_of_getElem? (i := 899) (by decide +kernel)))
theorem gf_X8_241 : GF RX8 241 8 8 := gf_of (C := RX8) (T := TX8) (N := 64) rfl hg_8 (by decide) (nm := "lastClaps") (ds := "I") (ow := "ClapTogetherModel") ⟨rfl, rfl, rfl⟩ (List.mem_append_right _ (List.mem_of_getElem? (i := 900) (by decide +kernel)))
theorem pf_X8_241 : PF RX8 241 8 8 .int := pf_of (own := RX8) (index := 241) (j := 8) (C := RX8) (T := TX8) (N := 64) rfl hg_8 (by decide) tyX8 tyX8_ok nmX8 (nm := "lastClaps") (ds := "I") (ow := "ClapTogetherModel") ⟨rfl, rfl, rfl, rfl⟩ rfl (List.mem_append_right _ (List.mem_of_getElem? (i := 900) (by decide +kernel)))
theorem gf_X8_19 : GF RX8 19 8 9 := gf_of (C := RX8) (T := TX8) (N := 64) rfl hg_8 (by decide) (nm := "refused") (ds := "[I") (ow := "ClapTogetherModel") ⟨rfl, rfl, rfl⟩ (List.mem_append_right _ (List.mem_of_getElem? (i := 901) (by decide +kernel)))
theorem gf_X8_23 : GF RX8 23 8 10 := gf_of (C := RX8) (T := TX8) (N := 64) rfl hg_8 (by decide) (nm := "kind") (ds := "[I") (ow := "ClapTogetherModel") ⟨rfl, rfl, rfl⟩ (List.mem_append_right _ (List.mem_of_getElem? (i := 902) (by decide +kernel)))
theorem gf_X8_26 : GF RX8 26 8 11 := gf_of (C := RX8) (T := TX8) (N := 64) rfl hg_8 (by decide) (nm := "seat") (ds := "[I") (ow := "ClapTogetherModel") ⟨rfl, rfl, rfl⟩ (List.mem_append_right _ (List.mem_of_getElem? (i := 903) (by decide +kernel)))
theorem gf_X8_29 : GF RX8 29 8 12 := gf_of (C := RX8) (T := TX8) (N := 64) rfl hg_8 (by decide) (nm := "likes") (ds := "[I") (ow := "ClapTogetherModel") ⟨rfl, rfl, rfl⟩ (List.mem_append_right _ (List.mem_of_getElem? (i := 904) (by decide +kernel)))
theorem gf_X8_32 : GF RX8 32 8 13 := gf_of (C := RX8) (T := TX8) (N := 64) rfl hg_8 (by decide) (nm := "pace") (ds := "[I") (ow := "ClapTogetherModel") ⟨rfl, rfl, rfl⟩ (List.mem_append_right _ (List.mem_of_getElem? (i := 905) (by decide +kernel)))
theorem gf_X8_35 : GF RX8 35 8 14 := gf_of (C := RX8) (T := TX8) (N := 64) rfl hg_8 (by decide) (nm := "at") (ds := "[I") (ow := "ClapTogetherModel") ⟨rfl, rfl, rfl⟩ (List.mem_append_right _ (List.mem_of_getElem? (i := 906) (by decide +kernel)))
theorem gf_X8_38 : GF RX8 38 8 15 := gf_of (C := RX8) (T := TX8) (N := 64) rfl hg_8 (by decide) (nm := "phase") (ds := "[I") (ow := "ClapTogetherModel") ⟨rfl, rfl, rfl⟩ (List.mem_append_right _ (List.mem_of_getElem? (i := 907) (by decide +kernel)))
theorem gf_X8_41 : GF RX8 41 8 16 := gf_of (C := RX8) (T := TX8) (N := 64) rfl hg_8 (by decide) (nm := "mode") (ds := "[I") (ow := "ClapTogetherModel") ⟨rfl, rfl, rfl⟩ (List.mem_append_right _ (List.mem_of_getElem? (i := 908) (by decide +kernel)))
theorem gf_X8_44 : GF RX8 44 8 17 := gf_of (C := RX8) (T := TX8) (N := 64) rfl hg_8 (by decide) (nm := "long1") (ds := "[I") (ow := "ClapTogetherModel") ⟨rfl, rfl, rfl⟩ (List.mem_append_right _ (List.mem_of_getElem? (i := 909) (by decide +kernel)))
theorem gf_X8_47 : GF RX8 47 8 18 := gf_of (C := RX8) (T := TX8) (N := 64) rfl hg_8 (by decide) (nm := "stands") (ds := "[I") (ow := "ClapTogetherModel") ⟨rfl, rfl, rfl⟩ (List.mem_append_right _ (List.mem_of_getElem? (i := 910) (by decide +kernel)))
theorem gf_X8_50 : GF RX8 50 8 19 := gf_of (C := RX8) (T := TX8) (N := 64) rfl hg_8 (by decide) (nm := "glove") (ds := "[I") (ow := "ClapTogetherModel") ⟨rfl, rfl, rfl⟩ (List.mem_append_right _ (List.mem_of_getElem? (i := 911) (by decide +kernel)))
theorem gf_X8_53 : GF RX8 53 8 20 := gf_of (C := RX8) (T := TX8) (N := 64) rfl hg_8 (by decide) (nm := "microSeat") (ds := "[I") (ow := "ClapTogetherModel") ⟨rfl, rfl, rfl⟩ (List.mem_append_right _ (List.mem_of_getElem? (i := 912) (by decide +kernel)))
theorem gf_X8_56 : GF RX8 56 8 21 := gf_of (C := RX8) (T := TX8) (N := 64) rfl hg_8 (by decide) (nm := "first") (ds := "[I") (ow := "ClapTogetherModel") ⟨rfl, rfl, rfl⟩ (List.mem_append_right _ (List.mem_of_getElem? (i := 913) (by decide +kernel)))
theorem gf_X8_59 : GF RX8 59 8 22 := gf_of (C := RX8) (T := TX8) (N := 64) rfl hg_8 (by decide) (nm := "told") (ds := "[I") (ow := "ClapTogetherModel") ⟨rfl, rfl, rfl⟩ (List.mem_append_right _ (List.mem_of_getElem? (i := 914) (by decide +kernel)))
theorem gf_X8_62 : GF RX8 62 8 23 := gf_of (C := RX8) (T := TX8) (N := 64) rfl hg_8 (by decide) (nm := "held") (ds := "[I") (ow := "ClapTogetherModel") ⟨rfl, rfl, rfl⟩ (List.mem_append_right _ (List.mem_of_getElem? (i := 915) (by decide +kernel)))
theorem gf_X8_65 : GF RX8 65 8 24 := gf_of (C := RX8) (T := TX8) (N := 64) rfl hg_8 (by decide) (nm := "sort") (ds := "[I") (ow := "ClapTogetherModel") ⟨rfl, rfl, rfl⟩ (List.mem_append_right _ (List.mem_of_getElem? (i := 916) (by decide +kernel)))
theorem gf_X8_68 : GF RX8 68 8 25 := gf_of (C := RX8) (T := TX8) (N := 64) rfl hg_8 (by decide) (nm := "size") (ds := "[I") (ow := "ClapTogetherModel") ⟨rfl, rfl, rfl⟩ (List.mem_append_right _ (List.mem_of_getElem? (i := 917) (by decide +kernel)))
theorem gf_X8_71 : GF RX8 71 8 26 := gf_of (C := RX8) (T := TX8) (N := 64) rfl hg_8 (by decide) (nm := "shown") (ds := "[I") (ow := "ClapTogetherModel") ⟨rfl, rfl, rfl⟩ (List.mem_append_right _ (List.mem_of_getElem? (i := 918) (by decide +kernel)))
theorem gf_X8_74 : GF RX8 74 8 27 := gf_of (C := RX8) (T := TX8) (N := 64) rfl hg_8 (by decide) (nm := "cells") (ds := "[J") (ow := "ClapTogetherModel") ⟨rfl, rfl, rfl⟩ (List.mem_append_right _ (List.mem_of_getElem? (i := 919) (by decide +kernel)))
theorem gf_X8_78 : GF RX8 78 8 28 := gf_of (C := RX8) (T := TX8) (N := 64) rfl hg_8 (by decide) (nm := "carried") (ds := "[J") (ow := "ClapTogetherModel") ⟨rfl, rfl, rfl⟩ (List.mem_append_right _ (List.mem_of_getElem? (i := 920) (by decide +kernel)))
theorem gf_X8_81 : GF RX8 81 8 29 := gf_of (C := RX8) (T := TX8) (N := 64) rfl hg_8 (by decide) (nm := "words") (ds := "[I") (ow := "ClapTogetherModel") ⟨rfl, rfl, rfl⟩ (List.mem_append_right _ (List.mem_of_getElem? (i := 921) (by decide +kernel)))
theorem gf_X8_84 : GF RX8 84 8 30 := gf_of (C := RX8) (T := TX8) (N := 64) rfl hg_8 (by decide) (nm := "tell") (ds := "[I") (ow := "ClapTogetherModel") ⟨rfl, rfl, rfl⟩ (List.mem_append_right _ (List.mem_of_getElem? (i := 922) (by decide +kernel)))
theorem gf_X8_186 : GF RX8 186 8 31 := gf_of (C := RX8) (T := TX8) (N := 64) rfl hg_8 (by decide) (nm := "base") (ds := "I") (ow := "ClapTogetherModel") ⟨rfl, rfl, rfl⟩ (List.mem_append_right _ (List.mem_of_getElem? (i := 923) (by decide +kernel)))
theorem pf_X8_186 : PF RX8 186 8 31 .int := pf_of (own := RX8) (index := 186) (j := 31) (C := RX8) (T := TX8) (N := 64) rfl hg_8 (by decide) tyX8 tyX8_ok nmX8 (nm := "base") (ds := "I") (ow := "ClapTogetherModel") ⟨rfl, rfl, rfl, rfl⟩ rfl (List.mem_append_right _ (List.mem_of_getElem? (i := 923) (by decide +kernel)))
theorem gf_X8_180 : GF RX8 180 8 32 := gf_of (C := RX8) (T := TX8) (N := 64) rfl hg_8 (by decide) (nm := "place") (ds := "I") (ow := "ClapTogetherModel") ⟨rfl, rfl, rfl⟩ (List.mem_append_right _ (List.mem_of_getElem? (i := 924) (by decide +kernel)))
theorem pf_X8_180 : PF RX8 180 8 32 .int := pf_of (own := RX8) (index := 180) (j := 32) (C := RX8) (T := TX8) (N := 64) rfl hg_8 (by decide) tyX8 tyX8_ok nmX8 (nm := "place") (ds := "I") (ow := "ClapTogetherModel") ⟨rfl, rfl, rfl, rfl⟩ rfl (List.mem_append_right _ (List.mem_of_getElem? (i := 924) (by decide +kernel)))
theorem gf_X8_183 : GF RX8 183 8 33 := gf_of (C := RX8) (T := TX8) (N := 64) rfl hg_8 (by decide) (nm := "end") (ds := "I") (ow := "ClapTogetherModel") ⟨rfl, rfl, rfl⟩ (List.mem_append_right _ (List.mem_of_getElem? (i := 925) (by decide +kernel)))
theorem pf_X8_183 : PF RX8 183 8 33 .int := pf_of (own := RX8) (index := 183) (j := 33) (C := RX8) (T := TX8) (N := 64) rfl hg_8 (by decide) tyX8 tyX8_ok nmX8 (nm := "end") (ds := "I") (ow := "ClapTogetherModel") ⟨rfl, rfl, rfl, rfl⟩ rfl (List.mem_append_right _ (List.mem_of_getElem? (i := 925) (by decide +kernel)))
theorem gf_X8_189 : GF RX8 189 8 34 := gf_of (C := RX8) (T := TX8) (N := 64) rfl hg_8 (by decide) (nm := "wrongAt") (ds := "I") (ow := "ClapTogetherModel") ⟨rfl, rfl, rfl⟩ (List.mem_append_right _ (List.mem_of_getElem? (i := 926) (by decide +kernel)))
theorem pf_X8_189 : PF RX8 189 8 34 .int := pf_of (own := RX8) (index := 189) (j := 34) (C := RX8) (T := TX8) (N := 64) rfl hg_8 (by decide) tyX8 tyX8_ok nmX8 (nm := "wrongAt") (ds := "I") (ow := "ClapTogetherModel") ⟨rfl, rfl, rfl, rfl⟩ rfl (List.mem_append_right _ (List.mem_of_getElem? (i := 926) (by decide +kernel)))
theorem gf_X8_87 : GF RX8 87 8 35 := gf_of (C := RX8) (T := TX8) (N := 64) rfl hg_8 (by decide) (nm := "by") (ds := "I") (ow := "ClapTogetherModel") ⟨rfl, rfl, rfl⟩ (List.mem_append_right _ (List.mem_of_getElem? (i := 927) (by decide +kernel)))
theorem pf_X8_87 : PF RX8 87 8 35 .int := pf_of (own := RX8) (index := 87) (j := 35) (C := RX8) (T := TX8) (N := 64) rfl hg_8 (by decide) tyX8 tyX8_ok nmX8 (nm := "by") (ds := "I") (ow := "ClapTogetherModel") ⟨rfl, rfl, rfl, rfl⟩ rfl (List.mem_append_right _ (List.mem_of_getElem? (i := 927) (by decide +kernel)))
theorem gf_X8_219 : GF RX8 219 8 36 := gf_of (C := RX8) (T := TX8) (N := 64) rfl hg_8 (by decide) (nm := "noAt") (ds := "Z") (ow := "ClapTogetherModel") ⟨rfl, rfl, rfl⟩ (List.mem_append_right _ (List.mem_of_getElem? (i := 928) (by decide +kernel)))
theorem pf_X8_219 : PF RX8 219 8 36 .boolean := pf_of (own := RX8) (index := 219) (j := 36) (C := RX8) (T := TX8) (N := 64) rfl hg_8 (by decide) tyX8 tyX8_ok nmX8 (nm := "noAt") (ds := "Z") (ow := "ClapTogetherModel") ⟨rfl, rfl, rfl, rfl⟩ rfl (List.mem_append_right _ (List.mem_of_getElem? (i := 928) (by decide +kernel)))
theorem gf_X8_90 : GF RX8 90 8 37 := gf_of (C := RX8) (T := TX8) (N := 64) rfl hg_8 (by decide) (nm := "heard") (ds := "[I") (ow := "ClapTogetherModel") ⟨rfl, rfl, rfl⟩ (List.mem_append_right _ (List.mem_of_getElem? (i := 929) (by decide +kernel)))
theorem gf_X8_93 : GF RX8 93 8 38 := gf_of (C := RX8) (T := TX8) (N := 64) rfl hg_8 (by decide) (nm := "near") (ds := "[I") (ow := "ClapTogetherModel") ⟨rfl, rfl, rfl⟩ (List.mem_append_right _ (List.mem_of_getElem? (i := 930) (by decide +kernel)))
theorem gf_X8_96 : GF RX8 96 8 39 := gf_of (C := RX8) (T := TX8) (N := 64) rfl hg_8 (by decide) (nm := "next") (ds := "[I") (ow := "ClapTogetherModel") ⟨rfl, rfl, rfl⟩ (List.mem_append_right _ (List.mem_of_getElem? (i := 931) (by decide +kernel)))
theorem gf_X8_99 : GF RX8 99 8 40 := gf_of (C := RX8) (T := TX8) (N := 64) rfl hg_8 (by decide) (nm := "stood") (ds := "[I") (ow := "ClapTogetherModel") ⟨rfl, rfl, rfl⟩ (List.mem_append_right _ (List.mem_of_getElem? (i := 932) (by decide +kernel)))
theorem gf_X8_102 : GF RX8 102 8 41 := gf_of (C := RX8) (T := TX8) (N := 64) rfl hg_8 (by decide) (nm := "owner") (ds := "[I") (ow := "ClapTogetherModel") ⟨rfl, rfl, rfl⟩ (List.mem_append_right _ (List.mem_of_getElem? (i := 933) (by decide +kernel)))
theorem gf_X8_105 : GF RX8 105 8 42 := gf_of (C := RX8) (T := TX8) (N := 64) rfl hg_8 (by decide) (nm := "wasMode") (ds := "[I") (ow := "ClapTogetherModel") ⟨rfl, rfl, rfl⟩ (List.mem_append_right _ (List.mem_of_getElem? (i := 934) (by decide +kernel)))
theorem gf_X8_108 : GF RX8 108 8 43 := gf_of (C := RX8) (T := TX8) (N := 64) rfl hg_8 (by decide) (nm := "wasLong") (ds := "[I") (ow := "ClapTogetherModel") ⟨rfl, rfl, rfl⟩ (List.mem_append_right _ (List.mem_of_getElem? (i := 935) (by decide +kernel)))
theorem gf_X8_111 : GF RX8 111 8 44 := gf_of (C := RX8) (T := TX8) (N := 64) rfl hg_8 (by decide) (nm := "wasStands") (ds := "[I") (ow := "ClapTogetherModel") ⟨rfl, rfl, rfl⟩ (List.mem_append_right _ (List.mem_of_getElem? (i := 936) (by decide +kernel)))
theorem gf_X8_114 : GF RX8 114 8 45 := gf_of (C := RX8) (T := TX8) (N := 64) rfl hg_8 (by decide) (nm := "wasPhase") (ds := "[I") (ow := "ClapTogetherModel") ⟨rfl, rfl, rfl⟩ (List.mem_append_right _ (List.mem_of_getElem? (i := 937) (by decide +kernel)))
theorem gf_X8_117 : GF RX8 117 8 46 := gf_of (C := RX8) (T := TX8) (N := 64) rfl hg_8 (by decide) (nm := "tally") (ds := "[I") (ow := "ClapTogetherModel") ⟨rfl, rfl, rfl⟩ (List.mem_append_right _ (List.mem_of_getElem? (i := 938) (by decide +kernel)))
theorem gf_X8_256 : GF RX8 256 8 47 := gf_of (C := RX8) (T := TX8) (N := 64) rfl hg_8 (by decide) (nm := "wasSeed") (ds := "I") (ow := "ClapTogetherModel") ⟨rfl, rfl, rfl⟩ (List.mem_append_right _ (List.mem_of_getElem? (i := 939) (by decide +kernel)))
theorem pf_X8_256 : PF RX8 256 8 47 .int := pf_of (own := RX8) (index := 256) (j := 47) (C := RX8) (T := TX8) (N := 64) rfl hg_8 (by decide) tyX8 tyX8_ok nmX8 (nm := "wasSeed") (ds := "I") (ow := "ClapTogetherModel") ⟨rfl, rfl, rfl, rfl⟩ rfl (List.mem_append_right _ (List.mem_of_getElem? (i := 939) (by decide +kernel)))
theorem gf_X8_259 : GF RX8 259 8 48 := gf_of (C := RX8) (T := TX8) (N := 64) rfl hg_8 (by decide) (nm := "wasNow") (ds := "I") (ow := "ClapTogetherModel") ⟨rfl, rfl, rfl⟩ (List.mem_append_right _ (List.mem_of_getElem? (i := 940) (by decide +kernel)))
theorem pf_X8_259 : PF RX8 259 8 48 .int := pf_of (own := RX8) (index := 259) (j := 48) (C := RX8) (T := TX8) (N := 64) rfl hg_8 (by decide) tyX8 tyX8_ok nmX8 (nm := "wasNow") (ds := "I") (ow := "ClapTogetherModel") ⟨rfl, rfl, rfl, rfl⟩ rfl (List.mem_append_right _ (List.mem_of_getElem? (i := 940) (by decide +kernel)))
theorem gf_X8_262 : GF RX8 262 8 49 := gf_of (C := RX8) (T := TX8) (N := 64) rfl hg_8 (by decide) (nm := "wasHits") (ds := "I") (ow := "ClapTogetherModel") ⟨rfl, rfl, rfl⟩ (List.mem_append_right _ (List.mem_of_getElem? (i := 941) (by decide +kernel)))
theorem pf_X8_262 : PF RX8 262 8 49 .int := pf_of (own := RX8) (index := 262) (j := 49) (C := RX8) (T := TX8) (N := 64) rfl hg_8 (by decide) tyX8 tyX8_ok nmX8 (nm := "wasHits") (ds := "I") (ow := "ClapTogetherModel") ⟨rfl, rfl, rfl, rfl⟩ rfl (List.mem_append_right _ (List.mem_of_getElem? (i := 941) (by decide +kernel)))
theorem gf_X8_265 : GF RX8 265 8 50 := gf_of (C := RX8) (T := TX8) (N := 64) rfl hg_8 (by decide) (nm := "wasClaps") (ds := "I") (ow := "ClapTogetherModel") ⟨rfl, rfl, rfl⟩ (List.mem_append_right _ (List.mem_of_getElem? (i := 942) (by decide +kernel)))
theorem pf_X8_265 : PF RX8 265 8 50 .int := pf_of (own := RX8) (index := 265) (j := 50) (C := RX8) (T := TX8) (N := 64) rfl hg_8 (by decide) tyX8 tyX8_ok nmX8 (nm := "wasClaps") (ds := "I") (ow := "ClapTogetherModel") ⟨rfl, rfl, rfl, rfl⟩ rfl (List.mem_append_right _ (List.mem_of_getElem? (i := 942) (by decide +kernel)))
theorem gf_X8_268 : GF RX8 268 8 51 := gf_of (C := RX8) (T := TX8) (N := 64) rfl hg_8 (by decide) (nm := "met") (ds := "I") (ow := "ClapTogetherModel") ⟨rfl, rfl, rfl⟩ (List.mem_append_right _ (List.mem_of_getElem? (i := 943) (by decide +kernel)))
theorem pf_X8_268 : PF RX8 268 8 51 .int := pf_of (own := RX8) (index := 268) (j := 51) (C := RX8) (T := TX8) (N := 64) rfl hg_8 (by decide) tyX8 tyX8_ok nmX8 (nm := "met") (ds := "I") (ow := "ClapTogetherModel") ⟨rfl, rfl, rfl, rfl⟩ rfl (List.mem_append_right _ (List.mem_of_getElem? (i := 943) (by decide +kernel)))
theorem gf_X8_120 : GF RX8 120 8 52 := gf_of (C := RX8) (T := TX8) (N := 64) rfl hg_8 (by decide) (nm := "other") (ds := "[I") (ow := "ClapTogetherModel") ⟨rfl, rfl, rfl⟩ (List.mem_append_right _ (List.mem_of_getElem? (i := 944) (by decide +kernel)))
theorem gf_X8_123 : GF RX8 123 8 53 := gf_of (C := RX8) (T := TX8) (N := 64) rfl hg_8 (by decide) (nm := "trace") (ds := "[I") (ow := "ClapTogetherModel") ⟨rfl, rfl, rfl⟩ (List.mem_append_right _ (List.mem_of_getElem? (i := 945) (by decide +kernel)))
theorem gf_X8_303 : GF RX8 303 8 54 := gf_of (C := RX8) (T := TX8) (N := 64) rfl hg_8 (by decide) (nm := "ran") (ds := "I") (ow := "ClapTogetherModel") ⟨rfl, rfl, rfl⟩ (List.mem_append_right _ (List.mem_of_getElem? (i := 946) (by decide +kernel)))
theorem pf_X8_303 : PF RX8 303 8 54 .int := pf_of (own := RX8) (index := 303) (j := 54) (C := RX8) (T := TX8) (N := 64) rfl hg_8 (by decide) tyX8 tyX8_ok nmX8 (nm := "ran") (ds := "I") (ow := "ClapTogetherModel") ⟨rfl, rfl, rfl, rfl⟩ rfl (List.mem_append_right _ (List.mem_of_getElem? (i := 946) (by decide +kernel)))
theorem gf_X8_126 : GF RX8 126 8 55 := gf_of (C := RX8) (T := TX8) (N := 64) rfl hg_8 (by decide) (nm := "iNow") (ds := "I") (ow := "ClapTogetherModel") ⟨rfl, rfl, rfl⟩ (List.mem_append_right _ (List.mem_of_getElem? (i := 947) (by decide +kernel)))
theorem pf_X8_126 : PF RX8 126 8 55 .int := pf_of (own := RX8) (index := 126) (j := 55) (C := RX8) (T := TX8) (N := 64) rfl hg_8 (by decide) tyX8 tyX8_ok nmX8 (nm := "iNow") (ds := "I") (ow := "ClapTogetherModel") ⟨rfl, rfl, rfl, rfl⟩ rfl (List.mem_append_right _ (List.mem_of_getElem? (i := 947) (by decide +kernel)))
theorem gf_X8_323 : GF RX8 323 8 56 := gf_of (C := RX8) (T := TX8) (N := 64) rfl hg_8 (by decide) (nm := "iPeople") (ds := "I") (ow := "ClapTogetherModel") ⟨rfl, rfl, rfl⟩ (List.mem_append_right _ (List.mem_of_getElem? (i := 948) (by decide +kernel)))
theorem pf_X8_323 : PF RX8 323 8 56 .int := pf_of (own := RX8) (index := 323) (j := 56) (C := RX8) (T := TX8) (N := 64) rfl hg_8 (by decide) tyX8 tyX8_ok nmX8 (nm := "iPeople") (ds := "I") (ow := "ClapTogetherModel") ⟨rfl, rfl, rfl, rfl⟩ rfl (List.mem_append_right _ (List.mem_of_getElem? (i := 948) (by decide +kernel)))
theorem gf_X8_326 : GF RX8 326 8 57 := gf_of (C := RX8) (T := TX8) (N := 64) rfl hg_8 (by decide) (nm := "iLaws") (ds := "I") (ow := "ClapTogetherModel") ⟨rfl, rfl, rfl⟩ (List.mem_append_right _ (List.mem_of_getElem? (i := 949) (by decide +kernel)))
theorem pf_X8_326 : PF RX8 326 8 57 .int := pf_of (own := RX8) (index := 326) (j := 57) (C := RX8) (T := TX8) (N := 64) rfl hg_8 (by decide) tyX8 tyX8_ok nmX8 (nm := "iLaws") (ds := "I") (ow := "ClapTogetherModel") ⟨rfl, rfl, rfl, rfl⟩ rfl (List.mem_append_right _ (List.mem_of_getElem? (i := 949) (by decide +kernel)))
theorem gf_X8_329 : GF RX8 329 8 58 := gf_of (C := RX8) (T := TX8) (N := 64) rfl hg_8 (by decide) (nm := "iMicros") (ds := "I") (ow := "ClapTogetherModel") ⟨rfl, rfl, rfl⟩ (List.mem_append_right _ (List.mem_of_getElem? (i := 950) (by decide +kernel)))
theorem pf_X8_329 : PF RX8 329 8 58 .int := pf_of (own := RX8) (index := 329) (j := 58) (C := RX8) (T := TX8) (N := 64) rfl hg_8 (by decide) tyX8 tyX8_ok nmX8 (nm := "iMicros") (ds := "I") (ow := "ClapTogetherModel") ⟨rfl, rfl, rfl, rfl⟩ rfl (List.mem_append_right _ (List.mem_of_getElem? (i := 950) (by decide +kernel)))
theorem gf_X8_332 : GF RX8 332 8 59 := gf_of (C := RX8) (T := TX8) (N := 64) rfl hg_8 (by decide) (nm := "iSeed") (ds := "I") (ow := "ClapTogetherModel") ⟨rfl, rfl, rfl⟩ (List.mem_append_right _ (List.mem_of_getElem? (i := 951) (by decide +kernel)))
theorem pf_X8_332 : PF RX8 332 8 59 .int := pf_of (own := RX8) (index := 332) (j := 59) (C := RX8) (T := TX8) (N := 64) rfl hg_8 (by decide) tyX8 tyX8_ok nmX8 (nm := "iSeed") (ds := "I") (ow := "ClapTogetherModel") ⟨rfl, rfl, rfl, rfl⟩ rfl (List.mem_append_right _ (List.mem_of_getElem? (i := 951) (by decide +kernel)))
theorem gf_X8_335 : GF RX8 335 8 60 := gf_of (C := RX8) (T := TX8) (N := 64) rfl hg_8 (by decide) (nm := "iForce") (ds := "I") (ow := "ClapTogetherModel") ⟨rfl, rfl, rfl⟩ (List.mem_append_right _ (List.mem_of_getElem? (i := 952) (by decide +kernel)))
theorem pf_X8_335 : PF RX8 335 8 60 .int := pf_of (own := RX8) (index := 335) (j := 60) (C := RX8) (T := TX8) (N := 64) rfl hg_8 (by decide) tyX8 tyX8_ok nmX8 (nm := "iForce") (ds := "I") (ow := "ClapTogetherModel") ⟨rfl, rfl, rfl, rfl⟩ rfl (List.mem_append_right _ (List.mem_of_getElem? (i := 952) (by decide +kernel)))
theorem gf_X8_338 : GF RX8 338 8 61 := gf_of (C := RX8) (T := TX8) (N := 64) rfl hg_8 (by decide) (nm := "iHits") (ds := "I") (ow := "ClapTogetherModel") ⟨rfl, rfl, rfl⟩ (List.mem_append_right _ (List.mem_of_getElem? (i := 953) (by decide +kernel)))
theorem pf_X8_338 : PF RX8 338 8 61 .int := pf_of (own := RX8) (index := 338) (j := 61) (C := RX8) (T := TX8) (N := 64) rfl hg_8 (by decide) tyX8 tyX8_ok nmX8 (nm := "iHits") (ds := "I") (ow := "ClapTogetherModel") ⟨rfl, rfl, rfl, rfl⟩ rfl (List.mem_append_right _ (List.mem_of_getElem? (i := 953) (by decide +kernel)))
theorem gf_X8_341 : GF RX8 341 8 62 := gf_of (C := RX8) (T := TX8) (N := 64) rfl hg_8 (by decide) (nm := "iClaps") (ds := "I") (ow := "ClapTogetherModel") ⟨rfl, rfl, rfl⟩ (List.mem_append_right _ (List.mem_of_getElem? (i := 954) (by decide +kernel)))
theorem pf_X8_341 : PF RX8 341 8 62 .int := pf_of (own := RX8) (index := 341) (j := 62) (C := RX8) (T := TX8) (N := 64) rfl hg_8 (by decide) tyX8 tyX8_ok nmX8 (nm := "iClaps") (ds := "I") (ow := "ClapTogetherModel") ⟨rfl, rfl, rfl, rfl⟩ rfl (List.mem_append_right _ (List.mem_of_getElem? (i := 954) (by decide +kernel)))
theorem gf_X8_129 : GF RX8 129 8 63 := gf_of (C := RX8) (T := TX8) (N := 64) rfl hg_8 (by decide) (nm := "kept") (ds := "[I") (ow := "ClapTogetherModel") ⟨rfl, rfl, rfl⟩ (List.mem_append_right _ (List.mem_of_getElem? (i := 955) (by decide +kernel)))
theorem cw_X8_row : Cond.code yX8_row cX8_row 5 (some FieldType.int) ∈ lw_tbl := (List.mem_append_right _ (List.mem_of_getElem? (i := 1088) (by decide +kernel)))
theorem ok_X8_row : okMH yX8_row 3 := ⟨by decide +kernel, by decide +kernel, by decide +kernel⟩
theorem im_X8_row : Cond.instanceMethod yX8_row ∈ lw_tbl := (List.mem_append_right _ (List.mem_of_getElem? (i := 1086) (by decide +kernel)))
theorem se_X8_row : Cond.selects yX8_row.cls yX8_row yX8_row ∈ lw_tbl := (List.mem_append_right _ (List.mem_of_getElem? (i := 1087) (by decide +kernel)))
theorem ini_RX8 : Cond.initialized RX8 ∈ lw_tbl := (List.mem_append_right _ (List.mem_of_getElem? (i := 11) (by decide +kernel)))
theorem ck_L_17 : CKV RL 17 yX8_row cX8_row 5 (some FieldType.int) 3 := ckV_of (List.mem_append_right _ (List.mem_of_getElem? (i := 1085) (by decide +kernel))) im_X8_row se_X8_row ini_RX8 cw_X8_row ok_X8_row
theorem cw_X8_isShelf : Cond.code yX8_isShelf cX8_isShelf 2 (some FieldType.boolean) ∈ lw_tbl := (List.mem_append_right _ (List.mem_of_getElem? (i := 1092) (by decide +kernel)))
theorem ok_X8_isShelf : okMH yX8_isShelf 1 := ⟨by decide +kernel, by decide +kernel, by decide +kernel⟩
theorem im_X8_isShelf : Cond.instanceMethod yX8_isShelf ∈ lw_tbl := (List.mem_append_right _ (List.mem_of_getElem? (i := 1091) (by decide +kernel)))
theorem se_X8_isShelf : Cond.selects yX8_isShelf.cls yX8_isShelf yX8_isShelf ∈ lw_tbl := (List.mem_append_left _ (List.mem_of_getElem? (i := 69) (by decide +kernel)))
theorem ck_X8_138 : CKV RX8 138 yX8_isShelf cX8_isShelf 2 (some FieldType.boolean) 1 := ckV_of (List.mem_append_right _ (List.mem_of_getElem? (i := 1089) (by decide +kernel))) im_X8_isShelf se_X8_isShelf ini_RX8 cw_X8_isShelf ok_X8_isShelf
theorem cw_X8_no : Cond.code yX8_no cX8_no 2 (some FieldType.int) ∈ lw_tbl := (List.mem_append_right _ (List.mem_of_getElem? (i := 1096) (by decide +kernel)))
theorem ok_X8_no : okMH yX8_no 1 := ⟨by decide +kernel, by decide +kernel, by decide +kernel⟩
theorem im_X8_no : Cond.instanceMethod yX8_no ∈ lw_tbl := (List.mem_append_right _ (List.mem_of_getElem? (i := 1095) (by decide +kernel)))
theorem se_X8_no : Cond.selects yX8_no.cls yX8_no yX8_no ∈ lw_tbl := (List.mem_append_left _ (List.mem_of_getElem? (i := 70) (by decide +kernel)))
theorem ck_X8_142 : CKV RX8 142 yX8_no cX8_no 2 (some FieldType.int) 1 := ckV_of (List.mem_append_right _ (List.mem_of_getElem? (i := 1093) (by decide +kernel))) im_X8_no se_X8_no ini_RX8 cw_X8_no ok_X8_no
theorem cw_X8_set : Cond.code yX8_set cX8_set 5 (some FieldType.int) ∈ lw_tbl := (List.mem_append_right _ (List.mem_of_getElem? (i := 1100) (by decide +kernel)))
theorem ok_X8_set : okMH yX8_set 3 := ⟨by decide +kernel, by decide +kernel, by decide +kernel⟩
theorem im_X8_set : Cond.instanceMethod yX8_set ∈ lw_tbl := (List.mem_append_right _ (List.mem_of_getElem? (i := 1098) (by decide +kernel)))
theorem se_X8_set : Cond.selects yX8_set.cls yX8_set yX8_set ∈ lw_tbl := (List.mem_append_right _ (List.mem_of_getElem? (i := 1099) (by decide +kernel)))
theorem ck_L_24 : CKV RL 24 yX8_set cX8_set 5 (some FieldType.int) 3 := ckV_of (List.mem_append_right _ (List.mem_of_getElem? (i := 1097) (by decide +kernel))) im_X8_set se_X8_set ini_RX8 cw_X8_set ok_X8_set
theorem cw_X8_copy : Cond.code yX8_copy cX8_copy 7 (some FieldType.int) ∈ lw_tbl := (List.mem_append_right _ (List.mem_of_getElem? (i := 1104) (by decide +kernel)))
theorem ok_X8_copy : okMH yX8_copy 5 := ⟨by decide +kernel, by decide +kernel, by decide +kernel⟩
theorem im_X8_copy : Cond.instanceMethod yX8_copy ∈ lw_tbl := (List.mem_append_right _ (List.mem_of_getElem? (i := 1102) (by decide +kernel)))
theorem se_X8_copy : Cond.selects yX8_copy.cls yX8_copy yX8_copy ∈ lw_tbl := (List.mem_append_right _ (List.mem_of_getElem? (i := 1103) (by decide +kernel)))
theorem ck_L_29 : CKV RL 29 yX8_copy cX8_copy 7 (some FieldType.int) 5 := ckV_of (List.mem_append_right _ (List.mem_of_getElem? (i := 1101) (by decide +kernel))) im_X8_copy se_X8_copy ini_RX8 cw_X8_copy ok_X8_copy
theorem cw_X8_element : Cond.code yX8_element cX8_element 3 (some FieldType.long) ∈ lw_tbl := (List.mem_append_right _ (List.mem_of_getElem? (i := 1108) (by decide +kernel)))
theorem ok_X8_element : okMH yX8_element 2 := ⟨by decide +kernel, by decide +kernel, by decide +kernel⟩
theorem im_X8_element : Cond.instanceMethod yX8_element ∈ lw_tbl := (List.mem_append_right _ (List.mem_of_getElem? (i := 1106) (by decide +kernel)))
theorem se_X8_element : Cond.selects yX8_element.cls yX8_element yX8_element ∈ lw_tbl := (List.mem_append_right _ (List.mem_of_getElem? (i := 1107) (by decide +kernel)))
theorem ck_L_34 : CKV RL 34 yX8_element cX8_element 3 (some FieldType.long) 2 := ckV_of (List.mem_append_right _ (List.mem_of_getElem? (i := 1105) (by decide +kernel))) im_X8_element se_X8_element ini_RX8 cw_X8_element ok_X8_element
theorem cw_X8_show : Cond.code yX8_show cX8_show 3 (some FieldType.int) ∈ lw_tbl := (List.mem_append_right _ (List.mem_of_getElem? (i := 1112) (by decide +kernel)))
theorem ok_X8_show : okMH yX8_show 2 := ⟨by decide +kernel, by decide +kernel, by decide +kernel⟩
theorem im_X8_show : Cond.instanceMethod yX8_show ∈ lw_tbl := (List.mem_append_right _ (List.mem_of_getElem? (i := 1110) (by decide +kernel)))
theorem se_X8_show : Cond.selects yX8_show.cls yX8_show yX8_show ∈ lw_tbl := (List.mem_append_right _ (List.mem_of_getElem? (i := 1111) (by decide +kernel)))
theorem ck_L_39 : CKV RL 39 yX8_show cX8_show 3 (some FieldType.int) 2 := ckV_of (List.mem_append_right _ (List.mem_of_getElem? (i := 1109) (by decide +kernel))) im_X8_show se_X8_show ini_RX8 cw_X8_show ok_X8_show
theorem cw_X8_isPerson : Cond.code yX8_isPerson cX8_isPerson 2 (some FieldType.boolean) ∈ lw_tbl := (List.mem_append_right _ (List.mem_of_getElem? (i := 1116) (by decide +kernel)))
theorem ok_X8_isPerson : okMH yX8_isPerson 1 := ⟨by decide +kernel, by decide +kernel, by decide +kernel⟩
theorem im_X8_isPerson : Cond.instanceMethod yX8_isPerson ∈ lw_tbl := (List.mem_append_right _ (List.mem_of_getElem? (i := 1115) (by decide +kernel)))
theorem se_X8_isPerson : Cond.selects yX8_isPerson.cls yX8_isPerson yX8_isPerson ∈ lw_tbl := (List.mem_append_left _ (List.mem_of_getElem? (i := 71) (by decide +kernel)))
theorem ck_X8_146 : CKV RX8 146 yX8_isPerson cX8_isPerson 2 (some FieldType.boolean) 1 := ckV_of (List.mem_append_right _ (List.mem_of_getElem? (i := 1113) (by decide +kernel))) im_X8_isPerson se_X8_isPerson ini_RX8 cw_X8_isPerson ok_X8_isPerson
theorem cw_X8_holds : Cond.code yX8_holds cX8_holds 2 (some FieldType.int) ∈ lw_tbl := (List.mem_append_right _ (List.mem_of_getElem? (i := 1120) (by decide +kernel)))
theorem ok_X8_holds : okMH yX8_holds 1 := ⟨by decide +kernel, by decide +kernel, by decide +kernel⟩
theorem im_X8_holds : Cond.instanceMethod yX8_holds ∈ lw_tbl := (List.mem_append_right _ (List.mem_of_getElem? (i := 1118) (by decide +kernel)))
theorem se_X8_holds : Cond.selects yX8_holds.cls yX8_holds yX8_holds ∈ lw_tbl := (List.mem_append_right _ (List.mem_of_getElem? (i := 1119) (by decide +kernel)))
theorem ck_L_44 : CKV RL 44 yX8_holds cX8_holds 2 (some FieldType.int) 1 := ckV_of (List.mem_append_right _ (List.mem_of_getElem? (i := 1117) (by decide +kernel))) im_X8_holds se_X8_holds ini_RX8 cw_X8_holds ok_X8_holds
theorem cw_X8_says : Cond.code yX8_says cX8_says 6 (some FieldType.int) ∈ lw_tbl := (List.mem_append_right _ (List.mem_of_getElem? (i := 1124) (by decide +kernel)))
theorem ok_X8_says : okMH yX8_says 2 := ⟨by decide +kernel, by decide +kernel, by decide +kernel⟩
theorem im_X8_says : Cond.instanceMethod yX8_says ∈ lw_tbl := (List.mem_append_right _ (List.mem_of_getElem? (i := 1122) (by decide +kernel)))
theorem se_X8_says : Cond.selects yX8_says.cls yX8_says yX8_says ∈ lw_tbl := (List.mem_append_right _ (List.mem_of_getElem? (i := 1123) (by decide +kernel)))
theorem ck_L_48 : CKV RL 48 yX8_says cX8_says 6 (some FieldType.int) 2 := ckV_of (List.mem_append_right _ (List.mem_of_getElem? (i := 1121) (by decide +kernel))) im_X8_says se_X8_says ini_RX8 cw_X8_says ok_X8_says
theorem cw_X8_heardBy : Cond.code yX8_heardBy cX8_heardBy 4 (some FieldType.int) ∈ lw_tbl := (List.mem_append_right _ (List.mem_of_getElem? (i := 1128) (by decide +kernel)))
theorem ok_X8_heardBy : okMH yX8_heardBy 1 := ⟨by decide +kernel, by decide +kernel, by decide +kernel⟩
theorem im_X8_heardBy : Cond.instanceMethod yX8_heardBy ∈ lw_tbl := (List.mem_append_right _ (List.mem_of_getElem? (i := 1127) (by decide +kernel)))
theorem se_X8_heardBy : Cond.selects yX8_heardBy.cls yX8_heardBy yX8_heardBy ∈ lw_tbl := (List.mem_append_left _ (List.mem_of_getElem? (i := 72) (by decide +kernel)))
theorem ck_X8_149 : CKV RX8 149 yX8_heardBy cX8_heardBy 4 (some FieldType.int) 1 := ckV_of (List.mem_append_right _ (List.mem_of_getElem? (i := 1125) (by decide +kernel))) im_X8_heardBy se_X8_heardBy ini_RX8 cw_X8_heardBy ok_X8_heardBy
theorem cw_X8_far : Cond.code yX8_far cX8_far 5 (some FieldType.int) ∈ lw_tbl := (List.mem_append_right _ (List.mem_of_getElem? (i := 1132) (by decide +kernel)))
theorem ok_X8_far : okMH yX8_far 2 := ⟨by decide +kernel, by decide +kernel, by decide +kernel⟩
theorem im_X8_far : Cond.instanceMethod yX8_far ∈ lw_tbl := (List.mem_append_right _ (List.mem_of_getElem? (i := 1131) (by decide +kernel)))
theorem se_X8_far : Cond.selects yX8_far.cls yX8_far yX8_far ∈ lw_tbl := (List.mem_append_left _ (List.mem_of_getElem? (i := 73) (by decide +kernel)))
theorem ck_X8_213 : CKV RX8 213 yX8_far cX8_far 5 (some FieldType.int) 2 := ckV_of (List.mem_append_right _ (List.mem_of_getElem? (i := 1129) (by decide +kernel))) im_X8_far se_X8_far ini_RX8 cw_X8_far ok_X8_far
theorem cw_X8_besideOf : Cond.code yX8_besideOf cX8_besideOf 4 (some FieldType.int) ∈ lw_tbl := (List.mem_append_right _ (List.mem_of_getElem? (i := 1136) (by decide +kernel)))
theorem ok_X8_besideOf : okMH yX8_besideOf 1 := ⟨by decide +kernel, by decide +kernel, by decide +kernel⟩
theorem im_X8_besideOf : Cond.instanceMethod yX8_besideOf ∈ lw_tbl := (List.mem_append_right _ (List.mem_of_getElem? (i := 1135) (by decide +kernel)))
theorem se_X8_besideOf : Cond.selects yX8_besideOf.cls yX8_besideOf yX8_besideOf ∈ lw_tbl := (List.mem_append_left _ (List.mem_of_getElem? (i := 74) (by decide +kernel)))
theorem ck_X8_152 : CKV RX8 152 yX8_besideOf cX8_besideOf 4 (some FieldType.int) 1 := ckV_of (List.mem_append_right _ (List.mem_of_getElem? (i := 1133) (by decide +kernel))) im_X8_besideOf se_X8_besideOf ini_RX8 cw_X8_besideOf ok_X8_besideOf
theorem cw_X8_person : Cond.code yX8_person cX8_person 6 (some FieldType.int) ∈ lw_tbl := (List.mem_append_right _ (List.mem_of_getElem? (i := 1140) (by decide +kernel)))
theorem ok_X8_person : okMH yX8_person 5 := ⟨by decide +kernel, by decide +kernel, by decide +kernel⟩
theorem im_X8_person : Cond.instanceMethod yX8_person ∈ lw_tbl := (List.mem_append_right _ (List.mem_of_getElem? (i := 1138) (by decide +kernel)))
theorem se_X8_person : Cond.selects yX8_person.cls yX8_person yX8_person ∈ lw_tbl := (List.mem_append_right _ (List.mem_of_getElem? (i := 1139) (by decide +kernel)))
theorem ck_L_52 : CKV RL 52 yX8_person cX8_person 6 (some FieldType.int) 5 := ckV_of (List.mem_append_right _ (List.mem_of_getElem? (i := 1137) (by decide +kernel))) im_X8_person se_X8_person ini_RX8 cw_X8_person ok_X8_person
theorem cw_X8_isOne : Cond.code yX8_isOne cX8_isOne 3 (some FieldType.boolean) ∈ lw_tbl := (List.mem_append_right _ (List.mem_of_getElem? (i := 1144) (by decide +kernel)))
theorem ok_X8_isOne : okMH yX8_isOne 2 := ⟨by decide +kernel, by decide +kernel, by decide +kernel⟩
theorem im_X8_isOne : Cond.instanceMethod yX8_isOne ∈ lw_tbl := (List.mem_append_right _ (List.mem_of_getElem? (i := 1143) (by decide +kernel)))
theorem se_X8_isOne : Cond.selects yX8_isOne.cls yX8_isOne yX8_isOne ∈ lw_tbl := (List.mem_append_left _ (List.mem_of_getElem? (i := 75) (by decide +kernel)))
theorem ck_X8_161 : CKV RX8 161 yX8_isOne cX8_isOne 3 (some FieldType.boolean) 2 := ckV_of (List.mem_append_right _ (List.mem_of_getElem? (i := 1141) (by decide +kernel))) im_X8_isOne se_X8_isOne ini_RX8 cw_X8_isOne ok_X8_isOne
theorem cw_X8_isSeat : Cond.code yX8_isSeat cX8_isSeat 2 (some FieldType.boolean) ∈ lw_tbl := (List.mem_append_right _ (List.mem_of_getElem? (i := 1148) (by decide +kernel)))
theorem ok_X8_isSeat : okMH yX8_isSeat 1 := ⟨by decide +kernel, by decide +kernel, by decide +kernel⟩
theorem im_X8_isSeat : Cond.instanceMethod yX8_isSeat ∈ lw_tbl := (List.mem_append_right _ (List.mem_of_getElem? (i := 1147) (by decide +kernel)))
theorem se_X8_isSeat : Cond.selects yX8_isSeat.cls yX8_isSeat yX8_isSeat ∈ lw_tbl := (List.mem_append_left _ (List.mem_of_getElem? (i := 76) (by decide +kernel)))
theorem ck_X8_155 : CKV RX8 155 yX8_isSeat cX8_isSeat 2 (some FieldType.boolean) 1 := ckV_of (List.mem_append_right _ (List.mem_of_getElem? (i := 1145) (by decide +kernel))) im_X8_isSeat se_X8_isSeat ini_RX8 cw_X8_isSeat ok_X8_isSeat
theorem cw_X8_isSo : Cond.code yX8_isSo cX8_isSo 5 (some FieldType.boolean) ∈ lw_tbl := (List.mem_append_right _ (List.mem_of_getElem? (i := 1152) (by decide +kernel)))
theorem ok_X8_isSo : okMH yX8_isSo 4 := ⟨by decide +kernel, by decide +kernel, by decide +kernel⟩
theorem im_X8_isSo : Cond.instanceMethod yX8_isSo ∈ lw_tbl := (List.mem_append_right _ (List.mem_of_getElem? (i := 1151) (by decide +kernel)))
theorem se_X8_isSo : Cond.selects yX8_isSo.cls yX8_isSo yX8_isSo ∈ lw_tbl := (List.mem_append_left _ (List.mem_of_getElem? (i := 77) (by decide +kernel)))
theorem ck_X8_165 : CKV RX8 165 yX8_isSo cX8_isSo 5 (some FieldType.boolean) 4 := ckV_of (List.mem_append_right _ (List.mem_of_getElem? (i := 1149) (by decide +kernel))) im_X8_isSo se_X8_isSo ini_RX8 cw_X8_isSo ok_X8_isSo
theorem cw_X8_onSeat : Cond.code yX8_onSeat cX8_onSeat 3 (some FieldType.int) ∈ lw_tbl := (List.mem_append_right _ (List.mem_of_getElem? (i := 1156) (by decide +kernel)))
theorem ok_X8_onSeat : okMH yX8_onSeat 1 := ⟨by decide +kernel, by decide +kernel, by decide +kernel⟩
theorem im_X8_onSeat : Cond.instanceMethod yX8_onSeat ∈ lw_tbl := (List.mem_append_right _ (List.mem_of_getElem? (i := 1155) (by decide +kernel)))
theorem se_X8_onSeat : Cond.selects yX8_onSeat.cls yX8_onSeat yX8_onSeat ∈ lw_tbl := (List.mem_append_left _ (List.mem_of_getElem? (i := 78) (by decide +kernel)))
theorem ck_X8_158 : CKV RX8 158 yX8_onSeat cX8_onSeat 3 (some FieldType.int) 1 := ckV_of (List.mem_append_right _ (List.mem_of_getElem? (i := 1153) (by decide +kernel))) im_X8_onSeat se_X8_onSeat ini_RX8 cw_X8_onSeat ok_X8_onSeat
theorem cw_X8_comes : Cond.code yX8_comes cX8_comes 6 none ∈ lw_tbl := (List.mem_append_right _ (List.mem_of_getElem? (i := 1160) (by decide +kernel)))
theorem ok_X8_comes : okMH yX8_comes 5 := ⟨by decide +kernel, by decide +kernel, by decide +kernel⟩
theorem im_X8_comes : Cond.instanceMethod yX8_comes ∈ lw_tbl := (List.mem_append_right _ (List.mem_of_getElem? (i := 1159) (by decide +kernel)))
theorem se_X8_comes : Cond.selects yX8_comes.cls yX8_comes yX8_comes ∈ lw_tbl := (List.mem_append_left _ (List.mem_of_getElem? (i := 79) (by decide +kernel)))
theorem ck_X8_169 : CKV RX8 169 yX8_comes cX8_comes 6 none 5 := ckV_of (List.mem_append_right _ (List.mem_of_getElem? (i := 1157) (by decide +kernel))) im_X8_comes se_X8_comes ini_RX8 cw_X8_comes ok_X8_comes
theorem cw_X8_people : Cond.code yX8_people cX8_people 9 (some FieldType.int) ∈ lw_tbl := (List.mem_append_right _ (List.mem_of_getElem? (i := 1164) (by decide +kernel)))
theorem ok_X8_people : okMH yX8_people 3 := ⟨by decide +kernel, by decide +kernel, by decide +kernel⟩
theorem im_X8_people : Cond.instanceMethod yX8_people ∈ lw_tbl := (List.mem_append_right _ (List.mem_of_getElem? (i := 1162) (by decide +kernel)))
theorem se_X8_people : Cond.selects yX8_people.cls yX8_people yX8_people ∈ lw_tbl := (List.mem_append_right _ (List.mem_of_getElem? (i := 1163) (by decide +kernel)))
theorem ck_L_56 : CKV RL 56 yX8_people cX8_people 9 (some FieldType.int) 3 := ckV_of (List.mem_append_right _ (List.mem_of_getElem? (i := 1161) (by decide +kernel))) im_X8_people se_X8_people ini_RX8 cw_X8_people ok_X8_people
theorem cw_X8_wants : Cond.code yX8_wants cX8_wants 2 (some FieldType.int) ∈ lw_tbl := (List.mem_append_right _ (List.mem_of_getElem? (i := 1168) (by decide +kernel)))
theorem ok_X8_wants : okMH yX8_wants 1 := ⟨by decide +kernel, by decide +kernel, by decide +kernel⟩
theorem im_X8_wants : Cond.instanceMethod yX8_wants ∈ lw_tbl := (List.mem_append_right _ (List.mem_of_getElem? (i := 1167) (by decide +kernel)))
theorem se_X8_wants : Cond.selects yX8_wants.cls yX8_wants yX8_wants ∈ lw_tbl := (List.mem_append_left _ (List.mem_of_getElem? (i := 80) (by decide +kernel)))
theorem ck_X8_173 : CKV RX8 173 yX8_wants cX8_wants 2 (some FieldType.int) 1 := ckV_of (List.mem_append_right _ (List.mem_of_getElem? (i := 1165) (by decide +kernel))) im_X8_wants se_X8_wants ini_RX8 cw_X8_wants ok_X8_wants
theorem cw_X8_intAt : Cond.code yX8_intAt cX8_intAt 3 (some FieldType.int) ∈ lw_tbl := (List.mem_append_right _ (List.mem_of_getElem? (i := 1172) (by decide +kernel)))
theorem ok_X8_intAt : okMH yX8_intAt 2 := ⟨by decide +kernel, by decide +kernel, by decide +kernel⟩
theorem im_X8_intAt : Cond.instanceMethod yX8_intAt ∈ lw_tbl := (List.mem_append_right _ (List.mem_of_getElem? (i := 1171) (by decide +kernel)))
theorem se_X8_intAt : Cond.selects yX8_intAt.cls yX8_intAt yX8_intAt ∈ lw_tbl := (List.mem_append_left _ (List.mem_of_getElem? (i := 81) (by decide +kernel)))
theorem ck_X8_176 : CKV RX8 176 yX8_intAt cX8_intAt 3 (some FieldType.int) 2 := ckV_of (List.mem_append_right _ (List.mem_of_getElem? (i := 1169) (by decide +kernel))) im_X8_intAt se_X8_intAt ini_RX8 cw_X8_intAt ok_X8_intAt
theorem cw_X8_personOf : Cond.code yX8_personOf cX8_personOf 3 (some FieldType.int) ∈ lw_tbl := (List.mem_append_right _ (List.mem_of_getElem? (i := 1176) (by decide +kernel)))
theorem ok_X8_personOf : okMH yX8_personOf 2 := ⟨by decide +kernel, by decide +kernel, by decide +kernel⟩
theorem im_X8_personOf : Cond.instanceMethod yX8_personOf ∈ lw_tbl := (List.mem_append_right _ (List.mem_of_getElem? (i := 1174) (by decide +kernel)))
theorem se_X8_personOf : Cond.selects yX8_personOf.cls yX8_personOf yX8_personOf ∈ lw_tbl := (List.mem_append_right _ (List.mem_of_getElem? (i := 1175) (by decide +kernel)))
theorem ck_L_60 : CKV RL 60 yX8_personOf cX8_personOf 3 (some FieldType.int) 2 := ckV_of (List.mem_append_right _ (List.mem_of_getElem? (i := 1173) (by decide +kernel))) im_X8_personOf se_X8_personOf ini_RX8 cw_X8_personOf ok_X8_personOf
theorem cw_X8_move : Cond.code yX8_move cX8_move 4 (some FieldType.int) ∈ lw_tbl := (List.mem_append_right _ (List.mem_of_getElem? (i := 1180) (by decide +kernel)))
theorem ok_X8_move : okMH yX8_move 2 := ⟨by decide +kernel, by decide +kernel, by decide +kernel⟩
theorem im_X8_move : Cond.instanceMethod yX8_move ∈ lw_tbl := (List.mem_append_right _ (List.mem_of_getElem? (i := 1178) (by decide +kernel)))
theorem se_X8_move : Cond.selects yX8_move.cls yX8_move yX8_move ∈ lw_tbl := (List.mem_append_right _ (List.mem_of_getElem? (i := 1179) (by decide +kernel)))
theorem ck_L_64 : CKV RL 64 yX8_move cX8_move 4 (some FieldType.int) 2 := ckV_of (List.mem_append_right _ (List.mem_of_getElem? (i := 1177) (by decide +kernel))) im_X8_move se_X8_move ini_RX8 cw_X8_move ok_X8_move
theorem cw_X8_alter : Cond.code yX8_alter cX8_alter 5 (some FieldType.int) ∈ lw_tbl := (List.mem_append_right _ (List.mem_of_getElem? (i := 1184) (by decide +kernel)))
theorem ok_X8_alter : okMH yX8_alter 3 := ⟨by decide +kernel, by decide +kernel, by decide +kernel⟩
theorem im_X8_alter : Cond.instanceMethod yX8_alter ∈ lw_tbl := (List.mem_append_right _ (List.mem_of_getElem? (i := 1182) (by decide +kernel)))
theorem se_X8_alter : Cond.selects yX8_alter.cls yX8_alter yX8_alter ∈ lw_tbl := (List.mem_append_right _ (List.mem_of_getElem? (i := 1183) (by decide +kernel)))
theorem ck_L_68 : CKV RL 68 yX8_alter cX8_alter 5 (some FieldType.int) 3 := ckV_of (List.mem_append_right _ (List.mem_of_getElem? (i := 1181) (by decide +kernel))) im_X8_alter se_X8_alter ini_RX8 cw_X8_alter ok_X8_alter
theorem cw_X8_glove : Cond.code yX8_glove cX8_glove 4 (some FieldType.int) ∈ lw_tbl := (List.mem_append_right _ (List.mem_of_getElem? (i := 1188) (by decide +kernel)))
theorem ok_X8_glove : okMH yX8_glove 2 := ⟨by decide +kernel, by decide +kernel, by decide +kernel⟩
theorem im_X8_glove : Cond.instanceMethod yX8_glove ∈ lw_tbl := (List.mem_append_right _ (List.mem_of_getElem? (i := 1186) (by decide +kernel)))
theorem se_X8_glove : Cond.selects yX8_glove.cls yX8_glove yX8_glove ∈ lw_tbl := (List.mem_append_right _ (List.mem_of_getElem? (i := 1187) (by decide +kernel)))
theorem ck_L_73 : CKV RL 73 yX8_glove cX8_glove 4 (some FieldType.int) 2 := ckV_of (List.mem_append_right _ (List.mem_of_getElem? (i := 1185) (by decide +kernel))) im_X8_glove se_X8_glove ini_RX8 cw_X8_glove ok_X8_glove
theorem cw_X8_laws : Cond.code yX8_laws cX8_laws 4 (some FieldType.int) ∈ lw_tbl := (List.mem_append_right _ (List.mem_of_getElem? (i := 1192) (by decide +kernel)))
theorem ok_X8_laws : okMH yX8_laws 1 := ⟨by decide +kernel, by decide +kernel, by decide +kernel⟩
theorem im_X8_laws : Cond.instanceMethod yX8_laws ∈ lw_tbl := (List.mem_append_right _ (List.mem_of_getElem? (i := 1190) (by decide +kernel)))
theorem se_X8_laws : Cond.selects yX8_laws.cls yX8_laws yX8_laws ∈ lw_tbl := (List.mem_append_right _ (List.mem_of_getElem? (i := 1191) (by decide +kernel)))
theorem ck_L_77 : CKV RL 77 yX8_laws cX8_laws 4 (some FieldType.int) 1 := ckV_of (List.mem_append_right _ (List.mem_of_getElem? (i := 1189) (by decide +kernel))) im_X8_laws se_X8_laws ini_RX8 cw_X8_laws ok_X8_laws
theorem cw_X8_readsLaws : Cond.code yX8_readsLaws cX8_readsLaws 2 (some FieldType.boolean) ∈ lw_tbl := (List.mem_append_right _ (List.mem_of_getElem? (i := 1196) (by decide +kernel)))
theorem ok_X8_readsLaws : okMH yX8_readsLaws 0 := ⟨by decide +kernel, by decide +kernel, by decide +kernel⟩
theorem im_X8_readsLaws : Cond.instanceMethod yX8_readsLaws ∈ lw_tbl := (List.mem_append_right _ (List.mem_of_getElem? (i := 1195) (by decide +kernel)))
theorem se_X8_readsLaws : Cond.selects yX8_readsLaws.cls yX8_readsLaws yX8_readsLaws ∈ lw_tbl := (List.mem_append_left _ (List.mem_of_getElem? (i := 82) (by decide +kernel)))
theorem ck_X8_203 : CKV RX8 203 yX8_readsLaws cX8_readsLaws 2 (some FieldType.boolean) 0 := ckV_of (List.mem_append_right _ (List.mem_of_getElem? (i := 1193) (by decide +kernel))) im_X8_readsLaws se_X8_readsLaws ini_RX8 cw_X8_readsLaws ok_X8_readsLaws
theorem cw_X8_oneLaw : Cond.code yX8_oneLaw cX8_oneLaw 3 (some FieldType.boolean) ∈ lw_tbl := (List.mem_append_right _ (List.mem_of_getElem? (i := 1200) (by decide +kernel)))
theorem ok_X8_oneLaw : okMH yX8_oneLaw 0 := ⟨by decide +kernel, by decide +kernel, by decide +kernel⟩
theorem im_X8_oneLaw : Cond.instanceMethod yX8_oneLaw ∈ lw_tbl := (List.mem_append_right _ (List.mem_of_getElem? (i := 1199) (by decide +kernel)))
theorem se_X8_oneLaw : Cond.selects yX8_oneLaw.cls yX8_oneLaw yX8_oneLaw ∈ lw_tbl := (List.mem_append_left _ (List.mem_of_getElem? (i := 83) (by decide +kernel)))
theorem ck_X8_200 : CKV RX8 200 yX8_oneLaw cX8_oneLaw 3 (some FieldType.boolean) 0 := ckV_of (List.mem_append_right _ (List.mem_of_getElem? (i := 1197) (by decide +kernel))) im_X8_oneLaw se_X8_oneLaw ini_RX8 cw_X8_oneLaw ok_X8_oneLaw
theorem cw_X8_word : Cond.code yX8_word cX8_word 6 (some FieldType.int) ∈ lw_tbl := (List.mem_append_right _ (List.mem_of_getElem? (i := 1204) (by decide +kernel)))
theorem ok_X8_word : okMH yX8_word 0 := ⟨by decide +kernel, by decide +kernel, by decide +kernel⟩
theorem im_X8_word : Cond.instanceMethod yX8_word ∈ lw_tbl := (List.mem_append_right _ (List.mem_of_getElem? (i := 1203) (by decide +kernel)))
theorem se_X8_word : Cond.selects yX8_word.cls yX8_word yX8_word ∈ lw_tbl := (List.mem_append_left _ (List.mem_of_getElem? (i := 84) (by decide +kernel)))
theorem ck_X8_192 : CKV RX8 192 yX8_word cX8_word 6 (some FieldType.int) 0 := ckV_of (List.mem_append_right _ (List.mem_of_getElem? (i := 1201) (by decide +kernel))) im_X8_word se_X8_word ini_RX8 cw_X8_word ok_X8_word
theorem cw_X8_isDigit : Cond.code yX8_isDigit cX8_isDigit 1 (some FieldType.boolean) ∈ lw_tbl := (List.mem_append_right _ (List.mem_of_getElem? (i := 1208) (by decide +kernel)))
theorem ok_X8_isDigit : okMH yX8_isDigit 0 := ⟨by decide +kernel, by decide +kernel, by decide +kernel⟩
theorem im_X8_isDigit : Cond.instanceMethod yX8_isDigit ∈ lw_tbl := (List.mem_append_right _ (List.mem_of_getElem? (i := 1207) (by decide +kernel)))
theorem se_X8_isDigit : Cond.selects yX8_isDigit.cls yX8_isDigit yX8_isDigit ∈ lw_tbl := (List.mem_append_left _ (List.mem_of_getElem? (i := 85) (by decide +kernel)))
theorem ck_X8_196 : CKV RX8 196 yX8_isDigit cX8_isDigit 1 (some FieldType.boolean) 0 := ckV_of (List.mem_append_right _ (List.mem_of_getElem? (i := 1205) (by decide +kernel))) im_X8_isDigit se_X8_isDigit ini_RX8 cw_X8_isDigit ok_X8_isDigit
theorem cw_X8_fault : Cond.code yX8_fault cX8_fault 1 (some FieldType.int) ∈ lw_tbl := (List.mem_append_right _ (List.mem_of_getElem? (i := 1212) (by decide +kernel)))
theorem ok_X8_fault : okMH yX8_fault 0 := ⟨by decide +kernel, by decide +kernel, by decide +kernel⟩
theorem im_X8_fault : Cond.instanceMethod yX8_fault ∈ lw_tbl := (List.mem_append_right _ (List.mem_of_getElem? (i := 1210) (by decide +kernel)))
theorem se_X8_fault : Cond.selects yX8_fault.cls yX8_fault yX8_fault ∈ lw_tbl := (List.mem_append_right _ (List.mem_of_getElem? (i := 1211) (by decide +kernel)))
theorem ck_L_82 : CKV RL 82 yX8_fault cX8_fault 1 (some FieldType.int) 0 := ckV_of (List.mem_append_right _ (List.mem_of_getElem? (i := 1209) (by decide +kernel))) im_X8_fault se_X8_fault ini_RX8 cw_X8_fault ok_X8_fault
theorem cw_X8_law : Cond.code yX8_law cX8_law 3 (some FieldType.int) ∈ lw_tbl := (List.mem_append_right _ (List.mem_of_getElem? (i := 1216) (by decide +kernel)))
theorem ok_X8_law : okMH yX8_law 2 := ⟨by decide +kernel, by decide +kernel, by decide +kernel⟩
theorem im_X8_law : Cond.instanceMethod yX8_law ∈ lw_tbl := (List.mem_append_right _ (List.mem_of_getElem? (i := 1214) (by decide +kernel)))
theorem se_X8_law : Cond.selects yX8_law.cls yX8_law yX8_law ∈ lw_tbl := (List.mem_append_right _ (List.mem_of_getElem? (i := 1215) (by decide +kernel)))
theorem ck_L_86 : CKV RL 86 yX8_law cX8_law 3 (some FieldType.int) 2 := ckV_of (List.mem_append_right _ (List.mem_of_getElem? (i := 1213) (by decide +kernel))) im_X8_law se_X8_law ini_RX8 cw_X8_law ok_X8_law
theorem cw_X8_force : Cond.code yX8_force cX8_force 3 (some FieldType.int) ∈ lw_tbl := (List.mem_append_right _ (List.mem_of_getElem? (i := 1220) (by decide +kernel)))
theorem ok_X8_force : okMH yX8_force 1 := ⟨by decide +kernel, by decide +kernel, by decide +kernel⟩
theorem im_X8_force : Cond.instanceMethod yX8_force ∈ lw_tbl := (List.mem_append_right _ (List.mem_of_getElem? (i := 1218) (by decide +kernel)))
theorem se_X8_force : Cond.selects yX8_force.cls yX8_force yX8_force ∈ lw_tbl := (List.mem_append_right _ (List.mem_of_getElem? (i := 1219) (by decide +kernel)))
theorem ck_L_90 : CKV RL 90 yX8_force cX8_force 3 (some FieldType.int) 1 := ckV_of (List.mem_append_right _ (List.mem_of_getElem? (i := 1217) (by decide +kernel))) im_X8_force se_X8_force ini_RX8 cw_X8_force ok_X8_force
theorem cw_X8_isLaws : Cond.code yX8_isLaws cX8_isLaws 2 (some FieldType.boolean) ∈ lw_tbl := (List.mem_append_right _ (List.mem_of_getElem? (i := 1224) (by decide +kernel)))
theorem ok_X8_isLaws : okMH yX8_isLaws 1 := ⟨by decide +kernel, by decide +kernel, by decide +kernel⟩
theorem im_X8_isLaws : Cond.instanceMethod yX8_isLaws ∈ lw_tbl := (List.mem_append_right _ (List.mem_of_getElem? (i := 1223) (by decide +kernel)))
theorem se_X8_isLaws : Cond.selects yX8_isLaws.cls yX8_isLaws yX8_isLaws ∈ lw_tbl := (List.mem_append_left _ (List.mem_of_getElem? (i := 86) (by decide +kernel)))
theorem ck_X8_206 : CKV RX8 206 yX8_isLaws cX8_isLaws 2 (some FieldType.boolean) 1 := ckV_of (List.mem_append_right _ (List.mem_of_getElem? (i := 1221) (by decide +kernel))) im_X8_isLaws se_X8_isLaws ini_RX8 cw_X8_isLaws ok_X8_isLaws
theorem cw_X8_noTen : Cond.code yX8_noTen cX8_noTen 2 (some FieldType.int) ∈ lw_tbl := (List.mem_append_right _ (List.mem_of_getElem? (i := 1228) (by decide +kernel)))
theorem ok_X8_noTen : okMH yX8_noTen 1 := ⟨by decide +kernel, by decide +kernel, by decide +kernel⟩
theorem im_X8_noTen : Cond.instanceMethod yX8_noTen ∈ lw_tbl := (List.mem_append_right _ (List.mem_of_getElem? (i := 1227) (by decide +kernel)))
theorem se_X8_noTen : Cond.selects yX8_noTen.cls yX8_noTen yX8_noTen ∈ lw_tbl := (List.mem_append_left _ (List.mem_of_getElem? (i := 87) (by decide +kernel)))
theorem ck_X8_209 : CKV RX8 209 yX8_noTen cX8_noTen 2 (some FieldType.int) 1 := ckV_of (List.mem_append_right _ (List.mem_of_getElem? (i := 1225) (by decide +kernel))) im_X8_noTen se_X8_noTen ini_RX8 cw_X8_noTen ok_X8_noTen
theorem cw_X8_seed : Cond.code yX8_seed cX8_seed 3 (some FieldType.int) ∈ lw_tbl := (List.mem_append_right _ (List.mem_of_getElem? (i := 1232) (by decide +kernel)))
theorem ok_X8_seed : okMH yX8_seed 1 := ⟨by decide +kernel, by decide +kernel, by decide +kernel⟩
theorem im_X8_seed : Cond.instanceMethod yX8_seed ∈ lw_tbl := (List.mem_append_right _ (List.mem_of_getElem? (i := 1230) (by decide +kernel)))
theorem se_X8_seed : Cond.selects yX8_seed.cls yX8_seed yX8_seed ∈ lw_tbl := (List.mem_append_right _ (List.mem_of_getElem? (i := 1231) (by decide +kernel)))
theorem ck_L_94 : CKV RL 94 yX8_seed cX8_seed 3 (some FieldType.int) 1 := ckV_of (List.mem_append_right _ (List.mem_of_getElem? (i := 1229) (by decide +kernel))) im_X8_seed se_X8_seed ini_RX8 cw_X8_seed ok_X8_seed
theorem cw_X8_tick_ : Cond.code yX8_tick_ cX8_tick_ 3 (some FieldType.int) ∈ lw_tbl := (List.mem_append_right _ (List.mem_of_getElem? (i := 1236) (by decide +kernel)))
theorem ok_X8_tick_ : okMH yX8_tick_ 1 := ⟨by decide +kernel, by decide +kernel, by decide +kernel⟩
theorem im_X8_tick_ : Cond.instanceMethod yX8_tick_ ∈ lw_tbl := (List.mem_append_right _ (List.mem_of_getElem? (i := 1234) (by decide +kernel)))
theorem se_X8_tick_ : Cond.selects yX8_tick_.cls yX8_tick_ yX8_tick_ ∈ lw_tbl := (List.mem_append_right _ (List.mem_of_getElem? (i := 1235) (by decide +kernel)))
theorem ck_L_98 : CKV RL 98 yX8_tick_ cX8_tick_ 3 (some FieldType.int) 1 := ckV_of (List.mem_append_right _ (List.mem_of_getElem? (i := 1233) (by decide +kernel))) im_X8_tick_ se_X8_tick_ ini_RX8 cw_X8_tick_ ok_X8_tick_
theorem cw_X8_tick : Cond.code yX8_tick cX8_tick 3 none ∈ lw_tbl := (List.mem_append_right _ (List.mem_of_getElem? (i := 1240) (by decide +kernel)))
theorem ok_X8_tick : okMH yX8_tick 0 := ⟨by decide +kernel, by decide +kernel, by decide +kernel⟩
theorem im_X8_tick : Cond.instanceMethod yX8_tick ∈ lw_tbl := (List.mem_append_right _ (List.mem_of_getElem? (i := 1239) (by decide +kernel)))
theorem se_X8_tick : Cond.selects yX8_tick.cls yX8_tick yX8_tick ∈ lw_tbl := (List.mem_append_left _ (List.mem_of_getElem? (i := 88) (by decide +kernel)))
theorem ck_X8_247 : CKV RX8 247 yX8_tick cX8_tick 3 none 0 := ckV_of (List.mem_append_right _ (List.mem_of_getElem? (i := 1237) (by decide +kernel))) im_X8_tick se_X8_tick ini_RX8 cw_X8_tick ok_X8_tick
theorem cw_X8_begins : Cond.code yX8_begins cX8_begins 5 (some FieldType.boolean) ∈ lw_tbl := (List.mem_append_right _ (List.mem_of_getElem? (i := 1244) (by decide +kernel)))
theorem ok_X8_begins : okMH yX8_begins 1 := ⟨by decide +kernel, by decide +kernel, by decide +kernel⟩
theorem im_X8_begins : Cond.instanceMethod yX8_begins ∈ lw_tbl := (List.mem_append_right _ (List.mem_of_getElem? (i := 1243) (by decide +kernel)))
theorem se_X8_begins : Cond.selects yX8_begins.cls yX8_begins yX8_begins ∈ lw_tbl := (List.mem_append_left _ (List.mem_of_getElem? (i := 89) (by decide +kernel)))
theorem ck_X8_229 : CKV RX8 229 yX8_begins cX8_begins 5 (some FieldType.boolean) 1 := ckV_of (List.mem_append_right _ (List.mem_of_getElem? (i := 1241) (by decide +kernel))) im_X8_begins se_X8_begins ini_RX8 cw_X8_begins ok_X8_begins
theorem cw_X8_rule : Cond.code yX8_rule cX8_rule 2 (some FieldType.int) ∈ lw_tbl := (List.mem_append_right _ (List.mem_of_getElem? (i := 1248) (by decide +kernel)))
theorem ok_X8_rule : okMH yX8_rule 1 := ⟨by decide +kernel, by decide +kernel, by decide +kernel⟩
theorem im_X8_rule : Cond.instanceMethod yX8_rule ∈ lw_tbl := (List.mem_append_right _ (List.mem_of_getElem? (i := 1247) (by decide +kernel)))
theorem se_X8_rule : Cond.selects yX8_rule.cls yX8_rule yX8_rule ∈ lw_tbl := (List.mem_append_left _ (List.mem_of_getElem? (i := 90) (by decide +kernel)))
theorem ck_X8_216 : CKV RX8 216 yX8_rule cX8_rule 2 (some FieldType.int) 1 := ckV_of (List.mem_append_right _ (List.mem_of_getElem? (i := 1245) (by decide +kernel))) im_X8_rule se_X8_rule ini_RX8 cw_X8_rule ok_X8_rule
theorem cw_X8_stops : Cond.code yX8_stops cX8_stops 6 (some FieldType.boolean) ∈ lw_tbl := (List.mem_append_right _ (List.mem_of_getElem? (i := 1252) (by decide +kernel)))
theorem ok_X8_stops : okMH yX8_stops 1 := ⟨by decide +kernel, by decide +kernel, by decide +kernel⟩
theorem im_X8_stops : Cond.instanceMethod yX8_stops ∈ lw_tbl := (List.mem_append_right _ (List.mem_of_getElem? (i := 1251) (by decide +kernel)))
theorem se_X8_stops : Cond.selects yX8_stops.cls yX8_stops yX8_stops ∈ lw_tbl := (List.mem_append_left _ (List.mem_of_getElem? (i := 91) (by decide +kernel)))
theorem ck_X8_232 : CKV RX8 232 yX8_stops cX8_stops 6 (some FieldType.boolean) 1 := ckV_of (List.mem_append_right _ (List.mem_of_getElem? (i := 1249) (by decide +kernel))) im_X8_stops se_X8_stops ini_RX8 cw_X8_stops ok_X8_stops
theorem cw_X8_draw : Cond.code yX8_draw cX8_draw 2 (some FieldType.int) ∈ lw_tbl := (List.mem_append_right _ (List.mem_of_getElem? (i := 1256) (by decide +kernel)))
theorem ok_X8_draw : okMH yX8_draw 1 := ⟨by decide +kernel, by decide +kernel, by decide +kernel⟩
theorem im_X8_draw : Cond.instanceMethod yX8_draw ∈ lw_tbl := (List.mem_append_right _ (List.mem_of_getElem? (i := 1255) (by decide +kernel)))
theorem se_X8_draw : Cond.selects yX8_draw.cls yX8_draw yX8_draw ∈ lw_tbl := (List.mem_append_left _ (List.mem_of_getElem? (i := 92) (by decide +kernel)))
theorem ck_X8_226 : CKV RX8 226 yX8_draw cX8_draw 2 (some FieldType.int) 1 := ckV_of (List.mem_append_right _ (List.mem_of_getElem? (i := 1253) (by decide +kernel))) im_X8_draw se_X8_draw ini_RX8 cw_X8_draw ok_X8_draw
theorem cw_X8_clapping : Cond.code yX8_clapping cX8_clapping 3 (some FieldType.int) ∈ lw_tbl := (List.mem_append_right _ (List.mem_of_getElem? (i := 1261) (by decide +kernel)))
theorem ok_X8_clapping : okMH yX8_clapping 0 := ⟨by decide +kernel, by decide +kernel, by decide +kernel⟩
theorem im_X8_clapping : Cond.instanceMethod yX8_clapping ∈ lw_tbl := (List.mem_append_right _ (List.mem_of_getElem? (i := 1260) (by decide +kernel)))
theorem se_X8_clapping : Cond.selects yX8_clapping.cls yX8_clapping yX8_clapping ∈ lw_tbl := (List.mem_append_left _ (List.mem_of_getElem? (i := 93) (by decide +kernel)))
theorem ck_X8_238 : CKV RX8 238 yX8_clapping cX8_clapping 3 (some FieldType.int) 0 := ckV_of (List.mem_append_right _ (List.mem_of_getElem? (i := 1258) (by decide +kernel))) im_X8_clapping se_X8_clapping ini_RX8 cw_X8_clapping ok_X8_clapping
theorem cw_X8_isRising : Cond.code yX8_isRising cX8_isRising 7 (some FieldType.boolean) ∈ lw_tbl := (List.mem_append_right _ (List.mem_of_getElem? (i := 1265) (by decide +kernel)))
theorem ok_X8_isRising : okMH yX8_isRising 1 := ⟨by decide +kernel, by decide +kernel, by decide +kernel⟩
theorem im_X8_isRising : Cond.instanceMethod yX8_isRising ∈ lw_tbl := (List.mem_append_right _ (List.mem_of_getElem? (i := 1264) (by decide +kernel)))
theorem se_X8_isRising : Cond.selects yX8_isRising.cls yX8_isRising yX8_isRising ∈ lw_tbl := (List.mem_append_left _ (List.mem_of_getElem? (i := 94) (by decide +kernel)))
theorem ck_X8_244 : CKV RX8 244 yX8_isRising cX8_isRising 7 (some FieldType.boolean) 1 := ckV_of (List.mem_append_right _ (List.mem_of_getElem? (i := 1262) (by decide +kernel))) im_X8_isRising se_X8_isRising ini_RX8 cw_X8_isRising ok_X8_isRising
theorem cw_X8_begin : Cond.code yX8_begin cX8_begin 2 (some FieldType.int) ∈ lw_tbl := (List.mem_append_right _ (List.mem_of_getElem? (i := 1269) (by decide +kernel)))
theorem ok_X8_begin : okMH yX8_begin 1 := ⟨by decide +kernel, by decide +kernel, by decide +kernel⟩
theorem im_X8_begin : Cond.instanceMethod yX8_begin ∈ lw_tbl := (List.mem_append_right _ (List.mem_of_getElem? (i := 1267) (by decide +kernel)))
theorem se_X8_begin : Cond.selects yX8_begin.cls yX8_begin yX8_begin ∈ lw_tbl := (List.mem_append_right _ (List.mem_of_getElem? (i := 1268) (by decide +kernel)))
theorem ck_L_102 : CKV RL 102 yX8_begin cX8_begin 2 (some FieldType.int) 1 := ckV_of (List.mem_append_right _ (List.mem_of_getElem? (i := 1266) (by decide +kernel))) im_X8_begin se_X8_begin ini_RX8 cw_X8_begin ok_X8_begin
theorem cw_X8_hush : Cond.code yX8_hush cX8_hush 3 (some FieldType.int) ∈ lw_tbl := (List.mem_append_right _ (List.mem_of_getElem? (i := 1273) (by decide +kernel)))
theorem ok_X8_hush : okMH yX8_hush 0 := ⟨by decide +kernel, by decide +kernel, by decide +kernel⟩
theorem im_X8_hush : Cond.instanceMethod yX8_hush ∈ lw_tbl := (List.mem_append_right _ (List.mem_of_getElem? (i := 1271) (by decide +kernel)))
theorem se_X8_hush : Cond.selects yX8_hush.cls yX8_hush yX8_hush ∈ lw_tbl := (List.mem_append_right _ (List.mem_of_getElem? (i := 1272) (by decide +kernel)))
theorem ck_L_106 : CKV RL 106 yX8_hush cX8_hush 3 (some FieldType.int) 0 := ckV_of (List.mem_append_right _ (List.mem_of_getElem? (i := 1270) (by decide +kernel))) im_X8_hush se_X8_hush ini_RX8 cw_X8_hush ok_X8_hush
theorem cw_X8_quiets : Cond.code yX8_quiets cX8_quiets 2 none ∈ lw_tbl := (List.mem_append_right _ (List.mem_of_getElem? (i := 1277) (by decide +kernel)))
theorem ok_X8_quiets : okMH yX8_quiets 0 := ⟨by decide +kernel, by decide +kernel, by decide +kernel⟩
theorem im_X8_quiets : Cond.instanceMethod yX8_quiets ∈ lw_tbl := (List.mem_append_right _ (List.mem_of_getElem? (i := 1276) (by decide +kernel)))
theorem se_X8_quiets : Cond.selects yX8_quiets.cls yX8_quiets yX8_quiets ∈ lw_tbl := (List.mem_append_left _ (List.mem_of_getElem? (i := 95) (by decide +kernel)))
theorem ck_X8_250 : CKV RX8 250 yX8_quiets cX8_quiets 2 none 0 := ckV_of (List.mem_append_right _ (List.mem_of_getElem? (i := 1274) (by decide +kernel))) im_X8_quiets se_X8_quiets ini_RX8 cw_X8_quiets ok_X8_quiets
theorem cw_X8_heard : Cond.code yX8_heard cX8_heard 2 (some FieldType.int) ∈ lw_tbl := (List.mem_append_right _ (List.mem_of_getElem? (i := 1281) (by decide +kernel)))
theorem ok_X8_heard : okMH yX8_heard 1 := ⟨by decide +kernel, by decide +kernel, by decide +kernel⟩
theorem im_X8_heard : Cond.instanceMethod yX8_heard ∈ lw_tbl := (List.mem_append_right _ (List.mem_of_getElem? (i := 1279) (by decide +kernel)))
theorem se_X8_heard : Cond.selects yX8_heard.cls yX8_heard yX8_heard ∈ lw_tbl := (List.mem_append_right _ (List.mem_of_getElem? (i := 1280) (by decide +kernel)))
theorem ck_L_110 : CKV RL 110 yX8_heard cX8_heard 2 (some FieldType.int) 1 := ckV_of (List.mem_append_right _ (List.mem_of_getElem? (i := 1278) (by decide +kernel))) im_X8_heard se_X8_heard ini_RX8 cw_X8_heard ok_X8_heard
theorem cw_X8_beside : Cond.code yX8_beside cX8_beside 2 (some FieldType.int) ∈ lw_tbl := (List.mem_append_right _ (List.mem_of_getElem? (i := 1285) (by decide +kernel)))
theorem ok_X8_beside : okMH yX8_beside 1 := ⟨by decide +kernel, by decide +kernel, by decide +kernel⟩
theorem im_X8_beside : Cond.instanceMethod yX8_beside ∈ lw_tbl := (List.mem_append_right _ (List.mem_of_getElem? (i := 1283) (by decide +kernel)))
theorem se_X8_beside : Cond.selects yX8_beside.cls yX8_beside yX8_beside ∈ lw_tbl := (List.mem_append_right _ (List.mem_of_getElem? (i := 1284) (by decide +kernel)))
theorem ck_L_114 : CKV RL 114 yX8_beside cX8_beside 2 (some FieldType.int) 1 := ckV_of (List.mem_append_right _ (List.mem_of_getElem? (i := 1282) (by decide +kernel))) im_X8_beside se_X8_beside ini_RX8 cw_X8_beside ok_X8_beside
theorem cw_X8_many : Cond.code yX8_many cX8_many 4 (some FieldType.int) ∈ lw_tbl := (List.mem_append_right _ (List.mem_of_getElem? (i := 1289) (by decide +kernel)))
theorem ok_X8_many : okMH yX8_many 1 := ⟨by decide +kernel, by decide +kernel, by decide +kernel⟩
theorem im_X8_many : Cond.instanceMethod yX8_many ∈ lw_tbl := (List.mem_append_right _ (List.mem_of_getElem? (i := 1287) (by decide +kernel)))
theorem se_X8_many : Cond.selects yX8_many.cls yX8_many yX8_many ∈ lw_tbl := (List.mem_append_right _ (List.mem_of_getElem? (i := 1288) (by decide +kernel)))
theorem ck_L_118 : CKV RL 118 yX8_many cX8_many 4 (some FieldType.int) 1 := ckV_of (List.mem_append_right _ (List.mem_of_getElem? (i := 1286) (by decide +kernel))) im_X8_many se_X8_many ini_RX8 cw_X8_many ok_X8_many
theorem cw_X8_bits : Cond.code yX8_bits cX8_bits 4 (some FieldType.int) ∈ lw_tbl := (List.mem_append_right _ (List.mem_of_getElem? (i := 1293) (by decide +kernel)))
theorem ok_X8_bits : okMH yX8_bits 1 := ⟨by decide +kernel, by decide +kernel, by decide +kernel⟩
theorem im_X8_bits : Cond.instanceMethod yX8_bits ∈ lw_tbl := (List.mem_append_right _ (List.mem_of_getElem? (i := 1292) (by decide +kernel)))
theorem se_X8_bits : Cond.selects yX8_bits.cls yX8_bits yX8_bits ∈ lw_tbl := (List.mem_append_left _ (List.mem_of_getElem? (i := 96) (by decide +kernel)))
theorem ck_X8_253 : CKV RX8 253 yX8_bits cX8_bits 4 (some FieldType.int) 1 := ckV_of (List.mem_append_right _ (List.mem_of_getElem? (i := 1290) (by decide +kernel))) im_X8_bits se_X8_bits ini_RX8 cw_X8_bits ok_X8_bits
theorem cw_X8_hits : Cond.code yX8_hits cX8_hits 1 (some FieldType.int) ∈ lw_tbl := (List.mem_append_right _ (List.mem_of_getElem? (i := 1297) (by decide +kernel)))
theorem ok_X8_hits : okMH yX8_hits 0 := ⟨by decide +kernel, by decide +kernel, by decide +kernel⟩
theorem im_X8_hits : Cond.instanceMethod yX8_hits ∈ lw_tbl := (List.mem_append_right _ (List.mem_of_getElem? (i := 1295) (by decide +kernel)))
theorem se_X8_hits : Cond.selects yX8_hits.cls yX8_hits yX8_hits ∈ lw_tbl := (List.mem_append_right _ (List.mem_of_getElem? (i := 1296) (by decide +kernel)))
theorem ck_L_122 : CKV RL 122 yX8_hits cX8_hits 1 (some FieldType.int) 0 := ckV_of (List.mem_append_right _ (List.mem_of_getElem? (i := 1294) (by decide +kernel))) im_X8_hits se_X8_hits ini_RX8 cw_X8_hits ok_X8_hits
theorem cw_X8_step : Cond.code yX8_step cX8_step 1 (some FieldType.int) ∈ lw_tbl := (List.mem_append_right _ (List.mem_of_getElem? (i := 1301) (by decide +kernel)))
theorem ok_X8_step : okMH yX8_step 0 := ⟨by decide +kernel, by decide +kernel, by decide +kernel⟩
theorem im_X8_step : Cond.instanceMethod yX8_step ∈ lw_tbl := (List.mem_append_right _ (List.mem_of_getElem? (i := 1299) (by decide +kernel)))
theorem se_X8_step : Cond.selects yX8_step.cls yX8_step yX8_step ∈ lw_tbl := (List.mem_append_right _ (List.mem_of_getElem? (i := 1300) (by decide +kernel)))
theorem ck_L_126 : CKV RL 126 yX8_step cX8_step 1 (some FieldType.int) 0 := ckV_of (List.mem_append_right _ (List.mem_of_getElem? (i := 1298) (by decide +kernel))) im_X8_step se_X8_step ini_RX8 cw_X8_step ok_X8_step
theorem cw_X8_length : Cond.code yX8_length cX8_length 3 (some FieldType.int) ∈ lw_tbl := (List.mem_append_right _ (List.mem_of_getElem? (i := 1305) (by decide +kernel)))
theorem ok_X8_length : okMH yX8_length 2 := ⟨by decide +kernel, by decide +kernel, by decide +kernel⟩
theorem im_X8_length : Cond.instanceMethod yX8_length ∈ lw_tbl := (List.mem_append_right _ (List.mem_of_getElem? (i := 1303) (by decide +kernel)))
theorem se_X8_length : Cond.selects yX8_length.cls yX8_length yX8_length ∈ lw_tbl := (List.mem_append_right _ (List.mem_of_getElem? (i := 1304) (by decide +kernel)))
theorem ck_L_130 : CKV RL 130 yX8_length cX8_length 3 (some FieldType.int) 2 := ckV_of (List.mem_append_right _ (List.mem_of_getElem? (i := 1302) (by decide +kernel))) im_X8_length se_X8_length ini_RX8 cw_X8_length ok_X8_length
theorem cw_X8_isTicks : Cond.code yX8_isTicks cX8_isTicks 2 (some FieldType.boolean) ∈ lw_tbl := (List.mem_append_right _ (List.mem_of_getElem? (i := 1309) (by decide +kernel)))
theorem ok_X8_isTicks : okMH yX8_isTicks 1 := ⟨by decide +kernel, by decide +kernel, by decide +kernel⟩
theorem im_X8_isTicks : Cond.instanceMethod yX8_isTicks ∈ lw_tbl := (List.mem_append_right _ (List.mem_of_getElem? (i := 1308) (by decide +kernel)))
theorem se_X8_isTicks : Cond.selects yX8_isTicks.cls yX8_isTicks yX8_isTicks ∈ lw_tbl := (List.mem_append_left _ (List.mem_of_getElem? (i := 97) (by decide +kernel)))
theorem ck_X8_281 : CKV RX8 281 yX8_isTicks cX8_isTicks 2 (some FieldType.boolean) 1 := ckV_of (List.mem_append_right _ (List.mem_of_getElem? (i := 1306) (by decide +kernel))) im_X8_isTicks se_X8_isTicks ini_RX8 cw_X8_isTicks ok_X8_isTicks
theorem cw_X8_whole : Cond.code yX8_whole cX8_whole 3 none ∈ lw_tbl := (List.mem_append_right _ (List.mem_of_getElem? (i := 1313) (by decide +kernel)))
theorem ok_X8_whole : okMH yX8_whole 2 := ⟨by decide +kernel, by decide +kernel, by decide +kernel⟩
theorem im_X8_whole : Cond.instanceMethod yX8_whole ∈ lw_tbl := (List.mem_append_right _ (List.mem_of_getElem? (i := 1312) (by decide +kernel)))
theorem se_X8_whole : Cond.selects yX8_whole.cls yX8_whole yX8_whole ∈ lw_tbl := (List.mem_append_left _ (List.mem_of_getElem? (i := 98) (by decide +kernel)))
theorem ck_X8_284 : CKV RX8 284 yX8_whole cX8_whole 3 none 2 := ckV_of (List.mem_append_right _ (List.mem_of_getElem? (i := 1310) (by decide +kernel))) im_X8_whole se_X8_whole ini_RX8 cw_X8_whole ok_X8_whole
theorem cw_X8_keepsAll : Cond.code yX8_keepsAll cX8_keepsAll 2 none ∈ lw_tbl := (List.mem_append_right _ (List.mem_of_getElem? (i := 1317) (by decide +kernel)))
theorem ok_X8_keepsAll : okMH yX8_keepsAll 0 := ⟨by decide +kernel, by decide +kernel, by decide +kernel⟩
theorem im_X8_keepsAll : Cond.instanceMethod yX8_keepsAll ∈ lw_tbl := (List.mem_append_right _ (List.mem_of_getElem? (i := 1316) (by decide +kernel)))
theorem se_X8_keepsAll : Cond.selects yX8_keepsAll.cls yX8_keepsAll yX8_keepsAll ∈ lw_tbl := (List.mem_append_left _ (List.mem_of_getElem? (i := 99) (by decide +kernel)))
theorem ck_X8_274 : CKV RX8 274 yX8_keepsAll cX8_keepsAll 2 none 0 := ckV_of (List.mem_append_right _ (List.mem_of_getElem? (i := 1314) (by decide +kernel))) im_X8_keepsAll se_X8_keepsAll ini_RX8 cw_X8_keepsAll ok_X8_keepsAll
theorem cw_X8_evening : Cond.code yX8_evening cX8_evening 4 none ∈ lw_tbl := (List.mem_append_right _ (List.mem_of_getElem? (i := 1321) (by decide +kernel)))
theorem ok_X8_evening : okMH yX8_evening 2 := ⟨by decide +kernel, by decide +kernel, by decide +kernel⟩
theorem im_X8_evening : Cond.instanceMethod yX8_evening ∈ lw_tbl := (List.mem_append_right _ (List.mem_of_getElem? (i := 1320) (by decide +kernel)))
theorem se_X8_evening : Cond.selects yX8_evening.cls yX8_evening yX8_evening ∈ lw_tbl := (List.mem_append_left _ (List.mem_of_getElem? (i := 100) (by decide +kernel)))
theorem ck_X8_277 : CKV RX8 277 yX8_evening cX8_evening 4 none 2 := ckV_of (List.mem_append_right _ (List.mem_of_getElem? (i := 1318) (by decide +kernel))) im_X8_evening se_X8_evening ini_RX8 cw_X8_evening ok_X8_evening
theorem cw_X8_meets : Cond.code yX8_meets cX8_meets 2 none ∈ lw_tbl := (List.mem_append_right _ (List.mem_of_getElem? (i := 1325) (by decide +kernel)))
theorem ok_X8_meets : okMH yX8_meets 0 := ⟨by decide +kernel, by decide +kernel, by decide +kernel⟩
theorem im_X8_meets : Cond.instanceMethod yX8_meets ∈ lw_tbl := (List.mem_append_right _ (List.mem_of_getElem? (i := 1324) (by decide +kernel)))
theorem se_X8_meets : Cond.selects yX8_meets.cls yX8_meets yX8_meets ∈ lw_tbl := (List.mem_append_left _ (List.mem_of_getElem? (i := 101) (by decide +kernel)))
theorem ck_X8_271 : CKV RX8 271 yX8_meets cX8_meets 2 none 0 := ckV_of (List.mem_append_right _ (List.mem_of_getElem? (i := 1322) (by decide +kernel))) im_X8_meets se_X8_meets ini_RX8 cw_X8_meets ok_X8_meets
theorem cw_X8_backAll : Cond.code yX8_backAll cX8_backAll 2 none ∈ lw_tbl := (List.mem_append_right _ (List.mem_of_getElem? (i := 1329) (by decide +kernel)))
theorem ok_X8_backAll : okMH yX8_backAll 0 := ⟨by decide +kernel, by decide +kernel, by decide +kernel⟩
theorem im_X8_backAll : Cond.instanceMethod yX8_backAll ∈ lw_tbl := (List.mem_append_right _ (List.mem_of_getElem? (i := 1328) (by decide +kernel)))
theorem se_X8_backAll : Cond.selects yX8_backAll.cls yX8_backAll yX8_backAll ∈ lw_tbl := (List.mem_append_left _ (List.mem_of_getElem? (i := 102) (by decide +kernel)))
theorem ck_X8_287 : CKV RX8 287 yX8_backAll cX8_backAll 2 none 0 := ckV_of (List.mem_append_right _ (List.mem_of_getElem? (i := 1326) (by decide +kernel))) im_X8_backAll se_X8_backAll ini_RX8 cw_X8_backAll ok_X8_backAll
theorem cw_X8_lengthOf : Cond.code yX8_lengthOf cX8_lengthOf 4 (some FieldType.int) ∈ lw_tbl := (List.mem_append_right _ (List.mem_of_getElem? (i := 1333) (by decide +kernel)))
theorem ok_X8_lengthOf : okMH yX8_lengthOf 1 := ⟨by decide +kernel, by decide +kernel, by decide +kernel⟩
theorem im_X8_lengthOf : Cond.instanceMethod yX8_lengthOf ∈ lw_tbl := (List.mem_append_right _ (List.mem_of_getElem? (i := 1332) (by decide +kernel)))
theorem se_X8_lengthOf : Cond.selects yX8_lengthOf.cls yX8_lengthOf yX8_lengthOf ∈ lw_tbl := (List.mem_append_left _ (List.mem_of_getElem? (i := 103) (by decide +kernel)))
theorem ck_X8_290 : CKV RX8 290 yX8_lengthOf cX8_lengthOf 4 (some FieldType.int) 1 := ckV_of (List.mem_append_right _ (List.mem_of_getElem? (i := 1330) (by decide +kernel))) im_X8_lengthOf se_X8_lengthOf ini_RX8 cw_X8_lengthOf ok_X8_lengthOf
theorem cw_X8_joined : Cond.code yX8_joined cX8_joined 3 (some FieldType.int) ∈ lw_tbl := (List.mem_append_right _ (List.mem_of_getElem? (i := 1337) (by decide +kernel)))
theorem ok_X8_joined : okMH yX8_joined 2 := ⟨by decide +kernel, by decide +kernel, by decide +kernel⟩
theorem im_X8_joined : Cond.instanceMethod yX8_joined ∈ lw_tbl := (List.mem_append_right _ (List.mem_of_getElem? (i := 1335) (by decide +kernel)))
theorem se_X8_joined : Cond.selects yX8_joined.cls yX8_joined yX8_joined ∈ lw_tbl := (List.mem_append_right _ (List.mem_of_getElem? (i := 1336) (by decide +kernel)))
theorem ck_L_134 : CKV RL 134 yX8_joined cX8_joined 3 (some FieldType.int) 2 := ckV_of (List.mem_append_right _ (List.mem_of_getElem? (i := 1334) (by decide +kernel))) im_X8_joined se_X8_joined ini_RX8 cw_X8_joined ok_X8_joined
theorem cw_X8_tally : Cond.code yX8_tally cX8_tally 4 (some FieldType.int) ∈ lw_tbl := (List.mem_append_right _ (List.mem_of_getElem? (i := 1341) (by decide +kernel)))
theorem ok_X8_tally : okMH yX8_tally 3 := ⟨by decide +kernel, by decide +kernel, by decide +kernel⟩
theorem im_X8_tally : Cond.instanceMethod yX8_tally ∈ lw_tbl := (List.mem_append_right _ (List.mem_of_getElem? (i := 1339) (by decide +kernel)))
theorem se_X8_tally : Cond.selects yX8_tally.cls yX8_tally yX8_tally ∈ lw_tbl := (List.mem_append_right _ (List.mem_of_getElem? (i := 1340) (by decide +kernel)))
theorem ck_L_138 : CKV RL 138 yX8_tally cX8_tally 4 (some FieldType.int) 3 := ckV_of (List.mem_append_right _ (List.mem_of_getElem? (i := 1338) (by decide +kernel))) im_X8_tally se_X8_tally ini_RX8 cw_X8_tally ok_X8_tally
theorem cw_X8_grows : Cond.code yX8_grows cX8_grows 2 (some FieldType.int) ∈ lw_tbl := (List.mem_append_right _ (List.mem_of_getElem? (i := 1345) (by decide +kernel)))
theorem ok_X8_grows : okMH yX8_grows 1 := ⟨by decide +kernel, by decide +kernel, by decide +kernel⟩
theorem im_X8_grows : Cond.instanceMethod yX8_grows ∈ lw_tbl := (List.mem_append_right _ (List.mem_of_getElem? (i := 1343) (by decide +kernel)))
theorem se_X8_grows : Cond.selects yX8_grows.cls yX8_grows yX8_grows ∈ lw_tbl := (List.mem_append_right _ (List.mem_of_getElem? (i := 1344) (by decide +kernel)))
theorem ck_L_142 : CKV RL 142 yX8_grows cX8_grows 2 (some FieldType.int) 1 := ckV_of (List.mem_append_right _ (List.mem_of_getElem? (i := 1342) (by decide +kernel))) im_X8_grows se_X8_grows ini_RX8 cw_X8_grows ok_X8_grows
theorem cw_X8_few : Cond.code yX8_few cX8_few 4 (some FieldType.int) ∈ lw_tbl := (List.mem_append_right _ (List.mem_of_getElem? (i := 1349) (by decide +kernel)))
theorem ok_X8_few : okMH yX8_few 1 := ⟨by decide +kernel, by decide +kernel, by decide +kernel⟩
theorem im_X8_few : Cond.instanceMethod yX8_few ∈ lw_tbl := (List.mem_append_right _ (List.mem_of_getElem? (i := 1347) (by decide +kernel)))
theorem se_X8_few : Cond.selects yX8_few.cls yX8_few yX8_few ∈ lw_tbl := (List.mem_append_right _ (List.mem_of_getElem? (i := 1348) (by decide +kernel)))
theorem ck_L_146 : CKV RL 146 yX8_few cX8_few 4 (some FieldType.int) 1 := ckV_of (List.mem_append_right _ (List.mem_of_getElem? (i := 1346) (by decide +kernel))) im_X8_few se_X8_few ini_RX8 cw_X8_few ok_X8_few
theorem cw_X8_asked : Cond.code yX8_asked cX8_asked 3 (some FieldType.int) ∈ lw_tbl := (List.mem_append_right _ (List.mem_of_getElem? (i := 1353) (by decide +kernel)))
theorem ok_X8_asked : okMH yX8_asked 2 := ⟨by decide +kernel, by decide +kernel, by decide +kernel⟩
theorem im_X8_asked : Cond.instanceMethod yX8_asked ∈ lw_tbl := (List.mem_append_right _ (List.mem_of_getElem? (i := 1352) (by decide +kernel)))
theorem se_X8_asked : Cond.selects yX8_asked.cls yX8_asked yX8_asked ∈ lw_tbl := (List.mem_append_left _ (List.mem_of_getElem? (i := 104) (by decide +kernel)))
theorem ck_X8_293 : CKV RX8 293 yX8_asked cX8_asked 3 (some FieldType.int) 2 := ckV_of (List.mem_append_right _ (List.mem_of_getElem? (i := 1350) (by decide +kernel))) im_X8_asked se_X8_asked ini_RX8 cw_X8_asked ok_X8_asked
theorem cw_X8_front : Cond.code yX8_front cX8_front 4 (some FieldType.int) ∈ lw_tbl := (List.mem_append_right _ (List.mem_of_getElem? (i := 1357) (by decide +kernel)))
theorem ok_X8_front : okMH yX8_front 1 := ⟨by decide +kernel, by decide +kernel, by decide +kernel⟩
theorem im_X8_front : Cond.instanceMethod yX8_front ∈ lw_tbl := (List.mem_append_right _ (List.mem_of_getElem? (i := 1355) (by decide +kernel)))
theorem se_X8_front : Cond.selects yX8_front.cls yX8_front yX8_front ∈ lw_tbl := (List.mem_append_right _ (List.mem_of_getElem? (i := 1356) (by decide +kernel)))
theorem ck_L_150 : CKV RL 150 yX8_front cX8_front 4 (some FieldType.int) 1 := ckV_of (List.mem_append_right _ (List.mem_of_getElem? (i := 1354) (by decide +kernel))) im_X8_front se_X8_front ini_RX8 cw_X8_front ok_X8_front
theorem cw_X8_micro : Cond.code yX8_micro cX8_micro 2 (some FieldType.int) ∈ lw_tbl := (List.mem_append_right _ (List.mem_of_getElem? (i := 1361) (by decide +kernel)))
theorem ok_X8_micro : okMH yX8_micro 1 := ⟨by decide +kernel, by decide +kernel, by decide +kernel⟩
theorem im_X8_micro : Cond.instanceMethod yX8_micro ∈ lw_tbl := (List.mem_append_right _ (List.mem_of_getElem? (i := 1359) (by decide +kernel)))
theorem se_X8_micro : Cond.selects yX8_micro.cls yX8_micro yX8_micro ∈ lw_tbl := (List.mem_append_right _ (List.mem_of_getElem? (i := 1360) (by decide +kernel)))
theorem ck_L_154 : CKV RL 154 yX8_micro cX8_micro 2 (some FieldType.int) 1 := ckV_of (List.mem_append_right _ (List.mem_of_getElem? (i := 1358) (by decide +kernel))) im_X8_micro se_X8_micro ini_RX8 cw_X8_micro ok_X8_micro
theorem cw_X8_sum : Cond.code yX8_sum cX8_sum 2 (some FieldType.int) ∈ lw_tbl := (List.mem_append_right _ (List.mem_of_getElem? (i := 1365) (by decide +kernel)))
theorem ok_X8_sum : okMH yX8_sum 1 := ⟨by decide +kernel, by decide +kernel, by decide +kernel⟩
theorem im_X8_sum : Cond.instanceMethod yX8_sum ∈ lw_tbl := (List.mem_append_right _ (List.mem_of_getElem? (i := 1363) (by decide +kernel)))
theorem se_X8_sum : Cond.selects yX8_sum.cls yX8_sum yX8_sum ∈ lw_tbl := (List.mem_append_right _ (List.mem_of_getElem? (i := 1364) (by decide +kernel)))
theorem ck_L_158 : CKV RL 158 yX8_sum cX8_sum 2 (some FieldType.int) 1 := ckV_of (List.mem_append_right _ (List.mem_of_getElem? (i := 1362) (by decide +kernel))) im_X8_sum se_X8_sum ini_RX8 cw_X8_sum ok_X8_sum
theorem cw_X8_takes : Cond.code yX8_takes cX8_takes 5 (some FieldType.int) ∈ lw_tbl := (List.mem_append_right _ (List.mem_of_getElem? (i := 1369) (by decide +kernel)))
theorem ok_X8_takes : okMH yX8_takes 2 := ⟨by decide +kernel, by decide +kernel, by decide +kernel⟩
theorem im_X8_takes : Cond.instanceMethod yX8_takes ∈ lw_tbl := (List.mem_append_right _ (List.mem_of_getElem? (i := 1368) (by decide +kernel)))
theorem se_X8_takes : Cond.selects yX8_takes.cls yX8_takes yX8_takes ∈ lw_tbl := (List.mem_append_left _ (List.mem_of_getElem? (i := 105) (by decide +kernel)))
theorem ck_X8_299 : CKV RX8 299 yX8_takes cX8_takes 5 (some FieldType.int) 2 := ckV_of (List.mem_append_right _ (List.mem_of_getElem? (i := 1366) (by decide +kernel))) im_X8_takes se_X8_takes ini_RX8 cw_X8_takes ok_X8_takes
theorem cw_X8_gloved : Cond.code yX8_gloved cX8_gloved 2 (some FieldType.int) ∈ lw_tbl := (List.mem_append_right _ (List.mem_of_getElem? (i := 1373) (by decide +kernel)))
theorem ok_X8_gloved : okMH yX8_gloved 1 := ⟨by decide +kernel, by decide +kernel, by decide +kernel⟩
theorem im_X8_gloved : Cond.instanceMethod yX8_gloved ∈ lw_tbl := (List.mem_append_right _ (List.mem_of_getElem? (i := 1371) (by decide +kernel)))
theorem se_X8_gloved : Cond.selects yX8_gloved.cls yX8_gloved yX8_gloved ∈ lw_tbl := (List.mem_append_right _ (List.mem_of_getElem? (i := 1372) (by decide +kernel)))
theorem ck_L_162 : CKV RL 162 yX8_gloved cX8_gloved 2 (some FieldType.int) 1 := ckV_of (List.mem_append_right _ (List.mem_of_getElem? (i := 1370) (by decide +kernel))) im_X8_gloved se_X8_gloved ini_RX8 cw_X8_gloved ok_X8_gloved
theorem cw_X8_judge : Cond.code yX8_judge cX8_judge 5 (some FieldType.int) ∈ lw_tbl := (List.mem_append_right _ (List.mem_of_getElem? (i := 1377) (by decide +kernel)))
theorem ok_X8_judge : okMH yX8_judge 1 := ⟨by decide +kernel, by decide +kernel, by decide +kernel⟩
theorem im_X8_judge : Cond.instanceMethod yX8_judge ∈ lw_tbl := (List.mem_append_right _ (List.mem_of_getElem? (i := 1375) (by decide +kernel)))
theorem se_X8_judge : Cond.selects yX8_judge.cls yX8_judge yX8_judge ∈ lw_tbl := (List.mem_append_right _ (List.mem_of_getElem? (i := 1376) (by decide +kernel)))
theorem ck_L_178 : CKV RL 178 yX8_judge cX8_judge 5 (some FieldType.int) 1 := ckV_of (List.mem_append_right _ (List.mem_of_getElem? (i := 1374) (by decide +kernel))) im_X8_judge se_X8_judge ini_RX8 cw_X8_judge ok_X8_judge
theorem cw_X8_fit : Cond.code yX8_fit cX8_fit 8 (some FieldType.int) ∈ lw_tbl := (List.mem_append_right _ (List.mem_of_getElem? (i := 1381) (by decide +kernel)))
theorem ok_X8_fit : okMH yX8_fit 2 := ⟨by decide +kernel, by decide +kernel, by decide +kernel⟩
theorem im_X8_fit : Cond.instanceMethod yX8_fit ∈ lw_tbl := (List.mem_append_right _ (List.mem_of_getElem? (i := 1379) (by decide +kernel)))
theorem se_X8_fit : Cond.selects yX8_fit.cls yX8_fit yX8_fit ∈ lw_tbl := (List.mem_append_right _ (List.mem_of_getElem? (i := 1380) (by decide +kernel)))
theorem ck_L_166 : CKV RL 166 yX8_fit cX8_fit 8 (some FieldType.int) 2 := ckV_of (List.mem_append_right _ (List.mem_of_getElem? (i := 1378) (by decide +kernel))) im_X8_fit se_X8_fit ini_RX8 cw_X8_fit ok_X8_fit
theorem cw_X8_part : Cond.code yX8_part cX8_part 5 (some FieldType.int) ∈ lw_tbl := (List.mem_append_right _ (List.mem_of_getElem? (i := 1385) (by decide +kernel)))
theorem ok_X8_part : okMH yX8_part 3 := ⟨by decide +kernel, by decide +kernel, by decide +kernel⟩
theorem im_X8_part : Cond.instanceMethod yX8_part ∈ lw_tbl := (List.mem_append_right _ (List.mem_of_getElem? (i := 1383) (by decide +kernel)))
theorem se_X8_part : Cond.selects yX8_part.cls yX8_part yX8_part ∈ lw_tbl := (List.mem_append_right _ (List.mem_of_getElem? (i := 1384) (by decide +kernel)))
theorem ck_L_170 : CKV RL 170 yX8_part cX8_part 5 (some FieldType.int) 3 := ckV_of (List.mem_append_right _ (List.mem_of_getElem? (i := 1382) (by decide +kernel))) im_X8_part se_X8_part ini_RX8 cw_X8_part ok_X8_part
theorem cw_X8_spread : Cond.code yX8_spread cX8_spread 6 (some FieldType.int) ∈ lw_tbl := (List.mem_append_right _ (List.mem_of_getElem? (i := 1389) (by decide +kernel)))
theorem ok_X8_spread : okMH yX8_spread 1 := ⟨by decide +kernel, by decide +kernel, by decide +kernel⟩
theorem im_X8_spread : Cond.instanceMethod yX8_spread ∈ lw_tbl := (List.mem_append_right _ (List.mem_of_getElem? (i := 1387) (by decide +kernel)))
theorem se_X8_spread : Cond.selects yX8_spread.cls yX8_spread yX8_spread ∈ lw_tbl := (List.mem_append_right _ (List.mem_of_getElem? (i := 1388) (by decide +kernel)))
theorem ck_L_174 : CKV RL 174 yX8_spread cX8_spread 6 (some FieldType.int) 1 := ckV_of (List.mem_append_right _ (List.mem_of_getElem? (i := 1386) (by decide +kernel))) im_X8_spread se_X8_spread ini_RX8 cw_X8_spread ok_X8_spread
theorem cw_X8_act : Cond.code yX8_act cX8_act 4 (some FieldType.int) ∈ lw_tbl := (List.mem_append_right _ (List.mem_of_getElem? (i := 1393) (by decide +kernel)))
theorem ok_X8_act : okMH yX8_act 3 := ⟨by decide +kernel, by decide +kernel, by decide +kernel⟩
theorem im_X8_act : Cond.instanceMethod yX8_act ∈ lw_tbl := (List.mem_append_right _ (List.mem_of_getElem? (i := 1391) (by decide +kernel)))
theorem se_X8_act : Cond.selects yX8_act.cls yX8_act yX8_act ∈ lw_tbl := (List.mem_append_right _ (List.mem_of_getElem? (i := 1392) (by decide +kernel)))
theorem ck_L_182 : CKV RL 182 yX8_act cX8_act 4 (some FieldType.int) 3 := ckV_of (List.mem_append_right _ (List.mem_of_getElem? (i := 1390) (by decide +kernel))) im_X8_act se_X8_act ini_RX8 cw_X8_act ok_X8_act
theorem cw_X8_hears : Cond.code yX8_hears cX8_hears 6 (some FieldType.int) ∈ lw_tbl := (List.mem_append_right _ (List.mem_of_getElem? (i := 1397) (by decide +kernel)))
theorem ok_X8_hears : okMH yX8_hears 2 := ⟨by decide +kernel, by decide +kernel, by decide +kernel⟩
theorem im_X8_hears : Cond.instanceMethod yX8_hears ∈ lw_tbl := (List.mem_append_right _ (List.mem_of_getElem? (i := 1396) (by decide +kernel)))
theorem se_X8_hears : Cond.selects yX8_hears.cls yX8_hears yX8_hears ∈ lw_tbl := (List.mem_append_left _ (List.mem_of_getElem? (i := 106) (by decide +kernel)))
theorem ck_X8_310 : CKV RX8 310 yX8_hears cX8_hears 6 (some FieldType.int) 2 := ckV_of (List.mem_append_right _ (List.mem_of_getElem? (i := 1394) (by decide +kernel))) im_X8_hears se_X8_hears ini_RX8 cw_X8_hears ok_X8_hears
theorem cw_X8_body : Cond.code yX8_body cX8_body 2 none ∈ lw_tbl := (List.mem_append_right _ (List.mem_of_getElem? (i := 1401) (by decide +kernel)))
theorem ok_X8_body : okMH yX8_body 1 := ⟨by decide +kernel, by decide +kernel, by decide +kernel⟩
theorem im_X8_body : Cond.instanceMethod yX8_body ∈ lw_tbl := (List.mem_append_right _ (List.mem_of_getElem? (i := 1400) (by decide +kernel)))
theorem se_X8_body : Cond.selects yX8_body.cls yX8_body yX8_body ∈ lw_tbl := (List.mem_append_left _ (List.mem_of_getElem? (i := 107) (by decide +kernel)))
theorem ck_X8_306 : CKV RX8 306 yX8_body cX8_body 2 none 1 := ckV_of (List.mem_append_right _ (List.mem_of_getElem? (i := 1398) (by decide +kernel))) im_X8_body se_X8_body ini_RX8 cw_X8_body ok_X8_body
theorem cw_X8_beginning : Cond.code yX8_beginning cX8_beginning 5 (some FieldType.int) ∈ lw_tbl := (List.mem_append_right _ (List.mem_of_getElem? (i := 1405) (by decide +kernel)))
theorem ok_X8_beginning : okMH yX8_beginning 2 := ⟨by decide +kernel, by decide +kernel, by decide +kernel⟩
theorem im_X8_beginning : Cond.instanceMethod yX8_beginning ∈ lw_tbl := (List.mem_append_right _ (List.mem_of_getElem? (i := 1404) (by decide +kernel)))
theorem se_X8_beginning : Cond.selects yX8_beginning.cls yX8_beginning yX8_beginning ∈ lw_tbl := (List.mem_append_left _ (List.mem_of_getElem? (i := 108) (by decide +kernel)))
theorem ck_X8_313 : CKV RX8 313 yX8_beginning cX8_beginning 5 (some FieldType.int) 2 := ckV_of (List.mem_append_right _ (List.mem_of_getElem? (i := 1402) (by decide +kernel))) im_X8_beginning se_X8_beginning ini_RX8 cw_X8_beginning ok_X8_beginning
theorem cw_X8_stepping : Cond.code yX8_stepping cX8_stepping 5 (some FieldType.int) ∈ lw_tbl := (List.mem_append_right _ (List.mem_of_getElem? (i := 1409) (by decide +kernel)))
theorem ok_X8_stepping : okMH yX8_stepping 2 := ⟨by decide +kernel, by decide +kernel, by decide +kernel⟩
theorem im_X8_stepping : Cond.instanceMethod yX8_stepping ∈ lw_tbl := (List.mem_append_right _ (List.mem_of_getElem? (i := 1408) (by decide +kernel)))
theorem se_X8_stepping : Cond.selects yX8_stepping.cls yX8_stepping yX8_stepping ∈ lw_tbl := (List.mem_append_left _ (List.mem_of_getElem? (i := 109) (by decide +kernel)))
theorem ck_X8_316 : CKV RX8 316 yX8_stepping cX8_stepping 5 (some FieldType.int) 2 := ckV_of (List.mem_append_right _ (List.mem_of_getElem? (i := 1406) (by decide +kernel))) im_X8_stepping se_X8_stepping ini_RX8 cw_X8_stepping ok_X8_stepping
theorem cw_X8_trace : Cond.code yX8_trace cX8_trace 2 (some FieldType.int) ∈ lw_tbl := (List.mem_append_right _ (List.mem_of_getElem? (i := 1413) (by decide +kernel)))
theorem ok_X8_trace : okMH yX8_trace 1 := ⟨by decide +kernel, by decide +kernel, by decide +kernel⟩
theorem im_X8_trace : Cond.instanceMethod yX8_trace ∈ lw_tbl := (List.mem_append_right _ (List.mem_of_getElem? (i := 1411) (by decide +kernel)))
theorem se_X8_trace : Cond.selects yX8_trace.cls yX8_trace yX8_trace ∈ lw_tbl := (List.mem_append_right _ (List.mem_of_getElem? (i := 1412) (by decide +kernel)))
theorem ck_L_186 : CKV RL 186 yX8_trace cX8_trace 2 (some FieldType.int) 1 := ckV_of (List.mem_append_right _ (List.mem_of_getElem? (i := 1410) (by decide +kernel))) im_X8_trace se_X8_trace ini_RX8 cw_X8_trace ok_X8_trace
theorem cw_X8_image : Cond.code yX8_image cX8_image 1 (some FieldType.int) ∈ lw_tbl := (List.mem_append_right _ (List.mem_of_getElem? (i := 1417) (by decide +kernel)))
theorem ok_X8_image : okMH yX8_image 0 := ⟨by decide +kernel, by decide +kernel, by decide +kernel⟩
theorem im_X8_image : Cond.instanceMethod yX8_image ∈ lw_tbl := (List.mem_append_right _ (List.mem_of_getElem? (i := 1415) (by decide +kernel)))
theorem se_X8_image : Cond.selects yX8_image.cls yX8_image yX8_image ∈ lw_tbl := (List.mem_append_right _ (List.mem_of_getElem? (i := 1416) (by decide +kernel)))
theorem ck_L_190 : CKV RL 190 yX8_image cX8_image 1 (some FieldType.int) 0 := ckV_of (List.mem_append_right _ (List.mem_of_getElem? (i := 1414) (by decide +kernel))) im_X8_image se_X8_image ini_RX8 cw_X8_image ok_X8_image
theorem cw_X8_all : Cond.code yX8_all cX8_all 3 none ∈ lw_tbl := (List.mem_append_right _ (List.mem_of_getElem? (i := 1421) (by decide +kernel)))
theorem ok_X8_all : okMH yX8_all 1 := ⟨by decide +kernel, by decide +kernel, by decide +kernel⟩
theorem im_X8_all : Cond.instanceMethod yX8_all ∈ lw_tbl := (List.mem_append_right _ (List.mem_of_getElem? (i := 1420) (by decide +kernel)))
theorem se_X8_all : Cond.selects yX8_all.cls yX8_all yX8_all ∈ lw_tbl := (List.mem_append_left _ (List.mem_of_getElem? (i := 110) (by decide +kernel)))
theorem ck_X8_344 : CKV RX8 344 yX8_all cX8_all 3 none 1 := ckV_of (List.mem_append_right _ (List.mem_of_getElem? (i := 1418) (by decide +kernel))) im_X8_all se_X8_all ini_RX8 cw_X8_all ok_X8_all
theorem cw_X8_keeps : Cond.code yX8_keeps cX8_keeps 6 (some FieldType.int) ∈ lw_tbl := (List.mem_append_right _ (List.mem_of_getElem? (i := 1425) (by decide +kernel)))
theorem ok_X8_keeps : okMH yX8_keeps 4 := ⟨by decide +kernel, by decide +kernel, by decide +kernel⟩
theorem im_X8_keeps : Cond.instanceMethod yX8_keeps ∈ lw_tbl := (List.mem_append_right _ (List.mem_of_getElem? (i := 1424) (by decide +kernel)))
theorem se_X8_keeps : Cond.selects yX8_keeps.cls yX8_keeps yX8_keeps ∈ lw_tbl := (List.mem_append_left _ (List.mem_of_getElem? (i := 111) (by decide +kernel)))
theorem ck_X8_319 : CKV RX8 319 yX8_keeps cX8_keeps 6 (some FieldType.int) 4 := ckV_of (List.mem_append_right _ (List.mem_of_getElem? (i := 1422) (by decide +kernel))) im_X8_keeps se_X8_keeps ini_RX8 cw_X8_keeps ok_X8_keeps
theorem cw_X8_restore : Cond.code yX8_restore cX8_restore 2 (some FieldType.int) ∈ lw_tbl := (List.mem_append_right _ (List.mem_of_getElem? (i := 1429) (by decide +kernel)))
theorem ok_X8_restore : okMH yX8_restore 0 := ⟨by decide +kernel, by decide +kernel, by decide +kernel⟩
theorem im_X8_restore : Cond.instanceMethod yX8_restore ∈ lw_tbl := (List.mem_append_right _ (List.mem_of_getElem? (i := 1427) (by decide +kernel)))
theorem se_X8_restore : Cond.selects yX8_restore.cls yX8_restore yX8_restore ∈ lw_tbl := (List.mem_append_right _ (List.mem_of_getElem? (i := 1428) (by decide +kernel)))
theorem ck_L_194 : CKV RL 194 yX8_restore cX8_restore 2 (some FieldType.int) 0 := ckV_of (List.mem_append_right _ (List.mem_of_getElem? (i := 1426) (by decide +kernel))) im_X8_restore se_X8_restore ini_RX8 cw_X8_restore ok_X8_restore
theorem cw_X8_status : Cond.code yX8_status cX8_status 2 (some FieldType.int) ∈ lw_tbl := (List.mem_append_right _ (List.mem_of_getElem? (i := 1433) (by decide +kernel)))
theorem ok_X8_status : okMH yX8_status 1 := ⟨by decide +kernel, by decide +kernel, by decide +kernel⟩
theorem im_X8_status : Cond.instanceMethod yX8_status ∈ lw_tbl := (List.mem_append_right _ (List.mem_of_getElem? (i := 1431) (by decide +kernel)))
theorem se_X8_status : Cond.selects yX8_status.cls yX8_status yX8_status ∈ lw_tbl := (List.mem_append_right _ (List.mem_of_getElem? (i := 1432) (by decide +kernel)))
theorem ck_L_198 : CKV RL 198 yX8_status cX8_status 2 (some FieldType.int) 1 := ckV_of (List.mem_append_right _ (List.mem_of_getElem? (i := 1430) (by decide +kernel))) im_X8_status se_X8_status ini_RX8 cw_X8_status ok_X8_status
