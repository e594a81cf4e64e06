/-! constructors with rows of rows: the crowd, the book of laws, the shelves -/
theorem pk_X1_11 : PK RX1 11 1 0 (.array (.array .int)) := pk_of (own := RX1) (index := 11) (j := 0) (C := RX1) (T := TX1) (N := 19) rfl hg_1 (by decide) tyX1 tyX1_ok nmX1 (nm := "traits") (ds := "[[I") (ow := "ClapTogether$Crowd") ⟨rfl, rfl, rfl⟩ rfl (List.mem_append_right _ (List.mem_of_getElem? (i := 58) (by decide +kernel))) rfl
theorem pk_X1_16 : PK RX1 16 1 1 (.array .int) := pk_of (own := RX1) (index := 16) (j := 1) (C := RX1) (T := TX1) (N := 19) rfl hg_1 (by decide) tyX1 tyX1_ok nmX1 (nm := "kind") (ds := "[I") (ow := "ClapTogether$Crowd") ⟨rfl, rfl, rfl⟩ rfl (List.mem_append_right _ (List.mem_of_getElem? (i := 60) (by decide +kernel))) rfl
theorem pk_X1_20 : PK RX1 20 1 2 (.array .int) := pk_of (own := RX1) (index := 20) (j := 2) (C := RX1) (T := TX1) (N := 19) rfl hg_1 (by decide) tyX1 tyX1_ok nmX1 (nm := "seat") (ds := "[I") (ow := "ClapTogether$Crowd") ⟨rfl, rfl, rfl⟩ rfl (List.mem_append_right _ (List.mem_of_getElem? (i := 63) (by decide +kernel))) rfl
theorem pk_X1_23 : PK RX1 23 1 3 (.array .int) := pk_of (own := RX1) (index := 23) (j := 3) (C := RX1) (T := TX1) (N := 19) rfl hg_1 (by decide) tyX1 tyX1_ok nmX1 (nm := "likes") (ds := "[I") (ow := "ClapTogether$Crowd") ⟨rfl, rfl, rfl⟩ rfl (List.mem_append_right _ (List.mem_of_getElem? (i := 65) (by decide +kernel))) rfl
theorem pk_X1_26 : PK RX1 26 1 4 (.array .int) := pk_of (own := RX1) (index := 26) (j := 4) (C := RX1) (T := TX1) (N := 19) rfl hg_1 (by decide) tyX1 tyX1_ok nmX1 (nm := "pace") (ds := "[I") (ow := "ClapTogether$Crowd") ⟨rfl, rfl, rfl⟩ rfl (List.mem_append_right _ (List.mem_of_getElem? (i := 66) (by decide +kernel))) rfl
theorem pk_X1_29 : PK RX1 29 1 5 (.array .int) := pk_of (own := RX1) (index := 29) (j := 5) (C := RX1) (T := TX1) (N := 19) rfl hg_1 (by decide) tyX1 tyX1_ok nmX1 (nm := "at") (ds := "[I") (ow := "ClapTogether$Crowd") ⟨rfl, rfl, rfl⟩ rfl (List.mem_append_right _ (List.mem_of_getElem? (i := 68) (by decide +kernel))) rfl
theorem pk_X1_32 : PK RX1 32 1 6 (.array .int) := pk_of (own := RX1) (index := 32) (j := 6) (C := RX1) (T := TX1) (N := 19) rfl hg_1 (by decide) tyX1 tyX1_ok nmX1 (nm := "phase") (ds := "[I") (ow := "ClapTogether$Crowd") ⟨rfl, rfl, rfl⟩ rfl (List.mem_append_right _ (List.mem_of_getElem? (i := 69) (by decide +kernel))) rfl
theorem pk_X1_35 : PK RX1 35 1 7 (.array .int) := pk_of (own := RX1) (index := 35) (j := 7) (C := RX1) (T := TX1) (N := 19) rfl hg_1 (by decide) tyX1 tyX1_ok nmX1 (nm := "mood") (ds := "[I") (ow := "ClapTogether$Crowd") ⟨rfl, rfl, rfl⟩ rfl (List.mem_append_right _ (List.mem_of_getElem? (i := 71) (by decide +kernel))) rfl
theorem pk_X1_38 : PK RX1 38 1 8 (.array .int) := pk_of (own := RX1) (index := 38) (j := 8) (C := RX1) (T := TX1) (N := 19) rfl hg_1 (by decide) tyX1 tyX1_ok nmX1 (nm := "ticks") (ds := "[I") (ow := "ClapTogether$Crowd") ⟨rfl, rfl, rfl⟩ rfl (List.mem_append_right _ (List.mem_of_getElem? (i := 74) (by decide +kernel))) rfl
theorem pk_X1_41 : PK RX1 41 1 9 (.array .int) := pk_of (own := RX1) (index := 41) (j := 9) (C := RX1) (T := TX1) (N := 19) rfl hg_1 (by decide) tyX1 tyX1_ok nmX1 (nm := "stands") (ds := "[I") (ow := "ClapTogether$Crowd") ⟨rfl, rfl, rfl⟩ rfl (List.mem_append_right _ (List.mem_of_getElem? (i := 75) (by decide +kernel))) rfl
theorem pk_X1_44 : PK RX1 44 1 10 (.array .int) := pk_of (own := RX1) (index := 44) (j := 10) (C := RX1) (T := TX1) (N := 19) rfl hg_1 (by decide) tyX1 tyX1_ok nmX1 (nm := "glove") (ds := "[I") (ow := "ClapTogether$Crowd") ⟨rfl, rfl, rfl⟩ rfl (List.mem_append_right _ (List.mem_of_getElem? (i := 76) (by decide +kernel))) rfl
theorem pk_X1_47 : PK RX1 47 1 11 .int := pk_of (own := RX1) (index := 47) (j := 11) (C := RX1) (T := TX1) (N := 19) rfl hg_1 (by decide) tyX1 tyX1_ok nmX1 (nm := "count") (ds := "I") (ow := "ClapTogether$Crowd") ⟨rfl, rfl, rfl⟩ rfl (List.mem_append_right _ (List.mem_of_getElem? (i := 78) (by decide +kernel))) rfl
theorem pk_X1_51 : PK RX1 51 1 12 .int := pk_of (own := RX1) (index := 51) (j := 12) (C := RX1) (T := TX1) (N := 19) rfl hg_1 (by decide) tyX1 tyX1_ok nmX1 (nm := "now") (ds := "I") (ow := "ClapTogether$Crowd") ⟨rfl, rfl, rfl⟩ rfl (List.mem_append_right _ (List.mem_of_getElem? (i := 81) (by decide +kernel))) rfl
theorem pk_X1_54 : PK RX1 54 1 13 .int := pk_of (own := RX1) (index := 54) (j := 13) (C := RX1) (T := TX1) (N := 19) rfl hg_1 (by decide) tyX1 tyX1_ok nmX1 (nm := "seed") (ds := "I") (ow := "ClapTogether$Crowd") ⟨rfl, rfl, rfl⟩ rfl (List.mem_append_right _ (List.mem_of_getElem? (i := 84) (by decide +kernel))) rfl
theorem pk_X1_57 : PK RX1 57 1 14 .int := pk_of (own := RX1) (index := 57) (j := 14) (C := RX1) (T := TX1) (N := 19) rfl hg_1 (by decide) tyX1 tyX1_ok nmX1 (nm := "lastHits") (ds := "I") (ow := "ClapTogether$Crowd") ⟨rfl, rfl, rfl⟩ rfl (List.mem_append_right _ (List.mem_of_getElem? (i := 86) (by decide +kernel))) rfl
theorem pk_X1_60 : PK RX1 60 1 15 .int := pk_of (own := RX1) (index := 60) (j := 15) (C := RX1) (T := TX1) (N := 19) rfl hg_1 (by decide) tyX1 tyX1_ok nmX1 (nm := "lastClapping") (ds := "I") (ow := "ClapTogether$Crowd") ⟨rfl, rfl, rfl⟩ rfl (List.mem_append_right _ (List.mem_of_getElem? (i := 88) (by decide +kernel))) rfl
theorem pk_X1_63 : PK RX1 63 1 16 (.array .int) := pk_of (own := RX1) (index := 63) (j := 16) (C := RX1) (T := TX1) (N := 19) rfl hg_1 (by decide) tyX1 tyX1_ok nmX1 (nm := "loud") (ds := "[I") (ow := "ClapTogether$Crowd") ⟨rfl, rfl, rfl⟩ rfl (List.mem_append_right _ (List.mem_of_getElem? (i := 90) (by decide +kernel))) rfl
theorem pk_X1_66 : PK RX1 66 1 17 (.array .int) := pk_of (own := RX1) (index := 66) (j := 17) (C := RX1) (T := TX1) (N := 19) rfl hg_1 (by decide) tyX1 tyX1_ok nmX1 (nm := "close") (ds := "[I") (ow := "ClapTogether$Crowd") ⟨rfl, rfl, rfl⟩ rfl (List.mem_append_right _ (List.mem_of_getElem? (i := 92) (by decide +kernel))) rfl
theorem pk_X1_69 : PK RX1 69 1 18 (.array .boolean) := pk_of (own := RX1) (index := 69) (j := 18) (C := RX1) (T := TX1) (N := 19) rfl hg_1 (by decide) tyX1 tyX1_ok nmX1 (nm := "turns") (ds := "[Z") (ow := "ClapTogether$Crowd") ⟨rfl, rfl, rfl⟩ rfl (List.mem_append_right _ (List.mem_of_getElem? (i := 94) (by decide +kernel))) rfl
theorem k_X1 : KX1 := by
  intro l
  refine KMet.of (by decide) rfl (fun ad0 ca h0 => ?_)
  refine kw_aload dX1_init_0 ?_
  refine kw_obj (List.mem_append_right _ (List.mem_of_getElem? (i := 55) (by decide +kernel))) ob_i ob_c (by decide) dX1_init_1 ?_
  refine kw_aload dX1_init_4 ?_
  refine kw_bipush (v := 10) dX1_init_5 (by decide) ?_
  refine kw_bipush (v := 30) dX1_init_7 (by decide) ?_
  refine kw_mna1 (t := 0) (t3 := 3) (N := 10) (K := 30) (z := (30, .inl (fun _ => 0))) (by decide) (List.mem_append_right _ (List.mem_of_getElem? (i := 56) (by decide +kernel))) ar_0 (by decide) (by decide) (by decide) (by decide) (by decide) (fun _ => rfl) (by decide) (by decide) dX1_init_9 (fun q r => ?_)
  refine kw_put1 [.ref q, .null, .null, .null, .null, .null, .null, .null, .null, .null, .null, .int 0, .int 0, .int 0, .int 0, .int 0, .null, .null, .null] pk_X1_11 rfl rfl (Nat.le_of_ble_eq_true rfl) dX1_init_13 rfl ?_
  refine kw_aload dX1_init_16 ?_
  refine kw_aload dX1_init_17 ?_
  refine kw_get gf_X1_11 (v := .ref q) rfl dX1_init_18 ?_
  refine kw_iconst (v := 0) dX1_init_21 (by decide) ?_
  refine kw_aald (t := 0) (N := 10) (k0 := 1) (v := r 0) (by decide) rfl (by unfold vp_in; decide) rfl dX1_init_22 ?_
  refine kw_put1 [.ref q, .ref (r 0), .null, .null, .null, .null, .null, .null, .null, .null, .null, .int 0, .int 0, .int 0, .int 0, .int 0, .null, .null, .null] pk_X1_16 rfl rfl (Nat.le_of_ble_eq_true rfl) dX1_init_23 rfl ?_
  refine kw_aload dX1_init_26 ?_
  refine kw_aload dX1_init_27 ?_
  refine kw_get gf_X1_11 (v := .ref q) rfl dX1_init_28 ?_
  refine kw_iconst (v := 1) dX1_init_31 (by decide) ?_
  refine kw_aald (t := 0) (N := 10) (k0 := 1) (v := r 1) (by decide) rfl (by unfold vp_in; decide) rfl dX1_init_32 ?_
  refine kw_put1 [.ref q, .ref (r 0), .ref (r 1), .null, .null, .null, .null, .null, .null, .null, .null, .int 0, .int 0, .int 0, .int 0, .int 0, .null, .null, .null] pk_X1_20 rfl rfl (Nat.le_of_ble_eq_true rfl) dX1_init_33 rfl ?_
  refine kw_aload dX1_init_36 ?_
  refine kw_aload dX1_init_37 ?_
  refine kw_get gf_X1_11 (v := .ref q) rfl dX1_init_38 ?_
  refine kw_iconst (v := 2) dX1_init_41 (by decide) ?_
  refine kw_aald (t := 0) (N := 10) (k0 := 1) (v := r 2) (by decide) rfl (by unfold vp_in; decide) rfl dX1_init_42 ?_
  refine kw_put1 [.ref q, .ref (r 0), .ref (r 1), .ref (r 2), .null, .null, .null, .null, .null, .null, .null, .int 0, .int 0, .int 0, .int 0, .int 0, .null, .null, .null] pk_X1_23 rfl rfl (Nat.le_of_ble_eq_true rfl) dX1_init_43 rfl ?_
  refine kw_aload dX1_init_46 ?_
  refine kw_aload dX1_init_47 ?_
  refine kw_get gf_X1_11 (v := .ref q) rfl dX1_init_48 ?_
  refine kw_iconst (v := 3) dX1_init_51 (by decide) ?_
  refine kw_aald (t := 0) (N := 10) (k0 := 1) (v := r 3) (by decide) rfl (by unfold vp_in; decide) rfl dX1_init_52 ?_
  refine kw_put1 [.ref q, .ref (r 0), .ref (r 1), .ref (r 2), .ref (r 3), .null, .null, .null, .null, .null, .null, .int 0, .int 0, .int 0, .int 0, .int 0, .null, .null, .null] pk_X1_26 rfl rfl (Nat.le_of_ble_eq_true rfl) dX1_init_53 rfl ?_
  refine kw_aload dX1_init_56 ?_
  refine kw_aload dX1_init_57 ?_
  refine kw_get gf_X1_11 (v := .ref q) rfl dX1_init_58 ?_
  refine kw_iconst (v := 4) dX1_init_61 (by decide) ?_
  refine kw_aald (t := 0) (N := 10) (k0 := 1) (v := r 4) (by decide) rfl (by unfold vp_in; decide) rfl dX1_init_62 ?_
  refine kw_put1 [.ref q, .ref (r 0), .ref (r 1), .ref (r 2), .ref (r 3), .ref (r 4), .null, .null, .null, .null, .null, .int 0, .int 0, .int 0, .int 0, .int 0, .null, .null, .null] pk_X1_29 rfl rfl (Nat.le_of_ble_eq_true rfl) dX1_init_63 rfl ?_
  refine kw_aload dX1_init_66 ?_
  refine kw_aload dX1_init_67 ?_
  refine kw_get gf_X1_11 (v := .ref q) rfl dX1_init_68 ?_
  refine kw_iconst (v := 5) dX1_init_71 (by decide) ?_
  refine kw_aald (t := 0) (N := 10) (k0 := 1) (v := r 5) (by decide) rfl (by unfold vp_in; decide) rfl dX1_init_72 ?_
  refine kw_put1 [.ref q, .ref (r 0), .ref (r 1), .ref (r 2), .ref (r 3), .ref (r 4), .ref (r 5), .null, .null, .null, .null, .int 0, .int 0, .int 0, .int 0, .int 0, .null, .null, .null] pk_X1_32 rfl rfl (Nat.le_of_ble_eq_true rfl) dX1_init_73 rfl ?_
  refine kw_aload dX1_init_76 ?_
  refine kw_aload dX1_init_77 ?_
  refine kw_get gf_X1_11 (v := .ref q) rfl dX1_init_78 ?_
  refine kw_bipush (v := 6) dX1_init_81 (by decide) ?_
  refine kw_aald (t := 0) (N := 10) (k0 := 1) (v := r 6) (by decide) rfl (by unfold vp_in; decide) rfl dX1_init_83 ?_
  refine kw_put1 [.ref q, .ref (r 0), .ref (r 1), .ref (r 2), .ref (r 3), .ref (r 4), .ref (r 5), .ref (r 6), .null, .null, .null, .int 0, .int 0, .int 0, .int 0, .int 0, .null, .null, .null] pk_X1_35 rfl rfl (Nat.le_of_ble_eq_true rfl) dX1_init_84 rfl ?_
  refine kw_aload dX1_init_87 ?_
  refine kw_aload dX1_init_88 ?_
  refine kw_get gf_X1_11 (v := .ref q) rfl dX1_init_89 ?_
  refine kw_bipush (v := 7) dX1_init_92 (by decide) ?_
  refine kw_aald (t := 0) (N := 10) (k0 := 1) (v := r 7) (by decide) rfl (by unfold vp_in; decide) rfl dX1_init_94 ?_
  refine kw_put1 [.ref q, .ref (r 0), .ref (r 1), .ref (r 2), .ref (r 3), .ref (r 4), .ref (r 5), .ref (r 6), .ref (r 7), .null, .null, .int 0, .int 0, .int 0, .int 0, .int 0, .null, .null, .null] pk_X1_38 rfl rfl (Nat.le_of_ble_eq_true rfl) dX1_init_95 rfl ?_
  refine kw_aload dX1_init_98 ?_
  refine kw_aload dX1_init_99 ?_
  refine kw_get gf_X1_11 (v := .ref q) rfl dX1_init_100 ?_
  refine kw_bipush (v := 8) dX1_init_103 (by decide) ?_
  refine kw_aald (t := 0) (N := 10) (k0 := 1) (v := r 8) (by decide) rfl (by unfold vp_in; decide) rfl dX1_init_105 ?_
  refine kw_put1 [.ref q, .ref (r 0), .ref (r 1), .ref (r 2), .ref (r 3), .ref (r 4), .ref (r 5), .ref (r 6), .ref (r 7), .ref (r 8), .null, .int 0, .int 0, .int 0, .int 0, .int 0, .null, .null, .null] pk_X1_41 rfl rfl (Nat.le_of_ble_eq_true rfl) dX1_init_106 rfl ?_
  refine kw_aload dX1_init_109 ?_
  refine kw_aload dX1_init_110 ?_
  refine kw_get gf_X1_11 (v := .ref q) rfl dX1_init_111 ?_
  refine kw_bipush (v := 9) dX1_init_114 (by decide) ?_
  refine kw_aald (t := 0) (N := 10) (k0 := 1) (v := r 9) (by decide) rfl (by unfold vp_in; decide) rfl dX1_init_116 ?_
  refine kw_put1 [.ref q, .ref (r 0), .ref (r 1), .ref (r 2), .ref (r 3), .ref (r 4), .ref (r 5), .ref (r 6), .ref (r 7), .ref (r 8), .ref (r 9), .int 0, .int 0, .int 0, .int 0, .int 0, .null, .null, .null] pk_X1_44 rfl rfl (Nat.le_of_ble_eq_true rfl) dX1_init_117 rfl ?_
  refine kw_aload dX1_init_120 ?_
  refine kw_iconst (v := 0) dX1_init_121 (by decide) ?_
  refine kw_put1 [.ref q, .ref (r 0), .ref (r 1), .ref (r 2), .ref (r 3), .ref (r 4), .ref (r 5), .ref (r 6), .ref (r 7), .ref (r 8), .ref (r 9), .int 0, .int 0, .int 0, .int 0, .int 0, .null, .null, .null] pk_X1_47 rfl rfl (Nat.le_of_ble_eq_true rfl) dX1_init_122 rfl ?_
  refine kw_aload dX1_init_125 ?_
  refine kw_iconst (v := 0) dX1_init_126 (by decide) ?_
  refine kw_put1 [.ref q, .ref (r 0), .ref (r 1), .ref (r 2), .ref (r 3), .ref (r 4), .ref (r 5), .ref (r 6), .ref (r 7), .ref (r 8), .ref (r 9), .int 0, .int 0, .int 0, .int 0, .int 0, .null, .null, .null] pk_X1_51 rfl rfl (Nat.le_of_ble_eq_true rfl) dX1_init_127 rfl ?_
  refine kw_aload dX1_init_130 ?_
  refine kw_iconst (v := 1) dX1_init_131 (by decide) ?_
  refine kw_put1 [.ref q, .ref (r 0), .ref (r 1), .ref (r 2), .ref (r 3), .ref (r 4), .ref (r 5), .ref (r 6), .ref (r 7), .ref (r 8), .ref (r 9), .int 0, .int 0, .int 1, .int 0, .int 0, .null, .null, .null] pk_X1_54 rfl rfl (Nat.le_of_ble_eq_true rfl) dX1_init_132 rfl ?_
  refine kw_aload dX1_init_135 ?_
  refine kw_iconst (v := 0) dX1_init_136 (by decide) ?_
  refine kw_put1 [.ref q, .ref (r 0), .ref (r 1), .ref (r 2), .ref (r 3), .ref (r 4), .ref (r 5), .ref (r 6), .ref (r 7), .ref (r 8), .ref (r 9), .int 0, .int 0, .int 1, .int 0, .int 0, .null, .null, .null] pk_X1_57 rfl rfl (Nat.le_of_ble_eq_true rfl) dX1_init_137 rfl ?_
  refine kw_aload dX1_init_140 ?_
  refine kw_iconst (v := 0) dX1_init_141 (by decide) ?_
  refine kw_put1 [.ref q, .ref (r 0), .ref (r 1), .ref (r 2), .ref (r 3), .ref (r 4), .ref (r 5), .ref (r 6), .ref (r 7), .ref (r 8), .ref (r 9), .int 0, .int 0, .int 1, .int 0, .int 0, .null, .null, .null] pk_X1_60 rfl rfl (Nat.le_of_ble_eq_true rfl) dX1_init_142 rfl ?_
  refine kw_aload dX1_init_145 ?_
  refine kw_bipush (v := 30) dX1_init_146 (by decide) ?_
  refine kw_newa1 (t := 0) (N := 30) (a0 := (30, .inl (fun _ => 0))) ar_0 rfl (by decide) (fun _ => rfl) (by decide) (by decide) (by decide) (by decide) (by decide) dX1_init_148 (fun q1 => ?_)
  refine kw_put1 [.ref q, .ref (r 0), .ref (r 1), .ref (r 2), .ref (r 3), .ref (r 4), .ref (r 5), .ref (r 6), .ref (r 7), .ref (r 8), .ref (r 9), .int 0, .int 0, .int 1, .int 0, .int 0, .ref q1, .null, .null] pk_X1_63 rfl rfl (Nat.le_of_ble_eq_true rfl) dX1_init_150 rfl ?_
  refine kw_aload dX1_init_153 ?_
  refine kw_bipush (v := 30) dX1_init_154 (by decide) ?_
  refine kw_newa1 (t := 0) (N := 30) (a0 := (30, .inl (fun _ => 0))) ar_0 rfl (by decide) (fun _ => rfl) (by decide) (by decide) (by decide) (by decide) (by decide) dX1_init_156 (fun q2 => ?_)
  refine kw_put1 [.ref q, .ref (r 0), .ref (r 1), .ref (r 2), .ref (r 3), .ref (r 4), .ref (r 5), .ref (r 6), .ref (r 7), .ref (r 8), .ref (r 9), .int 0, .int 0, .int 1, .int 0, .int 0, .ref q1, .ref q2, .null] pk_X1_66 rfl rfl (Nat.le_of_ble_eq_true rfl) dX1_init_158 rfl ?_
  refine kw_aload dX1_init_161 ?_
  refine kw_bipush (v := 30) dX1_init_162 (by decide) ?_
  refine kw_newa1 (t := 1) (N := 30) (a0 := (30, .inl (fun _ => 0))) ar_1 rfl (by decide) (fun _ => rfl) (by decide) (by decide) (by decide) (by decide) (by decide) dX1_init_164 (fun q3 => ?_)
  refine kw_put1 [.ref q, .ref (r 0), .ref (r 1), .ref (r 2), .ref (r 3), .ref (r 4), .ref (r 5), .ref (r 6), .ref (r 7), .ref (r 8), .ref (r 9), .int 0, .int 0, .int 1, .int 0, .int 0, .ref q1, .ref q2, .ref q3] pk_X1_69 rfl rfl (Nat.le_of_ble_eq_true rfl) dX1_init_166 rfl ?_
  have eg : (fun i => if i < 10 then some (r i) else none) = (fun i => if i < 10 then some ((fun k => [h0, q, r 0, r 1, r 2, r 3, r 4, r 5, r 6, r 7, r 8, r 9, q1, q2, q3].getD k 0) (2 + i)) else none) := funext fun i => by
    by_cases hi : i < 10
    · rw [if_pos hi, if_pos hi]
      match i, hi with
      | 0, _ => rfl
      | 1, _ => rfl
      | 2, _ => rfl
      | 3, _ => rfl
      | 4, _ => rfl
      | 5, _ => rfl
      | 6, _ => rfl
      | 7, _ => rfl
      | 8, _ => rfl
      | 9, _ => rfl
    · rw [if_neg hi, if_neg hi]
  refine kw_ret ⟨fun k => [h0, q, r 0, r 1, r 2, r 3, r 4, r 5, r 6, r 7, r 8, r 9, q1, q2, q3].getD k 0, rfl, piece_eq ?_⟩ (by decide) (by decide) dX1_init_169
  unfold gridW
  rw [eg]
  rfl
theorem pk_X3_11 : PK RX3 11 3 0 (.array (.array .int)) := pk_of (own := RX3) (index := 11) (j := 0) (C := RX3) (T := TX3) (N := 3) rfl hg_3 (by decide) tyX3 tyX3_ok nmX3 (nm := "numbers") (ds := "[[I") (ow := "ClapTogether$LawBook") ⟨rfl, rfl, rfl⟩ rfl (List.mem_append_right _ (List.mem_of_getElem? (i := 147) (by decide +kernel))) rfl
theorem pk_X3_16 : PK RX3 16 3 1 .int := pk_of (own := RX3) (index := 16) (j := 1) (C := RX3) (T := TX3) (N := 3) rfl hg_3 (by decide) tyX3 tyX3_ok nmX3 (nm := "count") (ds := "I") (ow := "ClapTogether$LawBook") ⟨rfl, rfl, rfl⟩ rfl (List.mem_append_right _ (List.mem_of_getElem? (i := 148) (by decide +kernel))) rfl
theorem pk_X3_20 : PK RX3 20 3 2 .int := pk_of (own := RX3) (index := 20) (j := 2) (C := RX3) (T := TX3) (N := 3) rfl hg_3 (by decide) tyX3 tyX3_ok nmX3 (nm := "inForce") (ds := "I") (ow := "ClapTogether$LawBook") ⟨rfl, rfl, rfl⟩ rfl (List.mem_append_right _ (List.mem_of_getElem? (i := 150) (by decide +kernel))) rfl
theorem k_X3 : KX3 := by
  intro l
  refine KMet.of (by decide) rfl (fun ad0 ca h0 => ?_)
  refine kw_aload dX3_init_0 ?_
  refine kw_obj (List.mem_append_right _ (List.mem_of_getElem? (i := 140) (by decide +kernel))) ob_i ob_c (by decide) dX3_init_1 ?_
  refine kw_aload dX3_init_4 ?_
  refine kw_bipush (v := 7) dX3_init_5 (by decide) ?_
  refine kw_bipush (v := 7) dX3_init_7 (by decide) ?_
  refine kw_mna1 (t := 0) (t3 := 3) (N := 7) (K := 7) (z := (7, .inl (fun _ => 0))) (by decide) (List.mem_append_right _ (List.mem_of_getElem? (i := 141) (by decide +kernel))) ar_0 (by decide) (by decide) (by decide) (by decide) (by decide) (fun _ => rfl) (by decide) (by decide) dX3_init_9 (fun q r => ?_)
  refine kw_put1 [.ref q, .int 0, .int 0] pk_X3_11 rfl rfl (Nat.le_of_ble_eq_true rfl) dX3_init_13 rfl ?_
  refine kw_aload dX3_init_16 ?_
  refine kw_iconst (v := 0) dX3_init_17 (by decide) ?_
  refine kw_put1 [.ref q, .int 0, .int 0] pk_X3_16 rfl rfl (Nat.le_of_ble_eq_true rfl) dX3_init_18 rfl ?_
  refine kw_aload dX3_init_21 ?_
  refine kw_iconst (v := (-1)) dX3_init_22 (by decide) ?_
  refine kw_put1 [.ref q, .int 0, .int (-1)] pk_X3_20 rfl rfl (Nat.le_of_ble_eq_true rfl) dX3_init_23 rfl ?_
  refine kw_getsL (host := "ClapTogether") (List.mem_append_right _ (List.mem_of_getElem? (i := 142) (by decide +kernel))) dX3_init_26 ?_
  refine kw_iconst (v := 0) dX3_init_29 (by decide) ?_
  refine kw_aload dX3_init_30 ?_
  refine kw_get gf_X3_11 (v := .ref q) rfl dX3_init_31 ?_
  refine kw_iconst (v := 0) dX3_init_34 (by decide) ?_
  refine kw_aald (t := 0) (N := 7) (k0 := 1) (v := r 0) (by decide) rfl (by unfold vp_in; decide) rfl dX3_init_35 ?_
  refine kw_iconst (v := 0) dX3_init_36 (by decide) ?_
  refine kw_bipush (v := 7) dX3_init_37 (by decide) ?_
  refine kw_copyT (q1 := 2) (n1 := 7) (g := fun _ => 0) (List.mem_append_right _ (List.mem_of_getElem? (i := 144) (by decide +kernel))) (List.mem_append_right _ (List.mem_of_getElem? (i := 146) (by decide +kernel))) (List.mem_append_right _ (List.mem_of_getElem? (i := 145) (by decide +kernel))) (List.mem_append_right _ (List.mem_of_getElem? (i := 6) (by decide +kernel))) rfl (by decide) (by decide) (Nat.le_of_ble_eq_true rfl) dX3_init_39 ?_
  have eg : (fun i => if i < 7 then some (r i) else none) = (fun i => if i < 7 then some ((fun k => [h0, q, r 0, r 1, r 2, r 3, r 4, r 5, r 6].getD k 0) (2 + i)) else none) := funext fun i => by
    by_cases hi : i < 7
    · rw [if_pos hi, if_pos hi]
      match i, hi with
      | 0, _ => rfl
      | 1, _ => rfl
      | 2, _ => rfl
      | 3, _ => rfl
      | 4, _ => rfl
      | 5, _ => rfl
      | 6, _ => rfl
    · rw [if_neg hi, if_neg hi]
  refine kw_ret ⟨fun k => [h0, q, r 0, r 1, r 2, r 3, r 4, r 5, r 6].getD k 0, rfl, piece_eq ?_⟩ (by decide) (by decide) dX3_init_42
  unfold gridW
  rw [eg]
  rfl
theorem pk_X6_9 : PK RX6 9 6 0 (.array .int) := pk_of (own := RX6) (index := 9) (j := 0) (C := RX6) (T := TX6) (N := 3) rfl hg_6 (by decide) tyX6 tyX6_ok nmX6 (nm := "held") (ds := "[I") (ow := "ClapTogether$Shelves") ⟨rfl, rfl, rfl⟩ rfl (List.mem_append_right _ (List.mem_of_getElem? (i := 37) (by decide +kernel))) rfl
theorem pk_X6_15 : PK RX6 15 6 1 (.array .int) := pk_of (own := RX6) (index := 15) (j := 1) (C := RX6) (T := TX6) (N := 3) rfl hg_6 (by decide) tyX6 tyX6_ok nmX6 (nm := "sizes") (ds := "[I") (ow := "ClapTogether$Shelves") ⟨rfl, rfl, rfl⟩ rfl (List.mem_append_right _ (List.mem_of_getElem? (i := 39) (by decide +kernel))) rfl
theorem pk_X6_20 : PK RX6 20 6 2 (.array (.array .long)) := pk_of (own := RX6) (index := 20) (j := 2) (C := RX6) (T := TX6) (N := 3) rfl hg_6 (by decide) tyX6 tyX6_ok nmX6 (nm := "cells") (ds := "[[J") (ow := "ClapTogether$Shelves") ⟨rfl, rfl, rfl⟩ rfl (List.mem_append_right _ (List.mem_of_getElem? (i := 40) (by decide +kernel))) rfl
theorem k_X6 : KX6 := by
  intro l
  refine KMet.of (by decide) rfl (fun ad0 ca h0 => ?_)
  refine kw_aload dX6_init_0 ?_
  refine kw_obj (List.mem_append_right _ (List.mem_of_getElem? (i := 31) (by decide +kernel))) ob_i ob_c (by decide) dX6_init_1 ?_
  refine kw_aload dX6_init_4 ?_
  refine kw_bipush (v := 8) dX6_init_5 (by decide) ?_
  refine kw_newa1 (t := 0) (N := 8) (a0 := (8, .inl (fun _ => 0))) ar_0 rfl (by decide) (fun _ => rfl) (by decide) (by decide) (by decide) (by decide) (by decide) dX6_init_7 (fun q1 => ?_)
  refine kw_put1 [.ref q1, .null, .null] pk_X6_9 rfl rfl (Nat.le_of_ble_eq_true rfl) dX6_init_9 rfl ?_
  refine kw_aload dX6_init_12 ?_
  refine kw_bipush (v := 8) dX6_init_13 (by decide) ?_
  refine kw_newa1 (t := 0) (N := 8) (a0 := (8, .inl (fun _ => 0))) ar_0 rfl (by decide) (fun _ => rfl) (by decide) (by decide) (by decide) (by decide) (by decide) dX6_init_15 (fun q2 => ?_)
  refine kw_put1 [.ref q1, .ref q2, .null] pk_X6_15 rfl rfl (Nat.le_of_ble_eq_true rfl) dX6_init_17 rfl ?_
  refine kw_aload dX6_init_20 ?_
  refine kw_bipush (v := 8) dX6_init_21 (by decide) ?_
  refine kw_bipush (v := 100) dX6_init_23 (by decide) ?_
  refine kw_mna1 (t := 2) (t3 := 4) (N := 8) (K := 100) (z := (100, .inr (.inl (fun _ => 0)))) (by decide) (List.mem_append_right _ (List.mem_of_getElem? (i := 32) (by decide +kernel))) ar_2 (by decide) (by decide) (by decide) (by decide) (by decide) (fun _ => rfl) (by decide) (by decide) dX6_init_25 (fun q r => ?_)
  refine kw_put1 [.ref q1, .ref q2, .ref q] pk_X6_20 rfl rfl (Nat.le_of_ble_eq_true rfl) dX6_init_29 rfl ?_
  refine kw_aload dX6_init_32 ?_
  refine kw_get gf_X6_9 (v := .ref q1) rfl dX6_init_33 ?_
  refine kw_iconst (v := (-1)) dX6_init_36 (by decide) ?_
  refine kw_fill (k0 := 1) (N := 8) (g := fun _ => 0) ck_X6_23 rfl (by decide) (by decide) (Nat.le_of_ble_eq_true rfl) (by decide) (by decide) dX6_init_37 ?_
  have eg : (fun i => if i < 8 then some (r i) else none) = (fun i => if i < 8 then some ((fun k => [h0, q1, q2, q, r 0, r 1, r 2, r 3, r 4, r 5, r 6, r 7].getD k 0) (4 + i)) else none) := funext fun i => by
    by_cases hi : i < 8
    · rw [if_pos hi, if_pos hi]
      match i, hi with
      | 0, _ => rfl
      | 1, _ => rfl
      | 2, _ => rfl
      | 3, _ => rfl
      | 4, _ => rfl
      | 5, _ => rfl
      | 6, _ => rfl
      | 7, _ => rfl
    · rw [if_neg hi, if_neg hi]
  refine kw_ret ⟨fun k => [h0, q1, q2, q, r 0, r 1, r 2, r 3, r 4, r 5, r 6, r 7].getD k 0, rfl, piece_eq ?_⟩ (by decide) (by decide) dX6_init_40
  unfold gridW
  rw [eg]
  rfl
