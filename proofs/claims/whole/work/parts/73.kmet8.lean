theorem pk_X8_7 : PK RX8 7 8 4 .int := pk_of (own := RX8) (index := 7) (j := 4) (C := RX8) (T := TX8) (N := 64) rfl hg_8 (by decide) tyX8 tyX8_ok nmX8 (nm := "seed") (ds := "I") (ow := "ClapTogetherModel") ⟨rfl, rfl, rfl⟩ rfl (List.mem_append_right _ (List.mem_of_getElem? (i := 896) (by decide +kernel))) rfl
theorem pk_X8_13 : PK RX8 13 8 5 .int := pk_of (own := RX8) (index := 13) (j := 5) (C := RX8) (T := TX8) (N := 64) rfl hg_8 (by decide) tyX8 tyX8_ok nmX8 (nm := "force") (ds := "I") (ow := "ClapTogetherModel") ⟨rfl, rfl, rfl⟩ rfl (List.mem_append_right _ (List.mem_of_getElem? (i := 897) (by decide +kernel))) rfl
theorem pk_X8_16 : PK RX8 16 8 6 .int := pk_of (own := RX8) (index := 16) (j := 6) (C := RX8) (T := TX8) (N := 64) rfl hg_8 (by decide) tyX8 tyX8_ok nmX8 (nm := "fault") (ds := "I") (ow := "ClapTogetherModel") ⟨rfl, rfl, rfl⟩ rfl (List.mem_append_right _ (List.mem_of_getElem? (i := 898) (by decide +kernel))) rfl
theorem pk_X8_19 : PK RX8 19 8 9 (.array .int) := pk_of (own := RX8) (index := 19) (j := 9) (C := RX8) (T := TX8) (N := 64) rfl hg_8 (by decide) tyX8 tyX8_ok nmX8 (nm := "refused") (ds := "[I") (ow := "ClapTogetherModel") ⟨rfl, rfl, rfl⟩ rfl (List.mem_append_right _ (List.mem_of_getElem? (i := 901) (by decide +kernel))) rfl
theorem pk_X8_23 : PK RX8 23 8 10 (.array .int) := pk_of (own := RX8) (index := 23) (j := 10) (C := RX8) (T := TX8) (N := 64) rfl hg_8 (by decide) tyX8 tyX8_ok nmX8 (nm := "kind") (ds := "[I") (ow := "ClapTogetherModel") ⟨rfl, rfl, rfl⟩ rfl (List.mem_append_right _ (List.mem_of_getElem? (i := 902) (by decide +kernel))) rfl
theorem pk_X8_26 : PK RX8 26 8 11 (.array .int) := pk_of (own := RX8) (index := 26) (j := 11) (C := RX8) (T := TX8) (N := 64) rfl hg_8 (by decide) tyX8 tyX8_ok nmX8 (nm := "seat") (ds := "[I") (ow := "ClapTogetherModel") ⟨rfl, rfl, rfl⟩ rfl (List.mem_append_right _ (List.mem_of_getElem? (i := 903) (by decide +kernel))) rfl
theorem pk_X8_29 : PK RX8 29 8 12 (.array .int) := pk_of (own := RX8) (index := 29) (j := 12) (C := RX8) (T := TX8) (N := 64) rfl hg_8 (by decide) tyX8 tyX8_ok nmX8 (nm := "likes") (ds := "[I") (ow := "ClapTogetherModel") ⟨rfl, rfl, rfl⟩ rfl (List.mem_append_right _ (List.mem_of_getElem? (i := 904) (by decide +kernel))) rfl
theorem pk_X8_32 : PK RX8 32 8 13 (.array .int) := pk_of (own := RX8) (index := 32) (j := 13) (C := RX8) (T := TX8) (N := 64) rfl hg_8 (by decide) tyX8 tyX8_ok nmX8 (nm := "pace") (ds := "[I") (ow := "ClapTogetherModel") ⟨rfl, rfl, rfl⟩ rfl (List.mem_append_right _ (List.mem_of_getElem? (i := 905) (by decide +kernel))) rfl
theorem pk_X8_35 : PK RX8 35 8 14 (.array .int) := pk_of (own := RX8) (index := 35) (j := 14) (C := RX8) (T := TX8) (N := 64) rfl hg_8 (by decide) tyX8 tyX8_ok nmX8 (nm := "at") (ds := "[I") (ow := "ClapTogetherModel") ⟨rfl, rfl, rfl⟩ rfl (List.mem_append_right _ (List.mem_of_getElem? (i := 906) (by decide +kernel))) rfl
theorem pk_X8_38 : PK RX8 38 8 15 (.array .int) := pk_of (own := RX8) (index := 38) (j := 15) (C := RX8) (T := TX8) (N := 64) rfl hg_8 (by decide) tyX8 tyX8_ok nmX8 (nm := "phase") (ds := "[I") (ow := "ClapTogetherModel") ⟨rfl, rfl, rfl⟩ rfl (List.mem_append_right _ (List.mem_of_getElem? (i := 907) (by decide +kernel))) rfl
theorem pk_X8_41 : PK RX8 41 8 16 (.array .int) := pk_of (own := RX8) (index := 41) (j := 16) (C := RX8) (T := TX8) (N := 64) rfl hg_8 (by decide) tyX8 tyX8_ok nmX8 (nm := "mode") (ds := "[I") (ow := "ClapTogetherModel") ⟨rfl, rfl, rfl⟩ rfl (List.mem_append_right _ (List.mem_of_getElem? (i := 908) (by decide +kernel))) rfl
theorem pk_X8_44 : PK RX8 44 8 17 (.array .int) := pk_of (own := RX8) (index := 44) (j := 17) (C := RX8) (T := TX8) (N := 64) rfl hg_8 (by decide) tyX8 tyX8_ok nmX8 (nm := "long1") (ds := "[I") (ow := "ClapTogetherModel") ⟨rfl, rfl, rfl⟩ rfl (List.mem_append_right _ (List.mem_of_getElem? (i := 909) (by decide +kernel))) rfl
theorem pk_X8_47 : PK RX8 47 8 18 (.array .int) := pk_of (own := RX8) (index := 47) (j := 18) (C := RX8) (T := TX8) (N := 64) rfl hg_8 (by decide) tyX8 tyX8_ok nmX8 (nm := "stands") (ds := "[I") (ow := "ClapTogetherModel") ⟨rfl, rfl, rfl⟩ rfl (List.mem_append_right _ (List.mem_of_getElem? (i := 910) (by decide +kernel))) rfl
theorem pk_X8_50 : PK RX8 50 8 19 (.array .int) := pk_of (own := RX8) (index := 50) (j := 19) (C := RX8) (T := TX8) (N := 64) rfl hg_8 (by decide) tyX8 tyX8_ok nmX8 (nm := "glove") (ds := "[I") (ow := "ClapTogetherModel") ⟨rfl, rfl, rfl⟩ rfl (List.mem_append_right _ (List.mem_of_getElem? (i := 911) (by decide +kernel))) rfl
theorem pk_X8_53 : PK RX8 53 8 20 (.array .int) := pk_of (own := RX8) (index := 53) (j := 20) (C := RX8) (T := TX8) (N := 64) rfl hg_8 (by decide) tyX8 tyX8_ok nmX8 (nm := "microSeat") (ds := "[I") (ow := "ClapTogetherModel") ⟨rfl, rfl, rfl⟩ rfl (List.mem_append_right _ (List.mem_of_getElem? (i := 912) (by decide +kernel))) rfl
theorem pk_X8_56 : PK RX8 56 8 21 (.array .int) := pk_of (own := RX8) (index := 56) (j := 21) (C := RX8) (T := TX8) (N := 64) rfl hg_8 (by decide) tyX8 tyX8_ok nmX8 (nm := "first") (ds := "[I") (ow := "ClapTogetherModel") ⟨rfl, rfl, rfl⟩ rfl (List.mem_append_right _ (List.mem_of_getElem? (i := 913) (by decide +kernel))) rfl
theorem pk_X8_59 : PK RX8 59 8 22 (.array .int) := pk_of (own := RX8) (index := 59) (j := 22) (C := RX8) (T := TX8) (N := 64) rfl hg_8 (by decide) tyX8 tyX8_ok nmX8 (nm := "told") (ds := "[I") (ow := "ClapTogetherModel") ⟨rfl, rfl, rfl⟩ rfl (List.mem_append_right _ (List.mem_of_getElem? (i := 914) (by decide +kernel))) rfl
theorem pk_X8_62 : PK RX8 62 8 23 (.array .int) := pk_of (own := RX8) (index := 62) (j := 23) (C := RX8) (T := TX8) (N := 64) rfl hg_8 (by decide) tyX8 tyX8_ok nmX8 (nm := "held") (ds := "[I") (ow := "ClapTogetherModel") ⟨rfl, rfl, rfl⟩ rfl (List.mem_append_right _ (List.mem_of_getElem? (i := 915) (by decide +kernel))) rfl
theorem pk_X8_65 : PK RX8 65 8 24 (.array .int) := pk_of (own := RX8) (index := 65) (j := 24) (C := RX8) (T := TX8) (N := 64) rfl hg_8 (by decide) tyX8 tyX8_ok nmX8 (nm := "sort") (ds := "[I") (ow := "ClapTogetherModel") ⟨rfl, rfl, rfl⟩ rfl (List.mem_append_right _ (List.mem_of_getElem? (i := 916) (by decide +kernel))) rfl
theorem pk_X8_68 : PK RX8 68 8 25 (.array .int) := pk_of (own := RX8) (index := 68) (j := 25) (C := RX8) (T := TX8) (N := 64) rfl hg_8 (by decide) tyX8 tyX8_ok nmX8 (nm := "size") (ds := "[I") (ow := "ClapTogetherModel") ⟨rfl, rfl, rfl⟩ rfl (List.mem_append_right _ (List.mem_of_getElem? (i := 917) (by decide +kernel))) rfl
theorem pk_X8_71 : PK RX8 71 8 26 (.array .int) := pk_of (own := RX8) (index := 71) (j := 26) (C := RX8) (T := TX8) (N := 64) rfl hg_8 (by decide) tyX8 tyX8_ok nmX8 (nm := "shown") (ds := "[I") (ow := "ClapTogetherModel") ⟨rfl, rfl, rfl⟩ rfl (List.mem_append_right _ (List.mem_of_getElem? (i := 918) (by decide +kernel))) rfl
theorem pk_X8_74 : PK RX8 74 8 27 (.array .long) := pk_of (own := RX8) (index := 74) (j := 27) (C := RX8) (T := TX8) (N := 64) rfl hg_8 (by decide) tyX8 tyX8_ok nmX8 (nm := "cells") (ds := "[J") (ow := "ClapTogetherModel") ⟨rfl, rfl, rfl⟩ rfl (List.mem_append_right _ (List.mem_of_getElem? (i := 919) (by decide +kernel))) rfl
theorem pk_X8_78 : PK RX8 78 8 28 (.array .long) := pk_of (own := RX8) (index := 78) (j := 28) (C := RX8) (T := TX8) (N := 64) rfl hg_8 (by decide) tyX8 tyX8_ok nmX8 (nm := "carried") (ds := "[J") (ow := "ClapTogetherModel") ⟨rfl, rfl, rfl⟩ rfl (List.mem_append_right _ (List.mem_of_getElem? (i := 920) (by decide +kernel))) rfl
theorem pk_X8_81 : PK RX8 81 8 29 (.array .int) := pk_of (own := RX8) (index := 81) (j := 29) (C := RX8) (T := TX8) (N := 64) rfl hg_8 (by decide) tyX8 tyX8_ok nmX8 (nm := "words") (ds := "[I") (ow := "ClapTogetherModel") ⟨rfl, rfl, rfl⟩ rfl (List.mem_append_right _ (List.mem_of_getElem? (i := 921) (by decide +kernel))) rfl
theorem pk_X8_84 : PK RX8 84 8 30 (.array .int) := pk_of (own := RX8) (index := 84) (j := 30) (C := RX8) (T := TX8) (N := 64) rfl hg_8 (by decide) tyX8 tyX8_ok nmX8 (nm := "tell") (ds := "[I") (ow := "ClapTogetherModel") ⟨rfl, rfl, rfl⟩ rfl (List.mem_append_right _ (List.mem_of_getElem? (i := 922) (by decide +kernel))) rfl
theorem pk_X8_87 : PK RX8 87 8 35 .int := pk_of (own := RX8) (index := 87) (j := 35) (C := RX8) (T := TX8) (N := 64) rfl hg_8 (by decide) tyX8 tyX8_ok nmX8 (nm := "by") (ds := "I") (ow := "ClapTogetherModel") ⟨rfl, rfl, rfl⟩ rfl (List.mem_append_right _ (List.mem_of_getElem? (i := 927) (by decide +kernel))) rfl
theorem pk_X8_90 : PK RX8 90 8 37 (.array .int) := pk_of (own := RX8) (index := 90) (j := 37) (C := RX8) (T := TX8) (N := 64) rfl hg_8 (by decide) tyX8 tyX8_ok nmX8 (nm := "heard") (ds := "[I") (ow := "ClapTogetherModel") ⟨rfl, rfl, rfl⟩ rfl (List.mem_append_right _ (List.mem_of_getElem? (i := 929) (by decide +kernel))) rfl
theorem pk_X8_93 : PK RX8 93 8 38 (.array .int) := pk_of (own := RX8) (index := 93) (j := 38) (C := RX8) (T := TX8) (N := 64) rfl hg_8 (by decide) tyX8 tyX8_ok nmX8 (nm := "near") (ds := "[I") (ow := "ClapTogetherModel") ⟨rfl, rfl, rfl⟩ rfl (List.mem_append_right _ (List.mem_of_getElem? (i := 930) (by decide +kernel))) rfl
theorem pk_X8_96 : PK RX8 96 8 39 (.array .int) := pk_of (own := RX8) (index := 96) (j := 39) (C := RX8) (T := TX8) (N := 64) rfl hg_8 (by decide) tyX8 tyX8_ok nmX8 (nm := "next") (ds := "[I") (ow := "ClapTogetherModel") ⟨rfl, rfl, rfl⟩ rfl (List.mem_append_right _ (List.mem_of_getElem? (i := 931) (by decide +kernel))) rfl
theorem pk_X8_99 : PK RX8 99 8 40 (.array .int) := pk_of (own := RX8) (index := 99) (j := 40) (C := RX8) (T := TX8) (N := 64) rfl hg_8 (by decide) tyX8 tyX8_ok nmX8 (nm := "stood") (ds := "[I") (ow := "ClapTogetherModel") ⟨rfl, rfl, rfl⟩ rfl (List.mem_append_right _ (List.mem_of_getElem? (i := 932) (by decide +kernel))) rfl
theorem pk_X8_102 : PK RX8 102 8 41 (.array .int) := pk_of (own := RX8) (index := 102) (j := 41) (C := RX8) (T := TX8) (N := 64) rfl hg_8 (by decide) tyX8 tyX8_ok nmX8 (nm := "owner") (ds := "[I") (ow := "ClapTogetherModel") ⟨rfl, rfl, rfl⟩ rfl (List.mem_append_right _ (List.mem_of_getElem? (i := 933) (by decide +kernel))) rfl
theorem pk_X8_105 : PK RX8 105 8 42 (.array .int) := pk_of (own := RX8) (index := 105) (j := 42) (C := RX8) (T := TX8) (N := 64) rfl hg_8 (by decide) tyX8 tyX8_ok nmX8 (nm := "wasMode") (ds := "[I") (ow := "ClapTogetherModel") ⟨rfl, rfl, rfl⟩ rfl (List.mem_append_right _ (List.mem_of_getElem? (i := 934) (by decide +kernel))) rfl
theorem pk_X8_108 : PK RX8 108 8 43 (.array .int) := pk_of (own := RX8) (index := 108) (j := 43) (C := RX8) (T := TX8) (N := 64) rfl hg_8 (by decide) tyX8 tyX8_ok nmX8 (nm := "wasLong") (ds := "[I") (ow := "ClapTogetherModel") ⟨rfl, rfl, rfl⟩ rfl (List.mem_append_right _ (List.mem_of_getElem? (i := 935) (by decide +kernel))) rfl
theorem pk_X8_111 : PK RX8 111 8 44 (.array .int) := pk_of (own := RX8) (index := 111) (j := 44) (C := RX8) (T := TX8) (N := 64) rfl hg_8 (by decide) tyX8 tyX8_ok nmX8 (nm := "wasStands") (ds := "[I") (ow := "ClapTogetherModel") ⟨rfl, rfl, rfl⟩ rfl (List.mem_append_right _ (List.mem_of_getElem? (i := 936) (by decide +kernel))) rfl
theorem pk_X8_114 : PK RX8 114 8 45 (.array .int) := pk_of (own := RX8) (index := 114) (j := 45) (C := RX8) (T := TX8) (N := 64) rfl hg_8 (by decide) tyX8 tyX8_ok nmX8 (nm := "wasPhase") (ds := "[I") (ow := "ClapTogetherModel") ⟨rfl, rfl, rfl⟩ rfl (List.mem_append_right _ (List.mem_of_getElem? (i := 937) (by decide +kernel))) rfl
theorem pk_X8_117 : PK RX8 117 8 46 (.array .int) := pk_of (own := RX8) (index := 117) (j := 46) (C := RX8) (T := TX8) (N := 64) rfl hg_8 (by decide) tyX8 tyX8_ok nmX8 (nm := "tally") (ds := "[I") (ow := "ClapTogetherModel") ⟨rfl, rfl, rfl⟩ rfl (List.mem_append_right _ (List.mem_of_getElem? (i := 938) (by decide +kernel))) rfl
theorem pk_X8_120 : PK RX8 120 8 52 (.array .int) := pk_of (own := RX8) (index := 120) (j := 52) (C := RX8) (T := TX8) (N := 64) rfl hg_8 (by decide) tyX8 tyX8_ok nmX8 (nm := "other") (ds := "[I") (ow := "ClapTogetherModel") ⟨rfl, rfl, rfl⟩ rfl (List.mem_append_right _ (List.mem_of_getElem? (i := 944) (by decide +kernel))) rfl
theorem pk_X8_123 : PK RX8 123 8 53 (.array .int) := pk_of (own := RX8) (index := 123) (j := 53) (C := RX8) (T := TX8) (N := 64) rfl hg_8 (by decide) tyX8 tyX8_ok nmX8 (nm := "trace") (ds := "[I") (ow := "ClapTogetherModel") ⟨rfl, rfl, rfl⟩ rfl (List.mem_append_right _ (List.mem_of_getElem? (i := 945) (by decide +kernel))) rfl
theorem pk_X8_126 : PK RX8 126 8 55 .int := pk_of (own := RX8) (index := 126) (j := 55) (C := RX8) (T := TX8) (N := 64) rfl hg_8 (by decide) tyX8 tyX8_ok nmX8 (nm := "iNow") (ds := "I") (ow := "ClapTogetherModel") ⟨rfl, rfl, rfl⟩ rfl (List.mem_append_right _ (List.mem_of_getElem? (i := 947) (by decide +kernel))) rfl
theorem pk_X8_129 : PK RX8 129 8 63 (.array .int) := pk_of (own := RX8) (index := 129) (j := 63) (C := RX8) (T := TX8) (N := 64) rfl hg_8 (by decide) tyX8 tyX8_ok nmX8 (nm := "kept") (ds := "[I") (ow := "ClapTogetherModel") ⟨rfl, rfl, rfl⟩ rfl (List.mem_append_right _ (List.mem_of_getElem? (i := 955) (by decide +kernel))) rfl
def shK8 : List Sh := [.inl (8, [none, none, none, none, none, none, none, none, none, some 1, some 2, some 3, some 4, some 5, some 6, some 7, some 8, some 9, some 10, some 11, some 12, some 13, some 14, some 15, some 16, some 17, some 18, some 19, some 20, some 21, some 22, none, none, none, none, none, none, some 23, some 24, some 25, some 26, some 27, some 28, some 29, some 30, some 31, some 32, none, none, none, none, none, some 33, some 34, none, none, none, none, none, none, none, none, none, some 35]), .inr (0, 8, 0), .inr (0, 30, 0), .inr (0, 30, 0), .inr (0, 30, 0), .inr (0, 30, 0), .inr (0, 30, 0), .inr (0, 30, 0), .inr (0, 30, 0), .inr (0, 30, 0), .inr (0, 30, 0), .inr (0, 30, 0), .inr (0, 8, 0), .inr (0, 7, 0), .inr (0, 42, 0), .inr (0, 8, 0), .inr (0, 8, 0), .inr (0, 8, 0), .inr (0, 8, 0), .inr (2, 800, 0), .inr (2, 100, 0), .inr (0, 43, 0), .inr (0, 7, 0), .inr (0, 30, 0), .inr (0, 30, 0), .inr (0, 30, 0), .inr (0, 30, 0), .inr (0, 48, 0), .inr (0, 30, 0), .inr (0, 30, 0), .inr (0, 30, 0), .inr (0, 30, 0), .inr (0, 200, 0), .inr (0, 200, 0), .inr (0, 20, 0), .inr (0, 360, 0)]
def mK8 (k : Nat) : Nat → Int32 := match k with
  | 0 => fun j => if j = 4 then 1 else if j = 5 then (-1) else if j = 6 then (-1) else if j = 35 then (-1) else if j = 55 then (-1) else 0
  | 13 => (upd (upd (upd (upd (upd (upd (upd (fun _ => 0) (((0 : Int32)).toNatClampNeg) (12)) (((1 : Int32)).toNatClampNeg) (2)) (((2 : Int32)).toNatClampNeg) (3)) (((3 : Int32)).toNatClampNeg) (2)) (((4 : Int32)).toNatClampNeg) (20)) (((5 : Int32)).toNatClampNeg) (2)) (((6 : Int32)).toNatClampNeg) (80))
  | 21 => (upd (upd (upd (upd (upd (upd (upd (upd (upd (upd (upd (upd (upd (upd (upd (upd (upd (upd (upd (upd (upd (upd (upd (upd (upd (upd (upd (upd (upd (upd (upd (upd (upd (upd (upd (upd (upd (upd (upd (upd (upd (upd (upd (fun _ => 0) (((0 : Int32)).toNatClampNeg) (99)) (((1 : Int32)).toNatClampNeg) (97)) (((2 : Int32)).toNatClampNeg) (116)) (((3 : Int32)).toNatClampNeg) (99)) (((4 : Int32)).toNatClampNeg) (104)) (((5 : Int32)).toNatClampNeg) (32)) (((6 : Int32)).toNatClampNeg) (0)) (((7 : Int32)).toNatClampNeg) (110)) (((8 : Int32)).toNatClampNeg) (101)) (((9 : Int32)).toNatClampNeg) (97)) (((10 : Int32)).toNatClampNeg) (114)) (((11 : Int32)).toNatClampNeg) (32)) (((12 : Int32)).toNatClampNeg) (0)) (((13 : Int32)).toNatClampNeg) (115)) (((14 : Int32)).toNatClampNeg) (116)) (((15 : Int32)).toNatClampNeg) (111)) (((16 : Int32)).toNatClampNeg) (112)) (((17 : Int32)).toNatClampNeg) (32)) (((18 : Int32)).toNatClampNeg) (0)) (((19 : Int32)).toNatClampNeg) (116)) (((20 : Int32)).toNatClampNeg) (105)) (((21 : Int32)).toNatClampNeg) (114)) (((22 : Int32)).toNatClampNeg) (101)) (((23 : Int32)).toNatClampNeg) (32)) (((24 : Int32)).toNatClampNeg) (0)) (((25 : Int32)).toNatClampNeg) (104)) (((26 : Int32)).toNatClampNeg) (97)) (((27 : Int32)).toNatClampNeg) (108)) (((28 : Int32)).toNatClampNeg) (102)) (((29 : Int32)).toNatClampNeg) (32)) (((30 : Int32)).toNatClampNeg) (0)) (((31 : Int32)).toNatClampNeg) (115)) (((32 : Int32)).toNatClampNeg) (101)) (((33 : Int32)).toNatClampNeg) (101)) (((34 : Int32)).toNatClampNeg) (32)) (((35 : Int32)).toNatClampNeg) (0)) (((36 : Int32)).toNatClampNeg) (115)) (((37 : Int32)).toNatClampNeg) (116)) (((38 : Int32)).toNatClampNeg) (97)) (((39 : Int32)).toNatClampNeg) (110)) (((40 : Int32)).toNatClampNeg) (100)) (((41 : Int32)).toNatClampNeg) (32)) (((42 : Int32)).toNatClampNeg) (0))
  | _ => fun _ => 0
def MK8 : Mm := (mK8, fun _ _ => 0)
theorem k_X8 {l : Launch} : KMet l yX8_init cX8_init 2 35 2415 8 [.int 0, .int 0, .int 0, .int 0, .int 0, .int 0, .int 0, .int 0, .int 0, .null, .null, .null, .null, .null, .null, .null, .null, .null, .null, .null, .null, .null, .null, .null, .null, .null, .null, .null, .null, .null, .null, .int 0, .int 0, .int 0, .int 0, .int 0, .int 0, .null, .null, .null, .null, .null, .null, .null, .null, .null, .null, .int 0, .int 0, .int 0, .int 0, .int 0, .null, .null, .int 0, .int 0, .int 0, .int 0, .int 0, .int 0, .int 0, .int 0, .int 0, .null] (PP shK8 MK8) := by
  refine KMet.of (by decide) rfl (fun ad0 ca h0 => ?_)
  refine kw_aload dX8_init_0 ?_
  refine kw_obj (List.mem_append_right _ (List.mem_of_getElem? (i := 891) (by decide +kernel))) ob_i ob_c (by decide) dX8_init_1 ?_
  refine kw_aload dX8_init_4 ?_
  refine kw_iconst (v := 1) dX8_init_5 (by decide) ?_
  refine kw_put1 [.int 0, .int 0, .int 0, .int 0, .int 1, .int 0, .int 0, .int 0, .int 0, .null, .null, .null, .null, .null, .null, .null, .null, .null, .null, .null, .null, .null, .null, .null, .null, .null, .null, .null, .null, .null, .null, .int 0, .int 0, .int 0, .int 0, .int 0, .int 0, .null, .null, .null, .null, .null, .null, .null, .null, .null, .null, .int 0, .int 0, .int 0, .int 0, .int 0, .null, .null, .int 0, .int 0, .int 0, .int 0, .int 0, .int 0, .int 0, .int 0, .int 0, .null] pk_X8_7 rfl rfl (Nat.le_of_ble_eq_true rfl) dX8_init_6 rfl ?_
  refine kw_aload dX8_init_9 ?_
  refine kw_iconst (v := (-1)) dX8_init_10 (by decide) ?_
  refine kw_put1 [.int 0, .int 0, .int 0, .int 0, .int 1, .int (-1), .int 0, .int 0, .int 0, .null, .null, .null, .null, .null, .null, .null, .null, .null, .null, .null, .null, .null, .null, .null, .null, .null, .null, .null, .null, .null, .null, .int 0, .int 0, .int 0, .int 0, .int 0, .int 0, .null, .null, .null, .null, .null, .null, .null, .null, .null, .null, .int 0, .int 0, .int 0, .int 0, .int 0, .null, .null, .int 0, .int 0, .int 0, .int 0, .int 0, .int 0, .int 0, .int 0, .int 0, .null] pk_X8_13 rfl rfl (Nat.le_of_ble_eq_true rfl) dX8_init_11 rfl ?_
  refine kw_aload dX8_init_14 ?_
  refine kw_iconst (v := (-1)) dX8_init_15 (by decide) ?_
  refine kw_put1 [.int 0, .int 0, .int 0, .int 0, .int 1, .int (-1), .int (-1), .int 0, .int 0, .null, .null, .null, .null, .null, .null, .null, .null, .null, .null, .null, .null, .null, .null, .null, .null, .null, .null, .null, .null, .null, .null, .int 0, .int 0, .int 0, .int 0, .int 0, .int 0, .null, .null, .null, .null, .null, .null, .null, .null, .null, .null, .int 0, .int 0, .int 0, .int 0, .int 0, .null, .null, .int 0, .int 0, .int 0, .int 0, .int 0, .int 0, .int 0, .int 0, .int 0, .null] pk_X8_16 rfl rfl (Nat.le_of_ble_eq_true rfl) dX8_init_16 rfl ?_
  refine kw_aload dX8_init_19 ?_
  refine kw_bipush (v := 8) dX8_init_20 (by decide) ?_
  refine kw_newa1 (t := 0) (N := 8) (a0 := (8, .inl (fun _ => 0))) ar_0 rfl (by decide) (fun _ => rfl) (by decide) (by decide) (by decide) (by decide) (by decide) dX8_init_22 (fun q1 => ?_)
  refine kw_put1 [.int 0, .int 0, .int 0, .int 0, .int 1, .int (-1), .int (-1), .int 0, .int 0, .ref q1, .null, .null, .null, .null, .null, .null, .null, .null, .null, .null, .null, .null, .null, .null, .null, .null, .null, .null, .null, .null, .null, .int 0, .int 0, .int 0, .int 0, .int 0, .int 0, .null, .null, .null, .null, .null, .null, .null, .null, .null, .null, .int 0, .int 0, .int 0, .int 0, .int 0, .null, .null, .int 0, .int 0, .int 0, .int 0, .int 0, .int 0, .int 0, .int 0, .int 0, .null] pk_X8_19 rfl rfl (Nat.le_of_ble_eq_true rfl) dX8_init_24 rfl ?_
  refine kw_aload dX8_init_27 ?_
  refine kw_bipush (v := 30) dX8_init_28 (by decide) ?_
  refine kw_newa1 (t := 0) (N := 30) (a0 := (30, .inl (fun _ => 0))) ar_0 rfl (by decide) (fun _ => rfl) (by decide) (by decide) (by decide) (by decide) (by decide) dX8_init_30 (fun q2 => ?_)
  refine kw_put1 [.int 0, .int 0, .int 0, .int 0, .int 1, .int (-1), .int (-1), .int 0, .int 0, .ref q1, .ref q2, .null, .null, .null, .null, .null, .null, .null, .null, .null, .null, .null, .null, .null, .null, .null, .null, .null, .null, .null, .null, .int 0, .int 0, .int 0, .int 0, .int 0, .int 0, .null, .null, .null, .null, .null, .null, .null, .null, .null, .null, .int 0, .int 0, .int 0, .int 0, .int 0, .null, .null, .int 0, .int 0, .int 0, .int 0, .int 0, .int 0, .int 0, .int 0, .int 0, .null] pk_X8_23 rfl rfl (Nat.le_of_ble_eq_true rfl) dX8_init_32 rfl ?_
  refine kw_aload dX8_init_35 ?_
  refine kw_bipush (v := 30) dX8_init_36 (by decide) ?_
  refine kw_newa1 (t := 0) (N := 30) (a0 := (30, .inl (fun _ => 0))) ar_0 rfl (by decide) (fun _ => rfl) (by decide) (by decide) (by decide) (by decide) (by decide) dX8_init_38 (fun q3 => ?_)
  refine kw_put1 [.int 0, .int 0, .int 0, .int 0, .int 1, .int (-1), .int (-1), .int 0, .int 0, .ref q1, .ref q2, .ref q3, .null, .null, .null, .null, .null, .null, .null, .null, .null, .null, .null, .null, .null, .null, .null, .null, .null, .null, .null, .int 0, .int 0, .int 0, .int 0, .int 0, .int 0, .null, .null, .null, .null, .null, .null, .null, .null, .null, .null, .int 0, .int 0, .int 0, .int 0, .int 0, .null, .null, .int 0, .int 0, .int 0, .int 0, .int 0, .int 0, .int 0, .int 0, .int 0, .null] pk_X8_26 rfl rfl (Nat.le_of_ble_eq_true rfl) dX8_init_40 rfl ?_
  refine kw_aload dX8_init_43 ?_
  refine kw_bipush (v := 30) dX8_init_44 (by decide) ?_
  refine kw_newa1 (t := 0) (N := 30) (a0 := (30, .inl (fun _ => 0))) ar_0 rfl (by decide) (fun _ => rfl) (by decide) (by decide) (by decide) (by decide) (by decide) dX8_init_46 (fun q4 => ?_)
  refine kw_put1 [.int 0, .int 0, .int 0, .int 0, .int 1, .int (-1), .int (-1), .int 0, .int 0, .ref q1, .ref q2, .ref q3, .ref q4, .null, .null, .null, .null, .null, .null, .null, .null, .null, .null, .null, .null, .null, .null, .null, .null, .null, .null, .int 0, .int 0, .int 0, .int 0, .int 0, .int 0, .null, .null, .null, .null, .null, .null, .null, .null, .null, .null, .int 0, .int 0, .int 0, .int 0, .int 0, .null, .null, .int 0, .int 0, .int 0, .int 0, .int 0, .int 0, .int 0, .int 0, .int 0, .null] pk_X8_29 rfl rfl (Nat.le_of_ble_eq_true rfl) dX8_init_48 rfl ?_
  refine kw_aload dX8_init_51 ?_
  refine kw_bipush (v := 30) dX8_init_52 (by decide) ?_
  refine kw_newa1 (t := 0) (N := 30) (a0 := (30, .inl (fun _ => 0))) ar_0 rfl (by decide) (fun _ => rfl) (by decide) (by decide) (by decide) (by decide) (by decide) dX8_init_54 (fun q5 => ?_)
  refine kw_put1 [.int 0, .int 0, .int 0, .int 0, .int 1, .int (-1), .int (-1), .int 0, .int 0, .ref q1, .ref q2, .ref q3, .ref q4, .ref q5, .null, .null, .null, .null, .null, .null, .null, .null, .null, .null, .null, .null, .null, .null, .null, .null, .null, .int 0, .int 0, .int 0, .int 0, .int 0, .int 0, .null, .null, .null, .null, .null, .null, .null, .null, .null, .null, .int 0, .int 0, .int 0, .int 0, .int 0, .null, .null, .int 0, .int 0, .int 0, .int 0, .int 0, .int 0, .int 0, .int 0, .int 0, .null] pk_X8_32 rfl rfl (Nat.le_of_ble_eq_true rfl) dX8_init_56 rfl ?_
  refine kw_aload dX8_init_59 ?_
  refine kw_bipush (v := 30) dX8_init_60 (by decide) ?_
  refine kw_newa1 (t := 0) (N := 30) (a0 := (30, .inl (fun _ => 0))) ar_0 rfl (by decide) (fun _ => rfl) (by decide) (by decide) (by decide) (by decide) (by decide) dX8_init_62 (fun q6 => ?_)
  refine kw_put1 [.int 0, .int 0, .int 0, .int 0, .int 1, .int (-1), .int (-1), .int 0, .int 0, .ref q1, .ref q2, .ref q3, .ref q4, .ref q5, .ref q6, .null, .null, .null, .null, .null, .null, .null, .null, .null, .null, .null, .null, .null, .null, .null, .null, .int 0, .int 0, .int 0, .int 0, .int 0, .int 0, .null, .null, .null, .null, .null, .null, .null, .null, .null, .null, .int 0, .int 0, .int 0, .int 0, .int 0, .null, .null, .int 0, .int 0, .int 0, .int 0, .int 0, .int 0, .int 0, .int 0, .int 0, .null] pk_X8_35 rfl rfl (Nat.le_of_ble_eq_true rfl) dX8_init_64 rfl ?_
  refine kw_aload dX8_init_67 ?_
  refine kw_bipush (v := 30) dX8_init_68 (by decide) ?_
  refine kw_newa1 (t := 0) (N := 30) (a0 := (30, .inl (fun _ => 0))) ar_0 rfl (by decide) (fun _ => rfl) (by decide) (by decide) (by decide) (by decide) (by decide) dX8_init_70 (fun q7 => ?_)
  refine kw_put1 [.int 0, .int 0, .int 0, .int 0, .int 1, .int (-1), .int (-1), .int 0, .int 0, .ref q1, .ref q2, .ref q3, .ref q4, .ref q5, .ref q6, .ref q7, .null, .null, .null, .null, .null, .null, .null, .null, .null, .null, .null, .null, .null, .null, .null, .int 0, .int 0, .int 0, .int 0, .int 0, .int 0, .null, .null, .null, .null, .null, .null, .null, .null, .null, .null, .int 0, .int 0, .int 0, .int 0, .int 0, .null, .null, .int 0, .int 0, .int 0, .int 0, .int 0, .int 0, .int 0, .int 0, .int 0, .null] pk_X8_38 rfl rfl (Nat.le_of_ble_eq_true rfl) dX8_init_72 rfl ?_
  refine kw_aload dX8_init_75 ?_
  refine kw_bipush (v := 30) dX8_init_76 (by decide) ?_
  refine kw_newa1 (t := 0) (N := 30) (a0 := (30, .inl (fun _ => 0))) ar_0 rfl (by decide) (fun _ => rfl) (by decide) (by decide) (by decide) (by decide) (by decide) dX8_init_78 (fun q8 => ?_)
  refine kw_put1 [.int 0, .int 0, .int 0, .int 0, .int 1, .int (-1), .int (-1), .int 0, .int 0, .ref q1, .ref q2, .ref q3, .ref q4, .ref q5, .ref q6, .ref q7, .ref q8, .null, .null, .null, .null, .null, .null, .null, .null, .null, .null, .null, .null, .null, .null, .int 0, .int 0, .int 0, .int 0, .int 0, .int 0, .null, .null, .null, .null, .null, .null, .null, .null, .null, .null, .int 0, .int 0, .int 0, .int 0, .int 0, .null, .null, .int 0, .int 0, .int 0, .int 0, .int 0, .int 0, .int 0, .int 0, .int 0, .null] pk_X8_41 rfl rfl (Nat.le_of_ble_eq_true rfl) dX8_init_80 rfl ?_
  refine kw_aload dX8_init_83 ?_
  refine kw_bipush (v := 30) dX8_init_84 (by decide) ?_
  refine kw_newa1 (t := 0) (N := 30) (a0 := (30, .inl (fun _ => 0))) ar_0 rfl (by decide) (fun _ => rfl) (by decide) (by decide) (by decide) (by decide) (by decide) dX8_init_86 (fun q9 => ?_)
  refine kw_put1 [.int 0, .int 0, .int 0, .int 0, .int 1, .int (-1), .int (-1), .int 0, .int 0, .ref q1, .ref q2, .ref q3, .ref q4, .ref q5, .ref q6, .ref q7, .ref q8, .ref q9, .null, .null, .null, .null, .null, .null, .null, .null, .null, .null, .null, .null, .null, .int 0, .int 0, .int 0, .int 0, .int 0, .int 0, .null, .null, .null, .null, .null, .null, .null, .null, .null, .null, .int 0, .int 0, .int 0, .int 0, .int 0, .null, .null, .int 0, .int 0, .int 0, .int 0, .int 0, .int 0, .int 0, .int 0, .int 0, .null] pk_X8_44 rfl rfl (Nat.le_of_ble_eq_true rfl) dX8_init_88 rfl ?_
  refine kw_aload dX8_init_91 ?_
  refine kw_bipush (v := 30) dX8_init_92 (by decide) ?_
  refine kw_newa1 (t := 0) (N := 30) (a0 := (30, .inl (fun _ => 0))) ar_0 rfl (by decide) (fun _ => rfl) (by decide) (by decide) (by decide) (by decide) (by decide) dX8_init_94 (fun q10 => ?_)
  refine kw_put1 [.int 0, .int 0, .int 0, .int 0, .int 1, .int (-1), .int (-1), .int 0, .int 0, .ref q1, .ref q2, .ref q3, .ref q4, .ref q5, .ref q6, .ref q7, .ref q8, .ref q9, .ref q10, .null, .null, .null, .null, .null, .null, .null, .null, .null, .null, .null, .null, .int 0, .int 0, .int 0, .int 0, .int 0, .int 0, .null, .null, .null, .null, .null, .null, .null, .null, .null, .null, .int 0, .int 0, .int 0, .int 0, .int 0, .null, .null, .int 0, .int 0, .int 0, .int 0, .int 0, .int 0, .int 0, .int 0, .int 0, .null] pk_X8_47 rfl rfl (Nat.le_of_ble_eq_true rfl) dX8_init_96 rfl ?_
  refine kw_aload dX8_init_99 ?_
  refine kw_bipush (v := 30) dX8_init_100 (by decide) ?_
  refine kw_newa1 (t := 0) (N := 30) (a0 := (30, .inl (fun _ => 0))) ar_0 rfl (by decide) (fun _ => rfl) (by decide) (by decide) (by decide) (by decide) (by decide) dX8_init_102 (fun q11 => ?_)
  refine kw_put1 [.int 0, .int 0, .int 0, .int 0, .int 1, .int (-1), .int (-1), .int 0, .int 0, .ref q1, .ref q2, .ref q3, .ref q4, .ref q5, .ref q6, .ref q7, .ref q8, .ref q9, .ref q10, .ref q11, .null, .null, .null, .null, .null, .null, .null, .null, .null, .null, .null, .int 0, .int 0, .int 0, .int 0, .int 0, .int 0, .null, .null, .null, .null, .null, .null, .null, .null, .null, .null, .int 0, .int 0, .int 0, .int 0, .int 0, .null, .null, .int 0, .int 0, .int 0, .int 0, .int 0, .int 0, .int 0, .int 0, .int 0, .null] pk_X8_50 rfl rfl (Nat.le_of_ble_eq_true rfl) dX8_init_104 rfl ?_
  refine kw_aload dX8_init_107 ?_
  refine kw_bipush (v := 8) dX8_init_108 (by decide) ?_
  refine kw_newa1 (t := 0) (N := 8) (a0 := (8, .inl (fun _ => 0))) ar_0 rfl (by decide) (fun _ => rfl) (by decide) (by decide) (by decide) (by decide) (by decide) dX8_init_110 (fun q12 => ?_)
  refine kw_put1 [.int 0, .int 0, .int 0, .int 0, .int 1, .int (-1), .int (-1), .int 0, .int 0, .ref q1, .ref q2, .ref q3, .ref q4, .ref q5, .ref q6, .ref q7, .ref q8, .ref q9, .ref q10, .ref q11, .ref q12, .null, .null, .null, .null, .null, .null, .null, .null, .null, .null, .int 0, .int 0, .int 0, .int 0, .int 0, .int 0, .null, .null, .null, .null, .null, .null, .null, .null, .null, .null, .int 0, .int 0, .int 0, .int 0, .int 0, .null, .null, .int 0, .int 0, .int 0, .int 0, .int 0, .int 0, .int 0, .int 0, .int 0, .null] pk_X8_53 rfl rfl (Nat.le_of_ble_eq_true rfl) dX8_init_112 rfl ?_
  refine kw_aload dX8_init_115 ?_
  refine kw_bipush (v := 7) dX8_init_116 (by decide) ?_
  refine kw_newa1 (t := 0) (N := 7) (a0 := (7, .inl (fun _ => 0))) ar_0 rfl (by decide) (fun _ => rfl) (by decide) (by decide) (by decide) (by decide) (by decide) dX8_init_118 (fun q13 => ?_)
  refine kw_dup dX8_init_120 ?_
  refine kw_iconst (v := 0) dX8_init_121 (by decide) ?_
  refine kw_bipush (v := 12) dX8_init_122 (by decide) ?_
  refine kw_iast1 (by unfold vp_in; decide) dX8_init_124 ?_
  refine kw_dup dX8_init_125 ?_
  refine kw_iconst (v := 1) dX8_init_126 (by decide) ?_
  refine kw_iconst (v := 2) dX8_init_127 (by decide) ?_
  refine kw_iast1 (by unfold vp_in; decide) dX8_init_128 ?_
  refine kw_dup dX8_init_129 ?_
  refine kw_iconst (v := 2) dX8_init_130 (by decide) ?_
  refine kw_iconst (v := 3) dX8_init_131 (by decide) ?_
  refine kw_iast1 (by unfold vp_in; decide) dX8_init_132 ?_
  refine kw_dup dX8_init_133 ?_
  refine kw_iconst (v := 3) dX8_init_134 (by decide) ?_
  refine kw_iconst (v := 2) dX8_init_135 (by decide) ?_
  refine kw_iast1 (by unfold vp_in; decide) dX8_init_136 ?_
  refine kw_dup dX8_init_137 ?_
  refine kw_iconst (v := 4) dX8_init_138 (by decide) ?_
  refine kw_bipush (v := 20) dX8_init_139 (by decide) ?_
  refine kw_iast1 (by unfold vp_in; decide) dX8_init_141 ?_
  refine kw_dup dX8_init_142 ?_
  refine kw_iconst (v := 5) dX8_init_143 (by decide) ?_
  refine kw_iconst (v := 2) dX8_init_144 (by decide) ?_
  refine kw_iast1 (by unfold vp_in; decide) dX8_init_145 ?_
  refine kw_dup dX8_init_146 ?_
  refine kw_bipush (v := 6) dX8_init_147 (by decide) ?_
  refine kw_bipush (v := 80) dX8_init_149 (by decide) ?_
  refine kw_iast1 (by unfold vp_in; decide) dX8_init_151 ?_
  refine kw_put1 [.int 0, .int 0, .int 0, .int 0, .int 1, .int (-1), .int (-1), .int 0, .int 0, .ref q1, .ref q2, .ref q3, .ref q4, .ref q5, .ref q6, .ref q7, .ref q8, .ref q9, .ref q10, .ref q11, .ref q12, .ref q13, .null, .null, .null, .null, .null, .null, .null, .null, .null, .int 0, .int 0, .int 0, .int 0, .int 0, .int 0, .null, .null, .null, .null, .null, .null, .null, .null, .null, .null, .int 0, .int 0, .int 0, .int 0, .int 0, .null, .null, .int 0, .int 0, .int 0, .int 0, .int 0, .int 0, .int 0, .int 0, .int 0, .null] pk_X8_56 rfl rfl (Nat.le_of_ble_eq_true rfl) dX8_init_152 rfl ?_
  refine kw_aload dX8_init_155 ?_
  refine kw_bipush (v := 42) dX8_init_156 (by decide) ?_
  refine kw_newa1 (t := 0) (N := 42) (a0 := (42, .inl (fun _ => 0))) ar_0 rfl (by decide) (fun _ => rfl) (by decide) (by decide) (by decide) (by decide) (by decide) dX8_init_158 (fun q14 => ?_)
  refine kw_put1 [.int 0, .int 0, .int 0, .int 0, .int 1, .int (-1), .int (-1), .int 0, .int 0, .ref q1, .ref q2, .ref q3, .ref q4, .ref q5, .ref q6, .ref q7, .ref q8, .ref q9, .ref q10, .ref q11, .ref q12, .ref q13, .ref q14, .null, .null, .null, .null, .null, .null, .null, .null, .int 0, .int 0, .int 0, .int 0, .int 0, .int 0, .null, .null, .null, .null, .null, .null, .null, .null, .null, .null, .int 0, .int 0, .int 0, .int 0, .int 0, .null, .null, .int 0, .int 0, .int 0, .int 0, .int 0, .int 0, .int 0, .int 0, .int 0, .null] pk_X8_59 rfl rfl (Nat.le_of_ble_eq_true rfl) dX8_init_160 rfl ?_
  refine kw_aload dX8_init_163 ?_
  refine kw_bipush (v := 8) dX8_init_164 (by decide) ?_
  refine kw_newa1 (t := 0) (N := 8) (a0 := (8, .inl (fun _ => 0))) ar_0 rfl (by decide) (fun _ => rfl) (by decide) (by decide) (by decide) (by decide) (by decide) dX8_init_166 (fun q15 => ?_)
  refine kw_put1 [.int 0, .int 0, .int 0, .int 0, .int 1, .int (-1), .int (-1), .int 0, .int 0, .ref q1, .ref q2, .ref q3, .ref q4, .ref q5, .ref q6, .ref q7, .ref q8, .ref q9, .ref q10, .ref q11, .ref q12, .ref q13, .ref q14, .ref q15, .null, .null, .null, .null, .null, .null, .null, .int 0, .int 0, .int 0, .int 0, .int 0, .int 0, .null, .null, .null, .null, .null, .null, .null, .null, .null, .null, .int 0, .int 0, .int 0, .int 0, .int 0, .null, .null, .int 0, .int 0, .int 0, .int 0, .int 0, .int 0, .int 0, .int 0, .int 0, .null] pk_X8_62 rfl rfl (Nat.le_of_ble_eq_true rfl) dX8_init_168 rfl ?_
  refine kw_aload dX8_init_171 ?_
  refine kw_bipush (v := 8) dX8_init_172 (by decide) ?_
  refine kw_newa1 (t := 0) (N := 8) (a0 := (8, .inl (fun _ => 0))) ar_0 rfl (by decide) (fun _ => rfl) (by decide) (by decide) (by decide) (by decide) (by decide) dX8_init_174 (fun q16 => ?_)
  refine kw_put1 [.int 0, .int 0, .int 0, .int 0, .int 1, .int (-1), .int (-1), .int 0, .int 0, .ref q1, .ref q2, .ref q3, .ref q4, .ref q5, .ref q6, .ref q7, .ref q8, .ref q9, .ref q10, .ref q11, .ref q12, .ref q13, .ref q14, .ref q15, .ref q16, .null, .null, .null, .null, .null, .null, .int 0, .int 0, .int 0, .int 0, .int 0, .int 0, .null, .null, .null, .null, .null, .null, .null, .null, .null, .null, .int 0, .int 0, .int 0, .int 0, .int 0, .null, .null, .int 0, .int 0, .int 0, .int 0, .int 0, .int 0, .int 0, .int 0, .int 0, .null] pk_X8_65 rfl rfl (Nat.le_of_ble_eq_true rfl) dX8_init_176 rfl ?_
  refine kw_aload dX8_init_179 ?_
  refine kw_bipush (v := 8) dX8_init_180 (by decide) ?_
  refine kw_newa1 (t := 0) (N := 8) (a0 := (8, .inl (fun _ => 0))) ar_0 rfl (by decide) (fun _ => rfl) (by decide) (by decide) (by decide) (by decide) (by decide) dX8_init_182 (fun q17 => ?_)
  refine kw_put1 [.int 0, .int 0, .int 0, .int 0, .int 1, .int (-1), .int (-1), .int 0, .int 0, .ref q1, .ref q2, .ref q3, .ref q4, .ref q5, .ref q6, .ref q7, .ref q8, .ref q9, .ref q10, .ref q11, .ref q12, .ref q13, .ref q14, .ref q15, .ref q16, .ref q17, .null, .null, .null, .null, .null, .int 0, .int 0, .int 0, .int 0, .int 0, .int 0, .null, .null, .null, .null, .null, .null, .null, .null, .null, .null, .int 0, .int 0, .int 0, .int 0, .int 0, .null, .null, .int 0, .int 0, .int 0, .int 0, .int 0, .int 0, .int 0, .int 0, .int 0, .null] pk_X8_68 rfl rfl (Nat.le_of_ble_eq_true rfl) dX8_init_184 rfl ?_
  refine kw_aload dX8_init_187 ?_
  refine kw_bipush (v := 8) dX8_init_188 (by decide) ?_
  refine kw_newa1 (t := 0) (N := 8) (a0 := (8, .inl (fun _ => 0))) ar_0 rfl (by decide) (fun _ => rfl) (by decide) (by decide) (by decide) (by decide) (by decide) dX8_init_190 (fun q18 => ?_)
  refine kw_put1 [.int 0, .int 0, .int 0, .int 0, .int 1, .int (-1), .int (-1), .int 0, .int 0, .ref q1, .ref q2, .ref q3, .ref q4, .ref q5, .ref q6, .ref q7, .ref q8, .ref q9, .ref q10, .ref q11, .ref q12, .ref q13, .ref q14, .ref q15, .ref q16, .ref q17, .ref q18, .null, .null, .null, .null, .int 0, .int 0, .int 0, .int 0, .int 0, .int 0, .null, .null, .null, .null, .null, .null, .null, .null, .null, .null, .int 0, .int 0, .int 0, .int 0, .int 0, .null, .null, .int 0, .int 0, .int 0, .int 0, .int 0, .int 0, .int 0, .int 0, .int 0, .null] pk_X8_71 rfl rfl (Nat.le_of_ble_eq_true rfl) dX8_init_192 rfl ?_
  refine kw_aload dX8_init_195 ?_
  refine kw_sipush (v := 800) dX8_init_196 (by decide) ?_
  refine kw_newa1 (t := 2) (N := 800) (a0 := (800, .inr (.inl (fun _ => 0)))) ar_2 rfl (by decide) (fun _ => rfl) (by decide) (by decide) (by decide) (by decide) (by decide) dX8_init_199 (fun q19 => ?_)
  refine kw_put1 [.int 0, .int 0, .int 0, .int 0, .int 1, .int (-1), .int (-1), .int 0, .int 0, .ref q1, .ref q2, .ref q3, .ref q4, .ref q5, .ref q6, .ref q7, .ref q8, .ref q9, .ref q10, .ref q11, .ref q12, .ref q13, .ref q14, .ref q15, .ref q16, .ref q17, .ref q18, .ref q19, .null, .null, .null, .int 0, .int 0, .int 0, .int 0, .int 0, .int 0, .null, .null, .null, .null, .null, .null, .null, .null, .null, .null, .int 0, .int 0, .int 0, .int 0, .int 0, .null, .null, .int 0, .int 0, .int 0, .int 0, .int 0, .int 0, .int 0, .int 0, .int 0, .null] pk_X8_74 rfl rfl (Nat.le_of_ble_eq_true rfl) dX8_init_201 rfl ?_
  refine kw_aload dX8_init_204 ?_
  refine kw_bipush (v := 100) dX8_init_205 (by decide) ?_
  refine kw_newa1 (t := 2) (N := 100) (a0 := (100, .inr (.inl (fun _ => 0)))) ar_2 rfl (by decide) (fun _ => rfl) (by decide) (by decide) (by decide) (by decide) (by decide) dX8_init_207 (fun q20 => ?_)
  refine kw_put1 [.int 0, .int 0, .int 0, .int 0, .int 1, .int (-1), .int (-1), .int 0, .int 0, .ref q1, .ref q2, .ref q3, .ref q4, .ref q5, .ref q6, .ref q7, .ref q8, .ref q9, .ref q10, .ref q11, .ref q12, .ref q13, .ref q14, .ref q15, .ref q16, .ref q17, .ref q18, .ref q19, .ref q20, .null, .null, .int 0, .int 0, .int 0, .int 0, .int 0, .int 0, .null, .null, .null, .null, .null, .null, .null, .null, .null, .null, .int 0, .int 0, .int 0, .int 0, .int 0, .null, .null, .int 0, .int 0, .int 0, .int 0, .int 0, .int 0, .int 0, .int 0, .int 0, .null] pk_X8_78 rfl rfl (Nat.le_of_ble_eq_true rfl) dX8_init_209 rfl ?_
  refine kw_aload dX8_init_212 ?_
  refine kw_bipush (v := 43) dX8_init_213 (by decide) ?_
  refine kw_newa1 (t := 0) (N := 43) (a0 := (43, .inl (fun _ => 0))) ar_0 rfl (by decide) (fun _ => rfl) (by decide) (by decide) (by decide) (by decide) (by decide) dX8_init_215 (fun q21 => ?_)
  refine kw_dup dX8_init_217 ?_
  refine kw_iconst (v := 0) dX8_init_218 (by decide) ?_
  refine kw_bipush (v := 99) dX8_init_219 (by decide) ?_
  refine kw_iast1 (by unfold vp_in; decide) dX8_init_221 ?_
  refine kw_dup dX8_init_222 ?_
  refine kw_iconst (v := 1) dX8_init_223 (by decide) ?_
  refine kw_bipush (v := 97) dX8_init_224 (by decide) ?_
  refine kw_iast1 (by unfold vp_in; decide) dX8_init_226 ?_
  refine kw_dup dX8_init_227 ?_
  refine kw_iconst (v := 2) dX8_init_228 (by decide) ?_
  refine kw_bipush (v := 116) dX8_init_229 (by decide) ?_
  refine kw_iast1 (by unfold vp_in; decide) dX8_init_231 ?_
  refine kw_dup dX8_init_232 ?_
  refine kw_iconst (v := 3) dX8_init_233 (by decide) ?_
  refine kw_bipush (v := 99) dX8_init_234 (by decide) ?_
  refine kw_iast1 (by unfold vp_in; decide) dX8_init_236 ?_
  refine kw_dup dX8_init_237 ?_
  refine kw_iconst (v := 4) dX8_init_238 (by decide) ?_
  refine kw_bipush (v := 104) dX8_init_239 (by decide) ?_
  refine kw_iast1 (by unfold vp_in; decide) dX8_init_241 ?_
  refine kw_dup dX8_init_242 ?_
  refine kw_iconst (v := 5) dX8_init_243 (by decide) ?_
  refine kw_bipush (v := 32) dX8_init_244 (by decide) ?_
  refine kw_iast1 (by unfold vp_in; decide) dX8_init_246 ?_
  refine kw_dup dX8_init_247 ?_
  refine kw_bipush (v := 6) dX8_init_248 (by decide) ?_
  refine kw_iconst (v := 0) dX8_init_250 (by decide) ?_
  refine kw_iast1 (by unfold vp_in; decide) dX8_init_251 ?_
  refine kw_dup dX8_init_252 ?_
  refine kw_bipush (v := 7) dX8_init_253 (by decide) ?_
  refine kw_bipush (v := 110) dX8_init_255 (by decide) ?_
  refine kw_iast1 (by unfold vp_in; decide) dX8_init_257 ?_
  refine kw_dup dX8_init_258 ?_
  refine kw_bipush (v := 8) dX8_init_259 (by decide) ?_
  refine kw_bipush (v := 101) dX8_init_261 (by decide) ?_
  refine kw_iast1 (by unfold vp_in; decide) dX8_init_263 ?_
  refine kw_dup dX8_init_264 ?_
  refine kw_bipush (v := 9) dX8_init_265 (by decide) ?_
  refine kw_bipush (v := 97) dX8_init_267 (by decide) ?_
  refine kw_iast1 (by unfold vp_in; decide) dX8_init_269 ?_
  refine kw_dup dX8_init_270 ?_
  refine kw_bipush (v := 10) dX8_init_271 (by decide) ?_
  refine kw_bipush (v := 114) dX8_init_273 (by decide) ?_
  refine kw_iast1 (by unfold vp_in; decide) dX8_init_275 ?_
  refine kw_dup dX8_init_276 ?_
  refine kw_bipush (v := 11) dX8_init_277 (by decide) ?_
  refine kw_bipush (v := 32) dX8_init_279 (by decide) ?_
  refine kw_iast1 (by unfold vp_in; decide) dX8_init_281 ?_
  refine kw_dup dX8_init_282 ?_
  refine kw_bipush (v := 12) dX8_init_283 (by decide) ?_
  refine kw_iconst (v := 0) dX8_init_285 (by decide) ?_
  refine kw_iast1 (by unfold vp_in; decide) dX8_init_286 ?_
  refine kw_dup dX8_init_287 ?_
  refine kw_bipush (v := 13) dX8_init_288 (by decide) ?_
  refine kw_bipush (v := 115) dX8_init_290 (by decide) ?_
  refine kw_iast1 (by unfold vp_in; decide) dX8_init_292 ?_
  refine kw_dup dX8_init_293 ?_
  refine kw_bipush (v := 14) dX8_init_294 (by decide) ?_
  refine kw_bipush (v := 116) dX8_init_296 (by decide) ?_
  refine kw_iast1 (by unfold vp_in; decide) dX8_init_298 ?_
  refine kw_dup dX8_init_299 ?_
  refine kw_bipush (v := 15) dX8_init_300 (by decide) ?_
  refine kw_bipush (v := 111) dX8_init_302 (by decide) ?_
  refine kw_iast1 (by unfold vp_in; decide) dX8_init_304 ?_
  refine kw_dup dX8_init_305 ?_
  refine kw_bipush (v := 16) dX8_init_306 (by decide) ?_
  refine kw_bipush (v := 112) dX8_init_308 (by decide) ?_
  refine kw_iast1 (by unfold vp_in; decide) dX8_init_310 ?_
  refine kw_dup dX8_init_311 ?_
  refine kw_bipush (v := 17) dX8_init_312 (by decide) ?_
  refine kw_bipush (v := 32) dX8_init_314 (by decide) ?_
  refine kw_iast1 (by unfold vp_in; decide) dX8_init_316 ?_
  refine kw_dup dX8_init_317 ?_
  refine kw_bipush (v := 18) dX8_init_318 (by decide) ?_
  refine kw_iconst (v := 0) dX8_init_320 (by decide) ?_
  refine kw_iast1 (by unfold vp_in; decide) dX8_init_321 ?_
  refine kw_dup dX8_init_322 ?_
  refine kw_bipush (v := 19) dX8_init_323 (by decide) ?_
  refine kw_bipush (v := 116) dX8_init_325 (by decide) ?_
  refine kw_iast1 (by unfold vp_in; decide) dX8_init_327 ?_
  refine kw_dup dX8_init_328 ?_
  refine kw_bipush (v := 20) dX8_init_329 (by decide) ?_
  refine kw_bipush (v := 105) dX8_init_331 (by decide) ?_
  refine kw_iast1 (by unfold vp_in; decide) dX8_init_333 ?_
  refine kw_dup dX8_init_334 ?_
  refine kw_bipush (v := 21) dX8_init_335 (by decide) ?_
  refine kw_bipush (v := 114) dX8_init_337 (by decide) ?_
  refine kw_iast1 (by unfold vp_in; decide) dX8_init_339 ?_
  refine kw_dup dX8_init_340 ?_
  refine kw_bipush (v := 22) dX8_init_341 (by decide) ?_
  refine kw_bipush (v := 101) dX8_init_343 (by decide) ?_
  refine kw_iast1 (by unfold vp_in; decide) dX8_init_345 ?_
  refine kw_dup dX8_init_346 ?_
  refine kw_bipush (v := 23) dX8_init_347 (by decide) ?_
  refine kw_bipush (v := 32) dX8_init_349 (by decide) ?_
  refine kw_iast1 (by unfold vp_in; decide) dX8_init_351 ?_
  refine kw_dup dX8_init_352 ?_
  refine kw_bipush (v := 24) dX8_init_353 (by decide) ?_
  refine kw_iconst (v := 0) dX8_init_355 (by decide) ?_
  refine kw_iast1 (by unfold vp_in; decide) dX8_init_356 ?_
  refine kw_dup dX8_init_357 ?_
  refine kw_bipush (v := 25) dX8_init_358 (by decide) ?_
  refine kw_bipush (v := 104) dX8_init_360 (by decide) ?_
  refine kw_iast1 (by unfold vp_in; decide) dX8_init_362 ?_
  refine kw_dup dX8_init_363 ?_
  refine kw_bipush (v := 26) dX8_init_364 (by decide) ?_
  refine kw_bipush (v := 97) dX8_init_366 (by decide) ?_
  refine kw_iast1 (by unfold vp_in; decide) dX8_init_368 ?_
  refine kw_dup dX8_init_369 ?_
  refine kw_bipush (v := 27) dX8_init_370 (by decide) ?_
  refine kw_bipush (v := 108) dX8_init_372 (by decide) ?_
  refine kw_iast1 (by unfold vp_in; decide) dX8_init_374 ?_
  refine kw_dup dX8_init_375 ?_
  refine kw_bipush (v := 28) dX8_init_376 (by decide) ?_
  refine kw_bipush (v := 102) dX8_init_378 (by decide) ?_
  refine kw_iast1 (by unfold vp_in; decide) dX8_init_380 ?_
  refine kw_dup dX8_init_381 ?_
  refine kw_bipush (v := 29) dX8_init_382 (by decide) ?_
  refine kw_bipush (v := 32) dX8_init_384 (by decide) ?_
  refine kw_iast1 (by unfold vp_in; decide) dX8_init_386 ?_
  refine kw_dup dX8_init_387 ?_
  refine kw_bipush (v := 30) dX8_init_388 (by decide) ?_
  refine kw_iconst (v := 0) dX8_init_390 (by decide) ?_
  refine kw_iast1 (by unfold vp_in; decide) dX8_init_391 ?_
  refine kw_dup dX8_init_392 ?_
  refine kw_bipush (v := 31) dX8_init_393 (by decide) ?_
  refine kw_bipush (v := 115) dX8_init_395 (by decide) ?_
  refine kw_iast1 (by unfold vp_in; decide) dX8_init_397 ?_
  refine kw_dup dX8_init_398 ?_
  refine kw_bipush (v := 32) dX8_init_399 (by decide) ?_
  refine kw_bipush (v := 101) dX8_init_401 (by decide) ?_
  refine kw_iast1 (by unfold vp_in; decide) dX8_init_403 ?_
  refine kw_dup dX8_init_404 ?_
  refine kw_bipush (v := 33) dX8_init_405 (by decide) ?_
  refine kw_bipush (v := 101) dX8_init_407 (by decide) ?_
  refine kw_iast1 (by unfold vp_in; decide) dX8_init_409 ?_
  refine kw_dup dX8_init_410 ?_
  refine kw_bipush (v := 34) dX8_init_411 (by decide) ?_
  refine kw_bipush (v := 32) dX8_init_413 (by decide) ?_
  refine kw_iast1 (by unfold vp_in; decide) dX8_init_415 ?_
  refine kw_dup dX8_init_416 ?_
  refine kw_bipush (v := 35) dX8_init_417 (by decide) ?_
  refine kw_iconst (v := 0) dX8_init_419 (by decide) ?_
  refine kw_iast1 (by unfold vp_in; decide) dX8_init_420 ?_
  refine kw_dup dX8_init_421 ?_
  refine kw_bipush (v := 36) dX8_init_422 (by decide) ?_
  refine kw_bipush (v := 115) dX8_init_424 (by decide) ?_
  refine kw_iast1 (by unfold vp_in; decide) dX8_init_426 ?_
  refine kw_dup dX8_init_427 ?_
  refine kw_bipush (v := 37) dX8_init_428 (by decide) ?_
  refine kw_bipush (v := 116) dX8_init_430 (by decide) ?_
  refine kw_iast1 (by unfold vp_in; decide) dX8_init_432 ?_
  refine kw_dup dX8_init_433 ?_
  refine kw_bipush (v := 38) dX8_init_434 (by decide) ?_
  refine kw_bipush (v := 97) dX8_init_436 (by decide) ?_
  refine kw_iast1 (by unfold vp_in; decide) dX8_init_438 ?_
  refine kw_dup dX8_init_439 ?_
  refine kw_bipush (v := 39) dX8_init_440 (by decide) ?_
  refine kw_bipush (v := 110) dX8_init_442 (by decide) ?_
  refine kw_iast1 (by unfold vp_in; decide) dX8_init_444 ?_
  refine kw_dup dX8_init_445 ?_
  refine kw_bipush (v := 40) dX8_init_446 (by decide) ?_
  refine kw_bipush (v := 100) dX8_init_448 (by decide) ?_
  refine kw_iast1 (by unfold vp_in; decide) dX8_init_450 ?_
  refine kw_dup dX8_init_451 ?_
  refine kw_bipush (v := 41) dX8_init_452 (by decide) ?_
  refine kw_bipush (v := 32) dX8_init_454 (by decide) ?_
  refine kw_iast1 (by unfold vp_in; decide) dX8_init_456 ?_
  refine kw_dup dX8_init_457 ?_
  refine kw_bipush (v := 42) dX8_init_458 (by decide) ?_
  refine kw_iconst (v := 0) dX8_init_460 (by decide) ?_
  refine kw_iast1 (by unfold vp_in; decide) dX8_init_461 ?_
  refine kw_put1 [.int 0, .int 0, .int 0, .int 0, .int 1, .int (-1), .int (-1), .int 0, .int 0, .ref q1, .ref q2, .ref q3, .ref q4, .ref q5, .ref q6, .ref q7, .ref q8, .ref q9, .ref q10, .ref q11, .ref q12, .ref q13, .ref q14, .ref q15, .ref q16, .ref q17, .ref q18, .ref q19, .ref q20, .ref q21, .null, .int 0, .int 0, .int 0, .int 0, .int 0, .int 0, .null, .null, .null, .null, .null, .null, .null, .null, .null, .null, .int 0, .int 0, .int 0, .int 0, .int 0, .null, .null, .int 0, .int 0, .int 0, .int 0, .int 0, .int 0, .int 0, .int 0, .int 0, .null] pk_X8_81 rfl rfl (Nat.le_of_ble_eq_true rfl) dX8_init_462 rfl ?_
  refine kw_aload dX8_init_465 ?_
  refine kw_bipush (v := 7) dX8_init_466 (by decide) ?_
  refine kw_newa1 (t := 0) (N := 7) (a0 := (7, .inl (fun _ => 0))) ar_0 rfl (by decide) (fun _ => rfl) (by decide) (by decide) (by decide) (by decide) (by decide) dX8_init_468 (fun q22 => ?_)
  refine kw_put1 [.int 0, .int 0, .int 0, .int 0, .int 1, .int (-1), .int (-1), .int 0, .int 0, .ref q1, .ref q2, .ref q3, .ref q4, .ref q5, .ref q6, .ref q7, .ref q8, .ref q9, .ref q10, .ref q11, .ref q12, .ref q13, .ref q14, .ref q15, .ref q16, .ref q17, .ref q18, .ref q19, .ref q20, .ref q21, .ref q22, .int 0, .int 0, .int 0, .int 0, .int 0, .int 0, .null, .null, .null, .null, .null, .null, .null, .null, .null, .null, .int 0, .int 0, .int 0, .int 0, .int 0, .null, .null, .int 0, .int 0, .int 0, .int 0, .int 0, .int 0, .int 0, .int 0, .int 0, .null] pk_X8_84 rfl rfl (Nat.le_of_ble_eq_true rfl) dX8_init_470 rfl ?_
  refine kw_aload dX8_init_473 ?_
  refine kw_iconst (v := (-1)) dX8_init_474 (by decide) ?_
  refine kw_put1 [.int 0, .int 0, .int 0, .int 0, .int 1, .int (-1), .int (-1), .int 0, .int 0, .ref q1, .ref q2, .ref q3, .ref q4, .ref q5, .ref q6, .ref q7, .ref q8, .ref q9, .ref q10, .ref q11, .ref q12, .ref q13, .ref q14, .ref q15, .ref q16, .ref q17, .ref q18, .ref q19, .ref q20, .ref q21, .ref q22, .int 0, .int 0, .int 0, .int 0, .int (-1), .int 0, .null, .null, .null, .null, .null, .null, .null, .null, .null, .null, .int 0, .int 0, .int 0, .int 0, .int 0, .null, .null, .int 0, .int 0, .int 0, .int 0, .int 0, .int 0, .int 0, .int 0, .int 0, .null] pk_X8_87 rfl rfl (Nat.le_of_ble_eq_true rfl) dX8_init_475 rfl ?_
  refine kw_aload dX8_init_478 ?_
  refine kw_bipush (v := 30) dX8_init_479 (by decide) ?_
  refine kw_newa1 (t := 0) (N := 30) (a0 := (30, .inl (fun _ => 0))) ar_0 rfl (by decide) (fun _ => rfl) (by decide) (by decide) (by decide) (by decide) (by decide) dX8_init_481 (fun q23 => ?_)
  refine kw_put1 [.int 0, .int 0, .int 0, .int 0, .int 1, .int (-1), .int (-1), .int 0, .int 0, .ref q1, .ref q2, .ref q3, .ref q4, .ref q5, .ref q6, .ref q7, .ref q8, .ref q9, .ref q10, .ref q11, .ref q12, .ref q13, .ref q14, .ref q15, .ref q16, .ref q17, .ref q18, .ref q19, .ref q20, .ref q21, .ref q22, .int 0, .int 0, .int 0, .int 0, .int (-1), .int 0, .ref q23, .null, .null, .null, .null, .null, .null, .null, .null, .null, .int 0, .int 0, .int 0, .int 0, .int 0, .null, .null, .int 0, .int 0, .int 0, .int 0, .int 0, .int 0, .int 0, .int 0, .int 0, .null] pk_X8_90 rfl rfl (Nat.le_of_ble_eq_true rfl) dX8_init_483 rfl ?_
  refine kw_aload dX8_init_486 ?_
  refine kw_bipush (v := 30) dX8_init_487 (by decide) ?_
  refine kw_newa1 (t := 0) (N := 30) (a0 := (30, .inl (fun _ => 0))) ar_0 rfl (by decide) (fun _ => rfl) (by decide) (by decide) (by decide) (by decide) (by decide) dX8_init_489 (fun q24 => ?_)
  refine kw_put1 [.int 0, .int 0, .int 0, .int 0, .int 1, .int (-1), .int (-1), .int 0, .int 0, .ref q1, .ref q2, .ref q3, .ref q4, .ref q5, .ref q6, .ref q7, .ref q8, .ref q9, .ref q10, .ref q11, .ref q12, .ref q13, .ref q14, .ref q15, .ref q16, .ref q17, .ref q18, .ref q19, .ref q20, .ref q21, .ref q22, .int 0, .int 0, .int 0, .int 0, .int (-1), .int 0, .ref q23, .ref q24, .null, .null, .null, .null, .null, .null, .null, .null, .int 0, .int 0, .int 0, .int 0, .int 0, .null, .null, .int 0, .int 0, .int 0, .int 0, .int 0, .int 0, .int 0, .int 0, .int 0, .null] pk_X8_93 rfl rfl (Nat.le_of_ble_eq_true rfl) dX8_init_491 rfl ?_
  refine kw_aload dX8_init_494 ?_
  refine kw_bipush (v := 30) dX8_init_495 (by decide) ?_
  refine kw_newa1 (t := 0) (N := 30) (a0 := (30, .inl (fun _ => 0))) ar_0 rfl (by decide) (fun _ => rfl) (by decide) (by decide) (by decide) (by decide) (by decide) dX8_init_497 (fun q25 => ?_)
  refine kw_put1 [.int 0, .int 0, .int 0, .int 0, .int 1, .int (-1), .int (-1), .int 0, .int 0, .ref q1, .ref q2, .ref q3, .ref q4, .ref q5, .ref q6, .ref q7, .ref q8, .ref q9, .ref q10, .ref q11, .ref q12, .ref q13, .ref q14, .ref q15, .ref q16, .ref q17, .ref q18, .ref q19, .ref q20, .ref q21, .ref q22, .int 0, .int 0, .int 0, .int 0, .int (-1), .int 0, .ref q23, .ref q24, .ref q25, .null, .null, .null, .null, .null, .null, .null, .int 0, .int 0, .int 0, .int 0, .int 0, .null, .null, .int 0, .int 0, .int 0, .int 0, .int 0, .int 0, .int 0, .int 0, .int 0, .null] pk_X8_96 rfl rfl (Nat.le_of_ble_eq_true rfl) dX8_init_499 rfl ?_
  refine kw_aload dX8_init_502 ?_
  refine kw_bipush (v := 30) dX8_init_503 (by decide) ?_
  refine kw_newa1 (t := 0) (N := 30) (a0 := (30, .inl (fun _ => 0))) ar_0 rfl (by decide) (fun _ => rfl) (by decide) (by decide) (by decide) (by decide) (by decide) dX8_init_505 (fun q26 => ?_)
  refine kw_put1 [.int 0, .int 0, .int 0, .int 0, .int 1, .int (-1), .int (-1), .int 0, .int 0, .ref q1, .ref q2, .ref q3, .ref q4, .ref q5, .ref q6, .ref q7, .ref q8, .ref q9, .ref q10, .ref q11, .ref q12, .ref q13, .ref q14, .ref q15, .ref q16, .ref q17, .ref q18, .ref q19, .ref q20, .ref q21, .ref q22, .int 0, .int 0, .int 0, .int 0, .int (-1), .int 0, .ref q23, .ref q24, .ref q25, .ref q26, .null, .null, .null, .null, .null, .null, .int 0, .int 0, .int 0, .int 0, .int 0, .null, .null, .int 0, .int 0, .int 0, .int 0, .int 0, .int 0, .int 0, .int 0, .int 0, .null] pk_X8_99 rfl rfl (Nat.le_of_ble_eq_true rfl) dX8_init_507 rfl ?_
  refine kw_aload dX8_init_510 ?_
  refine kw_bipush (v := 48) dX8_init_511 (by decide) ?_
  refine kw_newa1 (t := 0) (N := 48) (a0 := (48, .inl (fun _ => 0))) ar_0 rfl (by decide) (fun _ => rfl) (by decide) (by decide) (by decide) (by decide) (by decide) dX8_init_513 (fun q27 => ?_)
  refine kw_put1 [.int 0, .int 0, .int 0, .int 0, .int 1, .int (-1), .int (-1), .int 0, .int 0, .ref q1, .ref q2, .ref q3, .ref q4, .ref q5, .ref q6, .ref q7, .ref q8, .ref q9, .ref q10, .ref q11, .ref q12, .ref q13, .ref q14, .ref q15, .ref q16, .ref q17, .ref q18, .ref q19, .ref q20, .ref q21, .ref q22, .int 0, .int 0, .int 0, .int 0, .int (-1), .int 0, .ref q23, .ref q24, .ref q25, .ref q26, .ref q27, .null, .null, .null, .null, .null, .int 0, .int 0, .int 0, .int 0, .int 0, .null, .null, .int 0, .int 0, .int 0, .int 0, .int 0, .int 0, .int 0, .int 0, .int 0, .null] pk_X8_102 rfl rfl (Nat.le_of_ble_eq_true rfl) dX8_init_515 rfl ?_
  refine kw_aload dX8_init_518 ?_
  refine kw_bipush (v := 30) dX8_init_519 (by decide) ?_
  refine kw_newa1 (t := 0) (N := 30) (a0 := (30, .inl (fun _ => 0))) ar_0 rfl (by decide) (fun _ => rfl) (by decide) (by decide) (by decide) (by decide) (by decide) dX8_init_521 (fun q28 => ?_)
  refine kw_put1 [.int 0, .int 0, .int 0, .int 0, .int 1, .int (-1), .int (-1), .int 0, .int 0, .ref q1, .ref q2, .ref q3, .ref q4, .ref q5, .ref q6, .ref q7, .ref q8, .ref q9, .ref q10, .ref q11, .ref q12, .ref q13, .ref q14, .ref q15, .ref q16, .ref q17, .ref q18, .ref q19, .ref q20, .ref q21, .ref q22, .int 0, .int 0, .int 0, .int 0, .int (-1), .int 0, .ref q23, .ref q24, .ref q25, .ref q26, .ref q27, .ref q28, .null, .null, .null, .null, .int 0, .int 0, .int 0, .int 0, .int 0, .null, .null, .int 0, .int 0, .int 0, .int 0, .int 0, .int 0, .int 0, .int 0, .int 0, .null] pk_X8_105 rfl rfl (Nat.le_of_ble_eq_true rfl) dX8_init_523 rfl ?_
  refine kw_aload dX8_init_526 ?_
  refine kw_bipush (v := 30) dX8_init_527 (by decide) ?_
  refine kw_newa1 (t := 0) (N := 30) (a0 := (30, .inl (fun _ => 0))) ar_0 rfl (by decide) (fun _ => rfl) (by decide) (by decide) (by decide) (by decide) (by decide) dX8_init_529 (fun q29 => ?_)
  refine kw_put1 [.int 0, .int 0, .int 0, .int 0, .int 1, .int (-1), .int (-1), .int 0, .int 0, .ref q1, .ref q2, .ref q3, .ref q4, .ref q5, .ref q6, .ref q7, .ref q8, .ref q9, .ref q10, .ref q11, .ref q12, .ref q13, .ref q14, .ref q15, .ref q16, .ref q17, .ref q18, .ref q19, .ref q20, .ref q21, .ref q22, .int 0, .int 0, .int 0, .int 0, .int (-1), .int 0, .ref q23, .ref q24, .ref q25, .ref q26, .ref q27, .ref q28, .ref q29, .null, .null, .null, .int 0, .int 0, .int 0, .int 0, .int 0, .null, .null, .int 0, .int 0, .int 0, .int 0, .int 0, .int 0, .int 0, .int 0, .int 0, .null] pk_X8_108 rfl rfl (Nat.le_of_ble_eq_true rfl) dX8_init_531 rfl ?_
  refine kw_aload dX8_init_534 ?_
  refine kw_bipush (v := 30) dX8_init_535 (by decide) ?_
  refine kw_newa1 (t := 0) (N := 30) (a0 := (30, .inl (fun _ => 0))) ar_0 rfl (by decide) (fun _ => rfl) (by decide) (by decide) (by decide) (by decide) (by decide) dX8_init_537 (fun q30 => ?_)
  refine kw_put1 [.int 0, .int 0, .int 0, .int 0, .int 1, .int (-1), .int (-1), .int 0, .int 0, .ref q1, .ref q2, .ref q3, .ref q4, .ref q5, .ref q6, .ref q7, .ref q8, .ref q9, .ref q10, .ref q11, .ref q12, .ref q13, .ref q14, .ref q15, .ref q16, .ref q17, .ref q18, .ref q19, .ref q20, .ref q21, .ref q22, .int 0, .int 0, .int 0, .int 0, .int (-1), .int 0, .ref q23, .ref q24, .ref q25, .ref q26, .ref q27, .ref q28, .ref q29, .ref q30, .null, .null, .int 0, .int 0, .int 0, .int 0, .int 0, .null, .null, .int 0, .int 0, .int 0, .int 0, .int 0, .int 0, .int 0, .int 0, .int 0, .null] pk_X8_111 rfl rfl (Nat.le_of_ble_eq_true rfl) dX8_init_539 rfl ?_
  refine kw_aload dX8_init_542 ?_
  refine kw_bipush (v := 30) dX8_init_543 (by decide) ?_
  refine kw_newa1 (t := 0) (N := 30) (a0 := (30, .inl (fun _ => 0))) ar_0 rfl (by decide) (fun _ => rfl) (by decide) (by decide) (by decide) (by decide) (by decide) dX8_init_545 (fun q31 => ?_)
  refine kw_put1 [.int 0, .int 0, .int 0, .int 0, .int 1, .int (-1), .int (-1), .int 0, .int 0, .ref q1, .ref q2, .ref q3, .ref q4, .ref q5, .ref q6, .ref q7, .ref q8, .ref q9, .ref q10, .ref q11, .ref q12, .ref q13, .ref q14, .ref q15, .ref q16, .ref q17, .ref q18, .ref q19, .ref q20, .ref q21, .ref q22, .int 0, .int 0, .int 0, .int 0, .int (-1), .int 0, .ref q23, .ref q24, .ref q25, .ref q26, .ref q27, .ref q28, .ref q29, .ref q30, .ref q31, .null, .int 0, .int 0, .int 0, .int 0, .int 0, .null, .null, .int 0, .int 0, .int 0, .int 0, .int 0, .int 0, .int 0, .int 0, .int 0, .null] pk_X8_114 rfl rfl (Nat.le_of_ble_eq_true rfl) dX8_init_547 rfl ?_
  refine kw_aload dX8_init_550 ?_
  refine kw_sipush (v := 200) dX8_init_551 (by decide) ?_
  refine kw_newa1 (t := 0) (N := 200) (a0 := (200, .inl (fun _ => 0))) ar_0 rfl (by decide) (fun _ => rfl) (by decide) (by decide) (by decide) (by decide) (by decide) dX8_init_554 (fun q32 => ?_)
  refine kw_put1 [.int 0, .int 0, .int 0, .int 0, .int 1, .int (-1), .int (-1), .int 0, .int 0, .ref q1, .ref q2, .ref q3, .ref q4, .ref q5, .ref q6, .ref q7, .ref q8, .ref q9, .ref q10, .ref q11, .ref q12, .ref q13, .ref q14, .ref q15, .ref q16, .ref q17, .ref q18, .ref q19, .ref q20, .ref q21, .ref q22, .int 0, .int 0, .int 0, .int 0, .int (-1), .int 0, .ref q23, .ref q24, .ref q25, .ref q26, .ref q27, .ref q28, .ref q29, .ref q30, .ref q31, .ref q32, .int 0, .int 0, .int 0, .int 0, .int 0, .null, .null, .int 0, .int 0, .int 0, .int 0, .int 0, .int 0, .int 0, .int 0, .int 0, .null] pk_X8_117 rfl rfl (Nat.le_of_ble_eq_true rfl) dX8_init_556 rfl ?_
  refine kw_aload dX8_init_559 ?_
  refine kw_sipush (v := 200) dX8_init_560 (by decide) ?_
  refine kw_newa1 (t := 0) (N := 200) (a0 := (200, .inl (fun _ => 0))) ar_0 rfl (by decide) (fun _ => rfl) (by decide) (by decide) (by decide) (by decide) (by decide) dX8_init_563 (fun q33 => ?_)
  refine kw_put1 [.int 0, .int 0, .int 0, .int 0, .int 1, .int (-1), .int (-1), .int 0, .int 0, .ref q1, .ref q2, .ref q3, .ref q4, .ref q5, .ref q6, .ref q7, .ref q8, .ref q9, .ref q10, .ref q11, .ref q12, .ref q13, .ref q14, .ref q15, .ref q16, .ref q17, .ref q18, .ref q19, .ref q20, .ref q21, .ref q22, .int 0, .int 0, .int 0, .int 0, .int (-1), .int 0, .ref q23, .ref q24, .ref q25, .ref q26, .ref q27, .ref q28, .ref q29, .ref q30, .ref q31, .ref q32, .int 0, .int 0, .int 0, .int 0, .int 0, .ref q33, .null, .int 0, .int 0, .int 0, .int 0, .int 0, .int 0, .int 0, .int 0, .int 0, .null] pk_X8_120 rfl rfl (Nat.le_of_ble_eq_true rfl) dX8_init_565 rfl ?_
  refine kw_aload dX8_init_568 ?_
  refine kw_bipush (v := 20) dX8_init_569 (by decide) ?_
  refine kw_newa1 (t := 0) (N := 20) (a0 := (20, .inl (fun _ => 0))) ar_0 rfl (by decide) (fun _ => rfl) (by decide) (by decide) (by decide) (by decide) (by decide) dX8_init_571 (fun q34 => ?_)
  refine kw_put1 [.int 0, .int 0, .int 0, .int 0, .int 1, .int (-1), .int (-1), .int 0, .int 0, .ref q1, .ref q2, .ref q3, .ref q4, .ref q5, .ref q6, .ref q7, .ref q8, .ref q9, .ref q10, .ref q11, .ref q12, .ref q13, .ref q14, .ref q15, .ref q16, .ref q17, .ref q18, .ref q19, .ref q20, .ref q21, .ref q22, .int 0, .int 0, .int 0, .int 0, .int (-1), .int 0, .ref q23, .ref q24, .ref q25, .ref q26, .ref q27, .ref q28, .ref q29, .ref q30, .ref q31, .ref q32, .int 0, .int 0, .int 0, .int 0, .int 0, .ref q33, .ref q34, .int 0, .int 0, .int 0, .int 0, .int 0, .int 0, .int 0, .int 0, .int 0, .null] pk_X8_123 rfl rfl (Nat.le_of_ble_eq_true rfl) dX8_init_573 rfl ?_
  refine kw_aload dX8_init_576 ?_
  refine kw_iconst (v := (-1)) dX8_init_577 (by decide) ?_
  refine kw_put1 [.int 0, .int 0, .int 0, .int 0, .int 1, .int (-1), .int (-1), .int 0, .int 0, .ref q1, .ref q2, .ref q3, .ref q4, .ref q5, .ref q6, .ref q7, .ref q8, .ref q9, .ref q10, .ref q11, .ref q12, .ref q13, .ref q14, .ref q15, .ref q16, .ref q17, .ref q18, .ref q19, .ref q20, .ref q21, .ref q22, .int 0, .int 0, .int 0, .int 0, .int (-1), .int 0, .ref q23, .ref q24, .ref q25, .ref q26, .ref q27, .ref q28, .ref q29, .ref q30, .ref q31, .ref q32, .int 0, .int 0, .int 0, .int 0, .int 0, .ref q33, .ref q34, .int 0, .int (-1), .int 0, .int 0, .int 0, .int 0, .int 0, .int 0, .int 0, .null] pk_X8_126 rfl rfl (Nat.le_of_ble_eq_true rfl) dX8_init_578 rfl ?_
  refine kw_aload dX8_init_581 ?_
  refine kw_sipush (v := 360) dX8_init_582 (by decide) ?_
  refine kw_newa1 (t := 0) (N := 360) (a0 := (360, .inl (fun _ => 0))) ar_0 rfl (by decide) (fun _ => rfl) (by decide) (by decide) (by decide) (by decide) (by decide) dX8_init_585 (fun q35 => ?_)
  refine kw_put1 [.int 0, .int 0, .int 0, .int 0, .int 1, .int (-1), .int (-1), .int 0, .int 0, .ref q1, .ref q2, .ref q3, .ref q4, .ref q5, .ref q6, .ref q7, .ref q8, .ref q9, .ref q10, .ref q11, .ref q12, .ref q13, .ref q14, .ref q15, .ref q16, .ref q17, .ref q18, .ref q19, .ref q20, .ref q21, .ref q22, .int 0, .int 0, .int 0, .int 0, .int (-1), .int 0, .ref q23, .ref q24, .ref q25, .ref q26, .ref q27, .ref q28, .ref q29, .ref q30, .ref q31, .ref q32, .int 0, .int 0, .int 0, .int 0, .int 0, .ref q33, .ref q34, .int 0, .int (-1), .int 0, .int 0, .int 0, .int 0, .int 0, .int 0, .int 0, .ref q35] pk_X8_129 rfl rfl (Nat.le_of_ble_eq_true rfl) dX8_init_587 rfl ?_
  exact kw_ret ⟨fun k => [h0, q1, q2, q3, q4, q5, q6, q7, q8, q9, q10, q11, q12, q13, q14, q15, q16, q17, q18, q19, q20, q21, q22, q23, q24, q25, q26, q27, q28, q29, q30, q31, q32, q33, q34, q35].getD k 0, rfl, piece_eq (by simp [pieceS, shK8, ceS, cfS, cf, ca_arr, MK8, mK8])⟩ (by decide) (by decide) dX8_init_590
