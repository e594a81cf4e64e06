/-- the static world: what stands at each place -/
def shp : List ((Nat × List (Option Nat)) ⊕ (Nat × Nat × Nat)) := [.inl (7, [some 2, some 14, some 78, some 96, some 44, some 61, some 100, some 103, some 1, none, some 29, some 87, some 98, none]),
  .inr (0, 7, 0),
  .inl (6, [some 3, some 4, some 5]),
  .inr (0, 8, 0),
  .inr (0, 8, 0),
  .inr (4, 8, 6),
  .inr (2, 100, 0),
  .inr (2, 100, 0),
  .inr (2, 100, 0),
  .inr (2, 100, 0),
  .inr (2, 100, 0),
  .inr (2, 100, 0),
  .inr (2, 100, 0),
  .inr (2, 100, 0),
  .inl (1, [some 15, some 16, some 17, some 18, some 19, some 20, some 21, some 22, some 23, some 24, some 25, none, none, none, none, none, some 26, some 27, some 28]),
  .inr (3, 10, 16),
  .inr (0, 30, 0),
  .inr (0, 30, 0),
  .inr (0, 30, 0),
  .inr (0, 30, 0),
  .inr (0, 30, 0),
  .inr (0, 30, 0),
  .inr (0, 30, 0),
  .inr (0, 30, 0),
  .inr (0, 30, 0),
  .inr (0, 30, 0),
  .inr (0, 30, 0),
  .inr (0, 30, 0),
  .inr (1, 30, 0),
  .inl (1, [some 30, some 31, some 32, some 33, some 34, some 35, some 36, some 37, some 38, some 39, some 40, none, none, none, none, none, some 41, some 42, some 43]),
  .inr (3, 10, 31),
  .inr (0, 30, 0),
  .inr (0, 30, 0),
  .inr (0, 30, 0),
  .inr (0, 30, 0),
  .inr (0, 30, 0),
  .inr (0, 30, 0),
  .inr (0, 30, 0),
  .inr (0, 30, 0),
  .inr (0, 30, 0),
  .inr (0, 30, 0),
  .inr (0, 30, 0),
  .inr (0, 30, 0),
  .inr (1, 30, 0),
  .inl (2, [some 46, some 45, none, none]),
  .inr (0, 200, 0),
  .inl (1, [some 47, some 48, some 49, some 50, some 51, some 52, some 53, some 54, some 55, some 56, some 57, none, none, none, none, none, some 58, some 59, some 60]),
  .inr (3, 10, 48),
  .inr (0, 30, 0),
  .inr (0, 30, 0),
  .inr (0, 30, 0),
  .inr (0, 30, 0),
  .inr (0, 30, 0),
  .inr (0, 30, 0),
  .inr (0, 30, 0),
  .inr (0, 30, 0),
  .inr (0, 30, 0),
  .inr (0, 30, 0),
  .inr (0, 30, 0),
  .inr (0, 30, 0),
  .inr (1, 30, 0),
  .inl (2, [some 63, some 62, none, none]),
  .inr (0, 200, 0),
  .inl (1, [some 64, some 65, some 66, some 67, some 68, some 69, some 70, some 71, some 72, some 73, some 74, none, none, none, none, none, some 75, some 76, some 77]),
  .inr (3, 10, 65),
  .inr (0, 30, 0),
  .inr (0, 30, 0),
  .inr (0, 30, 0),
  .inr (0, 30, 0),
  .inr (0, 30, 0),
  .inr (0, 30, 0),
  .inr (0, 30, 0),
  .inr (0, 30, 0),
  .inr (0, 30, 0),
  .inr (0, 30, 0),
  .inr (0, 30, 0),
  .inr (0, 30, 0),
  .inr (1, 30, 0),
  .inl (3, [some 79, none, none]),
  .inr (3, 7, 80),
  .inr (0, 7, 0),
  .inr (0, 7, 0),
  .inr (0, 7, 0),
  .inr (0, 7, 0),
  .inr (0, 7, 0),
  .inr (0, 7, 0),
  .inr (0, 7, 0),
  .inl (3, [some 88, none, none]),
  .inr (3, 7, 89),
  .inr (0, 7, 0),
  .inr (0, 7, 0),
  .inr (0, 7, 0),
  .inr (0, 7, 0),
  .inr (0, 7, 0),
  .inr (0, 7, 0),
  .inr (0, 7, 0),
  .inl (5, [some 97, none]),
  .inr (0, 8, 0),
  .inl (5, [some 99, none]),
  .inr (0, 8, 0),
  .inl (4, [some 101, some 102, none, none]),
  .inr (0, 7, 0),
  .inr (0, 100, 0),
  .inl (0, [some 104, none, none, none, none]),
  .inr (0, 20, 0),
  .inl (8, [none, none, none, none, none, none, none, none, none, some 106, some 107, some 108, some 109, some 110, some 111, some 112, some 113, some 114, some 115, some 116, some 117, some 118, some 119, some 120, some 121, some 122, some 123, some 124, some 125, some 126, some 127, none, none, none, none, none, none, some 128, some 129, some 130, some 131, some 132, some 133, some 134, some 135, some 136, some 137, none, none, none, none, none, some 138, some 139, none, none, none, none, none, none, none, none, none, some 140]),
  .inr (0, 8, 0),
  .inr (0, 30, 0),
  .inr (0, 30, 0),
  .inr (0, 30, 0),
  .inr (0, 30, 0),
  .inr (0, 30, 0),
  .inr (0, 30, 0),
  .inr (0, 30, 0),
  .inr (0, 30, 0),
  .inr (0, 30, 0),
  .inr (0, 30, 0),
  .inr (0, 8, 0),
  .inr (0, 7, 0),
  .inr (0, 42, 0),
  .inr (0, 8, 0),
  .inr (0, 8, 0),
  .inr (0, 8, 0),
  .inr (0, 8, 0),
  .inr (2, 800, 0),
  .inr (2, 100, 0),
  .inr (0, 43, 0),
  .inr (0, 7, 0),
  .inr (0, 30, 0),
  .inr (0, 30, 0),
  .inr (0, 30, 0),
  .inr (0, 30, 0),
  .inr (0, 48, 0),
  .inr (0, 30, 0),
  .inr (0, 30, 0),
  .inr (0, 30, 0),
  .inr (0, 30, 0),
  .inr (0, 200, 0),
  .inr (0, 200, 0),
  .inr (0, 20, 0),
  .inr (0, 360, 0)]
theorem sh_0 : shp[0]? = some (.inl (7, [some 2, some 14, some 78, some 96, some 44, some 61, some 100, some 103, some 1, none, some 29, some 87, some 98, none])) := rfl
theorem sh_1 : shp[1]? = some (.inr (0, 7, 0)) := rfl
theorem sh_2 : shp[2]? = some (.inl (6, [some 3, some 4, some 5])) := rfl
theorem sh_3 : shp[3]? = some (.inr (0, 8, 0)) := rfl
theorem sh_4 : shp[4]? = some (.inr (0, 8, 0)) := rfl
theorem sh_5 : shp[5]? = some (.inr (4, 8, 6)) := rfl
theorem sh_6 : shp[6]? = some (.inr (2, 100, 0)) := rfl
theorem sh_7 : shp[7]? = some (.inr (2, 100, 0)) := rfl
theorem sh_8 : shp[8]? = some (.inr (2, 100, 0)) := rfl
theorem sh_9 : shp[9]? = some (.inr (2, 100, 0)) := rfl
theorem sh_10 : shp[10]? = some (.inr (2, 100, 0)) := rfl
theorem sh_11 : shp[11]? = some (.inr (2, 100, 0)) := rfl
theorem sh_12 : shp[12]? = some (.inr (2, 100, 0)) := rfl
theorem sh_13 : shp[13]? = some (.inr (2, 100, 0)) := rfl
theorem sh_14 : shp[14]? = some (.inl (1, [some 15, some 16, some 17, some 18, some 19, some 20, some 21, some 22, some 23, some 24, some 25, none, none, none, none, none, some 26, some 27, some 28])) := rfl
theorem sh_15 : shp[15]? = some (.inr (3, 10, 16)) := rfl
theorem sh_16 : shp[16]? = some (.inr (0, 30, 0)) := rfl
theorem sh_17 : shp[17]? = some (.inr (0, 30, 0)) := rfl
theorem sh_18 : shp[18]? = some (.inr (0, 30, 0)) := rfl
theorem sh_19 : shp[19]? = some (.inr (0, 30, 0)) := rfl
theorem sh_20 : shp[20]? = some (.inr (0, 30, 0)) := rfl
theorem sh_21 : shp[21]? = some (.inr (0, 30, 0)) := rfl
theorem sh_22 : shp[22]? = some (.inr (0, 30, 0)) := rfl
theorem sh_23 : shp[23]? = some (.inr (0, 30, 0)) := rfl
theorem sh_24 : shp[24]? = some (.inr (0, 30, 0)) := rfl
theorem sh_25 : shp[25]? = some (.inr (0, 30, 0)) := rfl
theorem sh_26 : shp[26]? = some (.inr (0, 30, 0)) := rfl
theorem sh_27 : shp[27]? = some (.inr (0, 30, 0)) := rfl
theorem sh_28 : shp[28]? = some (.inr (1, 30, 0)) := rfl
theorem sh_29 : shp[29]? = some (.inl (1, [some 30, some 31, some 32, some 33, some 34, some 35, some 36, some 37, some 38, some 39, some 40, none, none, none, none, none, some 41, some 42, some 43])) := rfl
theorem sh_30 : shp[30]? = some (.inr (3, 10, 31)) := rfl
theorem sh_31 : shp[31]? = some (.inr (0, 30, 0)) := rfl
theorem sh_32 : shp[32]? = some (.inr (0, 30, 0)) := rfl
theorem sh_33 : shp[33]? = some (.inr (0, 30, 0)) := rfl
theorem sh_34 : shp[34]? = some (.inr (0, 30, 0)) := rfl
theorem sh_35 : shp[35]? = some (.inr (0, 30, 0)) := rfl
theorem sh_36 : shp[36]? = some (.inr (0, 30, 0)) := rfl
theorem sh_37 : shp[37]? = some (.inr (0, 30, 0)) := rfl
theorem sh_38 : shp[38]? = some (.inr (0, 30, 0)) := rfl
theorem sh_39 : shp[39]? = some (.inr (0, 30, 0)) := rfl
theorem sh_40 : shp[40]? = some (.inr (0, 30, 0)) := rfl
theorem sh_41 : shp[41]? = some (.inr (0, 30, 0)) := rfl
theorem sh_42 : shp[42]? = some (.inr (0, 30, 0)) := rfl
theorem sh_43 : shp[43]? = some (.inr (1, 30, 0)) := rfl
theorem sh_44 : shp[44]? = some (.inl (2, [some 46, some 45, none, none])) := rfl
theorem sh_45 : shp[45]? = some (.inr (0, 200, 0)) := rfl
theorem sh_46 : shp[46]? = some (.inl (1, [some 47, some 48, some 49, some 50, some 51, some 52, some 53, some 54, some 55, some 56, some 57, none, none, none, none, none, some 58, some 59, some 60])) := rfl
theorem sh_47 : shp[47]? = some (.inr (3, 10, 48)) := rfl
theorem sh_48 : shp[48]? = some (.inr (0, 30, 0)) := rfl
theorem sh_49 : shp[49]? = some (.inr (0, 30, 0)) := rfl
theorem sh_50 : shp[50]? = some (.inr (0, 30, 0)) := rfl
theorem sh_51 : shp[51]? = some (.inr (0, 30, 0)) := rfl
theorem sh_52 : shp[52]? = some (.inr (0, 30, 0)) := rfl
theorem sh_53 : shp[53]? = some (.inr (0, 30, 0)) := rfl
theorem sh_54 : shp[54]? = some (.inr (0, 30, 0)) := rfl
theorem sh_55 : shp[55]? = some (.inr (0, 30, 0)) := rfl
theorem sh_56 : shp[56]? = some (.inr (0, 30, 0)) := rfl
theorem sh_57 : shp[57]? = some (.inr (0, 30, 0)) := rfl
theorem sh_58 : shp[58]? = some (.inr (0, 30, 0)) := rfl
theorem sh_59 : shp[59]? = some (.inr (0, 30, 0)) := rfl
theorem sh_60 : shp[60]? = some (.inr (1, 30, 0)) := rfl
theorem sh_61 : shp[61]? = some (.inl (2, [some 63, some 62, none, none])) := rfl
theorem sh_62 : shp[62]? = some (.inr (0, 200, 0)) := rfl
theorem sh_63 : shp[63]? = some (.inl (1, [some 64, some 65, some 66, some 67, some 68, some 69, some 70, some 71, some 72, some 73, some 74, none, none, none, none, none, some 75, some 76, some 77])) := rfl
theorem sh_64 : shp[64]? = some (.inr (3, 10, 65)) := rfl
theorem sh_65 : shp[65]? = some (.inr (0, 30, 0)) := rfl
theorem sh_66 : shp[66]? = some (.inr (0, 30, 0)) := rfl
theorem sh_67 : shp[67]? = some (.inr (0, 30, 0)) := rfl
theorem sh_68 : shp[68]? = some (.inr (0, 30, 0)) := rfl
theorem sh_69 : shp[69]? = some (.inr (0, 30, 0)) := rfl
theorem sh_70 : shp[70]? = some (.inr (0, 30, 0)) := rfl
theorem sh_71 : shp[71]? = some (.inr (0, 30, 0)) := rfl
theorem sh_72 : shp[72]? = some (.inr (0, 30, 0)) := rfl
theorem sh_73 : shp[73]? = some (.inr (0, 30, 0)) := rfl
theorem sh_74 : shp[74]? = some (.inr (0, 30, 0)) := rfl
theorem sh_75 : shp[75]? = some (.inr (0, 30, 0)) := rfl
theorem sh_76 : shp[76]? = some (.inr (0, 30, 0)) := rfl
theorem sh_77 : shp[77]? = some (.inr (1, 30, 0)) := rfl
theorem sh_78 : shp[78]? = some (.inl (3, [some 79, none, none])) := rfl
theorem sh_79 : shp[79]? = some (.inr (3, 7, 80)) := rfl
theorem sh_80 : shp[80]? = some (.inr (0, 7, 0)) := rfl
theorem sh_81 : shp[81]? = some (.inr (0, 7, 0)) := rfl
theorem sh_82 : shp[82]? = some (.inr (0, 7, 0)) := rfl
theorem sh_83 : shp[83]? = some (.inr (0, 7, 0)) := rfl
theorem sh_84 : shp[84]? = some (.inr (0, 7, 0)) := rfl
theorem sh_85 : shp[85]? = some (.inr (0, 7, 0)) := rfl
theorem sh_86 : shp[86]? = some (.inr (0, 7, 0)) := rfl
theorem sh_87 : shp[87]? = some (.inl (3, [some 88, none, none])) := rfl
theorem sh_88 : shp[88]? = some (.inr (3, 7, 89)) := rfl
theorem sh_89 : shp[89]? = some (.inr (0, 7, 0)) := rfl
theorem sh_90 : shp[90]? = some (.inr (0, 7, 0)) := rfl
theorem sh_91 : shp[91]? = some (.inr (0, 7, 0)) := rfl
theorem sh_92 : shp[92]? = some (.inr (0, 7, 0)) := rfl
theorem sh_93 : shp[93]? = some (.inr (0, 7, 0)) := rfl
theorem sh_94 : shp[94]? = some (.inr (0, 7, 0)) := rfl
theorem sh_95 : shp[95]? = some (.inr (0, 7, 0)) := rfl
theorem sh_96 : shp[96]? = some (.inl (5, [some 97, none])) := rfl
theorem sh_97 : shp[97]? = some (.inr (0, 8, 0)) := rfl
theorem sh_98 : shp[98]? = some (.inl (5, [some 99, none])) := rfl
theorem sh_99 : shp[99]? = some (.inr (0, 8, 0)) := rfl
theorem sh_100 : shp[100]? = some (.inl (4, [some 101, some 102, none, none])) := rfl
theorem sh_101 : shp[101]? = some (.inr (0, 7, 0)) := rfl
theorem sh_102 : shp[102]? = some (.inr (0, 100, 0)) := rfl
theorem sh_103 : shp[103]? = some (.inl (0, [some 104, none, none, none, none])) := rfl
theorem sh_104 : shp[104]? = some (.inr (0, 20, 0)) := rfl
theorem sh_105 : shp[105]? = some (.inl (8, [none, none, none, none, none, none, none, none, none, some 106, some 107, some 108, some 109, some 110, some 111, some 112, some 113, some 114, some 115, some 116, some 117, some 118, some 119, some 120, some 121, some 122, some 123, some 124, some 125, some 126, some 127, none, none, none, none, none, none, some 128, some 129, some 130, some 131, some 132, some 133, some 134, some 135, some 136, some 137, none, none, none, none, none, some 138, some 139, none, none, none, none, none, none, none, none, none, some 140])) := rfl
theorem sh_106 : shp[106]? = some (.inr (0, 8, 0)) := rfl
theorem sh_107 : shp[107]? = some (.inr (0, 30, 0)) := rfl
theorem sh_108 : shp[108]? = some (.inr (0, 30, 0)) := rfl
theorem sh_109 : shp[109]? = some (.inr (0, 30, 0)) := rfl
theorem sh_110 : shp[110]? = some (.inr (0, 30, 0)) := rfl
theorem sh_111 : shp[111]? = some (.inr (0, 30, 0)) := rfl
theorem sh_112 : shp[112]? = some (.inr (0, 30, 0)) := rfl
theorem sh_113 : shp[113]? = some (.inr (0, 30, 0)) := rfl
theorem sh_114 : shp[114]? = some (.inr (0, 30, 0)) := rfl
theorem sh_115 : shp[115]? = some (.inr (0, 30, 0)) := rfl
theorem sh_116 : shp[116]? = some (.inr (0, 30, 0)) := rfl
theorem sh_117 : shp[117]? = some (.inr (0, 8, 0)) := rfl
theorem sh_118 : shp[118]? = some (.inr (0, 7, 0)) := rfl
theorem sh_119 : shp[119]? = some (.inr (0, 42, 0)) := rfl
theorem sh_120 : shp[120]? = some (.inr (0, 8, 0)) := rfl
theorem sh_121 : shp[121]? = some (.inr (0, 8, 0)) := rfl
theorem sh_122 : shp[122]? = some (.inr (0, 8, 0)) := rfl
theorem sh_123 : shp[123]? = some (.inr (0, 8, 0)) := rfl
theorem sh_124 : shp[124]? = some (.inr (2, 800, 0)) := rfl
theorem sh_125 : shp[125]? = some (.inr (2, 100, 0)) := rfl
theorem sh_126 : shp[126]? = some (.inr (0, 43, 0)) := rfl
theorem sh_127 : shp[127]? = some (.inr (0, 7, 0)) := rfl
theorem sh_128 : shp[128]? = some (.inr (0, 30, 0)) := rfl
theorem sh_129 : shp[129]? = some (.inr (0, 30, 0)) := rfl
theorem sh_130 : shp[130]? = some (.inr (0, 30, 0)) := rfl
theorem sh_131 : shp[131]? = some (.inr (0, 30, 0)) := rfl
theorem sh_132 : shp[132]? = some (.inr (0, 48, 0)) := rfl
theorem sh_133 : shp[133]? = some (.inr (0, 30, 0)) := rfl
theorem sh_134 : shp[134]? = some (.inr (0, 30, 0)) := rfl
theorem sh_135 : shp[135]? = some (.inr (0, 30, 0)) := rfl
theorem sh_136 : shp[136]? = some (.inr (0, 30, 0)) := rfl
theorem sh_137 : shp[137]? = some (.inr (0, 200, 0)) := rfl
theorem sh_138 : shp[138]? = some (.inr (0, 200, 0)) := rfl
theorem sh_139 : shp[139]? = some (.inr (0, 20, 0)) := rfl
theorem sh_140 : shp[140]? = some (.inr (0, 360, 0)) := rfl
def isC (c : Nat) : Prop := c = 14 ∨ c = 29 ∨ c = 46 ∨ c = 63
def isE (c : Nat) : Prop := c = 44 ∨ c = 61
def isB (c : Nat) : Prop := c = 78 ∨ c = 87
def isU (c : Nat) : Prop := c = 96 ∨ c = 98
theorem isE.c {c : Nat} (h : isE c) : isC (c + 2) := by rcases h with rfl | rfl <;> simp [isC]
def fsC (c : Nat) : List (Option Nat) := [some (c + 1), some (c + 2), some (c + 3), some (c + 4), some (c + 5), some (c + 6), some (c + 7), some (c + 8), some (c + 9), some (c + 10), some (c + 11), none, none, none, none, none, some (c + 12), some (c + 13), some (c + 14)]
theorem shC {c : Nat} (h : isC c) : shp[c]? = some (.inl (1, fsC c)) := by rcases h with rfl | rfl | rfl | rfl <;> rfl
theorem shC_1 {c : Nat} (h : isC c) : shp[c + 1]? = some (.inr (3, 10, c + 2)) := by rcases h with rfl | rfl | rfl | rfl <;> rfl
theorem shC_2 {c : Nat} (h : isC c) : shp[c + 2]? = some (.inr (0, 30, 0)) := by rcases h with rfl | rfl | rfl | rfl <;> rfl
theorem shC_3 {c : Nat} (h : isC c) : shp[c + 3]? = some (.inr (0, 30, 0)) := by rcases h with rfl | rfl | rfl | rfl <;> rfl
theorem shC_4 {c : Nat} (h : isC c) : shp[c + 4]? = some (.inr (0, 30, 0)) := by rcases h with rfl | rfl | rfl | rfl <;> rfl
theorem shC_5 {c : Nat} (h : isC c) : shp[c + 5]? = some (.inr (0, 30, 0)) := by rcases h with rfl | rfl | rfl | rfl <;> rfl
theorem shC_6 {c : Nat} (h : isC c) : shp[c + 6]? = some (.inr (0, 30, 0)) := by rcases h with rfl | rfl | rfl | rfl <;> rfl
theorem shC_7 {c : Nat} (h : isC c) : shp[c + 7]? = some (.inr (0, 30, 0)) := by rcases h with rfl | rfl | rfl | rfl <;> rfl
theorem shC_8 {c : Nat} (h : isC c) : shp[c + 8]? = some (.inr (0, 30, 0)) := by rcases h with rfl | rfl | rfl | rfl <;> rfl
theorem shC_9 {c : Nat} (h : isC c) : shp[c + 9]? = some (.inr (0, 30, 0)) := by rcases h with rfl | rfl | rfl | rfl <;> rfl
theorem shC_10 {c : Nat} (h : isC c) : shp[c + 10]? = some (.inr (0, 30, 0)) := by rcases h with rfl | rfl | rfl | rfl <;> rfl
theorem shC_11 {c : Nat} (h : isC c) : shp[c + 11]? = some (.inr (0, 30, 0)) := by rcases h with rfl | rfl | rfl | rfl <;> rfl
theorem shC_12 {c : Nat} (h : isC c) : shp[c + 12]? = some (.inr (0, 30, 0)) := by rcases h with rfl | rfl | rfl | rfl <;> rfl
theorem shC_13 {c : Nat} (h : isC c) : shp[c + 13]? = some (.inr (0, 30, 0)) := by rcases h with rfl | rfl | rfl | rfl <;> rfl
theorem shC_14 {c : Nat} (h : isC c) : shp[c + 14]? = some (.inr (1, 30, 0)) := by rcases h with rfl | rfl | rfl | rfl <;> rfl
theorem shC_r {c : Nat} (h : isC c) : ∀ j, j < 10 → shp[c + 2 + j]? = some (.inr (0, 30, 0)) := fun j hj => match j, hj with
  | 0, _ => shC_2 h
  | 1, _ => shC_3 h
  | 2, _ => shC_4 h
  | 3, _ => shC_5 h
  | 4, _ => shC_6 h
  | 5, _ => shC_7 h
  | 6, _ => shC_8 h
  | 7, _ => shC_9 h
  | 8, _ => shC_10 h
  | 9, _ => shC_11 h
theorem shE {c : Nat} (h : isE c) : shp[c]? = some (.inl (2, [some (c + 2), some (c + 1), none, none])) := by rcases h with rfl | rfl <;> rfl
theorem shE_1 {c : Nat} (h : isE c) : shp[c + 1]? = some (.inr (0, 200, 0)) := by rcases h with rfl | rfl <;> rfl
theorem shB {c : Nat} (h : isB c) : shp[c]? = some (.inl (3, [some (c + 1), none, none])) := by rcases h with rfl | rfl <;> rfl
theorem shB_1 {c : Nat} (h : isB c) : shp[c + 1]? = some (.inr (3, 7, c + 2)) := by rcases h with rfl | rfl <;> rfl
theorem shB_r {c : Nat} (h : isB c) : ∀ j, j < 7 → shp[c + 2 + j]? = some (.inr (0, 7, 0)) := fun j hj => match j, hj with
  | 0, _ => by rcases h with rfl | rfl <;> rfl
  | 1, _ => by rcases h with rfl | rfl <;> rfl
  | 2, _ => by rcases h with rfl | rfl <;> rfl
  | 3, _ => by rcases h with rfl | rfl <;> rfl
  | 4, _ => by rcases h with rfl | rfl <;> rfl
  | 5, _ => by rcases h with rfl | rfl <;> rfl
  | 6, _ => by rcases h with rfl | rfl <;> rfl
theorem shU {c : Nat} (h : isU c) : shp[c]? = some (.inl (5, [some (c + 1), none])) := by rcases h with rfl | rfl <;> rfl
theorem shU_1 {c : Nat} (h : isU c) : shp[c + 1]? = some (.inr (0, 8, 0)) := by rcases h with rfl | rfl <;> rfl
