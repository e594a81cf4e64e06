/-- the same laws -/
def sL8 (M X : Mm) : Prop := X.1 118 = M.1 118 ∧ X.1 119 = M.1 119 ∧ X.1 105 35 = M.1 105 35
theorem rul_s {M X : Mm} (h : sL8 M X) (i : Nat) : rulI X i = rulI M i := by
  unfold rulI
  rw [h.1, h.2.1, h.2.2]
theorem by_s {M X : Mm} (h : sL8 M X) (hb : byOK M) : byOK X := by
  unfold byOK
  rw [h.2.2]
  exact hb
theorem m_X8_ruleX {l : Launch} {M X : Mm} {i : Nat} (h : sL8 M X) (hb : byOK M) (hi : i < 7) : AMet l 1 yX8_rule cX8_rule 2 (some FieldType.int) [.ref 105, .int (nI i)] X (QE (some (.int (rulI M i))) X) := by
  rw [← rul_s h i]
  exact m_X8_rule (by_s h hb) hi
theorem sL8_rf {M : Mm} : sL8 M M := ⟨rfl, rfl, rfl⟩
/-- a draw of the model, if there is one -/
noncomputable def dr8 (M : Mm) (P : Prop) : Mm := pIf P (mI M 105 4 (nxtS (M.1 105 4))) M
theorem dr8_o {k : Nat} {M : Mm} {P : Prop} (h : k ≠ 105) : (dr8 M P).1 k = M.1 k := by
  unfold dr8
  by_cases p : P
  · rw [pIf_t p, mI_other h]
  · rw [pIf_f p]
theorem dr8_2 {M : Mm} {P : Prop} : (dr8 M P).2 = M.2 := by
  unfold dr8
  by_cases p : P
  · rw [pIf_t p]; rfl
  · rw [pIf_f p]
theorem dr8_j {j : Nat} {M : Mm} {P : Prop} (h : j ≠ 4) : (dr8 M P).1 105 j = M.1 105 j := by
  unfold dr8
  by_cases p : P
  · rw [pIf_t p, mI_self, upd_other h]
  · rw [pIf_f p]
theorem dr8_4 {M : Mm} {P : Prop} : (dr8 M P).1 105 4 = pIf P (nxtS (M.1 105 4)) (M.1 105 4) := by
  unfold dr8
  by_cases p : P
  · rw [pIf_t p, pIf_t p, mI_self, upd_self]
  · rw [pIf_f p, pIf_f p]
theorem sL8_d {M : Mm} {P : Prop} : sL8 M (dr8 M P) := ⟨dr8_o (by decide), dr8_o (by decide), dr8_j (by decide)⟩
theorem sL8_4 {M : Mm} {v : Int32} : sL8 M (mI M 105 4 v) := ⟨mI_other (by decide), mI_other (by decide), (congrFun (mI_self _ _ _ _) _).trans (upd_other (by decide))⟩
def wb8P (na : Prop) (kind now at9 loud close likes : Int32) (W : Nat → Int32) : Prop :=
  if kind = 1 then (na ∧ ¬ now < at9) else if kind = 2 ∨ kind = 4 then caughtP loud likes (W 0) else if kind = 3 then caughtP loud likes (W 0) ∨ (¬ close ≤ 0 ∧ ¬ close < W 1) else if kind = 5 then caughtP loud likes (W 0) ∧ ¬ likes < W 4 else if kind = 6 then (na ∧ ¬ now < at9) ∨ ¬ loud ≤ 0 else False
theorem wb8_1 {na : Prop} {w a o k l : Int32} {W : Nat → Int32} : wb8P na 1 w a o k l W = (na ∧ ¬ w < a) := by
  unfold wb8P
  rw [if_pos rfl]
theorem wb8_2 {na : Prop} {w a o k l : Int32} {W : Nat → Int32} : wb8P na 2 w a o k l W = caughtP o l (W 0) := by
  unfold wb8P
  rw [if_neg (by decide), if_pos (by decide)]
theorem wb8_4 {na : Prop} {w a o k l : Int32} {W : Nat → Int32} : wb8P na 4 w a o k l W = caughtP o l (W 0) := by
  unfold wb8P
  rw [if_neg (by decide), if_pos (by decide)]
theorem wb8_3 {na : Prop} {w a o k l : Int32} {W : Nat → Int32} : wb8P na 3 w a o k l W = (caughtP o l (W 0) ∨ (¬ k ≤ 0 ∧ ¬ k < W 1)) := by
  unfold wb8P
  rw [if_neg (by decide), if_neg (by decide), if_pos rfl]
theorem wb8_5 {na : Prop} {w a o k l : Int32} {W : Nat → Int32} : wb8P na 5 w a o k l W = (caughtP o l (W 0) ∧ ¬ l < W 4) := by
  unfold wb8P
  rw [if_neg (by decide), if_neg (by decide), if_neg (by decide), if_pos rfl]
theorem wb8_6 {na : Prop} {w a o k l : Int32} {W : Nat → Int32} : wb8P na 6 w a o k l W = ((na ∧ ¬ w < a) ∨ ¬ o ≤ 0) := by
  unfold wb8P
  rw [if_neg (by decide), if_neg (by decide), if_neg (by decide), if_neg (by decide), if_pos rfl]
theorem wb8_o {na : Prop} {x w a o k l : Int32} {W : Nat → Int32} (h : ¬ x = 1 ∧ ¬ x = 2 ∧ ¬ x = 3 ∧ ¬ x = 4 ∧ ¬ x = 5 ∧ ¬ x = 6) : wb8P na x w a o k l W = False := by
  unfold wb8P
  rw [if_neg h.1, if_neg (fun q => q.elim h.2.1 h.2.2.2.1), if_neg h.2.2.1, if_neg h.2.2.2.2.1, if_neg h.2.2.2.2.2]
theorem k7 {x : Int32} (h : ∃ k, k < 7 ∧ x = nI k) : x = 0 ∨ x = 1 ∨ x = 2 ∨ x = 3 ∨ x = 4 ∨ x = 5 ∨ x = 6 := by
  obtain ⟨k, hk, rfl⟩ := h
  have t : ∀ k, k < 7 → (nI k = 0 ∨ nI k = 1 ∨ nI k = 2 ∨ nI k = 3 ∨ nI k = 4 ∨ nI k = 5 ∨ nI k = 6) := by decide +kernel
  exact t k hk
theorem m_X8_begins {l : Launch} {M : Mm} {p : Nat} (hb : byOK M) (hp : p < 30) : AMet l 2 yX8_begins cX8_begins 5 (some FieldType.boolean) [.ref 105, .int (nI p)] M (QE (some (.int (b01 (wb8P (M.1 105 36 = 0) (M.1 107 p) (M.1 105 3) (M.1 111 p) (M.1 128 p) (M.1 129 p) (M.1 109 p) (rulI M))))) M) := by
  refine AMet.of (by decide) (by simp [aargs, Value.category]) ?_
  show AW l 2 yX8_begins cX8_begins 5 (some FieldType.boolean) 0 [some (.ref 105), some (.int (nI p)), none, none, none] [] M _
  have J36 : AW l 2 yX8_begins cX8_begins 5 (some FieldType.boolean) 36 [some (.ref 105), some (.int (nI p)), some (.int (M.1 128 p)), some (.int (b01 (caughtP (M.1 128 p) (M.1 109 p) (rulI M 0)))), none] [] M (QE (some (.int (b01 (wb8P (M.1 105 36 = 0) (M.1 107 p) (M.1 105 3) (M.1 111 p) (M.1 128 p) (M.1 129 p) (M.1 109 p) (rulI M))))) M) := by
    have J63 : AW l 2 yX8_begins cX8_begins 5 (some FieldType.boolean) 63 [some (.ref 105), some (.int (nI p)), some (.int (M.1 128 p)), some (.int (b01 (caughtP (M.1 128 p) (M.1 109 p) (rulI M 0)))), some (.int (b01 (M.1 105 36 = 0 ∧ ¬ M.1 105 3 < M.1 111 p)))] [] M (QE (some (.int (b01 (wb8P (M.1 105 36 = 0) (M.1 107 p) (M.1 105 3) (M.1 111 p) (M.1 128 p) (M.1 129 p) (M.1 109 p) (rulI M))))) M) := by
      refine aw_aload_n (i := 0) dX8_begins_63 rfl rfl ?_
      refine aw_getR gf_X8_23 sh_105 rfl dX8_begins_64 ?_
      refine aw_iload_n (i := 1) dX8_begins_67 rfl rfl ?_
      refine aw_ialdN sh_107 (by omega) (by omega) dX8_begins_68 ?_
      generalize hk9 : M.1 107 p = k9
      rcases sw16 k9 with rfl | rfl | rfl | rfl | rfl | rfl | hz9
      ·
        refine aw_tableIn (off := 39) (tgt := 108) dX8_begins_69 (by decide) (by decide) (by decide) (by decide) ?_
        refine aw_iload (i := 4) dX8_begins_108 rfl ?_
        exact aw_zret rfl b01_ok dX8_begins_110 ⟨congrArg (fun z => some (Value.int z)) (b01_c (by rw [wb8_1])), rfl⟩
      ·
        refine aw_tableIn (off := 42) (tgt := 111) dX8_begins_69 (by decide) (by decide) (by decide) (by decide) ?_
        refine aw_iload_n (i := 3) dX8_begins_111 rfl rfl ?_
        exact aw_zret rfl b01_ok dX8_begins_112 ⟨congrArg (fun z => some (Value.int z)) (b01_c (by first | (rw [wb8_2]; done) | rw [wb8_4])), rfl⟩
      ·
        refine aw_tableIn (off := 44) (tgt := 113) dX8_begins_69 (by decide) (by decide) (by decide) (by decide) ?_
        refine aw_iload_n (i := 3) dX8_begins_113 rfl rfl ?_
        refine aw_ifne_b (tgt := 140) dX8_begins_114 (by decide) (fun h114 => ?_) (fun h114 => ?_)
        ·
          refine aw_iconst (v := 1) dX8_begins_140 (by decide) ?_
          refine aw_goto (tgt := 145) dX8_begins_141 (by decide) ?_
          exact aw_zret rfl (by simp) dX8_begins_145 ⟨by rw [b01_t (by rw [wb8_3]; grind)], rfl⟩
        ·
          refine aw_aload_n (i := 0) dX8_begins_117 rfl rfl ?_
          refine aw_getR gf_X8_93 sh_105 rfl dX8_begins_118 ?_
          refine aw_iload_n (i := 1) dX8_begins_121 rfl rfl ?_
          refine aw_ialdN sh_129 (by omega) (by omega) dX8_begins_122 ?_
          refine aw_if_le (tgt := 144) dX8_begins_123 (by decide) (fun h123 => ?_) (fun h123 => ?_)
          ·
            refine aw_iconst (v := 0) dX8_begins_144 (by decide) ?_
            exact aw_zret rfl (by simp) dX8_begins_145 ⟨by rw [b01_f (by rw [wb8_3]; grind)], rfl⟩
          ·
            refine aw_aload_n (i := 0) dX8_begins_126 rfl rfl ?_
            refine aw_getR gf_X8_93 sh_105 rfl dX8_begins_127 ?_
            refine aw_iload_n (i := 1) dX8_begins_130 rfl rfl ?_
            refine aw_ialdN sh_129 (by omega) (by omega) dX8_begins_131 ?_
            refine aw_aload_n (i := 0) dX8_begins_132 rfl rfl ?_
            refine aw_iconst (v := 1) dX8_begins_133 (by decide) ?_
            refine aw_top (show (1 : Int32) = nI 1 from rfl) ?_
            refine aw_cVi ck_X8_216 (m_X8_rule (i := 1) hb (by decide)) sh_105 rfl (by decide) (by decide) rfl rfl (Nat.le_of_ble_eq_true rfl) dX8_begins_134 ?_
            refine aw_icmp_lt (tgt := 144) dX8_begins_137 (by decide) (fun h137 => ?_) (fun h137 => ?_)
            ·
              refine aw_iconst (v := 0) dX8_begins_144 (by decide) ?_
              exact aw_zret rfl (by simp) dX8_begins_145 ⟨by rw [b01_f (by rw [wb8_3]; grind)], rfl⟩
            ·
              refine aw_iconst (v := 1) dX8_begins_140 (by decide) ?_
              refine aw_goto (tgt := 145) dX8_begins_141 (by decide) ?_
              exact aw_zret rfl (by simp) dX8_begins_145 ⟨by rw [b01_t (by rw [wb8_3]; grind)], rfl⟩
      ·
        refine aw_tableIn (off := 42) (tgt := 111) dX8_begins_69 (by decide) (by decide) (by decide) (by decide) ?_
        refine aw_iload_n (i := 3) dX8_begins_111 rfl rfl ?_
        exact aw_zret rfl b01_ok dX8_begins_112 ⟨congrArg (fun z => some (Value.int z)) (b01_c (by first | (rw [wb8_2]; done) | rw [wb8_4])), rfl⟩
      ·
        refine aw_tableIn (off := 77) (tgt := 146) dX8_begins_69 (by decide) (by decide) (by decide) (by decide) ?_
        refine aw_iload_n (i := 3) dX8_begins_146 rfl rfl ?_
        refine aw_ifeq_b (tgt := 168) dX8_begins_147 (by decide) (fun h147 => ?_) (fun h147 => ?_)
        ·
          refine aw_iconst (v := 0) dX8_begins_168 (by decide) ?_
          exact aw_zret rfl (by simp) dX8_begins_169 ⟨by rw [b01_f (by rw [wb8_5]; grind)], rfl⟩
        ·
          refine aw_aload_n (i := 0) dX8_begins_150 rfl rfl ?_
          refine aw_getR gf_X8_29 sh_105 rfl dX8_begins_151 ?_
          refine aw_iload_n (i := 1) dX8_begins_154 rfl rfl ?_
          refine aw_ialdN sh_109 (by omega) (by omega) dX8_begins_155 ?_
          refine aw_aload_n (i := 0) dX8_begins_156 rfl rfl ?_
          refine aw_iconst (v := 4) dX8_begins_157 (by decide) ?_
          refine aw_top (show (4 : Int32) = nI 4 from rfl) ?_
          refine aw_cVi ck_X8_216 (m_X8_rule (i := 4) hb (by decide)) sh_105 rfl (by decide) (by decide) rfl rfl (Nat.le_of_ble_eq_true rfl) dX8_begins_158 ?_
          refine aw_icmp_lt (tgt := 168) dX8_begins_161 (by decide) (fun h161 => ?_) (fun h161 => ?_)
          ·
            refine aw_iconst (v := 0) dX8_begins_168 (by decide) ?_
            exact aw_zret rfl (by simp) dX8_begins_169 ⟨by rw [b01_f (by rw [wb8_5]; grind)], rfl⟩
          ·
            refine aw_iconst (v := 1) dX8_begins_164 (by decide) ?_
            refine aw_goto (tgt := 169) dX8_begins_165 (by decide) ?_
            exact aw_zret rfl (by simp) dX8_begins_169 ⟨by rw [b01_t (by rw [wb8_5]; grind)], rfl⟩
      ·
        refine aw_tableIn (off := 101) (tgt := 170) dX8_begins_69 (by decide) (by decide) (by decide) (by decide) ?_
        refine aw_iload (i := 4) dX8_begins_170 rfl ?_
        refine aw_ifne_b (tgt := 179) dX8_begins_172 (by decide) (fun h172 => ?_) (fun h172 => ?_)
        ·
          refine aw_iconst (v := 1) dX8_begins_179 (by decide) ?_
          refine aw_goto (tgt := 184) dX8_begins_180 (by decide) ?_
          exact aw_zret rfl (by simp) dX8_begins_184 ⟨by rw [b01_t (by rw [wb8_6]; grind)], rfl⟩
        ·
          refine aw_iload_n (i := 2) dX8_begins_175 rfl rfl ?_
          refine aw_tern_le (tgt := 183) (j := 184) (v := 1) (w := 0) dX8_begins_176 (by decide) dX8_begins_179 (by decide) dX8_begins_180 (by decide) dX8_begins_183 (by decide) rfl ?_
          refine aw_top t01a ?_
          exact aw_zret rfl b01_ok dX8_begins_184 ⟨congrArg (fun z => some (Value.int z)) (b01_c (by rw [wb8_6]; grind)), rfl⟩
      · have hn9 := no16 hz9
        refine aw_tableOut (tgt := 185) dX8_begins_69 hz9 (by decide) ?_
        refine aw_iconst (v := 0) dX8_begins_185 (by decide) ?_
        exact aw_zret rfl (by simp) dX8_begins_186 ⟨by rw [b01_f (by rw [wb8_o hn9]; exact id)], rfl⟩
    refine aw_aload_n (i := 0) dX8_begins_36 rfl rfl ?_
    refine aw_getI gf_X8_219 sh_105 rfl dX8_begins_37 ?_
    refine aw_if_ne (tgt := 60) dX8_begins_40 (by decide) (fun h40 => ?_) (fun h40 => ?_)
    ·
      refine aw_iconst (v := 0) dX8_begins_60 (by decide) ?_
      refine aw_istore (i := 4) dX8_begins_61 (by decide) ?_
      refine aw_loc (la := [some (.ref 105), some (.int (nI p)), some (.int (M.1 128 p)), some (.int (b01 (caughtP (M.1 128 p) (M.1 109 p) (rulI M 0)))), some (.int (b01 (M.1 105 36 = 0 ∧ ¬ M.1 105 3 < M.1 111 p)))]) ⟨rfl, rfl, rfl, rfl, (show some (Value.int 0) = some (Value.int (b01 (M.1 105 36 = 0 ∧ ¬ M.1 105 3 < M.1 111 p))) from by rw [b01_f (show ¬ (M.1 105 36 = 0 ∧ ¬ M.1 105 3 < M.1 111 p) from fun q => by first | exact h40 q.1 | exact q.2 h53)]), trivial⟩ J63
    ·
      refine aw_aload_n (i := 0) dX8_begins_43 rfl rfl ?_
      refine aw_getI gf_X8_223 sh_105 rfl dX8_begins_44 ?_
      refine aw_aload_n (i := 0) dX8_begins_47 rfl rfl ?_
      refine aw_getR gf_X8_35 sh_105 rfl dX8_begins_48 ?_
      refine aw_iload_n (i := 1) dX8_begins_51 rfl rfl ?_
      refine aw_ialdN sh_111 (by omega) (by omega) dX8_begins_52 ?_
      refine aw_icmp_lt (tgt := 60) dX8_begins_53 (by decide) (fun h53 => ?_) (fun h53 => ?_)
      ·
        refine aw_iconst (v := 0) dX8_begins_60 (by decide) ?_
        refine aw_istore (i := 4) dX8_begins_61 (by decide) ?_
        refine aw_loc (la := [some (.ref 105), some (.int (nI p)), some (.int (M.1 128 p)), some (.int (b01 (caughtP (M.1 128 p) (M.1 109 p) (rulI M 0)))), some (.int (b01 (M.1 105 36 = 0 ∧ ¬ M.1 105 3 < M.1 111 p)))]) ⟨rfl, rfl, rfl, rfl, (show some (Value.int 0) = some (Value.int (b01 (M.1 105 36 = 0 ∧ ¬ M.1 105 3 < M.1 111 p))) from by rw [b01_f (show ¬ (M.1 105 36 = 0 ∧ ¬ M.1 105 3 < M.1 111 p) from fun q => by first | exact h40 q.1 | exact q.2 h53)]), trivial⟩ J63
      ·
        refine aw_iconst (v := 1) dX8_begins_56 (by decide) ?_
        refine aw_goto (tgt := 61) dX8_begins_57 (by decide) ?_
        refine aw_istore (i := 4) dX8_begins_61 (by decide) ?_
        refine aw_loc (la := [some (.ref 105), some (.int (nI p)), some (.int (M.1 128 p)), some (.int (b01 (caughtP (M.1 128 p) (M.1 109 p) (rulI M 0)))), some (.int (b01 (M.1 105 36 = 0 ∧ ¬ M.1 105 3 < M.1 111 p)))]) ⟨rfl, rfl, rfl, rfl, (show some (Value.int 1) = some (Value.int (b01 (M.1 105 36 = 0 ∧ ¬ M.1 105 3 < M.1 111 p))) from by rw [b01_t (show (M.1 105 36 = 0 ∧ ¬ M.1 105 3 < M.1 111 p) from ⟨h40, h53⟩)]), trivial⟩ J63
  refine aw_aload_n (i := 0) dX8_begins_0 rfl rfl ?_
  refine aw_getR gf_X8_90 sh_105 rfl dX8_begins_1 ?_
  refine aw_iload_n (i := 1) dX8_begins_4 rfl rfl ?_
  refine aw_ialdN sh_128 (by omega) (by omega) dX8_begins_5 ?_
  refine aw_istore_n (i := 2) dX8_begins_6 rfl (by decide) ?_
  refine aw_iload_n (i := 2) dX8_begins_7 rfl rfl ?_
  refine aw_if_le (tgt := 34) dX8_begins_8 (by decide) (fun h8 => ?_) (fun h8 => ?_)
  ·
    refine aw_iconst (v := 0) dX8_begins_34 (by decide) ?_
    refine aw_istore_n (i := 3) dX8_begins_35 rfl (by decide) ?_
    refine aw_loc (la := [some (.ref 105), some (.int (nI p)), some (.int (M.1 128 p)), some (.int (b01 (caughtP (M.1 128 p) (M.1 109 p) (rulI M 0)))), none]) ⟨rfl, rfl, rfl, (show some (Value.int 0) = some (Value.int (b01 (caughtP (M.1 128 p) (M.1 109 p) (rulI M 0)))) from by rw [b01_f (show ¬ (caughtP (M.1 128 p) (M.1 109 p) (rulI M 0)) from fun q => by first | exact q.1 h8 | exact q.2 h27)]), trivial⟩ J36
  ·
    refine aw_iload_n (i := 2) dX8_begins_11 rfl rfl ?_
    refine aw_aload_n (i := 0) dX8_begins_12 rfl rfl ?_
    refine aw_getR gf_X8_29 sh_105 rfl dX8_begins_13 ?_
    refine aw_iload_n (i := 1) dX8_begins_16 rfl rfl ?_
    refine aw_ialdN sh_109 (by omega) (by omega) dX8_begins_17 ?_
    refine aw_bipush (v := 10) dX8_begins_18 (by decide) ?_
    refine aw_idiv dX8_begins_20 (by decide) ?_
    refine aw_iadd dX8_begins_21 ?_
    refine aw_aload_n (i := 0) dX8_begins_22 rfl rfl ?_
    refine aw_iconst (v := 0) dX8_begins_23 (by decide) ?_
    refine aw_top (show (0 : Int32) = nI 0 from rfl) ?_
    refine aw_cVi ck_X8_216 (m_X8_rule (i := 0) hb (by decide)) sh_105 rfl (by decide) (by decide) rfl rfl (Nat.le_of_ble_eq_true rfl) dX8_begins_24 ?_
    refine aw_icmp_lt (tgt := 34) dX8_begins_27 (by decide) (fun h27 => ?_) (fun h27 => ?_)
    ·
      refine aw_iconst (v := 0) dX8_begins_34 (by decide) ?_
      refine aw_istore_n (i := 3) dX8_begins_35 rfl (by decide) ?_
      refine aw_loc (la := [some (.ref 105), some (.int (nI p)), some (.int (M.1 128 p)), some (.int (b01 (caughtP (M.1 128 p) (M.1 109 p) (rulI M 0)))), none]) ⟨rfl, rfl, rfl, (show some (Value.int 0) = some (Value.int (b01 (caughtP (M.1 128 p) (M.1 109 p) (rulI M 0)))) from by rw [b01_f (show ¬ (caughtP (M.1 128 p) (M.1 109 p) (rulI M 0)) from fun q => by first | exact q.1 h8 | exact q.2 h27)]), trivial⟩ J36
    ·
      refine aw_iconst (v := 1) dX8_begins_30 (by decide) ?_
      refine aw_goto (tgt := 35) dX8_begins_31 (by decide) ?_
      refine aw_istore_n (i := 3) dX8_begins_35 rfl (by decide) ?_
      refine aw_loc (la := [some (.ref 105), some (.int (nI p)), some (.int (M.1 128 p)), some (.int (b01 (caughtP (M.1 128 p) (M.1 109 p) (rulI M 0)))), none]) ⟨rfl, rfl, rfl, (show some (Value.int 1) = some (Value.int (b01 (caughtP (M.1 128 p) (M.1 109 p) (rulI M 0)))) from by rw [b01_t (show (caughtP (M.1 128 p) (M.1 109 p) (rulI M 0)) from ⟨h8, h27⟩)]), trivial⟩ J36
theorem m_X8_stops {l : Launch} {M : Mm} {p : Nat} (hb : byOK M) (hp : p < 30) (hkd : ∃ k, k < 7 ∧ M.1 107 p = nI k) : AMet l 2 yX8_stops cX8_stops 6 (some FieldType.boolean) [.ref 105, .int (nI p)] M (QE (some (.int (b01 (wsP (M.1 107 p) (M.1 114 p) (M.1 109 p) (M.1 128 p) (M.1 129 p) (M.1 107 p = 5 ∧ ¬ rulI M 3 ≤ drawV (M.1 105 4) 10) (rulI M))))) (dr8 M (M.1 107 p = 5))) := by
  refine AMet.of (by decide) (by simp [aargs, Value.category]) ?_
  show AW l 2 yX8_stops cX8_stops 6 (some FieldType.boolean) 0 [some (.ref 105), some (.int (nI p)), none, none, none, none] [] M _
  have J37 : AW l 2 yX8_stops cX8_stops 6 (some FieldType.boolean) 37 [some (.ref 105), some (.int (nI p)), some (.int (M.1 114 p)), some (.int (b01 (M.1 107 p = 5 ∧ ¬ rulI M 3 ≤ drawV (M.1 105 4) 10))), none, none] [] (dr8 M (M.1 107 p = 5)) (QE (some (.int (b01 (wsP (M.1 107 p) (M.1 114 p) (M.1 109 p) (M.1 128 p) (M.1 129 p) (M.1 107 p = 5 ∧ ¬ rulI M 3 ≤ drawV (M.1 105 4) 10) (rulI M))))) (dr8 M (M.1 107 p = 5))) := by
    refine aw_iload_n (i := 2) dX8_stops_37 rfl rfl ?_
    refine aw_aload_n (i := 0) dX8_stops_38 rfl rfl ?_
    refine aw_getR gf_X8_29 sh_105 rfl dX8_stops_39 ?_
    refine aw_iload_n (i := 1) dX8_stops_42 rfl rfl ?_
    refine aw_ialdX sh_109 (by omega) (by decide) (congrFun (dr8_o (by decide)) _) dX8_stops_43 ?_
    refine aw_ternC_le (tgt := 51) (j := 52) (v := 1) (w := 0) dX8_stops_44 (by decide) dX8_stops_47 (by decide) dX8_stops_48 (by decide) dX8_stops_51 (by decide) rfl ?_
    refine aw_top t01a ?_
    refine aw_istore (i := 4) dX8_stops_52 (by decide) ?_
    have J80 : AW l 2 yX8_stops cX8_stops 6 (some FieldType.boolean) 80 [some (.ref 105), some (.int (nI p)), some (.int (M.1 114 p)), some (.int (b01 (M.1 107 p = 5 ∧ ¬ rulI M 3 ≤ drawV (M.1 105 4) 10))), some (.int (b01 (¬ M.1 114 p ≤ M.1 109 p))), some (.int (b01 ((¬ M.1 114 p ≤ M.1 109 p) ∨ ¬ rulI M 2 ≤ M.1 128 p)))] [] (dr8 M (M.1 107 p = 5)) (QE (some (.int (b01 (wsP (M.1 107 p) (M.1 114 p) (M.1 109 p) (M.1 128 p) (M.1 129 p) (M.1 107 p = 5 ∧ ¬ rulI M 3 ≤ drawV (M.1 105 4) 10) (rulI M))))) (dr8 M (M.1 107 p = 5))) := by
      refine aw_aload_n (i := 0) dX8_stops_80 rfl rfl ?_
      refine aw_getR gf_X8_23 sh_105 rfl dX8_stops_81 ?_
      refine aw_iload_n (i := 1) dX8_stops_84 rfl rfl ?_
      refine aw_ialdX sh_107 (by omega) (by decide) (congrFun (dr8_o (by decide)) _) dX8_stops_85 ?_
      have hk7 := k7 hkd
      generalize hk9 : M.1 107 p = k9 at hk7
      rcases hk7 with rfl | rfl | rfl | rfl | rfl | rfl | rfl
      ·
        refine aw_tableIn (off := 42) (tgt := 128) dX8_stops_86 (by decide) (by decide) (by decide) (by decide) ?_
        refine aw_iload (i := 4) dX8_stops_128 rfl ?_
        exact aw_zret rfl b01_ok dX8_stops_130 ⟨congrArg (fun z => some (Value.int z)) (b01_c (by rw [wsP_o (by decide)])), rfl⟩
      ·
        refine aw_tableIn (off := 45) (tgt := 131) dX8_stops_86 (by decide) (by decide) (by decide) (by decide) ?_
        refine aw_iload (i := 4) dX8_stops_131 rfl ?_
        refine aw_ifne_b (tgt := 150) dX8_stops_133 (by decide) (fun h133 => ?_) (fun h133 => ?_)
        ·
          refine aw_iconst (v := 1) dX8_stops_150 (by decide) ?_
          refine aw_goto (tgt := 155) dX8_stops_151 (by decide) ?_
          exact aw_zret rfl (by simp) dX8_stops_155 ⟨by rw [b01_t (by rw [wsP_1]; grind)], rfl⟩
        ·
          refine aw_aload_n (i := 0) dX8_stops_136 rfl rfl ?_
          refine aw_getR gf_X8_90 sh_105 rfl dX8_stops_137 ?_
          refine aw_iload_n (i := 1) dX8_stops_140 rfl rfl ?_
          refine aw_ialdX sh_128 (by omega) (by decide) (congrFun (dr8_o (by decide)) _) dX8_stops_141 ?_
          refine aw_if_ne (tgt := 154) dX8_stops_142 (by decide) (fun h142 => ?_) (fun h142 => ?_)
          ·
            refine aw_iconst (v := 0) dX8_stops_154 (by decide) ?_
            exact aw_zret rfl (by simp) dX8_stops_155 ⟨by rw [b01_f (by rw [wsP_1]; grind)], rfl⟩
          ·
            refine aw_iload_n (i := 2) dX8_stops_145 rfl rfl ?_
            refine aw_iconst (v := 5) dX8_stops_146 (by decide) ?_
            refine aw_icmp_lt (tgt := 154) dX8_stops_147 (by decide) (fun h147 => ?_) (fun h147 => ?_)
            ·
              refine aw_iconst (v := 0) dX8_stops_154 (by decide) ?_
              exact aw_zret rfl (by simp) dX8_stops_155 ⟨by rw [b01_f (by rw [wsP_1]; grind)], rfl⟩
            ·
              refine aw_iconst (v := 1) dX8_stops_150 (by decide) ?_
              refine aw_goto (tgt := 155) dX8_stops_151 (by decide) ?_
              exact aw_zret rfl (by simp) dX8_stops_155 ⟨by rw [b01_t (by rw [wsP_1]; grind)], rfl⟩
      ·
        refine aw_tableIn (off := 125) (tgt := 211) dX8_stops_86 (by decide) (by decide) (by decide) (by decide) ?_
        refine aw_iload (i := 5) dX8_stops_211 rfl ?_
        exact aw_zret rfl b01_ok dX8_stops_213 ⟨congrArg (fun z => some (Value.int z)) (b01_c (by first | (rw [wsP_2]; done) | rw [wsP_4])), rfl⟩
      ·
        refine aw_tableIn (off := 70) (tgt := 156) dX8_stops_86 (by decide) (by decide) (by decide) (by decide) ?_
        refine aw_iload (i := 5) dX8_stops_156 rfl ?_
        refine aw_ifeq_b (tgt := 179) dX8_stops_158 (by decide) (fun h158 => ?_) (fun h158 => ?_)
        ·
          refine aw_iconst (v := 0) dX8_stops_179 (by decide) ?_
          exact aw_zret rfl (by simp) dX8_stops_180 ⟨by rw [b01_f (by rw [wsP_3]; grind)], rfl⟩
        ·
          refine aw_aload_n (i := 0) dX8_stops_161 rfl rfl ?_
          refine aw_getR gf_X8_93 sh_105 rfl dX8_stops_162 ?_
          refine aw_iload_n (i := 1) dX8_stops_165 rfl rfl ?_
          refine aw_ialdX sh_129 (by omega) (by decide) (congrFun (dr8_o (by decide)) _) dX8_stops_166 ?_
          refine aw_aload_n (i := 0) dX8_stops_167 rfl rfl ?_
          refine aw_iconst (v := 1) dX8_stops_168 (by decide) ?_
          refine aw_top (show (1 : Int32) = nI 1 from rfl) ?_
          refine aw_cVi ck_X8_216 (m_X8_ruleX (M := M) (i := 1) sL8_d hb (by decide)) sh_105 rfl (by decide) (by decide) rfl rfl (Nat.le_of_ble_eq_true rfl) dX8_stops_169 ?_
          refine aw_icmp_ge (tgt := 179) dX8_stops_172 (by decide) (fun h172 => ?_) (fun h172 => ?_)
          ·
            refine aw_iconst (v := 0) dX8_stops_179 (by decide) ?_
            exact aw_zret rfl (by simp) dX8_stops_180 ⟨by rw [b01_f (by rw [wsP_3]; grind)], rfl⟩
          ·
            refine aw_iconst (v := 1) dX8_stops_175 (by decide) ?_
            refine aw_goto (tgt := 180) dX8_stops_176 (by decide) ?_
            exact aw_zret rfl (by simp) dX8_stops_180 ⟨by rw [b01_t (by rw [wsP_3]; grind)], rfl⟩
      ·
        refine aw_tableIn (off := 125) (tgt := 211) dX8_stops_86 (by decide) (by decide) (by decide) (by decide) ?_
        refine aw_iload (i := 5) dX8_stops_211 rfl ?_
        exact aw_zret rfl b01_ok dX8_stops_213 ⟨congrArg (fun z => some (Value.int z)) (b01_c (by first | (rw [wsP_2]; done) | rw [wsP_4])), rfl⟩
      ·
        refine aw_tableIn (off := 95) (tgt := 181) dX8_stops_86 (by decide) (by decide) (by decide) (by decide) ?_
        refine aw_iload (i := 5) dX8_stops_181 rfl ?_
        refine aw_ifne_b (tgt := 190) dX8_stops_183 (by decide) (fun h183 => ?_) (fun h183 => ?_)
        ·
          refine aw_iconst (v := 1) dX8_stops_190 (by decide) ?_
          refine aw_goto (tgt := 195) dX8_stops_191 (by decide) ?_
          exact aw_zret rfl (by simp) dX8_stops_195 ⟨by rw [b01_t (by rw [wsP_5]; grind)], rfl⟩
        ·
          refine aw_iload_n (i := 3) dX8_stops_186 rfl rfl ?_
          refine aw_tern_eq (tgt := 194) (j := 195) (v := 1) (w := 0) dX8_stops_187 (by decide) dX8_stops_190 (by decide) dX8_stops_191 (by decide) dX8_stops_194 (by decide) rfl ?_
          refine aw_top t01c ?_
          exact aw_zret rfl b01_ok dX8_stops_195 ⟨congrArg (fun z => some (Value.int z)) (b01_c (by rw [wsP_5]; grind)), rfl⟩
      ·
        refine aw_tableIn (off := 110) (tgt := 196) dX8_stops_86 (by decide) (by decide) (by decide) (by decide) ?_
        refine aw_iload_n (i := 2) dX8_stops_196 rfl rfl ?_
        refine aw_aload_n (i := 0) dX8_stops_197 rfl rfl ?_
        refine aw_iconst (v := 4) dX8_stops_198 (by decide) ?_
        refine aw_top (show (4 : Int32) = nI 4 from rfl) ?_
        refine aw_cVi ck_X8_216 (m_X8_ruleX (M := M) (i := 4) sL8_d hb (by decide)) sh_105 rfl (by decide) (by decide) rfl rfl (Nat.le_of_ble_eq_true rfl) dX8_stops_199 ?_
        refine aw_ternC_lt (tgt := 209) (j := 210) (v := 1) (w := 0) dX8_stops_202 (by decide) dX8_stops_205 (by decide) dX8_stops_206 (by decide) dX8_stops_209 (by decide) rfl ?_
        refine aw_top t01a ?_
        exact aw_zret rfl b01_ok dX8_stops_210 ⟨congrArg (fun z => some (Value.int z)) (b01_c (by rw [wsP_6])), rfl⟩
    refine aw_iload (i := 4) dX8_stops_54 rfl ?_
    refine aw_ifne_b (tgt := 73) dX8_stops_56 (by decide) (fun h56 => ?_) (fun h56 => ?_)
    ·
      refine aw_iconst (v := 1) dX8_stops_73 (by decide) ?_
      refine aw_goto (tgt := 78) dX8_stops_74 (by decide) ?_
      refine aw_istore (i := 5) dX8_stops_78 (by decide) ?_
      refine aw_loc (la := [some (.ref 105), some (.int (nI p)), some (.int (M.1 114 p)), some (.int (b01 (M.1 107 p = 5 ∧ ¬ rulI M 3 ≤ drawV (M.1 105 4) 10))), some (.int (b01 (¬ M.1 114 p ≤ M.1 109 p))), some (.int (b01 ((¬ M.1 114 p ≤ M.1 109 p) ∨ ¬ rulI M 2 ≤ M.1 128 p)))]) ⟨rfl, rfl, rfl, rfl, rfl, (show some (Value.int 1) = some (Value.int (b01 ((¬ M.1 114 p ≤ M.1 109 p) ∨ ¬ rulI M 2 ≤ M.1 128 p))) from by rw [b01_t (show ((¬ M.1 114 p ≤ M.1 109 p) ∨ ¬ rulI M 2 ≤ M.1 128 p) from Or.inl (by assumption))]), trivial⟩ J80
    ·
      refine aw_aload_n (i := 0) dX8_stops_59 rfl rfl ?_
      refine aw_getR gf_X8_90 sh_105 rfl dX8_stops_60 ?_
      refine aw_iload_n (i := 1) dX8_stops_63 rfl rfl ?_
      refine aw_ialdX sh_128 (by omega) (by decide) (congrFun (dr8_o (by decide)) _) dX8_stops_64 ?_
      refine aw_aload_n (i := 0) dX8_stops_65 rfl rfl ?_
      refine aw_iconst (v := 2) dX8_stops_66 (by decide) ?_
      refine aw_top (show (2 : Int32) = nI 2 from rfl) ?_
      refine aw_cVi ck_X8_216 (m_X8_ruleX (M := M) (i := 2) sL8_d hb (by decide)) sh_105 rfl (by decide) (by decide) rfl rfl (Nat.le_of_ble_eq_true rfl) dX8_stops_67 ?_
      refine aw_ternC_ge (tgt := 77) (j := 78) (v := 1) (w := 0) dX8_stops_70 (by decide) dX8_stops_73 (by decide) dX8_stops_74 (by decide) dX8_stops_77 (by decide) rfl ?_
      refine aw_top t01a ?_
      refine aw_istore (i := 5) dX8_stops_78 (by decide) ?_
      refine aw_loc (la := [some (.ref 105), some (.int (nI p)), some (.int (M.1 114 p)), some (.int (b01 (M.1 107 p = 5 ∧ ¬ rulI M 3 ≤ drawV (M.1 105 4) 10))), some (.int (b01 (¬ M.1 114 p ≤ M.1 109 p))), some (.int (b01 ((¬ M.1 114 p ≤ M.1 109 p) ∨ ¬ rulI M 2 ≤ M.1 128 p)))]) ⟨rfl, rfl, rfl, rfl, rfl, (show some (Value.int (b01 (¬ rulI M 2 ≤ M.1 128 p))) = some (Value.int (b01 ((¬ M.1 114 p ≤ M.1 109 p) ∨ ¬ rulI M 2 ≤ M.1 128 p))) from by rw [b01_c (show (¬ rulI M 2 ≤ M.1 128 p) ↔ ((¬ M.1 114 p ≤ M.1 109 p) ∨ ¬ rulI M 2 ≤ M.1 128 p) by simp [h56])]), trivial⟩ J80
  refine aw_aload_n (i := 0) dX8_stops_0 rfl rfl ?_
  refine aw_getR gf_X8_44 sh_105 rfl dX8_stops_1 ?_
  refine aw_iload_n (i := 1) dX8_stops_4 rfl rfl ?_
  refine aw_ialdN sh_114 (by omega) (by omega) dX8_stops_5 ?_
  refine aw_istore_n (i := 2) dX8_stops_6 rfl (by decide) ?_
  refine aw_aload_n (i := 0) dX8_stops_7 rfl rfl ?_
  refine aw_getR gf_X8_23 sh_105 rfl dX8_stops_8 ?_
  refine aw_iload_n (i := 1) dX8_stops_11 rfl rfl ?_
  refine aw_ialdN sh_107 (by omega) (by omega) dX8_stops_12 ?_
  refine aw_iconst (v := 5) dX8_stops_13 (by decide) ?_
  refine aw_icmp_ne (tgt := 35) dX8_stops_14 (by decide) (fun h14 => ?_) (fun h14 => ?_)
  ·
    refine aw_iconst (v := 0) dX8_stops_35 (by decide) ?_
    refine aw_istore_n (i := 3) dX8_stops_36 rfl (by decide) ?_
    refine aw_mem (show M = dr8 M (M.1 107 p = 5) from (pIf_f h14).symm) ?_
    refine aw_loc (la := [some (.ref 105), some (.int (nI p)), some (.int (M.1 114 p)), some (.int (b01 (M.1 107 p = 5 ∧ ¬ rulI M 3 ≤ drawV (M.1 105 4) 10))), none, none]) ⟨rfl, rfl, rfl, (show some (Value.int 0) = some (Value.int (b01 (M.1 107 p = 5 ∧ ¬ rulI M 3 ≤ drawV (M.1 105 4) 10))) from by rw [b01_f (show ¬ (M.1 107 p = 5 ∧ ¬ rulI M 3 ≤ drawV (M.1 105 4) 10) from fun q => h14 q.1)]), trivial⟩ J37
  ·
    refine aw_aload_n (i := 0) dX8_stops_17 rfl rfl ?_
    refine aw_bipush (v := 10) dX8_stops_18 (by decide) ?_
    refine aw_cVi ck_X8_226 m_X8_draw sh_105 rfl (by decide) (by decide) rfl rfl (Nat.le_of_ble_eq_true rfl) dX8_stops_20 ?_
    refine aw_aload_n (i := 0) dX8_stops_23 rfl rfl ?_
    refine aw_iconst (v := 3) dX8_stops_24 (by decide) ?_
    refine aw_top (show (3 : Int32) = nI 3 from rfl) ?_
    refine aw_cVi ck_X8_216 (m_X8_ruleX (M := M) (i := 3) sL8_4 hb (by decide)) sh_105 rfl (by decide) (by decide) rfl rfl (Nat.le_of_ble_eq_true rfl) dX8_stops_25 ?_
    refine aw_icmp_ge (tgt := 35) dX8_stops_28 (by decide) (fun h28 => ?_) (fun h28 => ?_)
    ·
      refine aw_iconst (v := 0) dX8_stops_35 (by decide) ?_
      refine aw_istore_n (i := 3) dX8_stops_36 rfl (by decide) ?_
      refine aw_mem (show _ = dr8 M (M.1 107 p = 5) from (pIf_t h14).symm) ?_
      refine aw_loc (la := [some (.ref 105), some (.int (nI p)), some (.int (M.1 114 p)), some (.int (b01 (M.1 107 p = 5 ∧ ¬ rulI M 3 ≤ drawV (M.1 105 4) 10))), none, none]) ⟨rfl, rfl, rfl, (show some (Value.int 0) = some (Value.int (b01 (M.1 107 p = 5 ∧ ¬ rulI M 3 ≤ drawV (M.1 105 4) 10))) from by rw [b01_f (show ¬ (M.1 107 p = 5 ∧ ¬ rulI M 3 ≤ drawV (M.1 105 4) 10) from fun q => q.2 h28)]), trivial⟩ J37
    ·
      refine aw_iconst (v := 1) dX8_stops_31 (by decide) ?_
      refine aw_goto (tgt := 36) dX8_stops_32 (by decide) ?_
      refine aw_istore_n (i := 3) dX8_stops_36 rfl (by decide) ?_
      refine aw_mem (show _ = dr8 M (M.1 107 p = 5) from (pIf_t h14).symm) ?_
      refine aw_loc (la := [some (.ref 105), some (.int (nI p)), some (.int (M.1 114 p)), some (.int (b01 (M.1 107 p = 5 ∧ ¬ rulI M 3 ≤ drawV (M.1 105 4) 10))), none, none]) ⟨rfl, rfl, rfl, (show some (Value.int 1) = some (Value.int (b01 (M.1 107 p = 5 ∧ ¬ rulI M 3 ≤ drawV (M.1 105 4) 10))) from by rw [b01_t (show (M.1 107 p = 5 ∧ ¬ rulI M 3 ≤ drawV (M.1 105 4) 10) from ⟨h14, h28⟩)]), trivial⟩ J37
/-- who has a seat ahead, and stood -/
def ow8 (M : Mm) (s : Int32) (i : Nat) : Int32 := M.1 132 (s - 8 + (nI i - 1)).toNatClampNeg
def th8 (M : Mm) (s : Int32) (i : Nat) : Prop := ¬ s - s / 8 * 8 + (nI i - 1) < 0 ∧ ¬ 7 < s - s / 8 * 8 + (nI i - 1) ∧ ¬ ow8 M s i = -1 ∧ M.1 131 (ow8 M s i).toNatClampNeg = 1
noncomputable def cb8 (M : Mm) (s : Int32) : Nat → Int32
  | 0 => 0
  | i + 1 => pIf (th8 M s i) (cb8 M s i + 1) (cb8 M s i)
theorem cb8_t {M : Mm} {s : Int32} {i : Nat} (h : th8 M s i) : cb8 M s i + 1 = cb8 M s (i + 1) := (pIf_t h).symm
theorem cb8_f {M : Mm} {s : Int32} {i : Nat} (h : ¬ th8 M s i) : cb8 M s i = cb8 M s (i + 1) := (pIf_f h).symm
def ris8 (M : Mm) (p : Nat) : Prop := (M.1 113 p = 1 ∧ ¬ M.1 109 p < rulI M 6) ∨ (¬ M.1 108 p < 8 ∧ ¬ cb8 M (M.1 108 p) 3 ≤ 0 ∧ ¬ cb8 M (M.1 108 p) 3 < rulI M 5)
theorem own_in {k i : Nat} (hk : k < 48) (h8 : ¬ nI k < 8) (hi : i < 3) (hc : ¬ nI k - nI k / 8 * 8 + (nI i - 1) < 0) : (nI k - 8 + (nI i - 1)).toNatClampNeg < 48 ∧ ¬ nI k - 8 + (nI i - 1) < 0 := by
  have t : ∀ k, k < 48 → ¬ nI k < 8 → ∀ i, i < 3 → ¬ nI k - nI k / 8 * 8 + (nI i - 1) < 0 → (nI k - 8 + (nI i - 1)).toNatClampNeg < 48 ∧ ¬ nI k - 8 + (nI i - 1) < 0 := by decide +kernel
  exact t k hk h8 i hi hc
theorem own_v {k i : Nat} (hk : k < 48) (h8 : ¬ nI k < 8) (hi : i < 3) (hc : ¬ nI k - nI k / 8 * 8 + (nI i - 1) < 0) : vp_in (nI k - 8 + (nI i - 1)) 48 := by
  obtain ⟨q1, q2⟩ := own_in hk h8 hi hc
  exact fun q => q.elim (fun z => q2 z) (fun z => absurd q1 (Nat.not_lt.mpr z))
theorem m_X8_isRising {l : Launch} {M : Mm} {p : Nat} (hb : byOK M) (hp : p < 30) (hst : ∃ s, s < 48 ∧ M.1 108 p = nI s) (hO : ∀ s, s < 48 → M.1 132 s = -1 ∨ ∃ q, q < 30 ∧ M.1 132 s = nI q) : AMet l 2 yX8_isRising cX8_isRising 7 (some FieldType.boolean) [.ref 105, .int (nI p)] M (QE (some (.int (b01 (ris8 M p)))) M) := by
  refine AMet.of (by decide) (by simp [aargs, Value.category]) ?_
  show AW l 2 yX8_isRising cX8_isRising 7 (some FieldType.boolean) 0 [some (.ref 105), some (.int (nI p)), none, none, none, none, none] [] M _
  refine aw_aload_n (i := 0) dX8_isRising_0 rfl rfl ?_
  refine aw_getR gf_X8_41 sh_105 rfl dX8_isRising_1 ?_
  refine aw_iload_n (i := 1) dX8_isRising_4 rfl rfl ?_
  refine aw_ialdN sh_113 (by omega) (by omega) dX8_isRising_5 ?_
  refine aw_iconst (v := 1) dX8_isRising_6 (by decide) ?_
  refine aw_icmp_ne (tgt := 27) dX8_isRising_7 (by decide) (fun h7 => ?_) (fun h7 => ?_)
  ·
    refine aw_aload_n (i := 0) dX8_isRising_27 rfl rfl ?_
    refine aw_getR gf_X8_26 sh_105 rfl dX8_isRising_28 ?_
    refine aw_iload_n (i := 1) dX8_isRising_31 rfl rfl ?_
    refine aw_ialdN sh_108 (by omega) (by omega) dX8_isRising_32 ?_
    obtain ⟨k, hk, ek⟩ := hst
    refine aw_top ek ?_
    refine aw_istore_n (i := 2) dX8_isRising_33 rfl (by decide) ?_
    refine aw_iconst (v := 0) dX8_isRising_34 (by decide) ?_
    refine aw_istore_n (i := 3) dX8_isRising_35 rfl (by decide) ?_
    refine aw_iload_n (i := 2) dX8_isRising_36 rfl rfl ?_
    refine aw_bipush (v := 8) dX8_isRising_37 (by decide) ?_
    refine aw_top (show (8 : Int32) = nI 8 from rfl) ?_
    refine aw_icmp_geN (tgt := 44) (by omega) (by omega) dX8_isRising_39 (by decide) (fun h39 => ?_) (fun h39 => ?_)
    ·
      have h8 : ¬ nI k < 8 := fun q => by have := (nI_ltI (a := k) (b := 8) (by omega) (by omega)).mp q; omega
      refine aw_iconst (v := (-1)) dX8_isRising_44 (by decide) ?_
      refine aw_istore (i := 4) dX8_isRising_45 (by decide) ?_
      have lp47 : ∀ k9 i, i + k9 = 3 → AW l 2 yX8_isRising cX8_isRising 7 (some FieldType.boolean) 47 [some (.ref 105), some (.int (nI p)), some (.int (nI k)), some (.int (cb8 M (nI k) i)), some (.int (nI i - 1)), none, none] [] M (QE (some (.int (b01 (ris8 M p)))) M) := by
        intro k9
        induction k9 using Nat.strongRecOn with
        | _ k9 ih =>
        intro i hk9
        refine aw_iload (i := 4) dX8_isRising_47 rfl ?_
        refine aw_iconst (v := 1) dX8_isRising_49 (by decide) ?_
        refine aw_icmp_gt (tgt := 117) dX8_isRising_50 (by decide) (fun h50 => ?_) (fun h50 => ?_)
        ·
          have e3 : i = 3 := (side3 (by omega)).mp h50
          subst e3
          refine aw_iload_n (i := 3) dX8_isRising_117 rfl rfl ?_
          refine aw_if_le (tgt := 134) dX8_isRising_118 (by decide) (fun h118 => ?_) (fun h118 => ?_)
          ·
            refine aw_iconst (v := 0) dX8_isRising_134 (by decide) ?_
            exact aw_zret rfl (by simp) dX8_isRising_135 ⟨by rw [b01_f (by unfold ris8; rw [ek]; rintro (q | q); (first | exact absurd q.1 h7 | exact absurd h22 q.2); first | exact absurd h118 q.2.1 | exact absurd h127 q.2.2)], rfl⟩
          ·
            refine aw_iload_n (i := 3) dX8_isRising_121 rfl rfl ?_
            refine aw_aload_n (i := 0) dX8_isRising_122 rfl rfl ?_
            refine aw_iconst (v := 5) dX8_isRising_123 (by decide) ?_
            refine aw_top (show (5 : Int32) = nI 5 from rfl) ?_
            refine aw_cVi ck_X8_216 (m_X8_rule (i := 5) hb (by decide)) sh_105 rfl (by decide) (by decide) rfl rfl (Nat.le_of_ble_eq_true rfl) dX8_isRising_124 ?_
            refine aw_icmp_lt (tgt := 134) dX8_isRising_127 (by decide) (fun h127 => ?_) (fun h127 => ?_)
            ·
              refine aw_iconst (v := 0) dX8_isRising_134 (by decide) ?_
              exact aw_zret rfl (by simp) dX8_isRising_135 ⟨by rw [b01_f (by unfold ris8; rw [ek]; rintro (q | q); (first | exact absurd q.1 h7 | exact absurd h22 q.2); first | exact absurd h118 q.2.1 | exact absurd h127 q.2.2)], rfl⟩
            ·
              refine aw_iconst (v := 1) dX8_isRising_130 (by decide) ?_
              refine aw_goto (tgt := 135) dX8_isRising_131 (by decide) ?_
              exact aw_zret rfl (by simp) dX8_isRising_135 ⟨by rw [b01_t (by unfold ris8; rw [ek]; exact Or.inr ⟨h8, h118, h127⟩)], rfl⟩
        ·
          have i3 : i < 3 := Nat.lt_of_le_of_ne (by omega) (fun e9 => h50 ((side3 (by omega)).mpr e9))
          refine aw_iload_n (i := 2) dX8_isRising_53 rfl rfl ?_
          refine aw_bipush (v := 8) dX8_isRising_54 (by decide) ?_
          refine aw_irem dX8_isRising_56 (by decide) ?_
          refine aw_iload (i := 4) dX8_isRising_57 rfl ?_
          refine aw_iadd dX8_isRising_59 ?_
          refine aw_istore (i := 5) dX8_isRising_60 (by decide) ?_
          refine aw_iload (i := 5) dX8_isRising_62 rfl ?_
          refine aw_if_lt (tgt := 111) dX8_isRising_64 (by decide) (fun h64 => ?_) (fun h64 => ?_)
          ·
            refine aw_iinc1 (i := 4) dX8_isRising_111 rfl (by decide) ?_
            refine aw_goto (tgt := 47) dX8_isRising_114 (by decide) ?_
            refine aw_loc (la := [some (.ref 105), some (.int (nI p)), some (.int (nI k)), some (.int (cb8 M (nI k) (i + 1))), some (.int (nI (i + 1) - 1)), none, none]) ⟨rfl, rfl, rfl, (show some (Value.int (cb8 M (nI k) i)) = some (Value.int (cb8 M (nI k) (i + 1))) from by rw [← cb8_f (by unfold th8; rintro ⟨q1, q2, q3, q4⟩; first | exact absurd h64 q1 | exact absurd (Int32.not_lt.mp q2) h71 | exact absurd h94 q3 | exact absurd q4 h105)]), (show some (Value.int (nI i - 1 + 1)) = some (Value.int (nI (i + 1) - 1)) from by rw [side_s]), trivial⟩ (ih (k9 - 1) (by omega) (i + 1) (by omega))
          ·
            refine aw_iload (i := 5) dX8_isRising_67 rfl ?_
            refine aw_bipush (v := 7) dX8_isRising_69 (by decide) ?_
            refine aw_icmp_le (tgt := 77) dX8_isRising_71 (by decide) (fun h71 => ?_) (fun h71 => ?_)
            ·
              refine aw_aload_n (i := 0) dX8_isRising_77 rfl rfl ?_
              refine aw_getR gf_X8_102 sh_105 rfl dX8_isRising_78 ?_
              refine aw_iload_n (i := 2) dX8_isRising_81 rfl rfl ?_
              refine aw_bipush (v := 8) dX8_isRising_82 (by decide) ?_
              refine aw_isub dX8_isRising_84 ?_
              refine aw_iload (i := 4) dX8_isRising_85 rfl ?_
              refine aw_iadd dX8_isRising_87 ?_
              refine aw_iald sh_132 (own_v hk h8 i3 h64) dX8_isRising_88 ?_
              refine aw_istore (i := 6) dX8_isRising_89 (by decide) ?_
              refine aw_iload (i := 6) dX8_isRising_91 rfl ?_
              refine aw_iconst (v := (-1)) dX8_isRising_93 (by decide) ?_
              refine aw_icmp_eq (tgt := 111) dX8_isRising_94 (by decide) (fun h94 => ?_) (fun h94 => ?_)
              ·
                refine aw_iinc1 (i := 4) dX8_isRising_111 rfl (by decide) ?_
                refine aw_goto (tgt := 47) dX8_isRising_114 (by decide) ?_
                refine aw_loc (la := [some (.ref 105), some (.int (nI p)), some (.int (nI k)), some (.int (cb8 M (nI k) (i + 1))), some (.int (nI (i + 1) - 1)), none, none]) ⟨rfl, rfl, rfl, (show some (Value.int (cb8 M (nI k) i)) = some (Value.int (cb8 M (nI k) (i + 1))) from by rw [← cb8_f (by unfold th8; rintro ⟨q1, q2, q3, q4⟩; first | exact absurd h64 q1 | exact absurd (Int32.not_lt.mp q2) h71 | exact absurd h94 q3 | exact absurd q4 h105)]), (show some (Value.int (nI i - 1 + 1)) = some (Value.int (nI (i + 1) - 1)) from by rw [side_s]), trivial⟩ (ih (k9 - 1) (by omega) (i + 1) (by omega))
              ·
                obtain ⟨q, hq, eq⟩ : ∃ q, q < 30 ∧ ow8 M (nI k) i = nI q := (hO _ (own_in hk h8 i3 h64).1).resolve_left h94
                refine aw_aload_n (i := 0) dX8_isRising_97 rfl rfl ?_
                refine aw_getR gf_X8_99 sh_105 rfl dX8_isRising_98 ?_
                refine aw_iload (i := 6) dX8_isRising_101 rfl ?_
                refine aw_iald sh_131 (show vp_in (ow8 M (nI k) i) 30 from by rw [eq]; exact vp_in_nI hq (by decide)) dX8_isRising_103 ?_
                refine aw_iconst (v := 1) dX8_isRising_104 (by decide) ?_
                refine aw_icmp_ne (tgt := 111) dX8_isRising_105 (by decide) (fun h105 => ?_) (fun h105 => ?_)
                ·
                  refine aw_iinc1 (i := 4) dX8_isRising_111 rfl (by decide) ?_
                  refine aw_goto (tgt := 47) dX8_isRising_114 (by decide) ?_
                  refine aw_loc (la := [some (.ref 105), some (.int (nI p)), some (.int (nI k)), some (.int (cb8 M (nI k) (i + 1))), some (.int (nI (i + 1) - 1)), none, none]) ⟨rfl, rfl, rfl, (show some (Value.int (cb8 M (nI k) i)) = some (Value.int (cb8 M (nI k) (i + 1))) from by rw [← cb8_f (by unfold th8; rintro ⟨q1, q2, q3, q4⟩; first | exact absurd h64 q1 | exact absurd (Int32.not_lt.mp q2) h71 | exact absurd h94 q3 | exact absurd q4 h105)]), (show some (Value.int (nI i - 1 + 1)) = some (Value.int (nI (i + 1) - 1)) from by rw [side_s]), trivial⟩ (ih (k9 - 1) (by omega) (i + 1) (by omega))
                ·
                  refine aw_iinc1 (i := 3) dX8_isRising_108 rfl (by decide) ?_
                  refine aw_iinc1 (i := 4) dX8_isRising_111 rfl (by decide) ?_
                  refine aw_goto (tgt := 47) dX8_isRising_114 (by decide) ?_
                  refine aw_loc (la := [some (.ref 105), some (.int (nI p)), some (.int (nI k)), some (.int (cb8 M (nI k) (i + 1))), some (.int (nI (i + 1) - 1)), none, none]) ⟨rfl, rfl, rfl, (show some (Value.int (cb8 M (nI k) i + 1)) = some (Value.int (cb8 M (nI k) (i + 1))) from by rw [cb8_t (by unfold th8; exact ⟨h64, Int32.not_lt.mpr h71, h94, h105⟩)]), (show some (Value.int (nI i - 1 + 1)) = some (Value.int (nI (i + 1) - 1)) from by rw [side_s]), trivial⟩ (ih (k9 - 1) (by omega) (i + 1) (by omega))
            ·
              refine aw_goto (tgt := 111) dX8_isRising_74 (by decide) ?_
              refine aw_iinc1 (i := 4) dX8_isRising_111 rfl (by decide) ?_
              refine aw_goto (tgt := 47) dX8_isRising_114 (by decide) ?_
              refine aw_loc (la := [some (.ref 105), some (.int (nI p)), some (.int (nI k)), some (.int (cb8 M (nI k) (i + 1))), some (.int (nI (i + 1) - 1)), none, none]) ⟨rfl, rfl, rfl, (show some (Value.int (cb8 M (nI k) i)) = some (Value.int (cb8 M (nI k) (i + 1))) from by rw [← cb8_f (by unfold th8; rintro ⟨q1, q2, q3, q4⟩; first | exact absurd h64 q1 | exact absurd (Int32.not_lt.mp q2) h71 | exact absurd h94 q3 | exact absurd q4 h105)]), (show some (Value.int (nI i - 1 + 1)) = some (Value.int (nI (i + 1) - 1)) from by rw [side_s]), trivial⟩ (ih (k9 - 1) (by omega) (i + 1) (by omega))
      refine aw_loc (la := [some (.ref 105), some (.int (nI p)), some (.int (nI k)), some (.int (cb8 M (nI k) 0)), some (.int (nI 0 - 1)), none, none]) ⟨rfl, rfl, rfl, rfl, rfl, trivial⟩ ?_
      exact lp47 3 0 (by omega)
    ·
      refine aw_iconst (v := 0) dX8_isRising_42 (by decide) ?_
      exact aw_zret rfl (by simp) dX8_isRising_43 ⟨by rw [b01_f (by rintro (q | q); (first | exact absurd q.1 h7 | exact absurd h22 q.2); exact q.1 (by rw [ek]; exact (nI_ltI (a := k) (b := 8) (by omega) (by omega)).mpr (by omega)))], rfl⟩
  ·
    refine aw_aload_n (i := 0) dX8_isRising_10 rfl rfl ?_
    refine aw_getR gf_X8_29 sh_105 rfl dX8_isRising_11 ?_
    refine aw_iload_n (i := 1) dX8_isRising_14 rfl rfl ?_
    refine aw_ialdN sh_109 (by omega) (by omega) dX8_isRising_15 ?_
    refine aw_aload_n (i := 0) dX8_isRising_16 rfl rfl ?_
    refine aw_bipush (v := 6) dX8_isRising_17 (by decide) ?_
    refine aw_top (show (6 : Int32) = nI 6 from rfl) ?_
    refine aw_cVi ck_X8_216 (m_X8_rule (i := 6) hb (by decide)) sh_105 rfl (by decide) (by decide) rfl rfl (Nat.le_of_ble_eq_true rfl) dX8_isRising_19 ?_
    refine aw_icmp_lt (tgt := 27) dX8_isRising_22 (by decide) (fun h22 => ?_) (fun h22 => ?_)
    ·
      refine aw_aload_n (i := 0) dX8_isRising_27 rfl rfl ?_
      refine aw_getR gf_X8_26 sh_105 rfl dX8_isRising_28 ?_
      refine aw_iload_n (i := 1) dX8_isRising_31 rfl rfl ?_
      refine aw_ialdN sh_108 (by omega) (by omega) dX8_isRising_32 ?_
      obtain ⟨k, hk, ek⟩ := hst
      refine aw_top ek ?_
      refine aw_istore_n (i := 2) dX8_isRising_33 rfl (by decide) ?_
      refine aw_iconst (v := 0) dX8_isRising_34 (by decide) ?_
      refine aw_istore_n (i := 3) dX8_isRising_35 rfl (by decide) ?_
      refine aw_iload_n (i := 2) dX8_isRising_36 rfl rfl ?_
      refine aw_bipush (v := 8) dX8_isRising_37 (by decide) ?_
      refine aw_top (show (8 : Int32) = nI 8 from rfl) ?_
      refine aw_icmp_geN (tgt := 44) (by omega) (by omega) dX8_isRising_39 (by decide) (fun h39 => ?_) (fun h39 => ?_)
      ·
        have h8 : ¬ nI k < 8 := fun q => by have := (nI_ltI (a := k) (b := 8) (by omega) (by omega)).mp q; omega
        refine aw_iconst (v := (-1)) dX8_isRising_44 (by decide) ?_
        refine aw_istore (i := 4) dX8_isRising_45 (by decide) ?_
        have lp47 : ∀ k9 i, i + k9 = 3 → AW l 2 yX8_isRising cX8_isRising 7 (some FieldType.boolean) 47 [some (.ref 105), some (.int (nI p)), some (.int (nI k)), some (.int (cb8 M (nI k) i)), some (.int (nI i - 1)), none, none] [] M (QE (some (.int (b01 (ris8 M p)))) M) := by
          intro k9
          induction k9 using Nat.strongRecOn with
          | _ k9 ih =>
          intro i hk9
          refine aw_iload (i := 4) dX8_isRising_47 rfl ?_
          refine aw_iconst (v := 1) dX8_isRising_49 (by decide) ?_
          refine aw_icmp_gt (tgt := 117) dX8_isRising_50 (by decide) (fun h50 => ?_) (fun h50 => ?_)
          ·
            have e3 : i = 3 := (side3 (by omega)).mp h50
            subst e3
            refine aw_iload_n (i := 3) dX8_isRising_117 rfl rfl ?_
            refine aw_if_le (tgt := 134) dX8_isRising_118 (by decide) (fun h118 => ?_) (fun h118 => ?_)
            ·
              refine aw_iconst (v := 0) dX8_isRising_134 (by decide) ?_
              exact aw_zret rfl (by simp) dX8_isRising_135 ⟨by rw [b01_f (by unfold ris8; rw [ek]; rintro (q | q); (first | exact absurd q.1 h7 | exact absurd h22 q.2); first | exact absurd h118 q.2.1 | exact absurd h127 q.2.2)], rfl⟩
            ·
              refine aw_iload_n (i := 3) dX8_isRising_121 rfl rfl ?_
              refine aw_aload_n (i := 0) dX8_isRising_122 rfl rfl ?_
              refine aw_iconst (v := 5) dX8_isRising_123 (by decide) ?_
              refine aw_top (show (5 : Int32) = nI 5 from rfl) ?_
              refine aw_cVi ck_X8_216 (m_X8_rule (i := 5) hb (by decide)) sh_105 rfl (by decide) (by decide) rfl rfl (Nat.le_of_ble_eq_true rfl) dX8_isRising_124 ?_
              refine aw_icmp_lt (tgt := 134) dX8_isRising_127 (by decide) (fun h127 => ?_) (fun h127 => ?_)
              ·
                refine aw_iconst (v := 0) dX8_isRising_134 (by decide) ?_
                exact aw_zret rfl (by simp) dX8_isRising_135 ⟨by rw [b01_f (by unfold ris8; rw [ek]; rintro (q | q); (first | exact absurd q.1 h7 | exact absurd h22 q.2); first | exact absurd h118 q.2.1 | exact absurd h127 q.2.2)], rfl⟩
              ·
                refine aw_iconst (v := 1) dX8_isRising_130 (by decide) ?_
                refine aw_goto (tgt := 135) dX8_isRising_131 (by decide) ?_
                exact aw_zret rfl (by simp) dX8_isRising_135 ⟨by rw [b01_t (by unfold ris8; rw [ek]; exact Or.inr ⟨h8, h118, h127⟩)], rfl⟩
          ·
            have i3 : i < 3 := Nat.lt_of_le_of_ne (by omega) (fun e9 => h50 ((side3 (by omega)).mpr e9))
            refine aw_iload_n (i := 2) dX8_isRising_53 rfl rfl ?_
            refine aw_bipush (v := 8) dX8_isRising_54 (by decide) ?_
            refine aw_irem dX8_isRising_56 (by decide) ?_
            refine aw_iload (i := 4) dX8_isRising_57 rfl ?_
            refine aw_iadd dX8_isRising_59 ?_
            refine aw_istore (i := 5) dX8_isRising_60 (by decide) ?_
            refine aw_iload (i := 5) dX8_isRising_62 rfl ?_
            refine aw_if_lt (tgt := 111) dX8_isRising_64 (by decide) (fun h64 => ?_) (fun h64 => ?_)
            ·
              refine aw_iinc1 (i := 4) dX8_isRising_111 rfl (by decide) ?_
              refine aw_goto (tgt := 47) dX8_isRising_114 (by decide) ?_
              refine aw_loc (la := [some (.ref 105), some (.int (nI p)), some (.int (nI k)), some (.int (cb8 M (nI k) (i + 1))), some (.int (nI (i + 1) - 1)), none, none]) ⟨rfl, rfl, rfl, (show some (Value.int (cb8 M (nI k) i)) = some (Value.int (cb8 M (nI k) (i + 1))) from by rw [← cb8_f (by unfold th8; rintro ⟨q1, q2, q3, q4⟩; first | exact absurd h64 q1 | exact absurd (Int32.not_lt.mp q2) h71 | exact absurd h94 q3 | exact absurd q4 h105)]), (show some (Value.int (nI i - 1 + 1)) = some (Value.int (nI (i + 1) - 1)) from by rw [side_s]), trivial⟩ (ih (k9 - 1) (by omega) (i + 1) (by omega))
            ·
              refine aw_iload (i := 5) dX8_isRising_67 rfl ?_
              refine aw_bipush (v := 7) dX8_isRising_69 (by decide) ?_
              refine aw_icmp_le (tgt := 77) dX8_isRising_71 (by decide) (fun h71 => ?_) (fun h71 => ?_)
              ·
                refine aw_aload_n (i := 0) dX8_isRising_77 rfl rfl ?_
                refine aw_getR gf_X8_102 sh_105 rfl dX8_isRising_78 ?_
                refine aw_iload_n (i := 2) dX8_isRising_81 rfl rfl ?_
                refine aw_bipush (v := 8) dX8_isRising_82 (by decide) ?_
                refine aw_isub dX8_isRising_84 ?_
                refine aw_iload (i := 4) dX8_isRising_85 rfl ?_
                refine aw_iadd dX8_isRising_87 ?_
                refine aw_iald sh_132 (own_v hk h8 i3 h64) dX8_isRising_88 ?_
                refine aw_istore (i := 6) dX8_isRising_89 (by decide) ?_
                refine aw_iload (i := 6) dX8_isRising_91 rfl ?_
                refine aw_iconst (v := (-1)) dX8_isRising_93 (by decide) ?_
                refine aw_icmp_eq (tgt := 111) dX8_isRising_94 (by decide) (fun h94 => ?_) (fun h94 => ?_)
                ·
                  refine aw_iinc1 (i := 4) dX8_isRising_111 rfl (by decide) ?_
                  refine aw_goto (tgt := 47) dX8_isRising_114 (by decide) ?_
                  refine aw_loc (la := [some (.ref 105), some (.int (nI p)), some (.int (nI k)), some (.int (cb8 M (nI k) (i + 1))), some (.int (nI (i + 1) - 1)), none, none]) ⟨rfl, rfl, rfl, (show some (Value.int (cb8 M (nI k) i)) = some (Value.int (cb8 M (nI k) (i + 1))) from by rw [← cb8_f (by unfold th8; rintro ⟨q1, q2, q3, q4⟩; first | exact absurd h64 q1 | exact absurd (Int32.not_lt.mp q2) h71 | exact absurd h94 q3 | exact absurd q4 h105)]), (show some (Value.int (nI i - 1 + 1)) = some (Value.int (nI (i + 1) - 1)) from by rw [side_s]), trivial⟩ (ih (k9 - 1) (by omega) (i + 1) (by omega))
                ·
                  obtain ⟨q, hq, eq⟩ : ∃ q, q < 30 ∧ ow8 M (nI k) i = nI q := (hO _ (own_in hk h8 i3 h64).1).resolve_left h94
                  refine aw_aload_n (i := 0) dX8_isRising_97 rfl rfl ?_
                  refine aw_getR gf_X8_99 sh_105 rfl dX8_isRising_98 ?_
                  refine aw_iload (i := 6) dX8_isRising_101 rfl ?_
                  refine aw_iald sh_131 (show vp_in (ow8 M (nI k) i) 30 from by rw [eq]; exact vp_in_nI hq (by decide)) dX8_isRising_103 ?_
                  refine aw_iconst (v := 1) dX8_isRising_104 (by decide) ?_
                  refine aw_icmp_ne (tgt := 111) dX8_isRising_105 (by decide) (fun h105 => ?_) (fun h105 => ?_)
                  ·
                    refine aw_iinc1 (i := 4) dX8_isRising_111 rfl (by decide) ?_
                    refine aw_goto (tgt := 47) dX8_isRising_114 (by decide) ?_
                    refine aw_loc (la := [some (.ref 105), some (.int (nI p)), some (.int (nI k)), some (.int (cb8 M (nI k) (i + 1))), some (.int (nI (i + 1) - 1)), none, none]) ⟨rfl, rfl, rfl, (show some (Value.int (cb8 M (nI k) i)) = some (Value.int (cb8 M (nI k) (i + 1))) from by rw [← cb8_f (by unfold th8; rintro ⟨q1, q2, q3, q4⟩; first | exact absurd h64 q1 | exact absurd (Int32.not_lt.mp q2) h71 | exact absurd h94 q3 | exact absurd q4 h105)]), (show some (Value.int (nI i - 1 + 1)) = some (Value.int (nI (i + 1) - 1)) from by rw [side_s]), trivial⟩ (ih (k9 - 1) (by omega) (i + 1) (by omega))
                  ·
                    refine aw_iinc1 (i := 3) dX8_isRising_108 rfl (by decide) ?_
                    refine aw_iinc1 (i := 4) dX8_isRising_111 rfl (by decide) ?_
                    refine aw_goto (tgt := 47) dX8_isRising_114 (by decide) ?_
                    refine aw_loc (la := [some (.ref 105), some (.int (nI p)), some (.int (nI k)), some (.int (cb8 M (nI k) (i + 1))), some (.int (nI (i + 1) - 1)), none, none]) ⟨rfl, rfl, rfl, (show some (Value.int (cb8 M (nI k) i + 1)) = some (Value.int (cb8 M (nI k) (i + 1))) from by rw [cb8_t (by unfold th8; exact ⟨h64, Int32.not_lt.mpr h71, h94, h105⟩)]), (show some (Value.int (nI i - 1 + 1)) = some (Value.int (nI (i + 1) - 1)) from by rw [side_s]), trivial⟩ (ih (k9 - 1) (by omega) (i + 1) (by omega))
              ·
                refine aw_goto (tgt := 111) dX8_isRising_74 (by decide) ?_
                refine aw_iinc1 (i := 4) dX8_isRising_111 rfl (by decide) ?_
                refine aw_goto (tgt := 47) dX8_isRising_114 (by decide) ?_
                refine aw_loc (la := [some (.ref 105), some (.int (nI p)), some (.int (nI k)), some (.int (cb8 M (nI k) (i + 1))), some (.int (nI (i + 1) - 1)), none, none]) ⟨rfl, rfl, rfl, (show some (Value.int (cb8 M (nI k) i)) = some (Value.int (cb8 M (nI k) (i + 1))) from by rw [← cb8_f (by unfold th8; rintro ⟨q1, q2, q3, q4⟩; first | exact absurd h64 q1 | exact absurd (Int32.not_lt.mp q2) h71 | exact absurd h94 q3 | exact absurd q4 h105)]), (show some (Value.int (nI i - 1 + 1)) = some (Value.int (nI (i + 1) - 1)) from by rw [side_s]), trivial⟩ (ih (k9 - 1) (by omega) (i + 1) (by omega))
        refine aw_loc (la := [some (.ref 105), some (.int (nI p)), some (.int (nI k)), some (.int (cb8 M (nI k) 0)), some (.int (nI 0 - 1)), none, none]) ⟨rfl, rfl, rfl, rfl, rfl, trivial⟩ ?_
        exact lp47 3 0 (by omega)
      ·
        refine aw_iconst (v := 0) dX8_isRising_42 (by decide) ?_
        exact aw_zret rfl (by simp) dX8_isRising_43 ⟨by rw [b01_f (by rintro (q | q); (first | exact absurd q.1 h7 | exact absurd h22 q.2); exact q.1 (by rw [ek]; exact (nI_ltI (a := k) (b := 8) (by omega) (by omega)).mpr (by omega)))], rfl⟩
    ·
      refine aw_iconst (v := 1) dX8_isRising_25 (by decide) ?_
      exact aw_zret rfl (by simp) dX8_isRising_26 ⟨by rw [b01_t (by exact Or.inl ⟨h7, h22⟩)], rfl⟩
