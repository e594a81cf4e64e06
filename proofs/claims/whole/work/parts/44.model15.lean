def und8 (k w : Int32) : Prop := (w = 1 ∧ k = 6) ∨ (w = 2 ∧ ¬ k < 3 ∧ ¬ 5 < k)
noncomputable def wrd8 (n : Nat) (M : Mm) (p : Nat) (w : Int32) : Int32 := pIf (w = 0) (M.1 109 p) (pIf (w = 1 ∨ w = 6) (M.1 111 p) (pIf (w = 2) (hearF n (M.1 108) (M.1 113) p) (pIf (w = 3) (nearF n (M.1 108) (M.1 113) p) (pIf (w = 4) (M.1 112 p) (pIf (M.1 113 p = 1) (M.1 114 p) 0)))))
/-- shelves of the model hold what they may -/
def hel8 (n : Nat) (M : Mm) : Prop := ∀ k, k < 8 → M.1 120 k = 0 ∨ M.1 120 k = 1 ∨ (M.1 120 k = 2 ∧ ∃ p, p < n ∧ M.1 123 k = nI p)
theorem hel8_p {n k : Nat} {M : Mm} (h : hel8 n M) (hk : k < 8) (h1 : ¬ M.1 120 k = 1) (h0 : ¬ M.1 120 k = 0) : ∃ p, p < n ∧ M.1 123 k = nI p := by
  rcases h k hk with q | q | q
  · exact absurd q h0
  · exact absurd q h1
  · exact q.2
def S8_says (M : Mm) (n : Nat) (s w : Int32) (v : Int32) (M' : Mm) : Prop := pIf (¬ s < 0 ∧ ¬ 8 ≤ s) (pIf (¬ w < 0 ∧ ¬ 6 < w) (pIf (M.1 120 s.toNatClampNeg = 1) (v = -2 ∧ M' = nox M 2) (pIf (M.1 120 s.toNatClampNeg = 0) (v = -3 ∧ M' = nox M 3) (pIf (w = 0 ∨ w = M.1 107 (M.1 123 s.toNatClampNeg).toNatClampNeg ∨ und8 (M.1 107 (M.1 123 s.toNatClampNeg).toNatClampNeg) w) (v = wrd8 n M (M.1 123 s.toNatClampNeg).toNatClampNeg w ∧ M' = M) (v = -2 ∧ M' = nox M 2)))) (v = -1 ∧ M' = nox M 1)) (v = -1 ∧ M' = nox M 1)
theorem m_X8_says {l : Launch} {M : Mm} {s w : Int32} {n : Nat} (hg : g8 n M) (hh : hel8 n M) : AMet l 4 yX8_says cX8_says 6 (some FieldType.int) [.ref 105, .int s, .int w] M (QI (S8_says M n s w)) := by
  refine AMet.of (by decide) (by simp [aargs, Value.category]) ?_
  show AW l 4 yX8_says cX8_says 6 (some FieldType.int) 0 [some (.ref 105), some (.int s), some (.int w), none, none, none] [] M _
  have hg30 := hg.2.1
  refine aw_aload_n (i := 0) dX8_says_0 rfl rfl ?_
  refine aw_iload_n (i := 1) dX8_says_1 rfl rfl ?_
  refine aw_cVi ck_X8_138 m_X8_isShelf sh_105 rfl (by decide) (by decide) rfl rfl (Nat.le_of_ble_eq_true rfl) dX8_says_2 ?_
  refine aw_ifeq_b (tgt := 18) dX8_says_5 (by decide) (fun h5 => ?_) (fun h5 => ?_)
  ·
    refine aw_aload_n (i := 0) dX8_says_18 rfl rfl ?_
    refine aw_iconst (v := (-1)) dX8_says_19 (by decide) ?_
    refine aw_cVi ck_X8_142 (m_X8_no (k := 1) (by decide) (by decide)) sh_105 rfl (by decide) (by decide) rfl rfl (Nat.le_of_ble_eq_true rfl) dX8_says_20 ?_
    exact aw_iret rfl dX8_says_23 ⟨_, rfl, by unfold S8_says; first | (rw [pIf_f h5]; exact ⟨rfl, rfl⟩) | (rw [pIf_t h5, pIf_f (fun q => by first | exact q.1 h9 | exact h15 (Int32.not_lt.mp q.2))]; exact ⟨rfl, rfl⟩)⟩
  ·
    refine aw_iload_n (i := 2) dX8_says_8 rfl rfl ?_
    refine aw_if_lt (tgt := 18) dX8_says_9 (by decide) (fun h9 => ?_) (fun h9 => ?_)
    ·
      refine aw_aload_n (i := 0) dX8_says_18 rfl rfl ?_
      refine aw_iconst (v := (-1)) dX8_says_19 (by decide) ?_
      refine aw_cVi ck_X8_142 (m_X8_no (k := 1) (by decide) (by decide)) sh_105 rfl (by decide) (by decide) rfl rfl (Nat.le_of_ble_eq_true rfl) dX8_says_20 ?_
      exact aw_iret rfl dX8_says_23 ⟨_, rfl, by unfold S8_says; first | (rw [pIf_f h5]; exact ⟨rfl, rfl⟩) | (rw [pIf_t h5, pIf_f (fun q => by first | exact q.1 h9 | exact h15 (Int32.not_lt.mp q.2))]; exact ⟨rfl, rfl⟩)⟩
    ·
      refine aw_iload_n (i := 2) dX8_says_12 rfl rfl ?_
      refine aw_bipush (v := 6) dX8_says_13 (by decide) ?_
      refine aw_icmp_le (tgt := 24) dX8_says_15 (by decide) (fun h15 => ?_) (fun h15 => ?_)
      ·
        obtain ⟨k, hk, rfl⟩ := shf_k h5
        refine aw_aload_n (i := 0) dX8_says_24 rfl rfl ?_
        refine aw_getR gf_X8_62 sh_105 rfl dX8_says_25 ?_
        refine aw_iload_n (i := 1) dX8_says_28 rfl rfl ?_
        refine aw_ialdN sh_120 (by omega) (by omega) dX8_says_29 ?_
        refine aw_iconst (v := 1) dX8_says_30 (by decide) ?_
        refine aw_icmp_ne (tgt := 41) dX8_says_31 (by decide) (fun h31 => ?_) (fun h31 => ?_)
        ·
          refine aw_aload_n (i := 0) dX8_says_41 rfl rfl ?_
          refine aw_getR gf_X8_62 sh_105 rfl dX8_says_42 ?_
          refine aw_iload_n (i := 1) dX8_says_45 rfl rfl ?_
          refine aw_ialdN sh_120 (by omega) (by omega) dX8_says_46 ?_
          refine aw_if_ne (tgt := 57) dX8_says_47 (by decide) (fun h47 => ?_) (fun h47 => ?_)
          ·
            refine aw_aload_n (i := 0) dX8_says_57 rfl rfl ?_
            refine aw_getR gf_X8_71 sh_105 rfl dX8_says_58 ?_
            refine aw_iload_n (i := 1) dX8_says_61 rfl rfl ?_
            refine aw_ialdN sh_123 (by omega) (by omega) dX8_says_62 ?_
            obtain ⟨p, hp, eS⟩ := hel8_p hh hk h31 h47
            refine aw_top eS ?_
            refine aw_istore_n (i := 3) dX8_says_63 rfl (by decide) ?_
            refine aw_aload_n (i := 0) dX8_says_64 rfl rfl ?_
            refine aw_getR gf_X8_23 sh_105 rfl dX8_says_65 ?_
            refine aw_iload_n (i := 3) dX8_says_68 rfl rfl ?_
            refine aw_ialdN sh_107 (by omega) (by omega) dX8_says_69 ?_
            refine aw_istore (i := 4) dX8_says_70 (by decide) ?_
            have J130 : (w = 0 ∨ w = M.1 107 p ∨ und8 (M.1 107 p) w) → AW l 4 yX8_says cX8_says 6 (some FieldType.int) 130 [some (.ref 105), some (.int (nI k)), some (.int w), some (.int (nI p)), some (.int (M.1 107 p)), some (.int (b01 (und8 (M.1 107 p) w)))] [] M (QI (S8_says M n (nI k) w)) := by
              intro hu
              refine aw_iload_n (i := 2) dX8_says_130 rfl rfl ?_
              have hk7 := k7 (lt7 h9 h15)
              rcases hk7 with rfl | rfl | rfl | rfl | rfl | rfl | rfl
              ·
                refine aw_tableIn (off := 41) (tgt := 172) dX8_says_131 (by decide) (by decide) (by decide) (by decide) ?_
                refine aw_aload_n (i := 0) dX8_says_172 rfl rfl ?_
                refine aw_getR gf_X8_29 sh_105 rfl dX8_says_173 ?_
                refine aw_iload_n (i := 3) dX8_says_176 rfl rfl ?_
                refine aw_ialdN sh_109 (by omega) (by omega) dX8_says_177 ?_
                exact aw_iret rfl dX8_says_178 ⟨_, rfl, by unfold S8_says; rw [nI_clamp (show k < 2 ^ 31 from by omega), eS, nI_clamp (show p < 2 ^ 31 from by omega), pIf_t h5, pIf_t (by decide), pIf_f h31, pIf_f h47, pIf_t hu]; exact ⟨by unfold wrd8; rw [pIf_t rfl], rfl⟩⟩
              ·
                refine aw_tableIn (off := 48) (tgt := 179) dX8_says_131 (by decide) (by decide) (by decide) (by decide) ?_
                refine aw_aload_n (i := 0) dX8_says_179 rfl rfl ?_
                refine aw_getR gf_X8_35 sh_105 rfl dX8_says_180 ?_
                refine aw_iload_n (i := 3) dX8_says_183 rfl rfl ?_
                refine aw_ialdN sh_111 (by omega) (by omega) dX8_says_184 ?_
                exact aw_iret rfl dX8_says_185 ⟨_, rfl, by unfold S8_says; rw [nI_clamp (show k < 2 ^ 31 from by omega), eS, nI_clamp (show p < 2 ^ 31 from by omega), pIf_t h5, pIf_t (by decide), pIf_f h31, pIf_f h47, pIf_t hu]; exact ⟨by unfold wrd8; first | rw [pIf_f (by decide), pIf_t (Or.inl rfl)] | rw [pIf_f (by decide), pIf_t (Or.inr rfl)], rfl⟩⟩
              ·
                refine aw_tableIn (off := 55) (tgt := 186) dX8_says_131 (by decide) (by decide) (by decide) (by decide) ?_
                refine aw_aload_n (i := 0) dX8_says_186 rfl rfl ?_
                refine aw_iload_n (i := 3) dX8_says_187 rfl rfl ?_
                refine aw_cVi ck_X8_149 (m_X8_heardBy hg.1 hg.2.1 hg.2.2.1 hp) sh_105 rfl (by decide) (by decide) rfl rfl (Nat.le_of_ble_eq_true rfl) dX8_says_188 ?_
                exact aw_iret rfl dX8_says_191 ⟨_, rfl, by unfold S8_says; rw [nI_clamp (show k < 2 ^ 31 from by omega), eS, nI_clamp (show p < 2 ^ 31 from by omega), pIf_t h5, pIf_t (by decide), pIf_f h31, pIf_f h47, pIf_t hu]; exact ⟨by unfold wrd8; rw [pIf_f (by decide), pIf_f (by decide), pIf_t rfl], rfl⟩⟩
              ·
                refine aw_tableIn (off := 61) (tgt := 192) dX8_says_131 (by decide) (by decide) (by decide) (by decide) ?_
                refine aw_aload_n (i := 0) dX8_says_192 rfl rfl ?_
                refine aw_iload_n (i := 3) dX8_says_193 rfl rfl ?_
                refine aw_cVi ck_X8_152 (m_X8_besideOf hg.1 hg.2.1 hp) sh_105 rfl (by decide) (by decide) rfl rfl (Nat.le_of_ble_eq_true rfl) dX8_says_194 ?_
                exact aw_iret rfl dX8_says_197 ⟨_, rfl, by unfold S8_says; rw [nI_clamp (show k < 2 ^ 31 from by omega), eS, nI_clamp (show p < 2 ^ 31 from by omega), pIf_t h5, pIf_t (by decide), pIf_f h31, pIf_f h47, pIf_t hu]; exact ⟨by unfold wrd8; rw [pIf_f (by decide), pIf_f (by decide), pIf_f (by decide), pIf_t rfl], rfl⟩⟩
              ·
                refine aw_tableIn (off := 67) (tgt := 198) dX8_says_131 (by decide) (by decide) (by decide) (by decide) ?_
                refine aw_aload_n (i := 0) dX8_says_198 rfl rfl ?_
                refine aw_getR gf_X8_38 sh_105 rfl dX8_says_199 ?_
                refine aw_iload_n (i := 3) dX8_says_202 rfl rfl ?_
                refine aw_ialdN sh_112 (by omega) (by omega) dX8_says_203 ?_
                exact aw_iret rfl dX8_says_204 ⟨_, rfl, by unfold S8_says; rw [nI_clamp (show k < 2 ^ 31 from by omega), eS, nI_clamp (show p < 2 ^ 31 from by omega), pIf_t h5, pIf_t (by decide), pIf_f h31, pIf_f h47, pIf_t hu]; exact ⟨by unfold wrd8; rw [pIf_f (by decide), pIf_f (by decide), pIf_f (by decide), pIf_f (by decide), pIf_t rfl], rfl⟩⟩
              ·
                refine aw_tableIn (off := 74) (tgt := 205) dX8_says_131 (by decide) (by decide) (by decide) (by decide) ?_
                refine aw_aload_n (i := 0) dX8_says_205 rfl rfl ?_
                refine aw_getR gf_X8_41 sh_105 rfl dX8_says_206 ?_
                refine aw_iload_n (i := 3) dX8_says_209 rfl rfl ?_
                refine aw_ialdN sh_113 (by omega) (by omega) dX8_says_210 ?_
                refine aw_iconst (v := 1) dX8_says_211 (by decide) ?_
                refine aw_icmp_ne (tgt := 224) dX8_says_212 (by decide) (fun h212 => ?_) (fun h212 => ?_)
                ·
                  refine aw_iconst (v := 0) dX8_says_224 (by decide) ?_
                  exact aw_iret rfl dX8_says_225 ⟨_, rfl, by unfold S8_says; rw [nI_clamp (show k < 2 ^ 31 from by omega), eS, nI_clamp (show p < 2 ^ 31 from by omega), pIf_t h5, pIf_t (by decide), pIf_f h31, pIf_f h47, pIf_t hu]; exact ⟨by unfold wrd8; rw [pIf_f (by decide), pIf_f (by decide), pIf_f (by decide), pIf_f (by decide), pIf_f (by decide)]; first | rw [pIf_t h212] | rw [pIf_f h212], rfl⟩⟩
                ·
                  refine aw_aload_n (i := 0) dX8_says_215 rfl rfl ?_
                  refine aw_getR gf_X8_44 sh_105 rfl dX8_says_216 ?_
                  refine aw_iload_n (i := 3) dX8_says_219 rfl rfl ?_
                  refine aw_ialdN sh_114 (by omega) (by omega) dX8_says_220 ?_
                  refine aw_goto (tgt := 225) dX8_says_221 (by decide) ?_
                  exact aw_iret rfl dX8_says_225 ⟨_, rfl, by unfold S8_says; rw [nI_clamp (show k < 2 ^ 31 from by omega), eS, nI_clamp (show p < 2 ^ 31 from by omega), pIf_t h5, pIf_t (by decide), pIf_f h31, pIf_f h47, pIf_t hu]; exact ⟨by unfold wrd8; rw [pIf_f (by decide), pIf_f (by decide), pIf_f (by decide), pIf_f (by decide), pIf_f (by decide)]; first | rw [pIf_t h212] | rw [pIf_f h212], rfl⟩⟩
              ·
                refine aw_tableIn (off := 48) (tgt := 179) dX8_says_131 (by decide) (by decide) (by decide) (by decide) ?_
                refine aw_aload_n (i := 0) dX8_says_179 rfl rfl ?_
                refine aw_getR gf_X8_35 sh_105 rfl dX8_says_180 ?_
                refine aw_iload_n (i := 3) dX8_says_183 rfl rfl ?_
                refine aw_ialdN sh_111 (by omega) (by omega) dX8_says_184 ?_
                exact aw_iret rfl dX8_says_185 ⟨_, rfl, by unfold S8_says; rw [nI_clamp (show k < 2 ^ 31 from by omega), eS, nI_clamp (show p < 2 ^ 31 from by omega), pIf_t h5, pIf_t (by decide), pIf_f h31, pIf_f h47, pIf_t hu]; exact ⟨by unfold wrd8; first | rw [pIf_f (by decide), pIf_t (Or.inl rfl)] | rw [pIf_f (by decide), pIf_t (Or.inr rfl)], rfl⟩⟩
            have J108 : AW l 4 yX8_says cX8_says 6 (some FieldType.int) 108 [some (.ref 105), some (.int (nI k)), some (.int w), some (.int (nI p)), some (.int (M.1 107 p)), some (.int (b01 (und8 (M.1 107 p) w)))] [] M (QI (S8_says M n (nI k) w)) := by
              refine aw_iload_n (i := 2) dX8_says_108 rfl rfl ?_
              refine aw_if_eq (tgt := 130) dX8_says_109 (by decide) (fun h109 => ?_) (fun h109 => ?_)
              ·
                exact J130 (Or.inl h109)
              ·
                refine aw_iload_n (i := 2) dX8_says_112 rfl rfl ?_
                refine aw_iload (i := 4) dX8_says_113 rfl ?_
                refine aw_icmp_eq (tgt := 130) dX8_says_115 (by decide) (fun h115 => ?_) (fun h115 => ?_)
                ·
                  exact J130 (Or.inr (Or.inl h115))
                ·
                  refine aw_iload (i := 5) dX8_says_118 rfl ?_
                  refine aw_ifne_b (tgt := 130) dX8_says_120 (by decide) (fun h120 => ?_) (fun h120 => ?_)
                  ·
                    exact J130 (Or.inr (Or.inr h120))
                  ·
                    refine aw_aload_n (i := 0) dX8_says_123 rfl rfl ?_
                    refine aw_bipush (v := (-2)) dX8_says_124 (by decide) ?_
                    refine aw_cVi ck_X8_142 (m_X8_no (k := 2) (by decide) (by decide)) sh_105 rfl (by decide) (by decide) rfl rfl (Nat.le_of_ble_eq_true rfl) dX8_says_126 ?_
                    exact aw_iret rfl dX8_says_129 ⟨_, rfl, by unfold S8_says; rw [nI_clamp (show k < 2 ^ 31 from by omega), eS, nI_clamp (show p < 2 ^ 31 from by omega), pIf_t h5, pIf_t ⟨h9, Int32.not_lt.mpr h15⟩, pIf_f h31, pIf_f h47, pIf_f (fun q => q.elim h109 (fun q => q.elim h115 h120))]; exact ⟨rfl, rfl⟩⟩
            refine aw_iload_n (i := 2) dX8_says_72 rfl rfl ?_
            refine aw_iconst (v := 1) dX8_says_73 (by decide) ?_
            refine aw_icmp_ne (tgt := 84) dX8_says_74 (by decide) (fun h74 => ?_) (fun h74 => ?_)
            ·
              refine aw_iload_n (i := 2) dX8_says_84 rfl rfl ?_
              refine aw_iconst (v := 2) dX8_says_85 (by decide) ?_
              refine aw_icmp_ne (tgt := 105) dX8_says_86 (by decide) (fun h86 => ?_) (fun h86 => ?_)
              ·
                refine aw_iconst (v := 0) dX8_says_105 (by decide) ?_
                refine aw_istore (i := 5) dX8_says_106 (by decide) ?_
                refine aw_loc (la := [some (.ref 105), some (.int (nI k)), some (.int w), some (.int (nI p)), some (.int (M.1 107 p)), some (.int (b01 (und8 (M.1 107 p) w)))]) ⟨rfl, rfl, rfl, rfl, rfl, congrArg (fun z => some (Value.int z)) (b01_f (fun q => q.elim (fun z => by first | exact h74 z.1 | exact h81 z.2) (fun z => by first | exact h86 z.1 | exact z.2.1 h92 | exact z.2.2 h98))).symm, trivial⟩ J108
              ·
                refine aw_iload (i := 4) dX8_says_89 rfl ?_
                refine aw_iconst (v := 3) dX8_says_91 (by decide) ?_
                refine aw_icmp_lt (tgt := 105) dX8_says_92 (by decide) (fun h92 => ?_) (fun h92 => ?_)
                ·
                  refine aw_iconst (v := 0) dX8_says_105 (by decide) ?_
                  refine aw_istore (i := 5) dX8_says_106 (by decide) ?_
                  refine aw_loc (la := [some (.ref 105), some (.int (nI k)), some (.int w), some (.int (nI p)), some (.int (M.1 107 p)), some (.int (b01 (und8 (M.1 107 p) w)))]) ⟨rfl, rfl, rfl, rfl, rfl, congrArg (fun z => some (Value.int z)) (b01_f (fun q => q.elim (fun z => by first | exact h74 z.1 | exact h81 z.2) (fun z => by first | exact h86 z.1 | exact z.2.1 h92 | exact z.2.2 h98))).symm, trivial⟩ J108
                ·
                  refine aw_iload (i := 4) dX8_says_95 rfl ?_
                  refine aw_iconst (v := 5) dX8_says_97 (by decide) ?_
                  refine aw_icmp_gt (tgt := 105) dX8_says_98 (by decide) (fun h98 => ?_) (fun h98 => ?_)
                  ·
                    refine aw_iconst (v := 0) dX8_says_105 (by decide) ?_
                    refine aw_istore (i := 5) dX8_says_106 (by decide) ?_
                    refine aw_loc (la := [some (.ref 105), some (.int (nI k)), some (.int w), some (.int (nI p)), some (.int (M.1 107 p)), some (.int (b01 (und8 (M.1 107 p) w)))]) ⟨rfl, rfl, rfl, rfl, rfl, congrArg (fun z => some (Value.int z)) (b01_f (fun q => q.elim (fun z => by first | exact h74 z.1 | exact h81 z.2) (fun z => by first | exact h86 z.1 | exact z.2.1 h92 | exact z.2.2 h98))).symm, trivial⟩ J108
                  ·
                    refine aw_iconst (v := 1) dX8_says_101 (by decide) ?_
                    refine aw_goto (tgt := 106) dX8_says_102 (by decide) ?_
                    refine aw_istore (i := 5) dX8_says_106 (by decide) ?_
                    refine aw_loc (la := [some (.ref 105), some (.int (nI k)), some (.int w), some (.int (nI p)), some (.int (M.1 107 p)), some (.int (b01 (und8 (M.1 107 p) w)))]) ⟨rfl, rfl, rfl, rfl, rfl, congrArg (fun z => some (Value.int z)) (b01_t (by first | exact Or.inl ⟨h74, h81⟩ | exact Or.inr ⟨h86, h92, h98⟩)).symm, trivial⟩ J108
            ·
              refine aw_iload (i := 4) dX8_says_77 rfl ?_
              refine aw_bipush (v := 6) dX8_says_79 (by decide) ?_
              refine aw_icmp_eq (tgt := 101) dX8_says_81 (by decide) (fun h81 => ?_) (fun h81 => ?_)
              ·
                refine aw_iconst (v := 1) dX8_says_101 (by decide) ?_
                refine aw_goto (tgt := 106) dX8_says_102 (by decide) ?_
                refine aw_istore (i := 5) dX8_says_106 (by decide) ?_
                refine aw_loc (la := [some (.ref 105), some (.int (nI k)), some (.int w), some (.int (nI p)), some (.int (M.1 107 p)), some (.int (b01 (und8 (M.1 107 p) w)))]) ⟨rfl, rfl, rfl, rfl, rfl, congrArg (fun z => some (Value.int z)) (b01_t (by first | exact Or.inl ⟨h74, h81⟩ | exact Or.inr ⟨h86, h92, h98⟩)).symm, trivial⟩ J108
              ·
                refine aw_iload_n (i := 2) dX8_says_84 rfl rfl ?_
                refine aw_iconst (v := 2) dX8_says_85 (by decide) ?_
                refine aw_icmp_ne (tgt := 105) dX8_says_86 (by decide) (fun h86 => ?_) (fun h86 => ?_)
                ·
                  refine aw_iconst (v := 0) dX8_says_105 (by decide) ?_
                  refine aw_istore (i := 5) dX8_says_106 (by decide) ?_
                  refine aw_loc (la := [some (.ref 105), some (.int (nI k)), some (.int w), some (.int (nI p)), some (.int (M.1 107 p)), some (.int (b01 (und8 (M.1 107 p) w)))]) ⟨rfl, rfl, rfl, rfl, rfl, congrArg (fun z => some (Value.int z)) (b01_f (fun q => q.elim (fun z => by first | exact h74 z.1 | exact h81 z.2) (fun z => by first | exact h86 z.1 | exact z.2.1 h92 | exact z.2.2 h98))).symm, trivial⟩ J108
                ·
                  refine aw_iload (i := 4) dX8_says_89 rfl ?_
                  refine aw_iconst (v := 3) dX8_says_91 (by decide) ?_
                  refine aw_icmp_lt (tgt := 105) dX8_says_92 (by decide) (fun h92 => ?_) (fun h92 => ?_)
                  ·
                    refine aw_iconst (v := 0) dX8_says_105 (by decide) ?_
                    refine aw_istore (i := 5) dX8_says_106 (by decide) ?_
                    refine aw_loc (la := [some (.ref 105), some (.int (nI k)), some (.int w), some (.int (nI p)), some (.int (M.1 107 p)), some (.int (b01 (und8 (M.1 107 p) w)))]) ⟨rfl, rfl, rfl, rfl, rfl, congrArg (fun z => some (Value.int z)) (b01_f (fun q => q.elim (fun z => by first | exact h74 z.1 | exact h81 z.2) (fun z => by first | exact h86 z.1 | exact z.2.1 h92 | exact z.2.2 h98))).symm, trivial⟩ J108
                  ·
                    refine aw_iload (i := 4) dX8_says_95 rfl ?_
                    refine aw_iconst (v := 5) dX8_says_97 (by decide) ?_
                    refine aw_icmp_gt (tgt := 105) dX8_says_98 (by decide) (fun h98 => ?_) (fun h98 => ?_)
                    ·
                      refine aw_iconst (v := 0) dX8_says_105 (by decide) ?_
                      refine aw_istore (i := 5) dX8_says_106 (by decide) ?_
                      refine aw_loc (la := [some (.ref 105), some (.int (nI k)), some (.int w), some (.int (nI p)), some (.int (M.1 107 p)), some (.int (b01 (und8 (M.1 107 p) w)))]) ⟨rfl, rfl, rfl, rfl, rfl, congrArg (fun z => some (Value.int z)) (b01_f (fun q => q.elim (fun z => by first | exact h74 z.1 | exact h81 z.2) (fun z => by first | exact h86 z.1 | exact z.2.1 h92 | exact z.2.2 h98))).symm, trivial⟩ J108
                    ·
                      refine aw_iconst (v := 1) dX8_says_101 (by decide) ?_
                      refine aw_goto (tgt := 106) dX8_says_102 (by decide) ?_
                      refine aw_istore (i := 5) dX8_says_106 (by decide) ?_
                      refine aw_loc (la := [some (.ref 105), some (.int (nI k)), some (.int w), some (.int (nI p)), some (.int (M.1 107 p)), some (.int (b01 (und8 (M.1 107 p) w)))]) ⟨rfl, rfl, rfl, rfl, rfl, congrArg (fun z => some (Value.int z)) (b01_t (by first | exact Or.inl ⟨h74, h81⟩ | exact Or.inr ⟨h86, h92, h98⟩)).symm, trivial⟩ J108
          ·
            refine aw_aload_n (i := 0) dX8_says_50 rfl rfl ?_
            refine aw_bipush (v := (-3)) dX8_says_51 (by decide) ?_
            refine aw_cVi ck_X8_142 (m_X8_no (k := 3) (by decide) (by decide)) sh_105 rfl (by decide) (by decide) rfl rfl (Nat.le_of_ble_eq_true rfl) dX8_says_53 ?_
            exact aw_iret rfl dX8_says_56 ⟨_, rfl, by unfold S8_says; rw [nI_clamp (show k < 2 ^ 31 from by omega), pIf_t h5, pIf_t ⟨h9, Int32.not_lt.mpr h15⟩]; (first | rw [pIf_t h31] | rw [pIf_f h31] | rw [pIf_f (Int32.not_lt.mpr h31)] | rw [pIf_f (Int32.not_le.mpr h31)] | rw [pIf_t (Int32.not_le.mp h31)] | rw [pIf_t (Int32.not_lt.mp h31)] | rw [pIf_f (Nat.not_lt.mpr h31)] | rw [pIf_f (Nat.not_le.mpr h31)] | rw [pIf_t (Nat.not_le.mp h31)] | rw [pIf_t (Nat.not_lt.mp h31)] | skip); (first | rw [pIf_t h47] | rw [pIf_f h47] | rw [pIf_f (Int32.not_lt.mpr h47)] | rw [pIf_f (Int32.not_le.mpr h47)] | rw [pIf_t (Int32.not_le.mp h47)] | rw [pIf_t (Int32.not_lt.mp h47)] | rw [pIf_f (Nat.not_lt.mpr h47)] | rw [pIf_f (Nat.not_le.mpr h47)] | rw [pIf_t (Nat.not_le.mp h47)] | rw [pIf_t (Nat.not_lt.mp h47)] | skip); exact ⟨rfl, rfl⟩⟩
        ·
          refine aw_aload_n (i := 0) dX8_says_34 rfl rfl ?_
          refine aw_bipush (v := (-2)) dX8_says_35 (by decide) ?_
          refine aw_cVi ck_X8_142 (m_X8_no (k := 2) (by decide) (by decide)) sh_105 rfl (by decide) (by decide) rfl rfl (Nat.le_of_ble_eq_true rfl) dX8_says_37 ?_
          exact aw_iret rfl dX8_says_40 ⟨_, rfl, by unfold S8_says; rw [nI_clamp (show k < 2 ^ 31 from by omega), pIf_t h5, pIf_t ⟨h9, Int32.not_lt.mpr h15⟩]; (first | rw [pIf_t h31] | rw [pIf_f h31] | rw [pIf_f (Int32.not_lt.mpr h31)] | rw [pIf_f (Int32.not_le.mpr h31)] | rw [pIf_t (Int32.not_le.mp h31)] | rw [pIf_t (Int32.not_lt.mp h31)] | rw [pIf_f (Nat.not_lt.mpr h31)] | rw [pIf_f (Nat.not_le.mpr h31)] | rw [pIf_t (Nat.not_le.mp h31)] | rw [pIf_t (Nat.not_lt.mp h31)] | skip); exact ⟨rfl, rfl⟩⟩
      ·
        refine aw_aload_n (i := 0) dX8_says_18 rfl rfl ?_
        refine aw_iconst (v := (-1)) dX8_says_19 (by decide) ?_
        refine aw_cVi ck_X8_142 (m_X8_no (k := 1) (by decide) (by decide)) sh_105 rfl (by decide) (by decide) rfl rfl (Nat.le_of_ble_eq_true rfl) dX8_says_20 ?_
        exact aw_iret rfl dX8_says_23 ⟨_, rfl, by unfold S8_says; first | (rw [pIf_f h5]; exact ⟨rfl, rfl⟩) | (rw [pIf_t h5, pIf_f (fun q => by first | exact q.1 h9 | exact h15 (Int32.not_lt.mp q.2))]; exact ⟨rfl, rfl⟩)⟩
def mnP (M : Mm) (x : Int32) (i : Nat) : Prop := (x = 2 ∧ M.1 115 i = 1) ∨ (¬ x = 2 ∧ M.1 113 i = 2)
def S8_many (M : Mm) (n : Nat) (x : Int32) (v : Int32) (M' : Mm) : Prop := pIf (x < 0) (v = -5 ∧ M' = nox M 5) (pIf (x ≤ 3) (pIf (x = 0) (v = nI (cntN n (fun i => M.1 113 i = 1)) ∧ M' = M) (pIf (x = 1) (v = bcI (M.1 105 7) ∧ M' = M) (v = nI (cntN n (mnP M x)) ∧ M' = M))) (v = -5 ∧ M' = nox M 5))
theorem m_X8_many {l : Launch} {M : Mm} {x : Int32} {n : Nat} (hn : M.1 105 0 = nI n) (hn30 : n ≤ 30) : AMet l 4 yX8_many cX8_many 4 (some FieldType.int) [.ref 105, .int x] M (QI (S8_many M n x)) := by
  refine AMet.of (by decide) (by simp [aargs, Value.category]) ?_
  show AW l 4 yX8_many cX8_many 4 (some FieldType.int) 0 [some (.ref 105), some (.int x), none, none] [] M _
  refine aw_iload_n (i := 1) dX8_many_0 rfl rfl ?_
  refine aw_if_lt (tgt := 9) dX8_many_1 (by decide) (fun h1 => ?_) (fun h1 => ?_)
  ·
    refine aw_aload_n (i := 0) dX8_many_9 rfl rfl ?_
    refine aw_bipush (v := (-5)) dX8_many_10 (by decide) ?_
    refine aw_cVi ck_X8_142 (m_X8_no (k := 5) (by decide) (by decide)) sh_105 rfl (by decide) (by decide) rfl rfl (Nat.le_of_ble_eq_true rfl) dX8_many_12 ?_
    exact aw_iret rfl dX8_many_15 (by first | contradiction | exact ⟨_, rfl, by unfold S8_many; (first | rw [pIf_t h1] | rw [pIf_f h1] | rw [pIf_f (Int32.not_lt.mpr h1)] | rw [pIf_f (Int32.not_le.mpr h1)] | rw [pIf_t (Int32.not_le.mp h1)] | rw [pIf_t (Int32.not_lt.mp h1)] | rw [pIf_f (Nat.not_lt.mpr h1)] | rw [pIf_f (Nat.not_le.mpr h1)] | rw [pIf_t (Nat.not_le.mp h1)] | rw [pIf_t (Nat.not_lt.mp h1)] | skip); exact ⟨rfl, rfl⟩⟩)
  ·
    refine aw_iload_n (i := 1) dX8_many_4 rfl rfl ?_
    refine aw_iconst (v := 3) dX8_many_5 (by decide) ?_
    refine aw_icmp_le (tgt := 16) dX8_many_6 (by decide) (fun h6 => ?_) (fun h6 => ?_)
    ·
      refine aw_iload_n (i := 1) dX8_many_16 rfl rfl ?_
      refine aw_if_ne (tgt := 25) dX8_many_17 (by decide) (fun h17 => ?_) (fun h17 => ?_)
      ·
        refine aw_iload_n (i := 1) dX8_many_25 rfl rfl ?_
        refine aw_iconst (v := 1) dX8_many_26 (by decide) ?_
        refine aw_icmp_ne (tgt := 39) dX8_many_27 (by decide) (fun h27 => ?_) (fun h27 => ?_)
        ·
          refine aw_iconst (v := 0) dX8_many_39 (by decide) ?_
          refine aw_istore_n (i := 2) dX8_many_40 rfl (by decide) ?_
          refine aw_iconst (v := 0) dX8_many_41 (by decide) ?_
          refine aw_istore_n (i := 3) dX8_many_42 rfl (by decide) ?_
          have lp43 : ∀ k9 i, i + k9 = n → AW l 4 yX8_many cX8_many 4 (some FieldType.int) 43 [some (.ref 105), some (.int x), some (.int (nI (cntN i (mnP M x)))), some (.int (nI i))] [] M (QI (S8_many M n x)) := by
            intro k9
            induction k9 using Nat.strongRecOn with
            | _ k9 ih =>
            intro i hk9
            refine aw_iload_n (i := 3) dX8_many_43 rfl rfl ?_
            refine aw_aload_n (i := 0) dX8_many_44 rfl rfl ?_
            refine aw_getN (n := n) gf_X8_132 sh_105 rfl (by first | exact hn | simpa [mI] using hn) dX8_many_45 ?_
            refine aw_icmp_geN (tgt := 88) (by omega) (by omega) dX8_many_48 (by decide) (fun h48 => ?_) (fun h48 => ?_)
            ·
              refine aw_iload_n (i := 2) dX8_many_88 rfl rfl ?_
              exact aw_iret rfl dX8_many_89 ⟨_, rfl, by unfold S8_many; (first | rw [pIf_t h1] | rw [pIf_f h1] | rw [pIf_f (Int32.not_lt.mpr h1)] | rw [pIf_f (Int32.not_le.mpr h1)] | rw [pIf_t (Int32.not_le.mp h1)] | rw [pIf_t (Int32.not_lt.mp h1)] | rw [pIf_f (Nat.not_lt.mpr h1)] | rw [pIf_f (Nat.not_le.mpr h1)] | rw [pIf_t (Nat.not_le.mp h1)] | rw [pIf_t (Nat.not_lt.mp h1)] | skip); (first | rw [pIf_t h6] | rw [pIf_f h6] | rw [pIf_f (Int32.not_lt.mpr h6)] | rw [pIf_f (Int32.not_le.mpr h6)] | rw [pIf_t (Int32.not_le.mp h6)] | rw [pIf_t (Int32.not_lt.mp h6)] | rw [pIf_f (Nat.not_lt.mpr h6)] | rw [pIf_f (Nat.not_le.mpr h6)] | rw [pIf_t (Nat.not_le.mp h6)] | rw [pIf_t (Nat.not_lt.mp h6)] | skip); (first | rw [pIf_t h17] | rw [pIf_f h17] | rw [pIf_f (Int32.not_lt.mpr h17)] | rw [pIf_f (Int32.not_le.mpr h17)] | rw [pIf_t (Int32.not_le.mp h17)] | rw [pIf_t (Int32.not_lt.mp h17)] | rw [pIf_f (Nat.not_lt.mpr h17)] | rw [pIf_f (Nat.not_le.mpr h17)] | rw [pIf_t (Nat.not_le.mp h17)] | rw [pIf_t (Nat.not_lt.mp h17)] | skip); (first | rw [pIf_t h27] | rw [pIf_f h27] | rw [pIf_f (Int32.not_lt.mpr h27)] | rw [pIf_f (Int32.not_le.mpr h27)] | rw [pIf_t (Int32.not_le.mp h27)] | rw [pIf_t (Int32.not_lt.mp h27)] | rw [pIf_f (Nat.not_lt.mpr h27)] | rw [pIf_f (Nat.not_le.mpr h27)] | rw [pIf_t (Nat.not_le.mp h27)] | rw [pIf_t (Nat.not_lt.mp h27)] | skip); exact ⟨by rw [show i = n from by omega], rfl⟩⟩
            ·
              refine aw_iload_n (i := 1) dX8_many_51 rfl rfl ?_
              refine aw_iconst (v := 2) dX8_many_52 (by decide) ?_
              refine aw_icmp_ne (tgt := 69) dX8_many_53 (by decide) (fun h53 => ?_) (fun h53 => ?_)
              ·
                refine aw_aload_n (i := 0) dX8_many_69 rfl rfl ?_
                refine aw_getR gf_X8_41 sh_105 rfl dX8_many_70 ?_
                refine aw_iload_n (i := 3) dX8_many_73 rfl rfl ?_
                refine aw_ialdN sh_113 (by omega) (by omega) dX8_many_74 ?_
                refine aw_iconst (v := 2) dX8_many_75 (by decide) ?_
                refine aw_icmp_ne (tgt := 82) dX8_many_76 (by decide) (fun h76 => ?_) (fun h76 => ?_)
                ·
                  refine aw_iincN (i := 3) dX8_many_82 rfl (by decide) ?_
                  refine aw_goto (tgt := 43) dX8_many_85 (by decide) ?_
                  have hh : ¬ mnP M x i := fun z => z.elim (fun z => by first | exact h63 z.2 | exact h53 z.1) (fun z => by first | exact h76 z.2 | exact z.1 h53)
                  refine aw_loc (la := [some (.ref 105), some (.int x), some (.int (nI (cntN (i + 1) (mnP M x)))), some (.int (nI (i + 1)))]) ⟨rfl, rfl, congrArg (fun z => some (Value.int z)) (nI_cnt_f hh), rfl, trivial⟩ (ih (k9 - 1) (by omega) (i + 1) (by omega))
                ·
                  refine aw_iinc1 (i := 2) dX8_many_79 rfl (by decide) ?_
                  refine aw_iincN (i := 3) dX8_many_82 rfl (by decide) ?_
                  refine aw_goto (tgt := 43) dX8_many_85 (by decide) ?_
                  have hh : mnP M x i := by first | exact Or.inl ⟨h53, h63⟩ | exact Or.inr ⟨h53, h76⟩
                  refine aw_loc (la := [some (.ref 105), some (.int x), some (.int (nI (cntN (i + 1) (mnP M x)))), some (.int (nI (i + 1)))]) ⟨rfl, rfl, congrArg (fun z => some (Value.int z)) (nI_cnt_t hh), rfl, trivial⟩ (ih (k9 - 1) (by omega) (i + 1) (by omega))
              ·
                refine aw_aload_n (i := 0) dX8_many_56 rfl rfl ?_
                refine aw_getR gf_X8_47 sh_105 rfl dX8_many_57 ?_
                refine aw_iload_n (i := 3) dX8_many_60 rfl rfl ?_
                refine aw_ialdN sh_115 (by omega) (by omega) dX8_many_61 ?_
                refine aw_iconst (v := 1) dX8_many_62 (by decide) ?_
                refine aw_icmp_ne (tgt := 82) dX8_many_63 (by decide) (fun h63 => ?_) (fun h63 => ?_)
                ·
                  refine aw_iincN (i := 3) dX8_many_82 rfl (by decide) ?_
                  refine aw_goto (tgt := 43) dX8_many_85 (by decide) ?_
                  have hh : ¬ mnP M x i := fun z => z.elim (fun z => by first | exact h63 z.2 | exact h53 z.1) (fun z => by first | exact h76 z.2 | exact z.1 h53)
                  refine aw_loc (la := [some (.ref 105), some (.int x), some (.int (nI (cntN (i + 1) (mnP M x)))), some (.int (nI (i + 1)))]) ⟨rfl, rfl, congrArg (fun z => some (Value.int z)) (nI_cnt_f hh), rfl, trivial⟩ (ih (k9 - 1) (by omega) (i + 1) (by omega))
                ·
                  refine aw_goto (tgt := 79) dX8_many_66 (by decide) ?_
                  refine aw_iinc1 (i := 2) dX8_many_79 rfl (by decide) ?_
                  refine aw_iincN (i := 3) dX8_many_82 rfl (by decide) ?_
                  refine aw_goto (tgt := 43) dX8_many_85 (by decide) ?_
                  have hh : mnP M x i := by first | exact Or.inl ⟨h53, h63⟩ | exact Or.inr ⟨h53, h76⟩
                  refine aw_loc (la := [some (.ref 105), some (.int x), some (.int (nI (cntN (i + 1) (mnP M x)))), some (.int (nI (i + 1)))]) ⟨rfl, rfl, congrArg (fun z => some (Value.int z)) (nI_cnt_t hh), rfl, trivial⟩ (ih (k9 - 1) (by omega) (i + 1) (by omega))
          refine aw_loc (la := [some (.ref 105), some (.int x), some (.int (nI (cntN 0 (mnP M x)))), some (.int (nI 0))]) ⟨rfl, rfl, rfl, rfl, trivial⟩ ?_
          exact lp43 n 0 (by omega)
        ·
          refine aw_aload_n (i := 0) dX8_many_30 rfl rfl ?_
          refine aw_aload_n (i := 0) dX8_many_31 rfl rfl ?_
          refine aw_getI gf_X8_235 sh_105 rfl dX8_many_32 ?_
          refine aw_cVi ck_X8_253 m_X8_bits sh_105 rfl (by decide) (by decide) rfl rfl (Nat.le_of_ble_eq_true rfl) dX8_many_35 ?_
          exact aw_iret rfl dX8_many_38 (by first | contradiction | exact ⟨_, rfl, by unfold S8_many; (first | rw [pIf_t h1] | rw [pIf_f h1] | rw [pIf_f (Int32.not_lt.mpr h1)] | rw [pIf_f (Int32.not_le.mpr h1)] | rw [pIf_t (Int32.not_le.mp h1)] | rw [pIf_t (Int32.not_lt.mp h1)] | rw [pIf_f (Nat.not_lt.mpr h1)] | rw [pIf_f (Nat.not_le.mpr h1)] | rw [pIf_t (Nat.not_le.mp h1)] | rw [pIf_t (Nat.not_lt.mp h1)] | skip); (first | rw [pIf_t h6] | rw [pIf_f h6] | rw [pIf_f (Int32.not_lt.mpr h6)] | rw [pIf_f (Int32.not_le.mpr h6)] | rw [pIf_t (Int32.not_le.mp h6)] | rw [pIf_t (Int32.not_lt.mp h6)] | rw [pIf_f (Nat.not_lt.mpr h6)] | rw [pIf_f (Nat.not_le.mpr h6)] | rw [pIf_t (Nat.not_le.mp h6)] | rw [pIf_t (Nat.not_lt.mp h6)] | skip); (first | rw [pIf_t h17] | rw [pIf_f h17] | rw [pIf_f (Int32.not_lt.mpr h17)] | rw [pIf_f (Int32.not_le.mpr h17)] | rw [pIf_t (Int32.not_le.mp h17)] | rw [pIf_t (Int32.not_lt.mp h17)] | rw [pIf_f (Nat.not_lt.mpr h17)] | rw [pIf_f (Nat.not_le.mpr h17)] | rw [pIf_t (Nat.not_le.mp h17)] | rw [pIf_t (Nat.not_lt.mp h17)] | skip); (first | rw [pIf_t h27] | rw [pIf_f h27] | rw [pIf_f (Int32.not_lt.mpr h27)] | rw [pIf_f (Int32.not_le.mpr h27)] | rw [pIf_t (Int32.not_le.mp h27)] | rw [pIf_t (Int32.not_lt.mp h27)] | rw [pIf_f (Nat.not_lt.mpr h27)] | rw [pIf_f (Nat.not_le.mpr h27)] | rw [pIf_t (Nat.not_le.mp h27)] | rw [pIf_t (Nat.not_lt.mp h27)] | skip); exact ⟨rfl, rfl⟩⟩)
      ·
        refine aw_aload_n (i := 0) dX8_many_20 rfl rfl ?_
        refine aw_cVi ck_X8_238 (m_X8_clapping hn hn30) sh_105 rfl (by decide) (by decide) rfl rfl (Nat.le_of_ble_eq_true rfl) dX8_many_21 ?_
        exact aw_iret rfl dX8_many_24 (by first | contradiction | exact ⟨_, rfl, by unfold S8_many; (first | rw [pIf_t h1] | rw [pIf_f h1] | rw [pIf_f (Int32.not_lt.mpr h1)] | rw [pIf_f (Int32.not_le.mpr h1)] | rw [pIf_t (Int32.not_le.mp h1)] | rw [pIf_t (Int32.not_lt.mp h1)] | rw [pIf_f (Nat.not_lt.mpr h1)] | rw [pIf_f (Nat.not_le.mpr h1)] | rw [pIf_t (Nat.not_le.mp h1)] | rw [pIf_t (Nat.not_lt.mp h1)] | skip); (first | rw [pIf_t h6] | rw [pIf_f h6] | rw [pIf_f (Int32.not_lt.mpr h6)] | rw [pIf_f (Int32.not_le.mpr h6)] | rw [pIf_t (Int32.not_le.mp h6)] | rw [pIf_t (Int32.not_lt.mp h6)] | rw [pIf_f (Nat.not_lt.mpr h6)] | rw [pIf_f (Nat.not_le.mpr h6)] | rw [pIf_t (Nat.not_le.mp h6)] | rw [pIf_t (Nat.not_lt.mp h6)] | skip); (first | rw [pIf_t h17] | rw [pIf_f h17] | rw [pIf_f (Int32.not_lt.mpr h17)] | rw [pIf_f (Int32.not_le.mpr h17)] | rw [pIf_t (Int32.not_le.mp h17)] | rw [pIf_t (Int32.not_lt.mp h17)] | rw [pIf_f (Nat.not_lt.mpr h17)] | rw [pIf_f (Nat.not_le.mpr h17)] | rw [pIf_t (Nat.not_le.mp h17)] | rw [pIf_t (Nat.not_lt.mp h17)] | skip); exact ⟨rfl, rfl⟩⟩)
    ·
      refine aw_aload_n (i := 0) dX8_many_9 rfl rfl ?_
      refine aw_bipush (v := (-5)) dX8_many_10 (by decide) ?_
      refine aw_cVi ck_X8_142 (m_X8_no (k := 5) (by decide) (by decide)) sh_105 rfl (by decide) (by decide) rfl rfl (Nat.le_of_ble_eq_true rfl) dX8_many_12 ?_
      exact aw_iret rfl dX8_many_15 (by first | contradiction | exact ⟨_, rfl, by unfold S8_many; (first | rw [pIf_t h1] | rw [pIf_f h1] | rw [pIf_f (Int32.not_lt.mpr h1)] | rw [pIf_f (Int32.not_le.mpr h1)] | rw [pIf_t (Int32.not_le.mp h1)] | rw [pIf_t (Int32.not_lt.mp h1)] | rw [pIf_f (Nat.not_lt.mpr h1)] | rw [pIf_f (Nat.not_le.mpr h1)] | rw [pIf_t (Nat.not_le.mp h1)] | rw [pIf_t (Nat.not_lt.mp h1)] | skip); (first | rw [pIf_t h6] | rw [pIf_f h6] | rw [pIf_f (Int32.not_lt.mpr h6)] | rw [pIf_f (Int32.not_le.mpr h6)] | rw [pIf_t (Int32.not_le.mp h6)] | rw [pIf_t (Int32.not_lt.mp h6)] | rw [pIf_f (Nat.not_lt.mpr h6)] | rw [pIf_f (Nat.not_le.mpr h6)] | rw [pIf_t (Nat.not_le.mp h6)] | rw [pIf_t (Nat.not_lt.mp h6)] | skip); exact ⟨rfl, rfl⟩⟩)
def r8 (kk a : Nat) (m pc x : Int32) : Int32 × List Int32 := match a with
  | 0 => heaR kk m pc x
  | 1 => begR kk m pc x
  | _ => steR kk m pc x
theorem z3 {a : Int32} (h1 : ¬ a < 0) (h2 : a ≤ 2) : a = 0 ∨ a = 1 ∨ a = 2 := by
  have e0 : (0 : Int32).toInt = 0 := by decide
  have e2 : (2 : Int32).toInt = 2 := by decide
  rw [i32_lt, e0] at h1
  rw [Int32.le_iff_toInt_le, e2] at h2
  rcases (show a.toInt = 0 ∨ a.toInt = 1 ∨ a.toInt = 2 by omega) with q | q | q
  · exact Or.inl (i32_lit q 0 (by decide))
  · exact Or.inr (Or.inl (i32_lit q 1 (by decide)))
  · exact Or.inr (Or.inr (i32_lit q 2 (by decide)))
def S8_act (M : Mm) (x a y : Int32) (v : Int32) (M' : Mm) : Prop := pIf (¬ x < 0 ∧ ¬ (mI M 105 54 0).1 105 0 ≤ x) (pIf (a < 0) (v = 0 ∧ M' = (mI M 105 54 0)) (pIf (a ≤ 2) (v = (r8 (M.1 107 x.toNatClampNeg).toNatClampNeg a.toNatClampNeg x (M.1 110 x.toNatClampNeg) y).1 ∧ M' = tr8 0 (r8 (M.1 107 x.toNatClampNeg).toNatClampNeg a.toNatClampNeg x (M.1 110 x.toNatClampNeg) y).2 (mI M 105 54 0)) (v = 0 ∧ M' = (mI M 105 54 0)))) (v = 0 ∧ M' = (mI M 105 54 0))
theorem m_X8_act {l : Launch} {M : Mm} {x a y : Int32} {n : Nat} (hg : g8 n M) : AMet l 6 yX8_act cX8_act 4 (some FieldType.int) [.ref 105, .int x, .int a, .int y] M (QI (S8_act M x a y)) := by
  refine AMet.of (by decide) (by simp [aargs, Value.category]) ?_
  show AW l 6 yX8_act cX8_act 4 (some FieldType.int) 0 [some (.ref 105), some (.int x), some (.int a), some (.int y)] [] M _
  have hg30 := hg.2.1
  refine aw_aload_n (i := 0) dX8_act_0 rfl rfl ?_
  refine aw_iconst (v := 0) dX8_act_1 (by decide) ?_
  refine aw_putI pf_X8_303 sh_105 rfl dX8_act_2 ?_
  refine aw_aload_n (i := 0) dX8_act_5 rfl rfl ?_
  refine aw_iload_n (i := 1) dX8_act_6 rfl rfl ?_
  refine aw_cVi ck_X8_146 m_X8_isPerson sh_105 rfl (by decide) (by decide) rfl rfl (Nat.le_of_ble_eq_true rfl) dX8_act_7 ?_
  refine aw_ifeq_b (tgt := 22) dX8_act_10 (by decide) (fun h10 => ?_) (fun h10 => ?_)
  ·
    refine aw_iconst (v := 0) dX8_act_22 (by decide) ?_
    exact aw_iret rfl dX8_act_23 (by first | contradiction | exact ⟨_, rfl, by unfold S8_act; (first | rw [pIf_t h10] | rw [pIf_f h10] | rw [pIf_f (Int32.not_lt.mpr h10)] | rw [pIf_f (Int32.not_le.mpr h10)] | rw [pIf_t (Int32.not_le.mp h10)] | rw [pIf_t (Int32.not_lt.mp h10)] | rw [pIf_f (Nat.not_lt.mpr h10)] | rw [pIf_f (Nat.not_le.mpr h10)] | rw [pIf_t (Nat.not_le.mp h10)] | rw [pIf_t (Nat.not_lt.mp h10)] | skip); exact ⟨rfl, rfl⟩⟩)
  ·
    refine aw_iload_n (i := 2) dX8_act_13 rfl rfl ?_
    refine aw_if_lt (tgt := 22) dX8_act_14 (by decide) (fun h14 => ?_) (fun h14 => ?_)
    ·
      refine aw_iconst (v := 0) dX8_act_22 (by decide) ?_
      exact aw_iret rfl dX8_act_23 (by first | contradiction | exact ⟨_, rfl, by unfold S8_act; (first | rw [pIf_t h10] | rw [pIf_f h10] | rw [pIf_f (Int32.not_lt.mpr h10)] | rw [pIf_f (Int32.not_le.mpr h10)] | rw [pIf_t (Int32.not_le.mp h10)] | rw [pIf_t (Int32.not_lt.mp h10)] | rw [pIf_f (Nat.not_lt.mpr h10)] | rw [pIf_f (Nat.not_le.mpr h10)] | rw [pIf_t (Nat.not_le.mp h10)] | rw [pIf_t (Nat.not_lt.mp h10)] | skip); (first | rw [pIf_t h14] | rw [pIf_f h14] | rw [pIf_f (Int32.not_lt.mpr h14)] | rw [pIf_f (Int32.not_le.mpr h14)] | rw [pIf_t (Int32.not_le.mp h14)] | rw [pIf_t (Int32.not_lt.mp h14)] | rw [pIf_f (Nat.not_lt.mpr h14)] | rw [pIf_f (Nat.not_le.mpr h14)] | rw [pIf_t (Nat.not_le.mp h14)] | rw [pIf_t (Nat.not_lt.mp h14)] | skip); exact ⟨rfl, rfl⟩⟩)
    ·
      refine aw_iload_n (i := 2) dX8_act_17 rfl rfl ?_
      refine aw_iconst (v := 2) dX8_act_18 (by decide) ?_
      refine aw_icmp_le (tgt := 24) dX8_act_19 (by decide) (fun h19 => ?_) (fun h19 => ?_)
      ·
        obtain ⟨p, hp, rfl⟩ := has8 (g_105 (j := 54) (v := 0) (by decide) hg).1 hg.2.1 h10
        obtain ⟨kk, hkk, ek⟩ := hg.2.2.2.1 p hp
        have ek9 : (mI M 105 54 0).1 107 p = nI kk := (congrFun (mI_other (by decide)) p).trans ek
        have er9 : (mI M 105 54 0).1 105 54 = nI 0 := by rw [mI_self, upd_self]; rfl
        have ha3 := z3 h14 h19
        rcases ha3 with rfl | rfl | rfl
        ·
          refine aw_iload_n (i := 2) dX8_act_24 rfl rfl ?_
          refine aw_if_ne (tgt := 37) dX8_act_25 (by decide) (fun h25 => ?_) (fun h25 => ?_)
          ·
            exact absurd h25 (by decide)
          ·
            refine aw_aload_n (i := 0) dX8_act_28 rfl rfl ?_
            refine aw_iload_n (i := 1) dX8_act_29 rfl rfl ?_
            refine aw_iload_n (i := 3) dX8_act_30 rfl rfl ?_
            refine aw_cVi ck_X8_310 (m_X8_hears (r := 0) (by omega) hkk ek9 er9 (by omega)) sh_105 rfl (by decide) (by decide) rfl rfl (Nat.le_of_ble_eq_true rfl) dX8_act_31 ?_
            refine aw_goto (tgt := 57) dX8_act_34 (by decide) ?_
            exact aw_iret rfl dX8_act_57 ⟨_, rfl, by unfold S8_act; rw [nI_clamp (show p < 2 ^ 31 from by omega), ek, nI_clamp (show kk < 2 ^ 31 from by omega)]; (first | rw [pIf_t h10] | rw [pIf_f h10] | rw [pIf_f (Int32.not_lt.mpr h10)] | rw [pIf_f (Int32.not_le.mpr h10)] | rw [pIf_t (Int32.not_le.mp h10)] | rw [pIf_t (Int32.not_lt.mp h10)] | rw [pIf_f (Nat.not_lt.mpr h10)] | rw [pIf_f (Nat.not_le.mpr h10)] | rw [pIf_t (Nat.not_le.mp h10)] | rw [pIf_t (Nat.not_lt.mp h10)] | skip); (first | rw [pIf_t h14] | rw [pIf_f h14] | rw [pIf_f (Int32.not_lt.mpr h14)] | rw [pIf_f (Int32.not_le.mpr h14)] | rw [pIf_t (Int32.not_le.mp h14)] | rw [pIf_t (Int32.not_lt.mp h14)] | rw [pIf_f (Nat.not_lt.mpr h14)] | rw [pIf_f (Nat.not_le.mpr h14)] | rw [pIf_t (Nat.not_le.mp h14)] | rw [pIf_t (Nat.not_lt.mp h14)] | skip); (first | rw [pIf_t h19] | rw [pIf_f h19] | rw [pIf_f (Int32.not_lt.mpr h19)] | rw [pIf_f (Int32.not_le.mpr h19)] | rw [pIf_t (Int32.not_le.mp h19)] | rw [pIf_t (Int32.not_lt.mp h19)] | rw [pIf_f (Nat.not_lt.mpr h19)] | rw [pIf_f (Nat.not_le.mpr h19)] | rw [pIf_t (Nat.not_le.mp h19)] | rw [pIf_t (Nat.not_lt.mp h19)] | skip); exact ⟨rfl, rfl⟩⟩
        ·
          refine aw_iload_n (i := 2) dX8_act_24 rfl rfl ?_
          refine aw_if_ne (tgt := 37) dX8_act_25 (by decide) (fun h25 => ?_) (fun h25 => ?_)
          ·
            refine aw_iload_n (i := 2) dX8_act_37 rfl rfl ?_
            refine aw_iconst (v := 1) dX8_act_38 (by decide) ?_
            refine aw_icmp_ne (tgt := 51) dX8_act_39 (by decide) (fun h39 => ?_) (fun h39 => ?_)
            ·
              exact absurd h39 (by decide)
            ·
              refine aw_aload_n (i := 0) dX8_act_42 rfl rfl ?_
              refine aw_iload_n (i := 1) dX8_act_43 rfl rfl ?_
              refine aw_iload_n (i := 3) dX8_act_44 rfl rfl ?_
              refine aw_cVi ck_X8_313 (m_X8_beginning (r := 0) (by omega) hkk ek9 er9 (by omega)) sh_105 rfl (by decide) (by decide) rfl rfl (Nat.le_of_ble_eq_true rfl) dX8_act_45 ?_
              refine aw_goto (tgt := 57) dX8_act_48 (by decide) ?_
              exact aw_iret rfl dX8_act_57 ⟨_, rfl, by unfold S8_act; rw [nI_clamp (show p < 2 ^ 31 from by omega), ek, nI_clamp (show kk < 2 ^ 31 from by omega)]; (first | rw [pIf_t h10] | rw [pIf_f h10] | rw [pIf_f (Int32.not_lt.mpr h10)] | rw [pIf_f (Int32.not_le.mpr h10)] | rw [pIf_t (Int32.not_le.mp h10)] | rw [pIf_t (Int32.not_lt.mp h10)] | rw [pIf_f (Nat.not_lt.mpr h10)] | rw [pIf_f (Nat.not_le.mpr h10)] | rw [pIf_t (Nat.not_le.mp h10)] | rw [pIf_t (Nat.not_lt.mp h10)] | skip); (first | rw [pIf_t h14] | rw [pIf_f h14] | rw [pIf_f (Int32.not_lt.mpr h14)] | rw [pIf_f (Int32.not_le.mpr h14)] | rw [pIf_t (Int32.not_le.mp h14)] | rw [pIf_t (Int32.not_lt.mp h14)] | rw [pIf_f (Nat.not_lt.mpr h14)] | rw [pIf_f (Nat.not_le.mpr h14)] | rw [pIf_t (Nat.not_le.mp h14)] | rw [pIf_t (Nat.not_lt.mp h14)] | skip); (first | rw [pIf_t h19] | rw [pIf_f h19] | rw [pIf_f (Int32.not_lt.mpr h19)] | rw [pIf_f (Int32.not_le.mpr h19)] | rw [pIf_t (Int32.not_le.mp h19)] | rw [pIf_t (Int32.not_lt.mp h19)] | rw [pIf_f (Nat.not_lt.mpr h19)] | rw [pIf_f (Nat.not_le.mpr h19)] | rw [pIf_t (Nat.not_le.mp h19)] | rw [pIf_t (Nat.not_lt.mp h19)] | skip); exact ⟨rfl, rfl⟩⟩
          ·
            exact absurd h25 (by decide)
        ·
          refine aw_iload_n (i := 2) dX8_act_24 rfl rfl ?_
          refine aw_if_ne (tgt := 37) dX8_act_25 (by decide) (fun h25 => ?_) (fun h25 => ?_)
          ·
            refine aw_iload_n (i := 2) dX8_act_37 rfl rfl ?_
            refine aw_iconst (v := 1) dX8_act_38 (by decide) ?_
            refine aw_icmp_ne (tgt := 51) dX8_act_39 (by decide) (fun h39 => ?_) (fun h39 => ?_)
            ·
              refine aw_aload_n (i := 0) dX8_act_51 rfl rfl ?_
              refine aw_iload_n (i := 1) dX8_act_52 rfl rfl ?_
              refine aw_iload_n (i := 3) dX8_act_53 rfl rfl ?_
              refine aw_cVi ck_X8_316 (m_X8_stepping (r := 0) (by omega) hkk ek9 er9 (by omega)) sh_105 rfl (by decide) (by decide) rfl rfl (Nat.le_of_ble_eq_true rfl) dX8_act_54 ?_
              exact aw_iret rfl dX8_act_57 ⟨_, rfl, by unfold S8_act; rw [nI_clamp (show p < 2 ^ 31 from by omega), ek, nI_clamp (show kk < 2 ^ 31 from by omega)]; (first | rw [pIf_t h10] | rw [pIf_f h10] | rw [pIf_f (Int32.not_lt.mpr h10)] | rw [pIf_f (Int32.not_le.mpr h10)] | rw [pIf_t (Int32.not_le.mp h10)] | rw [pIf_t (Int32.not_lt.mp h10)] | rw [pIf_f (Nat.not_lt.mpr h10)] | rw [pIf_f (Nat.not_le.mpr h10)] | rw [pIf_t (Nat.not_le.mp h10)] | rw [pIf_t (Nat.not_lt.mp h10)] | skip); (first | rw [pIf_t h14] | rw [pIf_f h14] | rw [pIf_f (Int32.not_lt.mpr h14)] | rw [pIf_f (Int32.not_le.mpr h14)] | rw [pIf_t (Int32.not_le.mp h14)] | rw [pIf_t (Int32.not_lt.mp h14)] | rw [pIf_f (Nat.not_lt.mpr h14)] | rw [pIf_f (Nat.not_le.mpr h14)] | rw [pIf_t (Nat.not_le.mp h14)] | rw [pIf_t (Nat.not_lt.mp h14)] | skip); (first | rw [pIf_t h19] | rw [pIf_f h19] | rw [pIf_f (Int32.not_lt.mpr h19)] | rw [pIf_f (Int32.not_le.mpr h19)] | rw [pIf_t (Int32.not_le.mp h19)] | rw [pIf_t (Int32.not_lt.mp h19)] | rw [pIf_f (Nat.not_lt.mpr h19)] | rw [pIf_f (Nat.not_le.mpr h19)] | rw [pIf_t (Nat.not_le.mp h19)] | rw [pIf_t (Nat.not_lt.mp h19)] | skip); exact ⟨rfl, rfl⟩⟩
            ·
              exact absurd h39 (by decide)
          ·
            exact absurd h25 (by decide)
      ·
        refine aw_iconst (v := 0) dX8_act_22 (by decide) ?_
        exact aw_iret rfl dX8_act_23 (by first | contradiction | exact ⟨_, rfl, by unfold S8_act; (first | rw [pIf_t h10] | rw [pIf_f h10] | rw [pIf_f (Int32.not_lt.mpr h10)] | rw [pIf_f (Int32.not_le.mpr h10)] | rw [pIf_t (Int32.not_le.mp h10)] | rw [pIf_t (Int32.not_lt.mp h10)] | rw [pIf_f (Nat.not_lt.mpr h10)] | rw [pIf_f (Nat.not_le.mpr h10)] | rw [pIf_t (Nat.not_le.mp h10)] | rw [pIf_t (Nat.not_lt.mp h10)] | skip); (first | rw [pIf_t h14] | rw [pIf_f h14] | rw [pIf_f (Int32.not_lt.mpr h14)] | rw [pIf_f (Int32.not_le.mpr h14)] | rw [pIf_t (Int32.not_le.mp h14)] | rw [pIf_t (Int32.not_lt.mp h14)] | rw [pIf_f (Nat.not_lt.mpr h14)] | rw [pIf_f (Nat.not_le.mpr h14)] | rw [pIf_t (Nat.not_le.mp h14)] | rw [pIf_t (Nat.not_lt.mp h14)] | skip); (first | rw [pIf_t h19] | rw [pIf_f h19] | rw [pIf_f (Int32.not_lt.mpr h19)] | rw [pIf_f (Int32.not_le.mpr h19)] | rw [pIf_t (Int32.not_le.mp h19)] | rw [pIf_t (Int32.not_lt.mp h19)] | rw [pIf_f (Nat.not_lt.mpr h19)] | rw [pIf_f (Nat.not_le.mpr h19)] | rw [pIf_t (Nat.not_le.mp h19)] | rw [pIf_t (Nat.not_lt.mp h19)] | skip); exact ⟨rfl, rfl⟩⟩)
