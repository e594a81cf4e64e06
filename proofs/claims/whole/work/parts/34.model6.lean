def S8_alter (M : Mm) (x w y : Int32) (v : Int32) (M' : Mm) : Prop := pIf (¬ x < 0 ∧ ¬ M.1 105 0 ≤ x) (pIf (w < 0) (v = -6 ∧ M' = nox M 6) (pIf (3 < w) (v = -6 ∧ M' = nox M 6) (pIf (y < 0) (v = -6 ∧ M' = nox M 6) (pIf (w = 0) (pIf (99 < y) (v = -6 ∧ M' = nox M 6) (v = M.1 109 x.toNatClampNeg ∧ M' = mI M 109 x.toNatClampNeg y)) (pIf (w = 1) (pIf (y < 1) (v = -6 ∧ M' = nox M 6) (pIf (9 < y) (v = -6 ∧ M' = nox M 6) (v = M.1 110 x.toNatClampNeg ∧ M' = mI (mI M 110 x.toNatClampNeg y) 112 x.toNatClampNeg ((mI M 110 x.toNatClampNeg y).1 112 x.toNatClampNeg - (mI M 110 x.toNatClampNeg y).1 112 x.toNatClampNeg / y * y)))) (pIf (w = 2) (pIf (99 < y) (v = -6 ∧ M' = nox M 6) (v = M.1 111 x.toNatClampNeg ∧ M' = mI M 111 x.toNatClampNeg y)) (pIf (y < M.1 110 x.toNatClampNeg) (v = M.1 112 x.toNatClampNeg ∧ M' = mI M 112 x.toNatClampNeg y) (v = -6 ∧ M' = nox M 6)))))))) (v = -1 ∧ M' = nox M 1)
theorem m_X8_alter {l : Launch} {M : Mm} {x w y : Int32} {n : Nat} (hn : M.1 105 0 = nI n) (hn30 : n ≤ 30) : AMet l 3 yX8_alter cX8_alter 5 (some FieldType.int) [.ref 105, .int x, .int w, .int y] M (QI (S8_alter M x w y)) := by
  refine AMet.of (by decide) (by simp [aargs, Value.category]) ?_
  show AW l 3 yX8_alter cX8_alter 5 (some FieldType.int) 0 [some (.ref 105), some (.int x), some (.int w), some (.int y), none] [] M _
  refine aw_aload_n (i := 0) dX8_alter_0 rfl rfl ?_
  refine aw_iload_n (i := 1) dX8_alter_1 rfl rfl ?_
  refine aw_cVi ck_X8_146 m_X8_isPerson sh_105 rfl (by decide) (by decide) rfl rfl (Nat.le_of_ble_eq_true rfl) dX8_alter_2 ?_
  refine aw_ifne_b (tgt := 14) dX8_alter_5 (by decide) (fun h5 => ?_) (fun h5 => ?_)
  ·
    obtain ⟨p, hp, rfl⟩ := has8 hn hn30 h5
    refine aw_iload_n (i := 2) dX8_alter_14 rfl rfl ?_
    refine aw_if_lt (tgt := 27) dX8_alter_15 (by decide) (fun h15 => ?_) (fun h15 => ?_)
    ·
      refine aw_aload_n (i := 0) dX8_alter_27 rfl rfl ?_
      refine aw_bipush (v := (-6)) dX8_alter_28 (by decide) ?_
      refine aw_cVi ck_X8_142 (m_X8_no (k := 6) (by decide) (by decide)) sh_105 rfl (by decide) (by decide) rfl rfl (Nat.le_of_ble_eq_true rfl) dX8_alter_30 ?_
      exact aw_iret rfl dX8_alter_33 (by first | contradiction | exact ⟨_, rfl, by unfold S8_alter; (try rw [nI_clamp (show p < 2 ^ 31 from by omega)]); (first | rw [pIf_t h5] | rw [pIf_f h5] | rw [pIf_f (Int32.not_lt.mpr h5)] | rw [pIf_f (Int32.not_le.mpr h5)] | rw [pIf_t (Int32.not_le.mp h5)] | rw [pIf_t (Int32.not_lt.mp h5)] | rw [pIf_f (Nat.not_lt.mpr h5)] | rw [pIf_f (Nat.not_le.mpr h5)] | rw [pIf_t (Nat.not_le.mp h5)] | rw [pIf_t (Nat.not_lt.mp h5)] | skip); (first | rw [pIf_t h15] | rw [pIf_f h15] | rw [pIf_f (Int32.not_lt.mpr h15)] | rw [pIf_f (Int32.not_le.mpr h15)] | rw [pIf_t (Int32.not_le.mp h15)] | rw [pIf_t (Int32.not_lt.mp h15)] | rw [pIf_f (Nat.not_lt.mpr h15)] | rw [pIf_f (Nat.not_le.mpr h15)] | rw [pIf_t (Nat.not_le.mp h15)] | rw [pIf_t (Nat.not_lt.mp h15)] | skip); (try rw [nI_clamp (show p < 2 ^ 31 from by omega)]); exact ⟨rfl, rfl⟩⟩)
    ·
      refine aw_iload_n (i := 2) dX8_alter_18 rfl rfl ?_
      refine aw_iconst (v := 3) dX8_alter_19 (by decide) ?_
      refine aw_icmp_gt (tgt := 27) dX8_alter_20 (by decide) (fun h20 => ?_) (fun h20 => ?_)
      ·
        refine aw_aload_n (i := 0) dX8_alter_27 rfl rfl ?_
        refine aw_bipush (v := (-6)) dX8_alter_28 (by decide) ?_
        refine aw_cVi ck_X8_142 (m_X8_no (k := 6) (by decide) (by decide)) sh_105 rfl (by decide) (by decide) rfl rfl (Nat.le_of_ble_eq_true rfl) dX8_alter_30 ?_
        exact aw_iret rfl dX8_alter_33 (by first | contradiction | exact ⟨_, rfl, by unfold S8_alter; (try rw [nI_clamp (show p < 2 ^ 31 from by omega)]); (first | rw [pIf_t h5] | rw [pIf_f h5] | rw [pIf_f (Int32.not_lt.mpr h5)] | rw [pIf_f (Int32.not_le.mpr h5)] | rw [pIf_t (Int32.not_le.mp h5)] | rw [pIf_t (Int32.not_lt.mp h5)] | rw [pIf_f (Nat.not_lt.mpr h5)] | rw [pIf_f (Nat.not_le.mpr h5)] | rw [pIf_t (Nat.not_le.mp h5)] | rw [pIf_t (Nat.not_lt.mp h5)] | skip); (first | rw [pIf_t h15] | rw [pIf_f h15] | rw [pIf_f (Int32.not_lt.mpr h15)] | rw [pIf_f (Int32.not_le.mpr h15)] | rw [pIf_t (Int32.not_le.mp h15)] | rw [pIf_t (Int32.not_lt.mp h15)] | rw [pIf_f (Nat.not_lt.mpr h15)] | rw [pIf_f (Nat.not_le.mpr h15)] | rw [pIf_t (Nat.not_le.mp h15)] | rw [pIf_t (Nat.not_lt.mp h15)] | skip); (first | rw [pIf_t h20] | rw [pIf_f h20] | rw [pIf_f (Int32.not_lt.mpr h20)] | rw [pIf_f (Int32.not_le.mpr h20)] | rw [pIf_t (Int32.not_le.mp h20)] | rw [pIf_t (Int32.not_lt.mp h20)] | rw [pIf_f (Nat.not_lt.mpr h20)] | rw [pIf_f (Nat.not_le.mpr h20)] | rw [pIf_t (Nat.not_le.mp h20)] | rw [pIf_t (Nat.not_lt.mp h20)] | skip); (try rw [nI_clamp (show p < 2 ^ 31 from by omega)]); exact ⟨rfl, rfl⟩⟩)
      ·
        refine aw_iload_n (i := 3) dX8_alter_23 rfl rfl ?_
        refine aw_if_ge (tgt := 34) dX8_alter_24 (by decide) (fun h24 => ?_) (fun h24 => ?_)
        ·
          refine aw_iload_n (i := 2) dX8_alter_34 rfl rfl ?_
          refine aw_if_ne (tgt := 69) dX8_alter_35 (by decide) (fun h35 => ?_) (fun h35 => ?_)
          ·
            refine aw_iload_n (i := 2) dX8_alter_69 rfl rfl ?_
            refine aw_iconst (v := 1) dX8_alter_70 (by decide) ?_
            refine aw_icmp_ne (tgt := 120) dX8_alter_71 (by decide) (fun h71 => ?_) (fun h71 => ?_)
            ·
              refine aw_iload_n (i := 2) dX8_alter_120 rfl rfl ?_
              refine aw_iconst (v := 2) dX8_alter_121 (by decide) ?_
              refine aw_icmp_ne (tgt := 156) dX8_alter_122 (by decide) (fun h122 => ?_) (fun h122 => ?_)
              ·
                refine aw_iload_n (i := 3) dX8_alter_156 rfl rfl ?_
                refine aw_aload_n (i := 0) dX8_alter_157 rfl rfl ?_
                refine aw_getR gf_X8_32 sh_105 rfl dX8_alter_158 ?_
                refine aw_iload_n (i := 1) dX8_alter_161 rfl rfl ?_
                refine aw_ialdN sh_110 (by omega) (by omega) dX8_alter_162 ?_
                refine aw_icmp_lt (tgt := 173) dX8_alter_163 (by decide) (fun h163 => ?_) (fun h163 => ?_)
                ·
                  refine aw_aload_n (i := 0) dX8_alter_173 rfl rfl ?_
                  refine aw_getR gf_X8_38 sh_105 rfl dX8_alter_174 ?_
                  refine aw_iload_n (i := 1) dX8_alter_177 rfl rfl ?_
                  refine aw_ialdN sh_112 (by omega) (by omega) dX8_alter_178 ?_
                  refine aw_istore (i := 4) dX8_alter_179 (by decide) ?_
                  refine aw_aload_n (i := 0) dX8_alter_181 rfl rfl ?_
                  refine aw_getR gf_X8_38 sh_105 rfl dX8_alter_182 ?_
                  refine aw_iload_n (i := 1) dX8_alter_185 rfl rfl ?_
                  refine aw_iload_n (i := 3) dX8_alter_186 rfl rfl ?_
                  refine aw_iastN sh_112 (by omega) (by omega) dX8_alter_187 ?_
                  refine aw_iload (i := 4) dX8_alter_188 rfl ?_
                  exact aw_iret rfl dX8_alter_190 (by first | contradiction | exact ⟨_, rfl, by unfold S8_alter; (try rw [nI_clamp (show p < 2 ^ 31 from by omega)]); (first | rw [pIf_t h5] | rw [pIf_f h5] | rw [pIf_f (Int32.not_lt.mpr h5)] | rw [pIf_f (Int32.not_le.mpr h5)] | rw [pIf_t (Int32.not_le.mp h5)] | rw [pIf_t (Int32.not_lt.mp h5)] | rw [pIf_f (Nat.not_lt.mpr h5)] | rw [pIf_f (Nat.not_le.mpr h5)] | rw [pIf_t (Nat.not_le.mp h5)] | rw [pIf_t (Nat.not_lt.mp h5)] | skip); (first | rw [pIf_t h15] | rw [pIf_f h15] | rw [pIf_f (Int32.not_lt.mpr h15)] | rw [pIf_f (Int32.not_le.mpr h15)] | rw [pIf_t (Int32.not_le.mp h15)] | rw [pIf_t (Int32.not_lt.mp h15)] | rw [pIf_f (Nat.not_lt.mpr h15)] | rw [pIf_f (Nat.not_le.mpr h15)] | rw [pIf_t (Nat.not_le.mp h15)] | rw [pIf_t (Nat.not_lt.mp h15)] | skip); (first | rw [pIf_t h20] | rw [pIf_f h20] | rw [pIf_f (Int32.not_lt.mpr h20)] | rw [pIf_f (Int32.not_le.mpr h20)] | rw [pIf_t (Int32.not_le.mp h20)] | rw [pIf_t (Int32.not_lt.mp h20)] | rw [pIf_f (Nat.not_lt.mpr h20)] | rw [pIf_f (Nat.not_le.mpr h20)] | rw [pIf_t (Nat.not_le.mp h20)] | rw [pIf_t (Nat.not_lt.mp h20)] | skip); (first | rw [pIf_t h24] | rw [pIf_f h24] | rw [pIf_f (Int32.not_lt.mpr h24)] | rw [pIf_f (Int32.not_le.mpr h24)] | rw [pIf_t (Int32.not_le.mp h24)] | rw [pIf_t (Int32.not_lt.mp h24)] | rw [pIf_f (Nat.not_lt.mpr h24)] | rw [pIf_f (Nat.not_le.mpr h24)] | rw [pIf_t (Nat.not_le.mp h24)] | rw [pIf_t (Nat.not_lt.mp h24)] | skip); (first | rw [pIf_t h35] | rw [pIf_f h35] | rw [pIf_f (Int32.not_lt.mpr h35)] | rw [pIf_f (Int32.not_le.mpr h35)] | rw [pIf_t (Int32.not_le.mp h35)] | rw [pIf_t (Int32.not_lt.mp h35)] | rw [pIf_f (Nat.not_lt.mpr h35)] | rw [pIf_f (Nat.not_le.mpr h35)] | rw [pIf_t (Nat.not_le.mp h35)] | rw [pIf_t (Nat.not_lt.mp h35)] | skip); (first | rw [pIf_t h71] | rw [pIf_f h71] | rw [pIf_f (Int32.not_lt.mpr h71)] | rw [pIf_f (Int32.not_le.mpr h71)] | rw [pIf_t (Int32.not_le.mp h71)] | rw [pIf_t (Int32.not_lt.mp h71)] | rw [pIf_f (Nat.not_lt.mpr h71)] | rw [pIf_f (Nat.not_le.mpr h71)] | rw [pIf_t (Nat.not_le.mp h71)] | rw [pIf_t (Nat.not_lt.mp h71)] | skip); (first | rw [pIf_t h122] | rw [pIf_f h122] | rw [pIf_f (Int32.not_lt.mpr h122)] | rw [pIf_f (Int32.not_le.mpr h122)] | rw [pIf_t (Int32.not_le.mp h122)] | rw [pIf_t (Int32.not_lt.mp h122)] | rw [pIf_f (Nat.not_lt.mpr h122)] | rw [pIf_f (Nat.not_le.mpr h122)] | rw [pIf_t (Nat.not_le.mp h122)] | rw [pIf_t (Nat.not_lt.mp h122)] | skip); (first | rw [pIf_t h163] | rw [pIf_f h163] | rw [pIf_f (Int32.not_lt.mpr h163)] | rw [pIf_f (Int32.not_le.mpr h163)] | rw [pIf_t (Int32.not_le.mp h163)] | rw [pIf_t (Int32.not_lt.mp h163)] | rw [pIf_f (Nat.not_lt.mpr h163)] | rw [pIf_f (Nat.not_le.mpr h163)] | rw [pIf_t (Nat.not_le.mp h163)] | rw [pIf_t (Nat.not_lt.mp h163)] | skip); (try rw [nI_clamp (show p < 2 ^ 31 from by omega)]); exact ⟨rfl, rfl⟩⟩)
                ·
                  refine aw_aload_n (i := 0) dX8_alter_166 rfl rfl ?_
                  refine aw_bipush (v := (-6)) dX8_alter_167 (by decide) ?_
                  refine aw_cVi ck_X8_142 (m_X8_no (k := 6) (by decide) (by decide)) sh_105 rfl (by decide) (by decide) rfl rfl (Nat.le_of_ble_eq_true rfl) dX8_alter_169 ?_
                  exact aw_iret rfl dX8_alter_172 (by first | contradiction | exact ⟨_, rfl, by unfold S8_alter; (try rw [nI_clamp (show p < 2 ^ 31 from by omega)]); (first | rw [pIf_t h5] | rw [pIf_f h5] | rw [pIf_f (Int32.not_lt.mpr h5)] | rw [pIf_f (Int32.not_le.mpr h5)] | rw [pIf_t (Int32.not_le.mp h5)] | rw [pIf_t (Int32.not_lt.mp h5)] | rw [pIf_f (Nat.not_lt.mpr h5)] | rw [pIf_f (Nat.not_le.mpr h5)] | rw [pIf_t (Nat.not_le.mp h5)] | rw [pIf_t (Nat.not_lt.mp h5)] | skip); (first | rw [pIf_t h15] | rw [pIf_f h15] | rw [pIf_f (Int32.not_lt.mpr h15)] | rw [pIf_f (Int32.not_le.mpr h15)] | rw [pIf_t (Int32.not_le.mp h15)] | rw [pIf_t (Int32.not_lt.mp h15)] | rw [pIf_f (Nat.not_lt.mpr h15)] | rw [pIf_f (Nat.not_le.mpr h15)] | rw [pIf_t (Nat.not_le.mp h15)] | rw [pIf_t (Nat.not_lt.mp h15)] | skip); (first | rw [pIf_t h20] | rw [pIf_f h20] | rw [pIf_f (Int32.not_lt.mpr h20)] | rw [pIf_f (Int32.not_le.mpr h20)] | rw [pIf_t (Int32.not_le.mp h20)] | rw [pIf_t (Int32.not_lt.mp h20)] | rw [pIf_f (Nat.not_lt.mpr h20)] | rw [pIf_f (Nat.not_le.mpr h20)] | rw [pIf_t (Nat.not_le.mp h20)] | rw [pIf_t (Nat.not_lt.mp h20)] | skip); (first | rw [pIf_t h24] | rw [pIf_f h24] | rw [pIf_f (Int32.not_lt.mpr h24)] | rw [pIf_f (Int32.not_le.mpr h24)] | rw [pIf_t (Int32.not_le.mp h24)] | rw [pIf_t (Int32.not_lt.mp h24)] | rw [pIf_f (Nat.not_lt.mpr h24)] | rw [pIf_f (Nat.not_le.mpr h24)] | rw [pIf_t (Nat.not_le.mp h24)] | rw [pIf_t (Nat.not_lt.mp h24)] | skip); (first | rw [pIf_t h35] | rw [pIf_f h35] | rw [pIf_f (Int32.not_lt.mpr h35)] | rw [pIf_f (Int32.not_le.mpr h35)] | rw [pIf_t (Int32.not_le.mp h35)] | rw [pIf_t (Int32.not_lt.mp h35)] | rw [pIf_f (Nat.not_lt.mpr h35)] | rw [pIf_f (Nat.not_le.mpr h35)] | rw [pIf_t (Nat.not_le.mp h35)] | rw [pIf_t (Nat.not_lt.mp h35)] | skip); (first | rw [pIf_t h71] | rw [pIf_f h71] | rw [pIf_f (Int32.not_lt.mpr h71)] | rw [pIf_f (Int32.not_le.mpr h71)] | rw [pIf_t (Int32.not_le.mp h71)] | rw [pIf_t (Int32.not_lt.mp h71)] | rw [pIf_f (Nat.not_lt.mpr h71)] | rw [pIf_f (Nat.not_le.mpr h71)] | rw [pIf_t (Nat.not_le.mp h71)] | rw [pIf_t (Nat.not_lt.mp h71)] | skip); (first | rw [pIf_t h122] | rw [pIf_f h122] | rw [pIf_f (Int32.not_lt.mpr h122)] | rw [pIf_f (Int32.not_le.mpr h122)] | rw [pIf_t (Int32.not_le.mp h122)] | rw [pIf_t (Int32.not_lt.mp h122)] | rw [pIf_f (Nat.not_lt.mpr h122)] | rw [pIf_f (Nat.not_le.mpr h122)] | rw [pIf_t (Nat.not_le.mp h122)] | rw [pIf_t (Nat.not_lt.mp h122)] | skip); (first | rw [pIf_t h163] | rw [pIf_f h163] | rw [pIf_f (Int32.not_lt.mpr h163)] | rw [pIf_f (Int32.not_le.mpr h163)] | rw [pIf_t (Int32.not_le.mp h163)] | rw [pIf_t (Int32.not_lt.mp h163)] | rw [pIf_f (Nat.not_lt.mpr h163)] | rw [pIf_f (Nat.not_le.mpr h163)] | rw [pIf_t (Nat.not_le.mp h163)] | rw [pIf_t (Nat.not_lt.mp h163)] | skip); (try rw [nI_clamp (show p < 2 ^ 31 from by omega)]); exact ⟨rfl, rfl⟩⟩)
              ·
                refine aw_iload_n (i := 3) dX8_alter_125 rfl rfl ?_
                refine aw_bipush (v := 99) dX8_alter_126 (by decide) ?_
                refine aw_icmp_le (tgt := 138) dX8_alter_128 (by decide) (fun h128 => ?_) (fun h128 => ?_)
                ·
                  refine aw_aload_n (i := 0) dX8_alter_138 rfl rfl ?_
                  refine aw_getR gf_X8_35 sh_105 rfl dX8_alter_139 ?_
                  refine aw_iload_n (i := 1) dX8_alter_142 rfl rfl ?_
                  refine aw_ialdN sh_111 (by omega) (by omega) dX8_alter_143 ?_
                  refine aw_istore (i := 4) dX8_alter_144 (by decide) ?_
                  refine aw_aload_n (i := 0) dX8_alter_146 rfl rfl ?_
                  refine aw_getR gf_X8_35 sh_105 rfl dX8_alter_147 ?_
                  refine aw_iload_n (i := 1) dX8_alter_150 rfl rfl ?_
                  refine aw_iload_n (i := 3) dX8_alter_151 rfl rfl ?_
                  refine aw_iastN sh_111 (by omega) (by omega) dX8_alter_152 ?_
                  refine aw_goto (tgt := 188) dX8_alter_153 (by decide) ?_
                  refine aw_iload (i := 4) dX8_alter_188 rfl ?_
                  exact aw_iret rfl dX8_alter_190 (by first | contradiction | exact ⟨_, rfl, by unfold S8_alter; (try rw [nI_clamp (show p < 2 ^ 31 from by omega)]); (first | rw [pIf_t h5] | rw [pIf_f h5] | rw [pIf_f (Int32.not_lt.mpr h5)] | rw [pIf_f (Int32.not_le.mpr h5)] | rw [pIf_t (Int32.not_le.mp h5)] | rw [pIf_t (Int32.not_lt.mp h5)] | rw [pIf_f (Nat.not_lt.mpr h5)] | rw [pIf_f (Nat.not_le.mpr h5)] | rw [pIf_t (Nat.not_le.mp h5)] | rw [pIf_t (Nat.not_lt.mp h5)] | skip); (first | rw [pIf_t h15] | rw [pIf_f h15] | rw [pIf_f (Int32.not_lt.mpr h15)] | rw [pIf_f (Int32.not_le.mpr h15)] | rw [pIf_t (Int32.not_le.mp h15)] | rw [pIf_t (Int32.not_lt.mp h15)] | rw [pIf_f (Nat.not_lt.mpr h15)] | rw [pIf_f (Nat.not_le.mpr h15)] | rw [pIf_t (Nat.not_le.mp h15)] | rw [pIf_t (Nat.not_lt.mp h15)] | skip); (first | rw [pIf_t h20] | rw [pIf_f h20] | rw [pIf_f (Int32.not_lt.mpr h20)] | rw [pIf_f (Int32.not_le.mpr h20)] | rw [pIf_t (Int32.not_le.mp h20)] | rw [pIf_t (Int32.not_lt.mp h20)] | rw [pIf_f (Nat.not_lt.mpr h20)] | rw [pIf_f (Nat.not_le.mpr h20)] | rw [pIf_t (Nat.not_le.mp h20)] | rw [pIf_t (Nat.not_lt.mp h20)] | skip); (first | rw [pIf_t h24] | rw [pIf_f h24] | rw [pIf_f (Int32.not_lt.mpr h24)] | rw [pIf_f (Int32.not_le.mpr h24)] | rw [pIf_t (Int32.not_le.mp h24)] | rw [pIf_t (Int32.not_lt.mp h24)] | rw [pIf_f (Nat.not_lt.mpr h24)] | rw [pIf_f (Nat.not_le.mpr h24)] | rw [pIf_t (Nat.not_le.mp h24)] | rw [pIf_t (Nat.not_lt.mp h24)] | skip); (first | rw [pIf_t h35] | rw [pIf_f h35] | rw [pIf_f (Int32.not_lt.mpr h35)] | rw [pIf_f (Int32.not_le.mpr h35)] | rw [pIf_t (Int32.not_le.mp h35)] | rw [pIf_t (Int32.not_lt.mp h35)] | rw [pIf_f (Nat.not_lt.mpr h35)] | rw [pIf_f (Nat.not_le.mpr h35)] | rw [pIf_t (Nat.not_le.mp h35)] | rw [pIf_t (Nat.not_lt.mp h35)] | skip); (first | rw [pIf_t h71] | rw [pIf_f h71] | rw [pIf_f (Int32.not_lt.mpr h71)] | rw [pIf_f (Int32.not_le.mpr h71)] | rw [pIf_t (Int32.not_le.mp h71)] | rw [pIf_t (Int32.not_lt.mp h71)] | rw [pIf_f (Nat.not_lt.mpr h71)] | rw [pIf_f (Nat.not_le.mpr h71)] | rw [pIf_t (Nat.not_le.mp h71)] | rw [pIf_t (Nat.not_lt.mp h71)] | skip); (first | rw [pIf_t h122] | rw [pIf_f h122] | rw [pIf_f (Int32.not_lt.mpr h122)] | rw [pIf_f (Int32.not_le.mpr h122)] | rw [pIf_t (Int32.not_le.mp h122)] | rw [pIf_t (Int32.not_lt.mp h122)] | rw [pIf_f (Nat.not_lt.mpr h122)] | rw [pIf_f (Nat.not_le.mpr h122)] | rw [pIf_t (Nat.not_le.mp h122)] | rw [pIf_t (Nat.not_lt.mp h122)] | skip); (first | rw [pIf_t h128] | rw [pIf_f h128] | rw [pIf_f (Int32.not_lt.mpr h128)] | rw [pIf_f (Int32.not_le.mpr h128)] | rw [pIf_t (Int32.not_le.mp h128)] | rw [pIf_t (Int32.not_lt.mp h128)] | rw [pIf_f (Nat.not_lt.mpr h128)] | rw [pIf_f (Nat.not_le.mpr h128)] | rw [pIf_t (Nat.not_le.mp h128)] | rw [pIf_t (Nat.not_lt.mp h128)] | skip); (try rw [nI_clamp (show p < 2 ^ 31 from by omega)]); exact ⟨rfl, rfl⟩⟩)
                ·
                  refine aw_aload_n (i := 0) dX8_alter_131 rfl rfl ?_
                  refine aw_bipush (v := (-6)) dX8_alter_132 (by decide) ?_
                  refine aw_cVi ck_X8_142 (m_X8_no (k := 6) (by decide) (by decide)) sh_105 rfl (by decide) (by decide) rfl rfl (Nat.le_of_ble_eq_true rfl) dX8_alter_134 ?_
                  exact aw_iret rfl dX8_alter_137 (by first | contradiction | exact ⟨_, rfl, by unfold S8_alter; (try rw [nI_clamp (show p < 2 ^ 31 from by omega)]); (first | rw [pIf_t h5] | rw [pIf_f h5] | rw [pIf_f (Int32.not_lt.mpr h5)] | rw [pIf_f (Int32.not_le.mpr h5)] | rw [pIf_t (Int32.not_le.mp h5)] | rw [pIf_t (Int32.not_lt.mp h5)] | rw [pIf_f (Nat.not_lt.mpr h5)] | rw [pIf_f (Nat.not_le.mpr h5)] | rw [pIf_t (Nat.not_le.mp h5)] | rw [pIf_t (Nat.not_lt.mp h5)] | skip); (first | rw [pIf_t h15] | rw [pIf_f h15] | rw [pIf_f (Int32.not_lt.mpr h15)] | rw [pIf_f (Int32.not_le.mpr h15)] | rw [pIf_t (Int32.not_le.mp h15)] | rw [pIf_t (Int32.not_lt.mp h15)] | rw [pIf_f (Nat.not_lt.mpr h15)] | rw [pIf_f (Nat.not_le.mpr h15)] | rw [pIf_t (Nat.not_le.mp h15)] | rw [pIf_t (Nat.not_lt.mp h15)] | skip); (first | rw [pIf_t h20] | rw [pIf_f h20] | rw [pIf_f (Int32.not_lt.mpr h20)] | rw [pIf_f (Int32.not_le.mpr h20)] | rw [pIf_t (Int32.not_le.mp h20)] | rw [pIf_t (Int32.not_lt.mp h20)] | rw [pIf_f (Nat.not_lt.mpr h20)] | rw [pIf_f (Nat.not_le.mpr h20)] | rw [pIf_t (Nat.not_le.mp h20)] | rw [pIf_t (Nat.not_lt.mp h20)] | skip); (first | rw [pIf_t h24] | rw [pIf_f h24] | rw [pIf_f (Int32.not_lt.mpr h24)] | rw [pIf_f (Int32.not_le.mpr h24)] | rw [pIf_t (Int32.not_le.mp h24)] | rw [pIf_t (Int32.not_lt.mp h24)] | rw [pIf_f (Nat.not_lt.mpr h24)] | rw [pIf_f (Nat.not_le.mpr h24)] | rw [pIf_t (Nat.not_le.mp h24)] | rw [pIf_t (Nat.not_lt.mp h24)] | skip); (first | rw [pIf_t h35] | rw [pIf_f h35] | rw [pIf_f (Int32.not_lt.mpr h35)] | rw [pIf_f (Int32.not_le.mpr h35)] | rw [pIf_t (Int32.not_le.mp h35)] | rw [pIf_t (Int32.not_lt.mp h35)] | rw [pIf_f (Nat.not_lt.mpr h35)] | rw [pIf_f (Nat.not_le.mpr h35)] | rw [pIf_t (Nat.not_le.mp h35)] | rw [pIf_t (Nat.not_lt.mp h35)] | skip); (first | rw [pIf_t h71] | rw [pIf_f h71] | rw [pIf_f (Int32.not_lt.mpr h71)] | rw [pIf_f (Int32.not_le.mpr h71)] | rw [pIf_t (Int32.not_le.mp h71)] | rw [pIf_t (Int32.not_lt.mp h71)] | rw [pIf_f (Nat.not_lt.mpr h71)] | rw [pIf_f (Nat.not_le.mpr h71)] | rw [pIf_t (Nat.not_le.mp h71)] | rw [pIf_t (Nat.not_lt.mp h71)] | skip); (first | rw [pIf_t h122] | rw [pIf_f h122] | rw [pIf_f (Int32.not_lt.mpr h122)] | rw [pIf_f (Int32.not_le.mpr h122)] | rw [pIf_t (Int32.not_le.mp h122)] | rw [pIf_t (Int32.not_lt.mp h122)] | rw [pIf_f (Nat.not_lt.mpr h122)] | rw [pIf_f (Nat.not_le.mpr h122)] | rw [pIf_t (Nat.not_le.mp h122)] | rw [pIf_t (Nat.not_lt.mp h122)] | skip); (first | rw [pIf_t h128] | rw [pIf_f h128] | rw [pIf_f (Int32.not_lt.mpr h128)] | rw [pIf_f (Int32.not_le.mpr h128)] | rw [pIf_t (Int32.not_le.mp h128)] | rw [pIf_t (Int32.not_lt.mp h128)] | rw [pIf_f (Nat.not_lt.mpr h128)] | rw [pIf_f (Nat.not_le.mpr h128)] | rw [pIf_t (Nat.not_le.mp h128)] | rw [pIf_t (Nat.not_lt.mp h128)] | skip); (try rw [nI_clamp (show p < 2 ^ 31 from by omega)]); exact ⟨rfl, rfl⟩⟩)
            ·
              refine aw_iload_n (i := 3) dX8_alter_74 rfl rfl ?_
              refine aw_iconst (v := 1) dX8_alter_75 (by decide) ?_
              refine aw_icmp_lt (tgt := 85) dX8_alter_76 (by decide) (fun h76 => ?_) (fun h76 => ?_)
              ·
                refine aw_aload_n (i := 0) dX8_alter_85 rfl rfl ?_
                refine aw_bipush (v := (-6)) dX8_alter_86 (by decide) ?_
                refine aw_cVi ck_X8_142 (m_X8_no (k := 6) (by decide) (by decide)) sh_105 rfl (by decide) (by decide) rfl rfl (Nat.le_of_ble_eq_true rfl) dX8_alter_88 ?_
                exact aw_iret rfl dX8_alter_91 (by first | contradiction | exact ⟨_, rfl, by unfold S8_alter; (try rw [nI_clamp (show p < 2 ^ 31 from by omega)]); (first | rw [pIf_t h5] | rw [pIf_f h5] | rw [pIf_f (Int32.not_lt.mpr h5)] | rw [pIf_f (Int32.not_le.mpr h5)] | rw [pIf_t (Int32.not_le.mp h5)] | rw [pIf_t (Int32.not_lt.mp h5)] | rw [pIf_f (Nat.not_lt.mpr h5)] | rw [pIf_f (Nat.not_le.mpr h5)] | rw [pIf_t (Nat.not_le.mp h5)] | rw [pIf_t (Nat.not_lt.mp h5)] | skip); (first | rw [pIf_t h15] | rw [pIf_f h15] | rw [pIf_f (Int32.not_lt.mpr h15)] | rw [pIf_f (Int32.not_le.mpr h15)] | rw [pIf_t (Int32.not_le.mp h15)] | rw [pIf_t (Int32.not_lt.mp h15)] | rw [pIf_f (Nat.not_lt.mpr h15)] | rw [pIf_f (Nat.not_le.mpr h15)] | rw [pIf_t (Nat.not_le.mp h15)] | rw [pIf_t (Nat.not_lt.mp h15)] | skip); (first | rw [pIf_t h20] | rw [pIf_f h20] | rw [pIf_f (Int32.not_lt.mpr h20)] | rw [pIf_f (Int32.not_le.mpr h20)] | rw [pIf_t (Int32.not_le.mp h20)] | rw [pIf_t (Int32.not_lt.mp h20)] | rw [pIf_f (Nat.not_lt.mpr h20)] | rw [pIf_f (Nat.not_le.mpr h20)] | rw [pIf_t (Nat.not_le.mp h20)] | rw [pIf_t (Nat.not_lt.mp h20)] | skip); (first | rw [pIf_t h24] | rw [pIf_f h24] | rw [pIf_f (Int32.not_lt.mpr h24)] | rw [pIf_f (Int32.not_le.mpr h24)] | rw [pIf_t (Int32.not_le.mp h24)] | rw [pIf_t (Int32.not_lt.mp h24)] | rw [pIf_f (Nat.not_lt.mpr h24)] | rw [pIf_f (Nat.not_le.mpr h24)] | rw [pIf_t (Nat.not_le.mp h24)] | rw [pIf_t (Nat.not_lt.mp h24)] | skip); (first | rw [pIf_t h35] | rw [pIf_f h35] | rw [pIf_f (Int32.not_lt.mpr h35)] | rw [pIf_f (Int32.not_le.mpr h35)] | rw [pIf_t (Int32.not_le.mp h35)] | rw [pIf_t (Int32.not_lt.mp h35)] | rw [pIf_f (Nat.not_lt.mpr h35)] | rw [pIf_f (Nat.not_le.mpr h35)] | rw [pIf_t (Nat.not_le.mp h35)] | rw [pIf_t (Nat.not_lt.mp h35)] | skip); (first | rw [pIf_t h71] | rw [pIf_f h71] | rw [pIf_f (Int32.not_lt.mpr h71)] | rw [pIf_f (Int32.not_le.mpr h71)] | rw [pIf_t (Int32.not_le.mp h71)] | rw [pIf_t (Int32.not_lt.mp h71)] | rw [pIf_f (Nat.not_lt.mpr h71)] | rw [pIf_f (Nat.not_le.mpr h71)] | rw [pIf_t (Nat.not_le.mp h71)] | rw [pIf_t (Nat.not_lt.mp h71)] | skip); (first | rw [pIf_t h76] | rw [pIf_f h76] | rw [pIf_f (Int32.not_lt.mpr h76)] | rw [pIf_f (Int32.not_le.mpr h76)] | rw [pIf_t (Int32.not_le.mp h76)] | rw [pIf_t (Int32.not_lt.mp h76)] | rw [pIf_f (Nat.not_lt.mpr h76)] | rw [pIf_f (Nat.not_le.mpr h76)] | rw [pIf_t (Nat.not_le.mp h76)] | rw [pIf_t (Nat.not_lt.mp h76)] | skip); (try rw [nI_clamp (show p < 2 ^ 31 from by omega)]); exact ⟨rfl, rfl⟩⟩)
              ·
                refine aw_iload_n (i := 3) dX8_alter_79 rfl rfl ?_
                refine aw_bipush (v := 9) dX8_alter_80 (by decide) ?_
                refine aw_icmp_le (tgt := 92) dX8_alter_82 (by decide) (fun h82 => ?_) (fun h82 => ?_)
                ·
                  refine aw_aload_n (i := 0) dX8_alter_92 rfl rfl ?_
                  refine aw_getR gf_X8_32 sh_105 rfl dX8_alter_93 ?_
                  refine aw_iload_n (i := 1) dX8_alter_96 rfl rfl ?_
                  refine aw_ialdN sh_110 (by omega) (by omega) dX8_alter_97 ?_
                  refine aw_istore (i := 4) dX8_alter_98 (by decide) ?_
                  refine aw_aload_n (i := 0) dX8_alter_100 rfl rfl ?_
                  refine aw_getR gf_X8_32 sh_105 rfl dX8_alter_101 ?_
                  refine aw_iload_n (i := 1) dX8_alter_104 rfl rfl ?_
                  refine aw_iload_n (i := 3) dX8_alter_105 rfl rfl ?_
                  refine aw_iastN sh_110 (by omega) (by omega) dX8_alter_106 ?_
                  refine aw_aload_n (i := 0) dX8_alter_107 rfl rfl ?_
                  refine aw_getR gf_X8_38 sh_105 rfl dX8_alter_108 ?_
                  refine aw_iload_n (i := 1) dX8_alter_111 rfl rfl ?_
                  refine aw_dup2 dX8_alter_112 rfl rfl ?_
                  refine aw_ialdN sh_112 (by omega) (by omega) dX8_alter_113 ?_
                  refine aw_iload_n (i := 3) dX8_alter_114 rfl rfl ?_
                  refine aw_irem dX8_alter_115 (fun q => h76 (by rw [q]; decide)) ?_
                  refine aw_iastN sh_112 (by omega) (by omega) dX8_alter_116 ?_
                  refine aw_goto (tgt := 188) dX8_alter_117 (by decide) ?_
                  refine aw_iload (i := 4) dX8_alter_188 rfl ?_
                  exact aw_iret rfl dX8_alter_190 (by first | contradiction | exact ⟨_, rfl, by unfold S8_alter; (try rw [nI_clamp (show p < 2 ^ 31 from by omega)]); (first | rw [pIf_t h5] | rw [pIf_f h5] | rw [pIf_f (Int32.not_lt.mpr h5)] | rw [pIf_f (Int32.not_le.mpr h5)] | rw [pIf_t (Int32.not_le.mp h5)] | rw [pIf_t (Int32.not_lt.mp h5)] | rw [pIf_f (Nat.not_lt.mpr h5)] | rw [pIf_f (Nat.not_le.mpr h5)] | rw [pIf_t (Nat.not_le.mp h5)] | rw [pIf_t (Nat.not_lt.mp h5)] | skip); (first | rw [pIf_t h15] | rw [pIf_f h15] | rw [pIf_f (Int32.not_lt.mpr h15)] | rw [pIf_f (Int32.not_le.mpr h15)] | rw [pIf_t (Int32.not_le.mp h15)] | rw [pIf_t (Int32.not_lt.mp h15)] | rw [pIf_f (Nat.not_lt.mpr h15)] | rw [pIf_f (Nat.not_le.mpr h15)] | rw [pIf_t (Nat.not_le.mp h15)] | rw [pIf_t (Nat.not_lt.mp h15)] | skip); (first | rw [pIf_t h20] | rw [pIf_f h20] | rw [pIf_f (Int32.not_lt.mpr h20)] | rw [pIf_f (Int32.not_le.mpr h20)] | rw [pIf_t (Int32.not_le.mp h20)] | rw [pIf_t (Int32.not_lt.mp h20)] | rw [pIf_f (Nat.not_lt.mpr h20)] | rw [pIf_f (Nat.not_le.mpr h20)] | rw [pIf_t (Nat.not_le.mp h20)] | rw [pIf_t (Nat.not_lt.mp h20)] | skip); (first | rw [pIf_t h24] | rw [pIf_f h24] | rw [pIf_f (Int32.not_lt.mpr h24)] | rw [pIf_f (Int32.not_le.mpr h24)] | rw [pIf_t (Int32.not_le.mp h24)] | rw [pIf_t (Int32.not_lt.mp h24)] | rw [pIf_f (Nat.not_lt.mpr h24)] | rw [pIf_f (Nat.not_le.mpr h24)] | rw [pIf_t (Nat.not_le.mp h24)] | rw [pIf_t (Nat.not_lt.mp h24)] | skip); (first | rw [pIf_t h35] | rw [pIf_f h35] | rw [pIf_f (Int32.not_lt.mpr h35)] | rw [pIf_f (Int32.not_le.mpr h35)] | rw [pIf_t (Int32.not_le.mp h35)] | rw [pIf_t (Int32.not_lt.mp h35)] | rw [pIf_f (Nat.not_lt.mpr h35)] | rw [pIf_f (Nat.not_le.mpr h35)] | rw [pIf_t (Nat.not_le.mp h35)] | rw [pIf_t (Nat.not_lt.mp h35)] | skip); (first | rw [pIf_t h71] | rw [pIf_f h71] | rw [pIf_f (Int32.not_lt.mpr h71)] | rw [pIf_f (Int32.not_le.mpr h71)] | rw [pIf_t (Int32.not_le.mp h71)] | rw [pIf_t (Int32.not_lt.mp h71)] | rw [pIf_f (Nat.not_lt.mpr h71)] | rw [pIf_f (Nat.not_le.mpr h71)] | rw [pIf_t (Nat.not_le.mp h71)] | rw [pIf_t (Nat.not_lt.mp h71)] | skip); (first | rw [pIf_t h76] | rw [pIf_f h76] | rw [pIf_f (Int32.not_lt.mpr h76)] | rw [pIf_f (Int32.not_le.mpr h76)] | rw [pIf_t (Int32.not_le.mp h76)] | rw [pIf_t (Int32.not_lt.mp h76)] | rw [pIf_f (Nat.not_lt.mpr h76)] | rw [pIf_f (Nat.not_le.mpr h76)] | rw [pIf_t (Nat.not_le.mp h76)] | rw [pIf_t (Nat.not_lt.mp h76)] | skip); (first | rw [pIf_t h82] | rw [pIf_f h82] | rw [pIf_f (Int32.not_lt.mpr h82)] | rw [pIf_f (Int32.not_le.mpr h82)] | rw [pIf_t (Int32.not_le.mp h82)] | rw [pIf_t (Int32.not_lt.mp h82)] | rw [pIf_f (Nat.not_lt.mpr h82)] | rw [pIf_f (Nat.not_le.mpr h82)] | rw [pIf_t (Nat.not_le.mp h82)] | rw [pIf_t (Nat.not_lt.mp h82)] | skip); (try rw [nI_clamp (show p < 2 ^ 31 from by omega)]); exact ⟨rfl, rfl⟩⟩)
                ·
                  refine aw_aload_n (i := 0) dX8_alter_85 rfl rfl ?_
                  refine aw_bipush (v := (-6)) dX8_alter_86 (by decide) ?_
                  refine aw_cVi ck_X8_142 (m_X8_no (k := 6) (by decide) (by decide)) sh_105 rfl (by decide) (by decide) rfl rfl (Nat.le_of_ble_eq_true rfl) dX8_alter_88 ?_
                  exact aw_iret rfl dX8_alter_91 (by first | contradiction | exact ⟨_, rfl, by unfold S8_alter; (try rw [nI_clamp (show p < 2 ^ 31 from by omega)]); (first | rw [pIf_t h5] | rw [pIf_f h5] | rw [pIf_f (Int32.not_lt.mpr h5)] | rw [pIf_f (Int32.not_le.mpr h5)] | rw [pIf_t (Int32.not_le.mp h5)] | rw [pIf_t (Int32.not_lt.mp h5)] | rw [pIf_f (Nat.not_lt.mpr h5)] | rw [pIf_f (Nat.not_le.mpr h5)] | rw [pIf_t (Nat.not_le.mp h5)] | rw [pIf_t (Nat.not_lt.mp h5)] | skip); (first | rw [pIf_t h15] | rw [pIf_f h15] | rw [pIf_f (Int32.not_lt.mpr h15)] | rw [pIf_f (Int32.not_le.mpr h15)] | rw [pIf_t (Int32.not_le.mp h15)] | rw [pIf_t (Int32.not_lt.mp h15)] | rw [pIf_f (Nat.not_lt.mpr h15)] | rw [pIf_f (Nat.not_le.mpr h15)] | rw [pIf_t (Nat.not_le.mp h15)] | rw [pIf_t (Nat.not_lt.mp h15)] | skip); (first | rw [pIf_t h20] | rw [pIf_f h20] | rw [pIf_f (Int32.not_lt.mpr h20)] | rw [pIf_f (Int32.not_le.mpr h20)] | rw [pIf_t (Int32.not_le.mp h20)] | rw [pIf_t (Int32.not_lt.mp h20)] | rw [pIf_f (Nat.not_lt.mpr h20)] | rw [pIf_f (Nat.not_le.mpr h20)] | rw [pIf_t (Nat.not_le.mp h20)] | rw [pIf_t (Nat.not_lt.mp h20)] | skip); (first | rw [pIf_t h24] | rw [pIf_f h24] | rw [pIf_f (Int32.not_lt.mpr h24)] | rw [pIf_f (Int32.not_le.mpr h24)] | rw [pIf_t (Int32.not_le.mp h24)] | rw [pIf_t (Int32.not_lt.mp h24)] | rw [pIf_f (Nat.not_lt.mpr h24)] | rw [pIf_f (Nat.not_le.mpr h24)] | rw [pIf_t (Nat.not_le.mp h24)] | rw [pIf_t (Nat.not_lt.mp h24)] | skip); (first | rw [pIf_t h35] | rw [pIf_f h35] | rw [pIf_f (Int32.not_lt.mpr h35)] | rw [pIf_f (Int32.not_le.mpr h35)] | rw [pIf_t (Int32.not_le.mp h35)] | rw [pIf_t (Int32.not_lt.mp h35)] | rw [pIf_f (Nat.not_lt.mpr h35)] | rw [pIf_f (Nat.not_le.mpr h35)] | rw [pIf_t (Nat.not_le.mp h35)] | rw [pIf_t (Nat.not_lt.mp h35)] | skip); (first | rw [pIf_t h71] | rw [pIf_f h71] | rw [pIf_f (Int32.not_lt.mpr h71)] | rw [pIf_f (Int32.not_le.mpr h71)] | rw [pIf_t (Int32.not_le.mp h71)] | rw [pIf_t (Int32.not_lt.mp h71)] | rw [pIf_f (Nat.not_lt.mpr h71)] | rw [pIf_f (Nat.not_le.mpr h71)] | rw [pIf_t (Nat.not_le.mp h71)] | rw [pIf_t (Nat.not_lt.mp h71)] | skip); (first | rw [pIf_t h76] | rw [pIf_f h76] | rw [pIf_f (Int32.not_lt.mpr h76)] | rw [pIf_f (Int32.not_le.mpr h76)] | rw [pIf_t (Int32.not_le.mp h76)] | rw [pIf_t (Int32.not_lt.mp h76)] | rw [pIf_f (Nat.not_lt.mpr h76)] | rw [pIf_f (Nat.not_le.mpr h76)] | rw [pIf_t (Nat.not_le.mp h76)] | rw [pIf_t (Nat.not_lt.mp h76)] | skip); (first | rw [pIf_t h82] | rw [pIf_f h82] | rw [pIf_f (Int32.not_lt.mpr h82)] | rw [pIf_f (Int32.not_le.mpr h82)] | rw [pIf_t (Int32.not_le.mp h82)] | rw [pIf_t (Int32.not_lt.mp h82)] | rw [pIf_f (Nat.not_lt.mpr h82)] | rw [pIf_f (Nat.not_le.mpr h82)] | rw [pIf_t (Nat.not_le.mp h82)] | rw [pIf_t (Nat.not_lt.mp h82)] | skip); (try rw [nI_clamp (show p < 2 ^ 31 from by omega)]); exact ⟨rfl, rfl⟩⟩)
          ·
            refine aw_iload_n (i := 3) dX8_alter_38 rfl rfl ?_
            refine aw_bipush (v := 99) dX8_alter_39 (by decide) ?_
            refine aw_icmp_le (tgt := 51) dX8_alter_41 (by decide) (fun h41 => ?_) (fun h41 => ?_)
            ·
              refine aw_aload_n (i := 0) dX8_alter_51 rfl rfl ?_
              refine aw_getR gf_X8_29 sh_105 rfl dX8_alter_52 ?_
              refine aw_iload_n (i := 1) dX8_alter_55 rfl rfl ?_
              refine aw_ialdN sh_109 (by omega) (by omega) dX8_alter_56 ?_
              refine aw_istore (i := 4) dX8_alter_57 (by decide) ?_
              refine aw_aload_n (i := 0) dX8_alter_59 rfl rfl ?_
              refine aw_getR gf_X8_29 sh_105 rfl dX8_alter_60 ?_
              refine aw_iload_n (i := 1) dX8_alter_63 rfl rfl ?_
              refine aw_iload_n (i := 3) dX8_alter_64 rfl rfl ?_
              refine aw_iastN sh_109 (by omega) (by omega) dX8_alter_65 ?_
              refine aw_goto (tgt := 188) dX8_alter_66 (by decide) ?_
              refine aw_iload (i := 4) dX8_alter_188 rfl ?_
              exact aw_iret rfl dX8_alter_190 (by first | contradiction | exact ⟨_, rfl, by unfold S8_alter; (try rw [nI_clamp (show p < 2 ^ 31 from by omega)]); (first | rw [pIf_t h5] | rw [pIf_f h5] | rw [pIf_f (Int32.not_lt.mpr h5)] | rw [pIf_f (Int32.not_le.mpr h5)] | rw [pIf_t (Int32.not_le.mp h5)] | rw [pIf_t (Int32.not_lt.mp h5)] | rw [pIf_f (Nat.not_lt.mpr h5)] | rw [pIf_f (Nat.not_le.mpr h5)] | rw [pIf_t (Nat.not_le.mp h5)] | rw [pIf_t (Nat.not_lt.mp h5)] | skip); (first | rw [pIf_t h15] | rw [pIf_f h15] | rw [pIf_f (Int32.not_lt.mpr h15)] | rw [pIf_f (Int32.not_le.mpr h15)] | rw [pIf_t (Int32.not_le.mp h15)] | rw [pIf_t (Int32.not_lt.mp h15)] | rw [pIf_f (Nat.not_lt.mpr h15)] | rw [pIf_f (Nat.not_le.mpr h15)] | rw [pIf_t (Nat.not_le.mp h15)] | rw [pIf_t (Nat.not_lt.mp h15)] | skip); (first | rw [pIf_t h20] | rw [pIf_f h20] | rw [pIf_f (Int32.not_lt.mpr h20)] | rw [pIf_f (Int32.not_le.mpr h20)] | rw [pIf_t (Int32.not_le.mp h20)] | rw [pIf_t (Int32.not_lt.mp h20)] | rw [pIf_f (Nat.not_lt.mpr h20)] | rw [pIf_f (Nat.not_le.mpr h20)] | rw [pIf_t (Nat.not_le.mp h20)] | rw [pIf_t (Nat.not_lt.mp h20)] | skip); (first | rw [pIf_t h24] | rw [pIf_f h24] | rw [pIf_f (Int32.not_lt.mpr h24)] | rw [pIf_f (Int32.not_le.mpr h24)] | rw [pIf_t (Int32.not_le.mp h24)] | rw [pIf_t (Int32.not_lt.mp h24)] | rw [pIf_f (Nat.not_lt.mpr h24)] | rw [pIf_f (Nat.not_le.mpr h24)] | rw [pIf_t (Nat.not_le.mp h24)] | rw [pIf_t (Nat.not_lt.mp h24)] | skip); (first | rw [pIf_t h35] | rw [pIf_f h35] | rw [pIf_f (Int32.not_lt.mpr h35)] | rw [pIf_f (Int32.not_le.mpr h35)] | rw [pIf_t (Int32.not_le.mp h35)] | rw [pIf_t (Int32.not_lt.mp h35)] | rw [pIf_f (Nat.not_lt.mpr h35)] | rw [pIf_f (Nat.not_le.mpr h35)] | rw [pIf_t (Nat.not_le.mp h35)] | rw [pIf_t (Nat.not_lt.mp h35)] | skip); (first | rw [pIf_t h41] | rw [pIf_f h41] | rw [pIf_f (Int32.not_lt.mpr h41)] | rw [pIf_f (Int32.not_le.mpr h41)] | rw [pIf_t (Int32.not_le.mp h41)] | rw [pIf_t (Int32.not_lt.mp h41)] | rw [pIf_f (Nat.not_lt.mpr h41)] | rw [pIf_f (Nat.not_le.mpr h41)] | rw [pIf_t (Nat.not_le.mp h41)] | rw [pIf_t (Nat.not_lt.mp h41)] | skip); (try rw [nI_clamp (show p < 2 ^ 31 from by omega)]); exact ⟨rfl, rfl⟩⟩)
            ·
              refine aw_aload_n (i := 0) dX8_alter_44 rfl rfl ?_
              refine aw_bipush (v := (-6)) dX8_alter_45 (by decide) ?_
              refine aw_cVi ck_X8_142 (m_X8_no (k := 6) (by decide) (by decide)) sh_105 rfl (by decide) (by decide) rfl rfl (Nat.le_of_ble_eq_true rfl) dX8_alter_47 ?_
              exact aw_iret rfl dX8_alter_50 (by first | contradiction | exact ⟨_, rfl, by unfold S8_alter; (try rw [nI_clamp (show p < 2 ^ 31 from by omega)]); (first | rw [pIf_t h5] | rw [pIf_f h5] | rw [pIf_f (Int32.not_lt.mpr h5)] | rw [pIf_f (Int32.not_le.mpr h5)] | rw [pIf_t (Int32.not_le.mp h5)] | rw [pIf_t (Int32.not_lt.mp h5)] | rw [pIf_f (Nat.not_lt.mpr h5)] | rw [pIf_f (Nat.not_le.mpr h5)] | rw [pIf_t (Nat.not_le.mp h5)] | rw [pIf_t (Nat.not_lt.mp h5)] | skip); (first | rw [pIf_t h15] | rw [pIf_f h15] | rw [pIf_f (Int32.not_lt.mpr h15)] | rw [pIf_f (Int32.not_le.mpr h15)] | rw [pIf_t (Int32.not_le.mp h15)] | rw [pIf_t (Int32.not_lt.mp h15)] | rw [pIf_f (Nat.not_lt.mpr h15)] | rw [pIf_f (Nat.not_le.mpr h15)] | rw [pIf_t (Nat.not_le.mp h15)] | rw [pIf_t (Nat.not_lt.mp h15)] | skip); (first | rw [pIf_t h20] | rw [pIf_f h20] | rw [pIf_f (Int32.not_lt.mpr h20)] | rw [pIf_f (Int32.not_le.mpr h20)] | rw [pIf_t (Int32.not_le.mp h20)] | rw [pIf_t (Int32.not_lt.mp h20)] | rw [pIf_f (Nat.not_lt.mpr h20)] | rw [pIf_f (Nat.not_le.mpr h20)] | rw [pIf_t (Nat.not_le.mp h20)] | rw [pIf_t (Nat.not_lt.mp h20)] | skip); (first | rw [pIf_t h24] | rw [pIf_f h24] | rw [pIf_f (Int32.not_lt.mpr h24)] | rw [pIf_f (Int32.not_le.mpr h24)] | rw [pIf_t (Int32.not_le.mp h24)] | rw [pIf_t (Int32.not_lt.mp h24)] | rw [pIf_f (Nat.not_lt.mpr h24)] | rw [pIf_f (Nat.not_le.mpr h24)] | rw [pIf_t (Nat.not_le.mp h24)] | rw [pIf_t (Nat.not_lt.mp h24)] | skip); (first | rw [pIf_t h35] | rw [pIf_f h35] | rw [pIf_f (Int32.not_lt.mpr h35)] | rw [pIf_f (Int32.not_le.mpr h35)] | rw [pIf_t (Int32.not_le.mp h35)] | rw [pIf_t (Int32.not_lt.mp h35)] | rw [pIf_f (Nat.not_lt.mpr h35)] | rw [pIf_f (Nat.not_le.mpr h35)] | rw [pIf_t (Nat.not_le.mp h35)] | rw [pIf_t (Nat.not_lt.mp h35)] | skip); (first | rw [pIf_t h41] | rw [pIf_f h41] | rw [pIf_f (Int32.not_lt.mpr h41)] | rw [pIf_f (Int32.not_le.mpr h41)] | rw [pIf_t (Int32.not_le.mp h41)] | rw [pIf_t (Int32.not_lt.mp h41)] | rw [pIf_f (Nat.not_lt.mpr h41)] | rw [pIf_f (Nat.not_le.mpr h41)] | rw [pIf_t (Nat.not_le.mp h41)] | rw [pIf_t (Nat.not_lt.mp h41)] | skip); (try rw [nI_clamp (show p < 2 ^ 31 from by omega)]); exact ⟨rfl, rfl⟩⟩)
        ·
          refine aw_aload_n (i := 0) dX8_alter_27 rfl rfl ?_
          refine aw_bipush (v := (-6)) dX8_alter_28 (by decide) ?_
          refine aw_cVi ck_X8_142 (m_X8_no (k := 6) (by decide) (by decide)) sh_105 rfl (by decide) (by decide) rfl rfl (Nat.le_of_ble_eq_true rfl) dX8_alter_30 ?_
          exact aw_iret rfl dX8_alter_33 (by first | contradiction | exact ⟨_, rfl, by unfold S8_alter; (try rw [nI_clamp (show p < 2 ^ 31 from by omega)]); (first | rw [pIf_t h5] | rw [pIf_f h5] | rw [pIf_f (Int32.not_lt.mpr h5)] | rw [pIf_f (Int32.not_le.mpr h5)] | rw [pIf_t (Int32.not_le.mp h5)] | rw [pIf_t (Int32.not_lt.mp h5)] | rw [pIf_f (Nat.not_lt.mpr h5)] | rw [pIf_f (Nat.not_le.mpr h5)] | rw [pIf_t (Nat.not_le.mp h5)] | rw [pIf_t (Nat.not_lt.mp h5)] | skip); (first | rw [pIf_t h15] | rw [pIf_f h15] | rw [pIf_f (Int32.not_lt.mpr h15)] | rw [pIf_f (Int32.not_le.mpr h15)] | rw [pIf_t (Int32.not_le.mp h15)] | rw [pIf_t (Int32.not_lt.mp h15)] | rw [pIf_f (Nat.not_lt.mpr h15)] | rw [pIf_f (Nat.not_le.mpr h15)] | rw [pIf_t (Nat.not_le.mp h15)] | rw [pIf_t (Nat.not_lt.mp h15)] | skip); (first | rw [pIf_t h20] | rw [pIf_f h20] | rw [pIf_f (Int32.not_lt.mpr h20)] | rw [pIf_f (Int32.not_le.mpr h20)] | rw [pIf_t (Int32.not_le.mp h20)] | rw [pIf_t (Int32.not_lt.mp h20)] | rw [pIf_f (Nat.not_lt.mpr h20)] | rw [pIf_f (Nat.not_le.mpr h20)] | rw [pIf_t (Nat.not_le.mp h20)] | rw [pIf_t (Nat.not_lt.mp h20)] | skip); (first | rw [pIf_t h24] | rw [pIf_f h24] | rw [pIf_f (Int32.not_lt.mpr h24)] | rw [pIf_f (Int32.not_le.mpr h24)] | rw [pIf_t (Int32.not_le.mp h24)] | rw [pIf_t (Int32.not_lt.mp h24)] | rw [pIf_f (Nat.not_lt.mpr h24)] | rw [pIf_f (Nat.not_le.mpr h24)] | rw [pIf_t (Nat.not_le.mp h24)] | rw [pIf_t (Nat.not_lt.mp h24)] | skip); (try rw [nI_clamp (show p < 2 ^ 31 from by omega)]); exact ⟨rfl, rfl⟩⟩)
  ·
    refine aw_aload_n (i := 0) dX8_alter_8 rfl rfl ?_
    refine aw_iconst (v := (-1)) dX8_alter_9 (by decide) ?_
    refine aw_cVi ck_X8_142 (m_X8_no (k := 1) (by decide) (by decide)) sh_105 rfl (by decide) (by decide) rfl rfl (Nat.le_of_ble_eq_true rfl) dX8_alter_10 ?_
    exact aw_iret rfl dX8_alter_13 (by first | contradiction | exact ⟨_, rfl, by unfold S8_alter; (try rw [nI_clamp (show p < 2 ^ 31 from by omega)]); (first | rw [pIf_t h5] | rw [pIf_f h5] | rw [pIf_f (Int32.not_lt.mpr h5)] | rw [pIf_f (Int32.not_le.mpr h5)] | rw [pIf_t (Int32.not_le.mp h5)] | rw [pIf_t (Int32.not_lt.mp h5)] | rw [pIf_f (Nat.not_lt.mpr h5)] | rw [pIf_f (Nat.not_le.mpr h5)] | rw [pIf_t (Nat.not_le.mp h5)] | rw [pIf_t (Nat.not_lt.mp h5)] | skip); (try rw [nI_clamp (show p < 2 ^ 31 from by omega)]); exact ⟨rfl, rfl⟩⟩)
theorem m_X8_isTicks {l : Launch} {M : Mm} {s : Int32} : AMet l 1 yX8_isTicks cX8_isTicks 2 (some FieldType.boolean) [.ref 105, .int s] M (QE (some (.int (b01 (¬ s < 0 ∧ ¬ 200 < s)))) M) := by
  refine AMet.of (by decide) (by simp [aargs, Value.category]) ?_
  show AW l 1 yX8_isTicks cX8_isTicks 2 (some FieldType.boolean) 0 [some (.ref 105), some (.int s)] [] M _
  refine aw_iload_n (i := 1) dX8_isTicks_0 rfl rfl ?_
  refine aw_if_lt (tgt := 15) dX8_isTicks_1 (by decide) (fun h1 => ?_) (fun h1 => ?_)
  ·
    refine aw_iconst (v := 0) dX8_isTicks_15 (by decide) ?_
    exact aw_zret rfl (by simp) dX8_isTicks_16 (by simp [QE, b01, h1])
  ·
    refine aw_iload_n (i := 1) dX8_isTicks_4 rfl rfl ?_
    refine aw_sipush (v := 200) dX8_isTicks_5 (by decide) ?_
    refine aw_icmp_gt (tgt := 15) dX8_isTicks_8 (by decide) (fun h8 => ?_) (fun h8 => ?_)
    ·
      refine aw_iconst (v := 0) dX8_isTicks_15 (by decide) ?_
      exact aw_zret rfl (by simp) dX8_isTicks_16 (by simp [QE, b01, h1, h8])
    ·
      refine aw_iconst (v := 1) dX8_isTicks_11 (by decide) ?_
      refine aw_goto (tgt := 16) dX8_isTicks_12 (by decide) ?_
      exact aw_zret rfl (by simp) dX8_isTicks_16 (by simp [QE, b01, h1, h8])
theorem m_X8_draw {l : Launch} {M : Mm} : AMet l 1 yX8_draw cX8_draw 2 (some FieldType.int) [.ref 105, .int 10] M (QE (some (.int (drawV (M.1 105 4) 10))) (mI M 105 4 (nxtS (M.1 105 4)))) := by
  refine AMet.of (by decide) (by simp [aargs, Value.category]) ?_
  show AW l 1 yX8_draw cX8_draw 2 (some FieldType.int) 0 [some (.ref 105), some (.int 10)] [] M _
  refine aw_aload_n (i := 0) dX8_draw_0 rfl rfl ?_
  refine aw_aload_n (i := 0) dX8_draw_1 rfl rfl ?_
  refine aw_getI gf_X8_7 sh_105 rfl dX8_draw_2 ?_
  refine aw_ldc (v := 1103515245) (List.mem_append_right _ (List.mem_of_getElem? (i := 1257) (by decide +kernel))) dX8_draw_5 ?_
  refine aw_imul dX8_draw_7 ?_
  refine aw_sipush (v := 12345) dX8_draw_8 (by decide) ?_
  refine aw_iadd dX8_draw_11 ?_
  refine aw_putI pf_X8_7 sh_105 rfl dX8_draw_12 ?_
  refine aw_aload_n (i := 0) dX8_draw_15 rfl rfl ?_
  refine aw_getX (x := (nxtS (M.1 105 4))) gf_X8_7 sh_105 rfl (by rw [mI_self, upd_self]; rfl) dX8_draw_16 ?_
  refine aw_bipush (v := 16) dX8_draw_19 (by decide) ?_
  refine aw_iushr dX8_draw_21 ?_
  refine aw_iload_n (i := 1) dX8_draw_22 rfl rfl ?_
  refine aw_irem dX8_draw_23 (by decide) ?_
  exact aw_iret rfl dX8_draw_24 ⟨congrArg (fun z => some (Value.int z)) (by unfold drawV modI; rw [if_neg (show ¬ (10 : Int32) ≤ 0 from by decide)]), rfl⟩
theorem or_0 (x : Int32) : x ||| 0 = x := Int32.or_zero
theorem or_as (x y z : Int32) : x ||| y ||| z = x ||| (y ||| z) := Int32.or_assoc x y z
theorem met_0 (M : Mm) (P : Nat → Prop) : M = mI M 105 51 (M.1 105 51 ||| bitsI 0 P) := by
  have e : M.1 105 51 ||| bitsI 0 P = M.1 105 51 := or_0 _
  rw [e, mI_rI]
  have e2 : upd (M.1 105) 51 (M.1 105 51) = M.1 105 := by
    funext j
    show (if j = 51 then M.1 105 51 else M.1 105 j) = _
    by_cases h : j = 51
    · rw [if_pos h, h]
    · rw [if_neg h]
  rw [e2, rI_id]
theorem m_X8_meets {l : Launch} {M : Mm} {n : Nat} (hn : M.1 105 0 = nI n) (hn30 : n ≤ 30) : AMet l 1 yX8_meets cX8_meets 2 none [.ref 105] M (QE none (mI M 105 51 (M.1 105 51 ||| bitsI n (fun q => M.1 113 q = 1)))) := by
  refine AMet.of (by decide) (by simp [aargs, Value.category]) ?_
  show AW l 1 yX8_meets cX8_meets 2 none 0 [some (.ref 105), none] [] M _
  refine aw_iconst (v := 0) dX8_meets_0 (by decide) ?_
  refine aw_istore_n (i := 1) dX8_meets_1 rfl (by decide) ?_
  have lp2 : ∀ k9 i, i + k9 = n → AW l 1 yX8_meets cX8_meets 2 none 2 [some (.ref 105), some (.int (nI i))] [] (mI M 105 51 (M.1 105 51 ||| bitsI i (fun q => M.1 113 q = 1))) (QE none (mI M 105 51 (M.1 105 51 ||| bitsI n (fun q => M.1 113 q = 1)))) := by
    intro k9
    induction k9 using Nat.strongRecOn with
    | _ k9 ih =>
    intro i hk9
    refine aw_iload_n (i := 1) dX8_meets_2 rfl rfl ?_
    refine aw_aload_n (i := 0) dX8_meets_3 rfl rfl ?_
    refine aw_getN (n := n) gf_X8_132 sh_105 rfl ((congrFun (mI_self _ _ _ _) _).trans ((upd_other (by decide)).trans hn)) dX8_meets_4 ?_
    refine aw_icmp_geN (tgt := 38) (by omega) (by omega) dX8_meets_7 (by decide) (fun h7 => ?_) (fun h7 => ?_)
    ·
      exact aw_vret rfl dX8_meets_38 ⟨rfl, by rw [show i = n by omega]⟩
    ·
      refine aw_aload_n (i := 0) dX8_meets_10 rfl rfl ?_
      refine aw_getR gf_X8_41 sh_105 rfl dX8_meets_11 ?_
      refine aw_iload_n (i := 1) dX8_meets_14 rfl rfl ?_
      refine aw_ialdN sh_113 (by omega) (by omega) dX8_meets_15 ?_
      refine aw_iconst (v := 1) dX8_meets_16 (by decide) ?_
      refine aw_icmp_ne (tgt := 32) dX8_meets_17 (by decide) (fun h17 => ?_) (fun h17 => ?_)
      ·
        refine aw_iincN (i := 1) dX8_meets_32 rfl (by decide) ?_
        refine aw_goto (tgt := 2) dX8_meets_35 (by decide) ?_
        refine aw_mem (M' := (mI M 105 51 (M.1 105 51 ||| bitsI (i + 1) (fun q => M.1 113 q = 1)))) (by first | (rw [mI_mI, or_as, bitsI_t (show M.1 113 i = 1 from h17)]) | (rw [bitsI_f (show ¬ M.1 113 i = 1 from h17)])) ?_
        refine aw_loc (la := [some (.ref 105), some (.int (nI (i + 1)))]) ⟨rfl, rfl, trivial⟩ ?_
        exact ih (k9 - 1) (by omega) (i + 1) (by omega)
      ·
        refine aw_aload_n (i := 0) dX8_meets_20 rfl rfl ?_
        refine aw_dup dX8_meets_21 rfl ?_
        refine aw_getX (x := (M.1 105 51 ||| bitsI i (fun q => M.1 113 q = 1))) gf_X8_268 sh_105 rfl (by rw [mI_self, upd_self]) dX8_meets_22 ?_
        refine aw_iconst (v := 1) dX8_meets_25 (by decide) ?_
        refine aw_iload_n (i := 1) dX8_meets_26 rfl rfl ?_
        refine aw_ishl dX8_meets_27 ?_
        refine aw_ior dX8_meets_28 ?_
        refine aw_putI pf_X8_268 sh_105 rfl dX8_meets_29 ?_
        refine aw_iincN (i := 1) dX8_meets_32 rfl (by decide) ?_
        refine aw_goto (tgt := 2) dX8_meets_35 (by decide) ?_
        refine aw_mem (M' := (mI M 105 51 (M.1 105 51 ||| bitsI (i + 1) (fun q => M.1 113 q = 1)))) (by first | (rw [mI_mI, or_as, bitsI_t (show M.1 113 i = 1 from h17)]) | (rw [bitsI_f (show ¬ M.1 113 i = 1 from h17)])) ?_
        refine aw_loc (la := [some (.ref 105), some (.int (nI (i + 1)))]) ⟨rfl, rfl, trivial⟩ ?_
        exact ih (k9 - 1) (by omega) (i + 1) (by omega)
  refine aw_mem (M' := (mI M 105 51 (M.1 105 51 ||| bitsI 0 (fun q => M.1 113 q = 1)))) (met_0 M _) ?_
  refine aw_loc (la := [some (.ref 105), some (.int (nI 0))]) ⟨rfl, rfl, trivial⟩ ?_
  exact lp2 n 0 (by omega)
