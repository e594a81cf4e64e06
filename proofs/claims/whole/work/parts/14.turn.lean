/-- a draw, if there is one -/
noncomputable def drM (c : Nat) (M : Mm) (P : Prop) : Mm := pIf P (mI M c 13 (nxtS (M.1 c 13))) M
theorem drM_t {c : Nat} {M : Mm} {P : Prop} (h : P) : drM c M P = mI M c 13 (nxtS (M.1 c 13)) := pIf_t h
theorem drM_f {c : Nat} {M : Mm} {P : Prop} (h : ¬ P) : drM c M P = M := pIf_f h
theorem drM_o {c k : Nat} {M : Mm} {P : Prop} (h : k ≠ c) : (drM c M P).1 k = M.1 k := by
  by_cases p : P
  · rw [drM_t p, mI_other h]
  · rw [drM_f p]
theorem drM_2 {c : Nat} {M : Mm} {P : Prop} : (drM c M P).2 = M.2 := by
  by_cases p : P
  · rw [drM_t p]; rfl
  · rw [drM_f p]
theorem drM_j {c j : Nat} {M : Mm} {P : Prop} (h : j ≠ 13) : (drM c M P).1 c j = M.1 c j := by
  by_cases p : P
  · rw [drM_t p, mI_self, upd_other h]
  · rw [drM_f p]
theorem drM_13 {c : Nat} {M : Mm} {P : Prop} : (drM c M P).1 c 13 = pIf P (nxtS (M.1 c 13)) (M.1 c 13) := by
  by_cases p : P
  · rw [drM_t p, pIf_t p, mI_self, upd_self]
  · rw [drM_f p, pIf_f p]
theorem wsP_1 {t l o k : Int32} {ti : Prop} {W : Nat → Int32} : wsP 1 t l o k ti W = (¬ t ≤ l ∨ (o = 0 ∧ ¬ t < 5)) := by
  unfold wsP
  rw [if_pos rfl]
theorem wsP_2 {t l o k : Int32} {ti : Prop} {W : Nat → Int32} : wsP 2 t l o k ti W = (¬ t ≤ l ∨ ¬ W 2 ≤ o) := by
  unfold wsP
  rw [if_neg (by decide), if_pos (by decide)]
theorem wsP_4 {t l o k : Int32} {ti : Prop} {W : Nat → Int32} : wsP 4 t l o k ti W = (¬ t ≤ l ∨ ¬ W 2 ≤ o) := by
  unfold wsP
  rw [if_neg (by decide), if_pos (by decide)]
theorem wsP_3 {t l o k : Int32} {ti : Prop} {W : Nat → Int32} : wsP 3 t l o k ti W = ((¬ t ≤ l ∨ ¬ W 2 ≤ o) ∧ ¬ W 1 ≤ k) := by
  unfold wsP
  rw [if_neg (by decide), if_neg (by decide), if_pos rfl]
theorem wsP_5 {t l o k : Int32} {ti : Prop} {W : Nat → Int32} : wsP 5 t l o k ti W = ((¬ t ≤ l ∨ ¬ W 2 ≤ o) ∨ ti) := by
  unfold wsP
  rw [if_neg (by decide), if_neg (by decide), if_neg (by decide), if_pos rfl]
theorem wsP_6 {t l o k : Int32} {ti : Prop} {W : Nat → Int32} : wsP 6 t l o k ti W = (¬ t < W 4) := by
  unfold wsP
  rw [if_neg (by decide), if_neg (by decide), if_neg (by decide), if_neg (by decide), if_pos rfl]
theorem wsP_o {x t l o k : Int32} {ti : Prop} {W : Nat → Int32} (h : ¬ x = 1 ∧ ¬ x = 2 ∧ ¬ x = 3 ∧ ¬ x = 4 ∧ ¬ x = 5 ∧ ¬ x = 6) : wsP x t l o k ti W = (¬ t ≤ l) := by
  unfold wsP
  rw [if_neg h.1, if_neg (fun q => q.elim h.2.1 h.2.2.2.1), if_neg h.2.2.1, if_neg h.2.2.2.2.1, if_neg h.2.2.2.2.2]
theorem m_X1_wouldStop {l : Launch} {M : Mm} {c p L : Nat} (hc : isC c) (hp : p < 30) (hL : shp[L]? = some (.inr (0, 7, 0))) : AMet l 3 yX1_wouldStop cX1_wouldStop 6 (some FieldType.boolean) [.ref c, .int (nI p), .ref L] M (QE (some (.int (b01 (wsP (M.1 (c + 2) p) (M.1 (c + 9) p) (M.1 (c + 4) p) (M.1 (c + 12) p) (M.1 (c + 13) p) (M.1 (c + 2) p = 5 ∧ ¬ M.1 L 3 ≤ drawV (M.1 c 13) 10) (M.1 L))))) (drM c M (M.1 (c + 2) p = 5))) := by
  refine AMet.of (by decide) (by simp [aargs, Value.category]) ?_
  show AW l 3 yX1_wouldStop cX1_wouldStop 6 (some FieldType.boolean) 0 [some (.ref c), some (.int (nI p)), some (.ref L), none, none, none] [] M _
  have hLc : L ≠ c := fun e => by rw [e, shC hc] at hL; cases hL
  have J28 : AW l 3 yX1_wouldStop cX1_wouldStop 6 (some FieldType.boolean) 28 [some (.ref c), some (.int (nI p)), some (.ref L), some (.int (b01 (M.1 (c + 2) p = 5 ∧ ¬ M.1 L 3 ≤ drawV (M.1 c 13) 10))), none, none] [] (drM c M (M.1 (c + 2) p = 5)) (QE (some (.int (b01 (wsP (M.1 (c + 2) p) (M.1 (c + 9) p) (M.1 (c + 4) p) (M.1 (c + 12) p) (M.1 (c + 13) p) (M.1 (c + 2) p = 5 ∧ ¬ M.1 L 3 ≤ drawV (M.1 c 13) 10) (M.1 L))))) (drM c M (M.1 (c + 2) p = 5))) := by
    refine aw_aload_n (i := 0) dX1_wouldStop_28 rfl rfl ?_
    refine aw_getR gf_X1_38 (shC hc) rfl dX1_wouldStop_29 ?_
    refine aw_iload_n (i := 1) dX1_wouldStop_32 rfl rfl ?_
    refine aw_ialdX (shC_9 hc) (by omega) (by decide) (congrFun (drM_o (by omega)) _) dX1_wouldStop_33 ?_
    refine aw_aload_n (i := 0) dX1_wouldStop_34 rfl rfl ?_
    refine aw_getR gf_X1_23 (shC hc) rfl dX1_wouldStop_35 ?_
    refine aw_iload_n (i := 1) dX1_wouldStop_38 rfl rfl ?_
    refine aw_ialdX (shC_4 hc) (by omega) (by decide) (congrFun (drM_o (by omega)) _) dX1_wouldStop_39 ?_
    refine aw_ternC_le (tgt := 47) (j := 48) (v := 1) (w := 0) dX1_wouldStop_40 (by decide) dX1_wouldStop_43 (by decide) dX1_wouldStop_44 (by decide) dX1_wouldStop_47 (by decide) rfl ?_
    refine aw_top t01a ?_
    refine aw_istore (i := 4) dX1_wouldStop_48 (by decide) ?_
    have J74 : AW l 3 yX1_wouldStop cX1_wouldStop 6 (some FieldType.boolean) 74 [some (.ref c), some (.int (nI p)), some (.ref L), some (.int (b01 (M.1 (c + 2) p = 5 ∧ ¬ M.1 L 3 ≤ drawV (M.1 c 13) 10))), some (.int (b01 (¬ M.1 (c + 9) p ≤ M.1 (c + 4) p))), some (.int (b01 ((¬ M.1 (c + 9) p ≤ M.1 (c + 4) p) ∨ ¬ M.1 L 2 ≤ M.1 (c + 12) p)))] [] (drM c M (M.1 (c + 2) p = 5)) (QE (some (.int (b01 (wsP (M.1 (c + 2) p) (M.1 (c + 9) p) (M.1 (c + 4) p) (M.1 (c + 12) p) (M.1 (c + 13) p) (M.1 (c + 2) p = 5 ∧ ¬ M.1 L 3 ≤ drawV (M.1 c 13) 10) (M.1 L))))) (drM c M (M.1 (c + 2) p = 5))) := by
      refine aw_aload_n (i := 0) dX1_wouldStop_74 rfl rfl ?_
      refine aw_getR gf_X1_16 (shC hc) rfl dX1_wouldStop_75 ?_
      refine aw_iload_n (i := 1) dX1_wouldStop_78 rfl rfl ?_
      refine aw_ialdX (shC_2 hc) (by omega) (by decide) (congrFun (drM_o (by omega)) _) dX1_wouldStop_79 ?_
      generalize hk9 : M.1 (c + 2) p = k9
      rcases sw16 k9 with rfl | rfl | rfl | rfl | rfl | rfl | hz9
      ·
        refine aw_tableIn (off := 40) (tgt := 120) dX1_wouldStop_80 (by decide) (by decide) (by decide) (by decide) ?_
        refine aw_iload (i := 4) dX1_wouldStop_120 rfl ?_
        refine aw_ifne_b (tgt := 144) dX1_wouldStop_122 (by decide) (fun h122 => ?_) (fun h122 => ?_)
        ·
          refine aw_iconst (v := 1) dX1_wouldStop_144 (by decide) ?_
          refine aw_goto (tgt := 149) dX1_wouldStop_145 (by decide) ?_
          exact aw_zret rfl (by simp) dX1_wouldStop_149 ⟨by rw [b01_t (by rw [wsP_1]; grind)], rfl⟩
        ·
          refine aw_aload_n (i := 0) dX1_wouldStop_125 rfl rfl ?_
          refine aw_getR gf_X1_63 (shC hc) rfl dX1_wouldStop_126 ?_
          refine aw_iload_n (i := 1) dX1_wouldStop_129 rfl rfl ?_
          refine aw_ialdX (shC_12 hc) (by omega) (by decide) (congrFun (drM_o (by omega)) _) dX1_wouldStop_130 ?_
          refine aw_if_ne (tgt := 148) dX1_wouldStop_131 (by decide) (fun h131 => ?_) (fun h131 => ?_)
          ·
            refine aw_iconst (v := 0) dX1_wouldStop_148 (by decide) ?_
            exact aw_zret rfl (by simp) dX1_wouldStop_149 ⟨by rw [b01_f (by rw [wsP_1]; grind)], rfl⟩
          ·
            refine aw_aload_n (i := 0) dX1_wouldStop_134 rfl rfl ?_
            refine aw_getR gf_X1_38 (shC hc) rfl dX1_wouldStop_135 ?_
            refine aw_iload_n (i := 1) dX1_wouldStop_138 rfl rfl ?_
            refine aw_ialdX (shC_9 hc) (by omega) (by decide) (congrFun (drM_o (by omega)) _) dX1_wouldStop_139 ?_
            refine aw_iconst (v := 5) dX1_wouldStop_140 (by decide) ?_
            refine aw_icmp_lt (tgt := 148) dX1_wouldStop_141 (by decide) (fun h141 => ?_) (fun h141 => ?_)
            ·
              refine aw_iconst (v := 0) dX1_wouldStop_148 (by decide) ?_
              exact aw_zret rfl (by simp) dX1_wouldStop_149 ⟨by rw [b01_f (by rw [wsP_1]; grind)], rfl⟩
            ·
              refine aw_iconst (v := 1) dX1_wouldStop_144 (by decide) ?_
              refine aw_goto (tgt := 149) dX1_wouldStop_145 (by decide) ?_
              exact aw_zret rfl (by simp) dX1_wouldStop_149 ⟨by rw [b01_t (by rw [wsP_1]; grind)], rfl⟩
      ·
        refine aw_tableIn (off := 70) (tgt := 150) dX1_wouldStop_80 (by decide) (by decide) (by decide) (by decide) ?_
        refine aw_iload (i := 5) dX1_wouldStop_150 rfl ?_
        exact aw_zret rfl b01_ok dX1_wouldStop_152 ⟨congrArg (fun z => some (Value.int z)) (b01_c (by first | (rw [wsP_2]; done) | rw [wsP_4])), rfl⟩
      ·
        refine aw_tableIn (off := 73) (tgt := 153) dX1_wouldStop_80 (by decide) (by decide) (by decide) (by decide) ?_
        refine aw_iload (i := 5) dX1_wouldStop_153 rfl ?_
        refine aw_ifeq_b (tgt := 174) dX1_wouldStop_155 (by decide) (fun h155 => ?_) (fun h155 => ?_)
        ·
          refine aw_iconst (v := 0) dX1_wouldStop_174 (by decide) ?_
          exact aw_zret rfl (by simp) dX1_wouldStop_175 ⟨by rw [b01_f (by rw [wsP_3]; grind)], rfl⟩
        ·
          refine aw_aload_n (i := 0) dX1_wouldStop_158 rfl rfl ?_
          refine aw_getR gf_X1_66 (shC hc) rfl dX1_wouldStop_159 ?_
          refine aw_iload_n (i := 1) dX1_wouldStop_162 rfl rfl ?_
          refine aw_ialdX (shC_13 hc) (by omega) (by decide) (congrFun (drM_o (by omega)) _) dX1_wouldStop_163 ?_
          refine aw_aload_n (i := 2) dX1_wouldStop_164 rfl rfl ?_
          refine aw_iconst (v := 1) dX1_wouldStop_165 (by decide) ?_
          refine aw_top (show (1 : Int32) = nI 1 from rfl) ?_
          refine aw_ialdX hL (by omega) (by decide) (congrFun (drM_o (by omega)) _) dX1_wouldStop_166 ?_
          refine aw_icmp_ge (tgt := 174) dX1_wouldStop_167 (by decide) (fun h167 => ?_) (fun h167 => ?_)
          ·
            refine aw_iconst (v := 0) dX1_wouldStop_174 (by decide) ?_
            exact aw_zret rfl (by simp) dX1_wouldStop_175 ⟨by rw [b01_f (by rw [wsP_3]; grind)], rfl⟩
          ·
            refine aw_iconst (v := 1) dX1_wouldStop_170 (by decide) ?_
            refine aw_goto (tgt := 175) dX1_wouldStop_171 (by decide) ?_
            exact aw_zret rfl (by simp) dX1_wouldStop_175 ⟨by rw [b01_t (by rw [wsP_3]; grind)], rfl⟩
      ·
        refine aw_tableIn (off := 70) (tgt := 150) dX1_wouldStop_80 (by decide) (by decide) (by decide) (by decide) ?_
        refine aw_iload (i := 5) dX1_wouldStop_150 rfl ?_
        exact aw_zret rfl b01_ok dX1_wouldStop_152 ⟨congrArg (fun z => some (Value.int z)) (b01_c (by first | (rw [wsP_2]; done) | rw [wsP_4])), rfl⟩
      ·
        refine aw_tableIn (off := 96) (tgt := 176) dX1_wouldStop_80 (by decide) (by decide) (by decide) (by decide) ?_
        refine aw_iload (i := 5) dX1_wouldStop_176 rfl ?_
        refine aw_ifne_b (tgt := 185) dX1_wouldStop_178 (by decide) (fun h178 => ?_) (fun h178 => ?_)
        ·
          refine aw_iconst (v := 1) dX1_wouldStop_185 (by decide) ?_
          refine aw_goto (tgt := 190) dX1_wouldStop_186 (by decide) ?_
          exact aw_zret rfl (by simp) dX1_wouldStop_190 ⟨by rw [b01_t (by rw [wsP_5]; grind)], rfl⟩
        ·
          refine aw_iload_n (i := 3) dX1_wouldStop_181 rfl rfl ?_
          refine aw_tern_eq (tgt := 189) (j := 190) (v := 1) (w := 0) dX1_wouldStop_182 (by decide) dX1_wouldStop_185 (by decide) dX1_wouldStop_186 (by decide) dX1_wouldStop_189 (by decide) rfl ?_
          refine aw_top t01c ?_
          exact aw_zret rfl b01_ok dX1_wouldStop_190 ⟨congrArg (fun z => some (Value.int z)) (b01_c (by rw [wsP_5]; grind)), rfl⟩
      ·
        refine aw_tableIn (off := 111) (tgt := 191) dX1_wouldStop_80 (by decide) (by decide) (by decide) (by decide) ?_
        refine aw_aload_n (i := 0) dX1_wouldStop_191 rfl rfl ?_
        refine aw_getR gf_X1_38 (shC hc) rfl dX1_wouldStop_192 ?_
        refine aw_iload_n (i := 1) dX1_wouldStop_195 rfl rfl ?_
        refine aw_ialdX (shC_9 hc) (by omega) (by decide) (congrFun (drM_o (by omega)) _) dX1_wouldStop_196 ?_
        refine aw_aload_n (i := 2) dX1_wouldStop_197 rfl rfl ?_
        refine aw_iconst (v := 4) dX1_wouldStop_198 (by decide) ?_
        refine aw_top (show (4 : Int32) = nI 4 from rfl) ?_
        refine aw_ialdX hL (by omega) (by decide) (congrFun (drM_o (by omega)) _) dX1_wouldStop_199 ?_
        refine aw_ternC_lt (tgt := 207) (j := 208) (v := 1) (w := 0) dX1_wouldStop_200 (by decide) dX1_wouldStop_203 (by decide) dX1_wouldStop_204 (by decide) dX1_wouldStop_207 (by decide) rfl ?_
        refine aw_top t01a ?_
        exact aw_zret rfl b01_ok dX1_wouldStop_208 ⟨congrArg (fun z => some (Value.int z)) (b01_c (by rw [wsP_6])), rfl⟩
      · have hn9 := no16 hz9
        refine aw_tableOut (tgt := 209) dX1_wouldStop_80 hz9 (by decide) ?_
        refine aw_iload (i := 4) dX1_wouldStop_209 rfl ?_
        exact aw_zret rfl b01_ok dX1_wouldStop_211 ⟨congrArg (fun z => some (Value.int z)) (b01_c (by rw [wsP_o hn9])), rfl⟩
    refine aw_iload (i := 4) dX1_wouldStop_50 rfl ?_
    refine aw_ifne_b (tgt := 67) dX1_wouldStop_52 (by decide) (fun h52 => ?_) (fun h52 => ?_)
    ·
      refine aw_iconst (v := 1) dX1_wouldStop_67 (by decide) ?_
      refine aw_goto (tgt := 72) dX1_wouldStop_68 (by decide) ?_
      refine aw_istore (i := 5) dX1_wouldStop_72 (by decide) ?_
      refine aw_loc (la := [some (.ref c), some (.int (nI p)), some (.ref L), some (.int (b01 (M.1 (c + 2) p = 5 ∧ ¬ M.1 L 3 ≤ drawV (M.1 c 13) 10))), some (.int (b01 (¬ M.1 (c + 9) p ≤ M.1 (c + 4) p))), some (.int (b01 ((¬ M.1 (c + 9) p ≤ M.1 (c + 4) p) ∨ ¬ M.1 L 2 ≤ M.1 (c + 12) p)))]) ⟨rfl, rfl, rfl, rfl, rfl, (show some (Value.int 1) = some (Value.int (b01 ((¬ M.1 (c + 9) p ≤ M.1 (c + 4) p) ∨ ¬ M.1 L 2 ≤ M.1 (c + 12) p))) from by rw [b01_t (show ((¬ M.1 (c + 9) p ≤ M.1 (c + 4) p) ∨ ¬ M.1 L 2 ≤ M.1 (c + 12) p) from Or.inl (by assumption))]), trivial⟩ J74
    ·
      refine aw_aload_n (i := 0) dX1_wouldStop_55 rfl rfl ?_
      refine aw_getR gf_X1_63 (shC hc) rfl dX1_wouldStop_56 ?_
      refine aw_iload_n (i := 1) dX1_wouldStop_59 rfl rfl ?_
      refine aw_ialdX (shC_12 hc) (by omega) (by decide) (congrFun (drM_o (by omega)) _) dX1_wouldStop_60 ?_
      refine aw_aload_n (i := 2) dX1_wouldStop_61 rfl rfl ?_
      refine aw_iconst (v := 2) dX1_wouldStop_62 (by decide) ?_
      refine aw_top (show (2 : Int32) = nI 2 from rfl) ?_
      refine aw_ialdX hL (by omega) (by decide) (congrFun (drM_o (by omega)) _) dX1_wouldStop_63 ?_
      refine aw_ternC_ge (tgt := 71) (j := 72) (v := 1) (w := 0) dX1_wouldStop_64 (by decide) dX1_wouldStop_67 (by decide) dX1_wouldStop_68 (by decide) dX1_wouldStop_71 (by decide) rfl ?_
      refine aw_top t01a ?_
      refine aw_istore (i := 5) dX1_wouldStop_72 (by decide) ?_
      refine aw_loc (la := [some (.ref c), some (.int (nI p)), some (.ref L), some (.int (b01 (M.1 (c + 2) p = 5 ∧ ¬ M.1 L 3 ≤ drawV (M.1 c 13) 10))), some (.int (b01 (¬ M.1 (c + 9) p ≤ M.1 (c + 4) p))), some (.int (b01 ((¬ M.1 (c + 9) p ≤ M.1 (c + 4) p) ∨ ¬ M.1 L 2 ≤ M.1 (c + 12) p)))]) ⟨rfl, rfl, rfl, rfl, rfl, (show some (Value.int (b01 (¬ M.1 L 2 ≤ M.1 (c + 12) p))) = some (Value.int (b01 ((¬ M.1 (c + 9) p ≤ M.1 (c + 4) p) ∨ ¬ M.1 L 2 ≤ M.1 (c + 12) p))) from by rw [b01_c (show (¬ M.1 L 2 ≤ M.1 (c + 12) p) ↔ ((¬ M.1 (c + 9) p ≤ M.1 (c + 4) p) ∨ ¬ M.1 L 2 ≤ M.1 (c + 12) p) by simp [h52])]), trivial⟩ J74
  refine aw_aload_n (i := 0) dX1_wouldStop_0 rfl rfl ?_
  refine aw_getR gf_X1_16 (shC hc) rfl dX1_wouldStop_1 ?_
  refine aw_iload_n (i := 1) dX1_wouldStop_4 rfl rfl ?_
  refine aw_ialdN (shC_2 hc) (by omega) (by omega) dX1_wouldStop_5 ?_
  refine aw_iconst (v := 5) dX1_wouldStop_6 (by decide) ?_
  refine aw_icmp_ne (tgt := 26) dX1_wouldStop_7 (by decide) (fun h7 => ?_) (fun h7 => ?_)
  ·
    refine aw_iconst (v := 0) dX1_wouldStop_26 (by decide) ?_
    refine aw_istore_n (i := 3) dX1_wouldStop_27 rfl (by decide) ?_
    refine aw_mem (drM_f (c := c) h7).symm ?_
    refine aw_loc (la := [some (.ref c), some (.int (nI p)), some (.ref L), some (.int (b01 (M.1 (c + 2) p = 5 ∧ ¬ M.1 L 3 ≤ drawV (M.1 c 13) 10))), none, none]) ⟨rfl, rfl, rfl, (show some (Value.int 0) = some (Value.int (b01 (M.1 (c + 2) p = 5 ∧ ¬ M.1 L 3 ≤ drawV (M.1 c 13) 10))) from by rw [b01_f (show ¬ (M.1 (c + 2) p = 5 ∧ ¬ M.1 L 3 ≤ drawV (M.1 c 13) 10) from fun q => h7 q.1)]), trivial⟩ J28
  ·
    refine aw_aload_n (i := 0) dX1_wouldStop_10 rfl rfl ?_
    refine aw_bipush (v := 10) dX1_wouldStop_11 (by decide) ?_
    refine aw_cVi ck_X1_149 (m_X1_draw hc) (shC hc) rfl (by decide) (by decide) rfl rfl (Nat.le_of_ble_eq_true rfl) dX1_wouldStop_13 ?_
    refine aw_aload_n (i := 2) dX1_wouldStop_16 rfl rfl ?_
    refine aw_iconst (v := 3) dX1_wouldStop_17 (by decide) ?_
    refine aw_top (show (3 : Int32) = nI 3 from rfl) ?_
    refine aw_ialdX hL (by omega) (by decide) (congrFun (mI_other hLc) _) dX1_wouldStop_18 ?_
    refine aw_icmp_ge (tgt := 26) dX1_wouldStop_19 (by decide) (fun h19 => ?_) (fun h19 => ?_)
    ·
      refine aw_iconst (v := 0) dX1_wouldStop_26 (by decide) ?_
      refine aw_istore_n (i := 3) dX1_wouldStop_27 rfl (by decide) ?_
      refine aw_mem (drM_t (c := c) h7).symm ?_
      refine aw_loc (la := [some (.ref c), some (.int (nI p)), some (.ref L), some (.int (b01 (M.1 (c + 2) p = 5 ∧ ¬ M.1 L 3 ≤ drawV (M.1 c 13) 10))), none, none]) ⟨rfl, rfl, rfl, (show some (Value.int 0) = some (Value.int (b01 (M.1 (c + 2) p = 5 ∧ ¬ M.1 L 3 ≤ drawV (M.1 c 13) 10))) from by rw [b01_f (show ¬ (M.1 (c + 2) p = 5 ∧ ¬ M.1 L 3 ≤ drawV (M.1 c 13) 10) from fun q => q.2 h19)]), trivial⟩ J28
    ·
      refine aw_iconst (v := 1) dX1_wouldStop_22 (by decide) ?_
      refine aw_goto (tgt := 27) dX1_wouldStop_23 (by decide) ?_
      refine aw_istore_n (i := 3) dX1_wouldStop_27 rfl (by decide) ?_
      refine aw_mem (drM_t (c := c) h7).symm ?_
      refine aw_loc (la := [some (.ref c), some (.int (nI p)), some (.ref L), some (.int (b01 (M.1 (c + 2) p = 5 ∧ ¬ M.1 L 3 ≤ drawV (M.1 c 13) 10))), none, none]) ⟨rfl, rfl, rfl, (show some (Value.int 1) = some (Value.int (b01 (M.1 (c + 2) p = 5 ∧ ¬ M.1 L 3 ≤ drawV (M.1 c 13) 10))) from by rw [b01_t (show (M.1 (c + 2) p = 5 ∧ ¬ M.1 L 3 ≤ drawV (M.1 c 13) 10) from ⟨h7, h19⟩)]), trivial⟩ J28
theorem tern12 {A : Prop} : (if b01 (¬ ¬ A) = 0 then (2 : Int32) else 1) = pIf A 1 2 := by
  by_cases h : A
  · rw [pIf_t h, if_neg (fun q => b01_0.mp q (fun z => z h))]
  · rw [pIf_f h, if_pos (b01_0.mpr (fun z => z h))]
theorem tern11 {A : Prop} : (if b01 (¬ ¬ A) = 0 then (-1 : Int32) else 1) = pIf A 1 (-1) := by
  by_cases h : A
  · rw [pIf_t h, if_neg (fun q => b01_0.mp q (fun z => z h))]
  · rw [pIf_f h, if_pos (b01_0.mpr (fun z => z h))]
theorem m_X1_turnOne {l : Launch} {M : Mm} {c p : Nat} (hc : isC c) (hp : p < 30) {n : Nat} (hn : M.1 c 11 = nI n) (hn30 : n ≤ 30) : AMet l 3 yX1_turnOne cX1_turnOne 3 none [.ref c, .int (nI p)] M (QN (sfQ c n p (pIf (M.1 (c + 8) p = 0) 1 (-1)) (mI (mI M (c + 8) p (pIf (M.1 (c + 8) p = 0) 1 2)) (c + 9) p 0))) := by
  refine AMet.of (by decide) (by simp [aargs, Value.category]) ?_
  show AW l 3 yX1_turnOne cX1_turnOne 3 none 0 [some (.ref c), some (.int (nI p)), none] [] M _
  refine aw_aload_n (i := 0) dX1_turnOne_0 rfl rfl ?_
  refine aw_getR gf_X1_35 (shC hc) rfl dX1_turnOne_1 ?_
  refine aw_iload_n (i := 1) dX1_turnOne_4 rfl rfl ?_
  refine aw_ialdN (shC_8 hc) (by omega) (by omega) dX1_turnOne_5 ?_
  refine aw_tern_ne (tgt := 13) (j := 14) (v := 1) (w := 0) dX1_turnOne_6 (by decide) dX1_turnOne_9 (by decide) dX1_turnOne_10 (by decide) dX1_turnOne_13 (by decide) rfl ?_
  refine aw_top t01a ?_
  refine aw_istore_n (i := 2) dX1_turnOne_14 rfl (by decide) ?_
  refine aw_aload_n (i := 0) dX1_turnOne_15 rfl rfl ?_
  refine aw_getR gf_X1_35 (shC hc) rfl dX1_turnOne_16 ?_
  refine aw_iload_n (i := 1) dX1_turnOne_19 rfl rfl ?_
  refine aw_iload_n (i := 2) dX1_turnOne_20 rfl rfl ?_
  refine aw_tern_eq (tgt := 28) (j := 29) (v := 1) (w := 2) dX1_turnOne_21 (by decide) dX1_turnOne_24 (by decide) dX1_turnOne_25 (by decide) dX1_turnOne_28 (by decide) rfl ?_
  refine aw_top (tern12) ?_
  refine aw_iastN (shC_8 hc) (by omega) (by omega) dX1_turnOne_29 ?_
  refine aw_aload_n (i := 0) dX1_turnOne_30 rfl rfl ?_
  refine aw_getR gf_X1_38 (shC hc) rfl dX1_turnOne_31 ?_
  refine aw_iload_n (i := 1) dX1_turnOne_34 rfl rfl ?_
  refine aw_iconst (v := 0) dX1_turnOne_35 (by decide) ?_
  refine aw_iastN (shC_9 hc) (by omega) (by omega) dX1_turnOne_36 ?_
  refine aw_aload_n (i := 0) dX1_turnOne_37 rfl rfl ?_
  refine aw_iload_n (i := 1) dX1_turnOne_38 rfl rfl ?_
  refine aw_iload_n (i := 2) dX1_turnOne_39 rfl rfl ?_
  refine aw_tern_eq (tgt := 47) (j := 48) (v := 1) (w := (-1)) dX1_turnOne_40 (by decide) dX1_turnOne_43 (by decide) dX1_turnOne_44 (by decide) dX1_turnOne_47 (by decide) rfl ?_
  refine aw_top (tern11) ?_
  refine aw_cVQ ck_X1_114 (m_X1_soundFrom hc hp (by rw [mI_other (by omega), mI_other (by omega)]; exact hn) hn30) (shC hc) rfl (by decide) (by decide) rfl rfl (Nat.le_of_ble_eq_true rfl) dX1_turnOne_48 (fun r M9 hq9 => ?_)
  obtain ⟨rfl, hs9⟩ := hq9
  exact aw_vret rfl dX1_turnOne_51 ⟨rfl, hs9⟩
noncomputable def sdF (kind mood : Nat → Int32) (s0 : Int32) : Nat → Int32
  | 0 => s0
  | i + 1 => pIf (mood i = 1 ∧ kind i = 5) (nxtS (sdF kind mood s0 i)) (sdF kind mood s0 i)
/-- one turns: begins or stops -/
def tnP (n : Nat) (kind seat likes at9 W : Nat → Int32) (now s0 : Int32) (mood ticks : Nat → Int32) (i : Nat) : Prop :=
  (mood i = 0 ∧ wbP (kind i) now (at9 i) (hearF n seat mood i) (nearF n seat mood i) (likes i) W) ∨ (mood i = 1 ∧ wsP (kind i) (ticks i) (likes i) (hearF n seat mood i) (nearF n seat mood i) (kind i = 5 ∧ ¬ W 3 ≤ drawV (sdF kind mood s0 i) 10) W)
noncomputable def nmF (T : Nat → Prop) (mood : Nat → Int32) (i : Nat) : Int32 := pIf (T i) (pIf (mood i = 0) 1 2) (mood i)
noncomputable def ntF (T : Nat → Prop) (mood ticks : Nat → Int32) (i : Nat) : Int32 := pIf (T i) 0 (pIf (mood i = 1) (ticks i + 1) (ticks i))
/-- who turns, in a crowd -/
def tnC (c n L : Nat) (M : Mm) (i : Nat) : Prop := tnP n (M.1 (c + 2)) (M.1 (c + 3)) (M.1 (c + 4)) (M.1 (c + 6)) (M.1 L) (M.1 c 12) (M.1 c 13) (M.1 (c + 8)) (M.1 (c + 9)) i
def tn1 (c n L i : Nat) (M M' : Mm) : Prop := Same (fun k => k = c ∨ k = c + 14) M M' ∧ (∀ j, j ≠ 13 → M'.1 c j = M.1 c j) ∧ M'.1 c 13 = sdF (M.1 (c + 2)) (M.1 (c + 8)) (M.1 c 13) i ∧ ∀ j, j < i → M'.1 (c + 14) j = b01 (tnC c n L M j)
theorem tn1_step {c n L i : Nat} {M M' : Mm} {v : Int32} (h : tn1 c n L i M M') (hv : v = b01 (tnC c n L M i)) : tn1 c n L (i + 1) M (mI (drM c M' (M.1 (c + 8) i = 1 ∧ M.1 (c + 2) i = 5)) (c + 14) i v) := by
  obtain ⟨hS, hj, hs, ht⟩ := h
  refine ⟨⟨by rw [mI_2, drM_2]; exact hS.1, fun k hk => ?_⟩, fun j hj9 => ?_, ?_, fun j hj9 => ?_⟩
  · rw [mI_other (fun e => hk (Or.inr e)), drM_o (fun e => hk (Or.inl e))]
    exact hS.2 k hk
  · rw [mI_other (by omega), drM_j hj9]
    exact hj j hj9
  · rw [mI_other (by omega), drM_13, hs]
    rfl
  · rw [mI_self]
    by_cases e : j = i
    · subst e; rw [upd_self, hv]
    · rw [upd_other e, drM_o (by omega)]
      exact ht j (by omega)
/-- half way through the second loop -/
def tn2 (c n L i : Nat) (M M' : Mm) : Prop := Same (fun k => k = c ∨ k = c + 8 ∨ k = c + 9 ∨ k = c + 12 ∨ k = c + 13 ∨ k = c + 14) M M' ∧ (∀ j, j ≠ 13 → M'.1 c j = M.1 c j) ∧ M'.1 c 13 = sdF (M.1 (c + 2)) (M.1 (c + 8)) (M.1 c 13) n ∧ (∀ j, j < n → M'.1 (c + 14) j = b01 (tnC c n L M j)) ∧
  (∀ j, j < n → M'.1 (c + 8) j = (if j < i then nmF (tnC c n L M) (M.1 (c + 8)) j else M.1 (c + 8) j) ∧ M'.1 (c + 9) j = (if j < i then ntF (tnC c n L M) (M.1 (c + 8)) (M.1 (c + 9)) j else M.1 (c + 9) j)) ∧ heardOK c n M'
theorem hearF_cong {n p : Nat} {seat m m' : Nat → Int32} (h : ∀ o, o < n → m o = m' o) : hearF n seat m p = hearF n seat m' p := sumI_cong (fun o ho => by rw [h o ho])
theorem nearF_cong {n p : Nat} {seat m m' : Nat → Int32} (h : ∀ o, o < n → m o = m' o) : nearF n seat m p = nearF n seat m' p := sumI_cong (fun o ho => by rw [h o ho])
/-- what one that begins, or stops, is for the others' ears -/
theorem hearF_turn {n p j : Nat} (hp : p < n) {seat m m' : Nat → Int32} (ho : ∀ o, o < n → o ≠ p → m' o = m o) (hm : m p = 0 ∧ m' p = 1 ∨ m p = 1 ∧ m' p = 2) : hearF n seat m' j = pIf (j ≠ p) (hearF n seat m j + pIf (m p = 0) 1 (-1) * wgt seat j p) (hearF n seat m j) := by
  by_cases e : j = p
  · subst e
    rw [pIf_f (by simp)]
    refine sumI_cong (fun o h9 => ?_)
    by_cases q : o = j
    · rw [pIf_f (fun z => z.1 q), pIf_f (fun z => z.1 q)]
    · rw [ho o h9 q]
  · rw [pIf_t e]
    refine sumI_chg hp (fun o h9 q => by rw [ho o h9 q]) ?_
    rcases hm with ⟨h1, h2⟩ | ⟨h1, h2⟩
    · rw [pIf_t ⟨fun q => e q.symm, h2⟩, pIf_f (fun z => by rw [h1] at z; exact absurd z.2 (by decide)), pIf_t h1]
      grind
    · rw [pIf_f (fun z => by rw [h2] at z; exact absurd z.2 (by decide)), pIf_t ⟨fun q => e q.symm, h1⟩, pIf_f (by rw [h1]; decide)]
      grind
theorem nearF_turn {n p j : Nat} (hp : p < n) {seat m m' : Nat → Int32} (ho : ∀ o, o < n → o ≠ p → m' o = m o) (hm : m p = 0 ∧ m' p = 1 ∨ m p = 1 ∧ m' p = 2) : nearF n seat m' j = pIf (j ≠ p ∧ farI (seat j) (seat p) = 1) (nearF n seat m j + pIf (m p = 0) 1 (-1)) (nearF n seat m j) := by
  by_cases e : j ≠ p ∧ farI (seat j) (seat p) = 1
  · rw [pIf_t e]
    refine sumI_chg hp (fun o h9 q => by rw [ho o h9 q]) ?_
    rcases hm with ⟨h1, h2⟩ | ⟨h1, h2⟩
    · rw [pIf_t ⟨fun q => e.1 q.symm, h2, e.2⟩, pIf_f (fun z => by rw [h1] at z; exact absurd z.2.1 (by decide)), pIf_t h1]
      grind
    · rw [pIf_f (fun z => by rw [h2] at z; exact absurd z.2.1 (by decide)), pIf_t ⟨fun q => e.1 q.symm, h1, e.2⟩, pIf_f (by rw [h1]; decide)]
      grind
  · rw [pIf_f e]
    refine sumI_cong (fun o h9 => ?_)
    by_cases q : o = p
    · subst q
      rw [pIf_f (fun z => e ⟨fun q => z.1 q.symm, z.2.2⟩), pIf_f (fun z => e ⟨fun q => z.1 q.symm, z.2.2⟩)]
    · rw [ho o h9 q]
theorem tn2_0 {c n L : Nat} {M M' : Mm} (hh : heardOK c n M) (h : tn1 c n L n M M') : tn2 c n L 0 M M' := by
  obtain ⟨hS, hj, hs, ht⟩ := h
  refine ⟨hS.mono (fun k q => by rcases q with q | q <;> simp [q]), hj, hs, ht, fun j _ => ⟨?_, ?_⟩, fun j hjn => ?_⟩
  · rw [if_neg (by omega), hS.2 _ (by omega)]
  · rw [if_neg (by omega), hS.2 _ (by omega)]
  · rw [hS.2 (c + 12) (by omega), hS.2 (c + 13) (by omega), hS.2 (c + 3) (by omega), hS.2 (c + 8) (by omega)]
    exact hh j hjn
theorem tnC_mood {c n L i : Nat} {M : Mm} (h : tnC c n L M i) : M.1 (c + 8) i = 0 ∨ M.1 (c + 8) i = 1 := by
  rcases h with h | h
  · exact Or.inl h.1
  · exact Or.inr h.1
theorem tn2_turn {c n L i : Nat} {M M' M'' : Mm} (h : tn2 c n L i M M') (hi : i < n) (ht : tnC c n L M i) (hs : sfQ c n i (pIf (M'.1 (c + 8) i = 0) 1 (-1)) (mI (mI M' (c + 8) i (pIf (M'.1 (c + 8) i = 0) 1 2)) (c + 9) i 0) M'') : tn2 c n L (i + 1) M M'' := by
  obtain ⟨hS, hj, h13, hfl, hmt, hh⟩ := h
  obtain ⟨hS2, hs2⟩ := hs
  have hS1 : Same (fun k => k = c ∨ k = c + 8 ∨ k = c + 9 ∨ k = c + 12 ∨ k = c + 13 ∨ k = c + 14) M (mI (mI M' (c + 8) i (pIf (M'.1 (c + 8) i = 0) 1 2)) (c + 9) i 0) := (hS.mI (by simp)).mI (by simp)
  have hS3 := hS1.tr (hS2.mono (T := fun k => k = c ∨ k = c + 8 ∨ k = c + 9 ∨ k = c + 12 ∨ k = c + 13 ∨ k = c + 14) (fun k q => by rcases q with q | q <;> simp [q]))
  have k8 : M''.1 (c + 8) = upd (M'.1 (c + 8)) i (pIf (M'.1 (c + 8) i = 0) 1 2) := by rw [hS2.2 _ (by omega), mI_other (by omega), mI_self]
  have k9 : M''.1 (c + 9) = upd (M'.1 (c + 9)) i 0 := by rw [hS2.2 _ (by omega), mI_self, mI_other (by omega)]
  have k3 : M''.1 (c + 3) = M'.1 (c + 3) := by rw [hS2.2 _ (by omega), mI_other (by omega), mI_other (by omega)]
  have kc : M''.1 c = M'.1 c := by rw [hS2.2 _ (by omega), mI_other (by omega), mI_other (by omega)]
  have k14 : M''.1 (c + 14) = M'.1 (c + 14) := by rw [hS2.2 _ (by omega), mI_other (by omega), mI_other (by omega)]
  have hmi : M'.1 (c + 8) i = M.1 (c + 8) i := by rw [(hmt i hi).1, if_neg (by omega)]
  refine ⟨hS3, by rw [kc]; exact hj, by rw [kc]; exact h13, by rw [k14]; exact hfl, fun j hjn => ⟨?_, ?_⟩, fun j hjn => ?_⟩
  · rw [k8]
    by_cases e : j = i
    · subst e; rw [upd_self, if_pos (by omega), nmF, pIf_t ht, hmi]
    · rw [upd_other e, (hmt j hjn).1]
      by_cases q : j < i
      · rw [if_pos q, if_pos (by omega)]
      · rw [if_neg q, if_neg (by omega)]
  · rw [k9]
    by_cases e : j = i
    · subst e; rw [upd_self, if_pos (by omega), ntF, pIf_t ht]
    · rw [upd_other e, (hmt j hjn).2]
      by_cases q : j < i
      · rw [if_pos q, if_pos (by omega)]
      · rw [if_neg q, if_neg (by omega)]
  · have ho : ∀ o, o < n → o ≠ i → M''.1 (c + 8) o = M'.1 (c + 8) o := fun o _ e => by rw [k8, upd_other e]
    have hm : M'.1 (c + 8) i = 0 ∧ M''.1 (c + 8) i = 1 ∨ M'.1 (c + 8) i = 1 ∧ M''.1 (c + 8) i = 2 := by
      rw [k8, upd_self, hmi]
      rcases tnC_mood ht with e | e
      · rw [e, pIf_t rfl]; exact Or.inl ⟨rfl, rfl⟩
      · rw [e, pIf_f (by decide)]; exact Or.inr ⟨rfl, rfl⟩
    have q12 : (mI (mI M' (c + 8) i (pIf (M'.1 (c + 8) i = 0) 1 2)) (c + 9) i 0).1 (c + 12) = M'.1 (c + 12) := by rw [mI_other (by omega), mI_other (by omega)]
    have q13 : (mI (mI M' (c + 8) i (pIf (M'.1 (c + 8) i = 0) 1 2)) (c + 9) i 0).1 (c + 13) = M'.1 (c + 13) := by rw [mI_other (by omega), mI_other (by omega)]
    have q3 : (mI (mI M' (c + 8) i (pIf (M'.1 (c + 8) i = 0) 1 2)) (c + 9) i 0).1 (c + 3) = M'.1 (c + 3) := by rw [mI_other (by omega), mI_other (by omega)]
    have s1 := (hs2 j).1
    have s2 := (hs2 j).2
    rw [q12, q3] at s1
    rw [q13, q3] at s2
    rw [s1, s2, k3, hearF_turn hi ho hm, nearF_turn hi ho hm, (hh j hjn).1, (hh j hjn).2]
    constructor
    · by_cases e : j = i
      · rw [pIf_f (fun z => z.2 e), pIf_f (fun z => z e)]
      · rw [pIf_t ⟨hjn, e⟩, pIf_t e]
    · by_cases e : j ≠ i ∧ farI (M'.1 (c + 3) j) (M'.1 (c + 3) i) = 1
      · rw [pIf_t ⟨hjn, e⟩, pIf_t e]
      · rw [pIf_f (fun z => e z.2), pIf_f e]
theorem tn2_stay {c n L i : Nat} {M M' : Mm} (h : tn2 c n L i M M') (hi : i < n) (ht : ¬ tnC c n L M i) : tn2 c n L (i + 1) M (pIf (M'.1 (c + 8) i = 1) (mI M' (c + 9) i (M'.1 (c + 9) i + 1)) M') := by
  obtain ⟨hS, hj, h13, hfl, hmt, hh⟩ := h
  have hmi : M'.1 (c + 8) i = M.1 (c + 8) i := by rw [(hmt i hi).1, if_neg (by omega)]
  have hti : M'.1 (c + 9) i = M.1 (c + 9) i := by rw [(hmt i hi).2, if_neg (by omega)]
  have key : ∀ j, j < n → M'.1 (c + 8) j = (if j < i + 1 then nmF (tnC c n L M) (M.1 (c + 8)) j else M.1 (c + 8) j) := fun j hjn => by
    by_cases e : j = i
    · subst e; rw [if_pos (by omega), nmF, pIf_f ht, hmi]
    · rw [(hmt j hjn).1]
      by_cases q : j < i
      · rw [if_pos q, if_pos (by omega)]
      · rw [if_neg q, if_neg (by omega)]
  by_cases hm : M'.1 (c + 8) i = 1
  · rw [pIf_t hm]
    have o8 : ∀ k, k ≠ c + 9 → (mI M' (c + 9) i (M'.1 (c + 9) i + 1)).1 k = M'.1 k := fun k hk => mI_other hk
    refine ⟨hS.mI (by simp), by rw [o8 c (by omega)]; exact hj, by rw [o8 c (by omega)]; exact h13, by rw [o8 _ (by omega)]; exact hfl, fun j hjn => ⟨?_, ?_⟩, fun j hjn => ?_⟩
    · rw [o8 _ (by omega)]; exact key j hjn
    · rw [mI_self]
      by_cases e : j = i
      · subst e; rw [upd_self, if_pos (by omega), ntF, pIf_f ht, hti, pIf_t (hmi ▸ hm)]
      · rw [upd_other e, (hmt j hjn).2]
        by_cases q : j < i
        · rw [if_pos q, if_pos (by omega)]
        · rw [if_neg q, if_neg (by omega)]
    · rw [o8 _ (by omega), o8 _ (by omega), o8 _ (by omega), o8 _ (by omega)]
      exact hh j hjn
  · rw [pIf_f hm]
    refine ⟨hS, hj, h13, hfl, fun j hjn => ⟨key j hjn, ?_⟩, hh⟩
    by_cases e : j = i
    · subst e; rw [if_pos (by omega), ntF, pIf_f ht, hti, pIf_f (fun z => hm (by rw [hmi]; exact z))]
    · rw [(hmt j hjn).2]
      by_cases q : j < i
      · rw [if_pos q, if_pos (by omega)]
      · rw [if_neg q, if_neg (by omega)]
/-- behind turn -/
def turnQ (c n L : Nat) (M M' : Mm) : Prop := tn2 c n L n M M'
theorem m_X1_turn {l : Launch} {M : Mm} {c L : Nat} (hc : isC c) (hL : shp[L]? = some (.inr (0, 7, 0))) (hLo : ¬ (L = c ∨ L = c + 14)) {n : Nat} (hn : M.1 c 11 = nI n) (hn30 : n ≤ 30) (hh : heardOK c n M) : AMet l 4 yX1_turn cX1_turn 4 (some FieldType.int) [.ref c, .ref L] M (fun r M9 => r = some (.int (bitsI n (fun j => nmF (tnC c n L M) (M.1 (c + 8)) j = 1))) ∧ turnQ c n L M M9) := by
  refine AMet.of (by decide) (by simp [aargs, Value.category]) ?_
  show AW l 4 yX1_turn cX1_turn 4 (some FieldType.int) 0 [some (.ref c), some (.ref L), none, none] [] M _
  refine aw_iconst (v := 0) dX1_turn_0 (by decide) ?_
  refine aw_istore_n (i := 2) dX1_turn_1 rfl (by decide) ?_
  have lp2 : ∀ k i, i + k = n → ∀ M' : Mm, tn1 c n L i M M' → AW l 4 yX1_turn cX1_turn 4 (some FieldType.int) 2 [some (.ref c), some (.ref L), some (.int (nI i)), none] [] M' (fun r M9 => r = some (.int (bitsI n (fun j => nmF (tnC c n L M) (M.1 (c + 8)) j = 1))) ∧ turnQ c n L M M9) := by
    intro k
    induction k using Nat.strongRecOn with
    | _ k ih =>
    intro i hk M' hQ
    have e2 : M'.1 (c + 2) = M.1 (c + 2) := hQ.1.2 _ (by omega)
    have e3 : M'.1 (c + 3) = M.1 (c + 3) := hQ.1.2 _ (by omega)
    have e4 : M'.1 (c + 4) = M.1 (c + 4) := hQ.1.2 _ (by omega)
    have e6 : M'.1 (c + 6) = M.1 (c + 6) := hQ.1.2 _ (by omega)
    have e8 : M'.1 (c + 8) = M.1 (c + 8) := hQ.1.2 _ (by omega)
    have e9 : M'.1 (c + 9) = M.1 (c + 9) := hQ.1.2 _ (by omega)
    have e12 : i < n → M'.1 (c + 12) i = hearF n (M.1 (c + 3)) (M.1 (c + 8)) i := fun h9 => by rw [hQ.1.2 (c + 12) (by omega)]; exact (hh i h9).1
    have e13 : i < n → M'.1 (c + 13) i = nearF n (M.1 (c + 3)) (M.1 (c + 8)) i := fun h9 => by rw [hQ.1.2 (c + 13) (by omega)]; exact (hh i h9).2
    have eL : M'.1 L = M.1 L := hQ.1.2 _ hLo
    have eN : M'.1 c 12 = M.1 c 12 := hQ.2.1 12 (by omega)
    have eC : M'.1 c 11 = nI n := by rw [hQ.2.1 11 (by omega)]; exact hn
    refine aw_iload_n (i := 2) dX1_turn_2 rfl rfl ?_
    refine aw_aload_n (i := 0) dX1_turn_3 rfl rfl ?_
    refine aw_getN (n := n) gf_X1_47 (shC hc) rfl eC dX1_turn_4 ?_
    refine aw_icmp_geN (tgt := 70) (by omega) (by omega) dX1_turn_7 (by decide) (fun h7 => ?_) (fun h7 => ?_)
    ·
      refine aw_iconst (v := 0) dX1_turn_70 (by decide) ?_
      refine aw_istore_n (i := 2) dX1_turn_71 rfl (by decide) ?_
      refine aw_iconst (v := 0) dX1_turn_72 (by decide) ?_
      refine aw_istore_n (i := 3) dX1_turn_73 rfl (by decide) ?_
      have lp74 : ∀ k i, i + k = n → ∀ M' : Mm, tn2 c n L i M M' → AW l 4 yX1_turn cX1_turn 4 (some FieldType.int) 74 [some (.ref c), some (.ref L), some (.int (bitsI i (fun j => nmF (tnC c n L M) (M.1 (c + 8)) j = 1))), some (.int (nI i))] [] M' (fun r M9 => r = some (.int (bitsI n (fun j => nmF (tnC c n L M) (M.1 (c + 8)) j = 1))) ∧ turnQ c n L M M9) := by
        intro k
        induction k using Nat.strongRecOn with
        | _ k ih =>
        intro i hk M' hQ
        have eC : M'.1 c 11 = nI n := by rw [hQ.2.1 11 (by omega)]; exact hn
        refine aw_iload_n (i := 3) dX1_turn_74 rfl rfl ?_
        refine aw_aload_n (i := 0) dX1_turn_75 rfl rfl ?_
        refine aw_getN (n := n) gf_X1_47 (shC hc) rfl eC dX1_turn_76 ?_
        refine aw_icmp_geN (tgt := 141) (by omega) (by omega) dX1_turn_79 (by decide) (fun h79 => ?_) (fun h79 => ?_)
        ·
          refine aw_iload_n (i := 2) dX1_turn_141 rfl rfl ?_
          exact aw_iret rfl dX1_turn_142 ⟨by rw [show i = n by omega], by rw [show i = n by omega] at hQ; exact hQ⟩
        ·
          have J119 : ∀ M9 : Mm, tn2 c n L (i + 1) M M9 → AW l 4 yX1_turn cX1_turn 4 (some FieldType.int) 119 [some (.ref c), some (.ref L), some (.int (bitsI i (fun j => nmF (tnC c n L M) (M.1 (c + 8)) j = 1))), some (.int (nI i))] [] M9 (fun r M9 => r = some (.int (bitsI n (fun j => nmF (tnC c n L M) (M.1 (c + 8)) j = 1))) ∧ turnQ c n L M M9) := by
            intro M9 hQ9
            have hmi : M9.1 (c + 8) i = nmF (tnC c n L M) (M.1 (c + 8)) i := by rw [(hQ9.2.2.2.2.1 i (by omega)).1, if_pos (by omega)]
            refine aw_aload_n (i := 0) dX1_turn_119 rfl rfl ?_
            refine aw_getR gf_X1_35 (shC hc) rfl dX1_turn_120 ?_
            refine aw_iload_n (i := 3) dX1_turn_123 rfl rfl ?_
            refine aw_ialdN (shC_8 hc) (by omega) (by omega) dX1_turn_124 ?_
            try rw [hmi]
            refine aw_iconst (v := 1) dX1_turn_125 (by decide) ?_
            refine aw_icmp_ne (tgt := 135) dX1_turn_126 (by decide) (fun h126 => ?_) (fun h126 => ?_)
            ·
              refine aw_iincN (i := 3) dX1_turn_135 rfl (by decide) ?_
              refine aw_goto (tgt := 74) dX1_turn_138 (by decide) ?_
              first
                | (refine aw_loc (la := [some (.ref c), some (.ref L), some (.int (bitsI (i + 1) (fun j => nmF (tnC c n L M) (M.1 (c + 8)) j = 1))), some (.int (nI (i + 1)))]) ?_ (ih (k - 1) (by omega) (i + 1) (by omega) M9 hQ9)
                   rw [bitsI_t (P := fun j => nmF (tnC c n L M) (M.1 (c + 8)) j = 1) (by assumption)]
                   exact ⟨rfl, rfl, rfl, rfl, trivial⟩)
                | (refine aw_loc (la := [some (.ref c), some (.ref L), some (.int (bitsI (i + 1) (fun j => nmF (tnC c n L M) (M.1 (c + 8)) j = 1))), some (.int (nI (i + 1)))]) ?_ (ih (k - 1) (by omega) (i + 1) (by omega) M9 hQ9)
                   rw [bitsI_f (P := fun j => nmF (tnC c n L M) (M.1 (c + 8)) j = 1) (by assumption)]
                   exact ⟨rfl, rfl, rfl, rfl, trivial⟩)
            ·
              refine aw_iload_n (i := 2) dX1_turn_129 rfl rfl ?_
              refine aw_iconst (v := 1) dX1_turn_130 (by decide) ?_
              refine aw_iload_n (i := 3) dX1_turn_131 rfl rfl ?_
              refine aw_ishl dX1_turn_132 ?_
              refine aw_ior dX1_turn_133 ?_
              refine aw_istore_n (i := 2) dX1_turn_134 rfl (by decide) ?_
              refine aw_iincN (i := 3) dX1_turn_135 rfl (by decide) ?_
              refine aw_goto (tgt := 74) dX1_turn_138 (by decide) ?_
              first
                | (refine aw_loc (la := [some (.ref c), some (.ref L), some (.int (bitsI (i + 1) (fun j => nmF (tnC c n L M) (M.1 (c + 8)) j = 1))), some (.int (nI (i + 1)))]) ?_ (ih (k - 1) (by omega) (i + 1) (by omega) M9 hQ9)
                   rw [bitsI_t (P := fun j => nmF (tnC c n L M) (M.1 (c + 8)) j = 1) (by assumption)]
                   exact ⟨rfl, rfl, rfl, rfl, trivial⟩)
                | (refine aw_loc (la := [some (.ref c), some (.ref L), some (.int (bitsI (i + 1) (fun j => nmF (tnC c n L M) (M.1 (c + 8)) j = 1))), some (.int (nI (i + 1)))]) ?_ (ih (k - 1) (by omega) (i + 1) (by omega) M9 hQ9)
                   rw [bitsI_f (P := fun j => nmF (tnC c n L M) (M.1 (c + 8)) j = 1) (by assumption)]
                   exact ⟨rfl, rfl, rfl, rfl, trivial⟩)
          refine aw_aload_n (i := 0) dX1_turn_82 rfl rfl ?_
          refine aw_getR gf_X1_69 (shC hc) rfl dX1_turn_83 ?_
          refine aw_iload_n (i := 3) dX1_turn_86 rfl rfl ?_
          refine aw_zaldN (shC_14 hc) (by omega) (by omega) dX1_turn_87 ?_
          rw [hQ.2.2.2.1 i (by omega)]
          refine aw_ifeq_b (tgt := 99) dX1_turn_88 (by decide) (fun h88 => ?_) (fun h88 => ?_)
          ·
            refine aw_aload_n (i := 0) dX1_turn_99 rfl rfl ?_
            refine aw_getR gf_X1_35 (shC hc) rfl dX1_turn_100 ?_
            refine aw_iload_n (i := 3) dX1_turn_103 rfl rfl ?_
            refine aw_ialdN (shC_8 hc) (by omega) (by omega) dX1_turn_104 ?_
            refine aw_iconst (v := 1) dX1_turn_105 (by decide) ?_
            refine aw_icmp_ne (tgt := 119) dX1_turn_106 (by decide) (fun h106 => ?_) (fun h106 => ?_)
            ·
              have hst := tn2_stay hQ (by omega) h88
              first | rw [pIf_t h106] at hst | rw [pIf_f h106] at hst
              exact J119 _ hst
            ·
              refine aw_aload_n (i := 0) dX1_turn_109 rfl rfl ?_
              refine aw_getR gf_X1_38 (shC hc) rfl dX1_turn_110 ?_
              refine aw_iload_n (i := 3) dX1_turn_113 rfl rfl ?_
              refine aw_dup2 dX1_turn_114 rfl rfl ?_
              refine aw_ialdN (shC_9 hc) (by omega) (by omega) dX1_turn_115 ?_
              refine aw_iconst (v := 1) dX1_turn_116 (by decide) ?_
              refine aw_iadd dX1_turn_117 ?_
              refine aw_iastN (shC_9 hc) (by omega) (by omega) dX1_turn_118 ?_
              have hst := tn2_stay hQ (by omega) h88
              first | rw [pIf_t h106] at hst | rw [pIf_f h106] at hst
              exact J119 _ hst
          ·
            refine aw_aload_n (i := 0) dX1_turn_91 rfl rfl ?_
            refine aw_iload_n (i := 3) dX1_turn_92 rfl rfl ?_
            refine aw_cVQ ck_X1_143 (m_X1_turnOne hc (by omega) eC hn30) (shC hc) rfl (by decide) (by decide) rfl rfl (Nat.le_of_ble_eq_true rfl) dX1_turn_93 (fun r M9 hq9 => ?_)
            obtain ⟨rfl, hs9⟩ := hq9
            refine aw_goto (tgt := 119) dX1_turn_96 (by decide) ?_
            exact J119 _ (tn2_turn hQ (by omega) h88 hs9)
      refine aw_loc (la := [some (.ref c), some (.ref L), some (.int 0), some (.int (nI 0))]) ⟨rfl, rfl, rfl, rfl, trivial⟩ ?_
      rw [show i = n by omega] at hQ
      exact lp74 n 0 (by omega) M' (tn2_0 hh hQ)
    ·
      refine aw_aload_n (i := 0) dX1_turn_10 rfl rfl ?_
      refine aw_getR gf_X1_35 (shC hc) rfl dX1_turn_11 ?_
      refine aw_iload_n (i := 2) dX1_turn_14 rfl rfl ?_
      refine aw_ialdN (shC_8 hc) (by omega) (by omega) dX1_turn_15 ?_
      rw [e8]
      refine aw_if_ne (tgt := 34) dX1_turn_16 (by decide) (fun h16 => ?_) (fun h16 => ?_)
      ·
        refine aw_aload_n (i := 0) dX1_turn_34 rfl rfl ?_
        refine aw_getR gf_X1_69 (shC hc) rfl dX1_turn_35 ?_
        refine aw_iload_n (i := 2) dX1_turn_38 rfl rfl ?_
        refine aw_aload_n (i := 0) dX1_turn_39 rfl rfl ?_
        refine aw_getR gf_X1_35 (shC hc) rfl dX1_turn_40 ?_
        refine aw_iload_n (i := 2) dX1_turn_43 rfl rfl ?_
        refine aw_ialdN (shC_8 hc) (by omega) (by omega) dX1_turn_44 ?_
        rw [e8]
        refine aw_iconst (v := 1) dX1_turn_45 (by decide) ?_
        refine aw_icmp_ne (tgt := 62) dX1_turn_46 (by decide) (fun h46 => ?_) (fun h46 => ?_)
        ·
          refine aw_iconst (v := 0) dX1_turn_62 (by decide) ?_
          refine aw_zastN (shC_14 hc) (by omega) (by omega) (by simp) dX1_turn_63 ?_
          refine aw_iincN (i := 2) dX1_turn_64 rfl (by decide) ?_
          refine aw_goto (tgt := 2) dX1_turn_67 (by decide) ?_
          refine aw_loc (la := [some (.ref c), some (.ref L), some (.int (nI (i + 1))), none]) ⟨rfl, rfl, rfl, trivial⟩ ?_
          have hst := tn1_step hQ (v := 0) (b01_f (by simp [tnC, tnP, h16, h46])).symm
          rw [drM_f (by simp [h46])] at hst
          exact ih (k - 1) (by omega) (i + 1) (by omega) _ hst
        ·
          refine aw_aload_n (i := 0) dX1_turn_49 rfl rfl ?_
          refine aw_iload_n (i := 2) dX1_turn_50 rfl rfl ?_
          refine aw_aload_n (i := 1) dX1_turn_51 rfl rfl ?_
          refine aw_cVi ck_X1_140 (m_X1_wouldStop hc (by omega) hL) (shC hc) rfl (by decide) (by decide) rfl rfl (Nat.le_of_ble_eq_true rfl) dX1_turn_52 ?_
          
          refine aw_ifeq_b (tgt := 62) dX1_turn_55 (by decide) (fun h55 => ?_) (fun h55 => ?_)
          ·
            refine aw_iconst (v := 0) dX1_turn_62 (by decide) ?_
            refine aw_zastN (shC_14 hc) (by omega) (by omega) (by simp) dX1_turn_63 ?_
            refine aw_iincN (i := 2) dX1_turn_64 rfl (by decide) ?_
            refine aw_goto (tgt := 2) dX1_turn_67 (by decide) ?_
            refine aw_loc (la := [some (.ref c), some (.ref L), some (.int (nI (i + 1))), none]) ⟨rfl, rfl, rfl, trivial⟩ ?_
            have ew : wsP (M'.1 (c + 2) i) (M'.1 (c + 9) i) (M'.1 (c + 4) i) (M'.1 (c + 12) i) (M'.1 (c + 13) i) (M'.1 (c + 2) i = 5 ∧ ¬ M'.1 L 3 ≤ drawV (M'.1 c 13) 10) (M'.1 L) ↔ tnC c n L M i := by
              rw [e2, e4, e9, e12 (by omega), e13 (by omega), eL, hQ.2.2.1]
              simp [tnC, tnP, h46]
            have ed : (M'.1 (c + 2) i = 5) = (M.1 (c + 8) i = 1 ∧ M.1 (c + 2) i = 5) := by rw [e2]; simp [h46]
            rw [ed]
            first
              | exact ih (k - 1) (by omega) (i + 1) (by omega) _ (tn1_step hQ (v := 1) (b01_t (ew.mp h55)).symm)
              | exact ih (k - 1) (by omega) (i + 1) (by omega) _ (tn1_step hQ (v := 0) (b01_f (fun q => h55 (ew.mpr q))).symm)
          ·
            refine aw_iconst (v := 1) dX1_turn_58 (by decide) ?_
            refine aw_goto (tgt := 63) dX1_turn_59 (by decide) ?_
            refine aw_zastN (shC_14 hc) (by omega) (by omega) (by simp) dX1_turn_63 ?_
            refine aw_iincN (i := 2) dX1_turn_64 rfl (by decide) ?_
            refine aw_goto (tgt := 2) dX1_turn_67 (by decide) ?_
            refine aw_loc (la := [some (.ref c), some (.ref L), some (.int (nI (i + 1))), none]) ⟨rfl, rfl, rfl, trivial⟩ ?_
            have ew : wsP (M'.1 (c + 2) i) (M'.1 (c + 9) i) (M'.1 (c + 4) i) (M'.1 (c + 12) i) (M'.1 (c + 13) i) (M'.1 (c + 2) i = 5 ∧ ¬ M'.1 L 3 ≤ drawV (M'.1 c 13) 10) (M'.1 L) ↔ tnC c n L M i := by
              rw [e2, e4, e9, e12 (by omega), e13 (by omega), eL, hQ.2.2.1]
              simp [tnC, tnP, h46]
            have ed : (M'.1 (c + 2) i = 5) = (M.1 (c + 8) i = 1 ∧ M.1 (c + 2) i = 5) := by rw [e2]; simp [h46]
            rw [ed]
            first
              | exact ih (k - 1) (by omega) (i + 1) (by omega) _ (tn1_step hQ (v := 1) (b01_t (ew.mp h55)).symm)
              | exact ih (k - 1) (by omega) (i + 1) (by omega) _ (tn1_step hQ (v := 0) (b01_f (fun q => h55 (ew.mpr q))).symm)
      ·
        refine aw_aload_n (i := 0) dX1_turn_19 rfl rfl ?_
        refine aw_getR gf_X1_69 (shC hc) rfl dX1_turn_20 ?_
        refine aw_iload_n (i := 2) dX1_turn_23 rfl rfl ?_
        refine aw_aload_n (i := 0) dX1_turn_24 rfl rfl ?_
        refine aw_iload_n (i := 2) dX1_turn_25 rfl rfl ?_
        refine aw_aload_n (i := 1) dX1_turn_26 rfl rfl ?_
        refine aw_cVi ck_X1_136 (m_X1_wouldBegin hc (by omega) hL) (shC hc) rfl (by decide) (by decide) rfl rfl (Nat.le_of_ble_eq_true rfl) dX1_turn_27 ?_
        refine aw_zastN (shC_14 hc) (by omega) (by omega) b01_ok dX1_turn_30 ?_
        refine aw_goto (tgt := 64) dX1_turn_31 (by decide) ?_
        refine aw_iincN (i := 2) dX1_turn_64 rfl (by decide) ?_
        refine aw_goto (tgt := 2) dX1_turn_67 (by decide) ?_
        refine aw_loc (la := [some (.ref c), some (.ref L), some (.int (nI (i + 1))), none]) ⟨rfl, rfl, rfl, trivial⟩ ?_
        have hst := tn1_step hQ (v := b01 (wbP (M'.1 (c + 2) i) (M'.1 c 12) (M'.1 (c + 6) i) (M'.1 (c + 12) i) (M'.1 (c + 13) i) (M'.1 (c + 4) i) (M'.1 L))) (b01_c (by rw [e2, e4, e6, e12 (by omega), e13 (by omega), eL, eN]; simp [tnC, tnP, h16]))
        rw [drM_f (by simp [h16])] at hst
        exact ih (k - 1) (by omega) (i + 1) (by omega) _ hst
  refine aw_loc (la := [some (.ref c), some (.ref L), some (.int (nI 0)), none]) ⟨rfl, rfl, rfl, trivial⟩ ?_
  exact lp2 n 0 (by omega) M ⟨Same.rf, fun _ _ => rfl, rfl, fun j h => absurd h (by omega)⟩
