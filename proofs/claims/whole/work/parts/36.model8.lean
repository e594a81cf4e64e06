noncomputable def kep (i : Nat) (M : Mm) : Mm := rI (rI (rI (rI M 133 (upto (M.1 133) (M.1 113) i)) 134 (upto (M.1 134) (M.1 114) i)) 135 (upto (M.1 135) (M.1 115) i)) 136 (upto (M.1 136) (M.1 112) i)
theorem kep_o {i k : Nat} {M : Mm} (h : k ≠ 133 ∧ k ≠ 134 ∧ k ≠ 135 ∧ k ≠ 136) : (kep i M).1 k = M.1 k := by
  unfold kep
  rw [rI_other h.2.2.2, rI_other h.2.2.1, rI_other h.2.1, rI_other h.1]
theorem kep_0 (M : Mm) : kep 0 M = M := by
  unfold kep
  rw [upto_0, upto_0, upto_0, upto_0, rI_id, rI_id, rI_id, rI_id]
theorem kep_1 (i : Nat) (M : Mm) : (kep i M).1 133 = (upto (M.1 133) (M.1 113) i) := (rI_other (by decide)).trans ((rI_other (by decide)).trans ((rI_other (by decide)).trans (rI_self _ _ _)))
theorem kep_2 (i : Nat) (M : Mm) : (kep i M).1 134 = (upto (M.1 134) (M.1 114) i) := (rI_other (by decide)).trans ((rI_other (by decide)).trans (rI_self _ _ _))
theorem kep_3 (i : Nat) (M : Mm) : (kep i M).1 135 = (upto (M.1 135) (M.1 115) i) := (rI_other (by decide)).trans (rI_self _ _ _)
theorem kep_4 (i : Nat) (M : Mm) : (kep i M).1 136 = (upto (M.1 136) (M.1 112) i) := rI_self _ _ _
theorem kep_s (i : Nat) (M : Mm) : mI (mI (mI (mI (kep i M) 133 i (M.1 113 i)) 134 i (M.1 114 i)) 135 i (M.1 115 i)) 136 i (M.1 112 i) = kep (i + 1) M := by
  refine Prod.ext ?_ rfl
  funext k j
  by_cases a : k = 136
  · subst a
    rw [mI_self, mI_other (by decide), mI_other (by decide), mI_other (by decide), kep_4, kep_4]
    exact congrFun (upto_s rfl) j
  by_cases b : k = 135
  · subst b
    rw [mI_other (by decide), mI_self, mI_other (by decide), mI_other (by decide), kep_3, kep_3]
    exact congrFun (upto_s rfl) j
  by_cases c : k = 134
  · subst c
    rw [mI_other (by decide), mI_other (by decide), mI_self, mI_other (by decide), kep_2, kep_2]
    exact congrFun (upto_s rfl) j
  by_cases d : k = 133
  · subst d
    rw [mI_other (by decide), mI_other (by decide), mI_other (by decide), mI_self, kep_1, kep_1]
    exact congrFun (upto_s rfl) j
  · rw [mI_other a, mI_other b, mI_other c, mI_other d, kep_o ⟨d, c, b, a⟩, kep_o ⟨d, c, b, a⟩]
noncomputable def kepM (n : Nat) (M : Mm) : Mm := mI (mI (mI (mI (kep n M) 105 47 (M.1 105 4)) 105 48 (M.1 105 3)) 105 49 (M.1 105 7)) 105 50 (M.1 105 8)
theorem m_X8_keepsAll {l : Launch} {M : Mm} {n : Nat} (hn : M.1 105 0 = nI n) (hn30 : n ≤ 30) : AMet l 1 yX8_keepsAll cX8_keepsAll 2 none [.ref 105] M (QE none (kepM n M)) := by
  refine AMet.of (by decide) (by simp [aargs, Value.category]) ?_
  show AW l 1 yX8_keepsAll cX8_keepsAll 2 none 0 [some (.ref 105), none] [] M _
  refine aw_iconst (v := 0) dX8_keepsAll_0 (by decide) ?_
  refine aw_istore_n (i := 1) dX8_keepsAll_1 rfl (by decide) ?_
  have lp2 : ∀ k9 i, i + k9 = n → AW l 1 yX8_keepsAll cX8_keepsAll 2 none 2 [some (.ref 105), some (.int (nI i))] [] (kep i M) (QE none (kepM n M)) := by
    intro k9
    induction k9 using Nat.strongRecOn with
    | _ k9 ih =>
    intro i hk9
    refine aw_iload_n (i := 1) dX8_keepsAll_2 rfl rfl ?_
    refine aw_aload_n (i := 0) dX8_keepsAll_3 rfl rfl ?_
    refine aw_getN (n := n) gf_X8_132 sh_105 rfl ((congrFun (kep_o (by decide)) _).trans hn) dX8_keepsAll_4 ?_
    refine aw_icmp_geN (tgt := 64) (by omega) (by omega) dX8_keepsAll_7 (by decide) (fun h7 => ?_) (fun h7 => ?_)
    ·
      refine aw_aload_n (i := 0) dX8_keepsAll_64 rfl rfl ?_
      refine aw_aload_n (i := 0) dX8_keepsAll_65 rfl rfl ?_
      refine aw_getX (x := (M.1 105 4)) gf_X8_7 sh_105 rfl (congrFun (kep_o (by decide)) _) dX8_keepsAll_66 ?_
      refine aw_putI pf_X8_256 sh_105 rfl dX8_keepsAll_69 ?_
      refine aw_aload_n (i := 0) dX8_keepsAll_72 rfl rfl ?_
      refine aw_aload_n (i := 0) dX8_keepsAll_73 rfl rfl ?_
      refine aw_getX (x := (M.1 105 3)) gf_X8_223 sh_105 rfl ((congrFun (mI_self _ _ _ _) _).trans ((upd_other (by decide)).trans (congrFun (kep_o (by decide)) _))) dX8_keepsAll_74 ?_
      refine aw_putI pf_X8_259 sh_105 rfl dX8_keepsAll_77 ?_
      refine aw_aload_n (i := 0) dX8_keepsAll_80 rfl rfl ?_
      refine aw_aload_n (i := 0) dX8_keepsAll_81 rfl rfl ?_
      refine aw_getX (x := (M.1 105 7)) gf_X8_235 sh_105 rfl ((congrFun (mI_self _ _ _ _) _).trans ((upd_other (by decide)).trans ((congrFun (mI_self _ _ _ _) _).trans ((upd_other (by decide)).trans (congrFun (kep_o (by decide)) _))))) dX8_keepsAll_82 ?_
      refine aw_putI pf_X8_262 sh_105 rfl dX8_keepsAll_85 ?_
      refine aw_aload_n (i := 0) dX8_keepsAll_88 rfl rfl ?_
      refine aw_aload_n (i := 0) dX8_keepsAll_89 rfl rfl ?_
      refine aw_getX (x := (M.1 105 8)) gf_X8_241 sh_105 rfl ((congrFun (mI_self _ _ _ _) _).trans ((upd_other (by decide)).trans ((congrFun (mI_self _ _ _ _) _).trans ((upd_other (by decide)).trans ((congrFun (mI_self _ _ _ _) _).trans ((upd_other (by decide)).trans (congrFun (kep_o (by decide)) _))))))) dX8_keepsAll_90 ?_
      refine aw_putI pf_X8_265 sh_105 rfl dX8_keepsAll_93 ?_
      exact aw_vret rfl dX8_keepsAll_96 ⟨rfl, by rw [show i = n by omega]; rfl⟩
    ·
      refine aw_aload_n (i := 0) dX8_keepsAll_10 rfl rfl ?_
      refine aw_getR gf_X8_105 sh_105 rfl dX8_keepsAll_11 ?_
      refine aw_iload_n (i := 1) dX8_keepsAll_14 rfl rfl ?_
      refine aw_aload_n (i := 0) dX8_keepsAll_15 rfl rfl ?_
      refine aw_getR gf_X8_41 sh_105 rfl dX8_keepsAll_16 ?_
      refine aw_iload_n (i := 1) dX8_keepsAll_19 rfl rfl ?_
      refine aw_ialdX sh_113 (by omega) (by decide) (congrFun (kep_o (by decide)) _) dX8_keepsAll_20 ?_
      refine aw_iastN sh_133 (by omega) (by omega) dX8_keepsAll_21 ?_
      refine aw_aload_n (i := 0) dX8_keepsAll_22 rfl rfl ?_
      refine aw_getR gf_X8_108 sh_105 rfl dX8_keepsAll_23 ?_
      refine aw_iload_n (i := 1) dX8_keepsAll_26 rfl rfl ?_
      refine aw_aload_n (i := 0) dX8_keepsAll_27 rfl rfl ?_
      refine aw_getR gf_X8_44 sh_105 rfl dX8_keepsAll_28 ?_
      refine aw_iload_n (i := 1) dX8_keepsAll_31 rfl rfl ?_
      refine aw_ialdX sh_114 (by omega) (by decide) (congrFun ((mI_other (by decide)).trans (kep_o (by decide))) _) dX8_keepsAll_32 ?_
      refine aw_iastN sh_134 (by omega) (by omega) dX8_keepsAll_33 ?_
      refine aw_aload_n (i := 0) dX8_keepsAll_34 rfl rfl ?_
      refine aw_getR gf_X8_111 sh_105 rfl dX8_keepsAll_35 ?_
      refine aw_iload_n (i := 1) dX8_keepsAll_38 rfl rfl ?_
      refine aw_aload_n (i := 0) dX8_keepsAll_39 rfl rfl ?_
      refine aw_getR gf_X8_47 sh_105 rfl dX8_keepsAll_40 ?_
      refine aw_iload_n (i := 1) dX8_keepsAll_43 rfl rfl ?_
      refine aw_ialdX sh_115 (by omega) (by decide) (congrFun ((mI_other (by decide)).trans ((mI_other (by decide)).trans (kep_o (by decide)))) _) dX8_keepsAll_44 ?_
      refine aw_iastN sh_135 (by omega) (by omega) dX8_keepsAll_45 ?_
      refine aw_aload_n (i := 0) dX8_keepsAll_46 rfl rfl ?_
      refine aw_getR gf_X8_114 sh_105 rfl dX8_keepsAll_47 ?_
      refine aw_iload_n (i := 1) dX8_keepsAll_50 rfl rfl ?_
      refine aw_aload_n (i := 0) dX8_keepsAll_51 rfl rfl ?_
      refine aw_getR gf_X8_38 sh_105 rfl dX8_keepsAll_52 ?_
      refine aw_iload_n (i := 1) dX8_keepsAll_55 rfl rfl ?_
      refine aw_ialdX sh_112 (by omega) (by decide) (congrFun ((mI_other (by decide)).trans ((mI_other (by decide)).trans ((mI_other (by decide)).trans (kep_o (by decide))))) _) dX8_keepsAll_56 ?_
      refine aw_iastN sh_136 (by omega) (by omega) dX8_keepsAll_57 ?_
      refine aw_iincN (i := 1) dX8_keepsAll_58 rfl (by decide) ?_
      refine aw_goto (tgt := 2) dX8_keepsAll_61 (by decide) ?_
      refine aw_mem (kep_s i M) ?_
      refine aw_loc (la := [some (.ref 105), some (.int (nI (i + 1)))]) ⟨rfl, rfl, trivial⟩ ?_
      exact ih (k9 - 1) (by omega) (i + 1) (by omega)
  refine aw_mem (kep_0 M).symm ?_
  refine aw_loc (la := [some (.ref 105), some (.int (nI 0))]) ⟨rfl, rfl, trivial⟩ ?_
  exact lp2 n 0 (by omega)
noncomputable def bak (i : Nat) (M : Mm) : Mm := rI (rI (rI (rI M 113 (upto (M.1 113) (M.1 133) i)) 114 (upto (M.1 114) (M.1 134) i)) 115 (upto (M.1 115) (M.1 135) i)) 112 (upto (M.1 112) (M.1 136) i)
theorem bak_o {i k : Nat} {M : Mm} (h : k ≠ 113 ∧ k ≠ 114 ∧ k ≠ 115 ∧ k ≠ 112) : (bak i M).1 k = M.1 k := by
  unfold bak
  rw [rI_other h.2.2.2, rI_other h.2.2.1, rI_other h.2.1, rI_other h.1]
theorem bak_0 (M : Mm) : bak 0 M = M := by
  unfold bak
  rw [upto_0, upto_0, upto_0, upto_0, rI_id, rI_id, rI_id, rI_id]
theorem bak_1 (i : Nat) (M : Mm) : (bak i M).1 113 = (upto (M.1 113) (M.1 133) i) := (rI_other (by decide)).trans ((rI_other (by decide)).trans ((rI_other (by decide)).trans (rI_self _ _ _)))
theorem bak_2 (i : Nat) (M : Mm) : (bak i M).1 114 = (upto (M.1 114) (M.1 134) i) := (rI_other (by decide)).trans ((rI_other (by decide)).trans (rI_self _ _ _))
theorem bak_3 (i : Nat) (M : Mm) : (bak i M).1 115 = (upto (M.1 115) (M.1 135) i) := (rI_other (by decide)).trans (rI_self _ _ _)
theorem bak_4 (i : Nat) (M : Mm) : (bak i M).1 112 = (upto (M.1 112) (M.1 136) i) := rI_self _ _ _
theorem bak_s (i : Nat) (M : Mm) : mI (mI (mI (mI (bak i M) 113 i (M.1 133 i)) 114 i (M.1 134 i)) 115 i (M.1 135 i)) 112 i (M.1 136 i) = bak (i + 1) M := by
  refine Prod.ext ?_ rfl
  funext k j
  by_cases a : k = 112
  · subst a
    rw [mI_self, mI_other (by decide), mI_other (by decide), mI_other (by decide), bak_4, bak_4]
    exact congrFun (upto_s rfl) j
  by_cases b : k = 115
  · subst b
    rw [mI_other (by decide), mI_self, mI_other (by decide), mI_other (by decide), bak_3, bak_3]
    exact congrFun (upto_s rfl) j
  by_cases c : k = 114
  · subst c
    rw [mI_other (by decide), mI_other (by decide), mI_self, mI_other (by decide), bak_2, bak_2]
    exact congrFun (upto_s rfl) j
  by_cases d : k = 113
  · subst d
    rw [mI_other (by decide), mI_other (by decide), mI_other (by decide), mI_self, bak_1, bak_1]
    exact congrFun (upto_s rfl) j
  · rw [mI_other a, mI_other b, mI_other c, mI_other d, bak_o ⟨d, c, b, a⟩, bak_o ⟨d, c, b, a⟩]
noncomputable def bakM (n : Nat) (M : Mm) : Mm := mI (mI (mI (mI (bak n M) 105 4 (M.1 105 47)) 105 3 (M.1 105 48)) 105 7 (M.1 105 49)) 105 8 (M.1 105 50)
theorem m_X8_backAll {l : Launch} {M : Mm} {n : Nat} (hn : M.1 105 0 = nI n) (hn30 : n ≤ 30) : AMet l 1 yX8_backAll cX8_backAll 2 none [.ref 105] M (QE none (bakM n M)) := by
  refine AMet.of (by decide) (by simp [aargs, Value.category]) ?_
  show AW l 1 yX8_backAll cX8_backAll 2 none 0 [some (.ref 105), none] [] M _
  refine aw_iconst (v := 0) dX8_backAll_0 (by decide) ?_
  refine aw_istore_n (i := 1) dX8_backAll_1 rfl (by decide) ?_
  have lp2 : ∀ k9 i, i + k9 = n → AW l 1 yX8_backAll cX8_backAll 2 none 2 [some (.ref 105), some (.int (nI i))] [] (bak i M) (QE none (bakM n M)) := by
    intro k9
    induction k9 using Nat.strongRecOn with
    | _ k9 ih =>
    intro i hk9
    refine aw_iload_n (i := 1) dX8_backAll_2 rfl rfl ?_
    refine aw_aload_n (i := 0) dX8_backAll_3 rfl rfl ?_
    refine aw_getN (n := n) gf_X8_132 sh_105 rfl ((congrFun (bak_o (by decide)) _).trans hn) dX8_backAll_4 ?_
    refine aw_icmp_geN (tgt := 64) (by omega) (by omega) dX8_backAll_7 (by decide) (fun h7 => ?_) (fun h7 => ?_)
    ·
      refine aw_aload_n (i := 0) dX8_backAll_64 rfl rfl ?_
      refine aw_aload_n (i := 0) dX8_backAll_65 rfl rfl ?_
      refine aw_getX (x := (M.1 105 47)) gf_X8_256 sh_105 rfl (congrFun (bak_o (by decide)) _) dX8_backAll_66 ?_
      refine aw_putI pf_X8_7 sh_105 rfl dX8_backAll_69 ?_
      refine aw_aload_n (i := 0) dX8_backAll_72 rfl rfl ?_
      refine aw_aload_n (i := 0) dX8_backAll_73 rfl rfl ?_
      refine aw_getX (x := (M.1 105 48)) gf_X8_259 sh_105 rfl ((congrFun (mI_self _ _ _ _) _).trans ((upd_other (by decide)).trans (congrFun (bak_o (by decide)) _))) dX8_backAll_74 ?_
      refine aw_putI pf_X8_223 sh_105 rfl dX8_backAll_77 ?_
      refine aw_aload_n (i := 0) dX8_backAll_80 rfl rfl ?_
      refine aw_aload_n (i := 0) dX8_backAll_81 rfl rfl ?_
      refine aw_getX (x := (M.1 105 49)) gf_X8_262 sh_105 rfl ((congrFun (mI_self _ _ _ _) _).trans ((upd_other (by decide)).trans ((congrFun (mI_self _ _ _ _) _).trans ((upd_other (by decide)).trans (congrFun (bak_o (by decide)) _))))) dX8_backAll_82 ?_
      refine aw_putI pf_X8_235 sh_105 rfl dX8_backAll_85 ?_
      refine aw_aload_n (i := 0) dX8_backAll_88 rfl rfl ?_
      refine aw_aload_n (i := 0) dX8_backAll_89 rfl rfl ?_
      refine aw_getX (x := (M.1 105 50)) gf_X8_265 sh_105 rfl ((congrFun (mI_self _ _ _ _) _).trans ((upd_other (by decide)).trans ((congrFun (mI_self _ _ _ _) _).trans ((upd_other (by decide)).trans ((congrFun (mI_self _ _ _ _) _).trans ((upd_other (by decide)).trans (congrFun (bak_o (by decide)) _))))))) dX8_backAll_90 ?_
      refine aw_putI pf_X8_241 sh_105 rfl dX8_backAll_93 ?_
      exact aw_vret rfl dX8_backAll_96 ⟨rfl, by rw [show i = n by omega]; rfl⟩
    ·
      refine aw_aload_n (i := 0) dX8_backAll_10 rfl rfl ?_
      refine aw_getR gf_X8_41 sh_105 rfl dX8_backAll_11 ?_
      refine aw_iload_n (i := 1) dX8_backAll_14 rfl rfl ?_
      refine aw_aload_n (i := 0) dX8_backAll_15 rfl rfl ?_
      refine aw_getR gf_X8_105 sh_105 rfl dX8_backAll_16 ?_
      refine aw_iload_n (i := 1) dX8_backAll_19 rfl rfl ?_
      refine aw_ialdX sh_133 (by omega) (by decide) (congrFun (bak_o (by decide)) _) dX8_backAll_20 ?_
      refine aw_iastN sh_113 (by omega) (by omega) dX8_backAll_21 ?_
      refine aw_aload_n (i := 0) dX8_backAll_22 rfl rfl ?_
      refine aw_getR gf_X8_44 sh_105 rfl dX8_backAll_23 ?_
      refine aw_iload_n (i := 1) dX8_backAll_26 rfl rfl ?_
      refine aw_aload_n (i := 0) dX8_backAll_27 rfl rfl ?_
      refine aw_getR gf_X8_108 sh_105 rfl dX8_backAll_28 ?_
      refine aw_iload_n (i := 1) dX8_backAll_31 rfl rfl ?_
      refine aw_ialdX sh_134 (by omega) (by decide) (congrFun ((mI_other (by decide)).trans (bak_o (by decide))) _) dX8_backAll_32 ?_
      refine aw_iastN sh_114 (by omega) (by omega) dX8_backAll_33 ?_
      refine aw_aload_n (i := 0) dX8_backAll_34 rfl rfl ?_
      refine aw_getR gf_X8_47 sh_105 rfl dX8_backAll_35 ?_
      refine aw_iload_n (i := 1) dX8_backAll_38 rfl rfl ?_
      refine aw_aload_n (i := 0) dX8_backAll_39 rfl rfl ?_
      refine aw_getR gf_X8_111 sh_105 rfl dX8_backAll_40 ?_
      refine aw_iload_n (i := 1) dX8_backAll_43 rfl rfl ?_
      refine aw_ialdX sh_135 (by omega) (by decide) (congrFun ((mI_other (by decide)).trans ((mI_other (by decide)).trans (bak_o (by decide)))) _) dX8_backAll_44 ?_
      refine aw_iastN sh_115 (by omega) (by omega) dX8_backAll_45 ?_
      refine aw_aload_n (i := 0) dX8_backAll_46 rfl rfl ?_
      refine aw_getR gf_X8_38 sh_105 rfl dX8_backAll_47 ?_
      refine aw_iload_n (i := 1) dX8_backAll_50 rfl rfl ?_
      refine aw_aload_n (i := 0) dX8_backAll_51 rfl rfl ?_
      refine aw_getR gf_X8_114 sh_105 rfl dX8_backAll_52 ?_
      refine aw_iload_n (i := 1) dX8_backAll_55 rfl rfl ?_
      refine aw_ialdX sh_136 (by omega) (by decide) (congrFun ((mI_other (by decide)).trans ((mI_other (by decide)).trans ((mI_other (by decide)).trans (bak_o (by decide))))) _) dX8_backAll_56 ?_
      refine aw_iastN sh_112 (by omega) (by omega) dX8_backAll_57 ?_
      refine aw_iincN (i := 1) dX8_backAll_58 rfl (by decide) ?_
      refine aw_goto (tgt := 2) dX8_backAll_61 (by decide) ?_
      refine aw_mem (bak_s i M) ?_
      refine aw_loc (la := [some (.ref 105), some (.int (nI (i + 1)))]) ⟨rfl, rfl, trivial⟩ ?_
      exact ih (k9 - 1) (by omega) (i + 1) (by omega)
  refine aw_mem (bak_0 M).symm ?_
  refine aw_loc (la := [some (.ref 105), some (.int (nI 0))]) ⟨rfl, rfl, trivial⟩ ?_
  exact lp2 n 0 (by omega)
