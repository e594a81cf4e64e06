noncomputable def imP (M : Mm) : Mm := (mI (mI (mI (mI (mI (mI (mI (mI M 105 55 (M.1 105 3)) 105 56 (M.1 105 0)) 105 57 (M.1 105 1)) 105 58 (M.1 105 2)) 105 59 (M.1 105 4)) 105 60 (M.1 105 5)) 105 61 (M.1 105 7)) 105 62 (M.1 105 8))
noncomputable def imM (M : Mm) : Mm := rI (imP M) 140 (kpR (imP M) 12)
noncomputable def reP (M : Mm) : Mm := (mI (mI (mI (mI (mI (mI (mI (mI M 105 3 (M.1 105 55)) 105 0 (M.1 105 56)) 105 1 (M.1 105 57)) 105 2 (M.1 105 58)) 105 4 (M.1 105 59)) 105 5 (M.1 105 60)) 105 7 (M.1 105 61)) 105 8 (M.1 105 62))
noncomputable def reX (M : Mm) : Mm := bkM (reP M) 12
noncomputable def fg8 (X : Mm) (s : Nat) : Int32 := pIf (X.1 120 s = 2 ∧ ¬ X.1 123 s < X.1 105 0) 0 (X.1 120 s)
noncomputable def reM (M : Mm) : Mm := rI (reX M) 120 (upto ((reX M).1 120) (fg8 (reX M)) 8)
theorem m_X8_image {l : Launch} {M : Mm} : AMet l 3 yX8_image cX8_image 1 (some FieldType.int) [.ref 105] M (QE (some (.int (M.1 105 3))) (imM M)) := by
  refine AMet.of (by decide) (by simp [aargs, Value.category]) ?_
  show AW l 3 yX8_image cX8_image 1 (some FieldType.int) 0 [some (.ref 105)] [] M _
  refine aw_aload_n (i := 0) dX8_image_0 rfl rfl ?_
  refine aw_aload_n (i := 0) dX8_image_1 rfl rfl ?_
  refine aw_getX gf_X8_223 sh_105 rfl rfl dX8_image_2 ?_
  refine aw_putI pf_X8_126 sh_105 rfl dX8_image_5 ?_
  refine aw_aload_n (i := 0) dX8_image_8 rfl rfl ?_
  refine aw_aload_n (i := 0) dX8_image_9 rfl rfl ?_
  refine aw_getX gf_X8_132 sh_105 rfl ((congrFun (mI_self _ _ _ _) _).trans ((upd_other (by decide)).trans rfl)) dX8_image_10 ?_
  refine aw_putI pf_X8_323 sh_105 rfl dX8_image_13 ?_
  refine aw_aload_n (i := 0) dX8_image_16 rfl rfl ?_
  refine aw_aload_n (i := 0) dX8_image_17 rfl rfl ?_
  refine aw_getX gf_X8_135 sh_105 rfl ((congrFun (mI_self _ _ _ _) _).trans ((upd_other (by decide)).trans ((congrFun (mI_self _ _ _ _) _).trans ((upd_other (by decide)).trans rfl)))) dX8_image_18 ?_
  refine aw_putI pf_X8_326 sh_105 rfl dX8_image_21 ?_
  refine aw_aload_n (i := 0) dX8_image_24 rfl rfl ?_
  refine aw_aload_n (i := 0) dX8_image_25 rfl rfl ?_
  refine aw_getX gf_X8_296 sh_105 rfl ((congrFun (mI_self _ _ _ _) _).trans ((upd_other (by decide)).trans ((congrFun (mI_self _ _ _ _) _).trans ((upd_other (by decide)).trans ((congrFun (mI_self _ _ _ _) _).trans ((upd_other (by decide)).trans rfl)))))) dX8_image_26 ?_
  refine aw_putI pf_X8_329 sh_105 rfl dX8_image_29 ?_
  refine aw_aload_n (i := 0) dX8_image_32 rfl rfl ?_
  refine aw_aload_n (i := 0) dX8_image_33 rfl rfl ?_
  refine aw_getX gf_X8_7 sh_105 rfl ((congrFun (mI_self _ _ _ _) _).trans ((upd_other (by decide)).trans ((congrFun (mI_self _ _ _ _) _).trans ((upd_other (by decide)).trans ((congrFun (mI_self _ _ _ _) _).trans ((upd_other (by decide)).trans ((congrFun (mI_self _ _ _ _) _).trans ((upd_other (by decide)).trans rfl)))))))) dX8_image_34 ?_
  refine aw_putI pf_X8_332 sh_105 rfl dX8_image_37 ?_
  refine aw_aload_n (i := 0) dX8_image_40 rfl rfl ?_
  refine aw_aload_n (i := 0) dX8_image_41 rfl rfl ?_
  refine aw_getX gf_X8_13 sh_105 rfl ((congrFun (mI_self _ _ _ _) _).trans ((upd_other (by decide)).trans ((congrFun (mI_self _ _ _ _) _).trans ((upd_other (by decide)).trans ((congrFun (mI_self _ _ _ _) _).trans ((upd_other (by decide)).trans ((congrFun (mI_self _ _ _ _) _).trans ((upd_other (by decide)).trans ((congrFun (mI_self _ _ _ _) _).trans ((upd_other (by decide)).trans rfl)))))))))) dX8_image_42 ?_
  refine aw_putI pf_X8_335 sh_105 rfl dX8_image_45 ?_
  refine aw_aload_n (i := 0) dX8_image_48 rfl rfl ?_
  refine aw_aload_n (i := 0) dX8_image_49 rfl rfl ?_
  refine aw_getX gf_X8_235 sh_105 rfl ((congrFun (mI_self _ _ _ _) _).trans ((upd_other (by decide)).trans ((congrFun (mI_self _ _ _ _) _).trans ((upd_other (by decide)).trans ((congrFun (mI_self _ _ _ _) _).trans ((upd_other (by decide)).trans ((congrFun (mI_self _ _ _ _) _).trans ((upd_other (by decide)).trans ((congrFun (mI_self _ _ _ _) _).trans ((upd_other (by decide)).trans ((congrFun (mI_self _ _ _ _) _).trans ((upd_other (by decide)).trans rfl)))))))))))) dX8_image_50 ?_
  refine aw_putI pf_X8_338 sh_105 rfl dX8_image_53 ?_
  refine aw_aload_n (i := 0) dX8_image_56 rfl rfl ?_
  refine aw_aload_n (i := 0) dX8_image_57 rfl rfl ?_
  refine aw_getX gf_X8_241 sh_105 rfl ((congrFun (mI_self _ _ _ _) _).trans ((upd_other (by decide)).trans ((congrFun (mI_self _ _ _ _) _).trans ((upd_other (by decide)).trans ((congrFun (mI_self _ _ _ _) _).trans ((upd_other (by decide)).trans ((congrFun (mI_self _ _ _ _) _).trans ((upd_other (by decide)).trans ((congrFun (mI_self _ _ _ _) _).trans ((upd_other (by decide)).trans ((congrFun (mI_self _ _ _ _) _).trans ((upd_other (by decide)).trans ((congrFun (mI_self _ _ _ _) _).trans ((upd_other (by decide)).trans rfl)))))))))))))) dX8_image_58 ?_
  refine aw_putI pf_X8_341 sh_105 rfl dX8_image_61 ?_
  refine aw_aload_n (i := 0) dX8_image_64 rfl rfl ?_
  refine aw_iconst (v := 0) dX8_image_65 (by decide) ?_
  refine aw_cVv ck_X8_344 m_X8_all0 sh_105 rfl (by decide) (by decide) rfl rfl (Nat.le_of_ble_eq_true rfl) dX8_image_66 ?_
  refine aw_aload_n (i := 0) dX8_image_69 rfl rfl ?_
  refine aw_getX gf_X8_223 sh_105 rfl ((congrFun (rI_other (by decide)) 3).trans ((congrFun (mI_self _ _ _ _) _).trans ((upd_other (by decide)).trans ((congrFun (mI_self _ _ _ _) _).trans ((upd_other (by decide)).trans ((congrFun (mI_self _ _ _ _) _).trans ((upd_other (by decide)).trans ((congrFun (mI_self _ _ _ _) _).trans ((upd_other (by decide)).trans ((congrFun (mI_self _ _ _ _) _).trans ((upd_other (by decide)).trans ((congrFun (mI_self _ _ _ _) _).trans ((upd_other (by decide)).trans ((congrFun (mI_self _ _ _ _) _).trans ((upd_other (by decide)).trans ((congrFun (mI_self _ _ _ _) _).trans ((upd_other (by decide)).trans rfl))))))))))))))))) dX8_image_70 ?_
  exact aw_iret rfl dX8_image_73 ⟨rfl, rfl⟩
def S8_restore (M : Mm) (v : Int32) (M' : Mm) : Prop := pIf (M.1 105 55 = -1) (v = -6 ∧ M' = nox M 6) (M' = reM M ∧ v = M'.1 105 3)
theorem m_X8_restore {l : Launch} {M : Mm} : AMet l 4 yX8_restore cX8_restore 2 (some FieldType.int) [.ref 105] M (QI (S8_restore M)) := by
  refine AMet.of (by decide) (by simp [aargs, Value.category]) ?_
  show AW l 4 yX8_restore cX8_restore 2 (some FieldType.int) 0 [some (.ref 105), none] [] M _
  refine aw_aload_n (i := 0) dX8_restore_0 rfl rfl ?_
  refine aw_getI gf_X8_126 sh_105 rfl dX8_restore_1 ?_
  refine aw_iconst (v := (-1)) dX8_restore_4 (by decide) ?_
  refine aw_icmp_ne (tgt := 15) dX8_restore_5 (by decide) (fun h5 => ?_) (fun h5 => ?_)
  ·
    refine aw_aload_n (i := 0) dX8_restore_15 rfl rfl ?_
    refine aw_aload_n (i := 0) dX8_restore_16 rfl rfl ?_
    refine aw_getX gf_X8_126 sh_105 rfl rfl dX8_restore_17 ?_
    refine aw_putI pf_X8_223 sh_105 rfl dX8_restore_20 ?_
    refine aw_aload_n (i := 0) dX8_restore_23 rfl rfl ?_
    refine aw_aload_n (i := 0) dX8_restore_24 rfl rfl ?_
    refine aw_getX gf_X8_323 sh_105 rfl ((congrFun (mI_self _ _ _ _) _).trans ((upd_other (by decide)).trans rfl)) dX8_restore_25 ?_
    refine aw_putI pf_X8_132 sh_105 rfl dX8_restore_28 ?_
    refine aw_aload_n (i := 0) dX8_restore_31 rfl rfl ?_
    refine aw_aload_n (i := 0) dX8_restore_32 rfl rfl ?_
    refine aw_getX gf_X8_326 sh_105 rfl ((congrFun (mI_self _ _ _ _) _).trans ((upd_other (by decide)).trans ((congrFun (mI_self _ _ _ _) _).trans ((upd_other (by decide)).trans rfl)))) dX8_restore_33 ?_
    refine aw_putI pf_X8_135 sh_105 rfl dX8_restore_36 ?_
    refine aw_aload_n (i := 0) dX8_restore_39 rfl rfl ?_
    refine aw_aload_n (i := 0) dX8_restore_40 rfl rfl ?_
    refine aw_getX gf_X8_329 sh_105 rfl ((congrFun (mI_self _ _ _ _) _).trans ((upd_other (by decide)).trans ((congrFun (mI_self _ _ _ _) _).trans ((upd_other (by decide)).trans ((congrFun (mI_self _ _ _ _) _).trans ((upd_other (by decide)).trans rfl)))))) dX8_restore_41 ?_
    refine aw_putI pf_X8_296 sh_105 rfl dX8_restore_44 ?_
    refine aw_aload_n (i := 0) dX8_restore_47 rfl rfl ?_
    refine aw_aload_n (i := 0) dX8_restore_48 rfl rfl ?_
    refine aw_getX gf_X8_332 sh_105 rfl ((congrFun (mI_self _ _ _ _) _).trans ((upd_other (by decide)).trans ((congrFun (mI_self _ _ _ _) _).trans ((upd_other (by decide)).trans ((congrFun (mI_self _ _ _ _) _).trans ((upd_other (by decide)).trans ((congrFun (mI_self _ _ _ _) _).trans ((upd_other (by decide)).trans rfl)))))))) dX8_restore_49 ?_
    refine aw_putI pf_X8_7 sh_105 rfl dX8_restore_52 ?_
    refine aw_aload_n (i := 0) dX8_restore_55 rfl rfl ?_
    refine aw_aload_n (i := 0) dX8_restore_56 rfl rfl ?_
    refine aw_getX gf_X8_335 sh_105 rfl ((congrFun (mI_self _ _ _ _) _).trans ((upd_other (by decide)).trans ((congrFun (mI_self _ _ _ _) _).trans ((upd_other (by decide)).trans ((congrFun (mI_self _ _ _ _) _).trans ((upd_other (by decide)).trans ((congrFun (mI_self _ _ _ _) _).trans ((upd_other (by decide)).trans ((congrFun (mI_self _ _ _ _) _).trans ((upd_other (by decide)).trans rfl)))))))))) dX8_restore_57 ?_
    refine aw_putI pf_X8_13 sh_105 rfl dX8_restore_60 ?_
    refine aw_aload_n (i := 0) dX8_restore_63 rfl rfl ?_
    refine aw_aload_n (i := 0) dX8_restore_64 rfl rfl ?_
    refine aw_getX gf_X8_338 sh_105 rfl ((congrFun (mI_self _ _ _ _) _).trans ((upd_other (by decide)).trans ((congrFun (mI_self _ _ _ _) _).trans ((upd_other (by decide)).trans ((congrFun (mI_self _ _ _ _) _).trans ((upd_other (by decide)).trans ((congrFun (mI_self _ _ _ _) _).trans ((upd_other (by decide)).trans ((congrFun (mI_self _ _ _ _) _).trans ((upd_other (by decide)).trans ((congrFun (mI_self _ _ _ _) _).trans ((upd_other (by decide)).trans rfl)))))))))))) dX8_restore_65 ?_
    refine aw_putI pf_X8_235 sh_105 rfl dX8_restore_68 ?_
    refine aw_aload_n (i := 0) dX8_restore_71 rfl rfl ?_
    refine aw_aload_n (i := 0) dX8_restore_72 rfl rfl ?_
    refine aw_getX gf_X8_341 sh_105 rfl ((congrFun (mI_self _ _ _ _) _).trans ((upd_other (by decide)).trans ((congrFun (mI_self _ _ _ _) _).trans ((upd_other (by decide)).trans ((congrFun (mI_self _ _ _ _) _).trans ((upd_other (by decide)).trans ((congrFun (mI_self _ _ _ _) _).trans ((upd_other (by decide)).trans ((congrFun (mI_self _ _ _ _) _).trans ((upd_other (by decide)).trans ((congrFun (mI_self _ _ _ _) _).trans ((upd_other (by decide)).trans ((congrFun (mI_self _ _ _ _) _).trans ((upd_other (by decide)).trans rfl)))))))))))))) dX8_restore_73 ?_
    refine aw_putI pf_X8_241 sh_105 rfl dX8_restore_76 ?_
    refine aw_aload_n (i := 0) dX8_restore_79 rfl rfl ?_
    refine aw_iconst (v := 1) dX8_restore_80 (by decide) ?_
    refine aw_cVv ck_X8_344 m_X8_all1 sh_105 rfl (by decide) (by decide) rfl rfl (Nat.le_of_ble_eq_true rfl) dX8_restore_81 ?_
    refine aw_mem (show _ = reX M from rfl) ?_
    refine aw_iconst (v := 0) dX8_restore_84 (by decide) ?_
    refine aw_istore_n (i := 1) dX8_restore_85 rfl (by decide) ?_
    have lp86 : ∀ k9 i, i + k9 = 8 → AW l 4 yX8_restore cX8_restore 2 (some FieldType.int) 86 [some (.ref 105), some (.int (nI i))] [] (rI (reX M) 120 (upto ((reX M).1 120) (fg8 (reX M)) i)) (QI (S8_restore M)) := by
      intro k9
      induction k9 using Nat.strongRecOn with
      | _ k9 ih =>
      intro i hk9
      refine aw_iload_n (i := 1) dX8_restore_86 rfl rfl ?_
      refine aw_bipush (v := 8) dX8_restore_87 (by decide) ?_
      refine aw_top (show (8 : Int32) = nI 8 from rfl) ?_
      refine aw_icmp_geN (tgt := 128) (by omega) (by omega) dX8_restore_89 (by decide) (fun h89 => ?_) (fun h89 => ?_)
      ·
        refine aw_aload_n (i := 0) dX8_restore_128 rfl rfl ?_
        refine aw_getI gf_X8_223 sh_105 rfl dX8_restore_129 ?_
        exact aw_iret rfl dX8_restore_132 ⟨_, rfl, by unfold S8_restore; rw [pIf_f h5]; exact ⟨by rw [show i = 8 from by omega]; rfl, rfl⟩⟩
      ·
        refine aw_aload_n (i := 0) dX8_restore_92 rfl rfl ?_
        refine aw_getR gf_X8_62 sh_105 rfl dX8_restore_93 ?_
        refine aw_iload_n (i := 1) dX8_restore_96 rfl rfl ?_
        refine aw_ialdX sh_120 (by omega) (by decide) ((congrFun (rI_self _ _ _) i).trans (upto_at (Nat.le_refl i))) dX8_restore_97 ?_
        refine aw_iconst (v := 2) dX8_restore_98 (by decide) ?_
        refine aw_icmp_ne (tgt := 122) dX8_restore_99 (by decide) (fun h99 => ?_) (fun h99 => ?_)
        ·
          refine aw_iincN (i := 1) dX8_restore_122 rfl (by decide) ?_
          refine aw_goto (tgt := 86) dX8_restore_125 (by decide) ?_
          refine aw_mem (M' := (rI (reX M) 120 (upto ((reX M).1 120) (fg8 (reX M)) (i + 1)))) (congrArg (rI (reX M) 120) (upto_e (pIf_f (fun z => h99 z.1)).symm)) ?_
          refine aw_loc (la := [some (.ref 105), some (.int (nI (i + 1)))]) ⟨rfl, rfl, trivial⟩ ?_
          exact ih (k9 - 1) (by omega) (i + 1) (by omega)
        ·
          refine aw_aload_n (i := 0) dX8_restore_102 rfl rfl ?_
          refine aw_getR gf_X8_71 sh_105 rfl dX8_restore_103 ?_
          refine aw_iload_n (i := 1) dX8_restore_106 rfl rfl ?_
          refine aw_ialdX sh_123 (by omega) (by decide) (congrFun (rI_other (by decide)) i) dX8_restore_107 ?_
          refine aw_aload_n (i := 0) dX8_restore_108 rfl rfl ?_
          refine aw_getX gf_X8_132 sh_105 rfl (congrFun (rI_other (by decide)) 0) dX8_restore_109 ?_
          refine aw_icmp_lt (tgt := 122) dX8_restore_112 (by decide) (fun h112 => ?_) (fun h112 => ?_)
          ·
            refine aw_iincN (i := 1) dX8_restore_122 rfl (by decide) ?_
            refine aw_goto (tgt := 86) dX8_restore_125 (by decide) ?_
            refine aw_mem (M' := (rI (reX M) 120 (upto ((reX M).1 120) (fg8 (reX M)) (i + 1)))) (congrArg (rI (reX M) 120) (upto_e (pIf_f (fun z => z.2 h112)).symm)) ?_
            refine aw_loc (la := [some (.ref 105), some (.int (nI (i + 1)))]) ⟨rfl, rfl, trivial⟩ ?_
            exact ih (k9 - 1) (by omega) (i + 1) (by omega)
          ·
            refine aw_aload_n (i := 0) dX8_restore_115 rfl rfl ?_
            refine aw_getR gf_X8_62 sh_105 rfl dX8_restore_116 ?_
            refine aw_iload_n (i := 1) dX8_restore_119 rfl rfl ?_
            refine aw_iconst (v := 0) dX8_restore_120 (by decide) ?_
            refine aw_iastN sh_120 (by omega) (by omega) dX8_restore_121 ?_
            refine aw_iincN (i := 1) dX8_restore_122 rfl (by decide) ?_
            refine aw_goto (tgt := 86) dX8_restore_125 (by decide) ?_
            refine aw_mem (M' := (rI (reX M) 120 (upto ((reX M).1 120) (fg8 (reX M)) (i + 1)))) (by rw [mI_rI, rI_self, rI_rI]; exact congrArg (rI (reX M) 120) (upto_s (pIf_t ⟨h99, h112⟩).symm)) ?_
            refine aw_loc (la := [some (.ref 105), some (.int (nI (i + 1)))]) ⟨rfl, rfl, trivial⟩ ?_
            exact ih (k9 - 1) (by omega) (i + 1) (by omega)
    refine aw_mem (M' := (rI (reX M) 120 (upto ((reX M).1 120) (fg8 (reX M)) 0))) (by rw [upto_0]; exact (rI_id (reX M) 120).symm) ?_
    refine aw_loc (la := [some (.ref 105), some (.int (nI 0))]) ⟨rfl, rfl, trivial⟩ ?_
    exact lp86 8 0 (by omega)
  ·
    refine aw_aload_n (i := 0) dX8_restore_8 rfl rfl ?_
    refine aw_bipush (v := (-6)) dX8_restore_9 (by decide) ?_
    refine aw_cVi ck_X8_142 (m_X8_no (k := 6) (by decide) (by decide)) sh_105 rfl (by decide) (by decide) rfl rfl (Nat.le_of_ble_eq_true rfl) dX8_restore_11 ?_
    exact aw_iret rfl dX8_restore_14 ⟨_, rfl, by unfold S8_restore; rw [pIf_t h5]; exact ⟨rfl, rfl⟩⟩
