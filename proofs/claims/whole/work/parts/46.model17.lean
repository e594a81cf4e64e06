theorem m_X8_keeps0 {l : Launch} {M : Mm} {m f : Nat} {a N q : Nat} (hs : shp[a]? = some (.inr (0, N, q))) (hN : N ≤ 42) (ha : a ≠ 140) (hm : m ≤ N) (hf : f + m ≤ 360) : AMet l 1 yX8_keeps cX8_keeps 6 (some FieldType.int) [.ref 105, .ref a, .int (nI m), .int (nI f), .int 0] M (QE (some (.int (nI (f + m)))) (rI M 140 (ovI f m (M.1 a) (M.1 140)))) := by
  refine AMet.of (by decide) (by simp [aargs, Value.category]) ?_
  show AW l 1 yX8_keeps cX8_keeps 6 (some FieldType.int) 0 [some (.ref 105), some (.ref a), some (.int (nI m)), some (.int (nI f)), some (.int 0), none] [] M _
  refine aw_iconst (v := 0) dX8_keeps_0 (by decide) ?_
  refine aw_istore (i := 5) dX8_keeps_1 (by decide) ?_
  have lp3 : ∀ k9 i, i + k9 = m → AW l 1 yX8_keeps cX8_keeps 6 (some FieldType.int) 3 [some (.ref 105), some (.ref a), some (.int (nI m)), some (.int (nI f)), some (.int 0), some (.int (nI i))] [] (rI M 140 (ovI f i (M.1 a) (M.1 140))) (QE (some (.int (nI (f + m)))) (rI M 140 (ovI f m (M.1 a) (M.1 140)))) := by
    intro k9
    induction k9 using Nat.strongRecOn with
    | _ k9 ih =>
    intro i hk9
    refine aw_iload (i := 5) dX8_keeps_3 rfl ?_
    refine aw_iload_n (i := 2) dX8_keeps_5 rfl rfl ?_
    refine aw_icmp_geN (tgt := 49) (by omega) (by omega) dX8_keeps_6 (by decide) (fun h6 => ?_) (fun h6 => ?_)
    ·
      refine aw_iload_n (i := 3) dX8_keeps_49 rfl rfl ?_
      refine aw_iload_n (i := 2) dX8_keeps_50 rfl rfl ?_
      refine aw_iadd dX8_keeps_51 ?_
      refine aw_top (nI_add f m) ?_
      exact aw_iret rfl dX8_keeps_52 ⟨rfl, by rw [show i = m from by omega]⟩
    ·
      refine aw_iload (i := 4) dX8_keeps_9 rfl ?_
      refine aw_if_eq (tgt := 30) dX8_keeps_11 (by decide) (fun h11 => ?_) (fun h11 => ?_)
      ·
        refine aw_aload_n (i := 0) dX8_keeps_30 rfl rfl ?_
        refine aw_getR gf_X8_129 sh_105 rfl dX8_keeps_31 ?_
        refine aw_iload_n (i := 3) dX8_keeps_34 rfl rfl ?_
        refine aw_iload (i := 5) dX8_keeps_35 rfl ?_
        refine aw_iadd dX8_keeps_37 ?_
        refine aw_top (nI_add f i) ?_
        refine aw_aload_n (i := 1) dX8_keeps_38 rfl rfl ?_
        refine aw_iload (i := 5) dX8_keeps_39 rfl ?_
        refine aw_ialdN hs (by omega) (by omega) dX8_keeps_41 ?_
        refine aw_iastN sh_140 (by omega) (by omega) dX8_keeps_42 ?_
        refine aw_iincN (i := 5) dX8_keeps_43 rfl (by decide) ?_
        refine aw_goto (tgt := 3) dX8_keeps_46 (by decide) ?_
        refine aw_mem (M' := (rI M 140 (ovI f (i + 1) (M.1 a) (M.1 140)))) (by rw [mI_rI, rI_self, rI_rI]; exact congrArg (rI M 140) (ovI_s (congrFun (rI_other ha) i))) ?_
        refine aw_loc (la := [some (.ref 105), some (.ref a), some (.int (nI m)), some (.int (nI f)), some (.int 0), some (.int (nI (i + 1)))]) ⟨rfl, rfl, rfl, rfl, rfl, rfl, trivial⟩ ?_
        exact ih (k9 - 1) (by omega) (i + 1) (by omega)
      ·
        exact absurd h11 (by decide)
  refine aw_mem (M' := (rI M 140 (ovI f 0 (M.1 a) (M.1 140)))) (by rw [ovI_0]; exact (rI_id M 140).symm) ?_
  refine aw_loc (la := [some (.ref 105), some (.ref a), some (.int (nI m)), some (.int (nI f)), some (.int 0), some (.int (nI 0))]) ⟨rfl, rfl, rfl, rfl, rfl, rfl, trivial⟩ ?_
  exact lp3 m 0 (by omega)
theorem m_X8_keeps1 {l : Launch} {M : Mm} {m f : Nat} {a N q : Nat} (hs : shp[a]? = some (.inr (0, N, q))) (hN : N ≤ 42) (ha : a ≠ 140) (hm : m ≤ N) (hf : f + m ≤ 360) : AMet l 1 yX8_keeps cX8_keeps 6 (some FieldType.int) [.ref 105, .ref a, .int (nI m), .int (nI f), .int 1] M (QE (some (.int (nI (f + m)))) (rI M a (upto (M.1 a) (fun i => M.1 140 (f + i)) m))) := by
  refine AMet.of (by decide) (by simp [aargs, Value.category]) ?_
  show AW l 1 yX8_keeps cX8_keeps 6 (some FieldType.int) 0 [some (.ref 105), some (.ref a), some (.int (nI m)), some (.int (nI f)), some (.int 1), none] [] M _
  refine aw_iconst (v := 0) dX8_keeps_0 (by decide) ?_
  refine aw_istore (i := 5) dX8_keeps_1 (by decide) ?_
  have lp3 : ∀ k9 i, i + k9 = m → AW l 1 yX8_keeps cX8_keeps 6 (some FieldType.int) 3 [some (.ref 105), some (.ref a), some (.int (nI m)), some (.int (nI f)), some (.int 1), some (.int (nI i))] [] (rI M a (upto (M.1 a) (fun i => M.1 140 (f + i)) i)) (QE (some (.int (nI (f + m)))) (rI M a (upto (M.1 a) (fun i => M.1 140 (f + i)) m))) := by
    intro k9
    induction k9 using Nat.strongRecOn with
    | _ k9 ih =>
    intro i hk9
    refine aw_iload (i := 5) dX8_keeps_3 rfl ?_
    refine aw_iload_n (i := 2) dX8_keeps_5 rfl rfl ?_
    refine aw_icmp_geN (tgt := 49) (by omega) (by omega) dX8_keeps_6 (by decide) (fun h6 => ?_) (fun h6 => ?_)
    ·
      refine aw_iload_n (i := 3) dX8_keeps_49 rfl rfl ?_
      refine aw_iload_n (i := 2) dX8_keeps_50 rfl rfl ?_
      refine aw_iadd dX8_keeps_51 ?_
      refine aw_top (nI_add f m) ?_
      exact aw_iret rfl dX8_keeps_52 ⟨rfl, by rw [show i = m from by omega]⟩
    ·
      refine aw_iload (i := 4) dX8_keeps_9 rfl ?_
      refine aw_if_eq (tgt := 30) dX8_keeps_11 (by decide) (fun h11 => ?_) (fun h11 => ?_)
      ·
        exact absurd h11 (by decide)
      ·
        refine aw_aload_n (i := 1) dX8_keeps_14 rfl rfl ?_
        refine aw_iload (i := 5) dX8_keeps_15 rfl ?_
        refine aw_aload_n (i := 0) dX8_keeps_17 rfl rfl ?_
        refine aw_getR gf_X8_129 sh_105 rfl dX8_keeps_18 ?_
        refine aw_iload_n (i := 3) dX8_keeps_21 rfl rfl ?_
        refine aw_iload (i := 5) dX8_keeps_22 rfl ?_
        refine aw_iadd dX8_keeps_24 ?_
        refine aw_top (nI_add f i) ?_
        refine aw_ialdN sh_140 (by omega) (by omega) dX8_keeps_25 ?_
        refine aw_iastN hs (by omega) (by omega) dX8_keeps_26 ?_
        refine aw_goto (tgt := 43) dX8_keeps_27 (by decide) ?_
        refine aw_iincN (i := 5) dX8_keeps_43 rfl (by decide) ?_
        refine aw_goto (tgt := 3) dX8_keeps_46 (by decide) ?_
        refine aw_mem (M' := (rI M a (upto (M.1 a) (fun i => M.1 140 (f + i)) (i + 1)))) (by rw [mI_rI, rI_self, rI_rI]; exact congrArg (rI M a) (upto_s (g := fun i => M.1 140 (f + i)) (congrFun (rI_other (fun z => ha z.symm)) (f + i)))) ?_
        refine aw_loc (la := [some (.ref 105), some (.ref a), some (.int (nI m)), some (.int (nI f)), some (.int 1), some (.int (nI (i + 1)))]) ⟨rfl, rfl, rfl, rfl, rfl, rfl, trivial⟩ ?_
        exact ih (k9 - 1) (by omega) (i + 1) (by omega)
  refine aw_mem (M' := (rI M a (upto (M.1 a) (fun i => M.1 140 (f + i)) 0))) (by rw [upto_0]; exact (rI_id M a).symm) ?_
  refine aw_loc (la := [some (.ref 105), some (.ref a), some (.int (nI m)), some (.int (nI f)), some (.int 1), some (.int (nI 0))]) ⟨rfl, rfl, rfl, rfl, rfl, rfl, trivial⟩ ?_
  exact lp3 m 0 (by omega)
def kRw (t : Nat) : Nat := [107, 108, 109, 110, 111, 112, 113, 114, 115, 116, 117, 119].getD t 0
def kLn (t : Nat) : Nat := [30, 30, 30, 30, 30, 30, 30, 30, 30, 30, 8, 42].getD t 0
def kOf (t : Nat) : Nat := [0, 30, 60, 90, 120, 150, 180, 210, 240, 270, 300, 308, 350].getD t 0
/-- rows kept, one behind the other -/
noncomputable def kpR (M : Mm) : Nat → Nat → Int32
  | 0 => M.1 140
  | t + 1 => ovI (kOf t) (kLn t) (M.1 (kRw t)) (kpR M t)
/-- rows brought back, one behind the other -/
noncomputable def bkM (M : Mm) : Nat → Mm
  | 0 => M
  | t + 1 => rI (bkM M t) (kRw t) (upto ((bkM M t).1 (kRw t)) (fun i => (bkM M t).1 140 (kOf t + i)) (kLn t))
theorem kp_step (M : Mm) (t : Nat) (h : kRw t ≠ 140) : rI (rI M 140 (kpR M t)) 140 (ovI (kOf t) (kLn t) ((rI M 140 (kpR M t)).1 (kRw t)) ((rI M 140 (kpR M t)).1 140)) = rI M 140 (kpR M (t + 1)) := by
  rw [rI_rI, rI_self, rI_other h]
  rfl
theorem m_X8_all0 {l : Launch} {M : Mm} : AMet l 2 yX8_all cX8_all 3 none [.ref 105, .int 0] M (QE none (rI M 140 (kpR M 12))) := by
  refine AMet.of (by decide) (by simp [aargs, Value.category]) ?_
  show AW l 2 yX8_all cX8_all 3 none 0 [some (.ref 105), some (.int 0), none] [] M _
  refine aw_mem (M' := rI M 140 (kpR M 0)) (rI_id M 140).symm ?_
  refine aw_aload_n (i := 0) dX8_all_0 rfl rfl ?_
  refine aw_aload_n (i := 0) dX8_all_1 rfl rfl ?_
  refine aw_getR gf_X8_23 sh_105 rfl dX8_all_2 ?_
  refine aw_bipush (v := 30) dX8_all_5 (by decide) ?_
  refine aw_iconst (v := 0) dX8_all_7 (by decide) ?_
  refine aw_iload_n (i := 1) dX8_all_8 rfl rfl ?_
  refine aw_cVi ck_X8_319 (m_X8_keeps0 (m := 30) (f := 0) sh_107 (by decide) (by decide) (by decide) (by decide)) sh_105 rfl (by decide) (by decide) rfl rfl (Nat.le_of_ble_eq_true rfl) dX8_all_9 ?_
  refine aw_mem (M' := rI M 140 (kpR M 1)) (kp_step M 0 (by decide)) ?_
  refine aw_istore_n (i := 2) dX8_all_12 rfl (by decide) ?_
  refine aw_aload_n (i := 0) dX8_all_13 rfl rfl ?_
  refine aw_aload_n (i := 0) dX8_all_14 rfl rfl ?_
  refine aw_getR gf_X8_26 sh_105 rfl dX8_all_15 ?_
  refine aw_bipush (v := 30) dX8_all_18 (by decide) ?_
  refine aw_iload_n (i := 2) dX8_all_20 rfl rfl ?_
  refine aw_iload_n (i := 1) dX8_all_21 rfl rfl ?_
  refine aw_cVi ck_X8_319 (m_X8_keeps0 (m := 30) (f := 30) sh_108 (by decide) (by decide) (by decide) (by decide)) sh_105 rfl (by decide) (by decide) rfl rfl (Nat.le_of_ble_eq_true rfl) dX8_all_22 ?_
  refine aw_mem (M' := rI M 140 (kpR M 2)) (kp_step M 1 (by decide)) ?_
  refine aw_istore_n (i := 2) dX8_all_25 rfl (by decide) ?_
  refine aw_aload_n (i := 0) dX8_all_26 rfl rfl ?_
  refine aw_aload_n (i := 0) dX8_all_27 rfl rfl ?_
  refine aw_getR gf_X8_29 sh_105 rfl dX8_all_28 ?_
  refine aw_bipush (v := 30) dX8_all_31 (by decide) ?_
  refine aw_iload_n (i := 2) dX8_all_33 rfl rfl ?_
  refine aw_iload_n (i := 1) dX8_all_34 rfl rfl ?_
  refine aw_cVi ck_X8_319 (m_X8_keeps0 (m := 30) (f := 60) sh_109 (by decide) (by decide) (by decide) (by decide)) sh_105 rfl (by decide) (by decide) rfl rfl (Nat.le_of_ble_eq_true rfl) dX8_all_35 ?_
  refine aw_mem (M' := rI M 140 (kpR M 3)) (kp_step M 2 (by decide)) ?_
  refine aw_istore_n (i := 2) dX8_all_38 rfl (by decide) ?_
  refine aw_aload_n (i := 0) dX8_all_39 rfl rfl ?_
  refine aw_aload_n (i := 0) dX8_all_40 rfl rfl ?_
  refine aw_getR gf_X8_32 sh_105 rfl dX8_all_41 ?_
  refine aw_bipush (v := 30) dX8_all_44 (by decide) ?_
  refine aw_iload_n (i := 2) dX8_all_46 rfl rfl ?_
  refine aw_iload_n (i := 1) dX8_all_47 rfl rfl ?_
  refine aw_cVi ck_X8_319 (m_X8_keeps0 (m := 30) (f := 90) sh_110 (by decide) (by decide) (by decide) (by decide)) sh_105 rfl (by decide) (by decide) rfl rfl (Nat.le_of_ble_eq_true rfl) dX8_all_48 ?_
  refine aw_mem (M' := rI M 140 (kpR M 4)) (kp_step M 3 (by decide)) ?_
  refine aw_istore_n (i := 2) dX8_all_51 rfl (by decide) ?_
  refine aw_aload_n (i := 0) dX8_all_52 rfl rfl ?_
  refine aw_aload_n (i := 0) dX8_all_53 rfl rfl ?_
  refine aw_getR gf_X8_35 sh_105 rfl dX8_all_54 ?_
  refine aw_bipush (v := 30) dX8_all_57 (by decide) ?_
  refine aw_iload_n (i := 2) dX8_all_59 rfl rfl ?_
  refine aw_iload_n (i := 1) dX8_all_60 rfl rfl ?_
  refine aw_cVi ck_X8_319 (m_X8_keeps0 (m := 30) (f := 120) sh_111 (by decide) (by decide) (by decide) (by decide)) sh_105 rfl (by decide) (by decide) rfl rfl (Nat.le_of_ble_eq_true rfl) dX8_all_61 ?_
  refine aw_mem (M' := rI M 140 (kpR M 5)) (kp_step M 4 (by decide)) ?_
  refine aw_istore_n (i := 2) dX8_all_64 rfl (by decide) ?_
  refine aw_aload_n (i := 0) dX8_all_65 rfl rfl ?_
  refine aw_aload_n (i := 0) dX8_all_66 rfl rfl ?_
  refine aw_getR gf_X8_38 sh_105 rfl dX8_all_67 ?_
  refine aw_bipush (v := 30) dX8_all_70 (by decide) ?_
  refine aw_iload_n (i := 2) dX8_all_72 rfl rfl ?_
  refine aw_iload_n (i := 1) dX8_all_73 rfl rfl ?_
  refine aw_cVi ck_X8_319 (m_X8_keeps0 (m := 30) (f := 150) sh_112 (by decide) (by decide) (by decide) (by decide)) sh_105 rfl (by decide) (by decide) rfl rfl (Nat.le_of_ble_eq_true rfl) dX8_all_74 ?_
  refine aw_mem (M' := rI M 140 (kpR M 6)) (kp_step M 5 (by decide)) ?_
  refine aw_istore_n (i := 2) dX8_all_77 rfl (by decide) ?_
  refine aw_aload_n (i := 0) dX8_all_78 rfl rfl ?_
  refine aw_aload_n (i := 0) dX8_all_79 rfl rfl ?_
  refine aw_getR gf_X8_41 sh_105 rfl dX8_all_80 ?_
  refine aw_bipush (v := 30) dX8_all_83 (by decide) ?_
  refine aw_iload_n (i := 2) dX8_all_85 rfl rfl ?_
  refine aw_iload_n (i := 1) dX8_all_86 rfl rfl ?_
  refine aw_cVi ck_X8_319 (m_X8_keeps0 (m := 30) (f := 180) sh_113 (by decide) (by decide) (by decide) (by decide)) sh_105 rfl (by decide) (by decide) rfl rfl (Nat.le_of_ble_eq_true rfl) dX8_all_87 ?_
  refine aw_mem (M' := rI M 140 (kpR M 7)) (kp_step M 6 (by decide)) ?_
  refine aw_istore_n (i := 2) dX8_all_90 rfl (by decide) ?_
  refine aw_aload_n (i := 0) dX8_all_91 rfl rfl ?_
  refine aw_aload_n (i := 0) dX8_all_92 rfl rfl ?_
  refine aw_getR gf_X8_44 sh_105 rfl dX8_all_93 ?_
  refine aw_bipush (v := 30) dX8_all_96 (by decide) ?_
  refine aw_iload_n (i := 2) dX8_all_98 rfl rfl ?_
  refine aw_iload_n (i := 1) dX8_all_99 rfl rfl ?_
  refine aw_cVi ck_X8_319 (m_X8_keeps0 (m := 30) (f := 210) sh_114 (by decide) (by decide) (by decide) (by decide)) sh_105 rfl (by decide) (by decide) rfl rfl (Nat.le_of_ble_eq_true rfl) dX8_all_100 ?_
  refine aw_mem (M' := rI M 140 (kpR M 8)) (kp_step M 7 (by decide)) ?_
  refine aw_istore_n (i := 2) dX8_all_103 rfl (by decide) ?_
  refine aw_aload_n (i := 0) dX8_all_104 rfl rfl ?_
  refine aw_aload_n (i := 0) dX8_all_105 rfl rfl ?_
  refine aw_getR gf_X8_47 sh_105 rfl dX8_all_106 ?_
  refine aw_bipush (v := 30) dX8_all_109 (by decide) ?_
  refine aw_iload_n (i := 2) dX8_all_111 rfl rfl ?_
  refine aw_iload_n (i := 1) dX8_all_112 rfl rfl ?_
  refine aw_cVi ck_X8_319 (m_X8_keeps0 (m := 30) (f := 240) sh_115 (by decide) (by decide) (by decide) (by decide)) sh_105 rfl (by decide) (by decide) rfl rfl (Nat.le_of_ble_eq_true rfl) dX8_all_113 ?_
  refine aw_mem (M' := rI M 140 (kpR M 9)) (kp_step M 8 (by decide)) ?_
  refine aw_istore_n (i := 2) dX8_all_116 rfl (by decide) ?_
  refine aw_aload_n (i := 0) dX8_all_117 rfl rfl ?_
  refine aw_aload_n (i := 0) dX8_all_118 rfl rfl ?_
  refine aw_getR gf_X8_50 sh_105 rfl dX8_all_119 ?_
  refine aw_bipush (v := 30) dX8_all_122 (by decide) ?_
  refine aw_iload_n (i := 2) dX8_all_124 rfl rfl ?_
  refine aw_iload_n (i := 1) dX8_all_125 rfl rfl ?_
  refine aw_cVi ck_X8_319 (m_X8_keeps0 (m := 30) (f := 270) sh_116 (by decide) (by decide) (by decide) (by decide)) sh_105 rfl (by decide) (by decide) rfl rfl (Nat.le_of_ble_eq_true rfl) dX8_all_126 ?_
  refine aw_mem (M' := rI M 140 (kpR M 10)) (kp_step M 9 (by decide)) ?_
  refine aw_istore_n (i := 2) dX8_all_129 rfl (by decide) ?_
  refine aw_aload_n (i := 0) dX8_all_130 rfl rfl ?_
  refine aw_aload_n (i := 0) dX8_all_131 rfl rfl ?_
  refine aw_getR gf_X8_53 sh_105 rfl dX8_all_132 ?_
  refine aw_bipush (v := 8) dX8_all_135 (by decide) ?_
  refine aw_iload_n (i := 2) dX8_all_137 rfl rfl ?_
  refine aw_iload_n (i := 1) dX8_all_138 rfl rfl ?_
  refine aw_cVi ck_X8_319 (m_X8_keeps0 (m := 8) (f := 300) sh_117 (by decide) (by decide) (by decide) (by decide)) sh_105 rfl (by decide) (by decide) rfl rfl (Nat.le_of_ble_eq_true rfl) dX8_all_139 ?_
  refine aw_mem (M' := rI M 140 (kpR M 11)) (kp_step M 10 (by decide)) ?_
  refine aw_istore_n (i := 2) dX8_all_142 rfl (by decide) ?_
  refine aw_aload_n (i := 0) dX8_all_143 rfl rfl ?_
  refine aw_aload_n (i := 0) dX8_all_144 rfl rfl ?_
  refine aw_getR gf_X8_59 sh_105 rfl dX8_all_145 ?_
  refine aw_bipush (v := 42) dX8_all_148 (by decide) ?_
  refine aw_iload_n (i := 2) dX8_all_150 rfl rfl ?_
  refine aw_iload_n (i := 1) dX8_all_151 rfl rfl ?_
  refine aw_cVi ck_X8_319 (m_X8_keeps0 (m := 42) (f := 308) sh_119 (by decide) (by decide) (by decide) (by decide)) sh_105 rfl (by decide) (by decide) rfl rfl (Nat.le_of_ble_eq_true rfl) dX8_all_152 ?_
  refine aw_mem (M' := rI M 140 (kpR M 12)) (kp_step M 11 (by decide)) ?_
  refine aw_pop dX8_all_155 rfl ?_
  exact aw_vret rfl dX8_all_156 ⟨rfl, rfl⟩
theorem m_X8_all1 {l : Launch} {M : Mm} : AMet l 2 yX8_all cX8_all 3 none [.ref 105, .int 1] M (QE none (bkM M 12)) := by
  refine AMet.of (by decide) (by simp [aargs, Value.category]) ?_
  show AW l 2 yX8_all cX8_all 3 none 0 [some (.ref 105), some (.int 1), none] [] M _
  refine aw_mem (M' := bkM M 0) rfl ?_
  refine aw_aload_n (i := 0) dX8_all_0 rfl rfl ?_
  refine aw_aload_n (i := 0) dX8_all_1 rfl rfl ?_
  refine aw_getR gf_X8_23 sh_105 rfl dX8_all_2 ?_
  refine aw_bipush (v := 30) dX8_all_5 (by decide) ?_
  refine aw_iconst (v := 0) dX8_all_7 (by decide) ?_
  refine aw_iload_n (i := 1) dX8_all_8 rfl rfl ?_
  refine aw_cVi ck_X8_319 (m_X8_keeps1 (m := 30) (f := 0) sh_107 (by decide) (by decide) (by decide) (by decide)) sh_105 rfl (by decide) (by decide) rfl rfl (Nat.le_of_ble_eq_true rfl) dX8_all_9 ?_
  refine aw_mem (M' := bkM M 1) rfl ?_
  refine aw_istore_n (i := 2) dX8_all_12 rfl (by decide) ?_
  refine aw_aload_n (i := 0) dX8_all_13 rfl rfl ?_
  refine aw_aload_n (i := 0) dX8_all_14 rfl rfl ?_
  refine aw_getR gf_X8_26 sh_105 rfl dX8_all_15 ?_
  refine aw_bipush (v := 30) dX8_all_18 (by decide) ?_
  refine aw_iload_n (i := 2) dX8_all_20 rfl rfl ?_
  refine aw_iload_n (i := 1) dX8_all_21 rfl rfl ?_
  refine aw_cVi ck_X8_319 (m_X8_keeps1 (m := 30) (f := 30) sh_108 (by decide) (by decide) (by decide) (by decide)) sh_105 rfl (by decide) (by decide) rfl rfl (Nat.le_of_ble_eq_true rfl) dX8_all_22 ?_
  refine aw_mem (M' := bkM M 2) rfl ?_
  refine aw_istore_n (i := 2) dX8_all_25 rfl (by decide) ?_
  refine aw_aload_n (i := 0) dX8_all_26 rfl rfl ?_
  refine aw_aload_n (i := 0) dX8_all_27 rfl rfl ?_
  refine aw_getR gf_X8_29 sh_105 rfl dX8_all_28 ?_
  refine aw_bipush (v := 30) dX8_all_31 (by decide) ?_
  refine aw_iload_n (i := 2) dX8_all_33 rfl rfl ?_
  refine aw_iload_n (i := 1) dX8_all_34 rfl rfl ?_
  refine aw_cVi ck_X8_319 (m_X8_keeps1 (m := 30) (f := 60) sh_109 (by decide) (by decide) (by decide) (by decide)) sh_105 rfl (by decide) (by decide) rfl rfl (Nat.le_of_ble_eq_true rfl) dX8_all_35 ?_
  refine aw_mem (M' := bkM M 3) rfl ?_
  refine aw_istore_n (i := 2) dX8_all_38 rfl (by decide) ?_
  refine aw_aload_n (i := 0) dX8_all_39 rfl rfl ?_
  refine aw_aload_n (i := 0) dX8_all_40 rfl rfl ?_
  refine aw_getR gf_X8_32 sh_105 rfl dX8_all_41 ?_
  refine aw_bipush (v := 30) dX8_all_44 (by decide) ?_
  refine aw_iload_n (i := 2) dX8_all_46 rfl rfl ?_
  refine aw_iload_n (i := 1) dX8_all_47 rfl rfl ?_
  refine aw_cVi ck_X8_319 (m_X8_keeps1 (m := 30) (f := 90) sh_110 (by decide) (by decide) (by decide) (by decide)) sh_105 rfl (by decide) (by decide) rfl rfl (Nat.le_of_ble_eq_true rfl) dX8_all_48 ?_
  refine aw_mem (M' := bkM M 4) rfl ?_
  refine aw_istore_n (i := 2) dX8_all_51 rfl (by decide) ?_
  refine aw_aload_n (i := 0) dX8_all_52 rfl rfl ?_
  refine aw_aload_n (i := 0) dX8_all_53 rfl rfl ?_
  refine aw_getR gf_X8_35 sh_105 rfl dX8_all_54 ?_
  refine aw_bipush (v := 30) dX8_all_57 (by decide) ?_
  refine aw_iload_n (i := 2) dX8_all_59 rfl rfl ?_
  refine aw_iload_n (i := 1) dX8_all_60 rfl rfl ?_
  refine aw_cVi ck_X8_319 (m_X8_keeps1 (m := 30) (f := 120) sh_111 (by decide) (by decide) (by decide) (by decide)) sh_105 rfl (by decide) (by decide) rfl rfl (Nat.le_of_ble_eq_true rfl) dX8_all_61 ?_
  refine aw_mem (M' := bkM M 5) rfl ?_
  refine aw_istore_n (i := 2) dX8_all_64 rfl (by decide) ?_
  refine aw_aload_n (i := 0) dX8_all_65 rfl rfl ?_
  refine aw_aload_n (i := 0) dX8_all_66 rfl rfl ?_
  refine aw_getR gf_X8_38 sh_105 rfl dX8_all_67 ?_
  refine aw_bipush (v := 30) dX8_all_70 (by decide) ?_
  refine aw_iload_n (i := 2) dX8_all_72 rfl rfl ?_
  refine aw_iload_n (i := 1) dX8_all_73 rfl rfl ?_
  refine aw_cVi ck_X8_319 (m_X8_keeps1 (m := 30) (f := 150) sh_112 (by decide) (by decide) (by decide) (by decide)) sh_105 rfl (by decide) (by decide) rfl rfl (Nat.le_of_ble_eq_true rfl) dX8_all_74 ?_
  refine aw_mem (M' := bkM M 6) rfl ?_
  refine aw_istore_n (i := 2) dX8_all_77 rfl (by decide) ?_
  refine aw_aload_n (i := 0) dX8_all_78 rfl rfl ?_
  refine aw_aload_n (i := 0) dX8_all_79 rfl rfl ?_
  refine aw_getR gf_X8_41 sh_105 rfl dX8_all_80 ?_
  refine aw_bipush (v := 30) dX8_all_83 (by decide) ?_
  refine aw_iload_n (i := 2) dX8_all_85 rfl rfl ?_
  refine aw_iload_n (i := 1) dX8_all_86 rfl rfl ?_
  refine aw_cVi ck_X8_319 (m_X8_keeps1 (m := 30) (f := 180) sh_113 (by decide) (by decide) (by decide) (by decide)) sh_105 rfl (by decide) (by decide) rfl rfl (Nat.le_of_ble_eq_true rfl) dX8_all_87 ?_
  refine aw_mem (M' := bkM M 7) rfl ?_
  refine aw_istore_n (i := 2) dX8_all_90 rfl (by decide) ?_
  refine aw_aload_n (i := 0) dX8_all_91 rfl rfl ?_
  refine aw_aload_n (i := 0) dX8_all_92 rfl rfl ?_
  refine aw_getR gf_X8_44 sh_105 rfl dX8_all_93 ?_
  refine aw_bipush (v := 30) dX8_all_96 (by decide) ?_
  refine aw_iload_n (i := 2) dX8_all_98 rfl rfl ?_
  refine aw_iload_n (i := 1) dX8_all_99 rfl rfl ?_
  refine aw_cVi ck_X8_319 (m_X8_keeps1 (m := 30) (f := 210) sh_114 (by decide) (by decide) (by decide) (by decide)) sh_105 rfl (by decide) (by decide) rfl rfl (Nat.le_of_ble_eq_true rfl) dX8_all_100 ?_
  refine aw_mem (M' := bkM M 8) rfl ?_
  refine aw_istore_n (i := 2) dX8_all_103 rfl (by decide) ?_
  refine aw_aload_n (i := 0) dX8_all_104 rfl rfl ?_
  refine aw_aload_n (i := 0) dX8_all_105 rfl rfl ?_
  refine aw_getR gf_X8_47 sh_105 rfl dX8_all_106 ?_
  refine aw_bipush (v := 30) dX8_all_109 (by decide) ?_
  refine aw_iload_n (i := 2) dX8_all_111 rfl rfl ?_
  refine aw_iload_n (i := 1) dX8_all_112 rfl rfl ?_
  refine aw_cVi ck_X8_319 (m_X8_keeps1 (m := 30) (f := 240) sh_115 (by decide) (by decide) (by decide) (by decide)) sh_105 rfl (by decide) (by decide) rfl rfl (Nat.le_of_ble_eq_true rfl) dX8_all_113 ?_
  refine aw_mem (M' := bkM M 9) rfl ?_
  refine aw_istore_n (i := 2) dX8_all_116 rfl (by decide) ?_
  refine aw_aload_n (i := 0) dX8_all_117 rfl rfl ?_
  refine aw_aload_n (i := 0) dX8_all_118 rfl rfl ?_
  refine aw_getR gf_X8_50 sh_105 rfl dX8_all_119 ?_
  refine aw_bipush (v := 30) dX8_all_122 (by decide) ?_
  refine aw_iload_n (i := 2) dX8_all_124 rfl rfl ?_
  refine aw_iload_n (i := 1) dX8_all_125 rfl rfl ?_
  refine aw_cVi ck_X8_319 (m_X8_keeps1 (m := 30) (f := 270) sh_116 (by decide) (by decide) (by decide) (by decide)) sh_105 rfl (by decide) (by decide) rfl rfl (Nat.le_of_ble_eq_true rfl) dX8_all_126 ?_
  refine aw_mem (M' := bkM M 10) rfl ?_
  refine aw_istore_n (i := 2) dX8_all_129 rfl (by decide) ?_
  refine aw_aload_n (i := 0) dX8_all_130 rfl rfl ?_
  refine aw_aload_n (i := 0) dX8_all_131 rfl rfl ?_
  refine aw_getR gf_X8_53 sh_105 rfl dX8_all_132 ?_
  refine aw_bipush (v := 8) dX8_all_135 (by decide) ?_
  refine aw_iload_n (i := 2) dX8_all_137 rfl rfl ?_
  refine aw_iload_n (i := 1) dX8_all_138 rfl rfl ?_
  refine aw_cVi ck_X8_319 (m_X8_keeps1 (m := 8) (f := 300) sh_117 (by decide) (by decide) (by decide) (by decide)) sh_105 rfl (by decide) (by decide) rfl rfl (Nat.le_of_ble_eq_true rfl) dX8_all_139 ?_
  refine aw_mem (M' := bkM M 11) rfl ?_
  refine aw_istore_n (i := 2) dX8_all_142 rfl (by decide) ?_
  refine aw_aload_n (i := 0) dX8_all_143 rfl rfl ?_
  refine aw_aload_n (i := 0) dX8_all_144 rfl rfl ?_
  refine aw_getR gf_X8_59 sh_105 rfl dX8_all_145 ?_
  refine aw_bipush (v := 42) dX8_all_148 (by decide) ?_
  refine aw_iload_n (i := 2) dX8_all_150 rfl rfl ?_
  refine aw_iload_n (i := 1) dX8_all_151 rfl rfl ?_
  refine aw_cVi ck_X8_319 (m_X8_keeps1 (m := 42) (f := 308) sh_119 (by decide) (by decide) (by decide) (by decide)) sh_105 rfl (by decide) (by decide) rfl rfl (Nat.le_of_ble_eq_true rfl) dX8_all_152 ?_
  refine aw_mem (M' := bkM M 12) rfl ?_
  refine aw_pop dX8_all_155 rfl ?_
  exact aw_vret rfl dX8_all_156 ⟨rfl, rfl⟩
