theorem has8 {M : Mm} {n : Nat} {x : Int32} (hn : M.1 105 0 = nI n) (hn30 : n ≤ 30) (h : ¬ x < 0 ∧ ¬ M.1 105 0 ≤ x) : ∃ p, p < n ∧ x = nI p := by
  rw [hn] at h
  rcases pk_ix x (n := n) (by omega) with q | q | ⟨j, q1, q2⟩
  · exact absurd q h.1
  · exact absurd q h.2
  · exact ⟨j, q1, q2⟩
noncomputable def czF (k i : Nat) (f : Nat → Int64) : Nat → Int64 := fun j => pIf (100 * k ≤ j ∧ j < 100 * k + i) 0 (f j)
theorem czF_0 (k : Nat) (f : Nat → Int64) : czF k 0 f = f := by
  funext j
  exact pIf_f (by omega)
theorem czF_s (k i : Nat) (f : Nat → Int64) : vp_updL (czF k i f) (100 * k + i) 0 = czF k (i + 1) f := by
  funext j
  show (if j = 100 * k + i then 0 else czF k i f j) = _
  unfold czF
  by_cases e : j = 100 * k + i
  · rw [if_pos e, pIf_t (by omega)]
  · rw [if_neg e]
    by_cases h : 100 * k ≤ j ∧ j < 100 * k + i
    · rw [pIf_t h, pIf_t (by omega)]
    · rw [pIf_f h, pIf_f (by omega)]
noncomputable def rowM8 (k : Nat) (o n : Int32) (M : Mm) : Mm := rL (mI (mI (mI M 120 k 1) 121 k o) 122 k n) 124 (czF k 100 (M.2 124))
theorem nI_pr1 (n : Nat) : nI (n + 1) - 1 = nI n := by rw [nI_succ]; grind
def ab8 (x : Int32) : Int32 := if x < 0 then -x else x
def far8 (a b : Int32) : Int32 := ab8 (a / 8 - b / 8) + ab8 ((a - a / 8 * 8) - (b - b / 8 * 8))
def S8_row (M : Mm) (s o n : Int32) (v : Int32) (M' : Mm) : Prop := pIf (¬ s < 0 ∧ ¬ 8 ≤ s) (pIf (n < 0) (v = -4 ∧ M' = nox M 4) (pIf (o < 0) (v = -6 ∧ M' = nox M 6) (pIf (3 < o) (v = -6 ∧ M' = nox M 6) (pIf (100 < n) (v = -7 ∧ M' = nox M 7) (v = 1 ∧ M' = rowM8 s.toNatClampNeg o n M))))) (v = -1 ∧ M' = nox M 1)
theorem m_X8_row {l : Launch} {M : Mm} {s o n : Int32} : AMet l 3 yX8_row cX8_row 5 (some FieldType.int) [.ref 105, .int s, .int o, .int n] M (QI (S8_row M s o n)) := by
  refine AMet.of (by decide) (by simp [aargs, Value.category]) ?_
  show AW l 3 yX8_row cX8_row 5 (some FieldType.int) 0 [some (.ref 105), some (.int s), some (.int o), some (.int n), none] [] M _
  refine aw_aload_n (i := 0) dX8_row_0 rfl rfl ?_
  refine aw_iload_n (i := 1) dX8_row_1 rfl rfl ?_
  refine aw_cVi ck_X8_138 m_X8_isShelf sh_105 rfl (by decide) (by decide) rfl rfl (Nat.le_of_ble_eq_true rfl) dX8_row_2 ?_
  refine aw_ifne_b (tgt := 14) dX8_row_5 (by decide) (fun h5 => ?_) (fun h5 => ?_)
  ·
    obtain ⟨k, hk, rfl⟩ := shf_k h5
    refine aw_iload_n (i := 3) dX8_row_14 rfl rfl ?_
    refine aw_if_ge (tgt := 25) dX8_row_15 (by decide) (fun h15 => ?_) (fun h15 => ?_)
    ·
      refine aw_iload_n (i := 2) dX8_row_25 rfl rfl ?_
      refine aw_if_lt (tgt := 34) dX8_row_26 (by decide) (fun h26 => ?_) (fun h26 => ?_)
      ·
        refine aw_aload_n (i := 0) dX8_row_34 rfl rfl ?_
        refine aw_bipush (v := (-6)) dX8_row_35 (by decide) ?_
        refine aw_cVi ck_X8_142 (m_X8_no (k := 6) (by decide) (by decide)) sh_105 rfl (by decide) (by decide) rfl rfl (Nat.le_of_ble_eq_true rfl) dX8_row_37 ?_
        exact aw_iret rfl dX8_row_40 (by first | contradiction | exact ⟨_, rfl, by unfold S8_row; (first | rw [pIf_t h5] | rw [pIf_f h5] | rw [pIf_f (Int32.not_lt.mpr h5)] | rw [pIf_f (Int32.not_le.mpr h5)] | rw [pIf_t (Int32.not_le.mp h5)] | rw [pIf_t (Int32.not_lt.mp h5)] | rw [pIf_f (Nat.not_lt.mpr h5)] | rw [pIf_f (Nat.not_le.mpr h5)] | rw [pIf_t (Nat.not_le.mp h5)] | rw [pIf_t (Nat.not_lt.mp h5)] | skip); (first | rw [pIf_t h15] | rw [pIf_f h15] | rw [pIf_f (Int32.not_lt.mpr h15)] | rw [pIf_f (Int32.not_le.mpr h15)] | rw [pIf_t (Int32.not_le.mp h15)] | rw [pIf_t (Int32.not_lt.mp h15)] | rw [pIf_f (Nat.not_lt.mpr h15)] | rw [pIf_f (Nat.not_le.mpr h15)] | rw [pIf_t (Nat.not_le.mp h15)] | rw [pIf_t (Nat.not_lt.mp h15)] | skip); (first | rw [pIf_t h26] | rw [pIf_f h26] | rw [pIf_f (Int32.not_lt.mpr h26)] | rw [pIf_f (Int32.not_le.mpr h26)] | rw [pIf_t (Int32.not_le.mp h26)] | rw [pIf_t (Int32.not_lt.mp h26)] | rw [pIf_f (Nat.not_lt.mpr h26)] | rw [pIf_f (Nat.not_le.mpr h26)] | rw [pIf_t (Nat.not_le.mp h26)] | rw [pIf_t (Nat.not_lt.mp h26)] | skip); exact ⟨rfl, rfl⟩⟩)
      ·
        refine aw_iload_n (i := 2) dX8_row_29 rfl rfl ?_
        refine aw_iconst (v := 3) dX8_row_30 (by decide) ?_
        refine aw_icmp_le (tgt := 41) dX8_row_31 (by decide) (fun h31 => ?_) (fun h31 => ?_)
        ·
          refine aw_iload_n (i := 3) dX8_row_41 rfl rfl ?_
          refine aw_bipush (v := 100) dX8_row_42 (by decide) ?_
          refine aw_icmp_le (tgt := 54) dX8_row_44 (by decide) (fun h44 => ?_) (fun h44 => ?_)
          ·
            refine aw_aload_n (i := 0) dX8_row_54 rfl rfl ?_
            refine aw_getR gf_X8_62 sh_105 rfl dX8_row_55 ?_
            refine aw_iload_n (i := 1) dX8_row_58 rfl rfl ?_
            refine aw_iconst (v := 1) dX8_row_59 (by decide) ?_
            refine aw_iastN sh_120 (by omega) (by omega) dX8_row_60 ?_
            refine aw_aload_n (i := 0) dX8_row_61 rfl rfl ?_
            refine aw_getR gf_X8_65 sh_105 rfl dX8_row_62 ?_
            refine aw_iload_n (i := 1) dX8_row_65 rfl rfl ?_
            refine aw_iload_n (i := 2) dX8_row_66 rfl rfl ?_
            refine aw_iastN sh_121 (by omega) (by omega) dX8_row_67 ?_
            refine aw_aload_n (i := 0) dX8_row_68 rfl rfl ?_
            refine aw_getR gf_X8_68 sh_105 rfl dX8_row_69 ?_
            refine aw_iload_n (i := 1) dX8_row_72 rfl rfl ?_
            refine aw_iload_n (i := 3) dX8_row_73 rfl rfl ?_
            refine aw_iastN sh_122 (by omega) (by omega) dX8_row_74 ?_
            refine aw_iconst (v := 0) dX8_row_75 (by decide) ?_
            refine aw_istore (i := 4) dX8_row_76 (by decide) ?_
            have lp78 : ∀ k9 i, i + k9 = 100 → AW l 3 yX8_row cX8_row 5 (some FieldType.int) 78 [some (.ref 105), some (.int (nI k)), some (.int o), some (.int n), some (.int (nI i))] [] (rL (mI (mI (mI M 120 k 1) 121 k o) 122 k n) 124 (czF k i (M.2 124))) (QI (S8_row M (nI k) o n)) := by
              intro k9
              induction k9 using Nat.strongRecOn with
              | _ k9 ih =>
              intro i hk9
              refine aw_iload (i := 4) dX8_row_78 rfl ?_
              refine aw_bipush (v := 100) dX8_row_80 (by decide) ?_
              refine aw_top (show (100 : Int32) = nI 100 from rfl) ?_
              refine aw_icmp_geN (tgt := 104) (by omega) (by omega) dX8_row_82 (by decide) (fun h82 => ?_) (fun h82 => ?_)
              ·
                refine aw_iconst (v := 1) dX8_row_104 (by decide) ?_
                exact aw_iret rfl dX8_row_105 ⟨_, rfl, by unfold S8_row; rw [nI_clamp (show k < 2 ^ 31 from by omega)]; (first | rw [pIf_t h5] | rw [pIf_f h5] | rw [pIf_f (Int32.not_lt.mpr h5)] | rw [pIf_f (Int32.not_le.mpr h5)] | rw [pIf_t (Int32.not_le.mp h5)] | rw [pIf_t (Int32.not_lt.mp h5)] | rw [pIf_f (Nat.not_lt.mpr h5)] | rw [pIf_f (Nat.not_le.mpr h5)] | rw [pIf_t (Nat.not_le.mp h5)] | rw [pIf_t (Nat.not_lt.mp h5)] | skip); (first | rw [pIf_t h15] | rw [pIf_f h15] | rw [pIf_f (Int32.not_lt.mpr h15)] | rw [pIf_f (Int32.not_le.mpr h15)] | rw [pIf_t (Int32.not_le.mp h15)] | rw [pIf_t (Int32.not_lt.mp h15)] | rw [pIf_f (Nat.not_lt.mpr h15)] | rw [pIf_f (Nat.not_le.mpr h15)] | rw [pIf_t (Nat.not_le.mp h15)] | rw [pIf_t (Nat.not_lt.mp h15)] | skip); (first | rw [pIf_t h26] | rw [pIf_f h26] | rw [pIf_f (Int32.not_lt.mpr h26)] | rw [pIf_f (Int32.not_le.mpr h26)] | rw [pIf_t (Int32.not_le.mp h26)] | rw [pIf_t (Int32.not_lt.mp h26)] | rw [pIf_f (Nat.not_lt.mpr h26)] | rw [pIf_f (Nat.not_le.mpr h26)] | rw [pIf_t (Nat.not_le.mp h26)] | rw [pIf_t (Nat.not_lt.mp h26)] | skip); (first | rw [pIf_t h31] | rw [pIf_f h31] | rw [pIf_f (Int32.not_lt.mpr h31)] | rw [pIf_f (Int32.not_le.mpr h31)] | rw [pIf_t (Int32.not_le.mp h31)] | rw [pIf_t (Int32.not_lt.mp h31)] | rw [pIf_f (Nat.not_lt.mpr h31)] | rw [pIf_f (Nat.not_le.mpr h31)] | rw [pIf_t (Nat.not_le.mp h31)] | rw [pIf_t (Nat.not_lt.mp h31)] | skip); (first | rw [pIf_t h44] | rw [pIf_f h44] | rw [pIf_f (Int32.not_lt.mpr h44)] | rw [pIf_f (Int32.not_le.mpr h44)] | rw [pIf_t (Int32.not_le.mp h44)] | rw [pIf_t (Int32.not_lt.mp h44)] | rw [pIf_f (Nat.not_lt.mpr h44)] | rw [pIf_f (Nat.not_le.mpr h44)] | rw [pIf_t (Nat.not_le.mp h44)] | rw [pIf_t (Nat.not_lt.mp h44)] | skip); exact ⟨rfl, by rw [show i = 100 by omega]; rfl⟩⟩
              ·
                refine aw_aload_n (i := 0) dX8_row_85 rfl rfl ?_
                refine aw_getR gf_X8_74 sh_105 rfl dX8_row_86 ?_
                refine aw_bipush (v := 100) dX8_row_89 (by decide) ?_
                refine aw_iload_n (i := 1) dX8_row_91 rfl rfl ?_
                refine aw_imul dX8_row_92 ?_
                refine aw_top (nI_100 k hk) ?_
                refine aw_iload (i := 4) dX8_row_93 rfl ?_
                refine aw_iadd dX8_row_95 ?_
                refine aw_top (nI_add (100 * k) i) ?_
                refine aw_lconst (v := 0) dX8_row_96 (by decide) ?_
                refine aw_lastN sh_124 (by omega) (by omega) dX8_row_97 ?_
                refine aw_iincN (i := 4) dX8_row_98 rfl (by decide) ?_
                refine aw_goto (tgt := 78) dX8_row_101 (by decide) ?_
                refine aw_mem (M' := (rL (mI (mI (mI M 120 k 1) 121 k o) 122 k n) 124 (czF k (i + 1) (M.2 124)))) (by rw [mL_rL, rL_self, rL_rL, czF_s]) ?_
                refine aw_loc (la := [some (.ref 105), some (.int (nI k)), some (.int o), some (.int n), some (.int (nI (i + 1)))]) ⟨rfl, rfl, rfl, rfl, rfl, trivial⟩ ?_
                exact ih (k9 - 1) (by omega) (i + 1) (by omega)
            refine aw_mem (M' := (rL (mI (mI (mI M 120 k 1) 121 k o) 122 k n) 124 (czF k 0 (M.2 124)))) (by rw [czF_0]; exact (rL_id (mI (mI (mI M 120 k 1) 121 k o) 122 k n) 124).symm) ?_
            refine aw_loc (la := [some (.ref 105), some (.int (nI k)), some (.int o), some (.int n), some (.int (nI 0))]) ⟨rfl, rfl, rfl, rfl, rfl, trivial⟩ ?_
            exact lp78 100 0 (by omega)
          ·
            refine aw_aload_n (i := 0) dX8_row_47 rfl rfl ?_
            refine aw_bipush (v := (-7)) dX8_row_48 (by decide) ?_
            refine aw_cVi ck_X8_142 (m_X8_no (k := 7) (by decide) (by decide)) sh_105 rfl (by decide) (by decide) rfl rfl (Nat.le_of_ble_eq_true rfl) dX8_row_50 ?_
            exact aw_iret rfl dX8_row_53 (by first | contradiction | exact ⟨_, rfl, by unfold S8_row; (first | rw [pIf_t h5] | rw [pIf_f h5] | rw [pIf_f (Int32.not_lt.mpr h5)] | rw [pIf_f (Int32.not_le.mpr h5)] | rw [pIf_t (Int32.not_le.mp h5)] | rw [pIf_t (Int32.not_lt.mp h5)] | rw [pIf_f (Nat.not_lt.mpr h5)] | rw [pIf_f (Nat.not_le.mpr h5)] | rw [pIf_t (Nat.not_le.mp h5)] | rw [pIf_t (Nat.not_lt.mp h5)] | skip); (first | rw [pIf_t h15] | rw [pIf_f h15] | rw [pIf_f (Int32.not_lt.mpr h15)] | rw [pIf_f (Int32.not_le.mpr h15)] | rw [pIf_t (Int32.not_le.mp h15)] | rw [pIf_t (Int32.not_lt.mp h15)] | rw [pIf_f (Nat.not_lt.mpr h15)] | rw [pIf_f (Nat.not_le.mpr h15)] | rw [pIf_t (Nat.not_le.mp h15)] | rw [pIf_t (Nat.not_lt.mp h15)] | skip); (first | rw [pIf_t h26] | rw [pIf_f h26] | rw [pIf_f (Int32.not_lt.mpr h26)] | rw [pIf_f (Int32.not_le.mpr h26)] | rw [pIf_t (Int32.not_le.mp h26)] | rw [pIf_t (Int32.not_lt.mp h26)] | rw [pIf_f (Nat.not_lt.mpr h26)] | rw [pIf_f (Nat.not_le.mpr h26)] | rw [pIf_t (Nat.not_le.mp h26)] | rw [pIf_t (Nat.not_lt.mp h26)] | skip); (first | rw [pIf_t h31] | rw [pIf_f h31] | rw [pIf_f (Int32.not_lt.mpr h31)] | rw [pIf_f (Int32.not_le.mpr h31)] | rw [pIf_t (Int32.not_le.mp h31)] | rw [pIf_t (Int32.not_lt.mp h31)] | rw [pIf_f (Nat.not_lt.mpr h31)] | rw [pIf_f (Nat.not_le.mpr h31)] | rw [pIf_t (Nat.not_le.mp h31)] | rw [pIf_t (Nat.not_lt.mp h31)] | skip); (first | rw [pIf_t h44] | rw [pIf_f h44] | rw [pIf_f (Int32.not_lt.mpr h44)] | rw [pIf_f (Int32.not_le.mpr h44)] | rw [pIf_t (Int32.not_le.mp h44)] | rw [pIf_t (Int32.not_lt.mp h44)] | rw [pIf_f (Nat.not_lt.mpr h44)] | rw [pIf_f (Nat.not_le.mpr h44)] | rw [pIf_t (Nat.not_le.mp h44)] | rw [pIf_t (Nat.not_lt.mp h44)] | skip); exact ⟨rfl, rfl⟩⟩)
        ·
          refine aw_aload_n (i := 0) dX8_row_34 rfl rfl ?_
          refine aw_bipush (v := (-6)) dX8_row_35 (by decide) ?_
          refine aw_cVi ck_X8_142 (m_X8_no (k := 6) (by decide) (by decide)) sh_105 rfl (by decide) (by decide) rfl rfl (Nat.le_of_ble_eq_true rfl) dX8_row_37 ?_
          exact aw_iret rfl dX8_row_40 (by first | contradiction | exact ⟨_, rfl, by unfold S8_row; (first | rw [pIf_t h5] | rw [pIf_f h5] | rw [pIf_f (Int32.not_lt.mpr h5)] | rw [pIf_f (Int32.not_le.mpr h5)] | rw [pIf_t (Int32.not_le.mp h5)] | rw [pIf_t (Int32.not_lt.mp h5)] | rw [pIf_f (Nat.not_lt.mpr h5)] | rw [pIf_f (Nat.not_le.mpr h5)] | rw [pIf_t (Nat.not_le.mp h5)] | rw [pIf_t (Nat.not_lt.mp h5)] | skip); (first | rw [pIf_t h15] | rw [pIf_f h15] | rw [pIf_f (Int32.not_lt.mpr h15)] | rw [pIf_f (Int32.not_le.mpr h15)] | rw [pIf_t (Int32.not_le.mp h15)] | rw [pIf_t (Int32.not_lt.mp h15)] | rw [pIf_f (Nat.not_lt.mpr h15)] | rw [pIf_f (Nat.not_le.mpr h15)] | rw [pIf_t (Nat.not_le.mp h15)] | rw [pIf_t (Nat.not_lt.mp h15)] | skip); (first | rw [pIf_t h26] | rw [pIf_f h26] | rw [pIf_f (Int32.not_lt.mpr h26)] | rw [pIf_f (Int32.not_le.mpr h26)] | rw [pIf_t (Int32.not_le.mp h26)] | rw [pIf_t (Int32.not_lt.mp h26)] | rw [pIf_f (Nat.not_lt.mpr h26)] | rw [pIf_f (Nat.not_le.mpr h26)] | rw [pIf_t (Nat.not_le.mp h26)] | rw [pIf_t (Nat.not_lt.mp h26)] | skip); (first | rw [pIf_t h31] | rw [pIf_f h31] | rw [pIf_f (Int32.not_lt.mpr h31)] | rw [pIf_f (Int32.not_le.mpr h31)] | rw [pIf_t (Int32.not_le.mp h31)] | rw [pIf_t (Int32.not_lt.mp h31)] | rw [pIf_f (Nat.not_lt.mpr h31)] | rw [pIf_f (Nat.not_le.mpr h31)] | rw [pIf_t (Nat.not_le.mp h31)] | rw [pIf_t (Nat.not_lt.mp h31)] | skip); exact ⟨rfl, rfl⟩⟩)
    ·
      refine aw_aload_n (i := 0) dX8_row_18 rfl rfl ?_
      refine aw_bipush (v := (-4)) dX8_row_19 (by decide) ?_
      refine aw_cVi ck_X8_142 (m_X8_no (k := 4) (by decide) (by decide)) sh_105 rfl (by decide) (by decide) rfl rfl (Nat.le_of_ble_eq_true rfl) dX8_row_21 ?_
      exact aw_iret rfl dX8_row_24 (by first | contradiction | exact ⟨_, rfl, by unfold S8_row; (first | rw [pIf_t h5] | rw [pIf_f h5] | rw [pIf_f (Int32.not_lt.mpr h5)] | rw [pIf_f (Int32.not_le.mpr h5)] | rw [pIf_t (Int32.not_le.mp h5)] | rw [pIf_t (Int32.not_lt.mp h5)] | rw [pIf_f (Nat.not_lt.mpr h5)] | rw [pIf_f (Nat.not_le.mpr h5)] | rw [pIf_t (Nat.not_le.mp h5)] | rw [pIf_t (Nat.not_lt.mp h5)] | skip); (first | rw [pIf_t h15] | rw [pIf_f h15] | rw [pIf_f (Int32.not_lt.mpr h15)] | rw [pIf_f (Int32.not_le.mpr h15)] | rw [pIf_t (Int32.not_le.mp h15)] | rw [pIf_t (Int32.not_lt.mp h15)] | rw [pIf_f (Nat.not_lt.mpr h15)] | rw [pIf_f (Nat.not_le.mpr h15)] | rw [pIf_t (Nat.not_le.mp h15)] | rw [pIf_t (Nat.not_lt.mp h15)] | skip); exact ⟨rfl, rfl⟩⟩)
  ·
    refine aw_aload_n (i := 0) dX8_row_8 rfl rfl ?_
    refine aw_iconst (v := (-1)) dX8_row_9 (by decide) ?_
    refine aw_cVi ck_X8_142 (m_X8_no (k := 1) (by decide) (by decide)) sh_105 rfl (by decide) (by decide) rfl rfl (Nat.le_of_ble_eq_true rfl) dX8_row_10 ?_
    exact aw_iret rfl dX8_row_13 (by first | contradiction | exact ⟨_, rfl, by unfold S8_row; (first | rw [pIf_t h5] | rw [pIf_f h5] | rw [pIf_f (Int32.not_lt.mpr h5)] | rw [pIf_f (Int32.not_le.mpr h5)] | rw [pIf_t (Int32.not_le.mp h5)] | rw [pIf_t (Int32.not_lt.mp h5)] | rw [pIf_f (Nat.not_lt.mpr h5)] | rw [pIf_f (Nat.not_le.mpr h5)] | rw [pIf_t (Nat.not_le.mp h5)] | rw [pIf_t (Nat.not_lt.mp h5)] | skip); exact ⟨rfl, rfl⟩⟩)
def S8_person (M : Mm) (n : Nat) (k s l9 c a : Int32) (v : Int32) (M' : Mm) : Prop := pIf ((¬ k < 0 ∧ ¬ 6 < k) ∧ (¬ s < 0 ∧ ¬ 48 ≤ s)) (pIf ((¬ l9 < 0 ∧ ¬ 99 < l9) ∧ (¬ c < 1 ∧ ¬ 9 < c) ∧ (¬ a < 0 ∧ ¬ 99 < a) ∧ onI (M.1 108) s n = -1) (pIf (n = 30) (v = -7 ∧ M' = nox M 7) (v = nI n ∧ M' = comM n k s l9 c a M)) (v = -6 ∧ M' = nox M 6)) (v = -1 ∧ M' = nox M 1)
theorem m_X8_person {l : Launch} {M : Mm} {k s l9 c a : Int32} {n : Nat} (hn : M.1 105 0 = nI n) (hn30 : n ≤ 30) : AMet l 3 yX8_person cX8_person 6 (some FieldType.int) [.ref 105, .int k, .int s, .int l9, .int c, .int a] M (QI (S8_person M n k s l9 c a)) := by
  refine AMet.of (by decide) (by simp [aargs, Value.category]) ?_
  show AW l 3 yX8_person cX8_person 6 (some FieldType.int) 0 [some (.ref 105), some (.int k), some (.int s), some (.int l9), some (.int c), some (.int a)] [] M _
  refine aw_aload_n (i := 0) dX8_person_0 rfl rfl ?_
  refine aw_iload_n (i := 1) dX8_person_1 rfl rfl ?_
  refine aw_iload_n (i := 2) dX8_person_2 rfl rfl ?_
  refine aw_cVi ck_X8_161 m_X8_isOne sh_105 rfl (by decide) (by decide) rfl rfl (Nat.le_of_ble_eq_true rfl) dX8_person_3 ?_
  refine aw_ifne_b (tgt := 15) dX8_person_6 (by decide) (fun h6 => ?_) (fun h6 => ?_)
  ·
    refine aw_aload_n (i := 0) dX8_person_15 rfl rfl ?_
    refine aw_iload_n (i := 2) dX8_person_16 rfl rfl ?_
    refine aw_iload_n (i := 3) dX8_person_17 rfl rfl ?_
    refine aw_iload (i := 4) dX8_person_18 rfl ?_
    refine aw_iload (i := 5) dX8_person_20 rfl ?_
    refine aw_cVi ck_X8_165 (m_X8_isSo hn hn30) sh_105 rfl (by decide) (by decide) rfl rfl (Nat.le_of_ble_eq_true rfl) dX8_person_22 ?_
    refine aw_ifne_b (tgt := 35) dX8_person_25 (by decide) (fun h25 => ?_) (fun h25 => ?_)
    ·
      refine aw_aload_n (i := 0) dX8_person_35 rfl rfl ?_
      refine aw_getN (n := n) gf_X8_132 sh_105 rfl hn dX8_person_36 ?_
      refine aw_bipush (v := 30) dX8_person_39 (by decide) ?_
      refine aw_top (show (30 : Int32) = nI 30 from rfl) ?_
      refine aw_icmp_neN (tgt := 51) (by omega) (by omega) dX8_person_41 (by decide) (fun h41 => ?_) (fun h41 => ?_)
      ·
        refine aw_aload_n (i := 0) dX8_person_51 rfl rfl ?_
        refine aw_iload_n (i := 1) dX8_person_52 rfl rfl ?_
        refine aw_iload_n (i := 2) dX8_person_53 rfl rfl ?_
        refine aw_iload_n (i := 3) dX8_person_54 rfl rfl ?_
        refine aw_iload (i := 4) dX8_person_55 rfl ?_
        refine aw_iload (i := 5) dX8_person_57 rfl ?_
        refine aw_cVv ck_X8_169 (m_X8_comes hn (by omega)) sh_105 rfl (by decide) (by decide) rfl rfl (Nat.le_of_ble_eq_true rfl) dX8_person_59 ?_
        refine aw_aload_n (i := 0) dX8_person_62 rfl rfl ?_
        refine aw_getN (n := (n + 1)) gf_X8_132 sh_105 rfl (by unfold comM; rw [mI_self, upd_self]) dX8_person_63 ?_
        refine aw_iconst (v := 1) dX8_person_66 (by decide) ?_
        refine aw_isub dX8_person_67 ?_
        refine aw_top (nI_pr1 n) ?_
        exact aw_iret rfl dX8_person_68 (by first | contradiction | exact ⟨_, rfl, by unfold S8_person; (first | rw [pIf_t h6] | rw [pIf_f h6] | rw [pIf_f (Int32.not_lt.mpr h6)] | rw [pIf_f (Int32.not_le.mpr h6)] | rw [pIf_t (Int32.not_le.mp h6)] | rw [pIf_t (Int32.not_lt.mp h6)] | rw [pIf_f (Nat.not_lt.mpr h6)] | rw [pIf_f (Nat.not_le.mpr h6)] | rw [pIf_t (Nat.not_le.mp h6)] | rw [pIf_t (Nat.not_lt.mp h6)] | skip); (first | rw [pIf_t h25] | rw [pIf_f h25] | rw [pIf_f (Int32.not_lt.mpr h25)] | rw [pIf_f (Int32.not_le.mpr h25)] | rw [pIf_t (Int32.not_le.mp h25)] | rw [pIf_t (Int32.not_lt.mp h25)] | rw [pIf_f (Nat.not_lt.mpr h25)] | rw [pIf_f (Nat.not_le.mpr h25)] | rw [pIf_t (Nat.not_le.mp h25)] | rw [pIf_t (Nat.not_lt.mp h25)] | skip); (first | rw [pIf_t h41] | rw [pIf_f h41] | rw [pIf_f (Int32.not_lt.mpr h41)] | rw [pIf_f (Int32.not_le.mpr h41)] | rw [pIf_t (Int32.not_le.mp h41)] | rw [pIf_t (Int32.not_lt.mp h41)] | rw [pIf_f (Nat.not_lt.mpr h41)] | rw [pIf_f (Nat.not_le.mpr h41)] | rw [pIf_t (Nat.not_le.mp h41)] | rw [pIf_t (Nat.not_lt.mp h41)] | skip); exact ⟨rfl, rfl⟩⟩)
      ·
        refine aw_aload_n (i := 0) dX8_person_44 rfl rfl ?_
        refine aw_bipush (v := (-7)) dX8_person_45 (by decide) ?_
        refine aw_cVi ck_X8_142 (m_X8_no (k := 7) (by decide) (by decide)) sh_105 rfl (by decide) (by decide) rfl rfl (Nat.le_of_ble_eq_true rfl) dX8_person_47 ?_
        exact aw_iret rfl dX8_person_50 (by first | contradiction | exact ⟨_, rfl, by unfold S8_person; (first | rw [pIf_t h6] | rw [pIf_f h6] | rw [pIf_f (Int32.not_lt.mpr h6)] | rw [pIf_f (Int32.not_le.mpr h6)] | rw [pIf_t (Int32.not_le.mp h6)] | rw [pIf_t (Int32.not_lt.mp h6)] | rw [pIf_f (Nat.not_lt.mpr h6)] | rw [pIf_f (Nat.not_le.mpr h6)] | rw [pIf_t (Nat.not_le.mp h6)] | rw [pIf_t (Nat.not_lt.mp h6)] | skip); (first | rw [pIf_t h25] | rw [pIf_f h25] | rw [pIf_f (Int32.not_lt.mpr h25)] | rw [pIf_f (Int32.not_le.mpr h25)] | rw [pIf_t (Int32.not_le.mp h25)] | rw [pIf_t (Int32.not_lt.mp h25)] | rw [pIf_f (Nat.not_lt.mpr h25)] | rw [pIf_f (Nat.not_le.mpr h25)] | rw [pIf_t (Nat.not_le.mp h25)] | rw [pIf_t (Nat.not_lt.mp h25)] | skip); (first | rw [pIf_t h41] | rw [pIf_f h41] | rw [pIf_f (Int32.not_lt.mpr h41)] | rw [pIf_f (Int32.not_le.mpr h41)] | rw [pIf_t (Int32.not_le.mp h41)] | rw [pIf_t (Int32.not_lt.mp h41)] | rw [pIf_f (Nat.not_lt.mpr h41)] | rw [pIf_f (Nat.not_le.mpr h41)] | rw [pIf_t (Nat.not_le.mp h41)] | rw [pIf_t (Nat.not_lt.mp h41)] | skip); exact ⟨rfl, rfl⟩⟩)
    ·
      refine aw_aload_n (i := 0) dX8_person_28 rfl rfl ?_
      refine aw_bipush (v := (-6)) dX8_person_29 (by decide) ?_
      refine aw_cVi ck_X8_142 (m_X8_no (k := 6) (by decide) (by decide)) sh_105 rfl (by decide) (by decide) rfl rfl (Nat.le_of_ble_eq_true rfl) dX8_person_31 ?_
      exact aw_iret rfl dX8_person_34 (by first | contradiction | exact ⟨_, rfl, by unfold S8_person; (first | rw [pIf_t h6] | rw [pIf_f h6] | rw [pIf_f (Int32.not_lt.mpr h6)] | rw [pIf_f (Int32.not_le.mpr h6)] | rw [pIf_t (Int32.not_le.mp h6)] | rw [pIf_t (Int32.not_lt.mp h6)] | rw [pIf_f (Nat.not_lt.mpr h6)] | rw [pIf_f (Nat.not_le.mpr h6)] | rw [pIf_t (Nat.not_le.mp h6)] | rw [pIf_t (Nat.not_lt.mp h6)] | skip); (first | rw [pIf_t h25] | rw [pIf_f h25] | rw [pIf_f (Int32.not_lt.mpr h25)] | rw [pIf_f (Int32.not_le.mpr h25)] | rw [pIf_t (Int32.not_le.mp h25)] | rw [pIf_t (Int32.not_lt.mp h25)] | rw [pIf_f (Nat.not_lt.mpr h25)] | rw [pIf_f (Nat.not_le.mpr h25)] | rw [pIf_t (Nat.not_le.mp h25)] | rw [pIf_t (Nat.not_lt.mp h25)] | skip); exact ⟨rfl, rfl⟩⟩)
  ·
    refine aw_aload_n (i := 0) dX8_person_9 rfl rfl ?_
    refine aw_iconst (v := (-1)) dX8_person_10 (by decide) ?_
    refine aw_cVi ck_X8_142 (m_X8_no (k := 1) (by decide) (by decide)) sh_105 rfl (by decide) (by decide) rfl rfl (Nat.le_of_ble_eq_true rfl) dX8_person_11 ?_
    exact aw_iret rfl dX8_person_14 (by first | contradiction | exact ⟨_, rfl, by unfold S8_person; (first | rw [pIf_t h6] | rw [pIf_f h6] | rw [pIf_f (Int32.not_lt.mpr h6)] | rw [pIf_f (Int32.not_le.mpr h6)] | rw [pIf_t (Int32.not_le.mp h6)] | rw [pIf_t (Int32.not_lt.mp h6)] | rw [pIf_f (Nat.not_lt.mpr h6)] | rw [pIf_f (Nat.not_le.mpr h6)] | rw [pIf_t (Nat.not_le.mp h6)] | rw [pIf_t (Nat.not_lt.mp h6)] | skip); exact ⟨rfl, rfl⟩⟩)
def S8_move (M : Mm) (n : Nat) (x s : Int32) (v : Int32) (M' : Mm) : Prop := pIf (¬ x < 0 ∧ ¬ M.1 105 0 ≤ x) (pIf (¬ s < 0 ∧ ¬ 48 ≤ s) (pIf (onI (M.1 108) s n = -1) (v = M.1 108 x.toNatClampNeg ∧ M' = mI M 108 x.toNatClampNeg s) (v = -6 ∧ M' = nox M 6)) (v = -1 ∧ M' = nox M 1)) (v = -1 ∧ M' = nox M 1)
theorem m_X8_move {l : Launch} {M : Mm} {x s : Int32} {n : Nat} (hn : M.1 105 0 = nI n) (hn30 : n ≤ 30) : AMet l 3 yX8_move cX8_move 4 (some FieldType.int) [.ref 105, .int x, .int s] M (QI (S8_move M n x s)) := by
  refine AMet.of (by decide) (by simp [aargs, Value.category]) ?_
  show AW l 3 yX8_move cX8_move 4 (some FieldType.int) 0 [some (.ref 105), some (.int x), some (.int s), none] [] M _
  refine aw_aload_n (i := 0) dX8_move_0 rfl rfl ?_
  refine aw_iload_n (i := 1) dX8_move_1 rfl rfl ?_
  refine aw_cVi ck_X8_146 m_X8_isPerson sh_105 rfl (by decide) (by decide) rfl rfl (Nat.le_of_ble_eq_true rfl) dX8_move_2 ?_
  refine aw_ifeq_b (tgt := 16) dX8_move_5 (by decide) (fun h5 => ?_) (fun h5 => ?_)
  ·
    refine aw_aload_n (i := 0) dX8_move_16 rfl rfl ?_
    refine aw_iconst (v := (-1)) dX8_move_17 (by decide) ?_
    refine aw_cVi ck_X8_142 (m_X8_no (k := 1) (by decide) (by decide)) sh_105 rfl (by decide) (by decide) rfl rfl (Nat.le_of_ble_eq_true rfl) dX8_move_18 ?_
    exact aw_iret rfl dX8_move_21 (by first | contradiction | exact ⟨_, rfl, by unfold S8_move; (try rw [nI_clamp (show p < 2 ^ 31 from by omega)]); (first | rw [pIf_t h5] | rw [pIf_f h5] | rw [pIf_f (Int32.not_lt.mpr h5)] | rw [pIf_f (Int32.not_le.mpr h5)] | rw [pIf_t (Int32.not_le.mp h5)] | rw [pIf_t (Int32.not_lt.mp h5)] | rw [pIf_f (Nat.not_lt.mpr h5)] | rw [pIf_f (Nat.not_le.mpr h5)] | rw [pIf_t (Nat.not_le.mp h5)] | rw [pIf_t (Nat.not_lt.mp h5)] | skip); (try rw [nI_clamp (show p < 2 ^ 31 from by omega)]); exact ⟨rfl, rfl⟩⟩)
  ·
    obtain ⟨p, hp, rfl⟩ := has8 hn hn30 h5
    refine aw_aload_n (i := 0) dX8_move_8 rfl rfl ?_
    refine aw_iload_n (i := 2) dX8_move_9 rfl rfl ?_
    refine aw_cVi ck_X8_155 m_X8_isSeat sh_105 rfl (by decide) (by decide) rfl rfl (Nat.le_of_ble_eq_true rfl) dX8_move_10 ?_
    refine aw_ifne_b (tgt := 22) dX8_move_13 (by decide) (fun h13 => ?_) (fun h13 => ?_)
    ·
      refine aw_aload_n (i := 0) dX8_move_22 rfl rfl ?_
      refine aw_iload_n (i := 2) dX8_move_23 rfl rfl ?_
      refine aw_cVi ck_X8_158 (m_X8_onSeat hn hn30) sh_105 rfl (by decide) (by decide) rfl rfl (Nat.le_of_ble_eq_true rfl) dX8_move_24 ?_
      refine aw_iconst (v := (-1)) dX8_move_27 (by decide) ?_
      refine aw_icmp_eq (tgt := 38) dX8_move_28 (by decide) (fun h28 => ?_) (fun h28 => ?_)
      ·
        refine aw_aload_n (i := 0) dX8_move_38 rfl rfl ?_
        refine aw_getR gf_X8_26 sh_105 rfl dX8_move_39 ?_
        refine aw_iload_n (i := 1) dX8_move_42 rfl rfl ?_
        refine aw_ialdN sh_108 (by omega) (by omega) dX8_move_43 ?_
        refine aw_istore_n (i := 3) dX8_move_44 rfl (by decide) ?_
        refine aw_aload_n (i := 0) dX8_move_45 rfl rfl ?_
        refine aw_getR gf_X8_26 sh_105 rfl dX8_move_46 ?_
        refine aw_iload_n (i := 1) dX8_move_49 rfl rfl ?_
        refine aw_iload_n (i := 2) dX8_move_50 rfl rfl ?_
        refine aw_iastN sh_108 (by omega) (by omega) dX8_move_51 ?_
        refine aw_iload_n (i := 3) dX8_move_52 rfl rfl ?_
        exact aw_iret rfl dX8_move_53 (by first | contradiction | exact ⟨_, rfl, by unfold S8_move; (try rw [nI_clamp (show p < 2 ^ 31 from by omega)]); (first | rw [pIf_t h5] | rw [pIf_f h5] | rw [pIf_f (Int32.not_lt.mpr h5)] | rw [pIf_f (Int32.not_le.mpr h5)] | rw [pIf_t (Int32.not_le.mp h5)] | rw [pIf_t (Int32.not_lt.mp h5)] | rw [pIf_f (Nat.not_lt.mpr h5)] | rw [pIf_f (Nat.not_le.mpr h5)] | rw [pIf_t (Nat.not_le.mp h5)] | rw [pIf_t (Nat.not_lt.mp h5)] | skip); (first | rw [pIf_t h13] | rw [pIf_f h13] | rw [pIf_f (Int32.not_lt.mpr h13)] | rw [pIf_f (Int32.not_le.mpr h13)] | rw [pIf_t (Int32.not_le.mp h13)] | rw [pIf_t (Int32.not_lt.mp h13)] | rw [pIf_f (Nat.not_lt.mpr h13)] | rw [pIf_f (Nat.not_le.mpr h13)] | rw [pIf_t (Nat.not_le.mp h13)] | rw [pIf_t (Nat.not_lt.mp h13)] | skip); (first | rw [pIf_t h28] | rw [pIf_f h28] | rw [pIf_f (Int32.not_lt.mpr h28)] | rw [pIf_f (Int32.not_le.mpr h28)] | rw [pIf_t (Int32.not_le.mp h28)] | rw [pIf_t (Int32.not_lt.mp h28)] | rw [pIf_f (Nat.not_lt.mpr h28)] | rw [pIf_f (Nat.not_le.mpr h28)] | rw [pIf_t (Nat.not_le.mp h28)] | rw [pIf_t (Nat.not_lt.mp h28)] | skip); (try rw [nI_clamp (show p < 2 ^ 31 from by omega)]); exact ⟨rfl, rfl⟩⟩)
      ·
        refine aw_aload_n (i := 0) dX8_move_31 rfl rfl ?_
        refine aw_bipush (v := (-6)) dX8_move_32 (by decide) ?_
        refine aw_cVi ck_X8_142 (m_X8_no (k := 6) (by decide) (by decide)) sh_105 rfl (by decide) (by decide) rfl rfl (Nat.le_of_ble_eq_true rfl) dX8_move_34 ?_
        exact aw_iret rfl dX8_move_37 (by first | contradiction | exact ⟨_, rfl, by unfold S8_move; (try rw [nI_clamp (show p < 2 ^ 31 from by omega)]); (first | rw [pIf_t h5] | rw [pIf_f h5] | rw [pIf_f (Int32.not_lt.mpr h5)] | rw [pIf_f (Int32.not_le.mpr h5)] | rw [pIf_t (Int32.not_le.mp h5)] | rw [pIf_t (Int32.not_lt.mp h5)] | rw [pIf_f (Nat.not_lt.mpr h5)] | rw [pIf_f (Nat.not_le.mpr h5)] | rw [pIf_t (Nat.not_le.mp h5)] | rw [pIf_t (Nat.not_lt.mp h5)] | skip); (first | rw [pIf_t h13] | rw [pIf_f h13] | rw [pIf_f (Int32.not_lt.mpr h13)] | rw [pIf_f (Int32.not_le.mpr h13)] | rw [pIf_t (Int32.not_le.mp h13)] | rw [pIf_t (Int32.not_lt.mp h13)] | rw [pIf_f (Nat.not_lt.mpr h13)] | rw [pIf_f (Nat.not_le.mpr h13)] | rw [pIf_t (Nat.not_le.mp h13)] | rw [pIf_t (Nat.not_lt.mp h13)] | skip); (first | rw [pIf_t h28] | rw [pIf_f h28] | rw [pIf_f (Int32.not_lt.mpr h28)] | rw [pIf_f (Int32.not_le.mpr h28)] | rw [pIf_t (Int32.not_le.mp h28)] | rw [pIf_t (Int32.not_lt.mp h28)] | rw [pIf_f (Nat.not_lt.mpr h28)] | rw [pIf_f (Nat.not_le.mpr h28)] | rw [pIf_t (Nat.not_le.mp h28)] | rw [pIf_t (Nat.not_lt.mp h28)] | skip); (try rw [nI_clamp (show p < 2 ^ 31 from by omega)]); exact ⟨rfl, rfl⟩⟩)
    ·
      refine aw_aload_n (i := 0) dX8_move_16 rfl rfl ?_
      refine aw_iconst (v := (-1)) dX8_move_17 (by decide) ?_
      refine aw_cVi ck_X8_142 (m_X8_no (k := 1) (by decide) (by decide)) sh_105 rfl (by decide) (by decide) rfl rfl (Nat.le_of_ble_eq_true rfl) dX8_move_18 ?_
      exact aw_iret rfl dX8_move_21 (by first | contradiction | exact ⟨_, rfl, by unfold S8_move; (try rw [nI_clamp (show p < 2 ^ 31 from by omega)]); (first | rw [pIf_t h5] | rw [pIf_f h5] | rw [pIf_f (Int32.not_lt.mpr h5)] | rw [pIf_f (Int32.not_le.mpr h5)] | rw [pIf_t (Int32.not_le.mp h5)] | rw [pIf_t (Int32.not_lt.mp h5)] | rw [pIf_f (Nat.not_lt.mpr h5)] | rw [pIf_f (Nat.not_le.mpr h5)] | rw [pIf_t (Nat.not_le.mp h5)] | rw [pIf_t (Nat.not_lt.mp h5)] | skip); (first | rw [pIf_t h13] | rw [pIf_f h13] | rw [pIf_f (Int32.not_lt.mpr h13)] | rw [pIf_f (Int32.not_le.mpr h13)] | rw [pIf_t (Int32.not_le.mp h13)] | rw [pIf_t (Int32.not_lt.mp h13)] | rw [pIf_f (Nat.not_lt.mpr h13)] | rw [pIf_f (Nat.not_le.mpr h13)] | rw [pIf_t (Nat.not_le.mp h13)] | rw [pIf_t (Nat.not_lt.mp h13)] | skip); (try rw [nI_clamp (show p < 2 ^ 31 from by omega)]); exact ⟨rfl, rfl⟩⟩)
def S8_glove (M : Mm) (x : Int32) (g : Prop) (v : Int32) (M' : Mm) : Prop := pIf (¬ x < 0 ∧ ¬ M.1 105 0 ≤ x) (pIf (M.1 116 x.toNatClampNeg = b01 g) (v = 0 ∧ M' = M) (v = 1 ∧ M' = mI M 116 x.toNatClampNeg (b01 g))) (v = -1 ∧ M' = nox M 1)
theorem m_X8_glove {l : Launch} {M : Mm} {x : Int32} {g : Prop} {n : Nat} (hn : M.1 105 0 = nI n) (hn30 : n ≤ 30) : AMet l 3 yX8_glove cX8_glove 4 (some FieldType.int) [.ref 105, .int x, .int (b01 g)] M (QI (S8_glove M x g)) := by
  refine AMet.of (by decide) (by simp [aargs, Value.category]) ?_
  show AW l 3 yX8_glove cX8_glove 4 (some FieldType.int) 0 [some (.ref 105), some (.int x), some (.int (b01 g)), none] [] M _
  refine aw_aload_n (i := 0) dX8_glove_0 rfl rfl ?_
  refine aw_iload_n (i := 1) dX8_glove_1 rfl rfl ?_
  refine aw_cVi ck_X8_146 m_X8_isPerson sh_105 rfl (by decide) (by decide) rfl rfl (Nat.le_of_ble_eq_true rfl) dX8_glove_2 ?_
  refine aw_ifne_b (tgt := 14) dX8_glove_5 (by decide) (fun h5 => ?_) (fun h5 => ?_)
  ·
    obtain ⟨p, hp, rfl⟩ := has8 hn hn30 h5
    refine aw_iload_n (i := 2) dX8_glove_14 rfl rfl ?_
    refine aw_tern_eq (tgt := 22) (j := 23) (v := 1) (w := 0) dX8_glove_15 (by decide) dX8_glove_18 (by decide) dX8_glove_19 (by decide) dX8_glove_22 (by decide) rfl ?_
    refine aw_top t01c ?_
    refine aw_istore_n (i := 3) dX8_glove_23 rfl (by decide) ?_
    refine aw_aload_n (i := 0) dX8_glove_24 rfl rfl ?_
    refine aw_getR gf_X8_50 sh_105 rfl dX8_glove_25 ?_
    refine aw_iload_n (i := 1) dX8_glove_28 rfl rfl ?_
    refine aw_ialdN sh_116 (by omega) (by omega) dX8_glove_29 ?_
    refine aw_iload_n (i := 3) dX8_glove_30 rfl rfl ?_
    refine aw_icmp_ne (tgt := 36) dX8_glove_31 (by decide) (fun h31 => ?_) (fun h31 => ?_)
    ·
      refine aw_aload_n (i := 0) dX8_glove_36 rfl rfl ?_
      refine aw_getR gf_X8_50 sh_105 rfl dX8_glove_37 ?_
      refine aw_iload_n (i := 1) dX8_glove_40 rfl rfl ?_
      refine aw_iload_n (i := 3) dX8_glove_41 rfl rfl ?_
      refine aw_iastN sh_116 (by omega) (by omega) dX8_glove_42 ?_
      refine aw_iconst (v := 1) dX8_glove_43 (by decide) ?_
      exact aw_iret rfl dX8_glove_44 (by first | contradiction | exact ⟨_, rfl, by unfold S8_glove; (try rw [nI_clamp (show p < 2 ^ 31 from by omega)]); (first | rw [pIf_t h5] | rw [pIf_f h5] | rw [pIf_f (Int32.not_lt.mpr h5)] | rw [pIf_f (Int32.not_le.mpr h5)] | rw [pIf_t (Int32.not_le.mp h5)] | rw [pIf_t (Int32.not_lt.mp h5)] | rw [pIf_f (Nat.not_lt.mpr h5)] | rw [pIf_f (Nat.not_le.mpr h5)] | rw [pIf_t (Nat.not_le.mp h5)] | rw [pIf_t (Nat.not_lt.mp h5)] | skip); (first | rw [pIf_t h31] | rw [pIf_f h31] | rw [pIf_f (Int32.not_lt.mpr h31)] | rw [pIf_f (Int32.not_le.mpr h31)] | rw [pIf_t (Int32.not_le.mp h31)] | rw [pIf_t (Int32.not_lt.mp h31)] | rw [pIf_f (Nat.not_lt.mpr h31)] | rw [pIf_f (Nat.not_le.mpr h31)] | rw [pIf_t (Nat.not_le.mp h31)] | rw [pIf_t (Nat.not_lt.mp h31)] | skip); (try rw [nI_clamp (show p < 2 ^ 31 from by omega)]); exact ⟨rfl, rfl⟩⟩)
    ·
      refine aw_iconst (v := 0) dX8_glove_34 (by decide) ?_
      exact aw_iret rfl dX8_glove_35 (by first | contradiction | exact ⟨_, rfl, by unfold S8_glove; (try rw [nI_clamp (show p < 2 ^ 31 from by omega)]); (first | rw [pIf_t h5] | rw [pIf_f h5] | rw [pIf_f (Int32.not_lt.mpr h5)] | rw [pIf_f (Int32.not_le.mpr h5)] | rw [pIf_t (Int32.not_le.mp h5)] | rw [pIf_t (Int32.not_lt.mp h5)] | rw [pIf_f (Nat.not_lt.mpr h5)] | rw [pIf_f (Nat.not_le.mpr h5)] | rw [pIf_t (Nat.not_le.mp h5)] | rw [pIf_t (Nat.not_lt.mp h5)] | skip); (first | rw [pIf_t h31] | rw [pIf_f h31] | rw [pIf_f (Int32.not_lt.mpr h31)] | rw [pIf_f (Int32.not_le.mpr h31)] | rw [pIf_t (Int32.not_le.mp h31)] | rw [pIf_t (Int32.not_lt.mp h31)] | rw [pIf_f (Nat.not_lt.mpr h31)] | rw [pIf_f (Nat.not_le.mpr h31)] | rw [pIf_t (Nat.not_le.mp h31)] | rw [pIf_t (Nat.not_lt.mp h31)] | skip); (try rw [nI_clamp (show p < 2 ^ 31 from by omega)]); exact ⟨rfl, rfl⟩⟩)
  ·
    refine aw_aload_n (i := 0) dX8_glove_8 rfl rfl ?_
    refine aw_iconst (v := (-1)) dX8_glove_9 (by decide) ?_
    refine aw_cVi ck_X8_142 (m_X8_no (k := 1) (by decide) (by decide)) sh_105 rfl (by decide) (by decide) rfl rfl (Nat.le_of_ble_eq_true rfl) dX8_glove_10 ?_
    exact aw_iret rfl dX8_glove_13 (by first | contradiction | exact ⟨_, rfl, by unfold S8_glove; (try rw [nI_clamp (show p < 2 ^ 31 from by omega)]); (first | rw [pIf_t h5] | rw [pIf_f h5] | rw [pIf_f (Int32.not_lt.mpr h5)] | rw [pIf_f (Int32.not_le.mpr h5)] | rw [pIf_t (Int32.not_le.mp h5)] | rw [pIf_t (Int32.not_lt.mp h5)] | rw [pIf_f (Nat.not_lt.mpr h5)] | rw [pIf_f (Nat.not_le.mpr h5)] | rw [pIf_t (Nat.not_le.mp h5)] | rw [pIf_t (Nat.not_lt.mp h5)] | skip); (try rw [nI_clamp (show p < 2 ^ 31 from by omega)]); exact ⟨rfl, rfl⟩⟩)
def S8_begin (M : Mm) (x : Int32) (v : Int32) (M' : Mm) : Prop := pIf (¬ x < 0 ∧ ¬ M.1 105 0 ≤ x) (pIf (M.1 113 x.toNatClampNeg = 0) (v = 1 ∧ M' = mI (mI M 113 x.toNatClampNeg 1) 114 x.toNatClampNeg 0) (v = -6 ∧ M' = nox M 6)) (v = -1 ∧ M' = nox M 1)
theorem m_X8_begin {l : Launch} {M : Mm} {x : Int32} {n : Nat} (hn : M.1 105 0 = nI n) (hn30 : n ≤ 30) : AMet l 3 yX8_begin cX8_begin 2 (some FieldType.int) [.ref 105, .int x] M (QI (S8_begin M x)) := by
  refine AMet.of (by decide) (by simp [aargs, Value.category]) ?_
  show AW l 3 yX8_begin cX8_begin 2 (some FieldType.int) 0 [some (.ref 105), some (.int x)] [] M _
  refine aw_aload_n (i := 0) dX8_begin_0 rfl rfl ?_
  refine aw_iload_n (i := 1) dX8_begin_1 rfl rfl ?_
  refine aw_cVi ck_X8_146 m_X8_isPerson sh_105 rfl (by decide) (by decide) rfl rfl (Nat.le_of_ble_eq_true rfl) dX8_begin_2 ?_
  refine aw_ifne_b (tgt := 14) dX8_begin_5 (by decide) (fun h5 => ?_) (fun h5 => ?_)
  ·
    obtain ⟨p, hp, rfl⟩ := has8 hn hn30 h5
    refine aw_aload_n (i := 0) dX8_begin_14 rfl rfl ?_
    refine aw_getR gf_X8_41 sh_105 rfl dX8_begin_15 ?_
    refine aw_iload_n (i := 1) dX8_begin_18 rfl rfl ?_
    refine aw_ialdN sh_113 (by omega) (by omega) dX8_begin_19 ?_
    refine aw_if_eq (tgt := 30) dX8_begin_20 (by decide) (fun h20 => ?_) (fun h20 => ?_)
    ·
      refine aw_aload_n (i := 0) dX8_begin_30 rfl rfl ?_
      refine aw_getR gf_X8_41 sh_105 rfl dX8_begin_31 ?_
      refine aw_iload_n (i := 1) dX8_begin_34 rfl rfl ?_
      refine aw_iconst (v := 1) dX8_begin_35 (by decide) ?_
      refine aw_iastN sh_113 (by omega) (by omega) dX8_begin_36 ?_
      refine aw_aload_n (i := 0) dX8_begin_37 rfl rfl ?_
      refine aw_getR gf_X8_44 sh_105 rfl dX8_begin_38 ?_
      refine aw_iload_n (i := 1) dX8_begin_41 rfl rfl ?_
      refine aw_iconst (v := 0) dX8_begin_42 (by decide) ?_
      refine aw_iastN sh_114 (by omega) (by omega) dX8_begin_43 ?_
      refine aw_iconst (v := 1) dX8_begin_44 (by decide) ?_
      exact aw_iret rfl dX8_begin_45 (by first | contradiction | exact ⟨_, rfl, by unfold S8_begin; (try rw [nI_clamp (show p < 2 ^ 31 from by omega)]); (first | rw [pIf_t h5] | rw [pIf_f h5] | rw [pIf_f (Int32.not_lt.mpr h5)] | rw [pIf_f (Int32.not_le.mpr h5)] | rw [pIf_t (Int32.not_le.mp h5)] | rw [pIf_t (Int32.not_lt.mp h5)] | rw [pIf_f (Nat.not_lt.mpr h5)] | rw [pIf_f (Nat.not_le.mpr h5)] | rw [pIf_t (Nat.not_le.mp h5)] | rw [pIf_t (Nat.not_lt.mp h5)] | skip); (first | rw [pIf_t h20] | rw [pIf_f h20] | rw [pIf_f (Int32.not_lt.mpr h20)] | rw [pIf_f (Int32.not_le.mpr h20)] | rw [pIf_t (Int32.not_le.mp h20)] | rw [pIf_t (Int32.not_lt.mp h20)] | rw [pIf_f (Nat.not_lt.mpr h20)] | rw [pIf_f (Nat.not_le.mpr h20)] | rw [pIf_t (Nat.not_le.mp h20)] | rw [pIf_t (Nat.not_lt.mp h20)] | skip); (try rw [nI_clamp (show p < 2 ^ 31 from by omega)]); exact ⟨rfl, rfl⟩⟩)
    ·
      refine aw_aload_n (i := 0) dX8_begin_23 rfl rfl ?_
      refine aw_bipush (v := (-6)) dX8_begin_24 (by decide) ?_
      refine aw_cVi ck_X8_142 (m_X8_no (k := 6) (by decide) (by decide)) sh_105 rfl (by decide) (by decide) rfl rfl (Nat.le_of_ble_eq_true rfl) dX8_begin_26 ?_
      exact aw_iret rfl dX8_begin_29 (by first | contradiction | exact ⟨_, rfl, by unfold S8_begin; (try rw [nI_clamp (show p < 2 ^ 31 from by omega)]); (first | rw [pIf_t h5] | rw [pIf_f h5] | rw [pIf_f (Int32.not_lt.mpr h5)] | rw [pIf_f (Int32.not_le.mpr h5)] | rw [pIf_t (Int32.not_le.mp h5)] | rw [pIf_t (Int32.not_lt.mp h5)] | rw [pIf_f (Nat.not_lt.mpr h5)] | rw [pIf_f (Nat.not_le.mpr h5)] | rw [pIf_t (Nat.not_le.mp h5)] | rw [pIf_t (Nat.not_lt.mp h5)] | skip); (first | rw [pIf_t h20] | rw [pIf_f h20] | rw [pIf_f (Int32.not_lt.mpr h20)] | rw [pIf_f (Int32.not_le.mpr h20)] | rw [pIf_t (Int32.not_le.mp h20)] | rw [pIf_t (Int32.not_lt.mp h20)] | rw [pIf_f (Nat.not_lt.mpr h20)] | rw [pIf_f (Nat.not_le.mpr h20)] | rw [pIf_t (Nat.not_le.mp h20)] | rw [pIf_t (Nat.not_lt.mp h20)] | skip); (try rw [nI_clamp (show p < 2 ^ 31 from by omega)]); exact ⟨rfl, rfl⟩⟩)
  ·
    refine aw_aload_n (i := 0) dX8_begin_8 rfl rfl ?_
    refine aw_iconst (v := (-1)) dX8_begin_9 (by decide) ?_
    refine aw_cVi ck_X8_142 (m_X8_no (k := 1) (by decide) (by decide)) sh_105 rfl (by decide) (by decide) rfl rfl (Nat.le_of_ble_eq_true rfl) dX8_begin_10 ?_
    exact aw_iret rfl dX8_begin_13 (by first | contradiction | exact ⟨_, rfl, by unfold S8_begin; (try rw [nI_clamp (show p < 2 ^ 31 from by omega)]); (first | rw [pIf_t h5] | rw [pIf_f h5] | rw [pIf_f (Int32.not_lt.mpr h5)] | rw [pIf_f (Int32.not_le.mpr h5)] | rw [pIf_t (Int32.not_le.mp h5)] | rw [pIf_t (Int32.not_lt.mp h5)] | rw [pIf_f (Nat.not_lt.mpr h5)] | rw [pIf_f (Nat.not_le.mpr h5)] | rw [pIf_t (Nat.not_le.mp h5)] | rw [pIf_t (Nat.not_lt.mp h5)] | skip); (try rw [nI_clamp (show p < 2 ^ 31 from by omega)]); exact ⟨rfl, rfl⟩⟩)
def S8_seed (M : Mm) (x : Int32) (v : Int32) (M' : Mm) : Prop := v = M.1 105 4 ∧ M' = mI M 105 4 x
theorem m_X8_seed {l : Launch} {M : Mm} {x : Int32} : AMet l 3 yX8_seed cX8_seed 3 (some FieldType.int) [.ref 105, .int x] M (QI (S8_seed M x)) := by
  refine AMet.of (by decide) (by simp [aargs, Value.category]) ?_
  show AW l 3 yX8_seed cX8_seed 3 (some FieldType.int) 0 [some (.ref 105), some (.int x), none] [] M _
  refine aw_aload_n (i := 0) dX8_seed_0 rfl rfl ?_
  refine aw_getI gf_X8_7 sh_105 rfl dX8_seed_1 ?_
  refine aw_istore_n (i := 2) dX8_seed_4 rfl (by decide) ?_
  refine aw_aload_n (i := 0) dX8_seed_5 rfl rfl ?_
  refine aw_iload_n (i := 1) dX8_seed_6 rfl rfl ?_
  refine aw_putI pf_X8_7 sh_105 rfl dX8_seed_7 ?_
  refine aw_iload_n (i := 2) dX8_seed_10 rfl rfl ?_
  exact aw_iret rfl dX8_seed_11 (by first | contradiction | exact ⟨_, rfl, by unfold S8_seed; (try rw [nI_clamp (show k < 2 ^ 31 from by omega)]); (try rw [nI_clamp (show j < 2 ^ 31 from by omega)]); (try rw [nI_clamp (show k < 2 ^ 31 from by omega)]); (try rw [nI_clamp (show j < 2 ^ 31 from by omega)]); exact ⟨rfl, rfl⟩⟩)
def S8_force (M : Mm) (x : Int32) (v : Int32) (M' : Mm) : Prop := pIf (¬ x < -1 ∧ ¬ M.1 105 1 ≤ x) (v = M.1 105 5 ∧ M' = mI M 105 5 x) (v = -1 - 10 ∧ M' = nox M 1)
theorem m_X8_force {l : Launch} {M : Mm} {x : Int32} : AMet l 3 yX8_force cX8_force 3 (some FieldType.int) [.ref 105, .int x] M (QI (S8_force M x)) := by
  refine AMet.of (by decide) (by simp [aargs, Value.category]) ?_
  show AW l 3 yX8_force cX8_force 3 (some FieldType.int) 0 [some (.ref 105), some (.int x), none] [] M _
  refine aw_aload_n (i := 0) dX8_force_0 rfl rfl ?_
  refine aw_iload_n (i := 1) dX8_force_1 rfl rfl ?_
  refine aw_cVi ck_X8_206 m_X8_isLaws sh_105 rfl (by decide) (by decide) rfl rfl (Nat.le_of_ble_eq_true rfl) dX8_force_2 ?_
  refine aw_ifne_b (tgt := 14) dX8_force_5 (by decide) (fun h5 => ?_) (fun h5 => ?_)
  ·
    refine aw_aload_n (i := 0) dX8_force_14 rfl rfl ?_
    refine aw_getI gf_X8_13 sh_105 rfl dX8_force_15 ?_
    refine aw_istore_n (i := 2) dX8_force_18 rfl (by decide) ?_
    refine aw_aload_n (i := 0) dX8_force_19 rfl rfl ?_
    refine aw_iload_n (i := 1) dX8_force_20 rfl rfl ?_
    refine aw_putI pf_X8_13 sh_105 rfl dX8_force_21 ?_
    refine aw_iload_n (i := 2) dX8_force_24 rfl rfl ?_
    exact aw_iret rfl dX8_force_25 (by first | contradiction | exact ⟨_, rfl, by unfold S8_force; (try rw [nI_clamp (show k < 2 ^ 31 from by omega)]); (try rw [nI_clamp (show j < 2 ^ 31 from by omega)]); (first | rw [pIf_t h5] | rw [pIf_f h5] | rw [pIf_f (Int32.not_lt.mpr h5)] | rw [pIf_f (Int32.not_le.mpr h5)] | rw [pIf_t (Int32.not_le.mp h5)] | rw [pIf_t (Int32.not_lt.mp h5)] | rw [pIf_f (Nat.not_lt.mpr h5)] | rw [pIf_f (Nat.not_le.mpr h5)] | rw [pIf_t (Nat.not_le.mp h5)] | rw [pIf_t (Nat.not_lt.mp h5)] | skip); (try rw [nI_clamp (show k < 2 ^ 31 from by omega)]); (try rw [nI_clamp (show j < 2 ^ 31 from by omega)]); exact ⟨rfl, rfl⟩⟩)
  ·
    refine aw_aload_n (i := 0) dX8_force_8 rfl rfl ?_
    refine aw_iconst (v := (-1)) dX8_force_9 (by decide) ?_
    refine aw_cVi ck_X8_209 (m_X8_noTen (k := 1) (by decide) (by decide)) sh_105 rfl (by decide) (by decide) rfl rfl (Nat.le_of_ble_eq_true rfl) dX8_force_10 ?_
    exact aw_iret rfl dX8_force_13 (by first | contradiction | exact ⟨_, rfl, by unfold S8_force; (try rw [nI_clamp (show k < 2 ^ 31 from by omega)]); (try rw [nI_clamp (show j < 2 ^ 31 from by omega)]); (first | rw [pIf_t h5] | rw [pIf_f h5] | rw [pIf_f (Int32.not_lt.mpr h5)] | rw [pIf_f (Int32.not_le.mpr h5)] | rw [pIf_t (Int32.not_le.mp h5)] | rw [pIf_t (Int32.not_lt.mp h5)] | rw [pIf_f (Nat.not_lt.mpr h5)] | rw [pIf_f (Nat.not_le.mpr h5)] | rw [pIf_t (Nat.not_le.mp h5)] | rw [pIf_t (Nat.not_lt.mp h5)] | skip); (try rw [nI_clamp (show k < 2 ^ 31 from by omega)]); (try rw [nI_clamp (show j < 2 ^ 31 from by omega)]); exact ⟨rfl, rfl⟩⟩)
theorem m_X8_fault {l : Launch} {M : Mm} : AMet l 1 yX8_fault cX8_fault 1 (some FieldType.int) [.ref 105] M (QE (some (.int (M.1 105 6))) M) := by
  refine AMet.of (by decide) (by simp [aargs, Value.category]) ?_
  show AW l 1 yX8_fault cX8_fault 1 (some FieldType.int) 0 [some (.ref 105)] [] M _
  refine aw_aload_n (i := 0) dX8_fault_0 rfl rfl ?_
  refine aw_getI gf_X8_16 sh_105 rfl dX8_fault_1 ?_
  exact aw_iret rfl dX8_fault_4 ⟨rfl, rfl⟩
theorem m_X8_hits {l : Launch} {M : Mm} : AMet l 1 yX8_hits cX8_hits 1 (some FieldType.int) [.ref 105] M (QE (some (.int (M.1 105 7))) M) := by
  refine AMet.of (by decide) (by simp [aargs, Value.category]) ?_
  show AW l 1 yX8_hits cX8_hits 1 (some FieldType.int) 0 [some (.ref 105)] [] M _
  refine aw_aload_n (i := 0) dX8_hits_0 rfl rfl ?_
  refine aw_getI gf_X8_235 sh_105 rfl dX8_hits_1 ?_
  exact aw_iret rfl dX8_hits_4 ⟨rfl, rfl⟩
def S8_trace (M : Mm) (x : Int32) (v : Int32) (M' : Mm) : Prop := pIf (x < 0) (v = -1 ∧ M' = M) (pIf (20 ≤ x) (v = -1 ∧ M' = M) (pIf (M.1 105 54 ≤ x) (v = -1 ∧ M' = M) (v = M.1 139 x.toNatClampNeg ∧ M' = M)))
theorem m_X8_trace {l : Launch} {M : Mm} {x : Int32} : AMet l 3 yX8_trace cX8_trace 2 (some FieldType.int) [.ref 105, .int x] M (QI (S8_trace M x)) := by
  refine AMet.of (by decide) (by simp [aargs, Value.category]) ?_
  show AW l 3 yX8_trace cX8_trace 2 (some FieldType.int) 0 [some (.ref 105), some (.int x)] [] M _
  refine aw_iload_n (i := 1) dX8_trace_0 rfl rfl ?_
  refine aw_if_lt (tgt := 27) dX8_trace_1 (by decide) (fun h1 => ?_) (fun h1 => ?_)
  ·
    refine aw_iconst (v := (-1)) dX8_trace_27 (by decide) ?_
    exact aw_iret rfl dX8_trace_28 (by first | contradiction | exact ⟨_, rfl, by unfold S8_trace; (try rw [nI_clamp (show j < 2 ^ 31 from by omega)]); (first | rw [pIf_t h1] | rw [pIf_f h1] | rw [pIf_f (Int32.not_lt.mpr h1)] | rw [pIf_f (Int32.not_le.mpr h1)] | rw [pIf_t (Int32.not_le.mp h1)] | rw [pIf_t (Int32.not_lt.mp h1)] | rw [pIf_f (Nat.not_lt.mpr h1)] | rw [pIf_f (Nat.not_le.mpr h1)] | rw [pIf_t (Nat.not_le.mp h1)] | rw [pIf_t (Nat.not_lt.mp h1)] | skip); (try rw [nI_clamp (show j < 2 ^ 31 from by omega)]); exact ⟨rfl, rfl⟩⟩)
  ·
    refine aw_iload_n (i := 1) dX8_trace_4 rfl rfl ?_
    refine aw_bipush (v := 20) dX8_trace_5 (by decide) ?_
    refine aw_icmp_ge (tgt := 27) dX8_trace_7 (by decide) (fun h7 => ?_) (fun h7 => ?_)
    ·
      refine aw_iconst (v := (-1)) dX8_trace_27 (by decide) ?_
      exact aw_iret rfl dX8_trace_28 (by first | contradiction | exact ⟨_, rfl, by unfold S8_trace; (try rw [nI_clamp (show j < 2 ^ 31 from by omega)]); (first | rw [pIf_t h1] | rw [pIf_f h1] | rw [pIf_f (Int32.not_lt.mpr h1)] | rw [pIf_f (Int32.not_le.mpr h1)] | rw [pIf_t (Int32.not_le.mp h1)] | rw [pIf_t (Int32.not_lt.mp h1)] | rw [pIf_f (Nat.not_lt.mpr h1)] | rw [pIf_f (Nat.not_le.mpr h1)] | rw [pIf_t (Nat.not_le.mp h1)] | rw [pIf_t (Nat.not_lt.mp h1)] | skip); (first | rw [pIf_t h7] | rw [pIf_f h7] | rw [pIf_f (Int32.not_lt.mpr h7)] | rw [pIf_f (Int32.not_le.mpr h7)] | rw [pIf_t (Int32.not_le.mp h7)] | rw [pIf_t (Int32.not_lt.mp h7)] | rw [pIf_f (Nat.not_lt.mpr h7)] | rw [pIf_f (Nat.not_le.mpr h7)] | rw [pIf_t (Nat.not_le.mp h7)] | rw [pIf_t (Nat.not_lt.mp h7)] | skip); (try rw [nI_clamp (show j < 2 ^ 31 from by omega)]); exact ⟨rfl, rfl⟩⟩)
    ·
      refine aw_iload_n (i := 1) dX8_trace_10 rfl rfl ?_
      refine aw_aload_n (i := 0) dX8_trace_11 rfl rfl ?_
      refine aw_getI gf_X8_303 sh_105 rfl dX8_trace_12 ?_
      refine aw_icmp_ge (tgt := 27) dX8_trace_15 (by decide) (fun h15 => ?_) (fun h15 => ?_)
      ·
        refine aw_iconst (v := (-1)) dX8_trace_27 (by decide) ?_
        exact aw_iret rfl dX8_trace_28 (by first | contradiction | exact ⟨_, rfl, by unfold S8_trace; (try rw [nI_clamp (show j < 2 ^ 31 from by omega)]); (first | rw [pIf_t h1] | rw [pIf_f h1] | rw [pIf_f (Int32.not_lt.mpr h1)] | rw [pIf_f (Int32.not_le.mpr h1)] | rw [pIf_t (Int32.not_le.mp h1)] | rw [pIf_t (Int32.not_lt.mp h1)] | rw [pIf_f (Nat.not_lt.mpr h1)] | rw [pIf_f (Nat.not_le.mpr h1)] | rw [pIf_t (Nat.not_le.mp h1)] | rw [pIf_t (Nat.not_lt.mp h1)] | skip); (first | rw [pIf_t h7] | rw [pIf_f h7] | rw [pIf_f (Int32.not_lt.mpr h7)] | rw [pIf_f (Int32.not_le.mpr h7)] | rw [pIf_t (Int32.not_le.mp h7)] | rw [pIf_t (Int32.not_lt.mp h7)] | rw [pIf_f (Nat.not_lt.mpr h7)] | rw [pIf_f (Nat.not_le.mpr h7)] | rw [pIf_t (Nat.not_le.mp h7)] | rw [pIf_t (Nat.not_lt.mp h7)] | skip); (first | rw [pIf_t h15] | rw [pIf_f h15] | rw [pIf_f (Int32.not_lt.mpr h15)] | rw [pIf_f (Int32.not_le.mpr h15)] | rw [pIf_t (Int32.not_le.mp h15)] | rw [pIf_t (Int32.not_lt.mp h15)] | rw [pIf_f (Nat.not_lt.mpr h15)] | rw [pIf_f (Nat.not_le.mpr h15)] | rw [pIf_t (Nat.not_le.mp h15)] | rw [pIf_t (Nat.not_lt.mp h15)] | skip); (try rw [nI_clamp (show j < 2 ^ 31 from by omega)]); exact ⟨rfl, rfl⟩⟩)
      ·
        obtain ⟨j, hj, rfl⟩ : ∃ j, j < 20 ∧ x = nI j := by
          rcases pk_ix x (n := 20) (by decide) with q | q | q
          · exact absurd q h1
          · exact absurd q h7
          · exact q
        refine aw_aload_n (i := 0) dX8_trace_18 rfl rfl ?_
        refine aw_getR gf_X8_123 sh_105 rfl dX8_trace_19 ?_
        refine aw_iload_n (i := 1) dX8_trace_22 rfl rfl ?_
        refine aw_ialdN sh_139 (by omega) (by omega) dX8_trace_23 ?_
        refine aw_goto (tgt := 28) dX8_trace_24 (by decide) ?_
        exact aw_iret rfl dX8_trace_28 (by first | contradiction | exact ⟨_, rfl, by unfold S8_trace; (try rw [nI_clamp (show j < 2 ^ 31 from by omega)]); (first | rw [pIf_t h1] | rw [pIf_f h1] | rw [pIf_f (Int32.not_lt.mpr h1)] | rw [pIf_f (Int32.not_le.mpr h1)] | rw [pIf_t (Int32.not_le.mp h1)] | rw [pIf_t (Int32.not_lt.mp h1)] | rw [pIf_f (Nat.not_lt.mpr h1)] | rw [pIf_f (Nat.not_le.mpr h1)] | rw [pIf_t (Nat.not_le.mp h1)] | rw [pIf_t (Nat.not_lt.mp h1)] | skip); (first | rw [pIf_t h7] | rw [pIf_f h7] | rw [pIf_f (Int32.not_lt.mpr h7)] | rw [pIf_f (Int32.not_le.mpr h7)] | rw [pIf_t (Int32.not_le.mp h7)] | rw [pIf_t (Int32.not_lt.mp h7)] | rw [pIf_f (Nat.not_lt.mpr h7)] | rw [pIf_f (Nat.not_le.mpr h7)] | rw [pIf_t (Nat.not_le.mp h7)] | rw [pIf_t (Nat.not_lt.mp h7)] | skip); (first | rw [pIf_t h15] | rw [pIf_f h15] | rw [pIf_f (Int32.not_lt.mpr h15)] | rw [pIf_f (Int32.not_le.mpr h15)] | rw [pIf_t (Int32.not_le.mp h15)] | rw [pIf_t (Int32.not_lt.mp h15)] | rw [pIf_f (Nat.not_lt.mpr h15)] | rw [pIf_f (Nat.not_le.mpr h15)] | rw [pIf_t (Nat.not_le.mp h15)] | rw [pIf_t (Nat.not_lt.mp h15)] | skip); (try rw [nI_clamp (show j < 2 ^ 31 from by omega)]); exact ⟨rfl, rfl⟩⟩)
def S8_micro (M : Mm) (mc : Nat) (s : Int32) (v : Int32) (M' : Mm) : Prop := pIf (¬ s < 0 ∧ ¬ 48 ≤ s) (pIf (mc = 8) (v = -7 ∧ M' = nox M 7) (v = nI mc ∧ M' = mI (mI M 117 mc s) 105 2 (nI (mc + 1)))) (v = -1 ∧ M' = nox M 1)
theorem m_X8_micro {l : Launch} {M : Mm} {s : Int32} {mc : Nat} (hmc : M.1 105 2 = nI mc) (hm8 : mc ≤ 8) : AMet l 3 yX8_micro cX8_micro 2 (some FieldType.int) [.ref 105, .int s] M (QI (S8_micro M mc s)) := by
  refine AMet.of (by decide) (by simp [aargs, Value.category]) ?_
  show AW l 3 yX8_micro cX8_micro 2 (some FieldType.int) 0 [some (.ref 105), some (.int s)] [] M _
  refine aw_aload_n (i := 0) dX8_micro_0 rfl rfl ?_
  refine aw_iload_n (i := 1) dX8_micro_1 rfl rfl ?_
  refine aw_cVi ck_X8_155 m_X8_isSeat sh_105 rfl (by decide) (by decide) rfl rfl (Nat.le_of_ble_eq_true rfl) dX8_micro_2 ?_
  refine aw_ifne_b (tgt := 14) dX8_micro_5 (by decide) (fun h5 => ?_) (fun h5 => ?_)
  ·
    refine aw_aload_n (i := 0) dX8_micro_14 rfl rfl ?_
    refine aw_getN (n := mc) gf_X8_296 sh_105 rfl hmc dX8_micro_15 ?_
    refine aw_bipush (v := 8) dX8_micro_18 (by decide) ?_
    refine aw_top (show (8 : Int32) = nI 8 from rfl) ?_
    refine aw_icmp_neN (tgt := 30) (by omega) (by omega) dX8_micro_20 (by decide) (fun h20 => ?_) (fun h20 => ?_)
    ·
      refine aw_aload_n (i := 0) dX8_micro_30 rfl rfl ?_
      refine aw_getR gf_X8_53 sh_105 rfl dX8_micro_31 ?_
      refine aw_aload_n (i := 0) dX8_micro_34 rfl rfl ?_
      refine aw_getN (n := mc) gf_X8_296 sh_105 rfl hmc dX8_micro_35 ?_
      refine aw_iload_n (i := 1) dX8_micro_38 rfl rfl ?_
      refine aw_iastN sh_117 (by omega) (by omega) dX8_micro_39 ?_
      refine aw_aload_n (i := 0) dX8_micro_40 rfl rfl ?_
      refine aw_dup dX8_micro_41 rfl ?_
      refine aw_getN (n := mc) gf_X8_296 sh_105 rfl ((congrFun (mI_other (by decide)) _).trans hmc) dX8_micro_42 ?_
      refine aw_dup_x1 dX8_micro_45 rfl rfl ?_
      refine aw_iconst (v := 1) dX8_micro_46 (by decide) ?_
      refine aw_iadd dX8_micro_47 ?_
      refine aw_top ((nI_succ mc).symm) ?_
      refine aw_putI pf_X8_296 sh_105 rfl dX8_micro_48 ?_
      exact aw_iret rfl dX8_micro_51 (by first | contradiction | exact ⟨_, rfl, by unfold S8_micro; (first | rw [pIf_t h5] | rw [pIf_f h5] | rw [pIf_f (Int32.not_lt.mpr h5)] | rw [pIf_f (Int32.not_le.mpr h5)] | rw [pIf_t (Int32.not_le.mp h5)] | rw [pIf_t (Int32.not_lt.mp h5)] | rw [pIf_f (Nat.not_lt.mpr h5)] | rw [pIf_f (Nat.not_le.mpr h5)] | rw [pIf_t (Nat.not_le.mp h5)] | rw [pIf_t (Nat.not_lt.mp h5)] | skip); (first | rw [pIf_t h20] | rw [pIf_f h20] | rw [pIf_f (Int32.not_lt.mpr h20)] | rw [pIf_f (Int32.not_le.mpr h20)] | rw [pIf_t (Int32.not_le.mp h20)] | rw [pIf_t (Int32.not_lt.mp h20)] | rw [pIf_f (Nat.not_lt.mpr h20)] | rw [pIf_f (Nat.not_le.mpr h20)] | rw [pIf_t (Nat.not_le.mp h20)] | rw [pIf_t (Nat.not_lt.mp h20)] | skip); exact ⟨rfl, rfl⟩⟩)
    ·
      refine aw_aload_n (i := 0) dX8_micro_23 rfl rfl ?_
      refine aw_bipush (v := (-7)) dX8_micro_24 (by decide) ?_
      refine aw_cVi ck_X8_142 (m_X8_no (k := 7) (by decide) (by decide)) sh_105 rfl (by decide) (by decide) rfl rfl (Nat.le_of_ble_eq_true rfl) dX8_micro_26 ?_
      exact aw_iret rfl dX8_micro_29 (by first | contradiction | exact ⟨_, rfl, by unfold S8_micro; (first | rw [pIf_t h5] | rw [pIf_f h5] | rw [pIf_f (Int32.not_lt.mpr h5)] | rw [pIf_f (Int32.not_le.mpr h5)] | rw [pIf_t (Int32.not_le.mp h5)] | rw [pIf_t (Int32.not_lt.mp h5)] | rw [pIf_f (Nat.not_lt.mpr h5)] | rw [pIf_f (Nat.not_le.mpr h5)] | rw [pIf_t (Nat.not_le.mp h5)] | rw [pIf_t (Nat.not_lt.mp h5)] | skip); (first | rw [pIf_t h20] | rw [pIf_f h20] | rw [pIf_f (Int32.not_lt.mpr h20)] | rw [pIf_f (Int32.not_le.mpr h20)] | rw [pIf_t (Int32.not_le.mp h20)] | rw [pIf_t (Int32.not_lt.mp h20)] | rw [pIf_f (Nat.not_lt.mpr h20)] | rw [pIf_f (Nat.not_le.mpr h20)] | rw [pIf_t (Nat.not_le.mp h20)] | rw [pIf_t (Nat.not_lt.mp h20)] | skip); exact ⟨rfl, rfl⟩⟩)
  ·
    refine aw_aload_n (i := 0) dX8_micro_8 rfl rfl ?_
    refine aw_iconst (v := (-1)) dX8_micro_9 (by decide) ?_
    refine aw_cVi ck_X8_142 (m_X8_no (k := 1) (by decide) (by decide)) sh_105 rfl (by decide) (by decide) rfl rfl (Nat.le_of_ble_eq_true rfl) dX8_micro_10 ?_
    exact aw_iret rfl dX8_micro_13 (by first | contradiction | exact ⟨_, rfl, by unfold S8_micro; (first | rw [pIf_t h5] | rw [pIf_f h5] | rw [pIf_f (Int32.not_lt.mpr h5)] | rw [pIf_f (Int32.not_le.mpr h5)] | rw [pIf_t (Int32.not_le.mp h5)] | rw [pIf_t (Int32.not_lt.mp h5)] | rw [pIf_f (Nat.not_lt.mpr h5)] | rw [pIf_f (Nat.not_le.mpr h5)] | rw [pIf_t (Nat.not_le.mp h5)] | rw [pIf_t (Nat.not_lt.mp h5)] | skip); exact ⟨rfl, rfl⟩⟩)
theorem m_X8_clapping {l : Launch} {M : Mm} {n : Nat} (hn : M.1 105 0 = nI n) (hn30 : n ≤ 30) : AMet l 1 yX8_clapping cX8_clapping 3 (some FieldType.int) [.ref 105] M (QE (some (.int (nI (cntN n (fun i => M.1 113 i = 1))))) M) := by
  refine AMet.of (by decide) (by simp [aargs, Value.category]) ?_
  show AW l 1 yX8_clapping cX8_clapping 3 (some FieldType.int) 0 [some (.ref 105), none, none] [] M _
  refine aw_iconst (v := 0) dX8_clapping_0 (by decide) ?_
  refine aw_istore_n (i := 1) dX8_clapping_1 rfl (by decide) ?_
  refine aw_iconst (v := 0) dX8_clapping_2 (by decide) ?_
  refine aw_istore_n (i := 2) dX8_clapping_3 rfl (by decide) ?_
  have lp4 : ∀ k9 i, i + k9 = n → AW l 1 yX8_clapping cX8_clapping 3 (some FieldType.int) 4 [some (.ref 105), some (.int (nI (cntN i (fun i => M.1 113 i = 1)))), some (.int (nI i))] [] M (QE (some (.int (nI (cntN n (fun i => M.1 113 i = 1))))) M) := by
    intro k9
    induction k9 using Nat.strongRecOn with
    | _ k9 ih =>
    intro i hk9
    refine aw_iload_n (i := 2) dX8_clapping_4 rfl rfl ?_
    refine aw_aload_n (i := 0) dX8_clapping_5 rfl rfl ?_
    refine aw_getN (n := n) gf_X8_132 sh_105 rfl (by first | exact hn | simpa [mI] using hn) dX8_clapping_6 ?_
    refine aw_icmp_geN (tgt := 31) (by omega) (by omega) dX8_clapping_9 (by decide) (fun h9 => ?_) (fun h9 => ?_)
    ·
      refine aw_iload_n (i := 1) dX8_clapping_31 rfl rfl ?_
      exact aw_iret rfl dX8_clapping_32 ⟨by rw [show i = n by omega], rfl⟩
    ·
      refine aw_aload_n (i := 0) dX8_clapping_12 rfl rfl ?_
      refine aw_getR gf_X8_41 sh_105 rfl dX8_clapping_13 ?_
      refine aw_iload_n (i := 2) dX8_clapping_16 rfl rfl ?_
      refine aw_ialdN sh_113 (by omega) (by omega) dX8_clapping_17 ?_
      refine aw_iconst (v := 1) dX8_clapping_18 (by decide) ?_
      refine aw_icmp_ne (tgt := 25) dX8_clapping_19 (by decide) (fun h19 => ?_) (fun h19 => ?_)
      ·
        refine aw_iincN (i := 2) dX8_clapping_25 rfl (by decide) ?_
        refine aw_goto (tgt := 4) dX8_clapping_28 (by decide) ?_
        refine aw_loc (la := [some (.ref 105), some (.int (nI (cntN (i + 1) (fun i => M.1 113 i = 1)))), some (.int (nI (i + 1)))]) ?_ (ih (k9 - 1) (by omega) (i + 1) (by omega))
        first | rw [← nI_cnt_t (P := fun i => M.1 113 i = 1) h19] | rw [← nI_cnt_f (P := fun i => M.1 113 i = 1) h19]
        exact ⟨rfl, rfl, rfl, trivial⟩
      ·
        refine aw_iinc1 (i := 1) dX8_clapping_22 rfl (by decide) ?_
        refine aw_iincN (i := 2) dX8_clapping_25 rfl (by decide) ?_
        refine aw_goto (tgt := 4) dX8_clapping_28 (by decide) ?_
        refine aw_loc (la := [some (.ref 105), some (.int (nI (cntN (i + 1) (fun i => M.1 113 i = 1)))), some (.int (nI (i + 1)))]) ?_ (ih (k9 - 1) (by omega) (i + 1) (by omega))
        first | rw [← nI_cnt_t (P := fun i => M.1 113 i = 1) h19] | rw [← nI_cnt_f (P := fun i => M.1 113 i = 1) h19]
        exact ⟨rfl, rfl, rfl, trivial⟩
  refine aw_loc (la := [some (.ref 105), some (.int (nI (cntN 0 (fun i => M.1 113 i = 1)))), some (.int (nI 0))]) ⟨rfl, rfl, rfl, trivial⟩ ?_
  exact lp4 n 0 (by omega)
theorem m_X8_far {l : Launch} {M : Mm} {a b : Int32} : AMet l 1 yX8_far cX8_far 5 (some FieldType.int) [.ref 105, .int a, .int b] M (QE (some (.int (far8 a b))) M) := by
  refine AMet.of (by decide) (by simp [aargs, Value.category]) ?_
  show AW l 1 yX8_far cX8_far 5 (some FieldType.int) 0 [some (.ref 105), some (.int a), some (.int b), none, none] [] M _
  refine aw_iload_n (i := 1) dX8_far_0 rfl rfl ?_
  refine aw_bipush (v := 8) dX8_far_1 (by decide) ?_
  refine aw_idiv dX8_far_3 (by decide) ?_
  refine aw_iload_n (i := 2) dX8_far_4 rfl rfl ?_
  refine aw_bipush (v := 8) dX8_far_5 (by decide) ?_
  refine aw_idiv dX8_far_7 (by decide) ?_
  refine aw_isub dX8_far_8 ?_
  refine aw_istore_n (i := 3) dX8_far_9 rfl (by decide) ?_
  refine aw_iload_n (i := 1) dX8_far_10 rfl rfl ?_
  refine aw_bipush (v := 8) dX8_far_11 (by decide) ?_
  refine aw_irem dX8_far_13 (by decide) ?_
  refine aw_iload_n (i := 2) dX8_far_14 rfl rfl ?_
  refine aw_bipush (v := 8) dX8_far_15 (by decide) ?_
  refine aw_irem dX8_far_17 (by decide) ?_
  refine aw_isub dX8_far_18 ?_
  refine aw_istore (i := 4) dX8_far_19 (by decide) ?_
  refine aw_iload_n (i := 3) dX8_far_21 rfl rfl ?_
  refine aw_if_ge (tgt := 30) dX8_far_22 (by decide) (fun h22 => ?_) (fun h22 => ?_)
  ·
    refine aw_iload_n (i := 3) dX8_far_30 rfl rfl ?_
    refine aw_iload (i := 4) dX8_far_31 rfl ?_
    refine aw_if_ge (tgt := 42) dX8_far_33 (by decide) (fun h33 => ?_) (fun h33 => ?_)
    ·
      refine aw_iload (i := 4) dX8_far_42 rfl ?_
      refine aw_iadd dX8_far_44 ?_
      exact aw_iret rfl dX8_far_45 ⟨by unfold far8 ab8; (first | rw [if_neg (Int32.not_lt.mpr h22)] | rw [if_pos (Int32.not_le.mp h22)]); (first | rw [if_neg (Int32.not_lt.mpr h33)] | rw [if_pos (Int32.not_le.mp h33)]), rfl⟩
    ·
      refine aw_iload (i := 4) dX8_far_36 rfl ?_
      refine aw_ineg dX8_far_38 ?_
      refine aw_goto (tgt := 44) dX8_far_39 (by decide) ?_
      refine aw_iadd dX8_far_44 ?_
      exact aw_iret rfl dX8_far_45 ⟨by unfold far8 ab8; (first | rw [if_neg (Int32.not_lt.mpr h22)] | rw [if_pos (Int32.not_le.mp h22)]); (first | rw [if_neg (Int32.not_lt.mpr h33)] | rw [if_pos (Int32.not_le.mp h33)]), rfl⟩
  ·
    refine aw_iload_n (i := 3) dX8_far_25 rfl rfl ?_
    refine aw_ineg dX8_far_26 ?_
    refine aw_goto (tgt := 31) dX8_far_27 (by decide) ?_
    refine aw_iload (i := 4) dX8_far_31 rfl ?_
    refine aw_if_ge (tgt := 42) dX8_far_33 (by decide) (fun h33 => ?_) (fun h33 => ?_)
    ·
      refine aw_iload (i := 4) dX8_far_42 rfl ?_
      refine aw_iadd dX8_far_44 ?_
      exact aw_iret rfl dX8_far_45 ⟨by unfold far8 ab8; (first | rw [if_neg (Int32.not_lt.mpr h22)] | rw [if_pos (Int32.not_le.mp h22)]); (first | rw [if_neg (Int32.not_lt.mpr h33)] | rw [if_pos (Int32.not_le.mp h33)]), rfl⟩
    ·
      refine aw_iload (i := 4) dX8_far_36 rfl ?_
      refine aw_ineg dX8_far_38 ?_
      refine aw_goto (tgt := 44) dX8_far_39 (by decide) ?_
      refine aw_iadd dX8_far_44 ?_
      exact aw_iret rfl dX8_far_45 ⟨by unfold far8 ab8; (first | rw [if_neg (Int32.not_lt.mpr h22)] | rw [if_pos (Int32.not_le.mp h22)]); (first | rw [if_neg (Int32.not_lt.mpr h33)] | rw [if_pos (Int32.not_le.mp h33)]), rfl⟩
noncomputable def rulI (M : Mm) (i : Nat) : Int32 := pIf (M.1 105 35 = -1) (M.1 118 i) (M.1 119 (7 * (M.1 105 35).toNatClampNeg + i))
theorem nI_7 : ∀ k, k < 6 → 7 * nI k = nI (7 * k) := by decide
/-- the laws that the model goes by are there -/
def byOK (M : Mm) : Prop := M.1 105 35 = -1 ∨ ∃ k, k < 6 ∧ M.1 105 35 = nI k
theorem m_X8_rule {l : Launch} {M : Mm} {i : Nat} (hb : byOK M) (hi : i < 7) : AMet l 1 yX8_rule cX8_rule 2 (some FieldType.int) [.ref 105, .int (nI i)] M (QE (some (.int (rulI M i))) M) := by
  refine AMet.of (by decide) (by simp [aargs, Value.category]) ?_
  show AW l 1 yX8_rule cX8_rule 2 (some FieldType.int) 0 [some (.ref 105), some (.int (nI i))] [] M _
  refine aw_aload_n (i := 0) dX8_rule_0 rfl rfl ?_
  refine aw_getI gf_X8_87 sh_105 rfl dX8_rule_1 ?_
  refine aw_iconst (v := (-1)) dX8_rule_4 (by decide) ?_
  refine aw_icmp_ne (tgt := 17) dX8_rule_5 (by decide) (fun h5 => ?_) (fun h5 => ?_)
  ·
    obtain ⟨k, hk, hbk⟩ := hb.resolve_left h5
    refine aw_aload_n (i := 0) dX8_rule_17 rfl rfl ?_
    refine aw_getR gf_X8_59 sh_105 rfl dX8_rule_18 ?_
    refine aw_bipush (v := 7) dX8_rule_21 (by decide) ?_
    refine aw_aload_n (i := 0) dX8_rule_23 rfl rfl ?_
    refine aw_getN (n := k) gf_X8_87 sh_105 rfl hbk dX8_rule_24 ?_
    refine aw_imul dX8_rule_27 ?_
    refine aw_top (nI_7 k hk) ?_
    refine aw_iload_n (i := 1) dX8_rule_28 rfl rfl ?_
    refine aw_iadd dX8_rule_29 ?_
    refine aw_top (nI_add (7 * k) i) ?_
    refine aw_ialdN sh_119 (by omega) (by omega) dX8_rule_30 ?_
    exact aw_iret rfl dX8_rule_31 (by first | exact ⟨by unfold rulI; rw [pIf_t h5], rfl⟩ | exact ⟨by unfold rulI; rw [pIf_f h5, hbk, nI_clamp (show k < 2 ^ 31 from by omega)], rfl⟩)
  ·
    refine aw_aload_n (i := 0) dX8_rule_8 rfl rfl ?_
    refine aw_getR gf_X8_56 sh_105 rfl dX8_rule_9 ?_
    refine aw_iload_n (i := 1) dX8_rule_12 rfl rfl ?_
    refine aw_ialdN sh_118 (by omega) (by omega) dX8_rule_13 ?_
    refine aw_goto (tgt := 31) dX8_rule_14 (by decide) ?_
    exact aw_iret rfl dX8_rule_31 (by first | exact ⟨by unfold rulI; rw [pIf_t h5], rfl⟩ | exact ⟨by unfold rulI; rw [pIf_f h5, hbk, nI_clamp (show k < 2 ^ 31 from by omega)], rfl⟩)
