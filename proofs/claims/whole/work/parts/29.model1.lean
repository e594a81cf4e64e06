/-- one refusal more in the model -/
def nox (M : Mm) (k : Nat) : Mm := mI M 106 k (M.1 106 k + 1)
theorem nI_100 : ∀ k, k < 8 → 100 * nI k = nI (100 * k) := by decide
noncomputable def onN (f : Nat → Int32) (s : Int32) (n : Nat) : Nat := whileN (fun i => ¬ f i = s) n 0
noncomputable def onI (f : Nat → Int32) (s : Int32) (n : Nat) : Int32 := pIf (onN f s n < n) (nI (onN f s n)) (-1)
def siz8 (M : Mm) : Prop := ∀ k, k < 8 → ∃ z, z ≤ 100 ∧ M.1 122 k = nI z
noncomputable def wan8 (M : Mm) (s : Int32) : Int32 := pIf (¬ s < 0 ∧ ¬ 8 ≤ s) (pIf (M.1 120 s.toNatClampNeg = 2) (-2) (pIf (M.1 120 s.toNatClampNeg = 0) (-3) 0)) (-1)
def elP8 (M : Mm) (s i : Int32) : Prop := (¬ s < 0 ∧ ¬ 8 ≤ s) ∧ M.1 120 s.toNatClampNeg = 1 ∧ ¬ i < 0 ∧ i < M.1 122 s.toNatClampNeg
noncomputable def elL8 (M : Mm) (s i : Int32) : Int64 := pIf (¬ s < 0 ∧ ¬ 8 ≤ s) (pIf (M.1 120 s.toNatClampNeg = 1) (pIf (i < 0) 0 (pIf (M.1 122 s.toNatClampNeg ≤ i) 0 (M.2 124 (100 * s.toNatClampNeg + i.toNatClampNeg)))) 0) 0
theorem s8_k {M : Mm} {k : Nat} {i : Int32} (hz : siz8 M) (hk : k < 8) (h1 : ¬ i < 0) (h2 : ¬ M.1 122 k ≤ i) : ∃ j, j < 100 ∧ i = nI j := by
  obtain ⟨z, hz1, hz2⟩ := hz k hk
  rw [hz2] at h2
  rcases pk_ix i (n := z) (by omega) with q | q | ⟨j, q1, q2⟩
  · exact absurd q h1
  · exact absurd q h2
  · exact ⟨j, by omega, q2⟩
theorem m_X8_no {l : Launch} {M : Mm} {a : Int32} {k : Nat} (hk : -a = nI k) (hk8 : k < 8) : AMet l 1 yX8_no cX8_no 2 (some FieldType.int) [.ref 105, .int a] M (QE (some (.int a)) (nox M k)) := by
  refine AMet.of (by decide) (by simp [aargs, Value.category]) ?_
  show AW l 1 yX8_no cX8_no 2 (some FieldType.int) 0 [some (.ref 105), some (.int a)] [] M _
  refine aw_aload_n (i := 0) dX8_no_0 rfl rfl ?_
  refine aw_getR gf_X8_19 sh_105 rfl dX8_no_1 ?_
  refine aw_iload_n (i := 1) dX8_no_4 rfl rfl ?_
  refine aw_ineg dX8_no_5 ?_
  refine aw_top hk ?_
  refine aw_dup2 dX8_no_6 rfl rfl ?_
  refine aw_ialdN sh_106 (by omega) (by omega) dX8_no_7 ?_
  refine aw_iconst (v := 1) dX8_no_8 (by decide) ?_
  refine aw_iadd dX8_no_9 ?_
  refine aw_iastN sh_106 (by omega) (by omega) dX8_no_10 ?_
  refine aw_iload_n (i := 1) dX8_no_11 rfl rfl ?_
  exact aw_iret rfl dX8_no_12 ⟨rfl, rfl⟩
theorem m_X8_noTen {l : Launch} {M : Mm} {a : Int32} {k : Nat} (hk : -a = nI k) (hk8 : k < 8) : AMet l 1 yX8_noTen cX8_noTen 2 (some FieldType.int) [.ref 105, .int a] M (QE (some (.int (a - 10))) (nox M k)) := by
  refine AMet.of (by decide) (by simp [aargs, Value.category]) ?_
  show AW l 1 yX8_noTen cX8_noTen 2 (some FieldType.int) 0 [some (.ref 105), some (.int a)] [] M _
  refine aw_aload_n (i := 0) dX8_noTen_0 rfl rfl ?_
  refine aw_getR gf_X8_19 sh_105 rfl dX8_noTen_1 ?_
  refine aw_iload_n (i := 1) dX8_noTen_4 rfl rfl ?_
  refine aw_ineg dX8_noTen_5 ?_
  refine aw_top hk ?_
  refine aw_dup2 dX8_noTen_6 rfl rfl ?_
  refine aw_ialdN sh_106 (by omega) (by omega) dX8_noTen_7 ?_
  refine aw_iconst (v := 1) dX8_noTen_8 (by decide) ?_
  refine aw_iadd dX8_noTen_9 ?_
  refine aw_iastN sh_106 (by omega) (by omega) dX8_noTen_10 ?_
  refine aw_iload_n (i := 1) dX8_noTen_11 rfl rfl ?_
  refine aw_bipush (v := 10) dX8_noTen_12 (by decide) ?_
  refine aw_isub dX8_noTen_14 ?_
  exact aw_iret rfl dX8_noTen_15 ⟨rfl, rfl⟩
theorem m_X8_isShelf {l : Launch} {M : Mm} {s : Int32} : AMet l 1 yX8_isShelf cX8_isShelf 2 (some FieldType.boolean) [.ref 105, .int s] M (QE (some (.int (b01 (¬ s < 0 ∧ ¬ 8 ≤ s)))) M) := by
  refine AMet.of (by decide) (by simp [aargs, Value.category]) ?_
  show AW l 1 yX8_isShelf cX8_isShelf 2 (some FieldType.boolean) 0 [some (.ref 105), some (.int s)] [] M _
  refine aw_iload_n (i := 1) dX8_isShelf_0 rfl rfl ?_
  refine aw_if_lt (tgt := 14) dX8_isShelf_1 (by decide) (fun h1 => ?_) (fun h1 => ?_)
  ·
    refine aw_iconst (v := 0) dX8_isShelf_14 (by decide) ?_
    exact aw_zret rfl (by simp) dX8_isShelf_15 (by simp [QE, b01, h1])
  ·
    refine aw_iload_n (i := 1) dX8_isShelf_4 rfl rfl ?_
    refine aw_bipush (v := 8) dX8_isShelf_5 (by decide) ?_
    refine aw_icmp_ge (tgt := 14) dX8_isShelf_7 (by decide) (fun h7 => ?_) (fun h7 => ?_)
    ·
      refine aw_iconst (v := 0) dX8_isShelf_14 (by decide) ?_
      exact aw_zret rfl (by simp) dX8_isShelf_15 (by simp [QE, b01, h1, h7])
    ·
      refine aw_iconst (v := 1) dX8_isShelf_10 (by decide) ?_
      refine aw_goto (tgt := 15) dX8_isShelf_11 (by decide) ?_
      exact aw_zret rfl (by simp) dX8_isShelf_15 (by simp [QE, b01, h1, h7])
theorem m_X8_isSeat {l : Launch} {M : Mm} {s : Int32} : AMet l 1 yX8_isSeat cX8_isSeat 2 (some FieldType.boolean) [.ref 105, .int s] M (QE (some (.int (b01 (¬ s < 0 ∧ ¬ 48 ≤ s)))) M) := by
  refine AMet.of (by decide) (by simp [aargs, Value.category]) ?_
  show AW l 1 yX8_isSeat cX8_isSeat 2 (some FieldType.boolean) 0 [some (.ref 105), some (.int s)] [] M _
  refine aw_iload_n (i := 1) dX8_isSeat_0 rfl rfl ?_
  refine aw_if_lt (tgt := 14) dX8_isSeat_1 (by decide) (fun h1 => ?_) (fun h1 => ?_)
  ·
    refine aw_iconst (v := 0) dX8_isSeat_14 (by decide) ?_
    exact aw_zret rfl (by simp) dX8_isSeat_15 (by simp [QE, b01, h1])
  ·
    refine aw_iload_n (i := 1) dX8_isSeat_4 rfl rfl ?_
    refine aw_bipush (v := 48) dX8_isSeat_5 (by decide) ?_
    refine aw_icmp_ge (tgt := 14) dX8_isSeat_7 (by decide) (fun h7 => ?_) (fun h7 => ?_)
    ·
      refine aw_iconst (v := 0) dX8_isSeat_14 (by decide) ?_
      exact aw_zret rfl (by simp) dX8_isSeat_15 (by simp [QE, b01, h1, h7])
    ·
      refine aw_iconst (v := 1) dX8_isSeat_10 (by decide) ?_
      refine aw_goto (tgt := 15) dX8_isSeat_11 (by decide) ?_
      exact aw_zret rfl (by simp) dX8_isSeat_15 (by simp [QE, b01, h1, h7])
theorem m_X8_isPerson {l : Launch} {M : Mm} {x : Int32} : AMet l 1 yX8_isPerson cX8_isPerson 2 (some FieldType.boolean) [.ref 105, .int x] M (QE (some (.int (b01 (¬ x < 0 ∧ ¬ M.1 105 0 ≤ x)))) M) := by
  refine AMet.of (by decide) (by simp [aargs, Value.category]) ?_
  show AW l 1 yX8_isPerson cX8_isPerson 2 (some FieldType.boolean) 0 [some (.ref 105), some (.int x)] [] M _
  refine aw_iload_n (i := 1) dX8_isPerson_0 rfl rfl ?_
  refine aw_if_lt (tgt := 16) dX8_isPerson_1 (by decide) (fun h1 => ?_) (fun h1 => ?_)
  ·
    refine aw_iconst (v := 0) dX8_isPerson_16 (by decide) ?_
    exact aw_zret rfl (by simp) dX8_isPerson_17 (by simp [QE, b01, h1])
  ·
    refine aw_iload_n (i := 1) dX8_isPerson_4 rfl rfl ?_
    refine aw_aload_n (i := 0) dX8_isPerson_5 rfl rfl ?_
    refine aw_getI gf_X8_132 sh_105 rfl dX8_isPerson_6 ?_
    refine aw_icmp_ge (tgt := 16) dX8_isPerson_9 (by decide) (fun h9 => ?_) (fun h9 => ?_)
    ·
      refine aw_iconst (v := 0) dX8_isPerson_16 (by decide) ?_
      exact aw_zret rfl (by simp) dX8_isPerson_17 (by simp [QE, b01, h1, h9])
    ·
      refine aw_iconst (v := 1) dX8_isPerson_12 (by decide) ?_
      refine aw_goto (tgt := 17) dX8_isPerson_13 (by decide) ?_
      exact aw_zret rfl (by simp) dX8_isPerson_17 (by simp [QE, b01, h1, h9])
theorem m_X8_isLaws {l : Launch} {M : Mm} {x : Int32} : AMet l 1 yX8_isLaws cX8_isLaws 2 (some FieldType.boolean) [.ref 105, .int x] M (QE (some (.int (b01 (¬ x < -1 ∧ ¬ M.1 105 1 ≤ x)))) M) := by
  refine AMet.of (by decide) (by simp [aargs, Value.category]) ?_
  show AW l 1 yX8_isLaws cX8_isLaws 2 (some FieldType.boolean) 0 [some (.ref 105), some (.int x)] [] M _
  refine aw_iload_n (i := 1) dX8_isLaws_0 rfl rfl ?_
  refine aw_iconst (v := (-1)) dX8_isLaws_1 (by decide) ?_
  refine aw_icmp_lt (tgt := 17) dX8_isLaws_2 (by decide) (fun h2 => ?_) (fun h2 => ?_)
  ·
    refine aw_iconst (v := 0) dX8_isLaws_17 (by decide) ?_
    exact aw_zret rfl (by simp) dX8_isLaws_18 (by simp [QE, b01, h2])
  ·
    refine aw_iload_n (i := 1) dX8_isLaws_5 rfl rfl ?_
    refine aw_aload_n (i := 0) dX8_isLaws_6 rfl rfl ?_
    refine aw_getI gf_X8_135 sh_105 rfl dX8_isLaws_7 ?_
    refine aw_icmp_ge (tgt := 17) dX8_isLaws_10 (by decide) (fun h10 => ?_) (fun h10 => ?_)
    ·
      refine aw_iconst (v := 0) dX8_isLaws_17 (by decide) ?_
      exact aw_zret rfl (by simp) dX8_isLaws_18 (by simp [QE, b01, h2, h10])
    ·
      refine aw_iconst (v := 1) dX8_isLaws_13 (by decide) ?_
      refine aw_goto (tgt := 18) dX8_isLaws_14 (by decide) ?_
      exact aw_zret rfl (by simp) dX8_isLaws_18 (by simp [QE, b01, h2, h10])
theorem m_X8_wants {l : Launch} {M : Mm} {s : Int32} : AMet l 2 yX8_wants cX8_wants 2 (some FieldType.int) [.ref 105, .int s] M (QE (some (.int (wan8 M s))) M) := by
  refine AMet.of (by decide) (by simp [aargs, Value.category]) ?_
  show AW l 2 yX8_wants cX8_wants 2 (some FieldType.int) 0 [some (.ref 105), some (.int s)] [] M _
  refine aw_aload_n (i := 0) dX8_wants_0 rfl rfl ?_
  refine aw_iload_n (i := 1) dX8_wants_1 rfl rfl ?_
  refine aw_cVi ck_X8_138 m_X8_isShelf sh_105 rfl (by decide) (by decide) rfl rfl (Nat.le_of_ble_eq_true rfl) dX8_wants_2 ?_
  refine aw_ifne_b (tgt := 12) dX8_wants_5 (by decide) (fun h5 => ?_) (fun h5 => ?_)
  ·
    obtain ⟨k, hk, rfl⟩ := shf_k h5
    refine aw_aload_n (i := 0) dX8_wants_12 rfl rfl ?_
    refine aw_getR gf_X8_62 sh_105 rfl dX8_wants_13 ?_
    refine aw_iload_n (i := 1) dX8_wants_16 rfl rfl ?_
    refine aw_ialdN sh_120 (by omega) (by omega) dX8_wants_17 ?_
    refine aw_iconst (v := 2) dX8_wants_18 (by decide) ?_
    refine aw_icmp_ne (tgt := 27) dX8_wants_19 (by decide) (fun h19 => ?_) (fun h19 => ?_)
    ·
      refine aw_aload_n (i := 0) dX8_wants_27 rfl rfl ?_
      refine aw_getR gf_X8_62 sh_105 rfl dX8_wants_28 ?_
      refine aw_iload_n (i := 1) dX8_wants_31 rfl rfl ?_
      refine aw_ialdN sh_120 (by omega) (by omega) dX8_wants_32 ?_
      refine aw_if_ne (tgt := 41) dX8_wants_33 (by decide) (fun h33 => ?_) (fun h33 => ?_)
      ·
        refine aw_iconst (v := 0) dX8_wants_41 (by decide) ?_
        exact aw_iret rfl dX8_wants_42 (by first | contradiction | exact ⟨by unfold wan8; (try rw [nI_clamp (show k < 2 ^ 31 from by omega)]); (first | rw [pIf_t h5] | rw [pIf_f h5] | rw [pIf_f (Int32.not_lt.mpr h5)] | rw [pIf_f (Int32.not_le.mpr h5)] | rw [pIf_t (Int32.not_le.mp h5)] | rw [pIf_t (Int32.not_lt.mp h5)] | rw [pIf_f (Nat.not_lt.mpr h5)] | rw [pIf_f (Nat.not_le.mpr h5)] | rw [pIf_t (Nat.not_le.mp h5)] | rw [pIf_t (Nat.not_lt.mp h5)] | skip); (first | rw [pIf_t h19] | rw [pIf_f h19] | rw [pIf_f (Int32.not_lt.mpr h19)] | rw [pIf_f (Int32.not_le.mpr h19)] | rw [pIf_t (Int32.not_le.mp h19)] | rw [pIf_t (Int32.not_lt.mp h19)] | rw [pIf_f (Nat.not_lt.mpr h19)] | rw [pIf_f (Nat.not_le.mpr h19)] | rw [pIf_t (Nat.not_le.mp h19)] | rw [pIf_t (Nat.not_lt.mp h19)] | skip); (first | rw [pIf_t h33] | rw [pIf_f h33] | rw [pIf_f (Int32.not_lt.mpr h33)] | rw [pIf_f (Int32.not_le.mpr h33)] | rw [pIf_t (Int32.not_le.mp h33)] | rw [pIf_t (Int32.not_lt.mp h33)] | rw [pIf_f (Nat.not_lt.mpr h33)] | rw [pIf_f (Nat.not_le.mpr h33)] | rw [pIf_t (Nat.not_le.mp h33)] | rw [pIf_t (Nat.not_lt.mp h33)] | skip); (try rw [nI_clamp (show k < 2 ^ 31 from by omega)]); all_goals rfl, rfl⟩)
      ·
        refine aw_bipush (v := (-3)) dX8_wants_36 (by decide) ?_
        refine aw_goto (tgt := 42) dX8_wants_38 (by decide) ?_
        exact aw_iret rfl dX8_wants_42 (by first | contradiction | exact ⟨by unfold wan8; (try rw [nI_clamp (show k < 2 ^ 31 from by omega)]); (first | rw [pIf_t h5] | rw [pIf_f h5] | rw [pIf_f (Int32.not_lt.mpr h5)] | rw [pIf_f (Int32.not_le.mpr h5)] | rw [pIf_t (Int32.not_le.mp h5)] | rw [pIf_t (Int32.not_lt.mp h5)] | rw [pIf_f (Nat.not_lt.mpr h5)] | rw [pIf_f (Nat.not_le.mpr h5)] | rw [pIf_t (Nat.not_le.mp h5)] | rw [pIf_t (Nat.not_lt.mp h5)] | skip); (first | rw [pIf_t h19] | rw [pIf_f h19] | rw [pIf_f (Int32.not_lt.mpr h19)] | rw [pIf_f (Int32.not_le.mpr h19)] | rw [pIf_t (Int32.not_le.mp h19)] | rw [pIf_t (Int32.not_lt.mp h19)] | rw [pIf_f (Nat.not_lt.mpr h19)] | rw [pIf_f (Nat.not_le.mpr h19)] | rw [pIf_t (Nat.not_le.mp h19)] | rw [pIf_t (Nat.not_lt.mp h19)] | skip); (first | rw [pIf_t h33] | rw [pIf_f h33] | rw [pIf_f (Int32.not_lt.mpr h33)] | rw [pIf_f (Int32.not_le.mpr h33)] | rw [pIf_t (Int32.not_le.mp h33)] | rw [pIf_t (Int32.not_lt.mp h33)] | rw [pIf_f (Nat.not_lt.mpr h33)] | rw [pIf_f (Nat.not_le.mpr h33)] | rw [pIf_t (Nat.not_le.mp h33)] | rw [pIf_t (Nat.not_lt.mp h33)] | skip); (try rw [nI_clamp (show k < 2 ^ 31 from by omega)]); all_goals rfl, rfl⟩)
    ·
      refine aw_bipush (v := (-2)) dX8_wants_22 (by decide) ?_
      refine aw_goto (tgt := 42) dX8_wants_24 (by decide) ?_
      exact aw_iret rfl dX8_wants_42 (by first | contradiction | exact ⟨by unfold wan8; (try rw [nI_clamp (show k < 2 ^ 31 from by omega)]); (first | rw [pIf_t h5] | rw [pIf_f h5] | rw [pIf_f (Int32.not_lt.mpr h5)] | rw [pIf_f (Int32.not_le.mpr h5)] | rw [pIf_t (Int32.not_le.mp h5)] | rw [pIf_t (Int32.not_lt.mp h5)] | rw [pIf_f (Nat.not_lt.mpr h5)] | rw [pIf_f (Nat.not_le.mpr h5)] | rw [pIf_t (Nat.not_le.mp h5)] | rw [pIf_t (Nat.not_lt.mp h5)] | skip); (first | rw [pIf_t h19] | rw [pIf_f h19] | rw [pIf_f (Int32.not_lt.mpr h19)] | rw [pIf_f (Int32.not_le.mpr h19)] | rw [pIf_t (Int32.not_le.mp h19)] | rw [pIf_t (Int32.not_lt.mp h19)] | rw [pIf_f (Nat.not_lt.mpr h19)] | rw [pIf_f (Nat.not_le.mpr h19)] | rw [pIf_t (Nat.not_le.mp h19)] | rw [pIf_t (Nat.not_lt.mp h19)] | skip); (try rw [nI_clamp (show k < 2 ^ 31 from by omega)]); all_goals rfl, rfl⟩)
  ·
    refine aw_iconst (v := (-1)) dX8_wants_8 (by decide) ?_
    refine aw_goto (tgt := 42) dX8_wants_9 (by decide) ?_
    exact aw_iret rfl dX8_wants_42 (by first | contradiction | exact ⟨by unfold wan8; (try rw [nI_clamp (show k < 2 ^ 31 from by omega)]); (first | rw [pIf_t h5] | rw [pIf_f h5] | rw [pIf_f (Int32.not_lt.mpr h5)] | rw [pIf_f (Int32.not_le.mpr h5)] | rw [pIf_t (Int32.not_le.mp h5)] | rw [pIf_t (Int32.not_lt.mp h5)] | rw [pIf_f (Nat.not_lt.mpr h5)] | rw [pIf_f (Nat.not_le.mpr h5)] | rw [pIf_t (Nat.not_le.mp h5)] | rw [pIf_t (Nat.not_lt.mp h5)] | skip); (try rw [nI_clamp (show k < 2 ^ 31 from by omega)]); all_goals rfl, rfl⟩)
theorem m_X8_intAt {l : Launch} {M : Mm} {k j : Nat} (hk : k < 8) (hj : j < 100) : AMet l 1 yX8_intAt cX8_intAt 3 (some FieldType.int) [.ref 105, .int (nI k), .int (nI j)] M (QE (some (.int (M.2 124 (100 * k + j)).toInt32)) M) := by
  refine AMet.of (by decide) (by simp [aargs, Value.category]) ?_
  show AW l 1 yX8_intAt cX8_intAt 3 (some FieldType.int) 0 [some (.ref 105), some (.int (nI k)), some (.int (nI j))] [] M _
  refine aw_aload_n (i := 0) dX8_intAt_0 rfl rfl ?_
  refine aw_getR gf_X8_74 sh_105 rfl dX8_intAt_1 ?_
  refine aw_bipush (v := 100) dX8_intAt_4 (by decide) ?_
  refine aw_iload_n (i := 1) dX8_intAt_6 rfl rfl ?_
  refine aw_imul dX8_intAt_7 ?_
  refine aw_top (nI_100 k hk) ?_
  refine aw_iload_n (i := 2) dX8_intAt_8 rfl rfl ?_
  refine aw_iadd dX8_intAt_9 ?_
  refine aw_top (nI_add (100 * k) j) ?_
  refine aw_laldN sh_124 (by omega) (by omega) dX8_intAt_10 ?_
  refine aw_l2i dX8_intAt_11 ?_
  exact aw_iret rfl dX8_intAt_12 ⟨rfl, rfl⟩
theorem m_X8_onSeat {l : Launch} {M : Mm} {s : Int32} {n : Nat} (hn : M.1 105 0 = nI n) (hn30 : n ≤ 30) : AMet l 1 yX8_onSeat cX8_onSeat 3 (some FieldType.int) [.ref 105, .int s] M (QE (some (.int (onI (M.1 108) s n))) M) := by
  refine AMet.of (by decide) (by simp [aargs, Value.category]) ?_
  show AW l 1 yX8_onSeat cX8_onSeat 3 (some FieldType.int) 0 [some (.ref 105), some (.int s), none] [] M _
  refine aw_iconst (v := 0) dX8_onSeat_0 (by decide) ?_
  refine aw_istore_n (i := 2) dX8_onSeat_1 rfl (by decide) ?_
  have lp2 : ∀ k9 j, j + k9 = n → whileN (fun i => ¬ M.1 108 i = s) k9 j = onN (M.1 108) s n → AW l 1 yX8_onSeat cX8_onSeat 3 (some FieldType.int) 2 [some (.ref 105), some (.int s), some (.int (nI j))] [] M (QE (some (.int (onI (M.1 108) s n))) M) := by
    intro k9
    induction k9 using Nat.strongRecOn with
    | _ k9 ih =>
    intro j hk9 hK
    refine aw_iload_n (i := 2) dX8_onSeat_2 rfl rfl ?_
    refine aw_aload_n (i := 0) dX8_onSeat_3 rfl rfl ?_
    refine aw_getN (n := n) gf_X8_132 sh_105 rfl (by first | exact hn | simpa [mI] using hn) dX8_onSeat_4 ?_
    refine aw_icmp_geN (tgt := 28) (by omega) (by omega) dX8_onSeat_7 (by decide) (fun h7 => ?_) (fun h7 => ?_)
    ·
      refine aw_iconst (v := (-1)) dX8_onSeat_28 (by decide) ?_
      exact aw_iret rfl dX8_onSeat_29 ⟨by rw [onI, ← hK, show k9 = 0 by omega, pIf_f (show ¬ whileN (fun i => ¬ M.1 108 i = s) 0 j < n from by show ¬ j < n; omega)], rfl⟩
    ·
      refine aw_aload_n (i := 0) dX8_onSeat_10 rfl rfl ?_
      refine aw_getR gf_X8_26 sh_105 rfl dX8_onSeat_11 ?_
      refine aw_iload_n (i := 2) dX8_onSeat_14 rfl rfl ?_
      refine aw_ialdN sh_108 (by omega) (by omega) dX8_onSeat_15 ?_
      refine aw_iload_n (i := 1) dX8_onSeat_16 rfl rfl ?_
      refine aw_icmp_ne (tgt := 22) dX8_onSeat_17 (by decide) (fun h17 => ?_) (fun h17 => ?_)
      ·
        refine aw_iincN (i := 2) dX8_onSeat_22 rfl (by decide) ?_
        refine aw_goto (tgt := 2) dX8_onSeat_25 (by decide) ?_
        refine aw_loc (la := [some (.ref 105), some (.int s), some (.int (nI (j + 1)))]) ⟨rfl, rfl, rfl, trivial⟩ ?_
        exact ih (k9 - 1) (by omega) (j + 1) (by omega) (by rw [whileN_t (P := fun i => ¬ M.1 108 i = s) h17 (by omega)]; exact hK)
      ·
        refine aw_iload_n (i := 2) dX8_onSeat_20 rfl rfl ?_
        exact aw_iret rfl dX8_onSeat_21 ⟨by rw [onI, ← hK, whileN_f (P := fun i => ¬ M.1 108 i = s) (fun q => q h17), pIf_t (show j < n by omega)], rfl⟩
  refine aw_loc (la := [some (.ref 105), some (.int s), some (.int (nI 0))]) ⟨rfl, rfl, rfl, trivial⟩ ?_
  exact lp2 n 0 (by omega) rfl
theorem m_X8_isOne {l : Launch} {M : Mm} {k s : Int32} : AMet l 2 yX8_isOne cX8_isOne 3 (some FieldType.boolean) [.ref 105, .int k, .int s] M (QE (some (.int (b01 ((¬ k < 0 ∧ ¬ 6 < k) ∧ (¬ s < 0 ∧ ¬ 48 ≤ s))))) M) := by
  refine AMet.of (by decide) (by simp [aargs, Value.category]) ?_
  show AW l 2 yX8_isOne cX8_isOne 3 (some FieldType.boolean) 0 [some (.ref 105), some (.int k), some (.int s)] [] M _
  refine aw_iload_n (i := 1) dX8_isOne_0 rfl rfl ?_
  refine aw_if_lt (tgt := 22) dX8_isOne_1 (by decide) (fun h1 => ?_) (fun h1 => ?_)
  ·
    refine aw_iconst (v := 0) dX8_isOne_22 (by decide) ?_
    exact aw_zret rfl (by simp) dX8_isOne_23 ⟨by rw [b01_f (fun q => by first | exact h15 q.2 | exact q.1.2 h7 | exact q.1.1 h1)], rfl⟩
  ·
    refine aw_iload_n (i := 1) dX8_isOne_4 rfl rfl ?_
    refine aw_bipush (v := 6) dX8_isOne_5 (by decide) ?_
    refine aw_icmp_gt (tgt := 22) dX8_isOne_7 (by decide) (fun h7 => ?_) (fun h7 => ?_)
    ·
      refine aw_iconst (v := 0) dX8_isOne_22 (by decide) ?_
      exact aw_zret rfl (by simp) dX8_isOne_23 ⟨by rw [b01_f (fun q => by first | exact h15 q.2 | exact q.1.2 h7 | exact q.1.1 h1)], rfl⟩
    ·
      refine aw_aload_n (i := 0) dX8_isOne_10 rfl rfl ?_
      refine aw_iload_n (i := 2) dX8_isOne_11 rfl rfl ?_
      refine aw_cVi ck_X8_155 m_X8_isSeat sh_105 rfl (by decide) (by decide) rfl rfl (Nat.le_of_ble_eq_true rfl) dX8_isOne_12 ?_
      refine aw_ifeq_b (tgt := 22) dX8_isOne_15 (by decide) (fun h15 => ?_) (fun h15 => ?_)
      ·
        refine aw_iconst (v := 0) dX8_isOne_22 (by decide) ?_
        exact aw_zret rfl (by simp) dX8_isOne_23 ⟨by rw [b01_f (fun q => by first | exact h15 q.2 | exact q.1.2 h7 | exact q.1.1 h1)], rfl⟩
      ·
        refine aw_iconst (v := 1) dX8_isOne_18 (by decide) ?_
        refine aw_goto (tgt := 23) dX8_isOne_19 (by decide) ?_
        exact aw_zret rfl (by simp) dX8_isOne_23 ⟨by rw [b01_t ⟨⟨h1, h7⟩, h15⟩], rfl⟩
theorem m_X8_isSo {l : Launch} {M : Mm} {s l9 c a : Int32} {n : Nat} (hn : M.1 105 0 = nI n) (hn30 : n ≤ 30) : AMet l 2 yX8_isSo cX8_isSo 5 (some FieldType.boolean) [.ref 105, .int s, .int l9, .int c, .int a] M (QE (some (.int (b01 ((¬ l9 < 0 ∧ ¬ 99 < l9) ∧ (¬ c < 1 ∧ ¬ 9 < c) ∧ (¬ a < 0 ∧ ¬ 99 < a) ∧ onI (M.1 108) s n = -1)))) M) := by
  refine AMet.of (by decide) (by simp [aargs, Value.category]) ?_
  show AW l 2 yX8_isSo cX8_isSo 5 (some FieldType.boolean) 0 [some (.ref 105), some (.int s), some (.int l9), some (.int c), some (.int a)] [] M _
  refine aw_iload_n (i := 2) dX8_isSo_0 rfl rfl ?_
  refine aw_if_lt (tgt := 46) dX8_isSo_1 (by decide) (fun h1 => ?_) (fun h1 => ?_)
  ·
    refine aw_iconst (v := 0) dX8_isSo_46 (by decide) ?_
    exact aw_zret rfl (by simp) dX8_isSo_47 ⟨by rw [b01_f (fun q => by first | exact h39 q.2.2.2 | exact q.2.2.1.2 h30 | exact q.2.2.1.1 h23 | exact q.2.1.2 h18 | exact q.2.1.1 h12 | exact q.1.2 h7 | exact q.1.1 h1)], rfl⟩
  ·
    refine aw_iload_n (i := 2) dX8_isSo_4 rfl rfl ?_
    refine aw_bipush (v := 99) dX8_isSo_5 (by decide) ?_
    refine aw_icmp_gt (tgt := 46) dX8_isSo_7 (by decide) (fun h7 => ?_) (fun h7 => ?_)
    ·
      refine aw_iconst (v := 0) dX8_isSo_46 (by decide) ?_
      exact aw_zret rfl (by simp) dX8_isSo_47 ⟨by rw [b01_f (fun q => by first | exact h39 q.2.2.2 | exact q.2.2.1.2 h30 | exact q.2.2.1.1 h23 | exact q.2.1.2 h18 | exact q.2.1.1 h12 | exact q.1.2 h7 | exact q.1.1 h1)], rfl⟩
    ·
      refine aw_iload_n (i := 3) dX8_isSo_10 rfl rfl ?_
      refine aw_iconst (v := 1) dX8_isSo_11 (by decide) ?_
      refine aw_icmp_lt (tgt := 46) dX8_isSo_12 (by decide) (fun h12 => ?_) (fun h12 => ?_)
      ·
        refine aw_iconst (v := 0) dX8_isSo_46 (by decide) ?_
        exact aw_zret rfl (by simp) dX8_isSo_47 ⟨by rw [b01_f (fun q => by first | exact h39 q.2.2.2 | exact q.2.2.1.2 h30 | exact q.2.2.1.1 h23 | exact q.2.1.2 h18 | exact q.2.1.1 h12 | exact q.1.2 h7 | exact q.1.1 h1)], rfl⟩
      ·
        refine aw_iload_n (i := 3) dX8_isSo_15 rfl rfl ?_
        refine aw_bipush (v := 9) dX8_isSo_16 (by decide) ?_
        refine aw_icmp_gt (tgt := 46) dX8_isSo_18 (by decide) (fun h18 => ?_) (fun h18 => ?_)
        ·
          refine aw_iconst (v := 0) dX8_isSo_46 (by decide) ?_
          exact aw_zret rfl (by simp) dX8_isSo_47 ⟨by rw [b01_f (fun q => by first | exact h39 q.2.2.2 | exact q.2.2.1.2 h30 | exact q.2.2.1.1 h23 | exact q.2.1.2 h18 | exact q.2.1.1 h12 | exact q.1.2 h7 | exact q.1.1 h1)], rfl⟩
        ·
          refine aw_iload (i := 4) dX8_isSo_21 rfl ?_
          refine aw_if_lt (tgt := 46) dX8_isSo_23 (by decide) (fun h23 => ?_) (fun h23 => ?_)
          ·
            refine aw_iconst (v := 0) dX8_isSo_46 (by decide) ?_
            exact aw_zret rfl (by simp) dX8_isSo_47 ⟨by rw [b01_f (fun q => by first | exact h39 q.2.2.2 | exact q.2.2.1.2 h30 | exact q.2.2.1.1 h23 | exact q.2.1.2 h18 | exact q.2.1.1 h12 | exact q.1.2 h7 | exact q.1.1 h1)], rfl⟩
          ·
            refine aw_iload (i := 4) dX8_isSo_26 rfl ?_
            refine aw_bipush (v := 99) dX8_isSo_28 (by decide) ?_
            refine aw_icmp_gt (tgt := 46) dX8_isSo_30 (by decide) (fun h30 => ?_) (fun h30 => ?_)
            ·
              refine aw_iconst (v := 0) dX8_isSo_46 (by decide) ?_
              exact aw_zret rfl (by simp) dX8_isSo_47 ⟨by rw [b01_f (fun q => by first | exact h39 q.2.2.2 | exact q.2.2.1.2 h30 | exact q.2.2.1.1 h23 | exact q.2.1.2 h18 | exact q.2.1.1 h12 | exact q.1.2 h7 | exact q.1.1 h1)], rfl⟩
            ·
              refine aw_aload_n (i := 0) dX8_isSo_33 rfl rfl ?_
              refine aw_iload_n (i := 1) dX8_isSo_34 rfl rfl ?_
              refine aw_cVi ck_X8_158 (m_X8_onSeat hn hn30) sh_105 rfl (by decide) (by decide) rfl rfl (Nat.le_of_ble_eq_true rfl) dX8_isSo_35 ?_
              refine aw_iconst (v := (-1)) dX8_isSo_38 (by decide) ?_
              refine aw_icmp_ne (tgt := 46) dX8_isSo_39 (by decide) (fun h39 => ?_) (fun h39 => ?_)
              ·
                refine aw_iconst (v := 0) dX8_isSo_46 (by decide) ?_
                exact aw_zret rfl (by simp) dX8_isSo_47 ⟨by rw [b01_f (fun q => by first | exact h39 q.2.2.2 | exact q.2.2.1.2 h30 | exact q.2.2.1.1 h23 | exact q.2.1.2 h18 | exact q.2.1.1 h12 | exact q.1.2 h7 | exact q.1.1 h1)], rfl⟩
              ·
                refine aw_iconst (v := 1) dX8_isSo_42 (by decide) ?_
                refine aw_goto (tgt := 47) dX8_isSo_43 (by decide) ?_
                exact aw_zret rfl (by simp) dX8_isSo_47 ⟨by rw [b01_t ⟨⟨h1, h7⟩, ⟨h12, h18⟩, ⟨h23, h30⟩, h39⟩], rfl⟩
def comM (n : Nat) (k s l9 c a : Int32) (M : Mm) : Mm := mI (mI (mI (mI (mI (mI (mI (mI (mI (mI (mI M 107 n k) 108 n s) 109 n l9) 110 n c) 111 n a) 112 n 0) 113 n 0) 114 n 0) 115 n 0) 116 n 0) 105 0 (nI (n + 1))
theorem m_X8_comes {l : Launch} {M : Mm} {k s l9 c a : Int32} {n : Nat} (hn : M.1 105 0 = nI n) (hn30 : n < 30) : AMet l 1 yX8_comes cX8_comes 6 none [.ref 105, .int k, .int s, .int l9, .int c, .int a] M (QE none (comM n k s l9 c a M)) := by
  refine AMet.of (by decide) (by simp [aargs, Value.category]) ?_
  show AW l 1 yX8_comes cX8_comes 6 none 0 [some (.ref 105), some (.int k), some (.int s), some (.int l9), some (.int c), some (.int a)] [] M _
  refine aw_aload_n (i := 0) dX8_comes_0 rfl rfl ?_
  refine aw_getR gf_X8_23 sh_105 rfl dX8_comes_1 ?_
  refine aw_aload_n (i := 0) dX8_comes_4 rfl rfl ?_
  refine aw_getN (n := n) gf_X8_132 sh_105 rfl (by first | exact hn | simpa [mI] using hn) dX8_comes_5 ?_
  refine aw_iload_n (i := 1) dX8_comes_8 rfl rfl ?_
  refine aw_iastN sh_107 (by omega) (by omega) dX8_comes_9 ?_
  refine aw_aload_n (i := 0) dX8_comes_10 rfl rfl ?_
  refine aw_getR gf_X8_26 sh_105 rfl dX8_comes_11 ?_
  refine aw_aload_n (i := 0) dX8_comes_14 rfl rfl ?_
  refine aw_getN (n := n) gf_X8_132 sh_105 rfl (by first | exact hn | simpa [mI] using hn) dX8_comes_15 ?_
  refine aw_iload_n (i := 2) dX8_comes_18 rfl rfl ?_
  refine aw_iastN sh_108 (by omega) (by omega) dX8_comes_19 ?_
  refine aw_aload_n (i := 0) dX8_comes_20 rfl rfl ?_
  refine aw_getR gf_X8_29 sh_105 rfl dX8_comes_21 ?_
  refine aw_aload_n (i := 0) dX8_comes_24 rfl rfl ?_
  refine aw_getN (n := n) gf_X8_132 sh_105 rfl (by first | exact hn | simpa [mI] using hn) dX8_comes_25 ?_
  refine aw_iload_n (i := 3) dX8_comes_28 rfl rfl ?_
  refine aw_iastN sh_109 (by omega) (by omega) dX8_comes_29 ?_
  refine aw_aload_n (i := 0) dX8_comes_30 rfl rfl ?_
  refine aw_getR gf_X8_32 sh_105 rfl dX8_comes_31 ?_
  refine aw_aload_n (i := 0) dX8_comes_34 rfl rfl ?_
  refine aw_getN (n := n) gf_X8_132 sh_105 rfl (by first | exact hn | simpa [mI] using hn) dX8_comes_35 ?_
  refine aw_iload (i := 4) dX8_comes_38 rfl ?_
  refine aw_iastN sh_110 (by omega) (by omega) dX8_comes_40 ?_
  refine aw_aload_n (i := 0) dX8_comes_41 rfl rfl ?_
  refine aw_getR gf_X8_35 sh_105 rfl dX8_comes_42 ?_
  refine aw_aload_n (i := 0) dX8_comes_45 rfl rfl ?_
  refine aw_getN (n := n) gf_X8_132 sh_105 rfl (by first | exact hn | simpa [mI] using hn) dX8_comes_46 ?_
  refine aw_iload (i := 5) dX8_comes_49 rfl ?_
  refine aw_iastN sh_111 (by omega) (by omega) dX8_comes_51 ?_
  refine aw_aload_n (i := 0) dX8_comes_52 rfl rfl ?_
  refine aw_getR gf_X8_38 sh_105 rfl dX8_comes_53 ?_
  refine aw_aload_n (i := 0) dX8_comes_56 rfl rfl ?_
  refine aw_getN (n := n) gf_X8_132 sh_105 rfl (by first | exact hn | simpa [mI] using hn) dX8_comes_57 ?_
  refine aw_iconst (v := 0) dX8_comes_60 (by decide) ?_
  refine aw_iastN sh_112 (by omega) (by omega) dX8_comes_61 ?_
  refine aw_aload_n (i := 0) dX8_comes_62 rfl rfl ?_
  refine aw_getR gf_X8_41 sh_105 rfl dX8_comes_63 ?_
  refine aw_aload_n (i := 0) dX8_comes_66 rfl rfl ?_
  refine aw_getN (n := n) gf_X8_132 sh_105 rfl (by first | exact hn | simpa [mI] using hn) dX8_comes_67 ?_
  refine aw_iconst (v := 0) dX8_comes_70 (by decide) ?_
  refine aw_iastN sh_113 (by omega) (by omega) dX8_comes_71 ?_
  refine aw_aload_n (i := 0) dX8_comes_72 rfl rfl ?_
  refine aw_getR gf_X8_44 sh_105 rfl dX8_comes_73 ?_
  refine aw_aload_n (i := 0) dX8_comes_76 rfl rfl ?_
  refine aw_getN (n := n) gf_X8_132 sh_105 rfl (by first | exact hn | simpa [mI] using hn) dX8_comes_77 ?_
  refine aw_iconst (v := 0) dX8_comes_80 (by decide) ?_
  refine aw_iastN sh_114 (by omega) (by omega) dX8_comes_81 ?_
  refine aw_aload_n (i := 0) dX8_comes_82 rfl rfl ?_
  refine aw_getR gf_X8_47 sh_105 rfl dX8_comes_83 ?_
  refine aw_aload_n (i := 0) dX8_comes_86 rfl rfl ?_
  refine aw_getN (n := n) gf_X8_132 sh_105 rfl (by first | exact hn | simpa [mI] using hn) dX8_comes_87 ?_
  refine aw_iconst (v := 0) dX8_comes_90 (by decide) ?_
  refine aw_iastN sh_115 (by omega) (by omega) dX8_comes_91 ?_
  refine aw_aload_n (i := 0) dX8_comes_92 rfl rfl ?_
  refine aw_getR gf_X8_50 sh_105 rfl dX8_comes_93 ?_
  refine aw_aload_n (i := 0) dX8_comes_96 rfl rfl ?_
  refine aw_getN (n := n) gf_X8_132 sh_105 rfl (by first | exact hn | simpa [mI] using hn) dX8_comes_97 ?_
  refine aw_iconst (v := 0) dX8_comes_100 (by decide) ?_
  refine aw_iastN sh_116 (by omega) (by omega) dX8_comes_101 ?_
  refine aw_aload_n (i := 0) dX8_comes_102 rfl rfl ?_
  refine aw_dup dX8_comes_103 rfl ?_
  refine aw_getN (n := n) gf_X8_132 sh_105 rfl (by first | exact hn | simpa [mI] using hn) dX8_comes_104 ?_
  refine aw_iconst (v := 1) dX8_comes_107 (by decide) ?_
  refine aw_iadd dX8_comes_108 ?_
  refine aw_top ((nI_succ n).symm) ?_
  refine aw_putI pf_X8_132 sh_105 rfl dX8_comes_109 ?_
  exact aw_vret rfl dX8_comes_112 ⟨rfl, rfl⟩
theorem m_X8_element {l : Launch} {M : Mm} {s i : Int32} (hz : siz8 M) : AMet l 2 yX8_element cX8_element 3 (some FieldType.long) [.ref 105, .int s, .int i] M (QE (some (.long (elL8 M s i))) M) := by
  refine AMet.of (by decide) (by simp [aargs, Value.category]) ?_
  show AW l 2 yX8_element cX8_element 3 (some FieldType.long) 0 [some (.ref 105), some (.int s), some (.int i)] [] M _
  refine aw_aload_n (i := 0) dX8_element_0 rfl rfl ?_
  refine aw_iload_n (i := 1) dX8_element_1 rfl rfl ?_
  refine aw_cVi ck_X8_138 m_X8_isShelf sh_105 rfl (by decide) (by decide) rfl rfl (Nat.le_of_ble_eq_true rfl) dX8_element_2 ?_
  refine aw_ifeq_b (tgt := 46) dX8_element_5 (by decide) (fun h5 => ?_) (fun h5 => ?_)
  ·
    refine aw_lconst (v := 0) dX8_element_46 (by decide) ?_
    exact aw_lret rfl dX8_element_47 (by first | contradiction | exact ⟨by unfold elL8; (try rw [nI_clamp (show k < 2 ^ 31 from by omega)]); (try rw [nI_clamp (show j < 2 ^ 31 from by omega)]); (first | rw [pIf_t h5] | rw [pIf_f h5] | rw [pIf_f (Int32.not_lt.mpr h5)] | rw [pIf_f (Int32.not_le.mpr h5)] | rw [pIf_t (Int32.not_le.mp h5)] | rw [pIf_t (Int32.not_lt.mp h5)] | rw [pIf_f (Nat.not_lt.mpr h5)] | rw [pIf_f (Nat.not_le.mpr h5)] | rw [pIf_t (Nat.not_le.mp h5)] | rw [pIf_t (Nat.not_lt.mp h5)] | skip); (try rw [nI_clamp (show k < 2 ^ 31 from by omega)]); (try rw [nI_clamp (show j < 2 ^ 31 from by omega)]); all_goals rfl, rfl⟩)
  ·
    obtain ⟨k, hk, rfl⟩ := shf_k h5
    refine aw_aload_n (i := 0) dX8_element_8 rfl rfl ?_
    refine aw_getR gf_X8_62 sh_105 rfl dX8_element_9 ?_
    refine aw_iload_n (i := 1) dX8_element_12 rfl rfl ?_
    refine aw_ialdN sh_120 (by omega) (by omega) dX8_element_13 ?_
    refine aw_iconst (v := 1) dX8_element_14 (by decide) ?_
    refine aw_icmp_ne (tgt := 46) dX8_element_15 (by decide) (fun h15 => ?_) (fun h15 => ?_)
    ·
      refine aw_lconst (v := 0) dX8_element_46 (by decide) ?_
      exact aw_lret rfl dX8_element_47 (by first | contradiction | exact ⟨by unfold elL8; (try rw [nI_clamp (show k < 2 ^ 31 from by omega)]); (try rw [nI_clamp (show j < 2 ^ 31 from by omega)]); (first | rw [pIf_t h5] | rw [pIf_f h5] | rw [pIf_f (Int32.not_lt.mpr h5)] | rw [pIf_f (Int32.not_le.mpr h5)] | rw [pIf_t (Int32.not_le.mp h5)] | rw [pIf_t (Int32.not_lt.mp h5)] | rw [pIf_f (Nat.not_lt.mpr h5)] | rw [pIf_f (Nat.not_le.mpr h5)] | rw [pIf_t (Nat.not_le.mp h5)] | rw [pIf_t (Nat.not_lt.mp h5)] | skip); (first | rw [pIf_t h15] | rw [pIf_f h15] | rw [pIf_f (Int32.not_lt.mpr h15)] | rw [pIf_f (Int32.not_le.mpr h15)] | rw [pIf_t (Int32.not_le.mp h15)] | rw [pIf_t (Int32.not_lt.mp h15)] | rw [pIf_f (Nat.not_lt.mpr h15)] | rw [pIf_f (Nat.not_le.mpr h15)] | rw [pIf_t (Nat.not_le.mp h15)] | rw [pIf_t (Nat.not_lt.mp h15)] | skip); (try rw [nI_clamp (show k < 2 ^ 31 from by omega)]); (try rw [nI_clamp (show j < 2 ^ 31 from by omega)]); all_goals rfl, rfl⟩)
    ·
      refine aw_iload_n (i := 2) dX8_element_18 rfl rfl ?_
      refine aw_if_lt (tgt := 46) dX8_element_19 (by decide) (fun h19 => ?_) (fun h19 => ?_)
      ·
        refine aw_lconst (v := 0) dX8_element_46 (by decide) ?_
        exact aw_lret rfl dX8_element_47 (by first | contradiction | exact ⟨by unfold elL8; (try rw [nI_clamp (show k < 2 ^ 31 from by omega)]); (try rw [nI_clamp (show j < 2 ^ 31 from by omega)]); (first | rw [pIf_t h5] | rw [pIf_f h5] | rw [pIf_f (Int32.not_lt.mpr h5)] | rw [pIf_f (Int32.not_le.mpr h5)] | rw [pIf_t (Int32.not_le.mp h5)] | rw [pIf_t (Int32.not_lt.mp h5)] | rw [pIf_f (Nat.not_lt.mpr h5)] | rw [pIf_f (Nat.not_le.mpr h5)] | rw [pIf_t (Nat.not_le.mp h5)] | rw [pIf_t (Nat.not_lt.mp h5)] | skip); (first | rw [pIf_t h15] | rw [pIf_f h15] | rw [pIf_f (Int32.not_lt.mpr h15)] | rw [pIf_f (Int32.not_le.mpr h15)] | rw [pIf_t (Int32.not_le.mp h15)] | rw [pIf_t (Int32.not_lt.mp h15)] | rw [pIf_f (Nat.not_lt.mpr h15)] | rw [pIf_f (Nat.not_le.mpr h15)] | rw [pIf_t (Nat.not_le.mp h15)] | rw [pIf_t (Nat.not_lt.mp h15)] | skip); (first | rw [pIf_t h19] | rw [pIf_f h19] | rw [pIf_f (Int32.not_lt.mpr h19)] | rw [pIf_f (Int32.not_le.mpr h19)] | rw [pIf_t (Int32.not_le.mp h19)] | rw [pIf_t (Int32.not_lt.mp h19)] | rw [pIf_f (Nat.not_lt.mpr h19)] | rw [pIf_f (Nat.not_le.mpr h19)] | rw [pIf_t (Nat.not_le.mp h19)] | rw [pIf_t (Nat.not_lt.mp h19)] | skip); (try rw [nI_clamp (show k < 2 ^ 31 from by omega)]); (try rw [nI_clamp (show j < 2 ^ 31 from by omega)]); all_goals rfl, rfl⟩)
      ·
        refine aw_iload_n (i := 2) dX8_element_22 rfl rfl ?_
        refine aw_aload_n (i := 0) dX8_element_23 rfl rfl ?_
        refine aw_getR gf_X8_68 sh_105 rfl dX8_element_24 ?_
        refine aw_iload_n (i := 1) dX8_element_27 rfl rfl ?_
        refine aw_ialdN sh_122 (by omega) (by omega) dX8_element_28 ?_
        refine aw_icmp_ge (tgt := 46) dX8_element_29 (by decide) (fun h29 => ?_) (fun h29 => ?_)
        ·
          refine aw_lconst (v := 0) dX8_element_46 (by decide) ?_
          exact aw_lret rfl dX8_element_47 (by first | contradiction | exact ⟨by unfold elL8; (try rw [nI_clamp (show k < 2 ^ 31 from by omega)]); (try rw [nI_clamp (show j < 2 ^ 31 from by omega)]); (first | rw [pIf_t h5] | rw [pIf_f h5] | rw [pIf_f (Int32.not_lt.mpr h5)] | rw [pIf_f (Int32.not_le.mpr h5)] | rw [pIf_t (Int32.not_le.mp h5)] | rw [pIf_t (Int32.not_lt.mp h5)] | rw [pIf_f (Nat.not_lt.mpr h5)] | rw [pIf_f (Nat.not_le.mpr h5)] | rw [pIf_t (Nat.not_le.mp h5)] | rw [pIf_t (Nat.not_lt.mp h5)] | skip); (first | rw [pIf_t h15] | rw [pIf_f h15] | rw [pIf_f (Int32.not_lt.mpr h15)] | rw [pIf_f (Int32.not_le.mpr h15)] | rw [pIf_t (Int32.not_le.mp h15)] | rw [pIf_t (Int32.not_lt.mp h15)] | rw [pIf_f (Nat.not_lt.mpr h15)] | rw [pIf_f (Nat.not_le.mpr h15)] | rw [pIf_t (Nat.not_le.mp h15)] | rw [pIf_t (Nat.not_lt.mp h15)] | skip); (first | rw [pIf_t h19] | rw [pIf_f h19] | rw [pIf_f (Int32.not_lt.mpr h19)] | rw [pIf_f (Int32.not_le.mpr h19)] | rw [pIf_t (Int32.not_le.mp h19)] | rw [pIf_t (Int32.not_lt.mp h19)] | rw [pIf_f (Nat.not_lt.mpr h19)] | rw [pIf_f (Nat.not_le.mpr h19)] | rw [pIf_t (Nat.not_le.mp h19)] | rw [pIf_t (Nat.not_lt.mp h19)] | skip); (first | rw [pIf_t h29] | rw [pIf_f h29] | rw [pIf_f (Int32.not_lt.mpr h29)] | rw [pIf_f (Int32.not_le.mpr h29)] | rw [pIf_t (Int32.not_le.mp h29)] | rw [pIf_t (Int32.not_lt.mp h29)] | rw [pIf_f (Nat.not_lt.mpr h29)] | rw [pIf_f (Nat.not_le.mpr h29)] | rw [pIf_t (Nat.not_le.mp h29)] | rw [pIf_t (Nat.not_lt.mp h29)] | skip); (try rw [nI_clamp (show k < 2 ^ 31 from by omega)]); (try rw [nI_clamp (show j < 2 ^ 31 from by omega)]); all_goals rfl, rfl⟩)
        ·
          obtain ⟨j, hj, rfl⟩ := s8_k hz hk h19 h29
          refine aw_aload_n (i := 0) dX8_element_32 rfl rfl ?_
          refine aw_getR gf_X8_74 sh_105 rfl dX8_element_33 ?_
          refine aw_bipush (v := 100) dX8_element_36 (by decide) ?_
          refine aw_iload_n (i := 1) dX8_element_38 rfl rfl ?_
          refine aw_imul dX8_element_39 ?_
          refine aw_top (nI_100 k hk) ?_
          refine aw_iload_n (i := 2) dX8_element_40 rfl rfl ?_
          refine aw_iadd dX8_element_41 ?_
          refine aw_top (nI_add (100 * k) j) ?_
          refine aw_laldN sh_124 (by omega) (by omega) dX8_element_42 ?_
          refine aw_goto (tgt := 47) dX8_element_43 (by decide) ?_
          exact aw_lret rfl dX8_element_47 (by first | contradiction | exact ⟨by unfold elL8; (try rw [nI_clamp (show k < 2 ^ 31 from by omega)]); (try rw [nI_clamp (show j < 2 ^ 31 from by omega)]); (first | rw [pIf_t h5] | rw [pIf_f h5] | rw [pIf_f (Int32.not_lt.mpr h5)] | rw [pIf_f (Int32.not_le.mpr h5)] | rw [pIf_t (Int32.not_le.mp h5)] | rw [pIf_t (Int32.not_lt.mp h5)] | rw [pIf_f (Nat.not_lt.mpr h5)] | rw [pIf_f (Nat.not_le.mpr h5)] | rw [pIf_t (Nat.not_le.mp h5)] | rw [pIf_t (Nat.not_lt.mp h5)] | skip); (first | rw [pIf_t h15] | rw [pIf_f h15] | rw [pIf_f (Int32.not_lt.mpr h15)] | rw [pIf_f (Int32.not_le.mpr h15)] | rw [pIf_t (Int32.not_le.mp h15)] | rw [pIf_t (Int32.not_lt.mp h15)] | rw [pIf_f (Nat.not_lt.mpr h15)] | rw [pIf_f (Nat.not_le.mpr h15)] | rw [pIf_t (Nat.not_le.mp h15)] | rw [pIf_t (Nat.not_lt.mp h15)] | skip); (first | rw [pIf_t h19] | rw [pIf_f h19] | rw [pIf_f (Int32.not_lt.mpr h19)] | rw [pIf_f (Int32.not_le.mpr h19)] | rw [pIf_t (Int32.not_le.mp h19)] | rw [pIf_t (Int32.not_lt.mp h19)] | rw [pIf_f (Nat.not_lt.mpr h19)] | rw [pIf_f (Nat.not_le.mpr h19)] | rw [pIf_t (Nat.not_le.mp h19)] | rw [pIf_t (Nat.not_lt.mp h19)] | skip); (first | rw [pIf_t h29] | rw [pIf_f h29] | rw [pIf_f (Int32.not_lt.mpr h29)] | rw [pIf_f (Int32.not_le.mpr h29)] | rw [pIf_t (Int32.not_le.mp h29)] | rw [pIf_t (Int32.not_lt.mp h29)] | rw [pIf_f (Nat.not_lt.mpr h29)] | rw [pIf_f (Nat.not_le.mpr h29)] | rw [pIf_t (Nat.not_le.mp h29)] | rw [pIf_t (Nat.not_lt.mp h29)] | skip); (try rw [nI_clamp (show k < 2 ^ 31 from by omega)]); (try rw [nI_clamp (show j < 2 ^ 31 from by omega)]); all_goals rfl, rfl⟩)
def S8_holds (M : Mm) (s : Int32) (v : Int32) (M' : Mm) : Prop := M' = M ∧ v = pIf (¬ s < 0 ∧ ¬ 8 ≤ s) (pIf (M.1 120 s.toNatClampNeg = 0) (-1) (pIf (M.1 120 s.toNatClampNeg = 1) (100 + M.1 121 s.toNatClampNeg) (M.1 123 s.toNatClampNeg))) (-1)
theorem m_X8_holds {l : Launch} {M : Mm} {s : Int32} : AMet l 3 yX8_holds cX8_holds 2 (some FieldType.int) [.ref 105, .int s] M (QI (S8_holds M s)) := by
  refine AMet.of (by decide) (by simp [aargs, Value.category]) ?_
  show AW l 3 yX8_holds cX8_holds 2 (some FieldType.int) 0 [some (.ref 105), some (.int s)] [] M _
  refine aw_aload_n (i := 0) dX8_holds_0 rfl rfl ?_
  refine aw_iload_n (i := 1) dX8_holds_1 rfl rfl ?_
  refine aw_cVi ck_X8_138 m_X8_isShelf sh_105 rfl (by decide) (by decide) rfl rfl (Nat.le_of_ble_eq_true rfl) dX8_holds_2 ?_
  refine aw_ifeq_b (tgt := 17) dX8_holds_5 (by decide) (fun h5 => ?_) (fun h5 => ?_)
  ·
    refine aw_iconst (v := (-1)) dX8_holds_17 (by decide) ?_
    exact aw_iret rfl dX8_holds_18 ⟨_, rfl, rfl, by (try rw [nI_clamp (show k < 2 ^ 31 from by omega)]); (first | rw [pIf_t h5] | rw [pIf_f h5] | rw [pIf_f (Int32.not_lt.mpr h5)] | rw [pIf_f (Int32.not_le.mpr h5)] | rw [pIf_t (Int32.not_le.mp h5)] | rw [pIf_t (Int32.not_lt.mp h5)] | rw [pIf_f (Nat.not_lt.mpr h5)] | rw [pIf_f (Nat.not_le.mpr h5)] | rw [pIf_t (Nat.not_le.mp h5)] | rw [pIf_t (Nat.not_lt.mp h5)] | skip); (try rw [nI_clamp (show k < 2 ^ 31 from by omega)]); all_goals rfl⟩
  ·
    obtain ⟨k, hk, rfl⟩ := shf_k h5
    refine aw_aload_n (i := 0) dX8_holds_8 rfl rfl ?_
    refine aw_getR gf_X8_62 sh_105 rfl dX8_holds_9 ?_
    refine aw_iload_n (i := 1) dX8_holds_12 rfl rfl ?_
    refine aw_ialdN sh_120 (by omega) (by omega) dX8_holds_13 ?_
    refine aw_if_ne (tgt := 19) dX8_holds_14 (by decide) (fun h14 => ?_) (fun h14 => ?_)
    ·
      refine aw_aload_n (i := 0) dX8_holds_19 rfl rfl ?_
      refine aw_getR gf_X8_62 sh_105 rfl dX8_holds_20 ?_
      refine aw_iload_n (i := 1) dX8_holds_23 rfl rfl ?_
      refine aw_ialdN sh_120 (by omega) (by omega) dX8_holds_24 ?_
      refine aw_iconst (v := 1) dX8_holds_25 (by decide) ?_
      refine aw_icmp_ne (tgt := 41) dX8_holds_26 (by decide) (fun h26 => ?_) (fun h26 => ?_)
      ·
        refine aw_aload_n (i := 0) dX8_holds_41 rfl rfl ?_
        refine aw_getR gf_X8_71 sh_105 rfl dX8_holds_42 ?_
        refine aw_iload_n (i := 1) dX8_holds_45 rfl rfl ?_
        refine aw_ialdN sh_123 (by omega) (by omega) dX8_holds_46 ?_
        exact aw_iret rfl dX8_holds_47 ⟨_, rfl, rfl, by (try rw [nI_clamp (show k < 2 ^ 31 from by omega)]); (first | rw [pIf_t h5] | rw [pIf_f h5] | rw [pIf_f (Int32.not_lt.mpr h5)] | rw [pIf_f (Int32.not_le.mpr h5)] | rw [pIf_t (Int32.not_le.mp h5)] | rw [pIf_t (Int32.not_lt.mp h5)] | rw [pIf_f (Nat.not_lt.mpr h5)] | rw [pIf_f (Nat.not_le.mpr h5)] | rw [pIf_t (Nat.not_le.mp h5)] | rw [pIf_t (Nat.not_lt.mp h5)] | skip); (first | rw [pIf_t h14] | rw [pIf_f h14] | rw [pIf_f (Int32.not_lt.mpr h14)] | rw [pIf_f (Int32.not_le.mpr h14)] | rw [pIf_t (Int32.not_le.mp h14)] | rw [pIf_t (Int32.not_lt.mp h14)] | rw [pIf_f (Nat.not_lt.mpr h14)] | rw [pIf_f (Nat.not_le.mpr h14)] | rw [pIf_t (Nat.not_le.mp h14)] | rw [pIf_t (Nat.not_lt.mp h14)] | skip); (first | rw [pIf_t h26] | rw [pIf_f h26] | rw [pIf_f (Int32.not_lt.mpr h26)] | rw [pIf_f (Int32.not_le.mpr h26)] | rw [pIf_t (Int32.not_le.mp h26)] | rw [pIf_t (Int32.not_lt.mp h26)] | rw [pIf_f (Nat.not_lt.mpr h26)] | rw [pIf_f (Nat.not_le.mpr h26)] | rw [pIf_t (Nat.not_le.mp h26)] | rw [pIf_t (Nat.not_lt.mp h26)] | skip); (try rw [nI_clamp (show k < 2 ^ 31 from by omega)]); all_goals rfl⟩
      ·
        refine aw_bipush (v := 100) dX8_holds_29 (by decide) ?_
        refine aw_aload_n (i := 0) dX8_holds_31 rfl rfl ?_
        refine aw_getR gf_X8_65 sh_105 rfl dX8_holds_32 ?_
        refine aw_iload_n (i := 1) dX8_holds_35 rfl rfl ?_
        refine aw_ialdN sh_121 (by omega) (by omega) dX8_holds_36 ?_
        refine aw_iadd dX8_holds_37 ?_
        refine aw_goto (tgt := 47) dX8_holds_38 (by decide) ?_
        exact aw_iret rfl dX8_holds_47 ⟨_, rfl, rfl, by (try rw [nI_clamp (show k < 2 ^ 31 from by omega)]); (first | rw [pIf_t h5] | rw [pIf_f h5] | rw [pIf_f (Int32.not_lt.mpr h5)] | rw [pIf_f (Int32.not_le.mpr h5)] | rw [pIf_t (Int32.not_le.mp h5)] | rw [pIf_t (Int32.not_lt.mp h5)] | rw [pIf_f (Nat.not_lt.mpr h5)] | rw [pIf_f (Nat.not_le.mpr h5)] | rw [pIf_t (Nat.not_le.mp h5)] | rw [pIf_t (Nat.not_lt.mp h5)] | skip); (first | rw [pIf_t h14] | rw [pIf_f h14] | rw [pIf_f (Int32.not_lt.mpr h14)] | rw [pIf_f (Int32.not_le.mpr h14)] | rw [pIf_t (Int32.not_le.mp h14)] | rw [pIf_t (Int32.not_lt.mp h14)] | rw [pIf_f (Nat.not_lt.mpr h14)] | rw [pIf_f (Nat.not_le.mpr h14)] | rw [pIf_t (Nat.not_le.mp h14)] | rw [pIf_t (Nat.not_lt.mp h14)] | skip); (first | rw [pIf_t h26] | rw [pIf_f h26] | rw [pIf_f (Int32.not_lt.mpr h26)] | rw [pIf_f (Int32.not_le.mpr h26)] | rw [pIf_t (Int32.not_le.mp h26)] | rw [pIf_t (Int32.not_lt.mp h26)] | rw [pIf_f (Nat.not_lt.mpr h26)] | rw [pIf_f (Nat.not_le.mpr h26)] | rw [pIf_t (Nat.not_le.mp h26)] | rw [pIf_t (Nat.not_lt.mp h26)] | skip); (try rw [nI_clamp (show k < 2 ^ 31 from by omega)]); all_goals rfl⟩
    ·
      refine aw_iconst (v := (-1)) dX8_holds_17 (by decide) ?_
      exact aw_iret rfl dX8_holds_18 ⟨_, rfl, rfl, by (try rw [nI_clamp (show k < 2 ^ 31 from by omega)]); (first | rw [pIf_t h5] | rw [pIf_f h5] | rw [pIf_f (Int32.not_lt.mpr h5)] | rw [pIf_f (Int32.not_le.mpr h5)] | rw [pIf_t (Int32.not_le.mp h5)] | rw [pIf_t (Int32.not_lt.mp h5)] | rw [pIf_f (Nat.not_lt.mpr h5)] | rw [pIf_f (Nat.not_le.mpr h5)] | rw [pIf_t (Nat.not_le.mp h5)] | rw [pIf_t (Nat.not_lt.mp h5)] | skip); (first | rw [pIf_t h14] | rw [pIf_f h14] | rw [pIf_f (Int32.not_lt.mpr h14)] | rw [pIf_f (Int32.not_le.mpr h14)] | rw [pIf_t (Int32.not_le.mp h14)] | rw [pIf_t (Int32.not_lt.mp h14)] | rw [pIf_f (Nat.not_lt.mpr h14)] | rw [pIf_f (Nat.not_le.mpr h14)] | rw [pIf_t (Nat.not_le.mp h14)] | rw [pIf_t (Nat.not_lt.mp h14)] | skip); (try rw [nI_clamp (show k < 2 ^ 31 from by omega)]); all_goals rfl⟩
def S8_show (M : Mm) (s x : Int32) (v : Int32) (M' : Mm) : Prop := pIf (¬ s < 0 ∧ ¬ 8 ≤ s) (pIf (x = -1) (v = 0 ∧ M' = mI (mI M 120 s.toNatClampNeg 0) 123 s.toNatClampNeg x) (pIf (¬ x < 0 ∧ ¬ M.1 105 0 ≤ x) (v = 1 ∧ M' = mI (mI M 120 s.toNatClampNeg 2) 123 s.toNatClampNeg x) (v = -1 ∧ M' = nox M 1))) (v = -1 ∧ M' = nox M 1)
theorem m_X8_show {l : Launch} {M : Mm} {s x : Int32} : AMet l 3 yX8_show cX8_show 3 (some FieldType.int) [.ref 105, .int s, .int x] M (QI (S8_show M s x)) := by
  refine AMet.of (by decide) (by simp [aargs, Value.category]) ?_
  show AW l 3 yX8_show cX8_show 3 (some FieldType.int) 0 [some (.ref 105), some (.int s), some (.int x)] [] M _
  refine aw_aload_n (i := 0) dX8_show_0 rfl rfl ?_
  refine aw_iload_n (i := 1) dX8_show_1 rfl rfl ?_
  refine aw_cVi ck_X8_138 m_X8_isShelf sh_105 rfl (by decide) (by decide) rfl rfl (Nat.le_of_ble_eq_true rfl) dX8_show_2 ?_
  refine aw_ifeq_b (tgt := 21) dX8_show_5 (by decide) (fun h5 => ?_) (fun h5 => ?_)
  ·
    refine aw_aload_n (i := 0) dX8_show_21 rfl rfl ?_
    refine aw_iconst (v := (-1)) dX8_show_22 (by decide) ?_
    refine aw_cVi ck_X8_142 (m_X8_no (k := 1) (by decide) (by decide)) sh_105 rfl (by decide) (by decide) rfl rfl (Nat.le_of_ble_eq_true rfl) dX8_show_23 ?_
    exact aw_iret rfl dX8_show_26 (by first | contradiction | exact ⟨_, rfl, by unfold S8_show; (try rw [nI_clamp (show k < 2 ^ 31 from by omega)]); (first | rw [pIf_t h5] | rw [pIf_f h5] | rw [pIf_f (Int32.not_lt.mpr h5)] | rw [pIf_f (Int32.not_le.mpr h5)] | rw [pIf_t (Int32.not_le.mp h5)] | rw [pIf_t (Int32.not_lt.mp h5)] | rw [pIf_f (Nat.not_lt.mpr h5)] | rw [pIf_f (Nat.not_le.mpr h5)] | rw [pIf_t (Nat.not_le.mp h5)] | rw [pIf_t (Nat.not_lt.mp h5)] | skip); (try rw [nI_clamp (show k < 2 ^ 31 from by omega)]); exact ⟨rfl, rfl⟩⟩)
  ·
    obtain ⟨k, hk, rfl⟩ := shf_k h5
    refine aw_iload_n (i := 2) dX8_show_8 rfl rfl ?_
    refine aw_iconst (v := (-1)) dX8_show_9 (by decide) ?_
    refine aw_icmp_eq (tgt := 27) dX8_show_10 (by decide) (fun h10 => ?_) (fun h10 => ?_)
    ·
      refine aw_aload_n (i := 0) dX8_show_27 rfl rfl ?_
      refine aw_getR gf_X8_62 sh_105 rfl dX8_show_28 ?_
      refine aw_iload_n (i := 1) dX8_show_31 rfl rfl ?_
      refine aw_iload_n (i := 2) dX8_show_32 rfl rfl ?_
      refine aw_iconst (v := (-1)) dX8_show_33 (by decide) ?_
      refine aw_icmp_ne (tgt := 41) dX8_show_34 (by decide) (fun h34 => ?_) (fun h34 => ?_)
      ·
        refine aw_iconst (v := 2) dX8_show_41 (by decide) ?_
        refine aw_iastN sh_120 (by omega) (by omega) dX8_show_42 ?_
        refine aw_aload_n (i := 0) dX8_show_43 rfl rfl ?_
        refine aw_getR gf_X8_71 sh_105 rfl dX8_show_44 ?_
        refine aw_iload_n (i := 1) dX8_show_47 rfl rfl ?_
        refine aw_iload_n (i := 2) dX8_show_48 rfl rfl ?_
        refine aw_iastN sh_123 (by omega) (by omega) dX8_show_49 ?_
        refine aw_iload_n (i := 2) dX8_show_50 rfl rfl ?_
        refine aw_iconst (v := (-1)) dX8_show_51 (by decide) ?_
        refine aw_icmp_ne (tgt := 59) dX8_show_52 (by decide) (fun h52 => ?_) (fun h52 => ?_)
        ·
          refine aw_iconst (v := 1) dX8_show_59 (by decide) ?_
          exact aw_iret rfl dX8_show_60 (by first | contradiction | exact ⟨_, rfl, by unfold S8_show; (try rw [nI_clamp (show k < 2 ^ 31 from by omega)]); (first | rw [pIf_t h5] | rw [pIf_f h5] | rw [pIf_f (Int32.not_lt.mpr h5)] | rw [pIf_f (Int32.not_le.mpr h5)] | rw [pIf_t (Int32.not_le.mp h5)] | rw [pIf_t (Int32.not_lt.mp h5)] | rw [pIf_f (Nat.not_lt.mpr h5)] | rw [pIf_f (Nat.not_le.mpr h5)] | rw [pIf_t (Nat.not_le.mp h5)] | rw [pIf_t (Nat.not_lt.mp h5)] | skip); (first | rw [pIf_t h10] | rw [pIf_f h10] | rw [pIf_f (Int32.not_lt.mpr h10)] | rw [pIf_f (Int32.not_le.mpr h10)] | rw [pIf_t (Int32.not_le.mp h10)] | rw [pIf_t (Int32.not_lt.mp h10)] | rw [pIf_f (Nat.not_lt.mpr h10)] | rw [pIf_f (Nat.not_le.mpr h10)] | rw [pIf_t (Nat.not_le.mp h10)] | rw [pIf_t (Nat.not_lt.mp h10)] | skip); (first | rw [pIf_t h34] | rw [pIf_f h34] | rw [pIf_f (Int32.not_lt.mpr h34)] | rw [pIf_f (Int32.not_le.mpr h34)] | rw [pIf_t (Int32.not_le.mp h34)] | rw [pIf_t (Int32.not_lt.mp h34)] | rw [pIf_f (Nat.not_lt.mpr h34)] | rw [pIf_f (Nat.not_le.mpr h34)] | rw [pIf_t (Nat.not_le.mp h34)] | rw [pIf_t (Nat.not_lt.mp h34)] | skip); (first | rw [pIf_t h52] | rw [pIf_f h52] | rw [pIf_f (Int32.not_lt.mpr h52)] | rw [pIf_f (Int32.not_le.mpr h52)] | rw [pIf_t (Int32.not_le.mp h52)] | rw [pIf_t (Int32.not_lt.mp h52)] | rw [pIf_f (Nat.not_lt.mpr h52)] | rw [pIf_f (Nat.not_le.mpr h52)] | rw [pIf_t (Nat.not_le.mp h52)] | rw [pIf_t (Nat.not_lt.mp h52)] | skip); (try rw [nI_clamp (show k < 2 ^ 31 from by omega)]); exact ⟨rfl, rfl⟩⟩)
        ·
          refine aw_iconst (v := 0) dX8_show_55 (by decide) ?_
          refine aw_goto (tgt := 60) dX8_show_56 (by decide) ?_
          exact aw_iret rfl dX8_show_60 (by first | contradiction | exact ⟨_, rfl, by unfold S8_show; (try rw [nI_clamp (show k < 2 ^ 31 from by omega)]); (first | rw [pIf_t h5] | rw [pIf_f h5] | rw [pIf_f (Int32.not_lt.mpr h5)] | rw [pIf_f (Int32.not_le.mpr h5)] | rw [pIf_t (Int32.not_le.mp h5)] | rw [pIf_t (Int32.not_lt.mp h5)] | rw [pIf_f (Nat.not_lt.mpr h5)] | rw [pIf_f (Nat.not_le.mpr h5)] | rw [pIf_t (Nat.not_le.mp h5)] | rw [pIf_t (Nat.not_lt.mp h5)] | skip); (first | rw [pIf_t h10] | rw [pIf_f h10] | rw [pIf_f (Int32.not_lt.mpr h10)] | rw [pIf_f (Int32.not_le.mpr h10)] | rw [pIf_t (Int32.not_le.mp h10)] | rw [pIf_t (Int32.not_lt.mp h10)] | rw [pIf_f (Nat.not_lt.mpr h10)] | rw [pIf_f (Nat.not_le.mpr h10)] | rw [pIf_t (Nat.not_le.mp h10)] | rw [pIf_t (Nat.not_lt.mp h10)] | skip); (first | rw [pIf_t h34] | rw [pIf_f h34] | rw [pIf_f (Int32.not_lt.mpr h34)] | rw [pIf_f (Int32.not_le.mpr h34)] | rw [pIf_t (Int32.not_le.mp h34)] | rw [pIf_t (Int32.not_lt.mp h34)] | rw [pIf_f (Nat.not_lt.mpr h34)] | rw [pIf_f (Nat.not_le.mpr h34)] | rw [pIf_t (Nat.not_le.mp h34)] | rw [pIf_t (Nat.not_lt.mp h34)] | skip); (first | rw [pIf_t h52] | rw [pIf_f h52] | rw [pIf_f (Int32.not_lt.mpr h52)] | rw [pIf_f (Int32.not_le.mpr h52)] | rw [pIf_t (Int32.not_le.mp h52)] | rw [pIf_t (Int32.not_lt.mp h52)] | rw [pIf_f (Nat.not_lt.mpr h52)] | rw [pIf_f (Nat.not_le.mpr h52)] | rw [pIf_t (Nat.not_le.mp h52)] | rw [pIf_t (Nat.not_lt.mp h52)] | skip); (try rw [nI_clamp (show k < 2 ^ 31 from by omega)]); exact ⟨rfl, rfl⟩⟩)
      ·
        refine aw_iconst (v := 0) dX8_show_37 (by decide) ?_
        refine aw_goto (tgt := 42) dX8_show_38 (by decide) ?_
        refine aw_iastN sh_120 (by omega) (by omega) dX8_show_42 ?_
        refine aw_aload_n (i := 0) dX8_show_43 rfl rfl ?_
        refine aw_getR gf_X8_71 sh_105 rfl dX8_show_44 ?_
        refine aw_iload_n (i := 1) dX8_show_47 rfl rfl ?_
        refine aw_iload_n (i := 2) dX8_show_48 rfl rfl ?_
        refine aw_iastN sh_123 (by omega) (by omega) dX8_show_49 ?_
        refine aw_iload_n (i := 2) dX8_show_50 rfl rfl ?_
        refine aw_iconst (v := (-1)) dX8_show_51 (by decide) ?_
        refine aw_icmp_ne (tgt := 59) dX8_show_52 (by decide) (fun h52 => ?_) (fun h52 => ?_)
        ·
          refine aw_iconst (v := 1) dX8_show_59 (by decide) ?_
          exact aw_iret rfl dX8_show_60 (by first | contradiction | exact ⟨_, rfl, by unfold S8_show; (try rw [nI_clamp (show k < 2 ^ 31 from by omega)]); (first | rw [pIf_t h5] | rw [pIf_f h5] | rw [pIf_f (Int32.not_lt.mpr h5)] | rw [pIf_f (Int32.not_le.mpr h5)] | rw [pIf_t (Int32.not_le.mp h5)] | rw [pIf_t (Int32.not_lt.mp h5)] | rw [pIf_f (Nat.not_lt.mpr h5)] | rw [pIf_f (Nat.not_le.mpr h5)] | rw [pIf_t (Nat.not_le.mp h5)] | rw [pIf_t (Nat.not_lt.mp h5)] | skip); (first | rw [pIf_t h10] | rw [pIf_f h10] | rw [pIf_f (Int32.not_lt.mpr h10)] | rw [pIf_f (Int32.not_le.mpr h10)] | rw [pIf_t (Int32.not_le.mp h10)] | rw [pIf_t (Int32.not_lt.mp h10)] | rw [pIf_f (Nat.not_lt.mpr h10)] | rw [pIf_f (Nat.not_le.mpr h10)] | rw [pIf_t (Nat.not_le.mp h10)] | rw [pIf_t (Nat.not_lt.mp h10)] | skip); (first | rw [pIf_t h34] | rw [pIf_f h34] | rw [pIf_f (Int32.not_lt.mpr h34)] | rw [pIf_f (Int32.not_le.mpr h34)] | rw [pIf_t (Int32.not_le.mp h34)] | rw [pIf_t (Int32.not_lt.mp h34)] | rw [pIf_f (Nat.not_lt.mpr h34)] | rw [pIf_f (Nat.not_le.mpr h34)] | rw [pIf_t (Nat.not_le.mp h34)] | rw [pIf_t (Nat.not_lt.mp h34)] | skip); (first | rw [pIf_t h52] | rw [pIf_f h52] | rw [pIf_f (Int32.not_lt.mpr h52)] | rw [pIf_f (Int32.not_le.mpr h52)] | rw [pIf_t (Int32.not_le.mp h52)] | rw [pIf_t (Int32.not_lt.mp h52)] | rw [pIf_f (Nat.not_lt.mpr h52)] | rw [pIf_f (Nat.not_le.mpr h52)] | rw [pIf_t (Nat.not_le.mp h52)] | rw [pIf_t (Nat.not_lt.mp h52)] | skip); (try rw [nI_clamp (show k < 2 ^ 31 from by omega)]); exact ⟨rfl, rfl⟩⟩)
        ·
          refine aw_iconst (v := 0) dX8_show_55 (by decide) ?_
          refine aw_goto (tgt := 60) dX8_show_56 (by decide) ?_
          exact aw_iret rfl dX8_show_60 (by first | contradiction | exact ⟨_, rfl, by unfold S8_show; (try rw [nI_clamp (show k < 2 ^ 31 from by omega)]); (first | rw [pIf_t h5] | rw [pIf_f h5] | rw [pIf_f (Int32.not_lt.mpr h5)] | rw [pIf_f (Int32.not_le.mpr h5)] | rw [pIf_t (Int32.not_le.mp h5)] | rw [pIf_t (Int32.not_lt.mp h5)] | rw [pIf_f (Nat.not_lt.mpr h5)] | rw [pIf_f (Nat.not_le.mpr h5)] | rw [pIf_t (Nat.not_le.mp h5)] | rw [pIf_t (Nat.not_lt.mp h5)] | skip); (first | rw [pIf_t h10] | rw [pIf_f h10] | rw [pIf_f (Int32.not_lt.mpr h10)] | rw [pIf_f (Int32.not_le.mpr h10)] | rw [pIf_t (Int32.not_le.mp h10)] | rw [pIf_t (Int32.not_lt.mp h10)] | rw [pIf_f (Nat.not_lt.mpr h10)] | rw [pIf_f (Nat.not_le.mpr h10)] | rw [pIf_t (Nat.not_le.mp h10)] | rw [pIf_t (Nat.not_lt.mp h10)] | skip); (first | rw [pIf_t h34] | rw [pIf_f h34] | rw [pIf_f (Int32.not_lt.mpr h34)] | rw [pIf_f (Int32.not_le.mpr h34)] | rw [pIf_t (Int32.not_le.mp h34)] | rw [pIf_t (Int32.not_lt.mp h34)] | rw [pIf_f (Nat.not_lt.mpr h34)] | rw [pIf_f (Nat.not_le.mpr h34)] | rw [pIf_t (Nat.not_le.mp h34)] | rw [pIf_t (Nat.not_lt.mp h34)] | skip); (first | rw [pIf_t h52] | rw [pIf_f h52] | rw [pIf_f (Int32.not_lt.mpr h52)] | rw [pIf_f (Int32.not_le.mpr h52)] | rw [pIf_t (Int32.not_le.mp h52)] | rw [pIf_t (Int32.not_lt.mp h52)] | rw [pIf_f (Nat.not_lt.mpr h52)] | rw [pIf_f (Nat.not_le.mpr h52)] | rw [pIf_t (Nat.not_le.mp h52)] | rw [pIf_t (Nat.not_lt.mp h52)] | skip); (try rw [nI_clamp (show k < 2 ^ 31 from by omega)]); exact ⟨rfl, rfl⟩⟩)
    ·
      refine aw_aload_n (i := 0) dX8_show_13 rfl rfl ?_
      refine aw_iload_n (i := 2) dX8_show_14 rfl rfl ?_
      refine aw_cVi ck_X8_146 m_X8_isPerson sh_105 rfl (by decide) (by decide) rfl rfl (Nat.le_of_ble_eq_true rfl) dX8_show_15 ?_
      refine aw_ifne_b (tgt := 27) dX8_show_18 (by decide) (fun h18 => ?_) (fun h18 => ?_)
      ·
        refine aw_aload_n (i := 0) dX8_show_27 rfl rfl ?_
        refine aw_getR gf_X8_62 sh_105 rfl dX8_show_28 ?_
        refine aw_iload_n (i := 1) dX8_show_31 rfl rfl ?_
        refine aw_iload_n (i := 2) dX8_show_32 rfl rfl ?_
        refine aw_iconst (v := (-1)) dX8_show_33 (by decide) ?_
        refine aw_icmp_ne (tgt := 41) dX8_show_34 (by decide) (fun h34 => ?_) (fun h34 => ?_)
        ·
          refine aw_iconst (v := 2) dX8_show_41 (by decide) ?_
          refine aw_iastN sh_120 (by omega) (by omega) dX8_show_42 ?_
          refine aw_aload_n (i := 0) dX8_show_43 rfl rfl ?_
          refine aw_getR gf_X8_71 sh_105 rfl dX8_show_44 ?_
          refine aw_iload_n (i := 1) dX8_show_47 rfl rfl ?_
          refine aw_iload_n (i := 2) dX8_show_48 rfl rfl ?_
          refine aw_iastN sh_123 (by omega) (by omega) dX8_show_49 ?_
          refine aw_iload_n (i := 2) dX8_show_50 rfl rfl ?_
          refine aw_iconst (v := (-1)) dX8_show_51 (by decide) ?_
          refine aw_icmp_ne (tgt := 59) dX8_show_52 (by decide) (fun h52 => ?_) (fun h52 => ?_)
          ·
            refine aw_iconst (v := 1) dX8_show_59 (by decide) ?_
            exact aw_iret rfl dX8_show_60 (by first | contradiction | exact ⟨_, rfl, by unfold S8_show; (try rw [nI_clamp (show k < 2 ^ 31 from by omega)]); (first | rw [pIf_t h5] | rw [pIf_f h5] | rw [pIf_f (Int32.not_lt.mpr h5)] | rw [pIf_f (Int32.not_le.mpr h5)] | rw [pIf_t (Int32.not_le.mp h5)] | rw [pIf_t (Int32.not_lt.mp h5)] | rw [pIf_f (Nat.not_lt.mpr h5)] | rw [pIf_f (Nat.not_le.mpr h5)] | rw [pIf_t (Nat.not_le.mp h5)] | rw [pIf_t (Nat.not_lt.mp h5)] | skip); (first | rw [pIf_t h10] | rw [pIf_f h10] | rw [pIf_f (Int32.not_lt.mpr h10)] | rw [pIf_f (Int32.not_le.mpr h10)] | rw [pIf_t (Int32.not_le.mp h10)] | rw [pIf_t (Int32.not_lt.mp h10)] | rw [pIf_f (Nat.not_lt.mpr h10)] | rw [pIf_f (Nat.not_le.mpr h10)] | rw [pIf_t (Nat.not_le.mp h10)] | rw [pIf_t (Nat.not_lt.mp h10)] | skip); (first | rw [pIf_t h18] | rw [pIf_f h18] | rw [pIf_f (Int32.not_lt.mpr h18)] | rw [pIf_f (Int32.not_le.mpr h18)] | rw [pIf_t (Int32.not_le.mp h18)] | rw [pIf_t (Int32.not_lt.mp h18)] | rw [pIf_f (Nat.not_lt.mpr h18)] | rw [pIf_f (Nat.not_le.mpr h18)] | rw [pIf_t (Nat.not_le.mp h18)] | rw [pIf_t (Nat.not_lt.mp h18)] | skip); (first | rw [pIf_t h34] | rw [pIf_f h34] | rw [pIf_f (Int32.not_lt.mpr h34)] | rw [pIf_f (Int32.not_le.mpr h34)] | rw [pIf_t (Int32.not_le.mp h34)] | rw [pIf_t (Int32.not_lt.mp h34)] | rw [pIf_f (Nat.not_lt.mpr h34)] | rw [pIf_f (Nat.not_le.mpr h34)] | rw [pIf_t (Nat.not_le.mp h34)] | rw [pIf_t (Nat.not_lt.mp h34)] | skip); (first | rw [pIf_t h52] | rw [pIf_f h52] | rw [pIf_f (Int32.not_lt.mpr h52)] | rw [pIf_f (Int32.not_le.mpr h52)] | rw [pIf_t (Int32.not_le.mp h52)] | rw [pIf_t (Int32.not_lt.mp h52)] | rw [pIf_f (Nat.not_lt.mpr h52)] | rw [pIf_f (Nat.not_le.mpr h52)] | rw [pIf_t (Nat.not_le.mp h52)] | rw [pIf_t (Nat.not_lt.mp h52)] | skip); (try rw [nI_clamp (show k < 2 ^ 31 from by omega)]); exact ⟨rfl, rfl⟩⟩)
          ·
            refine aw_iconst (v := 0) dX8_show_55 (by decide) ?_
            refine aw_goto (tgt := 60) dX8_show_56 (by decide) ?_
            exact aw_iret rfl dX8_show_60 (by first | contradiction | exact ⟨_, rfl, by unfold S8_show; (try rw [nI_clamp (show k < 2 ^ 31 from by omega)]); (first | rw [pIf_t h5] | rw [pIf_f h5] | rw [pIf_f (Int32.not_lt.mpr h5)] | rw [pIf_f (Int32.not_le.mpr h5)] | rw [pIf_t (Int32.not_le.mp h5)] | rw [pIf_t (Int32.not_lt.mp h5)] | rw [pIf_f (Nat.not_lt.mpr h5)] | rw [pIf_f (Nat.not_le.mpr h5)] | rw [pIf_t (Nat.not_le.mp h5)] | rw [pIf_t (Nat.not_lt.mp h5)] | skip); (first | rw [pIf_t h10] | rw [pIf_f h10] | rw [pIf_f (Int32.not_lt.mpr h10)] | rw [pIf_f (Int32.not_le.mpr h10)] | rw [pIf_t (Int32.not_le.mp h10)] | rw [pIf_t (Int32.not_lt.mp h10)] | rw [pIf_f (Nat.not_lt.mpr h10)] | rw [pIf_f (Nat.not_le.mpr h10)] | rw [pIf_t (Nat.not_le.mp h10)] | rw [pIf_t (Nat.not_lt.mp h10)] | skip); (first | rw [pIf_t h18] | rw [pIf_f h18] | rw [pIf_f (Int32.not_lt.mpr h18)] | rw [pIf_f (Int32.not_le.mpr h18)] | rw [pIf_t (Int32.not_le.mp h18)] | rw [pIf_t (Int32.not_lt.mp h18)] | rw [pIf_f (Nat.not_lt.mpr h18)] | rw [pIf_f (Nat.not_le.mpr h18)] | rw [pIf_t (Nat.not_le.mp h18)] | rw [pIf_t (Nat.not_lt.mp h18)] | skip); (first | rw [pIf_t h34] | rw [pIf_f h34] | rw [pIf_f (Int32.not_lt.mpr h34)] | rw [pIf_f (Int32.not_le.mpr h34)] | rw [pIf_t (Int32.not_le.mp h34)] | rw [pIf_t (Int32.not_lt.mp h34)] | rw [pIf_f (Nat.not_lt.mpr h34)] | rw [pIf_f (Nat.not_le.mpr h34)] | rw [pIf_t (Nat.not_le.mp h34)] | rw [pIf_t (Nat.not_lt.mp h34)] | skip); (first | rw [pIf_t h52] | rw [pIf_f h52] | rw [pIf_f (Int32.not_lt.mpr h52)] | rw [pIf_f (Int32.not_le.mpr h52)] | rw [pIf_t (Int32.not_le.mp h52)] | rw [pIf_t (Int32.not_lt.mp h52)] | rw [pIf_f (Nat.not_lt.mpr h52)] | rw [pIf_f (Nat.not_le.mpr h52)] | rw [pIf_t (Nat.not_le.mp h52)] | rw [pIf_t (Nat.not_lt.mp h52)] | skip); (try rw [nI_clamp (show k < 2 ^ 31 from by omega)]); exact ⟨rfl, rfl⟩⟩)
        ·
          refine aw_iconst (v := 0) dX8_show_37 (by decide) ?_
          refine aw_goto (tgt := 42) dX8_show_38 (by decide) ?_
          refine aw_iastN sh_120 (by omega) (by omega) dX8_show_42 ?_
          refine aw_aload_n (i := 0) dX8_show_43 rfl rfl ?_
          refine aw_getR gf_X8_71 sh_105 rfl dX8_show_44 ?_
          refine aw_iload_n (i := 1) dX8_show_47 rfl rfl ?_
          refine aw_iload_n (i := 2) dX8_show_48 rfl rfl ?_
          refine aw_iastN sh_123 (by omega) (by omega) dX8_show_49 ?_
          refine aw_iload_n (i := 2) dX8_show_50 rfl rfl ?_
          refine aw_iconst (v := (-1)) dX8_show_51 (by decide) ?_
          refine aw_icmp_ne (tgt := 59) dX8_show_52 (by decide) (fun h52 => ?_) (fun h52 => ?_)
          ·
            refine aw_iconst (v := 1) dX8_show_59 (by decide) ?_
            exact aw_iret rfl dX8_show_60 (by first | contradiction | exact ⟨_, rfl, by unfold S8_show; (try rw [nI_clamp (show k < 2 ^ 31 from by omega)]); (first | rw [pIf_t h5] | rw [pIf_f h5] | rw [pIf_f (Int32.not_lt.mpr h5)] | rw [pIf_f (Int32.not_le.mpr h5)] | rw [pIf_t (Int32.not_le.mp h5)] | rw [pIf_t (Int32.not_lt.mp h5)] | rw [pIf_f (Nat.not_lt.mpr h5)] | rw [pIf_f (Nat.not_le.mpr h5)] | rw [pIf_t (Nat.not_le.mp h5)] | rw [pIf_t (Nat.not_lt.mp h5)] | skip); (first | rw [pIf_t h10] | rw [pIf_f h10] | rw [pIf_f (Int32.not_lt.mpr h10)] | rw [pIf_f (Int32.not_le.mpr h10)] | rw [pIf_t (Int32.not_le.mp h10)] | rw [pIf_t (Int32.not_lt.mp h10)] | rw [pIf_f (Nat.not_lt.mpr h10)] | rw [pIf_f (Nat.not_le.mpr h10)] | rw [pIf_t (Nat.not_le.mp h10)] | rw [pIf_t (Nat.not_lt.mp h10)] | skip); (first | rw [pIf_t h18] | rw [pIf_f h18] | rw [pIf_f (Int32.not_lt.mpr h18)] | rw [pIf_f (Int32.not_le.mpr h18)] | rw [pIf_t (Int32.not_le.mp h18)] | rw [pIf_t (Int32.not_lt.mp h18)] | rw [pIf_f (Nat.not_lt.mpr h18)] | rw [pIf_f (Nat.not_le.mpr h18)] | rw [pIf_t (Nat.not_le.mp h18)] | rw [pIf_t (Nat.not_lt.mp h18)] | skip); (first | rw [pIf_t h34] | rw [pIf_f h34] | rw [pIf_f (Int32.not_lt.mpr h34)] | rw [pIf_f (Int32.not_le.mpr h34)] | rw [pIf_t (Int32.not_le.mp h34)] | rw [pIf_t (Int32.not_lt.mp h34)] | rw [pIf_f (Nat.not_lt.mpr h34)] | rw [pIf_f (Nat.not_le.mpr h34)] | rw [pIf_t (Nat.not_le.mp h34)] | rw [pIf_t (Nat.not_lt.mp h34)] | skip); (first | rw [pIf_t h52] | rw [pIf_f h52] | rw [pIf_f (Int32.not_lt.mpr h52)] | rw [pIf_f (Int32.not_le.mpr h52)] | rw [pIf_t (Int32.not_le.mp h52)] | rw [pIf_t (Int32.not_lt.mp h52)] | rw [pIf_f (Nat.not_lt.mpr h52)] | rw [pIf_f (Nat.not_le.mpr h52)] | rw [pIf_t (Nat.not_le.mp h52)] | rw [pIf_t (Nat.not_lt.mp h52)] | skip); (try rw [nI_clamp (show k < 2 ^ 31 from by omega)]); exact ⟨rfl, rfl⟩⟩)
          ·
            refine aw_iconst (v := 0) dX8_show_55 (by decide) ?_
            refine aw_goto (tgt := 60) dX8_show_56 (by decide) ?_
            exact aw_iret rfl dX8_show_60 (by first | contradiction | exact ⟨_, rfl, by unfold S8_show; (try rw [nI_clamp (show k < 2 ^ 31 from by omega)]); (first | rw [pIf_t h5] | rw [pIf_f h5] | rw [pIf_f (Int32.not_lt.mpr h5)] | rw [pIf_f (Int32.not_le.mpr h5)] | rw [pIf_t (Int32.not_le.mp h5)] | rw [pIf_t (Int32.not_lt.mp h5)] | rw [pIf_f (Nat.not_lt.mpr h5)] | rw [pIf_f (Nat.not_le.mpr h5)] | rw [pIf_t (Nat.not_le.mp h5)] | rw [pIf_t (Nat.not_lt.mp h5)] | skip); (first | rw [pIf_t h10] | rw [pIf_f h10] | rw [pIf_f (Int32.not_lt.mpr h10)] | rw [pIf_f (Int32.not_le.mpr h10)] | rw [pIf_t (Int32.not_le.mp h10)] | rw [pIf_t (Int32.not_lt.mp h10)] | rw [pIf_f (Nat.not_lt.mpr h10)] | rw [pIf_f (Nat.not_le.mpr h10)] | rw [pIf_t (Nat.not_le.mp h10)] | rw [pIf_t (Nat.not_lt.mp h10)] | skip); (first | rw [pIf_t h18] | rw [pIf_f h18] | rw [pIf_f (Int32.not_lt.mpr h18)] | rw [pIf_f (Int32.not_le.mpr h18)] | rw [pIf_t (Int32.not_le.mp h18)] | rw [pIf_t (Int32.not_lt.mp h18)] | rw [pIf_f (Nat.not_lt.mpr h18)] | rw [pIf_f (Nat.not_le.mpr h18)] | rw [pIf_t (Nat.not_le.mp h18)] | rw [pIf_t (Nat.not_lt.mp h18)] | skip); (first | rw [pIf_t h34] | rw [pIf_f h34] | rw [pIf_f (Int32.not_lt.mpr h34)] | rw [pIf_f (Int32.not_le.mpr h34)] | rw [pIf_t (Int32.not_le.mp h34)] | rw [pIf_t (Int32.not_lt.mp h34)] | rw [pIf_f (Nat.not_lt.mpr h34)] | rw [pIf_f (Nat.not_le.mpr h34)] | rw [pIf_t (Nat.not_le.mp h34)] | rw [pIf_t (Nat.not_lt.mp h34)] | skip); (first | rw [pIf_t h52] | rw [pIf_f h52] | rw [pIf_f (Int32.not_lt.mpr h52)] | rw [pIf_f (Int32.not_le.mpr h52)] | rw [pIf_t (Int32.not_le.mp h52)] | rw [pIf_t (Int32.not_lt.mp h52)] | rw [pIf_f (Nat.not_lt.mpr h52)] | rw [pIf_f (Nat.not_le.mpr h52)] | rw [pIf_t (Nat.not_le.mp h52)] | rw [pIf_t (Nat.not_lt.mp h52)] | skip); (try rw [nI_clamp (show k < 2 ^ 31 from by omega)]); exact ⟨rfl, rfl⟩⟩)
      ·
        refine aw_aload_n (i := 0) dX8_show_21 rfl rfl ?_
        refine aw_iconst (v := (-1)) dX8_show_22 (by decide) ?_
        refine aw_cVi ck_X8_142 (m_X8_no (k := 1) (by decide) (by decide)) sh_105 rfl (by decide) (by decide) rfl rfl (Nat.le_of_ble_eq_true rfl) dX8_show_23 ?_
        exact aw_iret rfl dX8_show_26 (by first | contradiction | exact ⟨_, rfl, by unfold S8_show; (try rw [nI_clamp (show k < 2 ^ 31 from by omega)]); (first | rw [pIf_t h5] | rw [pIf_f h5] | rw [pIf_f (Int32.not_lt.mpr h5)] | rw [pIf_f (Int32.not_le.mpr h5)] | rw [pIf_t (Int32.not_le.mp h5)] | rw [pIf_t (Int32.not_lt.mp h5)] | rw [pIf_f (Nat.not_lt.mpr h5)] | rw [pIf_f (Nat.not_le.mpr h5)] | rw [pIf_t (Nat.not_le.mp h5)] | rw [pIf_t (Nat.not_lt.mp h5)] | skip); (first | rw [pIf_t h10] | rw [pIf_f h10] | rw [pIf_f (Int32.not_lt.mpr h10)] | rw [pIf_f (Int32.not_le.mpr h10)] | rw [pIf_t (Int32.not_le.mp h10)] | rw [pIf_t (Int32.not_lt.mp h10)] | rw [pIf_f (Nat.not_lt.mpr h10)] | rw [pIf_f (Nat.not_le.mpr h10)] | rw [pIf_t (Nat.not_le.mp h10)] | rw [pIf_t (Nat.not_lt.mp h10)] | skip); (first | rw [pIf_t h18] | rw [pIf_f h18] | rw [pIf_f (Int32.not_lt.mpr h18)] | rw [pIf_f (Int32.not_le.mpr h18)] | rw [pIf_t (Int32.not_le.mp h18)] | rw [pIf_t (Int32.not_lt.mp h18)] | rw [pIf_f (Nat.not_lt.mpr h18)] | rw [pIf_f (Nat.not_le.mpr h18)] | rw [pIf_t (Nat.not_le.mp h18)] | rw [pIf_t (Nat.not_lt.mp h18)] | skip); (try rw [nI_clamp (show k < 2 ^ 31 from by omega)]); exact ⟨rfl, rfl⟩⟩)
