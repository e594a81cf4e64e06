def absI (x : Int32) : Int32 := if 0 ≤ x then x else 0 - x
def farI (a b : Int32) : Int32 := absI (a / 8 - b / 8) + absI ((a - a / 8 * 8) - (b - b / 8 * 8))
def loudI (f : Int32) : Int32 := if f < 0 then 0 else 12 / (1 + f)
def modI (v n : Int32) : Int32 := if n ≤ 0 then 0 else v - v / n * n
def aboveI (k : Int32) : Int32 := if k = 1 ∨ k = 2 then 0 else if k = 3 ∨ k = 4 ∨ k = 5 then 2 else if k = 6 then 1 else -1
theorem i32_lit {x : Int32} {n : Int} (h : x.toInt = n) (c : Int32) (hc : c.toInt = n) : x = c := Int32.toInt_inj.mp (h.trans hc.symm)
theorem i32_lt {a b : Int32} : a < b ↔ a.toInt < b.toInt := Int32.lt_iff_toInt_lt
theorem i32_le {a b : Int32} : a ≤ b ↔ a.toInt ≤ b.toInt := Int32.le_iff_toInt_le
theorem sw16 (x : Int32) : x = 1 ∨ x = 2 ∨ x = 3 ∨ x = 4 ∨ x = 5 ∨ x = 6 ∨ (x.toInt < 1 ∨ 6 < x.toInt) := by
  by_cases h1 : x.toInt = 1
  · exact Or.inl (i32_lit h1 1 (by decide))
  by_cases h2 : x.toInt = 2
  · exact Or.inr (Or.inl (i32_lit h2 2 (by decide)))
  by_cases h3 : x.toInt = 3
  · exact Or.inr (Or.inr (Or.inl (i32_lit h3 3 (by decide))))
  by_cases h4 : x.toInt = 4
  · exact Or.inr (Or.inr (Or.inr (Or.inl (i32_lit h4 4 (by decide)))))
  by_cases h5 : x.toInt = 5
  · exact Or.inr (Or.inr (Or.inr (Or.inr (Or.inl (i32_lit h5 5 (by decide))))))
  by_cases h6 : x.toInt = 6
  · exact Or.inr (Or.inr (Or.inr (Or.inr (Or.inr (Or.inl (i32_lit h6 6 (by decide)))))))
  exact Or.inr (Or.inr (Or.inr (Or.inr (Or.inr (Or.inr (by omega))))))
theorem no16 {x : Int32} (h : x.toInt < 1 ∨ 6 < x.toInt) : ¬ x = 1 ∧ ¬ x = 2 ∧ ¬ x = 3 ∧ ¬ x = 4 ∧ ¬ x = 5 ∧ ¬ x = 6 := by
  refine ⟨?_, ?_, ?_, ?_, ?_, ?_⟩ <;> rintro rfl <;> revert h <;> decide
theorem vp_in_17 {n : Int32} (h1 : ¬ n < 1) (h2 : ¬ 7 < n) : vp_in (n - 1) 7 := by
  rw [i32_lt] at h1 h2
  have e1 : (1 : Int32).toInt = 1 := by decide
  have e7 : (7 : Int32).toInt = 7 := by decide
  rw [e1] at h1
  rw [e7] at h2
  rw [vp_in_iff, Int32.toInt_sub, e1]
  have : (n.toInt - 1).bmod (2 ^ 32) = n.toInt - 1 := by
    apply Int.bmod_eq_of_le <;> omega
  rw [this]
  omega
/-- one refusal more of number k + 1 -/
def rfx (M : Mm) (k : Nat) : Mm := mI M 1 k (M.1 1 k + 1)

theorem m_X7_isShelf {l : Launch} {M : Mm} {s : Int32} : AMet l 1 yX7_isShelf cX7_isShelf 1 (some FieldType.boolean) [.int s] M (QE (some (.int (b01 (¬ s < 0 ∧ ¬ 8 ≤ s)))) M) := by
  refine AMet.of (by decide) (by simp [aargs, Value.category]) ?_
  show AW l 1 yX7_isShelf cX7_isShelf 1 (some FieldType.boolean) 0 [some (.int s)] [] M _
  refine aw_iload_n (i := 0) dX7_isShelf_0 rfl rfl ?_
  refine aw_if_lt (tgt := 14) dX7_isShelf_1 (by decide) (fun h1 => ?_) (fun h1 => ?_)
  ·
    refine aw_iconst (v := 0) dX7_isShelf_14 (by decide) ?_
    exact aw_zret rfl (by simp) dX7_isShelf_15 (by simp [QE, b01, h1])
  ·
    refine aw_iload_n (i := 0) dX7_isShelf_4 rfl rfl ?_
    refine aw_bipush (v := 8) dX7_isShelf_5 (by decide) ?_
    refine aw_icmp_ge (tgt := 14) dX7_isShelf_7 (by decide) (fun h7 => ?_) (fun h7 => ?_)
    ·
      refine aw_iconst (v := 0) dX7_isShelf_14 (by decide) ?_
      exact aw_zret rfl (by simp) dX7_isShelf_15 (by simp [QE, b01, h1, h7])
    ·
      refine aw_iconst (v := 1) dX7_isShelf_10 (by decide) ?_
      refine aw_goto (tgt := 15) dX7_isShelf_11 (by decide) ?_
      exact aw_zret rfl (by simp) dX7_isShelf_15 (by simp [QE, b01, h1, h7])
theorem m_X7_isSeat {l : Launch} {M : Mm} {s : Int32} : AMet l 1 yX7_isSeat cX7_isSeat 1 (some FieldType.boolean) [.int s] M (QE (some (.int (b01 (¬ s < 0 ∧ ¬ 48 ≤ s)))) M) := by
  refine AMet.of (by decide) (by simp [aargs, Value.category]) ?_
  show AW l 1 yX7_isSeat cX7_isSeat 1 (some FieldType.boolean) 0 [some (.int s)] [] M _
  refine aw_iload_n (i := 0) dX7_isSeat_0 rfl rfl ?_
  refine aw_if_lt (tgt := 14) dX7_isSeat_1 (by decide) (fun h1 => ?_) (fun h1 => ?_)
  ·
    refine aw_iconst (v := 0) dX7_isSeat_14 (by decide) ?_
    exact aw_zret rfl (by simp) dX7_isSeat_15 (by simp [QE, b01, h1])
  ·
    refine aw_iload_n (i := 0) dX7_isSeat_4 rfl rfl ?_
    refine aw_bipush (v := 48) dX7_isSeat_5 (by decide) ?_
    refine aw_icmp_ge (tgt := 14) dX7_isSeat_7 (by decide) (fun h7 => ?_) (fun h7 => ?_)
    ·
      refine aw_iconst (v := 0) dX7_isSeat_14 (by decide) ?_
      exact aw_zret rfl (by simp) dX7_isSeat_15 (by simp [QE, b01, h1, h7])
    ·
      refine aw_iconst (v := 1) dX7_isSeat_10 (by decide) ?_
      refine aw_goto (tgt := 15) dX7_isSeat_11 (by decide) ?_
      exact aw_zret rfl (by simp) dX7_isSeat_15 (by simp [QE, b01, h1, h7])
theorem m_X7_isKind {l : Launch} {M : Mm} {s : Int32} : AMet l 1 yX7_isKind cX7_isKind 1 (some FieldType.boolean) [.int s] M (QE (some (.int (b01 (¬ s < 0 ∧ ¬ 7 ≤ s)))) M) := by
  refine AMet.of (by decide) (by simp [aargs, Value.category]) ?_
  show AW l 1 yX7_isKind cX7_isKind 1 (some FieldType.boolean) 0 [some (.int s)] [] M _
  refine aw_iload_n (i := 0) dX7_isKind_0 rfl rfl ?_
  refine aw_if_lt (tgt := 14) dX7_isKind_1 (by decide) (fun h1 => ?_) (fun h1 => ?_)
  ·
    refine aw_iconst (v := 0) dX7_isKind_14 (by decide) ?_
    exact aw_zret rfl (by simp) dX7_isKind_15 (by simp [QE, b01, h1])
  ·
    refine aw_iload_n (i := 0) dX7_isKind_4 rfl rfl ?_
    refine aw_bipush (v := 7) dX7_isKind_5 (by decide) ?_
    refine aw_icmp_ge (tgt := 14) dX7_isKind_7 (by decide) (fun h7 => ?_) (fun h7 => ?_)
    ·
      refine aw_iconst (v := 0) dX7_isKind_14 (by decide) ?_
      exact aw_zret rfl (by simp) dX7_isKind_15 (by simp [QE, b01, h1, h7])
    ·
      refine aw_iconst (v := 1) dX7_isKind_10 (by decide) ?_
      refine aw_goto (tgt := 15) dX7_isKind_11 (by decide) ?_
      exact aw_zret rfl (by simp) dX7_isKind_15 (by simp [QE, b01, h1, h7])
theorem m_X7_isEvening {l : Launch} {M : Mm} {s : Int32} : AMet l 1 yX7_isEvening cX7_isEvening 1 (some FieldType.boolean) [.int s] M (QE (some (.int (b01 (¬ s < 0 ∧ ¬ 200 < s)))) M) := by
  refine AMet.of (by decide) (by simp [aargs, Value.category]) ?_
  show AW l 1 yX7_isEvening cX7_isEvening 1 (some FieldType.boolean) 0 [some (.int s)] [] M _
  refine aw_iload_n (i := 0) dX7_isEvening_0 rfl rfl ?_
  refine aw_if_lt (tgt := 15) dX7_isEvening_1 (by decide) (fun h1 => ?_) (fun h1 => ?_)
  ·
    refine aw_iconst (v := 0) dX7_isEvening_15 (by decide) ?_
    exact aw_zret rfl (by simp) dX7_isEvening_16 (by simp [QE, b01, h1])
  ·
    refine aw_iload_n (i := 0) dX7_isEvening_4 rfl rfl ?_
    refine aw_sipush (v := 200) dX7_isEvening_5 (by decide) ?_
    refine aw_icmp_gt (tgt := 15) dX7_isEvening_8 (by decide) (fun h8 => ?_) (fun h8 => ?_)
    ·
      refine aw_iconst (v := 0) dX7_isEvening_15 (by decide) ?_
      exact aw_zret rfl (by simp) dX7_isEvening_16 (by simp [QE, b01, h1, h8])
    ·
      refine aw_iconst (v := 1) dX7_isEvening_11 (by decide) ?_
      refine aw_goto (tgt := 16) dX7_isEvening_12 (by decide) ?_
      exact aw_zret rfl (by simp) dX7_isEvening_16 (by simp [QE, b01, h1, h8])
theorem m_X7_isWithin {l : Launch} {M : Mm} {v lo hi : Int32} : AMet l 1 yX7_isWithin cX7_isWithin 3 (some FieldType.boolean) [.int v, .int lo, .int hi] M (QE (some (.int (b01 (¬ v < lo ∧ ¬ hi < v)))) M) := by
  refine AMet.of (by decide) (by simp [aargs, Value.category]) ?_
  show AW l 1 yX7_isWithin cX7_isWithin 3 (some FieldType.boolean) 0 [some (.int v), some (.int lo), some (.int hi)] [] M _
  refine aw_iload_n (i := 0) dX7_isWithin_0 rfl rfl ?_
  refine aw_iload_n (i := 1) dX7_isWithin_1 rfl rfl ?_
  refine aw_icmp_lt (tgt := 14) dX7_isWithin_2 (by decide) (fun h2 => ?_) (fun h2 => ?_)
  ·
    refine aw_iconst (v := 0) dX7_isWithin_14 (by decide) ?_
    exact aw_zret rfl (by simp) dX7_isWithin_15 (by simp [QE, b01, h2])
  ·
    refine aw_iload_n (i := 0) dX7_isWithin_5 rfl rfl ?_
    refine aw_iload_n (i := 2) dX7_isWithin_6 rfl rfl ?_
    refine aw_icmp_gt (tgt := 14) dX7_isWithin_7 (by decide) (fun h7 => ?_) (fun h7 => ?_)
    ·
      refine aw_iconst (v := 0) dX7_isWithin_14 (by decide) ?_
      exact aw_zret rfl (by simp) dX7_isWithin_15 (by simp [QE, b01, h2, h7])
    ·
      refine aw_iconst (v := 1) dX7_isWithin_10 (by decide) ?_
      refine aw_goto (tgt := 15) dX7_isWithin_11 (by decide) ?_
      exact aw_zret rfl (by simp) dX7_isWithin_15 (by simp [QE, b01, h2, h7])
theorem m_X7_modulo {l : Launch} {M : Mm} {v n : Int32} : AMet l 1 yX7_modulo cX7_modulo 2 (some FieldType.int) [.int v, .int n] M (QE (some (.int (modI v n))) M) := by
  refine AMet.of (by decide) (by simp [aargs, Value.category]) ?_
  show AW l 1 yX7_modulo cX7_modulo 2 (some FieldType.int) 0 [some (.int v), some (.int n)] [] M _
  refine aw_iload_n (i := 1) dX7_modulo_0 rfl rfl ?_
  refine aw_if_le (tgt := 10) dX7_modulo_1 (by decide) (fun h1 => ?_) (fun h1 => ?_)
  ·
    refine aw_iconst (v := 0) dX7_modulo_10 (by decide) ?_
    exact aw_iret rfl dX7_modulo_11 (by simp [QE, b01, modI, h1])
  ·
    refine aw_iload_n (i := 0) dX7_modulo_4 rfl rfl ?_
    refine aw_iload_n (i := 1) dX7_modulo_5 rfl rfl ?_
    refine aw_irem dX7_modulo_6 (fun q => h1 (by rw [q]; decide)) ?_
    refine aw_goto (tgt := 11) dX7_modulo_7 (by decide) ?_
    exact aw_iret rfl dX7_modulo_11 (by simp [QE, b01, modI, h1])
theorem m_X7_kindAbove {l : Launch} {M : Mm} {k : Int32} : AMet l 1 yX7_kindAbove cX7_kindAbove 1 (some FieldType.int) [.int k] M (QE (some (.int (aboveI k))) M) := by
  refine AMet.of (by decide) (by simp [aargs, Value.category]) ?_
  show AW l 1 yX7_kindAbove cX7_kindAbove 1 (some FieldType.int) 0 [some (.int k)] [] M _
  refine aw_iload_n (i := 0) dX7_kindAbove_0 rfl rfl ?_
  rcases sw16 k with rfl | rfl | rfl | rfl | rfl | rfl | hk9
  ·
    refine aw_tableIn (off := 39) (tgt := 40) dX7_kindAbove_1 (by decide) (by decide) (by decide) (by decide) ?_
    refine aw_iconst (v := 0) dX7_kindAbove_40 (by decide) ?_
    exact aw_iret rfl dX7_kindAbove_41 (by simp [QE, b01, aboveI])
  ·
    refine aw_tableIn (off := 39) (tgt := 40) dX7_kindAbove_1 (by decide) (by decide) (by decide) (by decide) ?_
    refine aw_iconst (v := 0) dX7_kindAbove_40 (by decide) ?_
    exact aw_iret rfl dX7_kindAbove_41 (by simp [QE, b01, aboveI])
  ·
    refine aw_tableIn (off := 41) (tgt := 42) dX7_kindAbove_1 (by decide) (by decide) (by decide) (by decide) ?_
    refine aw_iconst (v := 2) dX7_kindAbove_42 (by decide) ?_
    exact aw_iret rfl dX7_kindAbove_43 (by simp [QE, b01, aboveI])
  ·
    refine aw_tableIn (off := 41) (tgt := 42) dX7_kindAbove_1 (by decide) (by decide) (by decide) (by decide) ?_
    refine aw_iconst (v := 2) dX7_kindAbove_42 (by decide) ?_
    exact aw_iret rfl dX7_kindAbove_43 (by simp [QE, b01, aboveI])
  ·
    refine aw_tableIn (off := 41) (tgt := 42) dX7_kindAbove_1 (by decide) (by decide) (by decide) (by decide) ?_
    refine aw_iconst (v := 2) dX7_kindAbove_42 (by decide) ?_
    exact aw_iret rfl dX7_kindAbove_43 (by simp [QE, b01, aboveI])
  ·
    refine aw_tableIn (off := 43) (tgt := 44) dX7_kindAbove_1 (by decide) (by decide) (by decide) (by decide) ?_
    refine aw_iconst (v := 1) dX7_kindAbove_44 (by decide) ?_
    exact aw_iret rfl dX7_kindAbove_45 (by simp [QE, b01, aboveI])
  · have hn9 := no16 hk9
    refine aw_tableOut (tgt := 46) dX7_kindAbove_1 hk9 (by decide) ?_
    refine aw_iconst (v := (-1)) dX7_kindAbove_46 (by decide) ?_
    exact aw_iret rfl dX7_kindAbove_47 (by simp [QE, b01, aboveI, hn9])
theorem m_X7_farOf {l : Launch} {M : Mm} {v w : Int32} : AMet l 1 yX7_farOf cX7_farOf 2 (some FieldType.int) [.int v, .int w] M (QE (some (.int (farI v w))) M) := by
  refine AMet.of (by decide) (by simp [aargs, Value.category]) ?_
  show AW l 1 yX7_farOf cX7_farOf 2 (some FieldType.int) 0 [some (.int v), some (.int w)] [] M _
  refine aw_iload_n (i := 0) dX7_farOf_0 rfl rfl ?_
  refine aw_bipush (v := 8) dX7_farOf_1 (by decide) ?_
  refine aw_idiv dX7_farOf_3 (by decide) ?_
  refine aw_iload_n (i := 1) dX7_farOf_4 rfl rfl ?_
  refine aw_bipush (v := 8) dX7_farOf_5 (by decide) ?_
  refine aw_idiv dX7_farOf_7 (by decide) ?_
  refine aw_isub dX7_farOf_8 ?_
  refine aw_mabs (List.mem_append_right _ (List.mem_of_getElem? (i := 395) (by decide +kernel))) (List.mem_append_right _ (List.mem_of_getElem? (i := 396) (by decide +kernel))) (List.mem_append_right _ (List.mem_of_getElem? (i := 12) (by decide +kernel))) (List.mem_append_right _ (List.mem_of_getElem? (i := 397) (by decide +kernel))) (by decide) (Nat.le_of_ble_eq_true rfl) dX7_farOf_9 ?_
  refine aw_iload_n (i := 0) dX7_farOf_12 rfl rfl ?_
  refine aw_bipush (v := 8) dX7_farOf_13 (by decide) ?_
  refine aw_irem dX7_farOf_15 (by decide) ?_
  refine aw_iload_n (i := 1) dX7_farOf_16 rfl rfl ?_
  refine aw_bipush (v := 8) dX7_farOf_17 (by decide) ?_
  refine aw_irem dX7_farOf_19 (by decide) ?_
  refine aw_isub dX7_farOf_20 ?_
  refine aw_mabs (List.mem_append_right _ (List.mem_of_getElem? (i := 395) (by decide +kernel))) (List.mem_append_right _ (List.mem_of_getElem? (i := 396) (by decide +kernel))) (List.mem_append_right _ (List.mem_of_getElem? (i := 12) (by decide +kernel))) (List.mem_append_right _ (List.mem_of_getElem? (i := 397) (by decide +kernel))) (by decide) (Nat.le_of_ble_eq_true rfl) dX7_farOf_21 ?_
  refine aw_iadd dX7_farOf_24 ?_
  exact aw_iret rfl dX7_farOf_25 ⟨rfl, rfl⟩
theorem m_X7_loudnessAt {l : Launch} {M : Mm} {f : Int32} : AMet l 1 yX7_loudnessAt cX7_loudnessAt 1 (some FieldType.int) [.int f] M (QE (some (.int (loudI f))) M) := by
  refine AMet.of (by decide) (by simp [aargs, Value.category]) ?_
  show AW l 1 yX7_loudnessAt cX7_loudnessAt 1 (some FieldType.int) 0 [some (.int f)] [] M _
  refine aw_iload_n (i := 0) dX7_loudnessAt_0 rfl rfl ?_
  refine aw_if_lt (tgt := 13) dX7_loudnessAt_1 (by decide) (fun h1 => ?_) (fun h1 => ?_)
  ·
    refine aw_iconst (v := 0) dX7_loudnessAt_13 (by decide) ?_
    exact aw_iret rfl dX7_loudnessAt_14 (by simp [QE, b01, loudI, h1])
  ·
    refine aw_bipush (v := 12) dX7_loudnessAt_4 (by decide) ?_
    refine aw_iconst (v := 1) dX7_loudnessAt_6 (by decide) ?_
    refine aw_iload_n (i := 0) dX7_loudnessAt_7 rfl rfl ?_
    refine aw_iadd dX7_loudnessAt_8 ?_
    refine aw_idiv dX7_loudnessAt_9 (fun q => h1 (by rw [show f = -1 from by grind]; decide)) ?_
    refine aw_goto (tgt := 14) dX7_loudnessAt_10 (by decide) ?_
    exact aw_iret rfl dX7_loudnessAt_14 (by simp [QE, b01, loudI, h1])
theorem m_X7_refuse {l : Launch} {M : Mm} {a : Int32} {k : Nat} (hn : -a - -a / 10 * 10 = nI (k + 1)) (hk : k < 7) : AMet l 1 yX7_refuse cX7_refuse 3 (some FieldType.int) [.ref 0, .int a] M (QE (some (.int a)) (rfx M k)) := by
  refine AMet.of (by decide) (by simp [aargs, Value.category]) ?_
  show AW l 1 yX7_refuse cX7_refuse 3 (some FieldType.int) 0 [some (.ref 0), some (.int a), none] [] M _
  refine aw_iload_n (i := 1) dX7_refuse_0 rfl rfl ?_
  refine aw_ineg dX7_refuse_1 ?_
  refine aw_bipush (v := 10) dX7_refuse_2 (by decide) ?_
  refine aw_irem dX7_refuse_4 (by decide) ?_
  refine aw_top (hn) ?_
  refine aw_istore_n (i := 2) dX7_refuse_5 rfl (by decide) ?_
  refine aw_iload_n (i := 2) dX7_refuse_6 rfl rfl ?_
  refine aw_iconst (v := 1) dX7_refuse_7 (by decide) ?_
  refine aw_top (show (1 : Int32) = nI 1 from rfl) ?_
  refine aw_icmp_ltN (tgt := 29) (by omega) (by omega) dX7_refuse_8 (by decide) (fun h8 => ?_) (fun h8 => ?_)
  ·
    exact absurd h8 (by omega)
  ·
    refine aw_iload_n (i := 2) dX7_refuse_11 rfl rfl ?_
    refine aw_bipush (v := 7) dX7_refuse_12 (by decide) ?_
    refine aw_top (show (7 : Int32) = nI 7 from rfl) ?_
    refine aw_icmp_gtN (tgt := 29) (by omega) (by omega) dX7_refuse_14 (by decide) (fun h14 => ?_) (fun h14 => ?_)
    ·
      exact absurd h14 (by omega)
    ·
      refine aw_aload_n (i := 0) dX7_refuse_17 rfl rfl ?_
      refine aw_getR gf_X7_61 sh_0 rfl dX7_refuse_18 ?_
      refine aw_iload_n (i := 2) dX7_refuse_21 rfl rfl ?_
      refine aw_iconst (v := 1) dX7_refuse_22 (by decide) ?_
      refine aw_isub dX7_refuse_23 ?_
      refine aw_top (show nI (k + 1) - 1 = nI k from nI_pred k) ?_
      refine aw_dup2 dX7_refuse_24 rfl rfl ?_
      refine aw_ialdN sh_1 (by omega) (by omega) dX7_refuse_25 ?_
      refine aw_iconst (v := 1) dX7_refuse_26 (by decide) ?_
      refine aw_iadd dX7_refuse_27 ?_
      refine aw_iastN sh_1 (by omega) (by omega) dX7_refuse_28 ?_
      refine aw_iload_n (i := 1) dX7_refuse_29 rfl rfl ?_
      exact aw_iret rfl dX7_refuse_30 ⟨rfl, rfl⟩
