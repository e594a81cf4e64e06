theorem sh_cells (k : Nat) (hk : k < 8) : shp[6 + k]? = some (.inr (2, 100, 0)) := match k, hk with
  | 0, _ => rfl
  | 1, _ => rfl
  | 2, _ => rfl
  | 3, _ => rfl
  | 4, _ => rfl
  | 5, _ => rfl
  | 6, _ => rfl
  | 7, _ => rfl
theorem shf_k {s : Int32} (h : ¬ s < 0 ∧ ¬ 8 ≤ s) : ∃ k, k < 8 ∧ s = nI k := by
  rcases pk_ix s (n := 8) (by omega) with q | q | ⟨j, q1, q2⟩
  · exact absurd q h.1
  · exact absurd q h.2
  · exact ⟨j, q1, q2⟩
theorem shf_n {k : Nat} (h : k < 8) : ¬ nI k < 0 ∧ ¬ (8 : Int32) ≤ nI k := ⟨fun q => by have := (nI_ltI (a := k) (b := 0) (by omega) (by omega)).mp q; omega, fun q => by have := (nI_leI (a := 8) (b := k) (by omega) (by omega)).mp q; omega⟩
theorem nI_inj8 {j k : Nat} (hj : j < 8) (hk : k < 8) (h : nI j = nI k) : j = k := (nI_eq (by omega) (by omega)).mp h
def rowP (M : Mm) (s : Int32) : Prop := ∃ k, k < 8 ∧ s = nI k ∧ ¬ M.1 3 k < 100
def perP (M : Mm) (s : Int32) : Prop := ∃ k, k < 8 ∧ s = nI k ∧ ¬ M.1 3 k = -1 ∧ ¬ 100 ≤ M.1 3 k
def elP (M : Mm) (s i : Int32) : Prop := ∃ k, k < 8 ∧ s = nI k ∧ ¬ M.1 3 k < 100 ∧ ¬ i < 0 ∧ ¬ M.1 4 k ≤ i
def partP (M : Mm) (s i n : Int32) : Prop := ∃ k, k < 8 ∧ s = nI k ∧ ¬ M.1 3 k < 100 ∧ ¬ i < 0 ∧ ¬ n < 0 ∧ ¬ 0 < lg_cmp (i.toInt64 + n.toInt64) (M.1 4 k).toInt64
/-- sizes are sizes -/
def sizOK (M : Mm) : Prop := ∀ k, k < 8 → ∃ z, z ≤ 100 ∧ M.1 4 k = nI z
theorem m_X6_holdsRow {l : Launch} {M : Mm} {s : Int32} : AMet l 2 yX6_holdsRow cX6_holdsRow 2 (some FieldType.boolean) [.ref 2, .int s] M (QE (some (.int (b01 (rowP M s)))) M) := by
  refine AMet.of (by decide) (by simp [aargs, Value.category]) ?_
  show AW l 2 yX6_holdsRow cX6_holdsRow 2 (some FieldType.boolean) 0 [some (.ref 2), some (.int s)] [] M _
  refine aw_iload_n (i := 1) dX6_holdsRow_0 rfl rfl ?_
  refine aw_cSi ck_X6_29 m_X7_isShelf (by decide) (by decide) rfl rfl (Nat.le_of_ble_eq_true rfl) dX6_holdsRow_1 ?_
  refine aw_ifeq_b (tgt := 22) dX6_holdsRow_4 (by decide) (fun h4 => ?_) (fun h4 => ?_)
  ·
    refine aw_iconst (v := 0) dX6_holdsRow_22 (by decide) ?_
    exact aw_zret rfl (by simp) dX6_holdsRow_23 ⟨by rw [b01_f (fun q => by obtain ⟨j, hj, e, q⟩ := q; subst e; exact h4 (shf_n hj))], rfl⟩
  ·
    obtain ⟨k, hk, rfl⟩ := shf_k h4
    refine aw_aload_n (i := 0) dX6_holdsRow_7 rfl rfl ?_
    refine aw_getR gf_X6_9 sh_2 rfl dX6_holdsRow_8 ?_
    refine aw_iload_n (i := 1) dX6_holdsRow_11 rfl rfl ?_
    refine aw_ialdN sh_3 (by omega) (by omega) dX6_holdsRow_12 ?_
    refine aw_bipush (v := 100) dX6_holdsRow_13 (by decide) ?_
    refine aw_icmp_lt (tgt := 22) dX6_holdsRow_15 (by decide) (fun h15 => ?_) (fun h15 => ?_)
    ·
      refine aw_iconst (v := 0) dX6_holdsRow_22 (by decide) ?_
      exact aw_zret rfl (by simp) dX6_holdsRow_23 ⟨by rw [b01_f (fun q => by obtain ⟨j, hj, e, q⟩ := q; have e9 := nI_inj8 hk hj e; subst e9; exact q h15)], rfl⟩
    ·
      refine aw_iconst (v := 1) dX6_holdsRow_18 (by decide) ?_
      refine aw_goto (tgt := 23) dX6_holdsRow_19 (by decide) ?_
      exact aw_zret rfl (by simp) dX6_holdsRow_23 ⟨by rw [b01_t ⟨k, hk, rfl, h15⟩], rfl⟩
theorem m_X6_holdsPerson {l : Launch} {M : Mm} {s : Int32} : AMet l 2 yX6_holdsPerson cX6_holdsPerson 2 (some FieldType.boolean) [.ref 2, .int s] M (QE (some (.int (b01 (perP M s)))) M) := by
  refine AMet.of (by decide) (by simp [aargs, Value.category]) ?_
  show AW l 2 yX6_holdsPerson cX6_holdsPerson 2 (some FieldType.boolean) 0 [some (.ref 2), some (.int s)] [] M _
  refine aw_iload_n (i := 1) dX6_holdsPerson_0 rfl rfl ?_
  refine aw_cSi ck_X6_29 m_X7_isShelf (by decide) (by decide) rfl rfl (Nat.le_of_ble_eq_true rfl) dX6_holdsPerson_1 ?_
  refine aw_ifeq_b (tgt := 32) dX6_holdsPerson_4 (by decide) (fun h4 => ?_) (fun h4 => ?_)
  ·
    refine aw_iconst (v := 0) dX6_holdsPerson_32 (by decide) ?_
    exact aw_zret rfl (by simp) dX6_holdsPerson_33 ⟨by rw [b01_f (fun q => by obtain ⟨j, hj, e, q⟩ := q; subst e; exact h4 (shf_n hj))], rfl⟩
  ·
    obtain ⟨k, hk, rfl⟩ := shf_k h4
    refine aw_aload_n (i := 0) dX6_holdsPerson_7 rfl rfl ?_
    refine aw_getR gf_X6_9 sh_2 rfl dX6_holdsPerson_8 ?_
    refine aw_iload_n (i := 1) dX6_holdsPerson_11 rfl rfl ?_
    refine aw_ialdN sh_3 (by omega) (by omega) dX6_holdsPerson_12 ?_
    refine aw_iconst (v := (-1)) dX6_holdsPerson_13 (by decide) ?_
    refine aw_icmp_eq (tgt := 32) dX6_holdsPerson_14 (by decide) (fun h14 => ?_) (fun h14 => ?_)
    ·
      refine aw_iconst (v := 0) dX6_holdsPerson_32 (by decide) ?_
      exact aw_zret rfl (by simp) dX6_holdsPerson_33 ⟨by rw [b01_f (fun q => by obtain ⟨j, hj, e, q, q2⟩ := q; have e9 := nI_inj8 hk hj e; subst e9; exact q h14)], rfl⟩
    ·
      refine aw_aload_n (i := 0) dX6_holdsPerson_17 rfl rfl ?_
      refine aw_getR gf_X6_9 sh_2 rfl dX6_holdsPerson_18 ?_
      refine aw_iload_n (i := 1) dX6_holdsPerson_21 rfl rfl ?_
      refine aw_ialdN sh_3 (by omega) (by omega) dX6_holdsPerson_22 ?_
      refine aw_bipush (v := 100) dX6_holdsPerson_23 (by decide) ?_
      refine aw_icmp_ge (tgt := 32) dX6_holdsPerson_25 (by decide) (fun h25 => ?_) (fun h25 => ?_)
      ·
        refine aw_iconst (v := 0) dX6_holdsPerson_32 (by decide) ?_
        exact aw_zret rfl (by simp) dX6_holdsPerson_33 ⟨by rw [b01_f (fun q => by obtain ⟨j, hj, e, q, q2⟩ := q; have e9 := nI_inj8 hk hj e; subst e9; exact q2 h25)], rfl⟩
      ·
        refine aw_iconst (v := 1) dX6_holdsPerson_28 (by decide) ?_
        refine aw_goto (tgt := 33) dX6_holdsPerson_29 (by decide) ?_
        exact aw_zret rfl (by simp) dX6_holdsPerson_33 ⟨by rw [b01_t ⟨k, hk, rfl, h14, h25⟩], rfl⟩
theorem m_X6_hasElement {l : Launch} {M : Mm} {s i : Int32} : AMet l 3 yX6_hasElement cX6_hasElement 3 (some FieldType.boolean) [.ref 2, .int s, .int i] M (QE (some (.int (b01 (elP M s i)))) M) := by
  refine AMet.of (by decide) (by simp [aargs, Value.category]) ?_
  show AW l 3 yX6_hasElement cX6_hasElement 3 (some FieldType.boolean) 0 [some (.ref 2), some (.int s), some (.int i)] [] M _
  refine aw_aload_n (i := 0) dX6_hasElement_0 rfl rfl ?_
  refine aw_iload_n (i := 1) dX6_hasElement_1 rfl rfl ?_
  refine aw_cVi ck_X6_33 m_X6_holdsRow sh_2 rfl (by decide) (by decide) rfl rfl (Nat.le_of_ble_eq_true rfl) dX6_hasElement_2 ?_
  refine aw_ifeq_b (tgt := 26) dX6_hasElement_5 (by decide) (fun h5 => ?_) (fun h5 => ?_)
  ·
    refine aw_iconst (v := 0) dX6_hasElement_26 (by decide) ?_
    exact aw_zret rfl (by simp) dX6_hasElement_27 ⟨by rw [b01_f (fun q => by obtain ⟨j, hj, e, q⟩ := q; exact h5 ⟨j, hj, e, q.1⟩)], rfl⟩
  ·
    obtain ⟨k, hk, rfl, h100⟩ := h5
    refine aw_iload_n (i := 2) dX6_hasElement_8 rfl rfl ?_
    refine aw_if_lt (tgt := 26) dX6_hasElement_9 (by decide) (fun h9 => ?_) (fun h9 => ?_)
    ·
      refine aw_iconst (v := 0) dX6_hasElement_26 (by decide) ?_
      exact aw_zret rfl (by simp) dX6_hasElement_27 ⟨by rw [b01_f (fun q => by obtain ⟨j, hj, e, q⟩ := q; have e9 := nI_inj8 hk hj e; subst e9; exact q.2.1 h9)], rfl⟩
    ·
      refine aw_iload_n (i := 2) dX6_hasElement_12 rfl rfl ?_
      refine aw_aload_n (i := 0) dX6_hasElement_13 rfl rfl ?_
      refine aw_getR gf_X6_15 sh_2 rfl dX6_hasElement_14 ?_
      refine aw_iload_n (i := 1) dX6_hasElement_17 rfl rfl ?_
      refine aw_ialdN sh_4 (by omega) (by omega) dX6_hasElement_18 ?_
      refine aw_icmp_ge (tgt := 26) dX6_hasElement_19 (by decide) (fun h19 => ?_) (fun h19 => ?_)
      ·
        refine aw_iconst (v := 0) dX6_hasElement_26 (by decide) ?_
        exact aw_zret rfl (by simp) dX6_hasElement_27 ⟨by rw [b01_f (fun q => by obtain ⟨j, hj, e, q⟩ := q; have e9 := nI_inj8 hk hj e; subst e9; exact q.2.2 h19)], rfl⟩
      ·
        refine aw_iconst (v := 1) dX6_hasElement_22 (by decide) ?_
        refine aw_goto (tgt := 27) dX6_hasElement_23 (by decide) ?_
        exact aw_zret rfl (by simp) dX6_hasElement_27 ⟨by rw [b01_t ⟨k, hk, rfl, h100, h9, h19⟩], rfl⟩
theorem m_X6_hasPart {l : Launch} {M : Mm} {s i n : Int32} : AMet l 3 yX6_hasPart cX6_hasPart 4 (some FieldType.boolean) [.ref 2, .int s, .int i, .int n] M (QE (some (.int (b01 (partP M s i n)))) M) := by
  refine AMet.of (by decide) (by simp [aargs, Value.category]) ?_
  show AW l 3 yX6_hasPart cX6_hasPart 4 (some FieldType.boolean) 0 [some (.ref 2), some (.int s), some (.int i), some (.int n)] [] M _
  refine aw_aload_n (i := 0) dX6_hasPart_0 rfl rfl ?_
  refine aw_iload_n (i := 1) dX6_hasPart_1 rfl rfl ?_
  refine aw_cVi ck_X6_33 m_X6_holdsRow sh_2 rfl (by decide) (by decide) rfl rfl (Nat.le_of_ble_eq_true rfl) dX6_hasPart_2 ?_
  refine aw_ifeq_b (tgt := 36) dX6_hasPart_5 (by decide) (fun h5 => ?_) (fun h5 => ?_)
  ·
    refine aw_iconst (v := 0) dX6_hasPart_36 (by decide) ?_
    exact aw_zret rfl (by simp) dX6_hasPart_37 ⟨by rw [b01_f (fun q => by obtain ⟨j, hj, e, q⟩ := q; exact h5 ⟨j, hj, e, q.1⟩)], rfl⟩
  ·
    obtain ⟨k, hk, rfl, h100⟩ := h5
    refine aw_iload_n (i := 2) dX6_hasPart_8 rfl rfl ?_
    refine aw_if_lt (tgt := 36) dX6_hasPart_9 (by decide) (fun h9 => ?_) (fun h9 => ?_)
    ·
      refine aw_iconst (v := 0) dX6_hasPart_36 (by decide) ?_
      exact aw_zret rfl (by simp) dX6_hasPart_37 ⟨by rw [b01_f (fun q => by obtain ⟨j, hj, e, q⟩ := q; have e9 := nI_inj8 hk hj e; subst e9; exact q.2.1 h9)], rfl⟩
    ·
      refine aw_iload_n (i := 3) dX6_hasPart_12 rfl rfl ?_
      refine aw_if_lt (tgt := 36) dX6_hasPart_13 (by decide) (fun h13 => ?_) (fun h13 => ?_)
      ·
        refine aw_iconst (v := 0) dX6_hasPart_36 (by decide) ?_
        exact aw_zret rfl (by simp) dX6_hasPart_37 ⟨by rw [b01_f (fun q => by obtain ⟨j, hj, e, q⟩ := q; have e9 := nI_inj8 hk hj e; subst e9; exact q.2.2.1 h13)], rfl⟩
      ·
        refine aw_iload_n (i := 2) dX6_hasPart_16 rfl rfl ?_
        refine aw_i2l dX6_hasPart_17 ?_
        refine aw_iload_n (i := 3) dX6_hasPart_18 rfl rfl ?_
        refine aw_i2l dX6_hasPart_19 ?_
        refine aw_ladd dX6_hasPart_20 ?_
        refine aw_aload_n (i := 0) dX6_hasPart_21 rfl rfl ?_
        refine aw_getR gf_X6_15 sh_2 rfl dX6_hasPart_22 ?_
        refine aw_iload_n (i := 1) dX6_hasPart_25 rfl rfl ?_
        refine aw_ialdN sh_4 (by omega) (by omega) dX6_hasPart_26 ?_
        refine aw_i2l dX6_hasPart_27 ?_
        refine aw_lcmp dX6_hasPart_28 ?_
        refine aw_if_gt (tgt := 36) dX6_hasPart_29 (by decide) (fun h29 => ?_) (fun h29 => ?_)
        ·
          refine aw_iconst (v := 0) dX6_hasPart_36 (by decide) ?_
          exact aw_zret rfl (by simp) dX6_hasPart_37 ⟨by rw [b01_f (fun q => by obtain ⟨j, hj, e, q⟩ := q; have e9 := nI_inj8 hk hj e; subst e9; exact q.2.2.2 h29)], rfl⟩
        ·
          refine aw_iconst (v := 1) dX6_hasPart_32 (by decide) ?_
          refine aw_goto (tgt := 37) dX6_hasPart_33 (by decide) ?_
          exact aw_zret rfl (by simp) dX6_hasPart_37 ⟨by rw [b01_t ⟨k, hk, rfl, h100, h9, h13, h29⟩], rfl⟩
noncomputable def putRowM (k : Nat) (sort n : Int32) (M : Mm) : Mm := rL (mI (mI M 3 k (100 + sort)) 4 k n) (6 + k) (fillL (M.2 (6 + k)) 100 0)
theorem m_X6_putRow {l : Launch} {M : Mm} {k : Nat} {sort n : Int32} (hk : k < 8) : AMet l 2 yX6_putRow cX6_putRow 4 none [.ref 2, .int (nI k), .int sort, .int n] M (QE none (putRowM k sort n M)) := by
  refine AMet.of (by decide) (by simp [aargs, Value.category]) ?_
  show AW l 2 yX6_putRow cX6_putRow 4 none 0 [some (.ref 2), some (.int (nI k)), some (.int sort), some (.int n)] [] M _
  refine aw_aload_n (i := 0) dX6_putRow_0 rfl rfl ?_
  refine aw_getR gf_X6_9 sh_2 rfl dX6_putRow_1 ?_
  refine aw_iload_n (i := 1) dX6_putRow_4 rfl rfl ?_
  refine aw_bipush (v := 100) dX6_putRow_5 (by decide) ?_
  refine aw_iload_n (i := 2) dX6_putRow_7 rfl rfl ?_
  refine aw_iadd dX6_putRow_8 ?_
  refine aw_iastN sh_3 (by omega) (by omega) dX6_putRow_9 ?_
  refine aw_aload_n (i := 0) dX6_putRow_10 rfl rfl ?_
  refine aw_getR gf_X6_15 sh_2 rfl dX6_putRow_11 ?_
  refine aw_iload_n (i := 1) dX6_putRow_14 rfl rfl ?_
  refine aw_iload_n (i := 3) dX6_putRow_15 rfl rfl ?_
  refine aw_iastN sh_4 (by omega) (by omega) dX6_putRow_16 ?_
  refine aw_aload_n (i := 0) dX6_putRow_17 rfl rfl ?_
  refine aw_getR gf_X6_20 sh_2 rfl dX6_putRow_18 ?_
  refine aw_iload_n (i := 1) dX6_putRow_21 rfl rfl ?_
  refine aw_aaldN (t := 1) sh_5 (by decide) (by omega) (by decide) dX6_putRow_22 ?_
  refine aw_lconst (v := 0) dX6_putRow_23 (by decide) ?_
  refine aw_cSv ck_X6_36 (m_J7_fill_d0a16 (sh_cells k hk) (by decide)) (by decide) (by decide) rfl rfl (Nat.le_of_ble_eq_true rfl) dX6_putRow_24 ?_
  exact aw_vret rfl dX6_putRow_27 ⟨rfl, rfl⟩
def cutL (t : Int32) (v : Int64) : Int64 := if t = 0 then v.toInt32.toInt8.toInt32.toInt64 else if t = 1 then v.toInt32.toInt16.toInt32.toInt64 else if t = 2 then v.toInt32.toInt64 else v
theorem sw02 (x : Int32) : x = 0 ∨ x = 1 ∨ x = 2 ∨ (x.toInt < 0 ∨ 2 < x.toInt) := by
  by_cases h0 : x.toInt = 0
  · exact Or.inl (i32_lit h0 0 (by decide))
  by_cases h1 : x.toInt = 1
  · exact Or.inr (Or.inl (i32_lit h1 1 (by decide)))
  by_cases h2 : x.toInt = 2
  · exact Or.inr (Or.inr (Or.inl (i32_lit h2 2 (by decide))))
  exact Or.inr (Or.inr (Or.inr (by omega)))
theorem no02 {x : Int32} (h : x.toInt < 0 ∨ 2 < x.toInt) : ¬ x = 0 ∧ ¬ x = 1 ∧ ¬ x = 2 := by
  refine ⟨?_, ?_, ?_⟩ <;> rintro rfl <;> revert h <;> decide
theorem m_X6_putElement {l : Launch} {M : Mm} {k j : Nat} {v : Int64} (hk : k < 8) (hj : j < 100) : AMet l 1 yX6_putElement cX6_putElement 5 none [.ref 2, .int (nI k), .int (nI j), .long v] M (QE none (mL M (6 + k) j (cutL (M.1 3 k - 100) v))) := by
  refine AMet.of (by decide) (by simp [aargs, Value.category]) ?_
  show AW l 1 yX6_putElement cX6_putElement 5 none 0 [some (.ref 2), some (.int (nI k)), some (.int (nI j)), some (.long v), none] [] M _
  refine aw_aload_n (i := 0) dX6_putElement_0 rfl rfl ?_
  refine aw_getR gf_X6_9 sh_2 rfl dX6_putElement_1 ?_
  refine aw_iload_n (i := 1) dX6_putElement_4 rfl rfl ?_
  refine aw_ialdN sh_3 (by omega) (by omega) dX6_putElement_5 ?_
  refine aw_bipush (v := 100) dX6_putElement_6 (by decide) ?_
  refine aw_isub dX6_putElement_8 ?_
  generalize hk9 : M.1 3 k - 100 = k9
  rcases sw02 k9 with rfl | rfl | rfl | hz9
  ·
    refine aw_tableIn (off := 27) (tgt := 36) dX6_putElement_9 (by decide) (by decide) (by decide) (by decide) ?_
    refine aw_aload_n (i := 0) dX6_putElement_36 rfl rfl ?_
    refine aw_getR gf_X6_20 sh_2 rfl dX6_putElement_37 ?_
    refine aw_iload_n (i := 1) dX6_putElement_40 rfl rfl ?_
    refine aw_aaldN (t := 1) sh_5 (by decide) (by omega) (by decide) dX6_putElement_41 ?_
    refine aw_iload_n (i := 2) dX6_putElement_42 rfl rfl ?_
    refine aw_lload_n (i := 3) dX6_putElement_43 rfl rfl ?_
    refine aw_l2i dX6_putElement_44 ?_
    refine aw_i2b dX6_putElement_45 ?_
    refine aw_i2l dX6_putElement_46 ?_
    refine aw_lastN (sh_cells _ (by omega)) (by omega) (by omega) dX6_putElement_47 ?_
    refine aw_goto (tgt := 89) dX6_putElement_48 (by decide) ?_
    exact aw_vret rfl dX6_putElement_89 ⟨rfl, rfl⟩
  ·
    refine aw_tableIn (off := 42) (tgt := 51) dX6_putElement_9 (by decide) (by decide) (by decide) (by decide) ?_
    refine aw_aload_n (i := 0) dX6_putElement_51 rfl rfl ?_
    refine aw_getR gf_X6_20 sh_2 rfl dX6_putElement_52 ?_
    refine aw_iload_n (i := 1) dX6_putElement_55 rfl rfl ?_
    refine aw_aaldN (t := 1) sh_5 (by decide) (by omega) (by decide) dX6_putElement_56 ?_
    refine aw_iload_n (i := 2) dX6_putElement_57 rfl rfl ?_
    refine aw_lload_n (i := 3) dX6_putElement_58 rfl rfl ?_
    refine aw_l2i dX6_putElement_59 ?_
    refine aw_i2s dX6_putElement_60 ?_
    refine aw_i2l dX6_putElement_61 ?_
    refine aw_lastN (sh_cells _ (by omega)) (by omega) (by omega) dX6_putElement_62 ?_
    refine aw_goto (tgt := 89) dX6_putElement_63 (by decide) ?_
    exact aw_vret rfl dX6_putElement_89 ⟨rfl, rfl⟩
  ·
    refine aw_tableIn (off := 57) (tgt := 66) dX6_putElement_9 (by decide) (by decide) (by decide) (by decide) ?_
    refine aw_aload_n (i := 0) dX6_putElement_66 rfl rfl ?_
    refine aw_getR gf_X6_20 sh_2 rfl dX6_putElement_67 ?_
    refine aw_iload_n (i := 1) dX6_putElement_70 rfl rfl ?_
    refine aw_aaldN (t := 1) sh_5 (by decide) (by omega) (by decide) dX6_putElement_71 ?_
    refine aw_iload_n (i := 2) dX6_putElement_72 rfl rfl ?_
    refine aw_lload_n (i := 3) dX6_putElement_73 rfl rfl ?_
    refine aw_l2i dX6_putElement_74 ?_
    refine aw_i2l dX6_putElement_75 ?_
    refine aw_lastN (sh_cells _ (by omega)) (by omega) (by omega) dX6_putElement_76 ?_
    refine aw_goto (tgt := 89) dX6_putElement_77 (by decide) ?_
    exact aw_vret rfl dX6_putElement_89 ⟨rfl, rfl⟩
  · have hn9 := no02 hz9
    refine aw_tableOut (tgt := 80) dX6_putElement_9 hz9 (by decide) ?_
    refine aw_aload_n (i := 0) dX6_putElement_80 rfl rfl ?_
    refine aw_getR gf_X6_20 sh_2 rfl dX6_putElement_81 ?_
    refine aw_iload_n (i := 1) dX6_putElement_84 rfl rfl ?_
    refine aw_aaldN (t := 1) sh_5 (by decide) (by omega) (by decide) dX6_putElement_85 ?_
    refine aw_iload_n (i := 2) dX6_putElement_86 rfl rfl ?_
    refine aw_lload_n (i := 3) dX6_putElement_87 rfl rfl ?_
    refine aw_lastN (sh_cells _ (by omega)) (by omega) (by omega) dX6_putElement_88 ?_
    exact aw_vret rfl dX6_putElement_89 ⟨rfl, by unfold cutL; rw [if_neg hn9.1, if_neg hn9.2.1, if_neg hn9.2.2]⟩
theorem m_X6_copyPart {l : Launch} {M : Mm} {p q a b n : Nat} (hp : p < 8) (hq : q < 8) (ha : a + n ≤ 100) (hb : b + n ≤ 100) : AMet l 1 yX6_copyPart cX6_copyPart 6 none [.ref 2, .int (nI p), .int (nI q), .int (nI a), .int (nI b), .int (nI n)] M (QE none (rL M (6 + q) (va_cpy (M.2 (6 + p)) (M.2 (6 + q)) a b n))) := by
  refine AMet.of (by decide) (by simp [aargs, Value.category]) ?_
  show AW l 1 yX6_copyPart cX6_copyPart 6 none 0 [some (.ref 2), some (.int (nI p)), some (.int (nI q)), some (.int (nI a)), some (.int (nI b)), some (.int (nI n))] [] M _
  refine aw_aload_n (i := 0) dX6_copyPart_0 rfl rfl ?_
  refine aw_getR gf_X6_20 sh_2 rfl dX6_copyPart_1 ?_
  refine aw_iload_n (i := 1) dX6_copyPart_4 rfl rfl ?_
  refine aw_aaldN (t := 1) sh_5 (by decide) (by omega) (by decide) dX6_copyPart_5 ?_
  refine aw_iload_n (i := 3) dX6_copyPart_6 rfl rfl ?_
  refine aw_aload_n (i := 0) dX6_copyPart_7 rfl rfl ?_
  refine aw_getR gf_X6_20 sh_2 rfl dX6_copyPart_8 ?_
  refine aw_iload_n (i := 2) dX6_copyPart_11 rfl rfl ?_
  refine aw_aaldN (t := 1) sh_5 (by decide) (by omega) (by decide) dX6_copyPart_12 ?_
  refine aw_iload (i := 4) dX6_copyPart_13 rfl ?_
  refine aw_iload (i := 5) dX6_copyPart_15 rfl ?_
  refine aw_copyL (List.mem_append_right _ (List.mem_of_getElem? (i := 344) (by decide +kernel))) (List.mem_append_right _ (List.mem_of_getElem? (i := 146) (by decide +kernel))) (List.mem_append_right _ (List.mem_of_getElem? (i := 145) (by decide +kernel))) (List.mem_append_right _ (List.mem_of_getElem? (i := 6) (by decide +kernel))) (sh_cells _ hp) (sh_cells _ hq) (nI_pos (by omega)) (nI_pos (by omega)) (nI_pos (by omega)) (by rw [nI_clamp (by omega), nI_clamp (by omega)]; exact ha) (by rw [nI_clamp (by omega), nI_clamp (by omega)]; exact hb) (by decide) (Nat.le_of_ble_eq_true rfl) dX6_copyPart_17 ?_
  exact aw_vret rfl dX6_copyPart_20 ⟨rfl, by rw [nI_clamp (by omega), nI_clamp (by omega), nI_clamp (by omega)]⟩
noncomputable def elL (M : Mm) (s i : Int32) : Int64 := pIf (elP M s i) (M.2 (6 + s.toNatClampNeg) i.toNatClampNeg) 0
theorem elP_i {M : Mm} (hz : sizOK M) {s i : Int32} (h : elP M s i) : ∃ k j, k < 8 ∧ j < 100 ∧ s = nI k ∧ i = nI j := by
  obtain ⟨k, hk, rfl, -, h1, h2⟩ := h
  obtain ⟨z, hz1, hz2⟩ := hz k hk
  rw [hz2] at h2
  rcases pk_ix i (n := z) (by omega) with q | q | ⟨j, q1, q2⟩
  · exact absurd q h1
  · exact absurd q h2
  · exact ⟨k, j, hk, by omega, rfl, q2⟩
theorem m_X6_elementOr0 {l : Launch} {M : Mm} {s i : Int32} (hz : sizOK M) : AMet l 4 yX6_elementOr0 cX6_elementOr0 3 (some FieldType.long) [.ref 2, .int s, .int i] M (QE (some (.long (elL M s i))) M) := by
  refine AMet.of (by decide) (by simp [aargs, Value.category]) ?_
  show AW l 4 yX6_elementOr0 cX6_elementOr0 3 (some FieldType.long) 0 [some (.ref 2), some (.int s), some (.int i)] [] M _
  refine aw_aload_n (i := 0) dX6_elementOr0_0 rfl rfl ?_
  refine aw_iload_n (i := 1) dX6_elementOr0_1 rfl rfl ?_
  refine aw_iload_n (i := 2) dX6_elementOr0_2 rfl rfl ?_
  refine aw_cVi ck_X6_45 m_X6_hasElement sh_2 rfl (by decide) (by decide) rfl rfl (Nat.le_of_ble_eq_true rfl) dX6_elementOr0_3 ?_
  refine aw_ifeq_b (tgt := 20) dX6_elementOr0_6 (by decide) (fun h6 => ?_) (fun h6 => ?_)
  ·
    refine aw_lconst (v := 0) dX6_elementOr0_20 (by decide) ?_
    exact aw_lret rfl dX6_elementOr0_21 ⟨by rw [elL, pIf_f h6], rfl⟩
  ·
    obtain ⟨k, j, hk, hj, rfl, rfl⟩ := elP_i hz h6
    refine aw_aload_n (i := 0) dX6_elementOr0_9 rfl rfl ?_
    refine aw_getR gf_X6_20 sh_2 rfl dX6_elementOr0_10 ?_
    refine aw_iload_n (i := 1) dX6_elementOr0_13 rfl rfl ?_
    refine aw_aaldN (t := 1) sh_5 (by decide) (by omega) (by decide) dX6_elementOr0_14 ?_
    refine aw_iload_n (i := 2) dX6_elementOr0_15 rfl rfl ?_
    refine aw_laldN (sh_cells k hk) (by omega) (by omega) dX6_elementOr0_16 ?_
    refine aw_goto (tgt := 21) dX6_elementOr0_17 (by decide) ?_
    exact aw_lret rfl dX6_elementOr0_21 ⟨by rw [elL, pIf_t h6, nI_clamp (by omega), nI_clamp (by omega)], rfl⟩
theorem m_X6_intOr0 {l : Launch} {M : Mm} {s i : Int32} (hz : sizOK M) : AMet l 5 yX6_intOr0 cX6_intOr0 3 (some FieldType.int) [.ref 2, .int s, .int i] M (QE (some (.int (elL M s i).toInt32)) M) := by
  refine AMet.of (by decide) (by simp [aargs, Value.category]) ?_
  show AW l 5 yX6_intOr0 cX6_intOr0 3 (some FieldType.int) 0 [some (.ref 2), some (.int s), some (.int i)] [] M _
  refine aw_aload_n (i := 0) dX6_intOr0_0 rfl rfl ?_
  refine aw_iload_n (i := 1) dX6_intOr0_1 rfl rfl ?_
  refine aw_iload_n (i := 2) dX6_intOr0_2 rfl rfl ?_
  refine aw_cVl ck_X6_49 (m_X6_elementOr0 hz) sh_2 rfl (by decide) (by decide) rfl rfl (Nat.le_of_ble_eq_true rfl) dX6_intOr0_3 ?_
  refine aw_l2i dX6_intOr0_6 ?_
  exact aw_iret rfl dX6_intOr0_7 ⟨rfl, rfl⟩
theorem minz {z : Nat} (h : z ≤ 100) : (if (100 : Int32) < nI z then (100 : Int32) else nI z) = nI z := if_neg (fun q => by have := (nI_ltI (a := 100) (b := z) (by omega) (by omega)).mp q; omega)
theorem m_X6_giveInts {l : Launch} {M : Mm} {k z : Nat} (hk : k < 8) (hr : ¬ M.1 3 k < 100) (hz : z ≤ 100) (hs : M.1 4 k = nI z) : AMet l 3 yX6_giveInts cX6_giveInts 5 (some FieldType.int) [.ref 2, .int (nI k), .ref 102] M (QE (some (.int (nI z))) (rI M 102 (upto (M.1 102) (fun j => (M.2 (6 + k) j).toInt32) z))) := by
  refine AMet.of (by decide) (by simp [aargs, Value.category]) ?_
  show AW l 3 yX6_giveInts cX6_giveInts 5 (some FieldType.int) 0 [some (.ref 2), some (.int (nI k)), some (.ref 102), none, none] [] M _
  refine aw_aload_n (i := 0) dX6_giveInts_0 rfl rfl ?_
  refine aw_iload_n (i := 1) dX6_giveInts_1 rfl rfl ?_
  refine aw_cVi ck_X6_33 m_X6_holdsRow sh_2 rfl (by decide) (by decide) rfl rfl (Nat.le_of_ble_eq_true rfl) dX6_giveInts_2 ?_
  refine aw_ifeq_b (tgt := 22) dX6_giveInts_5 (by decide) (fun h5 => ?_) (fun h5 => ?_)
  ·
    exact absurd ⟨k, hk, rfl, hr⟩ h5
  ·
    refine aw_aload_n (i := 0) dX6_giveInts_8 rfl rfl ?_
    refine aw_getR gf_X6_15 sh_2 rfl dX6_giveInts_9 ?_
    refine aw_iload_n (i := 1) dX6_giveInts_12 rfl rfl ?_
    refine aw_ialdX sh_4 (by omega) (by decide) hs dX6_giveInts_13 ?_
    refine aw_aload_n (i := 2) dX6_giveInts_14 rfl rfl ?_
    refine aw_alen sh_102 (by decide) rfl dX6_giveInts_15 ?_
    refine aw_mmin (List.mem_append_right _ (List.mem_of_getElem? (i := 476) (by decide +kernel))) (List.mem_append_right _ (List.mem_of_getElem? (i := 477) (by decide +kernel))) (List.mem_append_right _ (List.mem_of_getElem? (i := 12) (by decide +kernel))) (List.mem_append_right _ (List.mem_of_getElem? (i := 478) (by decide +kernel))) (by decide) (Nat.le_of_ble_eq_true rfl) dX6_giveInts_16 ?_
    refine aw_top (minz hz) ?_
    refine aw_goto (tgt := 23) dX6_giveInts_19 (by decide) ?_
    refine aw_istore_n (i := 3) dX6_giveInts_23 rfl (by decide) ?_
    refine aw_iconst (v := 0) dX6_giveInts_24 (by decide) ?_
    refine aw_istore (i := 4) dX6_giveInts_25 (by decide) ?_
    have lp27 : ∀ k9 i, i + k9 = z → AW l 3 yX6_giveInts cX6_giveInts 5 (some FieldType.int) 27 [some (.ref 2), some (.int (nI k)), some (.ref 102), some (.int (nI z)), some (.int (nI i))] [] (rI M 102 (upto (M.1 102) (fun j => (M.2 (6 + k) j).toInt32) i)) (QE (some (.int (nI z))) (rI M 102 (upto (M.1 102) (fun j => (M.2 (6 + k) j).toInt32) z))) := by
      intro k9
      induction k9 using Nat.strongRecOn with
      | _ k9 ih9 =>
      intro i hk9
      refine aw_iload (i := 4) dX6_giveInts_27 rfl ?_
      refine aw_iload_n (i := 3) dX6_giveInts_29 rfl rfl ?_
      refine aw_icmp_geN (tgt := 53) (by omega) (by omega) dX6_giveInts_30 (by decide) (fun h30 => ?_) (fun h30 => ?_)
      ·
        refine aw_iload_n (i := 3) dX6_giveInts_53 rfl rfl ?_
        exact aw_iret rfl dX6_giveInts_54 ⟨rfl, by rw [show i = z by omega]⟩
      ·
        refine aw_aload_n (i := 2) dX6_giveInts_33 rfl rfl ?_
        refine aw_iload (i := 4) dX6_giveInts_34 rfl ?_
        refine aw_aload_n (i := 0) dX6_giveInts_36 rfl rfl ?_
        refine aw_getR gf_X6_20 sh_2 rfl dX6_giveInts_37 ?_
        refine aw_iload_n (i := 1) dX6_giveInts_40 rfl rfl ?_
        refine aw_aaldN (t := 1) sh_5 (by decide) (by omega) (by decide) dX6_giveInts_41 ?_
        refine aw_iload (i := 4) dX6_giveInts_42 rfl ?_
        refine aw_laldN (sh_cells k hk) (by omega) (by omega) dX6_giveInts_44 ?_
        refine aw_l2i dX6_giveInts_45 ?_
        refine aw_iastN sh_102 (by omega) (by omega) dX6_giveInts_46 ?_
        refine aw_iincN (i := 4) dX6_giveInts_47 rfl (by decide) ?_
        refine aw_goto (tgt := 27) dX6_giveInts_50 (by decide) ?_
        refine aw_mem (M' := (rI M 102 (upto (M.1 102) (fun j => (M.2 (6 + k) j).toInt32) (i + 1)))) (by rw [mI_rI, rI_rI, rI_self]; exact congrArg (rI M 102) (upto_s rfl)) ?_
        refine aw_loc (la := [some (.ref 2), some (.int (nI k)), some (.ref 102), some (.int (nI z)), some (.int (nI (i + 1)))]) ⟨rfl, rfl, rfl, rfl, rfl, trivial⟩ ?_
        exact ih9 (k9 - 1) (by omega) (i + 1) (by omega)
    refine aw_loc (la := [some (.ref 2), some (.int (nI k)), some (.ref 102), some (.int (nI z)), some (.int (nI 0))]) ⟨rfl, rfl, rfl, rfl, rfl, trivial⟩ ?_
    refine aw_mem (M' := (rI M 102 (upto (M.1 102) (fun j => (M.2 (6 + k) j).toInt32) 0))) (by rw [upto_0, rI_id]) ?_
    exact lp27 z 0 (by omega)
noncomputable def fgN (M : Mm) (f : Int32) (s : Nat) : Int32 := pIf ((¬ M.1 3 s = -1 ∧ ¬ 100 ≤ M.1 3 s) ∧ ¬ M.1 3 s < f) (-1) (M.1 3 s)
theorem m_X6_forgetPeopleFrom {l : Launch} {M : Mm} {f : Int32} : AMet l 3 yX6_forgetPeopleFrom cX6_forgetPeopleFrom 3 none [.ref 2, .int f] M (QE none (rI M 3 (upto (M.1 3) (fgN M f) 8))) := by
  refine AMet.of (by decide) (by simp [aargs, Value.category]) ?_
  show AW l 3 yX6_forgetPeopleFrom cX6_forgetPeopleFrom 3 none 0 [some (.ref 2), some (.int f), none] [] M _
  refine aw_iconst (v := 0) dX6_forgetPeopleFrom_0 (by decide) ?_
  refine aw_istore_n (i := 2) dX6_forgetPeopleFrom_1 rfl (by decide) ?_
  have lp2 : ∀ k i, i + k = 8 → AW l 3 yX6_forgetPeopleFrom cX6_forgetPeopleFrom 3 none 2 [some (.ref 2), some (.int f), some (.int (nI i))] [] (rI M 3 (upto (M.1 3) (fgN M f) i)) (QE none (rI M 3 (upto (M.1 3) (fgN M f) 8))) := by
    intro k
    induction k using Nat.strongRecOn with
    | _ k ih =>
    intro i hk
    refine aw_iload_n (i := 2) dX6_forgetPeopleFrom_2 rfl rfl ?_
    refine aw_bipush (v := 8) dX6_forgetPeopleFrom_3 (by decide) ?_
    refine aw_top (show (8 : Int32) = nI 8 from rfl) ?_
    refine aw_icmp_geN (tgt := 39) (by omega) (by omega) dX6_forgetPeopleFrom_5 (by decide) (fun h5 => ?_) (fun h5 => ?_)
    ·
      exact aw_vret rfl dX6_forgetPeopleFrom_39 ⟨rfl, by rw [show i = 8 by omega]⟩
    ·
      refine aw_aload_n (i := 0) dX6_forgetPeopleFrom_8 rfl rfl ?_
      refine aw_iload_n (i := 2) dX6_forgetPeopleFrom_9 rfl rfl ?_
      refine aw_cVi ck_X6_59 m_X6_holdsPerson sh_2 rfl (by decide) (by decide) rfl rfl (Nat.le_of_ble_eq_true rfl) dX6_forgetPeopleFrom_10 ?_
      refine aw_ifeq_b (tgt := 33) dX6_forgetPeopleFrom_13 (by decide) (fun h13 => ?_) (fun h13 => ?_)
      ·
        have e3 : (rI M 3 (upto (M.1 3) (fgN M f) i)).1 3 i = M.1 3 i := ((congrFun (rI_self _ _ _) _).trans (upto_at (Nat.le_refl _)))
        have hno : ¬ ((¬ M.1 3 i = -1 ∧ ¬ 100 ≤ M.1 3 i) ∧ ¬ M.1 3 i < f) := fun q => h13 ⟨i, by omega, rfl, by rw [e3]; exact q.1.1, by rw [e3]; exact q.1.2⟩
        refine aw_iincN (i := 2) dX6_forgetPeopleFrom_33 rfl (by decide) ?_
        refine aw_goto (tgt := 2) dX6_forgetPeopleFrom_36 (by decide) ?_
        refine aw_mem (M' := (rI M 3 (upto (M.1 3) (fgN M f) (i + 1)))) (by rw [upto_e (show _ = fgN M f i from by unfold fgN; rw [pIf_f (by assumption)])]) ?_
        refine aw_loc (la := [some (.ref 2), some (.int f), some (.int (nI (i + 1)))]) ⟨rfl, rfl, rfl, trivial⟩ ?_
        exact ih (k - 1) (by omega) (i + 1) (by omega)
      ·
        have e3 : (rI M 3 (upto (M.1 3) (fgN M f) i)).1 3 i = M.1 3 i := ((congrFun (rI_self _ _ _) _).trans (upto_at (Nat.le_refl _)))
        refine aw_aload_n (i := 0) dX6_forgetPeopleFrom_16 rfl rfl ?_
        refine aw_getR gf_X6_9 sh_2 rfl dX6_forgetPeopleFrom_17 ?_
        refine aw_iload_n (i := 2) dX6_forgetPeopleFrom_20 rfl rfl ?_
        refine aw_ialdX sh_3 (by omega) (by decide) ((congrFun (rI_self _ _ _) _).trans (upto_at (Nat.le_refl _))) dX6_forgetPeopleFrom_21 ?_
        refine aw_iload_n (i := 1) dX6_forgetPeopleFrom_22 rfl rfl ?_
        refine aw_icmp_lt (tgt := 33) dX6_forgetPeopleFrom_23 (by decide) (fun h23 => ?_) (fun h23 => ?_)
        ·
          have hno : ¬ ((¬ M.1 3 i = -1 ∧ ¬ 100 ≤ M.1 3 i) ∧ ¬ M.1 3 i < f) := fun q => q.2 h23
          refine aw_iincN (i := 2) dX6_forgetPeopleFrom_33 rfl (by decide) ?_
          refine aw_goto (tgt := 2) dX6_forgetPeopleFrom_36 (by decide) ?_
          refine aw_mem (M' := (rI M 3 (upto (M.1 3) (fgN M f) (i + 1)))) (by rw [upto_e (show _ = fgN M f i from by unfold fgN; rw [pIf_f (by assumption)])]) ?_
          refine aw_loc (la := [some (.ref 2), some (.int f), some (.int (nI (i + 1)))]) ⟨rfl, rfl, rfl, trivial⟩ ?_
          exact ih (k - 1) (by omega) (i + 1) (by omega)
        ·
          obtain ⟨j, hj, e, q1, q2⟩ := h13
          have e9 := nI_inj8 (by omega) hj e
          subst e9
          rw [e3] at q1 q2
          have hyes : (¬ M.1 3 i = -1 ∧ ¬ 100 ≤ M.1 3 i) ∧ ¬ M.1 3 i < f := ⟨⟨q1, q2⟩, h23⟩
          refine aw_aload_n (i := 0) dX6_forgetPeopleFrom_26 rfl rfl ?_
          refine aw_getR gf_X6_9 sh_2 rfl dX6_forgetPeopleFrom_27 ?_
          refine aw_iload_n (i := 2) dX6_forgetPeopleFrom_30 rfl rfl ?_
          refine aw_iconst (v := (-1)) dX6_forgetPeopleFrom_31 (by decide) ?_
          refine aw_iastN sh_3 (by omega) (by omega) dX6_forgetPeopleFrom_32 ?_
          refine aw_iincN (i := 2) dX6_forgetPeopleFrom_33 rfl (by decide) ?_
          refine aw_goto (tgt := 2) dX6_forgetPeopleFrom_36 (by decide) ?_
          refine aw_mem (M' := (rI M 3 (upto (M.1 3) (fgN M f) (i + 1)))) (by rw [mI_rI, rI_rI, rI_self, upto_s (show (-1 : Int32) = fgN M f i from by unfold fgN; rw [pIf_t (by assumption)])]) ?_
          refine aw_loc (la := [some (.ref 2), some (.int f), some (.int (nI (i + 1)))]) ⟨rfl, rfl, rfl, trivial⟩ ?_
          exact ih (k - 1) (by omega) (i + 1) (by omega)
  refine aw_loc (la := [some (.ref 2), some (.int f), some (.int (nI 0))]) ⟨rfl, rfl, rfl, trivial⟩ ?_
  refine aw_mem (M' := (rI M 3 (upto (M.1 3) (fgN M f) 0))) (by rw [upto_0, rI_id]) ?_
  exact lp2 8 0 (by omega)
