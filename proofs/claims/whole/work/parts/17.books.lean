theorem m_X3_has {l : Launch} {M : Mm} {u : Nat} {k : Int32} (hu : isB u) : AMet l 1 yX3_has cX3_has 2 (some FieldType.boolean) [.ref u, .int k] M (QE (some (.int (b01 (¬ k < 0 ∧ ¬ M.1 u 1 ≤ k)))) M) := by
  refine AMet.of (by decide) (by simp [aargs, Value.category]) ?_
  show AW l 1 yX3_has cX3_has 2 (some FieldType.boolean) 0 [some (.ref u), some (.int k)] [] M _
  refine aw_iload_n (i := 1) dX3_has_0 rfl rfl ?_
  refine aw_if_lt (tgt := 16) dX3_has_1 (by decide) (fun h1 => ?_) (fun h1 => ?_)
  ·
    refine aw_iconst (v := 0) dX3_has_16 (by decide) ?_
    exact aw_zret rfl (by simp) dX3_has_17 (by simp [QE, b01, h1])
  ·
    refine aw_iload_n (i := 1) dX3_has_4 rfl rfl ?_
    refine aw_aload_n (i := 0) dX3_has_5 rfl rfl ?_
    refine aw_getI gf_X3_16 (shB hu) rfl dX3_has_6 ?_
    refine aw_icmp_ge (tgt := 16) dX3_has_9 (by decide) (fun h9 => ?_) (fun h9 => ?_)
    ·
      refine aw_iconst (v := 0) dX3_has_16 (by decide) ?_
      exact aw_zret rfl (by simp) dX3_has_17 (by simp [QE, b01, h1, h9])
    ·
      refine aw_iconst (v := 1) dX3_has_12 (by decide) ?_
      refine aw_goto (tgt := 17) dX3_has_13 (by decide) ?_
      exact aw_zret rfl (by simp) dX3_has_17 (by simp [QE, b01, h1, h9])
theorem m_X3_hasOrNone {l : Launch} {M : Mm} {u : Nat} {k : Int32} (hu : isB u) : AMet l 2 yX3_hasOrNone cX3_hasOrNone 2 (some FieldType.boolean) [.ref u, .int k] M (QE (some (.int (b01 (k = -1 ∨ (¬ k < 0 ∧ ¬ M.1 u 1 ≤ k))))) M) := by
  refine AMet.of (by decide) (by simp [aargs, Value.category]) ?_
  show AW l 2 yX3_hasOrNone cX3_hasOrNone 2 (some FieldType.boolean) 0 [some (.ref u), some (.int k)] [] M _
  refine aw_iload_n (i := 1) dX3_hasOrNone_0 rfl rfl ?_
  refine aw_iconst (v := (-1)) dX3_hasOrNone_1 (by decide) ?_
  refine aw_icmp_eq (tgt := 13) dX3_hasOrNone_2 (by decide) (fun h2 => ?_) (fun h2 => ?_)
  ·
    refine aw_iconst (v := 1) dX3_hasOrNone_13 (by decide) ?_
    refine aw_goto (tgt := 18) dX3_hasOrNone_14 (by decide) ?_
    exact aw_zret rfl (by simp) dX3_hasOrNone_18 ⟨by rw [b01_t (by grind)], rfl⟩
  ·
    refine aw_aload_n (i := 0) dX3_hasOrNone_5 rfl rfl ?_
    refine aw_iload_n (i := 1) dX3_hasOrNone_6 rfl rfl ?_
    refine aw_cVi ck_X3_33 (m_X3_has hu) (shB hu) rfl (by decide) (by decide) rfl rfl (Nat.le_of_ble_eq_true rfl) dX3_hasOrNone_7 ?_
    refine aw_tern_eq (tgt := 17) (j := 18) (v := 1) (w := 0) dX3_hasOrNone_10 (by decide) dX3_hasOrNone_13 (by decide) dX3_hasOrNone_14 (by decide) dX3_hasOrNone_17 (by decide) rfl ?_
    refine aw_top t01c ?_
    exact aw_zret rfl b01_ok dX3_hasOrNone_18 ⟨congrArg (fun z => some (Value.int z)) (b01_c (by grind)), rfl⟩
/-- the place of the numbers of laws k -/
noncomputable def lawRow (u cnt : Nat) (k : Int32) : Nat := pIf (¬ k < 0 ∧ ¬ nI cnt ≤ k) (u + 2 + (k.toNatClampNeg + 1)) (u + 2)
theorem lawRow_lt {k : Int32} {cnt : Nat} (hc : cnt ≤ 6) (h : ¬ k < 0 ∧ ¬ nI cnt ≤ k) : ∃ j, j < cnt ∧ k = nI j := by
  rcases pk_ix k (n := cnt) (by omega) with q | q | ⟨j, q1, q2⟩
  · exact absurd q h.1
  · exact absurd q h.2
  · exact ⟨j, q1, q2⟩
theorem lawRow_in {u cnt : Nat} {k : Int32} (hc : cnt ≤ 6) : ∃ j, j < 7 ∧ lawRow u cnt k = u + 2 + j := by
  by_cases h : ¬ k < 0 ∧ ¬ nI cnt ≤ k
  · obtain ⟨j, h1, rfl⟩ := lawRow_lt hc h
    exact ⟨j + 1, by omega, by rw [lawRow, pIf_t h, nI_clamp (by omega)]⟩
  · exact ⟨0, by omega, by rw [lawRow, pIf_f h]⟩
theorem shLR {u cnt : Nat} {k : Int32} (hu : isB u) (hc : cnt ≤ 6) : shp[lawRow u cnt k]? = some (.inr (0, 7, 0)) := by
  obtain ⟨j, h1, h2⟩ := lawRow_in (u := u) (k := k) hc
  rw [h2]
  exact shB_r hu j h1
theorem m_X3_numbersOf {l : Launch} {M : Mm} {u : Nat} {k : Int32} (hu : isB u) {cnt : Nat} (hcn : M.1 u 1 = nI cnt) (hc6 : cnt ≤ 6) : AMet l 2 yX3_numbersOf cX3_numbersOf 2 (some (FieldType.array FieldType.int)) [.ref u, .int k] M (QE (some (.ref (lawRow u cnt k))) M) := by
  refine AMet.of (by decide) (by simp [aargs, Value.category]) ?_
  show AW l 2 yX3_numbersOf cX3_numbersOf 2 (some (FieldType.array FieldType.int)) 0 [some (.ref u), some (.int k)] [] M _
  refine aw_aload_n (i := 0) dX3_numbersOf_0 rfl rfl ?_
  refine aw_iload_n (i := 1) dX3_numbersOf_1 rfl rfl ?_
  refine aw_cVi ck_X3_33 (m_X3_has hu) (shB hu) rfl (by decide) (by decide) rfl rfl (Nat.le_of_ble_eq_true rfl) dX3_numbersOf_2 ?_
  refine aw_ifeq_b (tgt := 19) dX3_numbersOf_5 (by decide) (fun h5 => ?_) (fun h5 => ?_)
  ·
    rw [hcn] at h5
    refine aw_aload_n (i := 0) dX3_numbersOf_19 rfl rfl ?_
    refine aw_getR gf_X3_11 (shB hu) rfl dX3_numbersOf_20 ?_
    refine aw_iconst (v := 0) dX3_numbersOf_23 (by decide) ?_
    refine aw_top (show (0 : Int32) = nI 0 from rfl) ?_
    refine aw_aaldN (t := 0) (shB_1 hu) (by decide) (by omega) (by decide) dX3_numbersOf_24 ?_
    exact aw_aret rfl (Or.inr ⟨_, rfl⟩) dX3_numbersOf_25 ⟨by rw [lawRow, pIf_f h5], rfl⟩
  ·
    rw [hcn] at h5
    obtain ⟨j, hj, rfl⟩ := lawRow_lt hc6 h5
    refine aw_aload_n (i := 0) dX3_numbersOf_8 rfl rfl ?_
    refine aw_getR gf_X3_11 (shB hu) rfl dX3_numbersOf_9 ?_
    refine aw_iload_n (i := 1) dX3_numbersOf_12 rfl rfl ?_
    refine aw_iconst (v := 1) dX3_numbersOf_13 (by decide) ?_
    refine aw_iadd dX3_numbersOf_14 ?_
    refine aw_top (nI_1 j) ?_
    refine aw_aaldN (t := 0) (shB_1 hu) (by decide) (by omega) (by decide) dX3_numbersOf_15 ?_
    refine aw_goto (tgt := 25) dX3_numbersOf_16 (by decide) ?_
    exact aw_aret rfl (Or.inr ⟨_, rfl⟩) dX3_numbersOf_25 ⟨by rw [lawRow, pIf_t h5, nI_clamp (by omega)], rfl⟩
theorem m_X3_numbersInForce {l : Launch} {M : Mm} {u : Nat} (hu : isB u) {cnt : Nat} (hcn : M.1 u 1 = nI cnt) (hc6 : cnt ≤ 6) : AMet l 3 yX3_numbersInForce cX3_numbersInForce 1 (some (FieldType.array FieldType.int)) [.ref u] M (QE (some (.ref (lawRow u cnt (M.1 u 2)))) M) := by
  refine AMet.of (by decide) (by simp [aargs, Value.category]) ?_
  show AW l 3 yX3_numbersInForce cX3_numbersInForce 1 (some (FieldType.array FieldType.int)) 0 [some (.ref u)] [] M _
  refine aw_aload_n (i := 0) dX3_numbersInForce_0 rfl rfl ?_
  refine aw_aload_n (i := 0) dX3_numbersInForce_1 rfl rfl ?_
  refine aw_getI gf_X3_20 (shB hu) rfl dX3_numbersInForce_2 ?_
  refine aw_cVr ck_X3_37 (m_X3_numbersOf hu hcn hc6) (shB hu) rfl (by decide) (by decide) rfl rfl (Nat.le_of_ble_eq_true rfl) dX3_numbersInForce_5 ?_
  exact aw_aret rfl (Or.inr ⟨_, rfl⟩) dX3_numbersInForce_8 ⟨rfl, rfl⟩
theorem cpy7 {f g : Nat → Int32} : va_cpy f g (0 : Int32).toNatClampNeg (0 : Int32).toNatClampNeg (7 : Int32).toNatClampNeg = va_cpy f g 0 0 7 := rfl
noncomputable def bookAdd (u cnt a : Nat) (M : Mm) : Mm := mI (rI M (u + 2 + (cnt + 1)) (va_cpy (M.1 a) (M.1 (u + 2 + (cnt + 1))) 0 0 7)) u 1 (nI (cnt + 1))
theorem m_X3_add {l : Launch} {M : Mm} {u a : Nat} (hu : isB u) (ha : shp[a]? = some (.inr (0, 7, 0))) {cnt : Nat} (hcn : M.1 u 1 = nI cnt) (hc6 : cnt < 6) : AMet l 1 yX3_add cX3_add 2 (some FieldType.int) [.ref u, .ref a] M (QE (some (.int (nI cnt))) (bookAdd u cnt a M)) := by
  refine AMet.of (by decide) (by simp [aargs, Value.category]) ?_
  show AW l 1 yX3_add cX3_add 2 (some FieldType.int) 0 [some (.ref u), some (.ref a)] [] M _
  refine aw_aload_n (i := 0) dX3_add_0 rfl rfl ?_
  refine aw_getN (n := cnt) gf_X3_16 (shB hu) rfl (by first | exact hcn | (rw [rI_other (by omega)]; exact hcn)) dX3_add_1 ?_
  refine aw_bipush (v := 6) dX3_add_4 (by decide) ?_
  refine aw_top (show (6 : Int32) = nI 6 from rfl) ?_
  refine aw_icmp_ltN (tgt := 11) (by omega) (by omega) dX3_add_6 (by decide) (fun h6 => ?_) (fun h6 => ?_)
  ·
    refine aw_aload_n (i := 1) dX3_add_11 rfl rfl ?_
    refine aw_iconst (v := 0) dX3_add_12 (by decide) ?_
    refine aw_aload_n (i := 0) dX3_add_13 rfl rfl ?_
    refine aw_getR gf_X3_11 (shB hu) rfl dX3_add_14 ?_
    refine aw_aload_n (i := 0) dX3_add_17 rfl rfl ?_
    refine aw_getN (n := cnt) gf_X3_16 (shB hu) rfl (by first | exact hcn | (rw [rI_other (by omega)]; exact hcn)) dX3_add_18 ?_
    refine aw_iconst (v := 1) dX3_add_21 (by decide) ?_
    refine aw_iadd dX3_add_22 ?_
    refine aw_top (nI_1 cnt) ?_
    refine aw_aaldN (t := 0) (shB_1 hu) (by decide) (by omega) (by decide) dX3_add_23 ?_
    refine aw_iconst (v := 0) dX3_add_24 (by decide) ?_
    refine aw_bipush (v := 7) dX3_add_25 (by decide) ?_
    refine aw_copyI (List.mem_append_right _ (List.mem_of_getElem? (i := 144) (by decide +kernel))) (List.mem_append_right _ (List.mem_of_getElem? (i := 146) (by decide +kernel))) (List.mem_append_right _ (List.mem_of_getElem? (i := 145) (by decide +kernel))) (List.mem_append_right _ (List.mem_of_getElem? (i := 6) (by decide +kernel))) ha (shB_r hu (cnt + 1) (by omega)) (by decide) (by decide) (by decide) (by decide) (by decide) (by decide) (Nat.le_of_ble_eq_true rfl) dX3_add_27 ?_
    refine aw_aload_n (i := 0) dX3_add_30 rfl rfl ?_
    refine aw_dup dX3_add_31 rfl ?_
    refine aw_getN (n := cnt) gf_X3_16 (shB hu) rfl (by first | exact hcn | (rw [rI_other (by omega)]; exact hcn)) dX3_add_32 ?_
    refine aw_iconst (v := 1) dX3_add_35 (by decide) ?_
    refine aw_iadd dX3_add_36 ?_
    refine aw_top (nI_1 cnt) ?_
    refine aw_putI pf_X3_16 (shB hu) rfl dX3_add_37 ?_
    refine aw_aload_n (i := 0) dX3_add_40 rfl rfl ?_
    refine aw_getN (n := (cnt + 1)) gf_X3_16 (shB hu) rfl (by rw [mI_self, upd_self]) dX3_add_41 ?_
    refine aw_iconst (v := 1) dX3_add_44 (by decide) ?_
    refine aw_isub dX3_add_45 ?_
    refine aw_top (nI_pred cnt) ?_
    exact aw_iret rfl dX3_add_46 ⟨rfl, rfl⟩
  ·
    exact absurd h6 (by omega)
/-- the first i rows, of u2 -/
def bbQ (u u2 i : Nat) (M M' : Mm) : Prop := Same (fun q => u + 2 ≤ q ∧ q < u + 2 + i) M M' ∧ ∀ t, t < i → M'.1 (u + 2 + t) = va_cpy (M.1 (u2 + 2 + t)) (M.1 (u + 2 + t)) 0 0 7
def apartB (u u2 : Nat) : Prop := u + 9 ≤ u2 ∨ u2 + 9 ≤ u
theorem bbQ_step {u u2 i : Nat} {M M' : Mm} (ha : apartB u u2) (h : bbQ u u2 i M M') (hi : i < 7) : bbQ u u2 (i + 1) M (rI M' (u + 2 + i) (va_cpy (M'.1 (u2 + 2 + i)) (M'.1 (u + 2 + i)) 0 0 7)) := by
  unfold apartB at ha
  refine ⟨(h.1.mono (fun k q => ⟨q.1, by omega⟩)).rI ⟨by omega, by omega⟩, fun t ht => ?_⟩
  have e1 : M'.1 (u2 + 2 + i) = M.1 (u2 + 2 + i) := h.1.2 _ (by omega)
  by_cases e : t = i
  · subst e
    rw [rI_self, e1, h.1.2 (u + 2 + t) (by omega)]
  · rw [rI_other (by omega), h.2 t (by omega)]
def bbM (u u2 : Nat) (M M' : Mm) : Prop := Same (fun q => q = u ∨ (u + 2 ≤ q ∧ q < u + 9)) M M' ∧ (∀ t, t < 7 → M'.1 (u + 2 + t) = va_cpy (M.1 (u2 + 2 + t)) (M.1 (u + 2 + t)) 0 0 7) ∧ M'.1 u 1 = M.1 u2 1 ∧ M'.1 u 2 = M.1 u2 2
theorem bbM_end {u u2 : Nat} {M M' : Mm} (ha : apartB u u2) (h : bbQ u u2 7 M M') : bbM u u2 M (mI (mI M' u 1 (M'.1 u2 1)) u 2 (M'.1 u2 2)) := by
  unfold apartB at ha
  have e2 : M'.1 u2 = M.1 u2 := h.1.2 _ (by omega)
  have o : ∀ k, k ≠ u → (mI (mI M' u 1 (M'.1 u2 1)) u 2 (M'.1 u2 2)).1 k = M'.1 k := fun k hk => by rw [mI_other hk, mI_other hk]
  refine ⟨⟨h.1.1, fun k hk => ?_⟩, fun t ht => ?_, ?_, ?_⟩
  · rw [o k (fun e => hk (Or.inl e))]
    exact h.1.2 k (fun q => hk (Or.inr ⟨q.1, by omega⟩))
  · rw [o _ (by omega)]
    exact h.2 t ht
  · rw [← e2, mI_self, upd_other (by decide), mI_self, upd_self]
  · rw [← e2, mI_self, upd_self]
theorem m_X3_become {l : Launch} {M : Mm} {u u2 : Nat} (hu : isB u) (hu2 : isB u2) (ha : apartB u u2) : AMet l 1 yX3_become cX3_become 3 none [.ref u, .ref u2] M (QN (bbM u u2 M)) := by
  refine AMet.of (by decide) (by simp [aargs, Value.category]) ?_
  show AW l 1 yX3_become cX3_become 3 none 0 [some (.ref u), some (.ref u2), none] [] M _
  have hne : u2 ≠ u := by unfold apartB at ha; omega
  refine aw_iconst (v := 0) dX3_become_0 (by decide) ?_
  refine aw_istore_n (i := 2) dX3_become_1 rfl (by decide) ?_
  have lp2 : ∀ k i, i + k = 7 → ∀ M' : Mm, bbQ u u2 i M M' → AW l 1 yX3_become cX3_become 3 none 2 [some (.ref u), some (.ref u2), some (.int (nI i))] [] M' (QN (bbM u u2 M)) := by
    intro k
    induction k using Nat.strongRecOn with
    | _ k ih =>
    intro i hk M' hQ
    refine aw_iload_n (i := 2) dX3_become_2 rfl rfl ?_
    refine aw_bipush (v := 6) dX3_become_3 (by decide) ?_
    refine aw_top (show (6 : Int32) = nI 6 from rfl) ?_
    refine aw_icmp_gtN (tgt := 33) (by omega) (by omega) dX3_become_5 (by decide) (fun h5 => ?_) (fun h5 => ?_)
    ·
      refine aw_aload_n (i := 0) dX3_become_33 rfl rfl ?_
      refine aw_aload_n (i := 1) dX3_become_34 rfl rfl ?_
      refine aw_getI gf_X3_16 (shB hu2) rfl dX3_become_35 ?_
      refine aw_putI pf_X3_16 (shB hu) rfl dX3_become_38 ?_
      refine aw_aload_n (i := 0) dX3_become_41 rfl rfl ?_
      refine aw_aload_n (i := 1) dX3_become_42 rfl rfl ?_
      refine aw_getX gf_X3_20 (shB hu2) rfl (congrFun (mI_other hne) _) dX3_become_43 ?_
      refine aw_putI pf_X3_20 (shB hu) rfl dX3_become_46 ?_
      exact aw_vret rfl dX3_become_49 ⟨rfl, by rw [show i = 7 by omega] at hQ; exact bbM_end ha hQ⟩
    ·
      refine aw_aload_n (i := 1) dX3_become_8 rfl rfl ?_
      refine aw_getR gf_X3_11 (shB hu2) rfl dX3_become_9 ?_
      refine aw_iload_n (i := 2) dX3_become_12 rfl rfl ?_
      refine aw_aaldN (t := 0) (shB_1 hu2) (by decide) (by omega) (by decide) dX3_become_13 ?_
      refine aw_iconst (v := 0) dX3_become_14 (by decide) ?_
      refine aw_aload_n (i := 0) dX3_become_15 rfl rfl ?_
      refine aw_getR gf_X3_11 (shB hu) rfl dX3_become_16 ?_
      refine aw_iload_n (i := 2) dX3_become_19 rfl rfl ?_
      refine aw_aaldN (t := 0) (shB_1 hu) (by decide) (by omega) (by decide) dX3_become_20 ?_
      refine aw_iconst (v := 0) dX3_become_21 (by decide) ?_
      refine aw_bipush (v := 7) dX3_become_22 (by decide) ?_
      refine aw_copyI (List.mem_append_right _ (List.mem_of_getElem? (i := 144) (by decide +kernel))) (List.mem_append_right _ (List.mem_of_getElem? (i := 146) (by decide +kernel))) (List.mem_append_right _ (List.mem_of_getElem? (i := 145) (by decide +kernel))) (List.mem_append_right _ (List.mem_of_getElem? (i := 6) (by decide +kernel))) (shB_r hu2 i (by omega)) (shB_r hu i (by omega)) (by decide) (by decide) (by decide) (by decide) (by decide) (by decide) (Nat.le_of_ble_eq_true rfl) dX3_become_24 ?_
      refine aw_iincN (i := 2) dX3_become_27 rfl (by decide) ?_
      refine aw_goto (tgt := 2) dX3_become_30 (by decide) ?_
      exact ih (k - 1) (by omega) (i + 1) (by omega) _ (bbQ_step ha hQ (by omega))
  refine aw_loc (la := [some (.ref u), some (.ref u2), some (.int (nI 0))]) ⟨rfl, rfl, rfl, trivial⟩ ?_
  exact lp2 7 0 (by omega) M ⟨⟨rfl, fun _ _ => rfl⟩, fun t ht => absurd ht (by omega)⟩
theorem m_X5_has {l : Launch} {M : Mm} {u : Nat} {k : Int32} (hu : isU u) : AMet l 1 yX5_has cX5_has 2 (some FieldType.boolean) [.ref u, .int k] M (QE (some (.int (b01 (¬ k < 0 ∧ ¬ M.1 u 1 ≤ k)))) M) := by
  refine AMet.of (by decide) (by simp [aargs, Value.category]) ?_
  show AW l 1 yX5_has cX5_has 2 (some FieldType.boolean) 0 [some (.ref u), some (.int k)] [] M _
  refine aw_iload_n (i := 1) dX5_has_0 rfl rfl ?_
  refine aw_if_lt (tgt := 16) dX5_has_1 (by decide) (fun h1 => ?_) (fun h1 => ?_)
  ·
    refine aw_iconst (v := 0) dX5_has_16 (by decide) ?_
    exact aw_zret rfl (by simp) dX5_has_17 (by simp [QE, b01, h1])
  ·
    refine aw_iload_n (i := 1) dX5_has_4 rfl rfl ?_
    refine aw_aload_n (i := 0) dX5_has_5 rfl rfl ?_
    refine aw_getI gf_X5_15 (shU hu) rfl dX5_has_6 ?_
    refine aw_icmp_ge (tgt := 16) dX5_has_9 (by decide) (fun h9 => ?_) (fun h9 => ?_)
    ·
      refine aw_iconst (v := 0) dX5_has_16 (by decide) ?_
      exact aw_zret rfl (by simp) dX5_has_17 (by simp [QE, b01, h1, h9])
    ·
      refine aw_iconst (v := 1) dX5_has_12 (by decide) ?_
      refine aw_goto (tgt := 17) dX5_has_13 (by decide) ?_
      exact aw_zret rfl (by simp) dX5_has_17 (by simp [QE, b01, h1, h9])
theorem m_X5_add {l : Launch} {M : Mm} {u : Nat} {s : Int32} (hu : isU u) {cnt : Nat} (hcn : M.1 u 1 = nI cnt) (hc8 : cnt < 8) : AMet l 1 yX5_add cX5_add 2 (some FieldType.int) [.ref u, .int s] M (QE (some (.int (nI cnt))) (mI (mI M (u + 1) cnt s) u 1 (nI (cnt + 1)))) := by
  refine AMet.of (by decide) (by simp [aargs, Value.category]) ?_
  show AW l 1 yX5_add cX5_add 2 (some FieldType.int) 0 [some (.ref u), some (.int s)] [] M _
  refine aw_aload_n (i := 0) dX5_add_0 rfl rfl ?_
  refine aw_getN (n := cnt) gf_X5_15 (shU hu) rfl (by first | exact hcn | (rw [mI_other (by omega)]; exact hcn)) dX5_add_1 ?_
  refine aw_bipush (v := 8) dX5_add_4 (by decide) ?_
  refine aw_top (show (8 : Int32) = nI 8 from rfl) ?_
  refine aw_icmp_ltN (tgt := 11) (by omega) (by omega) dX5_add_6 (by decide) (fun h6 => ?_) (fun h6 => ?_)
  ·
    refine aw_aload_n (i := 0) dX5_add_11 rfl rfl ?_
    refine aw_getR gf_X5_9 (shU hu) rfl dX5_add_12 ?_
    refine aw_aload_n (i := 0) dX5_add_15 rfl rfl ?_
    refine aw_getN (n := cnt) gf_X5_15 (shU hu) rfl (by first | exact hcn | (rw [mI_other (by omega)]; exact hcn)) dX5_add_16 ?_
    refine aw_iload_n (i := 1) dX5_add_19 rfl rfl ?_
    refine aw_iastN (shU_1 hu) (by omega) (by omega) dX5_add_20 ?_
    refine aw_aload_n (i := 0) dX5_add_21 rfl rfl ?_
    refine aw_dup dX5_add_22 rfl ?_
    refine aw_getN (n := cnt) gf_X5_15 (shU hu) rfl (by first | exact hcn | (rw [mI_other (by omega)]; exact hcn)) dX5_add_23 ?_
    refine aw_iconst (v := 1) dX5_add_26 (by decide) ?_
    refine aw_iadd dX5_add_27 ?_
    refine aw_top (nI_1 cnt) ?_
    refine aw_putI pf_X5_15 (shU hu) rfl dX5_add_28 ?_
    refine aw_aload_n (i := 0) dX5_add_31 rfl rfl ?_
    refine aw_getN (n := (cnt + 1)) gf_X5_15 (shU hu) rfl (by rw [mI_self, upd_self]) dX5_add_32 ?_
    refine aw_iconst (v := 1) dX5_add_35 (by decide) ?_
    refine aw_isub dX5_add_36 ?_
    refine aw_top (nI_pred cnt) ?_
    exact aw_iret rfl dX5_add_37 ⟨rfl, rfl⟩
  ·
    exact absurd h6 (by omega)
theorem m_X5_become {l : Launch} {M : Mm} {u u2 : Nat} (hu : isU u) (hu2 : isU u2) (hne : u2 ≠ u + 1) : AMet l 1 yX5_become cX5_become 2 none [.ref u, .ref u2] M (QE none (mI (rI M (u + 1) (va_cpy (M.1 (u2 + 1)) (M.1 (u + 1)) 0 0 8)) u 1 (M.1 u2 1))) := by
  refine AMet.of (by decide) (by simp [aargs, Value.category]) ?_
  show AW l 1 yX5_become cX5_become 2 none 0 [some (.ref u), some (.ref u2)] [] M _
  refine aw_aload_n (i := 1) dX5_become_0 rfl rfl ?_
  refine aw_getR gf_X5_9 (shU hu2) rfl dX5_become_1 ?_
  refine aw_iconst (v := 0) dX5_become_4 (by decide) ?_
  refine aw_aload_n (i := 0) dX5_become_5 rfl rfl ?_
  refine aw_getR gf_X5_9 (shU hu) rfl dX5_become_6 ?_
  refine aw_iconst (v := 0) dX5_become_9 (by decide) ?_
  refine aw_bipush (v := 8) dX5_become_10 (by decide) ?_
  refine aw_copyI (List.mem_append_right _ (List.mem_of_getElem? (i := 872) (by decide +kernel))) (List.mem_append_right _ (List.mem_of_getElem? (i := 146) (by decide +kernel))) (List.mem_append_right _ (List.mem_of_getElem? (i := 145) (by decide +kernel))) (List.mem_append_right _ (List.mem_of_getElem? (i := 6) (by decide +kernel))) (shU_1 hu2) (shU_1 hu) (by decide) (by decide) (by decide) (by decide) (by decide) (by decide) (Nat.le_of_ble_eq_true rfl) dX5_become_12 ?_
  refine aw_aload_n (i := 0) dX5_become_15 rfl rfl ?_
  refine aw_aload_n (i := 1) dX5_become_16 rfl rfl ?_
  refine aw_getX gf_X5_15 (shU hu2) rfl (congrFun (rI_other hne) _) dX5_become_17 ?_
  refine aw_putI pf_X5_15 (shU hu) rfl dX5_become_20 ?_
  exact aw_vret rfl dX5_become_23 ⟨rfl, rfl⟩
