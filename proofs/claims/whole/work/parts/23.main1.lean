/-- a refusal that is a number -/
def rfA (M : Mm) (a : Int32) : Mm := rfx M ((-a - -a / 10 * 10 - 1).toNatClampNeg)
def rfOK (a : Int32) : Prop := ∃ k, k < 7 ∧ -a - -a / 10 * 10 = nI (k + 1)
theorem rfA_k {M : Mm} {a : Int32} {k : Nat} (hk : k < 7) (h : -a - -a / 10 * 10 = nI (k + 1)) : rfA M a = rfx M k := by
  unfold rfA
  rw [h, nI_succ, show nI k + 1 - 1 = nI k from by grind, nI_clamp (by omega)]
theorem m_X7_refA {l : Launch} {M : Mm} {a : Int32} (h : rfOK a) : AMet l 1 yX7_refuse cX7_refuse 3 (some FieldType.int) [.ref 0, .int a] M (QE (some (.int a)) (rfA M a)) := by
  obtain ⟨k, hk, e⟩ := h
  rw [rfA_k hk e]
  exact m_X7_refuse e hk
theorem hasC {M : Mm} {c n : Nat} {x : Int32} (hn : M.1 c 11 = nI n) (hn30 : n ≤ 30) (h : ¬ x < 0 ∧ ¬ M.1 c 11 ≤ x) : ∃ p, p < n ∧ x = nI p := by
  rw [hn] at h
  rcases pk_ix x (n := n) (by omega) with q | q | ⟨j, q1, q2⟩
  · exact absurd q h.1
  · exact absurd q h.2
  · exact ⟨j, q1, q2⟩
theorem sw_n (x : Int32) {n : Nat} (hn : n < 2 ^ 31) : (∃ k, k < n ∧ x = nI k) ∨ ((x.toInt < 0 ∨ (n : Int) - 1 < x.toInt) ∧ ∀ k, k < n → ¬ x = nI k) := by
  have h0 : (0 : Int32).toInt = 0 := by decide
  rcases pk_ix x hn with q | q | ⟨j, q1, q2⟩
  · rw [i32_lt, h0] at q
    exact Or.inr ⟨Or.inl q, fun k hk e => by subst e; rw [nI_toInt (by omega)] at q; omega⟩
  · have q' : ¬ x.toInt < (n : Int) := by
      intro z
      rw [Int32.le_iff_toInt_le, nI_toInt hn] at q
      omega
    exact Or.inr ⟨Or.inr (by omega), fun k hk e => by subst e; rw [nI_toInt (by omega)] at q'; omega⟩
  · exact Or.inl ⟨j, q1, q2⟩
def S_row (M : Mm) (s o n : Int32) (v : Int32) (M' : Mm) : Prop := pIf (¬ s < 0 ∧ ¬ 8 ≤ s) (pIf (n < 0) (v = -4 ∧ M' = rfx M 3) (pIf (o < 0) (v = -6 ∧ M' = rfx M 5) (pIf (3 < o) (v = -6 ∧ M' = rfx M 5) (pIf (100 < n) (v = -7 ∧ M' = rfx M 6) (v = 1 ∧ M' = putRowM s.toNatClampNeg o n M))))) (v = -1 ∧ M' = rfx M 0)
theorem m_X7_row {l : Launch} {M : Mm} {s o n : Int32} : AMet l 3 yX7_row cX7_row 4 (some FieldType.int) [.ref 0, .int s, .int o, .int n] M (QI (S_row M s o n)) := by
  refine AMet.of (by decide) (by simp [aargs, Value.category]) ?_
  show AW l 3 yX7_row cX7_row 4 (some FieldType.int) 0 [some (.ref 0), some (.int s), some (.int o), some (.int n)] [] M _
  refine aw_iload_n (i := 1) dX7_row_0 rfl rfl ?_
  refine aw_cSi ck_X7_82 m_X7_isShelf (by decide) (by decide) rfl rfl (Nat.le_of_ble_eq_true rfl) dX7_row_1 ?_
  refine aw_ifne_b (tgt := 13) dX7_row_4 (by decide) (fun h4 => ?_) (fun h4 => ?_)
  ·
    obtain ⟨k, hk, rfl⟩ := shf_k h4
    refine aw_iload_n (i := 3) dX7_row_13 rfl rfl ?_
    refine aw_if_ge (tgt := 24) dX7_row_14 (by decide) (fun h14 => ?_) (fun h14 => ?_)
    ·
      refine aw_iload_n (i := 2) dX7_row_24 rfl rfl ?_
      refine aw_if_lt (tgt := 33) dX7_row_25 (by decide) (fun h25 => ?_) (fun h25 => ?_)
      ·
        refine aw_aload_n (i := 0) dX7_row_33 rfl rfl ?_
        refine aw_bipush (v := (-6)) dX7_row_34 (by decide) ?_
        refine aw_cVi ck_X7_86 (m_X7_refuse (k := 5) (by decide) (by decide)) sh_0 rfl (by decide) (by decide) rfl rfl (Nat.le_of_ble_eq_true rfl) dX7_row_36 ?_
        exact aw_iret rfl dX7_row_39 (by first | contradiction | exact ⟨_, rfl, by unfold S_row; (try rw [nI_clamp (show k < 2 ^ 31 from by omega)]); (try rw [nI_clamp (show j < 2 ^ 31 from by omega)]); (first | rw [pIf_t h4] | rw [pIf_f h4] | rw [pIf_f (Int32.not_lt.mpr h4)] | rw [pIf_f (Int32.not_le.mpr h4)] | rw [pIf_t (Int32.not_le.mp h4)] | rw [pIf_t (Int32.not_lt.mp h4)] | skip); (first | rw [pIf_t h14] | rw [pIf_f h14] | rw [pIf_f (Int32.not_lt.mpr h14)] | rw [pIf_f (Int32.not_le.mpr h14)] | rw [pIf_t (Int32.not_le.mp h14)] | rw [pIf_t (Int32.not_lt.mp h14)] | skip); (first | rw [pIf_t h25] | rw [pIf_f h25] | rw [pIf_f (Int32.not_lt.mpr h25)] | rw [pIf_f (Int32.not_le.mpr h25)] | rw [pIf_t (Int32.not_le.mp h25)] | rw [pIf_t (Int32.not_lt.mp h25)] | skip); (try rw [nI_clamp (show k < 2 ^ 31 from by omega)]); (try rw [nI_clamp (show j < 2 ^ 31 from by omega)]); exact ⟨rfl, rfl⟩⟩)
      ·
        refine aw_iload_n (i := 2) dX7_row_28 rfl rfl ?_
        refine aw_iconst (v := 3) dX7_row_29 (by decide) ?_
        refine aw_icmp_le (tgt := 40) dX7_row_30 (by decide) (fun h30 => ?_) (fun h30 => ?_)
        ·
          refine aw_iload_n (i := 3) dX7_row_40 rfl rfl ?_
          refine aw_bipush (v := 100) dX7_row_41 (by decide) ?_
          refine aw_icmp_le (tgt := 53) dX7_row_43 (by decide) (fun h43 => ?_) (fun h43 => ?_)
          ·
            refine aw_aload_n (i := 0) dX7_row_53 rfl rfl ?_
            refine aw_getR gf_X7_12 sh_0 rfl dX7_row_54 ?_
            refine aw_iload_n (i := 1) dX7_row_57 rfl rfl ?_
            refine aw_iload_n (i := 2) dX7_row_58 rfl rfl ?_
            refine aw_iload_n (i := 3) dX7_row_59 rfl rfl ?_
            refine aw_cVv ck_X7_90 (m_X6_putRow hk) sh_2 rfl (by decide) (by decide) rfl rfl (Nat.le_of_ble_eq_true rfl) dX7_row_60 ?_
            refine aw_iconst (v := 1) dX7_row_63 (by decide) ?_
            exact aw_iret rfl dX7_row_64 (by first | contradiction | exact ⟨_, rfl, by unfold S_row; (try rw [nI_clamp (show k < 2 ^ 31 from by omega)]); (try rw [nI_clamp (show j < 2 ^ 31 from by omega)]); (first | rw [pIf_t h4] | rw [pIf_f h4] | rw [pIf_f (Int32.not_lt.mpr h4)] | rw [pIf_f (Int32.not_le.mpr h4)] | rw [pIf_t (Int32.not_le.mp h4)] | rw [pIf_t (Int32.not_lt.mp h4)] | skip); (first | rw [pIf_t h14] | rw [pIf_f h14] | rw [pIf_f (Int32.not_lt.mpr h14)] | rw [pIf_f (Int32.not_le.mpr h14)] | rw [pIf_t (Int32.not_le.mp h14)] | rw [pIf_t (Int32.not_lt.mp h14)] | skip); (first | rw [pIf_t h25] | rw [pIf_f h25] | rw [pIf_f (Int32.not_lt.mpr h25)] | rw [pIf_f (Int32.not_le.mpr h25)] | rw [pIf_t (Int32.not_le.mp h25)] | rw [pIf_t (Int32.not_lt.mp h25)] | skip); (first | rw [pIf_t h30] | rw [pIf_f h30] | rw [pIf_f (Int32.not_lt.mpr h30)] | rw [pIf_f (Int32.not_le.mpr h30)] | rw [pIf_t (Int32.not_le.mp h30)] | rw [pIf_t (Int32.not_lt.mp h30)] | skip); (first | rw [pIf_t h43] | rw [pIf_f h43] | rw [pIf_f (Int32.not_lt.mpr h43)] | rw [pIf_f (Int32.not_le.mpr h43)] | rw [pIf_t (Int32.not_le.mp h43)] | rw [pIf_t (Int32.not_lt.mp h43)] | skip); (try rw [nI_clamp (show k < 2 ^ 31 from by omega)]); (try rw [nI_clamp (show j < 2 ^ 31 from by omega)]); exact ⟨rfl, rfl⟩⟩)
          ·
            refine aw_aload_n (i := 0) dX7_row_46 rfl rfl ?_
            refine aw_bipush (v := (-7)) dX7_row_47 (by decide) ?_
            refine aw_cVi ck_X7_86 (m_X7_refuse (k := 6) (by decide) (by decide)) sh_0 rfl (by decide) (by decide) rfl rfl (Nat.le_of_ble_eq_true rfl) dX7_row_49 ?_
            exact aw_iret rfl dX7_row_52 (by first | contradiction | exact ⟨_, rfl, by unfold S_row; (try rw [nI_clamp (show k < 2 ^ 31 from by omega)]); (try rw [nI_clamp (show j < 2 ^ 31 from by omega)]); (first | rw [pIf_t h4] | rw [pIf_f h4] | rw [pIf_f (Int32.not_lt.mpr h4)] | rw [pIf_f (Int32.not_le.mpr h4)] | rw [pIf_t (Int32.not_le.mp h4)] | rw [pIf_t (Int32.not_lt.mp h4)] | skip); (first | rw [pIf_t h14] | rw [pIf_f h14] | rw [pIf_f (Int32.not_lt.mpr h14)] | rw [pIf_f (Int32.not_le.mpr h14)] | rw [pIf_t (Int32.not_le.mp h14)] | rw [pIf_t (Int32.not_lt.mp h14)] | skip); (first | rw [pIf_t h25] | rw [pIf_f h25] | rw [pIf_f (Int32.not_lt.mpr h25)] | rw [pIf_f (Int32.not_le.mpr h25)] | rw [pIf_t (Int32.not_le.mp h25)] | rw [pIf_t (Int32.not_lt.mp h25)] | skip); (first | rw [pIf_t h30] | rw [pIf_f h30] | rw [pIf_f (Int32.not_lt.mpr h30)] | rw [pIf_f (Int32.not_le.mpr h30)] | rw [pIf_t (Int32.not_le.mp h30)] | rw [pIf_t (Int32.not_lt.mp h30)] | skip); (first | rw [pIf_t h43] | rw [pIf_f h43] | rw [pIf_f (Int32.not_lt.mpr h43)] | rw [pIf_f (Int32.not_le.mpr h43)] | rw [pIf_t (Int32.not_le.mp h43)] | rw [pIf_t (Int32.not_lt.mp h43)] | skip); (try rw [nI_clamp (show k < 2 ^ 31 from by omega)]); (try rw [nI_clamp (show j < 2 ^ 31 from by omega)]); exact ⟨rfl, rfl⟩⟩)
        ·
          refine aw_aload_n (i := 0) dX7_row_33 rfl rfl ?_
          refine aw_bipush (v := (-6)) dX7_row_34 (by decide) ?_
          refine aw_cVi ck_X7_86 (m_X7_refuse (k := 5) (by decide) (by decide)) sh_0 rfl (by decide) (by decide) rfl rfl (Nat.le_of_ble_eq_true rfl) dX7_row_36 ?_
          exact aw_iret rfl dX7_row_39 (by first | contradiction | exact ⟨_, rfl, by unfold S_row; (try rw [nI_clamp (show k < 2 ^ 31 from by omega)]); (try rw [nI_clamp (show j < 2 ^ 31 from by omega)]); (first | rw [pIf_t h4] | rw [pIf_f h4] | rw [pIf_f (Int32.not_lt.mpr h4)] | rw [pIf_f (Int32.not_le.mpr h4)] | rw [pIf_t (Int32.not_le.mp h4)] | rw [pIf_t (Int32.not_lt.mp h4)] | skip); (first | rw [pIf_t h14] | rw [pIf_f h14] | rw [pIf_f (Int32.not_lt.mpr h14)] | rw [pIf_f (Int32.not_le.mpr h14)] | rw [pIf_t (Int32.not_le.mp h14)] | rw [pIf_t (Int32.not_lt.mp h14)] | skip); (first | rw [pIf_t h25] | rw [pIf_f h25] | rw [pIf_f (Int32.not_lt.mpr h25)] | rw [pIf_f (Int32.not_le.mpr h25)] | rw [pIf_t (Int32.not_le.mp h25)] | rw [pIf_t (Int32.not_lt.mp h25)] | skip); (first | rw [pIf_t h30] | rw [pIf_f h30] | rw [pIf_f (Int32.not_lt.mpr h30)] | rw [pIf_f (Int32.not_le.mpr h30)] | rw [pIf_t (Int32.not_le.mp h30)] | rw [pIf_t (Int32.not_lt.mp h30)] | skip); (try rw [nI_clamp (show k < 2 ^ 31 from by omega)]); (try rw [nI_clamp (show j < 2 ^ 31 from by omega)]); exact ⟨rfl, rfl⟩⟩)
    ·
      refine aw_aload_n (i := 0) dX7_row_17 rfl rfl ?_
      refine aw_bipush (v := (-4)) dX7_row_18 (by decide) ?_
      refine aw_cVi ck_X7_86 (m_X7_refuse (k := 3) (by decide) (by decide)) sh_0 rfl (by decide) (by decide) rfl rfl (Nat.le_of_ble_eq_true rfl) dX7_row_20 ?_
      exact aw_iret rfl dX7_row_23 (by first | contradiction | exact ⟨_, rfl, by unfold S_row; (try rw [nI_clamp (show k < 2 ^ 31 from by omega)]); (try rw [nI_clamp (show j < 2 ^ 31 from by omega)]); (first | rw [pIf_t h4] | rw [pIf_f h4] | rw [pIf_f (Int32.not_lt.mpr h4)] | rw [pIf_f (Int32.not_le.mpr h4)] | rw [pIf_t (Int32.not_le.mp h4)] | rw [pIf_t (Int32.not_lt.mp h4)] | skip); (first | rw [pIf_t h14] | rw [pIf_f h14] | rw [pIf_f (Int32.not_lt.mpr h14)] | rw [pIf_f (Int32.not_le.mpr h14)] | rw [pIf_t (Int32.not_le.mp h14)] | rw [pIf_t (Int32.not_lt.mp h14)] | skip); (try rw [nI_clamp (show k < 2 ^ 31 from by omega)]); (try rw [nI_clamp (show j < 2 ^ 31 from by omega)]); exact ⟨rfl, rfl⟩⟩)
  ·
    refine aw_aload_n (i := 0) dX7_row_7 rfl rfl ?_
    refine aw_iconst (v := (-1)) dX7_row_8 (by decide) ?_
    refine aw_cVi ck_X7_86 (m_X7_refuse (k := 0) (by decide) (by decide)) sh_0 rfl (by decide) (by decide) rfl rfl (Nat.le_of_ble_eq_true rfl) dX7_row_9 ?_
    exact aw_iret rfl dX7_row_12 (by first | contradiction | exact ⟨_, rfl, by unfold S_row; (try rw [nI_clamp (show k < 2 ^ 31 from by omega)]); (try rw [nI_clamp (show j < 2 ^ 31 from by omega)]); (first | rw [pIf_t h4] | rw [pIf_f h4] | rw [pIf_f (Int32.not_lt.mpr h4)] | rw [pIf_f (Int32.not_le.mpr h4)] | rw [pIf_t (Int32.not_le.mp h4)] | rw [pIf_t (Int32.not_lt.mp h4)] | skip); (try rw [nI_clamp (show k < 2 ^ 31 from by omega)]); (try rw [nI_clamp (show j < 2 ^ 31 from by omega)]); exact ⟨rfl, rfl⟩⟩)
noncomputable def rrI (M : Mm) (s : Int32) : Int32 := pIf (¬ s < 0 ∧ ¬ 8 ≤ s) (pIf (perP M s) (-2) (pIf (rowP M s) 0 (-3))) (-1)
theorem rr_ok {M : Mm} {s : Int32} (h : ¬ rrI M s = 0) : rfOK (rrI M s) := by
  revert h
  unfold rrI
  by_cases h1 : ¬ s < 0 ∧ ¬ 8 ≤ s
  · rw [pIf_t h1]
    by_cases h2 : perP M s
    · rw [pIf_t h2]; exact fun _ => ⟨1, by decide, by decide⟩
    · rw [pIf_f h2]
      by_cases h3 : rowP M s
      · rw [pIf_t h3]; exact fun q => absurd rfl q
      · rw [pIf_f h3]; exact fun _ => ⟨2, by decide, by decide⟩
  · rw [pIf_f h1]; exact fun _ => ⟨0, by decide, by decide⟩
theorem rr_row {M : Mm} {s : Int32} (h : rrI M s = 0) : rowP M s := by
  revert h
  unfold rrI
  by_cases h1 : ¬ s < 0 ∧ ¬ 8 ≤ s
  · rw [pIf_t h1]
    by_cases h2 : perP M s
    · rw [pIf_t h2]; exact fun q => absurd q (by decide)
    · rw [pIf_f h2]
      by_cases h3 : rowP M s
      · exact fun _ => h3
      · rw [pIf_f h3]; exact fun q => absurd q (by decide)
  · rw [pIf_f h1]; exact fun q => absurd q (by decide)
noncomputable def rr2I (M : Mm) (s t : Int32) : Int32 := pIf (¬ s < 0 ∧ ¬ 8 ≤ s) (pIf (¬ t < 0 ∧ ¬ 8 ≤ t) (pIf (perP M s) (-2) (pIf (perP M t) (-2) (pIf (rowP M s) (pIf (rowP M t) (pIf (M.1 3 s.toNatClampNeg = M.1 3 t.toNatClampNeg) 0 (-2)) (-3)) (-3)))) (-1)) (-1)
theorem rr2_ok {M : Mm} {s t : Int32} (h : ¬ rr2I M s t = 0) : rfOK (rr2I M s t) := by
  have e1 : rfOK (-1) := ⟨0, by decide, by decide⟩
  have e2 : rfOK (-2) := ⟨1, by decide, by decide⟩
  have e3 : rfOK (-3) := ⟨2, by decide, by decide⟩
  revert h
  unfold rr2I
  by_cases h1 : ¬ s < 0 ∧ ¬ 8 ≤ s
  · rw [pIf_t h1]
    by_cases h2 : ¬ t < 0 ∧ ¬ 8 ≤ t
    · rw [pIf_t h2]
      by_cases h3 : perP M s
      · rw [pIf_t h3]; exact fun _ => e2
      · rw [pIf_f h3]
        by_cases h4 : perP M t
        · rw [pIf_t h4]; exact fun _ => e2
        · rw [pIf_f h4]
          by_cases h5 : rowP M s
          · rw [pIf_t h5]
            by_cases h6 : rowP M t
            · rw [pIf_t h6]
              by_cases h7 : M.1 3 s.toNatClampNeg = M.1 3 t.toNatClampNeg
              · rw [pIf_t h7]; exact fun q => absurd rfl q
              · rw [pIf_f h7]; exact fun _ => e2
            · rw [pIf_f h6]; exact fun _ => e3
          · rw [pIf_f h5]; exact fun _ => e3
    · rw [pIf_f h2]; exact fun _ => e1
  · rw [pIf_f h1]; exact fun _ => e1
theorem m_X7_refusalOfRow {l : Launch} {M : Mm} {s : Int32} : AMet l 3 yX7_refusalOfRow cX7_refusalOfRow 2 (some FieldType.int) [.ref 0, .int s] M (QE (some (.int (rrI M s))) M) := by
  refine AMet.of (by decide) (by simp [aargs, Value.category]) ?_
  show AW l 3 yX7_refusalOfRow cX7_refusalOfRow 2 (some FieldType.int) 0 [some (.ref 0), some (.int s)] [] M _
  refine aw_iload_n (i := 1) dX7_refusalOfRow_0 rfl rfl ?_
  refine aw_cSi ck_X7_82 m_X7_isShelf (by decide) (by decide) rfl rfl (Nat.le_of_ble_eq_true rfl) dX7_refusalOfRow_1 ?_
  refine aw_ifne_b (tgt := 9) dX7_refusalOfRow_4 (by decide) (fun h4 => ?_) (fun h4 => ?_)
  ·
    refine aw_aload_n (i := 0) dX7_refusalOfRow_9 rfl rfl ?_
    refine aw_getR gf_X7_12 sh_0 rfl dX7_refusalOfRow_10 ?_
    refine aw_iload_n (i := 1) dX7_refusalOfRow_13 rfl rfl ?_
    refine aw_cVi ck_X7_334 m_X6_holdsPerson sh_2 rfl (by decide) (by decide) rfl rfl (Nat.le_of_ble_eq_true rfl) dX7_refusalOfRow_14 ?_
    refine aw_ifeq_b (tgt := 23) dX7_refusalOfRow_17 (by decide) (fun h17 => ?_) (fun h17 => ?_)
    ·
      refine aw_aload_n (i := 0) dX7_refusalOfRow_23 rfl rfl ?_
      refine aw_getR gf_X7_12 sh_0 rfl dX7_refusalOfRow_24 ?_
      refine aw_iload_n (i := 1) dX7_refusalOfRow_27 rfl rfl ?_
      refine aw_cVi ck_X7_337 m_X6_holdsRow sh_2 rfl (by decide) (by decide) rfl rfl (Nat.le_of_ble_eq_true rfl) dX7_refusalOfRow_28 ?_
      refine aw_ifeq_b (tgt := 38) dX7_refusalOfRow_31 (by decide) (fun h31 => ?_) (fun h31 => ?_)
      ·
        refine aw_bipush (v := (-3)) dX7_refusalOfRow_38 (by decide) ?_
        exact aw_iret rfl dX7_refusalOfRow_40 (by first | contradiction | exact ⟨by unfold rrI; (try rw [nI_clamp (show k < 2 ^ 31 from by omega)]); (try rw [nI_clamp (show j < 2 ^ 31 from by omega)]); (first | rw [pIf_t h4] | rw [pIf_f h4] | rw [pIf_f (Int32.not_lt.mpr h4)] | rw [pIf_f (Int32.not_le.mpr h4)] | rw [pIf_t (Int32.not_le.mp h4)] | rw [pIf_t (Int32.not_lt.mp h4)] | skip); (first | rw [pIf_t h17] | rw [pIf_f h17] | rw [pIf_f (Int32.not_lt.mpr h17)] | rw [pIf_f (Int32.not_le.mpr h17)] | rw [pIf_t (Int32.not_le.mp h17)] | rw [pIf_t (Int32.not_lt.mp h17)] | skip); (first | rw [pIf_t h31] | rw [pIf_f h31] | rw [pIf_f (Int32.not_lt.mpr h31)] | rw [pIf_f (Int32.not_le.mpr h31)] | rw [pIf_t (Int32.not_le.mp h31)] | rw [pIf_t (Int32.not_lt.mp h31)] | skip); (try rw [nI_clamp (show k < 2 ^ 31 from by omega)]); (try rw [nI_clamp (show j < 2 ^ 31 from by omega)]); all_goals rfl, rfl⟩)
      ·
        refine aw_iconst (v := 0) dX7_refusalOfRow_34 (by decide) ?_
        refine aw_goto (tgt := 40) dX7_refusalOfRow_35 (by decide) ?_
        exact aw_iret rfl dX7_refusalOfRow_40 (by first | contradiction | exact ⟨by unfold rrI; (try rw [nI_clamp (show k < 2 ^ 31 from by omega)]); (try rw [nI_clamp (show j < 2 ^ 31 from by omega)]); (first | rw [pIf_t h4] | rw [pIf_f h4] | rw [pIf_f (Int32.not_lt.mpr h4)] | rw [pIf_f (Int32.not_le.mpr h4)] | rw [pIf_t (Int32.not_le.mp h4)] | rw [pIf_t (Int32.not_lt.mp h4)] | skip); (first | rw [pIf_t h17] | rw [pIf_f h17] | rw [pIf_f (Int32.not_lt.mpr h17)] | rw [pIf_f (Int32.not_le.mpr h17)] | rw [pIf_t (Int32.not_le.mp h17)] | rw [pIf_t (Int32.not_lt.mp h17)] | skip); (first | rw [pIf_t h31] | rw [pIf_f h31] | rw [pIf_f (Int32.not_lt.mpr h31)] | rw [pIf_f (Int32.not_le.mpr h31)] | rw [pIf_t (Int32.not_le.mp h31)] | rw [pIf_t (Int32.not_lt.mp h31)] | skip); (try rw [nI_clamp (show k < 2 ^ 31 from by omega)]); (try rw [nI_clamp (show j < 2 ^ 31 from by omega)]); all_goals rfl, rfl⟩)
    ·
      refine aw_bipush (v := (-2)) dX7_refusalOfRow_20 (by decide) ?_
      exact aw_iret rfl dX7_refusalOfRow_22 (by first | contradiction | exact ⟨by unfold rrI; (try rw [nI_clamp (show k < 2 ^ 31 from by omega)]); (try rw [nI_clamp (show j < 2 ^ 31 from by omega)]); (first | rw [pIf_t h4] | rw [pIf_f h4] | rw [pIf_f (Int32.not_lt.mpr h4)] | rw [pIf_f (Int32.not_le.mpr h4)] | rw [pIf_t (Int32.not_le.mp h4)] | rw [pIf_t (Int32.not_lt.mp h4)] | skip); (first | rw [pIf_t h17] | rw [pIf_f h17] | rw [pIf_f (Int32.not_lt.mpr h17)] | rw [pIf_f (Int32.not_le.mpr h17)] | rw [pIf_t (Int32.not_le.mp h17)] | rw [pIf_t (Int32.not_lt.mp h17)] | skip); (try rw [nI_clamp (show k < 2 ^ 31 from by omega)]); (try rw [nI_clamp (show j < 2 ^ 31 from by omega)]); all_goals rfl, rfl⟩)
  ·
    refine aw_iconst (v := (-1)) dX7_refusalOfRow_7 (by decide) ?_
    exact aw_iret rfl dX7_refusalOfRow_8 (by first | contradiction | exact ⟨by unfold rrI; (try rw [nI_clamp (show k < 2 ^ 31 from by omega)]); (try rw [nI_clamp (show j < 2 ^ 31 from by omega)]); (first | rw [pIf_t h4] | rw [pIf_f h4] | rw [pIf_f (Int32.not_lt.mpr h4)] | rw [pIf_f (Int32.not_le.mpr h4)] | rw [pIf_t (Int32.not_le.mp h4)] | rw [pIf_t (Int32.not_lt.mp h4)] | skip); (try rw [nI_clamp (show k < 2 ^ 31 from by omega)]); (try rw [nI_clamp (show j < 2 ^ 31 from by omega)]); all_goals rfl, rfl⟩)
theorem m_X7_refusalOfTwoRows {l : Launch} {M : Mm} {s t : Int32} : AMet l 3 yX7_refusalOfTwoRows cX7_refusalOfTwoRows 3 (some FieldType.int) [.ref 0, .int s, .int t] M (QE (some (.int (rr2I M s t))) M) := by
  refine AMet.of (by decide) (by simp [aargs, Value.category]) ?_
  show AW l 3 yX7_refusalOfTwoRows cX7_refusalOfTwoRows 3 (some FieldType.int) 0 [some (.ref 0), some (.int s), some (.int t)] [] M _
  refine aw_iload_n (i := 1) dX7_refusalOfTwoRows_0 rfl rfl ?_
  refine aw_cSi ck_X7_82 m_X7_isShelf (by decide) (by decide) rfl rfl (Nat.le_of_ble_eq_true rfl) dX7_refusalOfTwoRows_1 ?_
  refine aw_ifeq_b (tgt := 14) dX7_refusalOfTwoRows_4 (by decide) (fun h4 => ?_) (fun h4 => ?_)
  ·
    refine aw_iconst (v := (-1)) dX7_refusalOfTwoRows_14 (by decide) ?_
    exact aw_iret rfl dX7_refusalOfTwoRows_15 (by first | contradiction | exact ⟨by unfold rr2I; (try rw [nI_clamp (show k < 2 ^ 31 from by omega)]); (try rw [nI_clamp (show j < 2 ^ 31 from by omega)]); (first | rw [pIf_t h4] | rw [pIf_f h4] | rw [pIf_f (Int32.not_lt.mpr h4)] | rw [pIf_f (Int32.not_le.mpr h4)] | rw [pIf_t (Int32.not_le.mp h4)] | rw [pIf_t (Int32.not_lt.mp h4)] | skip); (try rw [nI_clamp (show k < 2 ^ 31 from by omega)]); (try rw [nI_clamp (show j < 2 ^ 31 from by omega)]); all_goals rfl, rfl⟩)
  ·
    refine aw_iload_n (i := 2) dX7_refusalOfTwoRows_7 rfl rfl ?_
    refine aw_cSi ck_X7_82 m_X7_isShelf (by decide) (by decide) rfl rfl (Nat.le_of_ble_eq_true rfl) dX7_refusalOfTwoRows_8 ?_
    refine aw_ifne_b (tgt := 16) dX7_refusalOfTwoRows_11 (by decide) (fun h11 => ?_) (fun h11 => ?_)
    ·
      obtain ⟨k, hk, rfl⟩ := shf_k h4
      obtain ⟨j, hj, rfl⟩ := shf_k h11
      refine aw_aload_n (i := 0) dX7_refusalOfTwoRows_16 rfl rfl ?_
      refine aw_getR gf_X7_12 sh_0 rfl dX7_refusalOfTwoRows_17 ?_
      refine aw_iload_n (i := 1) dX7_refusalOfTwoRows_20 rfl rfl ?_
      refine aw_cVi ck_X7_334 m_X6_holdsPerson sh_2 rfl (by decide) (by decide) rfl rfl (Nat.le_of_ble_eq_true rfl) dX7_refusalOfTwoRows_21 ?_
      refine aw_ifne_b (tgt := 38) dX7_refusalOfTwoRows_24 (by decide) (fun h24 => ?_) (fun h24 => ?_)
      ·
        refine aw_bipush (v := (-2)) dX7_refusalOfTwoRows_38 (by decide) ?_
        exact aw_iret rfl dX7_refusalOfTwoRows_40 (by first | contradiction | exact ⟨by unfold rr2I; (try rw [nI_clamp (show k < 2 ^ 31 from by omega)]); (try rw [nI_clamp (show j < 2 ^ 31 from by omega)]); (first | rw [pIf_t h4] | rw [pIf_f h4] | rw [pIf_f (Int32.not_lt.mpr h4)] | rw [pIf_f (Int32.not_le.mpr h4)] | rw [pIf_t (Int32.not_le.mp h4)] | rw [pIf_t (Int32.not_lt.mp h4)] | skip); (first | rw [pIf_t h11] | rw [pIf_f h11] | rw [pIf_f (Int32.not_lt.mpr h11)] | rw [pIf_f (Int32.not_le.mpr h11)] | rw [pIf_t (Int32.not_le.mp h11)] | rw [pIf_t (Int32.not_lt.mp h11)] | skip); (first | rw [pIf_t h24] | rw [pIf_f h24] | rw [pIf_f (Int32.not_lt.mpr h24)] | rw [pIf_f (Int32.not_le.mpr h24)] | rw [pIf_t (Int32.not_le.mp h24)] | rw [pIf_t (Int32.not_lt.mp h24)] | skip); (try rw [nI_clamp (show k < 2 ^ 31 from by omega)]); (try rw [nI_clamp (show j < 2 ^ 31 from by omega)]); all_goals rfl, rfl⟩)
      ·
        refine aw_aload_n (i := 0) dX7_refusalOfTwoRows_27 rfl rfl ?_
        refine aw_getR gf_X7_12 sh_0 rfl dX7_refusalOfTwoRows_28 ?_
        refine aw_iload_n (i := 2) dX7_refusalOfTwoRows_31 rfl rfl ?_
        refine aw_cVi ck_X7_334 m_X6_holdsPerson sh_2 rfl (by decide) (by decide) rfl rfl (Nat.le_of_ble_eq_true rfl) dX7_refusalOfTwoRows_32 ?_
        refine aw_ifeq_b (tgt := 41) dX7_refusalOfTwoRows_35 (by decide) (fun h35 => ?_) (fun h35 => ?_)
        ·
          refine aw_aload_n (i := 0) dX7_refusalOfTwoRows_41 rfl rfl ?_
          refine aw_getR gf_X7_12 sh_0 rfl dX7_refusalOfTwoRows_42 ?_
          refine aw_iload_n (i := 1) dX7_refusalOfTwoRows_45 rfl rfl ?_
          refine aw_cVi ck_X7_337 m_X6_holdsRow sh_2 rfl (by decide) (by decide) rfl rfl (Nat.le_of_ble_eq_true rfl) dX7_refusalOfTwoRows_46 ?_
          refine aw_ifeq_b (tgt := 63) dX7_refusalOfTwoRows_49 (by decide) (fun h49 => ?_) (fun h49 => ?_)
          ·
            refine aw_bipush (v := (-3)) dX7_refusalOfTwoRows_63 (by decide) ?_
            exact aw_iret rfl dX7_refusalOfTwoRows_65 (by first | contradiction | exact ⟨by unfold rr2I; (try rw [nI_clamp (show k < 2 ^ 31 from by omega)]); (try rw [nI_clamp (show j < 2 ^ 31 from by omega)]); (first | rw [pIf_t h4] | rw [pIf_f h4] | rw [pIf_f (Int32.not_lt.mpr h4)] | rw [pIf_f (Int32.not_le.mpr h4)] | rw [pIf_t (Int32.not_le.mp h4)] | rw [pIf_t (Int32.not_lt.mp h4)] | skip); (first | rw [pIf_t h11] | rw [pIf_f h11] | rw [pIf_f (Int32.not_lt.mpr h11)] | rw [pIf_f (Int32.not_le.mpr h11)] | rw [pIf_t (Int32.not_le.mp h11)] | rw [pIf_t (Int32.not_lt.mp h11)] | skip); (first | rw [pIf_t h24] | rw [pIf_f h24] | rw [pIf_f (Int32.not_lt.mpr h24)] | rw [pIf_f (Int32.not_le.mpr h24)] | rw [pIf_t (Int32.not_le.mp h24)] | rw [pIf_t (Int32.not_lt.mp h24)] | skip); (first | rw [pIf_t h35] | rw [pIf_f h35] | rw [pIf_f (Int32.not_lt.mpr h35)] | rw [pIf_f (Int32.not_le.mpr h35)] | rw [pIf_t (Int32.not_le.mp h35)] | rw [pIf_t (Int32.not_lt.mp h35)] | skip); (first | rw [pIf_t h49] | rw [pIf_f h49] | rw [pIf_f (Int32.not_lt.mpr h49)] | rw [pIf_f (Int32.not_le.mpr h49)] | rw [pIf_t (Int32.not_le.mp h49)] | rw [pIf_t (Int32.not_lt.mp h49)] | skip); (try rw [nI_clamp (show k < 2 ^ 31 from by omega)]); (try rw [nI_clamp (show j < 2 ^ 31 from by omega)]); all_goals rfl, rfl⟩)
          ·
            refine aw_aload_n (i := 0) dX7_refusalOfTwoRows_52 rfl rfl ?_
            refine aw_getR gf_X7_12 sh_0 rfl dX7_refusalOfTwoRows_53 ?_
            refine aw_iload_n (i := 2) dX7_refusalOfTwoRows_56 rfl rfl ?_
            refine aw_cVi ck_X7_337 m_X6_holdsRow sh_2 rfl (by decide) (by decide) rfl rfl (Nat.le_of_ble_eq_true rfl) dX7_refusalOfTwoRows_57 ?_
            refine aw_ifne_b (tgt := 66) dX7_refusalOfTwoRows_60 (by decide) (fun h60 => ?_) (fun h60 => ?_)
            ·
              refine aw_aload_n (i := 0) dX7_refusalOfTwoRows_66 rfl rfl ?_
              refine aw_getR gf_X7_12 sh_0 rfl dX7_refusalOfTwoRows_67 ?_
              refine aw_getR gf_X7_124 sh_2 rfl dX7_refusalOfTwoRows_70 ?_
              refine aw_iload_n (i := 1) dX7_refusalOfTwoRows_73 rfl rfl ?_
              refine aw_ialdN sh_3 (by omega) (by omega) dX7_refusalOfTwoRows_74 ?_
              refine aw_aload_n (i := 0) dX7_refusalOfTwoRows_75 rfl rfl ?_
              refine aw_getR gf_X7_12 sh_0 rfl dX7_refusalOfTwoRows_76 ?_
              refine aw_getR gf_X7_124 sh_2 rfl dX7_refusalOfTwoRows_79 ?_
              refine aw_iload_n (i := 2) dX7_refusalOfTwoRows_82 rfl rfl ?_
              refine aw_ialdN sh_3 (by omega) (by omega) dX7_refusalOfTwoRows_83 ?_
              refine aw_icmp_ne (tgt := 91) dX7_refusalOfTwoRows_84 (by decide) (fun h84 => ?_) (fun h84 => ?_)
              ·
                refine aw_bipush (v := (-2)) dX7_refusalOfTwoRows_91 (by decide) ?_
                exact aw_iret rfl dX7_refusalOfTwoRows_93 (by first | contradiction | exact ⟨by unfold rr2I; (try rw [nI_clamp (show k < 2 ^ 31 from by omega)]); (try rw [nI_clamp (show j < 2 ^ 31 from by omega)]); (first | rw [pIf_t h4] | rw [pIf_f h4] | rw [pIf_f (Int32.not_lt.mpr h4)] | rw [pIf_f (Int32.not_le.mpr h4)] | rw [pIf_t (Int32.not_le.mp h4)] | rw [pIf_t (Int32.not_lt.mp h4)] | skip); (first | rw [pIf_t h11] | rw [pIf_f h11] | rw [pIf_f (Int32.not_lt.mpr h11)] | rw [pIf_f (Int32.not_le.mpr h11)] | rw [pIf_t (Int32.not_le.mp h11)] | rw [pIf_t (Int32.not_lt.mp h11)] | skip); (first | rw [pIf_t h24] | rw [pIf_f h24] | rw [pIf_f (Int32.not_lt.mpr h24)] | rw [pIf_f (Int32.not_le.mpr h24)] | rw [pIf_t (Int32.not_le.mp h24)] | rw [pIf_t (Int32.not_lt.mp h24)] | skip); (first | rw [pIf_t h35] | rw [pIf_f h35] | rw [pIf_f (Int32.not_lt.mpr h35)] | rw [pIf_f (Int32.not_le.mpr h35)] | rw [pIf_t (Int32.not_le.mp h35)] | rw [pIf_t (Int32.not_lt.mp h35)] | skip); (first | rw [pIf_t h49] | rw [pIf_f h49] | rw [pIf_f (Int32.not_lt.mpr h49)] | rw [pIf_f (Int32.not_le.mpr h49)] | rw [pIf_t (Int32.not_le.mp h49)] | rw [pIf_t (Int32.not_lt.mp h49)] | skip); (first | rw [pIf_t h60] | rw [pIf_f h60] | rw [pIf_f (Int32.not_lt.mpr h60)] | rw [pIf_f (Int32.not_le.mpr h60)] | rw [pIf_t (Int32.not_le.mp h60)] | rw [pIf_t (Int32.not_lt.mp h60)] | skip); (first | rw [pIf_t h84] | rw [pIf_f h84] | rw [pIf_f (Int32.not_lt.mpr h84)] | rw [pIf_f (Int32.not_le.mpr h84)] | rw [pIf_t (Int32.not_le.mp h84)] | rw [pIf_t (Int32.not_lt.mp h84)] | skip); (try rw [nI_clamp (show k < 2 ^ 31 from by omega)]); (try rw [nI_clamp (show j < 2 ^ 31 from by omega)]); all_goals rfl, rfl⟩)
              ·
                refine aw_iconst (v := 0) dX7_refusalOfTwoRows_87 (by decide) ?_
                refine aw_goto (tgt := 93) dX7_refusalOfTwoRows_88 (by decide) ?_
                exact aw_iret rfl dX7_refusalOfTwoRows_93 (by first | contradiction | exact ⟨by unfold rr2I; (try rw [nI_clamp (show k < 2 ^ 31 from by omega)]); (try rw [nI_clamp (show j < 2 ^ 31 from by omega)]); (first | rw [pIf_t h4] | rw [pIf_f h4] | rw [pIf_f (Int32.not_lt.mpr h4)] | rw [pIf_f (Int32.not_le.mpr h4)] | rw [pIf_t (Int32.not_le.mp h4)] | rw [pIf_t (Int32.not_lt.mp h4)] | skip); (first | rw [pIf_t h11] | rw [pIf_f h11] | rw [pIf_f (Int32.not_lt.mpr h11)] | rw [pIf_f (Int32.not_le.mpr h11)] | rw [pIf_t (Int32.not_le.mp h11)] | rw [pIf_t (Int32.not_lt.mp h11)] | skip); (first | rw [pIf_t h24] | rw [pIf_f h24] | rw [pIf_f (Int32.not_lt.mpr h24)] | rw [pIf_f (Int32.not_le.mpr h24)] | rw [pIf_t (Int32.not_le.mp h24)] | rw [pIf_t (Int32.not_lt.mp h24)] | skip); (first | rw [pIf_t h35] | rw [pIf_f h35] | rw [pIf_f (Int32.not_lt.mpr h35)] | rw [pIf_f (Int32.not_le.mpr h35)] | rw [pIf_t (Int32.not_le.mp h35)] | rw [pIf_t (Int32.not_lt.mp h35)] | skip); (first | rw [pIf_t h49] | rw [pIf_f h49] | rw [pIf_f (Int32.not_lt.mpr h49)] | rw [pIf_f (Int32.not_le.mpr h49)] | rw [pIf_t (Int32.not_le.mp h49)] | rw [pIf_t (Int32.not_lt.mp h49)] | skip); (first | rw [pIf_t h60] | rw [pIf_f h60] | rw [pIf_f (Int32.not_lt.mpr h60)] | rw [pIf_f (Int32.not_le.mpr h60)] | rw [pIf_t (Int32.not_le.mp h60)] | rw [pIf_t (Int32.not_lt.mp h60)] | skip); (first | rw [pIf_t h84] | rw [pIf_f h84] | rw [pIf_f (Int32.not_lt.mpr h84)] | rw [pIf_f (Int32.not_le.mpr h84)] | rw [pIf_t (Int32.not_le.mp h84)] | rw [pIf_t (Int32.not_lt.mp h84)] | skip); (try rw [nI_clamp (show k < 2 ^ 31 from by omega)]); (try rw [nI_clamp (show j < 2 ^ 31 from by omega)]); all_goals rfl, rfl⟩)
            ·
              refine aw_bipush (v := (-3)) dX7_refusalOfTwoRows_63 (by decide) ?_
              exact aw_iret rfl dX7_refusalOfTwoRows_65 (by first | contradiction | exact ⟨by unfold rr2I; (try rw [nI_clamp (show k < 2 ^ 31 from by omega)]); (try rw [nI_clamp (show j < 2 ^ 31 from by omega)]); (first | rw [pIf_t h4] | rw [pIf_f h4] | rw [pIf_f (Int32.not_lt.mpr h4)] | rw [pIf_f (Int32.not_le.mpr h4)] | rw [pIf_t (Int32.not_le.mp h4)] | rw [pIf_t (Int32.not_lt.mp h4)] | skip); (first | rw [pIf_t h11] | rw [pIf_f h11] | rw [pIf_f (Int32.not_lt.mpr h11)] | rw [pIf_f (Int32.not_le.mpr h11)] | rw [pIf_t (Int32.not_le.mp h11)] | rw [pIf_t (Int32.not_lt.mp h11)] | skip); (first | rw [pIf_t h24] | rw [pIf_f h24] | rw [pIf_f (Int32.not_lt.mpr h24)] | rw [pIf_f (Int32.not_le.mpr h24)] | rw [pIf_t (Int32.not_le.mp h24)] | rw [pIf_t (Int32.not_lt.mp h24)] | skip); (first | rw [pIf_t h35] | rw [pIf_f h35] | rw [pIf_f (Int32.not_lt.mpr h35)] | rw [pIf_f (Int32.not_le.mpr h35)] | rw [pIf_t (Int32.not_le.mp h35)] | rw [pIf_t (Int32.not_lt.mp h35)] | skip); (first | rw [pIf_t h49] | rw [pIf_f h49] | rw [pIf_f (Int32.not_lt.mpr h49)] | rw [pIf_f (Int32.not_le.mpr h49)] | rw [pIf_t (Int32.not_le.mp h49)] | rw [pIf_t (Int32.not_lt.mp h49)] | skip); (first | rw [pIf_t h60] | rw [pIf_f h60] | rw [pIf_f (Int32.not_lt.mpr h60)] | rw [pIf_f (Int32.not_le.mpr h60)] | rw [pIf_t (Int32.not_le.mp h60)] | rw [pIf_t (Int32.not_lt.mp h60)] | skip); (try rw [nI_clamp (show k < 2 ^ 31 from by omega)]); (try rw [nI_clamp (show j < 2 ^ 31 from by omega)]); all_goals rfl, rfl⟩)
        ·
          refine aw_bipush (v := (-2)) dX7_refusalOfTwoRows_38 (by decide) ?_
          exact aw_iret rfl dX7_refusalOfTwoRows_40 (by first | contradiction | exact ⟨by unfold rr2I; (try rw [nI_clamp (show k < 2 ^ 31 from by omega)]); (try rw [nI_clamp (show j < 2 ^ 31 from by omega)]); (first | rw [pIf_t h4] | rw [pIf_f h4] | rw [pIf_f (Int32.not_lt.mpr h4)] | rw [pIf_f (Int32.not_le.mpr h4)] | rw [pIf_t (Int32.not_le.mp h4)] | rw [pIf_t (Int32.not_lt.mp h4)] | skip); (first | rw [pIf_t h11] | rw [pIf_f h11] | rw [pIf_f (Int32.not_lt.mpr h11)] | rw [pIf_f (Int32.not_le.mpr h11)] | rw [pIf_t (Int32.not_le.mp h11)] | rw [pIf_t (Int32.not_lt.mp h11)] | skip); (first | rw [pIf_t h24] | rw [pIf_f h24] | rw [pIf_f (Int32.not_lt.mpr h24)] | rw [pIf_f (Int32.not_le.mpr h24)] | rw [pIf_t (Int32.not_le.mp h24)] | rw [pIf_t (Int32.not_lt.mp h24)] | skip); (first | rw [pIf_t h35] | rw [pIf_f h35] | rw [pIf_f (Int32.not_lt.mpr h35)] | rw [pIf_f (Int32.not_le.mpr h35)] | rw [pIf_t (Int32.not_le.mp h35)] | rw [pIf_t (Int32.not_lt.mp h35)] | skip); (try rw [nI_clamp (show k < 2 ^ 31 from by omega)]); (try rw [nI_clamp (show j < 2 ^ 31 from by omega)]); all_goals rfl, rfl⟩)
    ·
      refine aw_iconst (v := (-1)) dX7_refusalOfTwoRows_14 (by decide) ?_
      exact aw_iret rfl dX7_refusalOfTwoRows_15 (by first | contradiction | exact ⟨by unfold rr2I; (try rw [nI_clamp (show k < 2 ^ 31 from by omega)]); (try rw [nI_clamp (show j < 2 ^ 31 from by omega)]); (first | rw [pIf_t h4] | rw [pIf_f h4] | rw [pIf_f (Int32.not_lt.mpr h4)] | rw [pIf_f (Int32.not_le.mpr h4)] | rw [pIf_t (Int32.not_le.mp h4)] | rw [pIf_t (Int32.not_lt.mp h4)] | skip); (first | rw [pIf_t h11] | rw [pIf_f h11] | rw [pIf_f (Int32.not_lt.mpr h11)] | rw [pIf_f (Int32.not_le.mpr h11)] | rw [pIf_t (Int32.not_le.mp h11)] | rw [pIf_t (Int32.not_lt.mp h11)] | skip); (try rw [nI_clamp (show k < 2 ^ 31 from by omega)]); (try rw [nI_clamp (show j < 2 ^ 31 from by omega)]); all_goals rfl, rfl⟩)
theorem elP_n {M : Mm} (hz : sizOK M) {s i : Int32} (h : elP M s i) : ∃ k j, k < 8 ∧ j < 100 ∧ s = nI k ∧ i = nI j := elP_i hz h
theorem partP_n {M : Mm} (hz : sizOK M) {s i n : Int32} (h : partP M s i n) : ∃ k z a m, k < 8 ∧ z ≤ 100 ∧ a + m ≤ z ∧ s = nI k ∧ i = nI a ∧ n = nI m ∧ M.1 4 k = nI z := by
  obtain ⟨k, hk, rfl, -, h1, h2, h3⟩ := h
  obtain ⟨z, hz1, hz2⟩ := hz k hk
  rw [hz2] at h3
  have h0 : (0 : Int32).toInt = 0 := by decide
  have i1 : ∃ a, a < 2 ^ 31 ∧ i = nI a := ⟨i.toNatClampNeg, by have := i.toInt_lt; rw [i32_lt, h0] at h1; show i.toInt.toNat < _; omega, Int32.toInt_inj.mp (by rw [nI_toInt (by have := i.toInt_lt; show i.toInt.toNat < _; omega)]; rw [i32_lt, h0] at h1; show i.toInt = (i.toInt.toNat : Int); omega)⟩
  have i2 : ∃ a, a < 2 ^ 31 ∧ n = nI a := ⟨n.toNatClampNeg, by have := n.toInt_lt; rw [i32_lt, h0] at h2; show n.toInt.toNat < _; omega, Int32.toInt_inj.mp (by rw [nI_toInt (by have := n.toInt_lt; show n.toInt.toNat < _; omega)]; rw [i32_lt, h0] at h2; show n.toInt = (n.toInt.toNat : Int); omega)⟩
  obtain ⟨a, ha, rfl⟩ := i1
  obtain ⟨m, hm, rfl⟩ := i2
  refine ⟨k, z, a, m, hk, hz1, ?_, rfl, rfl, rfl, hz2⟩
  have e1 : ((nI a).toInt64 + (nI m).toInt64).toInt = (a : Int) + m := by
    rw [Int64.toInt_add, Int32.toInt_toInt64, Int32.toInt_toInt64, nI_toInt ha, nI_toInt hm]
    exact Int.bmod_eq_of_le (by omega) (by omega)
  have e2 : ((nI z).toInt64).toInt = (z : Int) := by rw [Int32.toInt_toInt64, nI_toInt (by omega)]
  by_cases hq : a + m ≤ z
  · exact hq
  · exfalso
    apply h3
    unfold lg_cmp
    rw [if_pos (show _ > _ from Int64.lt_iff_toInt_lt.mpr (by rw [e1, e2]; omega))]
    decide
def S_set (M : Mm) (s i : Int32) (w : Int64) (v : Int32) (M' : Mm) : Prop := pIf (rrI M s = 0) (pIf (elP M s i) (v = 1 ∧ M' = mL M (6 + s.toNatClampNeg) i.toNatClampNeg (cutL (M.1 3 s.toNatClampNeg - 100) w)) (v = -5 ∧ M' = rfx M 4)) (v = rrI M s ∧ M' = rfA M (rrI M s))
theorem m_X7_set {l : Launch} {M : Mm} {s i : Int32} {w : Int64} (hz : sizOK M) : AMet l 4 yX7_set cX7_set 6 (some FieldType.int) [.ref 0, .int s, .int i, .long w] M (QI (S_set M s i w)) := by
  refine AMet.of (by decide) (by simp [aargs, Value.category]) ?_
  show AW l 4 yX7_set cX7_set 6 (some FieldType.int) 0 [some (.ref 0), some (.int s), some (.int i), some (.long w), none, none] [] M _
  refine aw_aload_n (i := 0) dX7_set_0 rfl rfl ?_
  refine aw_iload_n (i := 1) dX7_set_1 rfl rfl ?_
  refine aw_cVi ck_X7_94 m_X7_refusalOfRow sh_0 rfl (by decide) (by decide) rfl rfl (Nat.le_of_ble_eq_true rfl) dX7_set_2 ?_
  refine aw_istore (i := 5) dX7_set_5 (by decide) ?_
  refine aw_iload (i := 5) dX7_set_7 rfl ?_
  refine aw_if_eq (tgt := 19) dX7_set_9 (by decide) (fun h9 => ?_) (fun h9 => ?_)
  ·
    refine aw_aload_n (i := 0) dX7_set_19 rfl rfl ?_
    refine aw_getR gf_X7_12 sh_0 rfl dX7_set_20 ?_
    refine aw_iload_n (i := 1) dX7_set_23 rfl rfl ?_
    refine aw_iload_n (i := 2) dX7_set_24 rfl rfl ?_
    refine aw_cVi ck_X7_97 m_X6_hasElement sh_2 rfl (by decide) (by decide) rfl rfl (Nat.le_of_ble_eq_true rfl) dX7_set_25 ?_
    refine aw_ifne_b (tgt := 38) dX7_set_28 (by decide) (fun h28 => ?_) (fun h28 => ?_)
    ·
      obtain ⟨k, j, hk, hj, rfl, rfl⟩ := elP_n hz h28
      refine aw_aload_n (i := 0) dX7_set_38 rfl rfl ?_
      refine aw_getR gf_X7_12 sh_0 rfl dX7_set_39 ?_
      refine aw_iload_n (i := 1) dX7_set_42 rfl rfl ?_
      refine aw_iload_n (i := 2) dX7_set_43 rfl rfl ?_
      refine aw_lload_n (i := 3) dX7_set_44 rfl rfl ?_
      refine aw_cVv ck_X7_101 (m_X6_putElement hk hj) sh_2 rfl (by decide) (by decide) rfl rfl (Nat.le_of_ble_eq_true rfl) dX7_set_45 ?_
      refine aw_iconst (v := 1) dX7_set_48 (by decide) ?_
      exact aw_iret rfl dX7_set_49 (by first | contradiction | exact ⟨_, rfl, by unfold S_set; (try rw [nI_clamp (show k < 2 ^ 31 from by omega)]); (try rw [nI_clamp (show j < 2 ^ 31 from by omega)]); (first | rw [pIf_t h9] | rw [pIf_f h9] | rw [pIf_f (Int32.not_lt.mpr h9)] | rw [pIf_f (Int32.not_le.mpr h9)] | rw [pIf_t (Int32.not_le.mp h9)] | rw [pIf_t (Int32.not_lt.mp h9)] | skip); (first | rw [pIf_t h28] | rw [pIf_f h28] | rw [pIf_f (Int32.not_lt.mpr h28)] | rw [pIf_f (Int32.not_le.mpr h28)] | rw [pIf_t (Int32.not_le.mp h28)] | rw [pIf_t (Int32.not_lt.mp h28)] | skip); (try rw [nI_clamp (show k < 2 ^ 31 from by omega)]); (try rw [nI_clamp (show j < 2 ^ 31 from by omega)]); exact ⟨rfl, rfl⟩⟩)
    ·
      refine aw_aload_n (i := 0) dX7_set_31 rfl rfl ?_
      refine aw_bipush (v := (-5)) dX7_set_32 (by decide) ?_
      refine aw_cVi ck_X7_86 (m_X7_refuse (k := 4) (by decide) (by decide)) sh_0 rfl (by decide) (by decide) rfl rfl (Nat.le_of_ble_eq_true rfl) dX7_set_34 ?_
      exact aw_iret rfl dX7_set_37 (by first | contradiction | exact ⟨_, rfl, by unfold S_set; (try rw [nI_clamp (show k < 2 ^ 31 from by omega)]); (try rw [nI_clamp (show j < 2 ^ 31 from by omega)]); (first | rw [pIf_t h9] | rw [pIf_f h9] | rw [pIf_f (Int32.not_lt.mpr h9)] | rw [pIf_f (Int32.not_le.mpr h9)] | rw [pIf_t (Int32.not_le.mp h9)] | rw [pIf_t (Int32.not_lt.mp h9)] | skip); (first | rw [pIf_t h28] | rw [pIf_f h28] | rw [pIf_f (Int32.not_lt.mpr h28)] | rw [pIf_f (Int32.not_le.mpr h28)] | rw [pIf_t (Int32.not_le.mp h28)] | rw [pIf_t (Int32.not_lt.mp h28)] | skip); (try rw [nI_clamp (show k < 2 ^ 31 from by omega)]); (try rw [nI_clamp (show j < 2 ^ 31 from by omega)]); exact ⟨rfl, rfl⟩⟩)
  ·
    have hrf := rr_ok h9
    refine aw_aload_n (i := 0) dX7_set_12 rfl rfl ?_
    refine aw_iload (i := 5) dX7_set_13 rfl ?_
    refine aw_cVi ck_X7_86 (m_X7_refA hrf) sh_0 rfl (by decide) (by decide) rfl rfl (Nat.le_of_ble_eq_true rfl) dX7_set_15 ?_
    exact aw_iret rfl dX7_set_18 (by first | contradiction | exact ⟨_, rfl, by unfold S_set; (try rw [nI_clamp (show k < 2 ^ 31 from by omega)]); (try rw [nI_clamp (show j < 2 ^ 31 from by omega)]); (first | rw [pIf_t h9] | rw [pIf_f h9] | rw [pIf_f (Int32.not_lt.mpr h9)] | rw [pIf_f (Int32.not_le.mpr h9)] | rw [pIf_t (Int32.not_le.mp h9)] | rw [pIf_t (Int32.not_lt.mp h9)] | skip); (try rw [nI_clamp (show k < 2 ^ 31 from by omega)]); (try rw [nI_clamp (show j < 2 ^ 31 from by omega)]); exact ⟨rfl, rfl⟩⟩)
def S_copy (M : Mm) (s t i j n : Int32) (v : Int32) (M' : Mm) : Prop := pIf (rr2I M s t = 0) (pIf (n < 0) (v = -4 ∧ M' = rfx M 3) (pIf (partP M s i n) (pIf (partP M t j n) (v = 1 ∧ M' = rL M (6 + t.toNatClampNeg) (va_cpy (M.2 (6 + s.toNatClampNeg)) (M.2 (6 + t.toNatClampNeg)) i.toNatClampNeg j.toNatClampNeg n.toNatClampNeg)) (v = -5 ∧ M' = rfx M 4)) (v = -5 ∧ M' = rfx M 4))) (v = rr2I M s t ∧ M' = rfA M (rr2I M s t))
theorem m_X7_copy {l : Launch} {M : Mm} {s t i j n : Int32} (hz : sizOK M) : AMet l 4 yX7_copy cX7_copy 7 (some FieldType.int) [.ref 0, .int s, .int t, .int i, .int j, .int n] M (QI (S_copy M s t i j n)) := by
  refine AMet.of (by decide) (by simp [aargs, Value.category]) ?_
  show AW l 4 yX7_copy cX7_copy 7 (some FieldType.int) 0 [some (.ref 0), some (.int s), some (.int t), some (.int i), some (.int j), some (.int n), none] [] M _
  refine aw_aload_n (i := 0) dX7_copy_0 rfl rfl ?_
  refine aw_iload_n (i := 1) dX7_copy_1 rfl rfl ?_
  refine aw_iload_n (i := 2) dX7_copy_2 rfl rfl ?_
  refine aw_cVi ck_X7_105 m_X7_refusalOfTwoRows sh_0 rfl (by decide) (by decide) rfl rfl (Nat.le_of_ble_eq_true rfl) dX7_copy_3 ?_
  refine aw_istore (i := 6) dX7_copy_6 (by decide) ?_
  refine aw_iload (i := 6) dX7_copy_8 rfl ?_
  refine aw_if_eq (tgt := 20) dX7_copy_10 (by decide) (fun h10 => ?_) (fun h10 => ?_)
  ·
    refine aw_iload (i := 5) dX7_copy_20 rfl ?_
    refine aw_if_ge (tgt := 32) dX7_copy_22 (by decide) (fun h22 => ?_) (fun h22 => ?_)
    ·
      refine aw_aload_n (i := 0) dX7_copy_32 rfl rfl ?_
      refine aw_getR gf_X7_12 sh_0 rfl dX7_copy_33 ?_
      refine aw_iload_n (i := 1) dX7_copy_36 rfl rfl ?_
      refine aw_iload_n (i := 3) dX7_copy_37 rfl rfl ?_
      refine aw_iload (i := 5) dX7_copy_38 rfl ?_
      refine aw_cVi ck_X7_109 m_X6_hasPart sh_2 rfl (by decide) (by decide) rfl rfl (Nat.le_of_ble_eq_true rfl) dX7_copy_40 ?_
      refine aw_ifeq_b (tgt := 61) dX7_copy_43 (by decide) (fun h43 => ?_) (fun h43 => ?_)
      ·
        refine aw_aload_n (i := 0) dX7_copy_61 rfl rfl ?_
        refine aw_bipush (v := (-5)) dX7_copy_62 (by decide) ?_
        refine aw_cVi ck_X7_86 (m_X7_refuse (k := 4) (by decide) (by decide)) sh_0 rfl (by decide) (by decide) rfl rfl (Nat.le_of_ble_eq_true rfl) dX7_copy_64 ?_
        exact aw_iret rfl dX7_copy_67 (by first | contradiction | exact ⟨_, rfl, by unfold S_copy; (try rw [nI_clamp (show k < 2 ^ 31 from by omega)]); (try rw [nI_clamp (show k2 < 2 ^ 31 from by omega)]); (try rw [nI_clamp (show a < 2 ^ 31 from by omega)]); (try rw [nI_clamp (show b < 2 ^ 31 from by omega)]); (try rw [nI_clamp (show m < 2 ^ 31 from by omega)]); (first | rw [pIf_t h10] | rw [pIf_f h10] | rw [pIf_f (Int32.not_lt.mpr h10)] | rw [pIf_f (Int32.not_le.mpr h10)] | rw [pIf_t (Int32.not_le.mp h10)] | rw [pIf_t (Int32.not_lt.mp h10)] | skip); (first | rw [pIf_t h22] | rw [pIf_f h22] | rw [pIf_f (Int32.not_lt.mpr h22)] | rw [pIf_f (Int32.not_le.mpr h22)] | rw [pIf_t (Int32.not_le.mp h22)] | rw [pIf_t (Int32.not_lt.mp h22)] | skip); (first | rw [pIf_t h43] | rw [pIf_f h43] | rw [pIf_f (Int32.not_lt.mpr h43)] | rw [pIf_f (Int32.not_le.mpr h43)] | rw [pIf_t (Int32.not_le.mp h43)] | rw [pIf_t (Int32.not_lt.mp h43)] | skip); (try rw [nI_clamp (show k < 2 ^ 31 from by omega)]); (try rw [nI_clamp (show k2 < 2 ^ 31 from by omega)]); (try rw [nI_clamp (show a < 2 ^ 31 from by omega)]); (try rw [nI_clamp (show b < 2 ^ 31 from by omega)]); (try rw [nI_clamp (show m < 2 ^ 31 from by omega)]); exact ⟨rfl, rfl⟩⟩)
      ·
        refine aw_aload_n (i := 0) dX7_copy_46 rfl rfl ?_
        refine aw_getR gf_X7_12 sh_0 rfl dX7_copy_47 ?_
        refine aw_iload_n (i := 2) dX7_copy_50 rfl rfl ?_
        refine aw_iload (i := 4) dX7_copy_51 rfl ?_
        refine aw_iload (i := 5) dX7_copy_53 rfl ?_
        refine aw_cVi ck_X7_109 m_X6_hasPart sh_2 rfl (by decide) (by decide) rfl rfl (Nat.le_of_ble_eq_true rfl) dX7_copy_55 ?_
        refine aw_ifne_b (tgt := 68) dX7_copy_58 (by decide) (fun h58 => ?_) (fun h58 => ?_)
        ·
          obtain ⟨k, z, a, m, hk, hz1, hz2, rfl, rfl, rfl, -⟩ := partP_n hz h43
          obtain ⟨k2, z2, b, m2, hk2, hz3, hz4, rfl, rfl, em, -⟩ := partP_n hz h58
          have em2 : m = m2 := by have e9 := congrArg Int32.toNatClampNeg em; rw [nI_clamp (by omega), nI_clamp (by omega)] at e9; exact e9
          subst em2
          refine aw_aload_n (i := 0) dX7_copy_68 rfl rfl ?_
          refine aw_getR gf_X7_12 sh_0 rfl dX7_copy_69 ?_
          refine aw_iload_n (i := 1) dX7_copy_72 rfl rfl ?_
          refine aw_iload_n (i := 2) dX7_copy_73 rfl rfl ?_
          refine aw_iload_n (i := 3) dX7_copy_74 rfl rfl ?_
          refine aw_iload (i := 4) dX7_copy_75 rfl ?_
          refine aw_iload (i := 5) dX7_copy_77 rfl ?_
          refine aw_cVv ck_X7_113 (m_X6_copyPart hk hk2 (by omega) (by omega)) sh_2 rfl (by decide) (by decide) rfl rfl (Nat.le_of_ble_eq_true rfl) dX7_copy_79 ?_
          refine aw_iconst (v := 1) dX7_copy_82 (by decide) ?_
          exact aw_iret rfl dX7_copy_83 (by first | contradiction | exact ⟨_, rfl, by unfold S_copy; (try rw [nI_clamp (show k < 2 ^ 31 from by omega)]); (try rw [nI_clamp (show k2 < 2 ^ 31 from by omega)]); (try rw [nI_clamp (show a < 2 ^ 31 from by omega)]); (try rw [nI_clamp (show b < 2 ^ 31 from by omega)]); (try rw [nI_clamp (show m < 2 ^ 31 from by omega)]); (first | rw [pIf_t h10] | rw [pIf_f h10] | rw [pIf_f (Int32.not_lt.mpr h10)] | rw [pIf_f (Int32.not_le.mpr h10)] | rw [pIf_t (Int32.not_le.mp h10)] | rw [pIf_t (Int32.not_lt.mp h10)] | skip); (first | rw [pIf_t h22] | rw [pIf_f h22] | rw [pIf_f (Int32.not_lt.mpr h22)] | rw [pIf_f (Int32.not_le.mpr h22)] | rw [pIf_t (Int32.not_le.mp h22)] | rw [pIf_t (Int32.not_lt.mp h22)] | skip); (first | rw [pIf_t h43] | rw [pIf_f h43] | rw [pIf_f (Int32.not_lt.mpr h43)] | rw [pIf_f (Int32.not_le.mpr h43)] | rw [pIf_t (Int32.not_le.mp h43)] | rw [pIf_t (Int32.not_lt.mp h43)] | skip); (first | rw [pIf_t h58] | rw [pIf_f h58] | rw [pIf_f (Int32.not_lt.mpr h58)] | rw [pIf_f (Int32.not_le.mpr h58)] | rw [pIf_t (Int32.not_le.mp h58)] | rw [pIf_t (Int32.not_lt.mp h58)] | skip); (try rw [nI_clamp (show k < 2 ^ 31 from by omega)]); (try rw [nI_clamp (show k2 < 2 ^ 31 from by omega)]); (try rw [nI_clamp (show a < 2 ^ 31 from by omega)]); (try rw [nI_clamp (show b < 2 ^ 31 from by omega)]); (try rw [nI_clamp (show m < 2 ^ 31 from by omega)]); exact ⟨rfl, rfl⟩⟩)
        ·
          refine aw_aload_n (i := 0) dX7_copy_61 rfl rfl ?_
          refine aw_bipush (v := (-5)) dX7_copy_62 (by decide) ?_
          refine aw_cVi ck_X7_86 (m_X7_refuse (k := 4) (by decide) (by decide)) sh_0 rfl (by decide) (by decide) rfl rfl (Nat.le_of_ble_eq_true rfl) dX7_copy_64 ?_
          exact aw_iret rfl dX7_copy_67 (by first | contradiction | exact ⟨_, rfl, by unfold S_copy; (try rw [nI_clamp (show k < 2 ^ 31 from by omega)]); (try rw [nI_clamp (show k2 < 2 ^ 31 from by omega)]); (try rw [nI_clamp (show a < 2 ^ 31 from by omega)]); (try rw [nI_clamp (show b < 2 ^ 31 from by omega)]); (try rw [nI_clamp (show m < 2 ^ 31 from by omega)]); (first | rw [pIf_t h10] | rw [pIf_f h10] | rw [pIf_f (Int32.not_lt.mpr h10)] | rw [pIf_f (Int32.not_le.mpr h10)] | rw [pIf_t (Int32.not_le.mp h10)] | rw [pIf_t (Int32.not_lt.mp h10)] | skip); (first | rw [pIf_t h22] | rw [pIf_f h22] | rw [pIf_f (Int32.not_lt.mpr h22)] | rw [pIf_f (Int32.not_le.mpr h22)] | rw [pIf_t (Int32.not_le.mp h22)] | rw [pIf_t (Int32.not_lt.mp h22)] | skip); (first | rw [pIf_t h43] | rw [pIf_f h43] | rw [pIf_f (Int32.not_lt.mpr h43)] | rw [pIf_f (Int32.not_le.mpr h43)] | rw [pIf_t (Int32.not_le.mp h43)] | rw [pIf_t (Int32.not_lt.mp h43)] | skip); (first | rw [pIf_t h58] | rw [pIf_f h58] | rw [pIf_f (Int32.not_lt.mpr h58)] | rw [pIf_f (Int32.not_le.mpr h58)] | rw [pIf_t (Int32.not_le.mp h58)] | rw [pIf_t (Int32.not_lt.mp h58)] | skip); (try rw [nI_clamp (show k < 2 ^ 31 from by omega)]); (try rw [nI_clamp (show k2 < 2 ^ 31 from by omega)]); (try rw [nI_clamp (show a < 2 ^ 31 from by omega)]); (try rw [nI_clamp (show b < 2 ^ 31 from by omega)]); (try rw [nI_clamp (show m < 2 ^ 31 from by omega)]); exact ⟨rfl, rfl⟩⟩)
    ·
      refine aw_aload_n (i := 0) dX7_copy_25 rfl rfl ?_
      refine aw_bipush (v := (-4)) dX7_copy_26 (by decide) ?_
      refine aw_cVi ck_X7_86 (m_X7_refuse (k := 3) (by decide) (by decide)) sh_0 rfl (by decide) (by decide) rfl rfl (Nat.le_of_ble_eq_true rfl) dX7_copy_28 ?_
      exact aw_iret rfl dX7_copy_31 (by first | contradiction | exact ⟨_, rfl, by unfold S_copy; (try rw [nI_clamp (show k < 2 ^ 31 from by omega)]); (try rw [nI_clamp (show k2 < 2 ^ 31 from by omega)]); (try rw [nI_clamp (show a < 2 ^ 31 from by omega)]); (try rw [nI_clamp (show b < 2 ^ 31 from by omega)]); (try rw [nI_clamp (show m < 2 ^ 31 from by omega)]); (first | rw [pIf_t h10] | rw [pIf_f h10] | rw [pIf_f (Int32.not_lt.mpr h10)] | rw [pIf_f (Int32.not_le.mpr h10)] | rw [pIf_t (Int32.not_le.mp h10)] | rw [pIf_t (Int32.not_lt.mp h10)] | skip); (first | rw [pIf_t h22] | rw [pIf_f h22] | rw [pIf_f (Int32.not_lt.mpr h22)] | rw [pIf_f (Int32.not_le.mpr h22)] | rw [pIf_t (Int32.not_le.mp h22)] | rw [pIf_t (Int32.not_lt.mp h22)] | skip); (try rw [nI_clamp (show k < 2 ^ 31 from by omega)]); (try rw [nI_clamp (show k2 < 2 ^ 31 from by omega)]); (try rw [nI_clamp (show a < 2 ^ 31 from by omega)]); (try rw [nI_clamp (show b < 2 ^ 31 from by omega)]); (try rw [nI_clamp (show m < 2 ^ 31 from by omega)]); exact ⟨rfl, rfl⟩⟩)
  ·
    have hrf := rr2_ok h10
    refine aw_aload_n (i := 0) dX7_copy_13 rfl rfl ?_
    refine aw_iload (i := 6) dX7_copy_14 rfl ?_
    refine aw_cVi ck_X7_86 (m_X7_refA hrf) sh_0 rfl (by decide) (by decide) rfl rfl (Nat.le_of_ble_eq_true rfl) dX7_copy_16 ?_
    exact aw_iret rfl dX7_copy_19 (by first | contradiction | exact ⟨_, rfl, by unfold S_copy; (try rw [nI_clamp (show k < 2 ^ 31 from by omega)]); (try rw [nI_clamp (show k2 < 2 ^ 31 from by omega)]); (try rw [nI_clamp (show a < 2 ^ 31 from by omega)]); (try rw [nI_clamp (show b < 2 ^ 31 from by omega)]); (try rw [nI_clamp (show m < 2 ^ 31 from by omega)]); (first | rw [pIf_t h10] | rw [pIf_f h10] | rw [pIf_f (Int32.not_lt.mpr h10)] | rw [pIf_f (Int32.not_le.mpr h10)] | rw [pIf_t (Int32.not_le.mp h10)] | rw [pIf_t (Int32.not_lt.mp h10)] | skip); (try rw [nI_clamp (show k < 2 ^ 31 from by omega)]); (try rw [nI_clamp (show k2 < 2 ^ 31 from by omega)]); (try rw [nI_clamp (show a < 2 ^ 31 from by omega)]); (try rw [nI_clamp (show b < 2 ^ 31 from by omega)]); (try rw [nI_clamp (show m < 2 ^ 31 from by omega)]); exact ⟨rfl, rfl⟩⟩)
theorem m_X7_element {l : Launch} {M : Mm} {s i : Int32} (hz : sizOK M) : AMet l 5 yX7_element cX7_element 3 (some FieldType.long) [.ref 0, .int s, .int i] M (QE (some (.long (elL M s i))) M) := by
  refine AMet.of (by decide) (by simp [aargs, Value.category]) ?_
  show AW l 5 yX7_element cX7_element 3 (some FieldType.long) 0 [some (.ref 0), some (.int s), some (.int i)] [] M _
  refine aw_aload_n (i := 0) dX7_element_0 rfl rfl ?_
  refine aw_getR gf_X7_12 sh_0 rfl dX7_element_1 ?_
  refine aw_iload_n (i := 1) dX7_element_4 rfl rfl ?_
  refine aw_iload_n (i := 2) dX7_element_5 rfl rfl ?_
  refine aw_cVl ck_X7_117 (m_X6_elementOr0 hz) sh_2 rfl (by decide) (by decide) rfl rfl (Nat.le_of_ble_eq_true rfl) dX7_element_6 ?_
  exact aw_lret rfl dX7_element_9 ⟨rfl, rfl⟩
def S_show (M : Mm) (s x : Int32) (v : Int32) (M' : Mm) : Prop := pIf (¬ s < 0 ∧ ¬ 8 ≤ s) (pIf (x = -1) (v = 0 ∧ M' = mI M 3 s.toNatClampNeg x) (pIf (¬ x < 0 ∧ ¬ M.1 14 11 ≤ x) (v = 1 ∧ M' = mI M 3 s.toNatClampNeg x) (v = -1 ∧ M' = rfx M 0))) (v = -1 ∧ M' = rfx M 0)
theorem m_X7_show {l : Launch} {M : Mm} {s x : Int32} : AMet l 3 yX7_show cX7_show 3 (some FieldType.int) [.ref 0, .int s, .int x] M (QI (S_show M s x)) := by
  refine AMet.of (by decide) (by simp [aargs, Value.category]) ?_
  show AW l 3 yX7_show cX7_show 3 (some FieldType.int) 0 [some (.ref 0), some (.int s), some (.int x)] [] M _
  refine aw_iload_n (i := 1) dX7_show_0 rfl rfl ?_
  refine aw_cSi ck_X7_82 m_X7_isShelf (by decide) (by decide) rfl rfl (Nat.le_of_ble_eq_true rfl) dX7_show_1 ?_
  refine aw_ifeq_b (tgt := 23) dX7_show_4 (by decide) (fun h4 => ?_) (fun h4 => ?_)
  ·
    refine aw_aload_n (i := 0) dX7_show_23 rfl rfl ?_
    refine aw_iconst (v := (-1)) dX7_show_24 (by decide) ?_
    refine aw_cVi ck_X7_86 (m_X7_refuse (k := 0) (by decide) (by decide)) sh_0 rfl (by decide) (by decide) rfl rfl (Nat.le_of_ble_eq_true rfl) dX7_show_25 ?_
    exact aw_iret rfl dX7_show_28 (by first | contradiction | exact ⟨_, rfl, by unfold S_show; (try rw [nI_clamp (show k < 2 ^ 31 from by omega)]); (try rw [nI_clamp (show j < 2 ^ 31 from by omega)]); (first | rw [pIf_t h4] | rw [pIf_f h4] | rw [pIf_f (Int32.not_lt.mpr h4)] | rw [pIf_f (Int32.not_le.mpr h4)] | rw [pIf_t (Int32.not_le.mp h4)] | rw [pIf_t (Int32.not_lt.mp h4)] | skip); (try rw [nI_clamp (show k < 2 ^ 31 from by omega)]); (try rw [nI_clamp (show j < 2 ^ 31 from by omega)]); exact ⟨rfl, rfl⟩⟩)
  ·
    obtain ⟨k, hk, rfl⟩ := shf_k h4
    refine aw_iload_n (i := 2) dX7_show_7 rfl rfl ?_
    refine aw_iconst (v := (-1)) dX7_show_8 (by decide) ?_
    refine aw_icmp_eq (tgt := 29) dX7_show_9 (by decide) (fun h9 => ?_) (fun h9 => ?_)
    ·
      refine aw_aload_n (i := 0) dX7_show_29 rfl rfl ?_
      refine aw_getR gf_X7_12 sh_0 rfl dX7_show_30 ?_
      refine aw_getR gf_X7_124 sh_2 rfl dX7_show_33 ?_
      refine aw_iload_n (i := 1) dX7_show_36 rfl rfl ?_
      refine aw_iload_n (i := 2) dX7_show_37 rfl rfl ?_
      refine aw_iastN sh_3 (by omega) (by omega) dX7_show_38 ?_
      refine aw_iload_n (i := 2) dX7_show_39 rfl rfl ?_
      refine aw_iconst (v := (-1)) dX7_show_40 (by decide) ?_
      refine aw_icmp_ne (tgt := 48) dX7_show_41 (by decide) (fun h41 => ?_) (fun h41 => ?_)
      ·
        refine aw_iconst (v := 1) dX7_show_48 (by decide) ?_
        exact aw_iret rfl dX7_show_49 (by first | contradiction | exact ⟨_, rfl, by unfold S_show; (try rw [nI_clamp (show k < 2 ^ 31 from by omega)]); (try rw [nI_clamp (show j < 2 ^ 31 from by omega)]); (first | rw [pIf_t h4] | rw [pIf_f h4] | rw [pIf_f (Int32.not_lt.mpr h4)] | rw [pIf_f (Int32.not_le.mpr h4)] | rw [pIf_t (Int32.not_le.mp h4)] | rw [pIf_t (Int32.not_lt.mp h4)] | skip); (first | rw [pIf_t h9] | rw [pIf_f h9] | rw [pIf_f (Int32.not_lt.mpr h9)] | rw [pIf_f (Int32.not_le.mpr h9)] | rw [pIf_t (Int32.not_le.mp h9)] | rw [pIf_t (Int32.not_lt.mp h9)] | skip); (first | rw [pIf_t h41] | rw [pIf_f h41] | rw [pIf_f (Int32.not_lt.mpr h41)] | rw [pIf_f (Int32.not_le.mpr h41)] | rw [pIf_t (Int32.not_le.mp h41)] | rw [pIf_t (Int32.not_lt.mp h41)] | skip); (try rw [nI_clamp (show k < 2 ^ 31 from by omega)]); (try rw [nI_clamp (show j < 2 ^ 31 from by omega)]); exact ⟨rfl, rfl⟩⟩)
      ·
        refine aw_iconst (v := 0) dX7_show_44 (by decide) ?_
        refine aw_goto (tgt := 49) dX7_show_45 (by decide) ?_
        exact aw_iret rfl dX7_show_49 (by first | contradiction | exact ⟨_, rfl, by unfold S_show; (try rw [nI_clamp (show k < 2 ^ 31 from by omega)]); (try rw [nI_clamp (show j < 2 ^ 31 from by omega)]); (first | rw [pIf_t h4] | rw [pIf_f h4] | rw [pIf_f (Int32.not_lt.mpr h4)] | rw [pIf_f (Int32.not_le.mpr h4)] | rw [pIf_t (Int32.not_le.mp h4)] | rw [pIf_t (Int32.not_lt.mp h4)] | skip); (first | rw [pIf_t h9] | rw [pIf_f h9] | rw [pIf_f (Int32.not_lt.mpr h9)] | rw [pIf_f (Int32.not_le.mpr h9)] | rw [pIf_t (Int32.not_le.mp h9)] | rw [pIf_t (Int32.not_lt.mp h9)] | skip); (first | rw [pIf_t h41] | rw [pIf_f h41] | rw [pIf_f (Int32.not_lt.mpr h41)] | rw [pIf_f (Int32.not_le.mpr h41)] | rw [pIf_t (Int32.not_le.mp h41)] | rw [pIf_t (Int32.not_lt.mp h41)] | skip); (try rw [nI_clamp (show k < 2 ^ 31 from by omega)]); (try rw [nI_clamp (show j < 2 ^ 31 from by omega)]); exact ⟨rfl, rfl⟩⟩)
    ·
      refine aw_aload_n (i := 0) dX7_show_12 rfl rfl ?_
      refine aw_getR gf_X7_19 sh_0 rfl dX7_show_13 ?_
      refine aw_iload_n (i := 2) dX7_show_16 rfl rfl ?_
      refine aw_cVi ck_X7_121 (m_X1_has (by simp [isC] : isC 14)) sh_14 rfl (by decide) (by decide) rfl rfl (Nat.le_of_ble_eq_true rfl) dX7_show_17 ?_
      refine aw_ifne_b (tgt := 29) dX7_show_20 (by decide) (fun h20 => ?_) (fun h20 => ?_)
      ·
        refine aw_aload_n (i := 0) dX7_show_29 rfl rfl ?_
        refine aw_getR gf_X7_12 sh_0 rfl dX7_show_30 ?_
        refine aw_getR gf_X7_124 sh_2 rfl dX7_show_33 ?_
        refine aw_iload_n (i := 1) dX7_show_36 rfl rfl ?_
        refine aw_iload_n (i := 2) dX7_show_37 rfl rfl ?_
        refine aw_iastN sh_3 (by omega) (by omega) dX7_show_38 ?_
        refine aw_iload_n (i := 2) dX7_show_39 rfl rfl ?_
        refine aw_iconst (v := (-1)) dX7_show_40 (by decide) ?_
        refine aw_icmp_ne (tgt := 48) dX7_show_41 (by decide) (fun h41 => ?_) (fun h41 => ?_)
        ·
          refine aw_iconst (v := 1) dX7_show_48 (by decide) ?_
          exact aw_iret rfl dX7_show_49 (by first | contradiction | exact ⟨_, rfl, by unfold S_show; (try rw [nI_clamp (show k < 2 ^ 31 from by omega)]); (try rw [nI_clamp (show j < 2 ^ 31 from by omega)]); (first | rw [pIf_t h4] | rw [pIf_f h4] | rw [pIf_f (Int32.not_lt.mpr h4)] | rw [pIf_f (Int32.not_le.mpr h4)] | rw [pIf_t (Int32.not_le.mp h4)] | rw [pIf_t (Int32.not_lt.mp h4)] | skip); (first | rw [pIf_t h9] | rw [pIf_f h9] | rw [pIf_f (Int32.not_lt.mpr h9)] | rw [pIf_f (Int32.not_le.mpr h9)] | rw [pIf_t (Int32.not_le.mp h9)] | rw [pIf_t (Int32.not_lt.mp h9)] | skip); (first | rw [pIf_t h20] | rw [pIf_f h20] | rw [pIf_f (Int32.not_lt.mpr h20)] | rw [pIf_f (Int32.not_le.mpr h20)] | rw [pIf_t (Int32.not_le.mp h20)] | rw [pIf_t (Int32.not_lt.mp h20)] | skip); (first | rw [pIf_t h41] | rw [pIf_f h41] | rw [pIf_f (Int32.not_lt.mpr h41)] | rw [pIf_f (Int32.not_le.mpr h41)] | rw [pIf_t (Int32.not_le.mp h41)] | rw [pIf_t (Int32.not_lt.mp h41)] | skip); (try rw [nI_clamp (show k < 2 ^ 31 from by omega)]); (try rw [nI_clamp (show j < 2 ^ 31 from by omega)]); exact ⟨rfl, rfl⟩⟩)
        ·
          refine aw_iconst (v := 0) dX7_show_44 (by decide) ?_
          refine aw_goto (tgt := 49) dX7_show_45 (by decide) ?_
          exact aw_iret rfl dX7_show_49 (by first | contradiction | exact ⟨_, rfl, by unfold S_show; (try rw [nI_clamp (show k < 2 ^ 31 from by omega)]); (try rw [nI_clamp (show j < 2 ^ 31 from by omega)]); (first | rw [pIf_t h4] | rw [pIf_f h4] | rw [pIf_f (Int32.not_lt.mpr h4)] | rw [pIf_f (Int32.not_le.mpr h4)] | rw [pIf_t (Int32.not_le.mp h4)] | rw [pIf_t (Int32.not_lt.mp h4)] | skip); (first | rw [pIf_t h9] | rw [pIf_f h9] | rw [pIf_f (Int32.not_lt.mpr h9)] | rw [pIf_f (Int32.not_le.mpr h9)] | rw [pIf_t (Int32.not_le.mp h9)] | rw [pIf_t (Int32.not_lt.mp h9)] | skip); (first | rw [pIf_t h20] | rw [pIf_f h20] | rw [pIf_f (Int32.not_lt.mpr h20)] | rw [pIf_f (Int32.not_le.mpr h20)] | rw [pIf_t (Int32.not_le.mp h20)] | rw [pIf_t (Int32.not_lt.mp h20)] | skip); (first | rw [pIf_t h41] | rw [pIf_f h41] | rw [pIf_f (Int32.not_lt.mpr h41)] | rw [pIf_f (Int32.not_le.mpr h41)] | rw [pIf_t (Int32.not_le.mp h41)] | rw [pIf_t (Int32.not_lt.mp h41)] | skip); (try rw [nI_clamp (show k < 2 ^ 31 from by omega)]); (try rw [nI_clamp (show j < 2 ^ 31 from by omega)]); exact ⟨rfl, rfl⟩⟩)
      ·
        refine aw_aload_n (i := 0) dX7_show_23 rfl rfl ?_
        refine aw_iconst (v := (-1)) dX7_show_24 (by decide) ?_
        refine aw_cVi ck_X7_86 (m_X7_refuse (k := 0) (by decide) (by decide)) sh_0 rfl (by decide) (by decide) rfl rfl (Nat.le_of_ble_eq_true rfl) dX7_show_25 ?_
        exact aw_iret rfl dX7_show_28 (by first | contradiction | exact ⟨_, rfl, by unfold S_show; (try rw [nI_clamp (show k < 2 ^ 31 from by omega)]); (try rw [nI_clamp (show j < 2 ^ 31 from by omega)]); (first | rw [pIf_t h4] | rw [pIf_f h4] | rw [pIf_f (Int32.not_lt.mpr h4)] | rw [pIf_f (Int32.not_le.mpr h4)] | rw [pIf_t (Int32.not_le.mp h4)] | rw [pIf_t (Int32.not_lt.mp h4)] | skip); (first | rw [pIf_t h9] | rw [pIf_f h9] | rw [pIf_f (Int32.not_lt.mpr h9)] | rw [pIf_f (Int32.not_le.mpr h9)] | rw [pIf_t (Int32.not_le.mp h9)] | rw [pIf_t (Int32.not_lt.mp h9)] | skip); (first | rw [pIf_t h20] | rw [pIf_f h20] | rw [pIf_f (Int32.not_lt.mpr h20)] | rw [pIf_f (Int32.not_le.mpr h20)] | rw [pIf_t (Int32.not_le.mp h20)] | rw [pIf_t (Int32.not_lt.mp h20)] | skip); (try rw [nI_clamp (show k < 2 ^ 31 from by omega)]); (try rw [nI_clamp (show j < 2 ^ 31 from by omega)]); exact ⟨rfl, rfl⟩⟩)
def S_holds (M : Mm) (s : Int32) (v : Int32) (M' : Mm) : Prop := pIf (¬ s < 0 ∧ ¬ 8 ≤ s) (v = M.1 3 s.toNatClampNeg ∧ M' = M) (v = -1 ∧ M' = M)
theorem m_X7_holds {l : Launch} {M : Mm} {s : Int32} : AMet l 3 yX7_holds cX7_holds 2 (some FieldType.int) [.ref 0, .int s] M (QI (S_holds M s)) := by
  refine AMet.of (by decide) (by simp [aargs, Value.category]) ?_
  show AW l 3 yX7_holds cX7_holds 2 (some FieldType.int) 0 [some (.ref 0), some (.int s)] [] M _
  refine aw_iload_n (i := 1) dX7_holds_0 rfl rfl ?_
  refine aw_cSi ck_X7_82 m_X7_isShelf (by decide) (by decide) rfl rfl (Nat.le_of_ble_eq_true rfl) dX7_holds_1 ?_
  refine aw_ifeq_b (tgt := 19) dX7_holds_4 (by decide) (fun h4 => ?_) (fun h4 => ?_)
  ·
    refine aw_iconst (v := (-1)) dX7_holds_19 (by decide) ?_
    exact aw_iret rfl dX7_holds_20 (by first | contradiction | exact ⟨_, rfl, by unfold S_holds; (try rw [nI_clamp (show k < 2 ^ 31 from by omega)]); (try rw [nI_clamp (show j < 2 ^ 31 from by omega)]); (first | rw [pIf_t h4] | rw [pIf_f h4] | rw [pIf_f (Int32.not_lt.mpr h4)] | rw [pIf_f (Int32.not_le.mpr h4)] | rw [pIf_t (Int32.not_le.mp h4)] | rw [pIf_t (Int32.not_lt.mp h4)] | skip); (try rw [nI_clamp (show k < 2 ^ 31 from by omega)]); (try rw [nI_clamp (show j < 2 ^ 31 from by omega)]); exact ⟨rfl, rfl⟩⟩)
  ·
    obtain ⟨k, hk, rfl⟩ := shf_k h4
    refine aw_aload_n (i := 0) dX7_holds_7 rfl rfl ?_
    refine aw_getR gf_X7_12 sh_0 rfl dX7_holds_8 ?_
    refine aw_getR gf_X7_124 sh_2 rfl dX7_holds_11 ?_
    refine aw_iload_n (i := 1) dX7_holds_14 rfl rfl ?_
    refine aw_ialdN sh_3 (by omega) (by omega) dX7_holds_15 ?_
    refine aw_goto (tgt := 20) dX7_holds_16 (by decide) ?_
    exact aw_iret rfl dX7_holds_20 (by first | contradiction | exact ⟨_, rfl, by unfold S_holds; (try rw [nI_clamp (show k < 2 ^ 31 from by omega)]); (try rw [nI_clamp (show j < 2 ^ 31 from by omega)]); (first | rw [pIf_t h4] | rw [pIf_f h4] | rw [pIf_f (Int32.not_lt.mpr h4)] | rw [pIf_f (Int32.not_le.mpr h4)] | rw [pIf_t (Int32.not_le.mp h4)] | rw [pIf_t (Int32.not_lt.mp h4)] | skip); (try rw [nI_clamp (show k < 2 ^ 31 from by omega)]); (try rw [nI_clamp (show j < 2 ^ 31 from by omega)]); exact ⟨rfl, rfl⟩⟩)
def undP : Nat → Int32 → Int32 → Prop
  | 0, a, w => a = w
  | k + 1, a, w => ((a = -1 ∨ a = w) ∧ a = w) ∨ (¬ (a = -1 ∨ a = w) ∧ undP k (aboveI a) w)
def upN : Nat → Int32 → Int32
  | 0, a => a
  | k + 1, a => upN k (aboveI a)
theorem above_v (a : Int32) : aboveI a = 0 ∨ aboveI a = 2 ∨ aboveI a = 1 ∨ aboveI a = -1 := by
  unfold aboveI
  by_cases h1 : a = 1 ∨ a = 2
  · exact Or.inl (if_pos h1)
  · rw [if_neg h1]
    by_cases h2 : a = 3 ∨ a = 4 ∨ a = 5
    · exact Or.inr (Or.inl (if_pos h2))
    · rw [if_neg h2]
      by_cases h3 : a = 6
      · exact Or.inr (Or.inr (Or.inl (if_pos h3)))
      · exact Or.inr (Or.inr (Or.inr (if_neg h3)))
theorem up4 (a : Int32) : upN 4 a = -1 := by
  show upN 3 (aboveI a) = -1
  rcases above_v a with h | h | h | h <;> rw [h] <;> decide
theorem m_X7_isKindOrUnder {l : Launch} {M : Mm} {a w : Int32} : AMet l 2 yX7_isKindOrUnder cX7_isKindOrUnder 3 (some FieldType.boolean) [.int a, .int w] M (QE (some (.int (b01 (undP 4 a w)))) M) := by
  refine AMet.of (by decide) (by simp [aargs, Value.category]) ?_
  show AW l 2 yX7_isKindOrUnder cX7_isKindOrUnder 3 (some FieldType.boolean) 0 [some (.int a), some (.int w), none] [] M _
  refine aw_iload_n (i := 0) dX7_isKindOrUnder_0 rfl rfl ?_
  refine aw_istore_n (i := 2) dX7_isKindOrUnder_1 rfl (by decide) ?_
  have lp2 : ∀ k a9, upN k a9 = -1 → undP k a9 w = undP 4 a w → AW l 2 yX7_isKindOrUnder cX7_isKindOrUnder 3 (some FieldType.boolean) 2 [some (.int a), some (.int w), some (.int a9)] [] M (QE (some (.int (b01 (undP 4 a w)))) M) := by
    intro k
    induction k using Nat.strongRecOn with
    | _ k ih =>
    intro a9 hu hK
    refine aw_iload_n (i := 2) dX7_isKindOrUnder_2 rfl rfl ?_
    refine aw_iconst (v := (-1)) dX7_isKindOrUnder_3 (by decide) ?_
    refine aw_icmp_eq (tgt := 20) dX7_isKindOrUnder_4 (by decide) (fun h4 => ?_) (fun h4 => ?_)
    ·
      refine aw_iload_n (i := 2) dX7_isKindOrUnder_20 rfl rfl ?_
      refine aw_iload_n (i := 1) dX7_isKindOrUnder_21 rfl rfl ?_
      refine aw_ternC_ne (tgt := 29) (j := 30) (v := 1) (w := 0) dX7_isKindOrUnder_22 (by decide) dX7_isKindOrUnder_25 (by decide) dX7_isKindOrUnder_26 (by decide) dX7_isKindOrUnder_29 (by decide) rfl ?_
      refine aw_top t01a ?_
      exact aw_zret rfl b01_ok dX7_isKindOrUnder_30 ⟨congrArg (fun z => some (Value.int z)) (b01_c (by rw [← hK]; exact ⟨fun q => by have q := Classical.not_not.mp q; match k with | 0 => exact q | k9 + 1 => exact Or.inl ⟨Or.inr q, q⟩, fun q => by match k, q with | 0, q => exact fun z => z q | k9 + 1, q => exact fun z => q.elim (fun q => z q.2) (fun q => q.1 (by first | exact Or.inl h4 | exact Or.inr h9))⟩)), rfl⟩
    ·
      refine aw_iload_n (i := 2) dX7_isKindOrUnder_7 rfl rfl ?_
      refine aw_iload_n (i := 1) dX7_isKindOrUnder_8 rfl rfl ?_
      refine aw_icmp_eq (tgt := 20) dX7_isKindOrUnder_9 (by decide) (fun h9 => ?_) (fun h9 => ?_)
      ·
        refine aw_iload_n (i := 2) dX7_isKindOrUnder_20 rfl rfl ?_
        refine aw_iload_n (i := 1) dX7_isKindOrUnder_21 rfl rfl ?_
        refine aw_ternC_ne (tgt := 29) (j := 30) (v := 1) (w := 0) dX7_isKindOrUnder_22 (by decide) dX7_isKindOrUnder_25 (by decide) dX7_isKindOrUnder_26 (by decide) dX7_isKindOrUnder_29 (by decide) rfl ?_
        refine aw_top t01a ?_
        exact aw_zret rfl b01_ok dX7_isKindOrUnder_30 ⟨congrArg (fun z => some (Value.int z)) (b01_c (by rw [← hK]; exact ⟨fun q => by have q := Classical.not_not.mp q; match k with | 0 => exact q | k9 + 1 => exact Or.inl ⟨Or.inr q, q⟩, fun q => by match k, q with | 0, q => exact fun z => z q | k9 + 1, q => exact fun z => q.elim (fun q => z q.2) (fun q => q.1 (by first | exact Or.inl h4 | exact Or.inr h9))⟩)), rfl⟩
      ·
        refine aw_iload_n (i := 2) dX7_isKindOrUnder_12 rfl rfl ?_
        refine aw_cSi ck_X7_340 m_X7_kindAbove (by decide) (by decide) rfl rfl (Nat.le_of_ble_eq_true rfl) dX7_isKindOrUnder_13 ?_
        refine aw_istore_n (i := 2) dX7_isKindOrUnder_16 rfl (by decide) ?_
        refine aw_goto (tgt := 2) dX7_isKindOrUnder_17 (by decide) ?_
        match k, ih, hu, hK with
        | 0, _, hu, _ => exact absurd hu h4
        | k9 + 1, ih, hu, hK =>
          have e9 : undP (k9 + 1) a9 w = undP k9 (aboveI a9) w := propext ⟨fun q => q.elim (fun q => absurd q.2 h9) (fun q => q.2), fun q => Or.inr ⟨fun q => q.elim h4 h9, q⟩⟩
          exact ih k9 (by omega) (aboveI a9) hu (e9.symm.trans hK)
  exact lp2 4 a (up4 a) rfl
