/-- a refusal that is a number -/
def rfA (M : Mm) (a : Int32) : Mm := rfx M ((-a - -a / 10 * 10 - 1).toNatClampNeg)
def rfOK (a : Int32) : Prop := ∃ k, k < 7 ∧ -a - -a / 10 * 10 = nI (k + 1)
theorem rfA_k {M : Mm} {a : Int32} {k : Nat} (hk : k < 7) (h : -a - -a / 10 * 10 = nI (k + 1)) : rfA M a = rfx M k := by
  unfold rfA
  rw [h, nI_succ, show nI k + 1 - 1 = nI k from by grind, nI_clamp (by omega)]
theorem m_X7_refA {l : Launch} {M : Mm} {a : Int32} (h : rfOK a) : AMet l 1 yX7_refuse cX7_refuse 3 (some FieldType.int) [.ref 0, .int a] M (QE (some (.int a)) (rfA M a)) := by
  obtain ⟨k, hk, e⟩ := h
  rw [rfA_k hk e]
  exact m_X7_refuse e hk
theorem hasC {M : Mm} {c n : Nat} {x : Int32} (hn : M.1 c 11 = nI n) (hn30 : n ≤ 30) (h : ¬ x < 0 ∧ ¬ M.1 c 11 ≤ x) : ∃ p, p < n ∧ x = nI p := by
  rw [hn] at h
  rcases pk_ix x (n := n) (by omega) with q | q | ⟨j, q1, q2⟩
  · exact absurd q h.1
  · exact absurd q h.2
  · exact ⟨j, q1, q2⟩
theorem sw_n (x : Int32) {n : Nat} (hn : n < 2 ^ 31) : (∃ k, k < n ∧ x = nI k) ∨ ((x.toInt < 0 ∨ (n : Int) - 1 < x.toInt) ∧ ∀ k, k < n → ¬ x = nI k) := by
  have h0 : (0 : Int32).toInt = 0 := by decide
  rcases pk_ix x hn with q | q | ⟨j, q1, q2⟩
  · rw [i32_lt, h0] at q
    exact Or.inr ⟨Or.inl q, fun k hk e => by subst e; rw [nI_toInt (by omega)] at q; omega⟩
  · have q' : ¬ x.toInt < (n : Int) := by
      intro z
      rw [Int32.le_iff_toInt_le, nI_toInt hn] at q
      omega
    exact Or.inr ⟨Or.inr (by omega), fun k hk e => by subst e; rw [nI_toInt (by omega)] at q'; omega⟩
  · exact Or.inl ⟨j, q1, q2⟩
def S_row (M : Mm) (s o n : Int32) (v : Int32) (M' : Mm) : Prop := pIf (¬ s < 0 ∧ ¬ 8 ≤ s) (pIf (n < 0) (v = -4 ∧ M' = rfx M 3) (pIf (o < 0) (v = -6 ∧ M' = rfx M 5) (pIf (3 < o) (v = -6 ∧ M' = rfx M 5) (pIf (100 < n) (v = -7 ∧ M' = rfx M 6) (v = 1 ∧ M' = putRowM s.toNatClampNeg o n M))))) (v = -1 ∧ M' = rfx M 0)
theorem m_X7_row {l : Launch} {M : Mm} {s o n : Int32} : AMet l 3 yX7_row cX7_row 4 (some FieldType.int) [.ref 0, .int s, .int o, .int n] M (QI (S_row M s o n)) := by
  refine AMet.of (by decide) (by simp [aargs, Value.category]) ?_
  show AW l 3 yX7_row cX7_row 4 (some FieldType.int) 0 [some (.ref 0), some (.int s), some (.int o), some (.int n)] [] M _
  refine aw_iload_n (i := 1) dX7_row_0 rfl rfl ?_
  refine aw_cSi ck_X7_82 m_X7_isShelf (by decide) (by decide) rfl rfl (Nat.le_of_ble_eq_true rfl) dX7_row_1 ?_
  refine aw_ifne_b (tgt := 13) dX7_row_4 (by decide) (fun h4 => ?_) (fun h4 => ?_)
  ·
    obtain ⟨k, hk, rfl⟩ := shf_k h4
    refine aw_iload_n (i := 3) dX7_row_13 rfl rfl ?_
    refine aw_if_ge (tgt := 24) dX7_row_14 (by decide) (fun h14 => ?_) (fun h14 => ?_)
    ·
      refine aw_iload_n (i := 2) dX7_row_24 rfl rfl ?_
      refine aw_if_lt (tgt := 33) dX7_row_25 (by decide) (fun h25 => ?_) (fun h25 => ?_)
      ·
        refine aw_aload_n (i := 0) dX7_row_33 rfl rfl ?_
        refine aw_bipush (v := (-6)) dX7_row_34 (by decide) ?_
        refine aw_cVi ck_X7_86 (m_X7_refuse (k := 5) (by decide) (by decide)) sh_0 rfl (by decide) (by decide) rfl rfl (Nat.le_of_ble_eq_true rfl) dX7_row_36 ?_
        exact aw_iret rfl dX7_row_39 (by first | contradiction | exact ⟨_, rfl, by unfold S_row; (try rw [nI_clamp (show k < 2 ^ 31 from by omega)]); (try rw [nI_clamp (show j < 2 ^ 31 from by omega)]); (first | rw [pIf_t h4] | rw [pIf_f h4] | rw [pIf_f (Int32.not_lt.mpr h4)] | rw [pIf_f (Int32.not_le.mpr h4)] | rw [pIf_t (Int32.not_le.mp h4)] | rw [pIf_t (Int32.not_lt.mp h4)] | rw [pIf_f (Nat.not_lt.mpr h4)] | rw [pIf_f (Nat.not_le.mpr h4)] | rw [pIf_t (Nat.not_le.mp h4)] | rw [pIf_t (Nat.not_lt.mp h4)] | skip); (first | rw [pIf_t h14] | rw [pIf_f h14] | rw [pIf_f (Int32.not_lt.mpr h14)] | rw [pIf_f (Int32.not_le.mpr h14)] | rw [pIf_t (Int32.not_le.mp h14)] | rw [pIf_t (Int32.not_lt.mp h14)] | rw [pIf_f (Nat.not_lt.mpr h14)] | rw [pIf_f (Nat.not_le.mpr h14)] | rw [pIf_t (Nat.not_le.mp h14)] | rw [pIf_t (Nat.not_lt.mp h14)] | skip); (first | rw [pIf_t h25] | rw [pIf_f h25] | rw [pIf_f (Int32.not_lt.mpr h25)] | rw [pIf_f (Int32.not_le.mpr h25)] | rw [pIf_t (Int32.not_le.mp h25)] | rw [pIf_t (Int32.not_lt.mp h25)] | rw [pIf_f (Nat.not_lt.mpr h25)] | rw [pIf_f (Nat.not_le.mpr h25)] | rw [pIf_t (Nat.not_le.mp h25)] | rw [pIf_t (Nat.not_lt.mp h25)] | skip); (try rw [nI_clamp (show k < 2 ^ 31 from by omega)]); (try rw [nI_clamp (show j < 2 ^ 31 from by omega)]); exact ⟨rfl, rfl⟩⟩)
      ·
        refine aw_iload_n (i := 2) dX7_row_28 rfl rfl ?_
        refine aw_iconst (v := 3) dX7_row_29 (by decide) ?_
        refine aw_icmp_le (tgt := 40) dX7_row_30 (by decide) (fun h30 => ?_) (fun h30 => ?_)
        ·
          refine aw_iload_n (i := 3) dX7_row_40 rfl rfl ?_
          refine aw_bipush (v := 100) dX7_row_41 (by decide) ?_
          refine aw_icmp_le (tgt := 53) dX7_row_43 (by decide) (fun h43 => ?_) (fun h43 => ?_)
          ·
            refine aw_aload_n (i := 0) dX7_row_53 rfl rfl ?_
            refine aw_getR gf_X7_12 sh_0 rfl dX7_row_54 ?_
            refine aw_iload_n (i := 1) dX7_row_57 rfl rfl ?_
            refine aw_iload_n (i := 2) dX7_row_58 rfl rfl ?_
            refine aw_iload_n (i := 3) dX7_row_59 rfl rfl ?_
            refine aw_cVv ck_X7_90 (m_X6_putRow hk) sh_2 rfl (by decide) (by decide) rfl rfl (Nat.le_of_ble_eq_true rfl) dX7_row_60 ?_
            refine aw_iconst (v := 1) dX7_row_63 (by decide) ?_
            exact aw_iret rfl dX7_row_64 (by first | contradiction | exact ⟨_, rfl, by unfold S_row; (try rw [nI_clamp (show k < 2 ^ 31 from by omega)]); (try rw [nI_clamp (show j < 2 ^ 31 from by omega)]); (first | rw [pIf_t h4] | rw [pIf_f h4] | rw [pIf_f (Int32.not_lt.mpr h4)] | rw [pIf_f (Int32.not_le.mpr h4)] | rw [pIf_t (Int32.not_le.mp h4)] | rw [pIf_t (Int32.not_lt.mp h4)] | rw [pIf_f (Nat.not_lt.mpr h4)] | rw [pIf_f (Nat.not_le.mpr h4)] | rw [pIf_t (Nat.not_le.mp h4)] | rw [pIf_t (Nat.not_lt.mp h4)] | skip); (first | rw [pIf_t h14] | rw [pIf_f h14] | rw [pIf_f (Int32.not_lt.mpr h14)] | rw [pIf_f (Int32.not_le.mpr h14)] | rw [pIf_t (Int32.not_le.mp h14)] | rw [pIf_t (Int32.not_lt.mp h14)] | rw [pIf_f (Nat.not_lt.mpr h14)] | rw [pIf_f (Nat.not_le.mpr h14)] | rw [pIf_t (Nat.not_le.mp h14)] | rw [pIf_t (Nat.not_lt.mp h14)] | skip); (first | rw [pIf_t h25] | rw [pIf_f h25] | rw [pIf_f (Int32.not_lt.mpr h25)] | rw [pIf_f (Int32.not_le.mpr h25)] | rw [pIf_t (Int32.not_le.mp h25)] | rw [pIf_t (Int32.not_lt.mp h25)] | rw [pIf_f (Nat.not_lt.mpr h25)] | rw [pIf_f (Nat.not_le.mpr h25)] | rw [pIf_t (Nat.not_le.mp h25)] | rw [pIf_t (Nat.not_lt.mp h25)] | skip); (first | rw [pIf_t h30] | rw [pIf_f h30] | rw [pIf_f (Int32.not_lt.mpr h30)] | rw [pIf_f (Int32.not_le.mpr h30)] | rw [pIf_t (Int32.not_le.mp h30)] | rw [pIf_t (Int32.not_lt.mp h30)] | rw [pIf_f (Nat.not_lt.mpr h30)] | rw [pIf_f (Nat.not_le.mpr h30)] | rw [pIf_t (Nat.not_le.mp h30)] | rw [pIf_t (Nat.not_lt.mp h30)] | skip); (first | rw [pIf_t h43] | rw [pIf_f h43] | rw [pIf_f (Int32.not_lt.mpr h43)] | rw [pIf_f (Int32.not_le.mpr h43)] | rw [pIf_t (Int32.not_le.mp h43)] | rw [pIf_t (Int32.not_lt.mp h43)] | rw [pIf_f (Nat.not_lt.mpr h43)] | rw [pIf_f (Nat.not_le.mpr h43)] | rw [pIf_t (Nat.not_le.mp h43)] | rw [pIf_t (Nat.not_lt.mp h43)] | skip); (try rw [nI_clamp (show k < 2 ^ 31 from by omega)]); (try rw [nI_clamp (show j < 2 ^ 31 from by omega)]); exact ⟨rfl, rfl⟩⟩)
          ·
            refine aw_aload_n (i := 0) dX7_row_46 rfl rfl ?_
            refine aw_bipush (v := (-7)) dX7_row_47 (by decide) ?_
            refine aw_cVi ck_X7_86 (m_X7_refuse (k := 6) (by decide) (by decide)) sh_0 rfl (by decide) (by decide) rfl rfl (Nat.le_of_ble_eq_true rfl) dX7_row_49 ?_
            exact aw_iret rfl dX7_row_52 (by first | contradiction | exact ⟨_, rfl, by unfold S_row; (try rw [nI_clamp (show k < 2 ^ 31 from by omega)]); (try rw [nI_clamp (show j < 2 ^ 31 from by omega)]); (first | rw [pIf_t h4] | rw [pIf_f h4] | rw [pIf_f (Int32.not_lt.mpr h4)] | rw [pIf_f (Int32.not_le.mpr h4)] | rw [pIf_t (Int32.not_le.mp h4)] | rw [pIf_t (Int32.not_lt.mp h4)] | rw [pIf_f (Nat.not_lt.mpr h4)] | rw [pIf_f (Nat.not_le.mpr h4)] | rw [pIf_t (Nat.not_le.mp h4)] | rw [pIf_t (Nat.not_lt.mp h4)] | skip); (first | rw [pIf_t h14] | rw [pIf_f h14] | rw [pIf_f (Int32.not_lt.mpr h14)] | rw [pIf_f (Int32.not_le.mpr h14)] | rw [pIf_t (Int32.not_le.mp h14)] | rw [pIf_t (Int32.not_lt.mp h14)] | rw [pIf_f (Nat.not_lt.mpr h14)] | rw [pIf_f (Nat.not_le.mpr h14)] | rw [pIf_t (Nat.not_le.mp h14)] | rw [pIf_t (Nat.not_lt.mp h14)] | skip); (first | rw [pIf_t h25] | rw [pIf_f h25] | rw [pIf_f (Int32.not_lt.mpr h25)] | rw [pIf_f (Int32.not_le.mpr h25)] | rw [pIf_t (Int32.not_le.mp h25)] | rw [pIf_t (Int32.not_lt.mp h25)] | rw [pIf_f (Nat.not_lt.mpr h25)] | rw [pIf_f (Nat.not_le.mpr h25)] | rw [pIf_t (Nat.not_le.mp h25)] | rw [pIf_t (Nat.not_lt.mp h25)] | skip); (first | rw [pIf_t h30] | rw [pIf_f h30] | rw [pIf_f (Int32.not_lt.mpr h30)] | rw [pIf_f (Int32.not_le.mpr h30)] | rw [pIf_t (Int32.not_le.mp h30)] | rw [pIf_t (Int32.not_lt.mp h30)] | rw [pIf_f (Nat.not_lt.mpr h30)] | rw [pIf_f (Nat.not_le.mpr h30)] | rw [pIf_t (Nat.not_le.mp h30)] | rw [pIf_t (Nat.not_lt.mp h30)] | skip); (first | rw [pIf_t h43] | rw [pIf_f h43] | rw [pIf_f (Int32.not_lt.mpr h43)] | rw [pIf_f (Int32.not_le.mpr h43)] | rw [pIf_t (Int32.not_le.mp h43)] | rw [pIf_t (Int32.not_lt.mp h43)] | rw [pIf_f (Nat.not_lt.mpr h43)] | rw [pIf_f (Nat.not_le.mpr h43)] | rw [pIf_t (Nat.not_le.mp h43)] | rw [pIf_t (Nat.not_lt.mp h43)] | skip); (try rw [nI_clamp (show k < 2 ^ 31 from by omega)]); (try rw [nI_clamp (show j < 2 ^ 31 from by omega)]); exact ⟨rfl, rfl⟩⟩)
        ·
          refine aw_aload_n (i := 0) dX7_row_33 rfl rfl ?_
          refine aw_bipush (v := (-6)) dX7_row_34 (by decide) ?_
          refine aw_cVi ck_X7_86 (m_X7_refuse (k := 5) (by decide) (by decide)) sh_0 rfl (by decide) (by decide) rfl rfl (Nat.le_of_ble_eq_true rfl) dX7_row_36 ?_
          exact aw_iret rfl dX7_row_39 (by first | contradiction | exact ⟨_, rfl, by unfold S_row; (try rw [nI_clamp (show k < 2 ^ 31 from by omega)]); (try rw [nI_clamp (show j < 2 ^ 31 from by omega)]); (first | rw [pIf_t h4] | rw [pIf_f h4] | rw [pIf_f (Int32.not_lt.mpr h4)] | rw [pIf_f (Int32.not_le.mpr h4)] | rw [pIf_t (Int32.not_le.mp h4)] | rw [pIf_t (Int32.not_lt.mp h4)] | rw [pIf_f (Nat.not_lt.mpr h4)] | rw [pIf_f (Nat.not_le.mpr h4)] | rw [pIf_t (Nat.not_le.mp h4)] | rw [pIf_t (Nat.not_lt.mp h4)] | skip); (first | rw [pIf_t h14] | rw [pIf_f h14] | rw [pIf_f (Int32.not_lt.mpr h14)] | rw [pIf_f (Int32.not_le.mpr h14)] | rw [pIf_t (Int32.not_le.mp h14)] | rw [pIf_t (Int32.not_lt.mp h14)] | rw [pIf_f (Nat.not_lt.mpr h14)] | rw [pIf_f (Nat.not_le.mpr h14)] | rw [pIf_t (Nat.not_le.mp h14)] | rw [pIf_t (Nat.not_lt.mp h14)] | skip); (first | rw [pIf_t h25] | rw [pIf_f h25] | rw [pIf_f (Int32.not_lt.mpr h25)] | rw [pIf_f (Int32.not_le.mpr h25)] | rw [pIf_t (Int32.not_le.mp h25)] | rw [pIf_t (Int32.not_lt.mp h25)] | rw [pIf_f (Nat.not_lt.mpr h25)] | rw [pIf_f (Nat.not_le.mpr h25)] | rw [pIf_t (Nat.not_le.mp h25)] | rw [pIf_t (Nat.not_lt.mp h25)] | skip); (first | rw [pIf_t h30] | rw [pIf_f h30] | rw [pIf_f (Int32.not_lt.mpr h30)] | rw [pIf_f (Int32.not_le.mpr h30)] | rw [pIf_t (Int32.not_le.mp h30)] | rw [pIf_t (Int32.not_lt.mp h30)] | rw [pIf_f (Nat.not_lt.mpr h30)] | rw [pIf_f (Nat.not_le.mpr h30)] | rw [pIf_t (Nat.not_le.mp h30)] | rw [pIf_t (Nat.not_lt.mp h30)] | skip); (try rw [nI_clamp (show k < 2 ^ 31 from by omega)]); (try rw [nI_clamp (show j < 2 ^ 31 from by omega)]); exact ⟨rfl, rfl⟩⟩)
    ·
      refine aw_aload_n (i := 0) dX7_row_17 rfl rfl ?_
      refine aw_bipush (v := (-4)) dX7_row_18 (by decide) ?_
      refine aw_cVi ck_X7_86 (m_X7_refuse (k := 3) (by decide) (by decide)) sh_0 rfl (by decide) (by decide) rfl rfl (Nat.le_of_ble_eq_true rfl) dX7_row_20 ?_
      exact aw_iret rfl dX7_row_23 (by first | contradiction | exact ⟨_, rfl, by unfold S_row; (try rw [nI_clamp (show k < 2 ^ 31 from by omega)]); (try rw [nI_clamp (show j < 2 ^ 31 from by omega)]); (first | rw [pIf_t h4] | rw [pIf_f h4] | rw [pIf_f (Int32.not_lt.mpr h4)] | rw [pIf_f (Int32.not_le.mpr h4)] | rw [pIf_t (Int32.not_le.mp h4)] | rw [pIf_t (Int32.not_lt.mp h4)] | rw [pIf_f (Nat.not_lt.mpr h4)] | rw [pIf_f (Nat.not_le.mpr h4)] | rw [pIf_t (Nat.not_le.mp h4)] | rw [pIf_t (Nat.not_lt.mp h4)] | skip); (first | rw [pIf_t h14] | rw [pIf_f h14] | rw [pIf_f (Int32.not_lt.mpr h14)] | rw [pIf_f (Int32.not_le.mpr h14)] | rw [pIf_t (Int32.not_le.mp h14)] | rw [pIf_t (Int32.not_lt.mp h14)] | rw [pIf_f (Nat.not_lt.mpr h14)] | rw [pIf_f (Nat.not_le.mpr h14)] | rw [pIf_t (Nat.not_le.mp h14)] | rw [pIf_t (Nat.not_lt.mp h14)] | skip); (try rw [nI_clamp (show k < 2 ^ 31 from by omega)]); (try rw [nI_clamp (show j < 2 ^ 31 from by omega)]); exact ⟨rfl, rfl⟩⟩)
  ·
    refine aw_aload_n (i := 0) dX7_row_7 rfl rfl ?_
    refine aw_iconst (v := (-1)) dX7_row_8 (by decide) ?_
    refine aw_cVi ck_X7_86 (m_X7_refuse (k := 0) (by decide) (by decide)) sh_0 rfl (by decide) (by decide) rfl rfl (Nat.le_of_ble_eq_true rfl) dX7_row_9 ?_
    exact aw_iret rfl dX7_row_12 (by first | contradiction | exact ⟨_, rfl, by unfold S_row; (try rw [nI_clamp (show k < 2 ^ 31 from by omega)]); (try rw [nI_clamp (show j < 2 ^ 31 from by omega)]); (first | rw [pIf_t h4] | rw [pIf_f h4] | rw [pIf_f (Int32.not_lt.mpr h4)] | rw [pIf_f (Int32.not_le.mpr h4)] | rw [pIf_t (Int32.not_le.mp h4)] | rw [pIf_t (Int32.not_lt.mp h4)] | rw [pIf_f (Nat.not_lt.mpr h4)] | rw [pIf_f (Nat.not_le.mpr h4)] | rw [pIf_t (Nat.not_le.mp h4)] | rw [pIf_t (Nat.not_lt.mp h4)] | skip); (try rw [nI_clamp (show k < 2 ^ 31 from by omega)]); (try rw [nI_clamp (show j < 2 ^ 31 from by omega)]); exact ⟨rfl, rfl⟩⟩)
noncomputable def rrI (M : Mm) (s : Int32) : Int32 := pIf (¬ s < 0 ∧ ¬ 8 ≤ s) (pIf (perP M s) (-2) (pIf (rowP M s) 0 (-3))) (-1)
theorem rr_ok {M : Mm} {s : Int32} (h : ¬ rrI M s = 0) : rfOK (rrI M s) := by
  revert h
  unfold rrI
  by_cases h1 : ¬ s < 0 ∧ ¬ 8 ≤ s
  · rw [pIf_t h1]
    by_cases h2 : perP M s
    · rw [pIf_t h2]; exact fun _ => ⟨1, by decide, by decide⟩
    · rw [pIf_f h2]
      by_cases h3 : rowP M s
      · rw [pIf_t h3]; exact fun q => absurd rfl q
      · rw [pIf_f h3]; exact fun _ => ⟨2, by decide, by decide⟩
  · rw [pIf_f h1]; exact fun _ => ⟨0, by decide, by decide⟩
theorem rr_row {M : Mm} {s : Int32} (h : rrI M s = 0) : rowP M s := by
  revert h
  unfold rrI
  by_cases h1 : ¬ s < 0 ∧ ¬ 8 ≤ s
  · rw [pIf_t h1]
    by_cases h2 : perP M s
    · rw [pIf_t h2]; exact fun q => absurd q (by decide)
    · rw [pIf_f h2]
      by_cases h3 : rowP M s
      · exact fun _ => h3
      · rw [pIf_f h3]; exact fun q => absurd q (by decide)
  · rw [pIf_f h1]; exact fun q => absurd q (by decide)
noncomputable def rr2I (M : Mm) (s t : Int32) : Int32 := pIf (¬ s < 0 ∧ ¬ 8 ≤ s) (pIf (¬ t < 0 ∧ ¬ 8 ≤ t) (pIf (perP M s) (-2) (pIf (perP M t) (-2) (pIf (rowP M s) (pIf (rowP M t) (pIf (M.1 3 s.toNatClampNeg = M.1 3 t.toNatClampNeg) 0 (-2)) (-3)) (-3)))) (-1)) (-1)
theorem rr2_ok {M : Mm} {s t : Int32} (h : ¬ rr2I M s t = 0) : rfOK (rr2I M s t) := by
  have e1 : rfOK (-1) := ⟨0, by decide, by decide⟩
  have e2 : rfOK (-2) := ⟨1, by decide, by decide⟩
  have e3 : rfOK (-3) := ⟨2, by decide, by decide⟩
  revert h
  unfold rr2I
  by_cases h1 : ¬ s < 0 ∧ ¬ 8 ≤ s
  · rw [pIf_t h1]
    by_cases h2 : ¬ t < 0 ∧ ¬ 8 ≤ t
    · rw [pIf_t h2]
      by_cases h3 : perP M s
      · rw [pIf_t h3]; exact fun _ => e2
      · rw [pIf_f h3]
        by_cases h4 : perP M t
        · rw [pIf_t h4]; exact fun _ => e2
        · rw [pIf_f h4]
          by_cases h5 : rowP M s
          · rw [pIf_t h5]
            by_cases h6 : rowP M t
            · rw [pIf_t h6]
              by_cases h7 : M.1 3 s.toNatClampNeg = M.1 3 t.toNatClampNeg
              · rw [pIf_t h7]; exact fun q => absurd rfl q
              · rw [pIf_f h7]; exact fun _ => e2
            · rw [pIf_f h6]; exact fun _ => e3
          · rw [pIf_f h5]; exact fun _ => e3
    · rw [pIf_f h2]; exact fun _ => e1
  · rw [pIf_f h1]; exact fun _ => e1
theorem m_X7_refusalOfRow {l : Launch} {M : Mm} {s : Int32} : AMet l 3 yX7_refusalOfRow cX7_refusalOfRow 2 (some FieldType.int) [.ref 0, .int s] M (QE (some (.int (rrI M s))) M) := by
  refine AMet.of (by decide) (by simp [aargs, Value.category]) ?_
  show AW l 3 yX7_refusalOfRow cX7_refusalOfRow 2 (some FieldType.int) 0 [some (.ref 0), some (.int s)] [] M _
  refine aw_iload_n (i := 1) dX7_refusalOfRow_0 rfl rfl ?_
  refine aw_cSi ck_X7_82 m_X7_isShelf (by decide) (by decide) rfl rfl (Nat.le_of_ble_eq_true rfl) dX7_refusalOfRow_1 ?_
  refine aw_ifne_b (tgt := 9) dX7_refusalOfRow_4 (by decide) (fun h4 => ?_) (fun h4 => ?_)
  ·
    refine aw_aload_n (i := 0) dX7_refusalOfRow_9 rfl rfl ?_
    refine aw_getR gf_X7_12 sh_0 rfl dX7_refusalOfRow_10 ?_
    refine aw_iload_n (i := 1) dX7_refusalOfRow_13 rfl rfl ?_
    refine aw_cVi ck_X7_334 m_X6_holdsPerson sh_2 rfl (by decide) (by decide) rfl rfl (Nat.le_of_ble_eq_true rfl) dX7_refusalOfRow_14 ?_
    refine aw_ifeq_b (tgt := 23) dX7_refusalOfRow_17 (by decide) (fun h17 => ?_) (fun h17 => ?_)
    ·
      refine aw_aload_n (i := 0) dX7_refusalOfRow_23 rfl rfl ?_
      refine aw_getR gf_X7_12 sh_0 rfl dX7_refusalOfRow_24 ?_
      refine aw_iload_n (i := 1) dX7_refusalOfRow_27 rfl rfl ?_
      refine aw_cVi ck_X7_337 m_X6_holdsRow sh_2 rfl (by decide) (by decide) rfl rfl (Nat.le_of_ble_eq_true rfl) dX7_refusalOfRow_28 ?_
      refine aw_ifeq_b (tgt := 38) dX7_refusalOfRow_31 (by decide) (fun h31 => ?_) (fun h31 => ?_)
      ·
        refine aw_bipush (v := (-3)) dX7_refusalOfRow_38 (by decide) ?_
        exact aw_iret rfl dX7_refusalOfRow_40 (by first | contradiction | exact ⟨by unfold rrI; (try rw [nI_clamp (show k < 2 ^ 31 from by omega)]); (try rw [nI_clamp (show j < 2 ^ 31 from by omega)]); (first | rw [pIf_t h4] | rw [pIf_f h4] | rw [pIf_f (Int32.not_lt.mpr h4)] | rw [pIf_f (Int32.not_le.mpr h4)] | rw [pIf_t (Int32.not_le.mp h4)] | rw [pIf_t (Int32.not_lt.mp h4)] | rw [pIf_f (Nat.not_lt.mpr h4)] | rw [pIf_f (Nat.not_le.mpr h4)] | rw [pIf_t (Nat.not_le.mp h4)] | rw [pIf_t (Nat.not_lt.mp h4)] | skip); (first | rw [pIf_t h17] | rw [pIf_f h17] | rw [pIf_f (Int32.not_lt.mpr h17)] | rw [pIf_f (Int32.not_le.mpr h17)] | rw [pIf_t (Int32.not_le.mp h17)] | rw [pIf_t (Int32.not_lt.mp h17)] | rw [pIf_f (Nat.not_lt.mpr h17)] | rw [pIf_f (Nat.not_le.mpr h17)] | rw [pIf_t (Nat.not_le.mp h17)] | rw [pIf_t (Nat.not_lt.mp h17)] | skip); (first | rw [pIf_t h31] | rw [pIf_f h31] | rw [pIf_f (Int32.not_lt.mpr h31)] | rw [pIf_f (Int32.not_le.mpr h31)] | rw [pIf_t (Int32.not_le.mp h31)] | rw [pIf_t (Int32.not_lt.mp h31)] | rw [pIf_f (Nat.not_lt.mpr h31)] | rw [pIf_f (Nat.not_le.mpr h31)] | rw [pIf_t (Nat.not_le.mp h31)] | rw [pIf_t (Nat.not_lt.mp h31)] | skip); (try rw [nI_clamp (show k < 2 ^ 31 from by omega)]); (try rw [nI_clamp (show j < 2 ^ 31 from by omega)]); all_goals rfl, rfl⟩)
      ·
        refine aw_iconst (v := 0) dX7_refusalOfRow_34 (by decide) ?_
        refine aw_goto (tgt := 40) dX7_refusalOfRow_35 (by decide) ?_
        exact aw_iret rfl dX7_refusalOfRow_40 (by first | contradiction | exact ⟨by unfold rrI; (try rw [nI_clamp (show k < 2 ^ 31 from by omega)]); (try rw [nI_clamp (show j < 2 ^ 31 from by omega)]); (first | rw [pIf_t h4] | rw [pIf_f h4] | rw [pIf_f (Int32.not_lt.mpr h4)] | rw [pIf_f (Int32.not_le.mpr h4)] | rw [pIf_t (Int32.not_le.mp h4)] | rw [pIf_t (Int32.not_lt.mp h4)] | rw [pIf_f (Nat.not_lt.mpr h4)] | rw [pIf_f (Nat.not_le.mpr h4)] | rw [pIf_t (Nat.not_le.mp h4)] | rw [pIf_t (Nat.not_lt.mp h4)] | skip); (first | rw [pIf_t h17] | rw [pIf_f h17] | rw [pIf_f (Int32.not_lt.mpr h17)] | rw [pIf_f (Int32.not_le.mpr h17)] | rw [pIf_t (Int32.not_le.mp h17)] | rw [pIf_t (Int32.not_lt.mp h17)] | rw [pIf_f (Nat.not_lt.mpr h17)] | rw [pIf_f (Nat.not_le.mpr h17)] | rw [pIf_t (Nat.not_le.mp h17)] | rw [pIf_t (Nat.not_lt.mp h17)] | skip); (first | rw [pIf_t h31] | rw [pIf_f h31] | rw [pIf_f (Int32.not_lt.mpr h31)] | rw [pIf_f (Int32.not_le.mpr h31)] | rw [pIf_t (Int32.not_le.mp h31)] | rw [pIf_t (Int32.not_lt.mp h31)] | rw [pIf_f (Nat.not_lt.mpr h31)] | rw [pIf_f (Nat.not_le.mpr h31)] | rw [pIf_t (Nat.not_le.mp h31)] | rw [pIf_t (Nat.not_lt.mp h31)] | skip); (try rw [nI_clamp (show k < 2 ^ 31 from by omega)]); (try rw [nI_clamp (show j < 2 ^ 31 from by omega)]); all_goals rfl, rfl⟩)
    ·
      refine aw_bipush (v := (-2)) dX7_refusalOfRow_20 (by decide) ?_
      exact aw_iret rfl dX7_refusalOfRow_22 (by first | contradiction | exact ⟨by unfold rrI; (try rw [nI_clamp (show k < 2 ^ 31 from by omega)]); (try rw [nI_clamp (show j < 2 ^ 31 from by omega)]); (first | rw [pIf_t h4] | rw [pIf_f h4] | rw [pIf_f (Int32.not_lt.mpr h4)] | rw [pIf_f (Int32.not_le.mpr h4)] | rw [pIf_t (Int32.not_le.mp h4)] | rw [pIf_t (Int32.not_lt.mp h4)] | rw [pIf_f (Nat.not_lt.mpr h4)] | rw [pIf_f (Nat.not_le.mpr h4)] | rw [pIf_t (Nat.not_le.mp h4)] | rw [pIf_t (Nat.not_lt.mp h4)] | skip); (first | rw [pIf_t h17] | rw [pIf_f h17] | rw [pIf_f (Int32.not_lt.mpr h17)] | rw [pIf_f (Int32.not_le.mpr h17)] | rw [pIf_t (Int32.not_le.mp h17)] | rw [pIf_t (Int32.not_lt.mp h17)] | rw [pIf_f (Nat.not_lt.mpr h17)] | rw [pIf_f (Nat.not_le.mpr h17)] | rw [pIf_t (Nat.not_le.mp h17)] | rw [pIf_t (Nat.not_lt.mp h17)] | skip); (try rw [nI_clamp (show k < 2 ^ 31 from by omega)]); (try rw [nI_clamp (show j < 2 ^ 31 from by omega)]); all_goals rfl, rfl⟩)
  ·
    refine aw_iconst (v := (-1)) dX7_refusalOfRow_7 (by decide) ?_
    exact aw_iret rfl dX7_refusalOfRow_8 (by first | contradiction | exact ⟨by unfold rrI; (try rw [nI_clamp (show k < 2 ^ 31 from by omega)]); (try rw [nI_clamp (show j < 2 ^ 31 from by omega)]); (first | rw [pIf_t h4] | rw [pIf_f h4] | rw [pIf_f (Int32.not_lt.mpr h4)] | rw [pIf_f (Int32.not_le.mpr h4)] | rw [pIf_t (Int32.not_le.mp h4)] | rw [pIf_t (Int32.not_lt.mp h4)] | rw [pIf_f (Nat.not_lt.mpr h4)] | rw [pIf_f (Nat.not_le.mpr h4)] | rw [pIf_t (Nat.not_le.mp h4)] | rw [pIf_t (Nat.not_lt.mp h4)] | skip); (try rw [nI_clamp (show k < 2 ^ 31 from by omega)]); (try rw [nI_clamp (show j < 2 ^ 31 from by omega)]); all_goals rfl, rfl⟩)
theorem m_X7_refusalOfTwoRows {l : Launch} {M : Mm} {s t : Int32} : AMet l 3 yX7_refusalOfTwoRows cX7_refusalOfTwoRows 3 (some FieldType.int) [.ref 0, .int s, .int t] M (QE (some (.int (rr2I M s t))) M) := by
  refine AMet.of (by decide) (by simp [aargs, Value.category]) ?_
  show AW l 3 yX7_refusalOfTwoRows cX7_refusalOfTwoRows 3 (some FieldType.int) 0 [some (.ref 0), some (.int s), some (.int t)] [] M _
  refine aw_iload_n (i := 1) dX7_refusalOfTwoRows_0 rfl rfl ?_
  refine aw_cSi ck_X7_82 m_X7_isShelf (by decide) (by decide) rfl rfl (Nat.le_of_ble_eq_true rfl) dX7_refusalOfTwoRows_1 ?_
  refine aw_ifeq_b (tgt := 14) dX7_refusalOfTwoRows_4 (by decide) (fun h4 => ?_) (fun h4 => ?_)
  ·
    refine aw_iconst (v := (-1)) dX7_refusalOfTwoRows_14 (by decide) ?_
    exact aw_iret rfl dX7_refusalOfTwoRows_15 (by first | contradiction | exact ⟨by unfold rr2I; (try rw [nI_clamp (show k < 2 ^ 31 from by omega)]); (try rw [nI_clamp (show j < 2 ^ 31 from by omega)]); (first | rw [pIf_t h4] | rw [pIf_f h4] | rw [pIf_f (Int32.not_lt.mpr h4)] | rw [pIf_f (Int32.not_le.mpr h4)] | rw [pIf_t (Int32.not_le.mp h4)] | rw [pIf_t (Int32.not_lt.mp h4)] | rw [pIf_f (Nat.not_lt.mpr h4)] | rw [pIf_f (Nat.not_le.mpr h4)] | rw [pIf_t (Nat.not_le.mp h4)] | rw [pIf_t (Nat.not_lt.mp h4)] | skip); (try rw [nI_clamp (show k < 2 ^ 31 from by omega)]); (try rw [nI_clamp (show j < 2 ^ 31 from by omega)]); all_goals rfl, rfl⟩)
  ·
    refine aw_iload_n (i := 2) dX7_refusalOfTwoRows_7 rfl rfl ?_
    refine aw_cSi ck_X7_82 m_X7_isShelf (by decide) (by decide) rfl rfl (Nat.le_of_ble_eq_true rfl) dX7_refusalOfTwoRows_8 ?_
    refine aw_ifne_b (tgt := 16) dX7_refusalOfTwoRows_11 (by decide) (fun h11 => ?_) (fun h11 => ?_)
    ·
      obtain ⟨k, hk, rfl⟩ := shf_k h4
      obtain ⟨j, hj, rfl⟩ := shf_k h11
      refine aw_aload_n (i := 0) dX7_refusalOfTwoRows_16 rfl rfl ?_
      refine aw_getR gf_X7_12 sh_0 rfl dX7_refusalOfTwoRows_17 ?_
      refine aw_iload_n (i := 1) dX7_refusalOfTwoRows_20 rfl rfl ?_
      refine aw_cVi ck_X7_334 m_X6_holdsPerson sh_2 rfl (by decide) (by decide) rfl rfl (Nat.le_of_ble_eq_true rfl) dX7_refusalOfTwoRows_21 ?_
      refine aw_ifne_b (tgt := 38) dX7_refusalOfTwoRows_24 (by decide) (fun h24 => ?_) (fun h24 => ?_)
      ·
        refine aw_bipush (v := (-2)) dX7_refusalOfTwoRows_38 (by decide) ?_
        exact aw_iret rfl dX7_refusalOfTwoRows_40 (by first | contradiction | exact ⟨by unfold rr2I; (try rw [nI_clamp (show k < 2 ^ 31 from by omega)]); (try rw [nI_clamp (show j < 2 ^ 31 from by omega)]); (first | rw [pIf_t h4] | rw [pIf_f h4] | rw [pIf_f (Int32.not_lt.mpr h4)] | rw [pIf_f (Int32.not_le.mpr h4)] | rw [pIf_t (Int32.not_le.mp h4)] | rw [pIf_t (Int32.not_lt.mp h4)] | rw [pIf_f (Nat.not_lt.mpr h4)] | rw [pIf_f (Nat.not_le.mpr h4)] | rw [pIf_t (Nat.not_le.mp h4)] | rw [pIf_t (Nat.not_lt.mp h4)] | skip); (first | rw [pIf_t h11] | rw [pIf_f h11] | rw [pIf_f (Int32.not_lt.mpr h11)] | rw [pIf_f (Int32.not_le.mpr h11)] | rw [pIf_t (Int32.not_le.mp h11)] | rw [pIf_t (Int32.not_lt.mp h11)] | rw [pIf_f (Nat.not_lt.mpr h11)] | rw [pIf_f (Nat.not_le.mpr h11)] | rw [pIf_t (Nat.not_le.mp h11)] | rw [pIf_t (Nat.not_lt.mp h11)] | skip); (first | rw [pIf_t h24] | rw [pIf_f h24] | rw [pIf_f (Int32.not_lt.mpr h24)] | rw [pIf_f (Int32.not_le.mpr h24)] | rw [pIf_t (Int32.not_le.mp h24)] | rw [pIf_t (Int32.not_lt.mp h24)] | rw [pIf_f (Nat.not_lt.mpr h24)] | rw [pIf_f (Nat.not_le.mpr h24)] | rw [pIf_t (Nat.not_le.mp h24)] | rw [pIf_t (Nat.not_lt.mp h24)] | skip); (try rw [nI_clamp (show k < 2 ^ 31 from by omega)]); (try rw [nI_clamp (show j < 2 ^ 31 from by omega)]); all_goals rfl, rfl⟩)
      ·
        refine aw_aload_n (i := 0) dX7_refusalOfTwoRows_27 rfl rfl ?_
        refine aw_getR gf_X7_12 sh_0 rfl dX7_refusalOfTwoRows_28 ?_
        refine aw_iload_n (i := 2) dX7_refusalOfTwoRows_31 rfl rfl ?_
        refine aw_cVi ck_X7_334 m_X6_holdsPerson sh_2 rfl (by decide) (by decide) rfl rfl (Nat.le_of_ble_eq_true rfl) dX7_refusalOfTwoRows_32 ?_
        refine aw_ifeq_b (tgt := 41) dX7_refusalOfTwoRows_35 (by decide) (fun h35 => ?_) (fun h35 => ?_)
        ·
          refine aw_aload_n (i := 0) dX7_refusalOfTwoRows_41 rfl rfl ?_
          refine aw_getR gf_X7_12 sh_0 rfl dX7_refusalOfTwoRows_42 ?_
          refine aw_iload_n (i := 1) dX7_refusalOfTwoRows_45 rfl rfl ?_
          refine aw_cVi ck_X7_337 m_X6_holdsRow sh_2 rfl (by decide) (by decide) rfl rfl (Nat.le_of_ble_eq_true rfl) dX7_refusalOfTwoRows_46 ?_
          refine aw_ifeq_b (tgt := 63) dX7_refusalOfTwoRows_49 (by decide) (fun h49 => ?_) (fun h49 => ?_)
          ·
            refine aw_bipush (v := (-3)) dX7_refusalOfTwoRows_63 (by decide) ?_
            exact aw_iret rfl dX7_refusalOfTwoRows_65 (by first | contradiction | exact ⟨by unfold rr2I; (try rw [nI_clamp (show k < 2 ^ 31 from by omega)]); (try rw [nI_clamp (show j < 2 ^ 31 from by omega)]); (first | rw [pIf_t h4] | rw [pIf_f h4] | rw [pIf_f (Int32.not_lt.mpr h4)] | rw [pIf_f (Int32.not_le.mpr h4)] | rw [pIf_t (Int32.not_le.mp h4)] | rw [pIf_t (Int32.not_lt.mp h4)] | rw [pIf_f (Nat.not_lt.mpr h4)] | rw [pIf_f (Nat.not_le.mpr h4)] | rw [pIf_t (Nat.not_le.mp h4)] | rw [pIf_t (Nat.not_lt.mp h4)] | skip); (first | rw [pIf_t h11] | rw [pIf_f h11] | rw [pIf_f (Int32.not_lt.mpr h11)] | rw [pIf_f (Int32.not_le.mpr h11)] | rw [pIf_t (Int32.not_le.mp h11)] | rw [pIf_t (Int32.not_lt.mp h11)] | rw [pIf_f (Nat.not_lt.mpr h11)] | rw [pIf_f (Nat.not_le.mpr h11)] | rw [pIf_t (Nat.not_le.mp h11)] | rw [pIf_t (Nat.not_lt.mp h11)] | skip); (first | rw [pIf_t h24] | rw [pIf_f h24] | rw [pIf_f (Int32.not_lt.mpr h24)] | rw [pIf_f (Int32.not_le.mpr h24)] | rw [pIf_t (Int32.not_le.mp h24)] | rw [pIf_t (Int32.not_lt.mp h24)] | rw [pIf_f (Nat.not_lt.mpr h24)] | rw [pIf_f (Nat.not_le.mpr h24)] | rw [pIf_t (Nat.not_le.mp h24)] | rw [pIf_t (Nat.not_lt.mp h24)] | skip); (first | rw [pIf_t h35] | rw [pIf_f h35] | rw [pIf_f (Int32.not_lt.mpr h35)] | rw [pIf_f (Int32.not_le.mpr h35)] | rw [pIf_t (Int32.not_le.mp h35)] | rw [pIf_t (Int32.not_lt.mp h35)] | rw [pIf_f (Nat.not_lt.mpr h35)] | rw [pIf_f (Nat.not_le.mpr h35)] | rw [pIf_t (Nat.not_le.mp h35)] | rw [pIf_t (Nat.not_lt.mp h35)] | skip); (first | rw [pIf_t h49] | rw [pIf_f h49] | rw [pIf_f (Int32.not_lt.mpr h49)] | rw [pIf_f (Int32.not_le.mpr h49)] | rw [pIf_t (Int32.not_le.mp h49)] | rw [pIf_t (Int32.not_lt.mp h49)] | rw [pIf_f (Nat.not_lt.mpr h49)] | rw [pIf_f (Nat.not_le.mpr h49)] | rw [pIf_t (Nat.not_le.mp h49)] | rw [pIf_t (Nat.not_lt.mp h49)] | skip); (try rw [nI_clamp (show k < 2 ^ 31 from by omega)]); (try rw [nI_clamp (show j < 2 ^ 31 from by omega)]); all_goals rfl, rfl⟩)
          ·
            refine aw_aload_n (i := 0) dX7_refusalOfTwoRows_52 rfl rfl ?_
            refine aw_getR gf_X7_12 sh_0 rfl dX7_refusalOfTwoRows_53 ?_
            refine aw_iload_n (i := 2) dX7_refusalOfTwoRows_56 rfl rfl ?_
            refine aw_cVi ck_X7_337 m_X6_holdsRow sh_2 rfl (by decide) (by decide) rfl rfl (Nat.le_of_ble_eq_true rfl) dX7_refusalOfTwoRows_57 ?_
            refine aw_ifne_b (tgt := 66) dX7_refusalOfTwoRows_60 (by decide) (fun h60 => ?_) (fun h60 => ?_)
            ·
              refine aw_aload_n (i := 0) dX7_refusalOfTwoRows_66 rfl rfl ?_
              refine aw_getR gf_X7_12 sh_0 rfl dX7_refusalOfTwoRows_67 ?_
              refine aw_getR gf_X7_124 sh_2 rfl dX7_refusalOfTwoRows_70 ?_
              refine aw_iload_n (i := 1) dX7_refusalOfTwoRows_73 rfl rfl ?_
              refine aw_ialdN sh_3 (by omega) (by omega) dX7_refusalOfTwoRows_74 ?_
              refine aw_aload_n (i := 0) dX7_refusalOfTwoRows_75 rfl rfl ?_
              refine aw_getR gf_X7_12 sh_0 rfl dX7_refusalOfTwoRows_76 ?_
              refine aw_getR gf_X7_124 sh_2 rfl dX7_refusalOfTwoRows_79 ?_
              refine aw_iload_n (i := 2) dX7_refusalOfTwoRows_82 rfl rfl ?_
              refine aw_ialdN sh_3 (by omega) (by omega) dX7_refusalOfTwoRows_83 ?_
              refine aw_icmp_ne (tgt := 91) dX7_refusalOfTwoRows_84 (by decide) (fun h84 => ?_) (fun h84 => ?_)
              ·
                refine aw_bipush (v := (-2)) dX7_refusalOfTwoRows_91 (by decide) ?_
                exact aw_iret rfl dX7_refusalOfTwoRows_93 (by first | contradiction | exact ⟨by unfold rr2I; (try rw [nI_clamp (show k < 2 ^ 31 from by omega)]); (try rw [nI_clamp (show j < 2 ^ 31 from by omega)]); (first | rw [pIf_t h4] | rw [pIf_f h4] | rw [pIf_f (Int32.not_lt.mpr h4)] | rw [pIf_f (Int32.not_le.mpr h4)] | rw [pIf_t (Int32.not_le.mp h4)] | rw [pIf_t (Int32.not_lt.mp h4)] | rw [pIf_f (Nat.not_lt.mpr h4)] | rw [pIf_f (Nat.not_le.mpr h4)] | rw [pIf_t (Nat.not_le.mp h4)] | rw [pIf_t (Nat.not_lt.mp h4)] | skip); (first | rw [pIf_t h11] | rw [pIf_f h11] | rw [pIf_f (Int32.not_lt.mpr h11)] | rw [pIf_f (Int32.not_le.mpr h11)] | rw [pIf_t (Int32.not_le.mp h11)] | rw [pIf_t (Int32.not_lt.mp h11)] | rw [pIf_f (Nat.not_lt.mpr h11)] | rw [pIf_f (Nat.not_le.mpr h11)] | rw [pIf_t (Nat.not_le.mp h11)] | rw [pIf_t (Nat.not_lt.mp h11)] | skip); (first | rw [pIf_t h24] | rw [pIf_f h24] | rw [pIf_f (Int32.not_lt.mpr h24)] | rw [pIf_f (Int32.not_le.mpr h24)] | rw [pIf_t (Int32.not_le.mp h24)] | rw [pIf_t (Int32.not_lt.mp h24)] | rw [pIf_f (Nat.not_lt.mpr h24)] | rw [pIf_f (Nat.not_le.mpr h24)] | rw [pIf_t (Nat.not_le.mp h24)] | rw [pIf_t (Nat.not_lt.mp h24)] | skip); (first | rw [pIf_t h35] | rw [pIf_f h35] | rw [pIf_f (Int32.not_lt.mpr h35)] | rw [pIf_f (Int32.not_le.mpr h35)] | rw [pIf_t (Int32.not_le.mp h35)] | rw [pIf_t (Int32.not_lt.mp h35)] | rw [pIf_f (Nat.not_lt.mpr h35)] | rw [pIf_f (Nat.not_le.mpr h35)] | rw [pIf_t (Nat.not_le.mp h35)] | rw [pIf_t (Nat.not_lt.mp h35)] | skip); (first | rw [pIf_t h49] | rw [pIf_f h49] | rw [pIf_f (Int32.not_lt.mpr h49)] | rw [pIf_f (Int32.not_le.mpr h49)] | rw [pIf_t (Int32.not_le.mp h49)] | rw [pIf_t (Int32.not_lt.mp h49)] | rw [pIf_f (Nat.not_lt.mpr h49)] | rw [pIf_f (Nat.not_le.mpr h49)] | rw [pIf_t (Nat.not_le.mp h49)] | rw [pIf_t (Nat.not_lt.mp h49)] | skip); (first | rw [pIf_t h60] | rw [pIf_f h60] | rw [pIf_f (Int32.not_lt.mpr h60)] | rw [pIf_f (Int32.not_le.mpr h60)] | rw [pIf_t (Int32.not_le.mp h60)] | rw [pIf_t (Int32.not_lt.mp h60)] | rw [pIf_f (Nat.not_lt.mpr h60)] | rw [pIf_f (Nat.not_le.mpr h60)] | rw [pIf_t (Nat.not_le.mp h60)] | rw [pIf_t (Nat.not_lt.mp h60)] | skip); (first | rw [pIf_t h84] | rw [pIf_f h84] | rw [pIf_f (Int32.not_lt.mpr h84)] | rw [pIf_f (Int32.not_le.mpr h84)] | rw [pIf_t (Int32.not_le.mp h84)] | rw [pIf_t (Int32.not_lt.mp h84)] | rw [pIf_f (Nat.not_lt.mpr h84)] | rw [pIf_f (Nat.not_le.mpr h84)] | rw [pIf_t (Nat.not_le.mp h84)] | rw [pIf_t (Nat.not_lt.mp h84)] | skip); (try rw [nI_clamp (show k < 2 ^ 31 from by omega)]); (try rw [nI_clamp (show j < 2 ^ 31 from by omega)]); all_goals rfl, rfl⟩)
              ·
                refine aw_iconst (v := 0) dX7_refusalOfTwoRows_87 (by decide) ?_
                refine aw_goto (tgt := 93) dX7_refusalOfTwoRows_88 (by decide) ?_
                exact aw_iret rfl dX7_refusalOfTwoRows_93 (by first | contradiction | exact ⟨by unfold rr2I; (try rw [nI_clamp (show k < 2 ^ 31 from by omega)]); (try rw [nI_clamp (show j < 2 ^ 31 from by omega)]); (first | rw [pIf_t h4] | rw [pIf_f h4] | rw [pIf_f (Int32.not_lt.mpr h4)] | rw [pIf_f (Int32.not_le.mpr h4)] | rw [pIf_t (Int32.not_le.mp h4)] | rw [pIf_t (Int32.not_lt.mp h4)] | rw [pIf_f (Nat.not_lt.mpr h4)] | rw [pIf_f (Nat.not_le.mpr h4)] | rw [pIf_t (Nat.not_le.mp h4)] | rw [pIf_t (Nat.not_lt.mp h4)] | skip); (first | rw [pIf_t h11] | rw [pIf_f h11] | rw [pIf_f (Int32.not_lt.mpr h11)] | rw [pIf_f (Int32.not_le.mpr h11)] | rw [pIf_t (Int32.not_le.mp h11)] | rw [pIf_t (Int32.not_lt.mp h11)] | rw [pIf_f (Nat.not_lt.mpr h11)] | rw [pIf_f (Nat.not_le.mpr h11)] | rw [pIf_t (Nat.not_le.mp h11)] | rw [pIf_t (Nat.not_lt.mp h11)] | skip); (first | rw [pIf_t h24] | rw [pIf_f h24] | rw [pIf_f (Int32.not_lt.mpr h24)] | rw [pIf_f (Int32.not_le.mpr h24)] | rw [pIf_t (Int32.not_le.mp h24)] | rw [pIf_t (Int32.not_lt.mp h24)] | rw [pIf_f (Nat.not_lt.mpr h24)] | rw [pIf_f (Nat.not_le.mpr h24)] | rw [pIf_t (Nat.not_le.mp h24)] | rw [pIf_t (Nat.not_lt.mp h24)] | skip); (first | rw [pIf_t h35] | rw [pIf_f h35] | rw [pIf_f (Int32.not_lt.mpr h35)] | rw [pIf_f (Int32.not_le.mpr h35)] | rw [pIf_t (Int32.not_le.mp h35)] | rw [pIf_t (Int32.not_lt.mp h35)] | rw [pIf_f (Nat.not_lt.mpr h35)] | rw [pIf_f (Nat.not_le.mpr h35)] | rw [pIf_t (Nat.not_le.mp h35)] | rw [pIf_t (Nat.not_lt.mp h35)] | skip); (first | rw [pIf_t h49] | rw [pIf_f h49] | rw [pIf_f (Int32.not_lt.mpr h49)] | rw [pIf_f (Int32.not_le.mpr h49)] | rw [pIf_t (Int32.not_le.mp h49)] | rw [pIf_t (Int32.not_lt.mp h49)] | rw [pIf_f (Nat.not_lt.mpr h49)] | rw [pIf_f (Nat.not_le.mpr h49)] | rw [pIf_t (Nat.not_le.mp h49)] | rw [pIf_t (Nat.not_lt.mp h49)] | skip); (first | rw [pIf_t h60] | rw [pIf_f h60] | rw [pIf_f (Int32.not_lt.mpr h60)] | rw [pIf_f (Int32.not_le.mpr h60)] | rw [pIf_t (Int32.not_le.mp h60)] | rw [pIf_t (Int32.not_lt.mp h60)] | rw [pIf_f (Nat.not_lt.mpr h60)] | rw [pIf_f (Nat.not_le.mpr h60)] | rw [pIf_t (Nat.not_le.mp h60)] | rw [pIf_t (Nat.not_lt.mp h60)] | skip); (first | rw [pIf_t h84] | rw [pIf_f h84] | rw [pIf_f (Int32.not_lt.mpr h84)] | rw [pIf_f (Int32.not_le.mpr h84)] | rw [pIf_t (Int32.not_le.mp h84)] | rw [pIf_t (Int32.not_lt.mp h84)] | rw [pIf_f (Nat.not_lt.mpr h84)] | rw [pIf_f (Nat.not_le.mpr h84)] | rw [pIf_t (Nat.not_le.mp h84)] | rw [pIf_t (Nat.not_lt.mp h84)] | skip); (try rw [nI_clamp (show k < 2 ^ 31 from by omega)]); (try rw [nI_clamp (show j < 2 ^ 31 from by omega)]); all_goals rfl, rfl⟩)
            ·
              refine aw_bipush (v := (-3)) dX7_refusalOfTwoRows_63 (by decide) ?_
              exact aw_iret rfl dX7_refusalOfTwoRows_65 (by first | contradiction | exact ⟨by unfold rr2I; (try rw [nI_clamp (show k < 2 ^ 31 from by omega)]); (try rw [nI_clamp (show j < 2 ^ 31 from by omega)]); (first | rw [pIf_t h4] | rw [pIf_f h4] | rw [pIf_f (Int32.not_lt.mpr h4)] | rw [pIf_f (Int32.not_le.mpr h4)] | rw [pIf_t (Int32.not_le.mp h4)] | rw [pIf_t (Int32.not_lt.mp h4)] | rw [pIf_f (Nat.not_lt.mpr h4)] | rw [pIf_f (Nat.not_le.mpr h4)] | rw [pIf_t (Nat.not_le.mp h4)] | rw [pIf_t (Nat.not_lt.mp h4)] | skip); (first | rw [pIf_t h11] | rw [pIf_f h11] | rw [pIf_f (Int32.not_lt.mpr h11)] | rw [pIf_f (Int32.not_le.mpr h11)] | rw [pIf_t (Int32.not_le.mp h11)] | rw [pIf_t (Int32.not_lt.mp h11)] | rw [pIf_f (Nat.not_lt.mpr h11)] | rw [pIf_f (Nat.not_le.mpr h11)] | rw [pIf_t (Nat.not_le.mp h11)] | rw [pIf_t (Nat.not_lt.mp h11)] | skip); (first | rw [pIf_t h24] | rw [pIf_f h24] | rw [pIf_f (Int32.not_lt.mpr h24)] | rw [pIf_f (Int32.not_le.mpr h24)] | rw [pIf_t (Int32.not_le.mp h24)] | rw [pIf_t (Int32.not_lt.mp h24)] | rw [pIf_f (Nat.not_lt.mpr h24)] | rw [pIf_f (Nat.not_le.mpr h24)] | rw [pIf_t (Nat.not_le.mp h24)] | rw [pIf_t (Nat.not_lt.mp h24)] | skip); (first | rw [pIf_t h35] | rw [pIf_f h35] | rw [pIf_f (Int32.not_lt.mpr h35)] | rw [pIf_f (Int32.not_le.mpr h35)] | rw [pIf_t (Int32.not_le.mp h35)] | rw [pIf_t (Int32.not_lt.mp h35)] | rw [pIf_f (Nat.not_lt.mpr h35)] | rw [pIf_f (Nat.not_le.mpr h35)] | rw [pIf_t (Nat.not_le.mp h35)] | rw [pIf_t (Nat.not_lt.mp h35)] | skip); (first | rw [pIf_t h49] | rw [pIf_f h49] | rw [pIf_f (Int32.not_lt.mpr h49)] | rw [pIf_f (Int32.not_le.mpr h49)] | rw [pIf_t (Int32.not_le.mp h49)] | rw [pIf_t (Int32.not_lt.mp h49)] | rw [pIf_f (Nat.not_lt.mpr h49)] | rw [pIf_f (Nat.not_le.mpr h49)] | rw [pIf_t (Nat.not_le.mp h49)] | rw [pIf_t (Nat.not_lt.mp h49)] | skip); (first | rw [pIf_t h60] | rw [pIf_f h60] | rw [pIf_f (Int32.not_lt.mpr h60)] | rw [pIf_f (Int32.not_le.mpr h60)] | rw [pIf_t (Int32.not_le.mp h60)] | rw [pIf_t (Int32.not_lt.mp h60)] | rw [pIf_f (Nat.not_lt.mpr h60)] | rw [pIf_f (Nat.not_le.mpr h60)] | rw [pIf_t (Nat.not_le.mp h60)] | rw [pIf_t (Nat.not_lt.mp h60)] | skip); (try rw [nI_clamp (show k < 2 ^ 31 from by omega)]); (try rw [nI_clamp (show j < 2 ^ 31 from by omega)]); all_goals rfl, rfl⟩)
        ·
          refine aw_bipush (v := (-2)) dX7_refusalOfTwoRows_38 (by decide) ?_
          exact aw_iret rfl dX7_refusalOfTwoRows_40 (by first | contradiction | exact ⟨by unfold rr2I; (try rw [nI_clamp (show k < 2 ^ 31 from by omega)]); (try rw [nI_clamp (show j < 2 ^ 31 from by omega)]); (first | rw [pIf_t h4] | rw [pIf_f h4] | rw [pIf_f (Int32.not_lt.mpr h4)] | rw [pIf_f (Int32.not_le.mpr h4)] | rw [pIf_t (Int32.not_le.mp h4)] | rw [pIf_t (Int32.not_lt.mp h4)] | rw [pIf_f (Nat.not_lt.mpr h4)] | rw [pIf_f (Nat.not_le.mpr h4)] | rw [pIf_t (Nat.not_le.mp h4)] | rw [pIf_t (Nat.not_lt.mp h4)] | skip); (first | rw [pIf_t h11] | rw [pIf_f h11] | rw [pIf_f (Int32.not_lt.mpr h11)] | rw [pIf_f (Int32.not_le.mpr h11)] | rw [pIf_t (Int32.not_le.mp h11)] | rw [pIf_t (Int32.not_lt.mp h11)] | rw [pIf_f (Nat.not_lt.mpr h11)] | rw [pIf_f (Nat.not_le.mpr h11)] | rw [pIf_t (Nat.not_le.mp h11)] | rw [pIf_t (Nat.not_lt.mp h11)] | skip); (first | rw [pIf_t h24] | rw [pIf_f h24] | rw [pIf_f (Int32.not_lt.mpr h24)] | rw [pIf_f (Int32.not_le.mpr h24)] | rw [pIf_t (Int32.not_le.mp h24)] | rw [pIf_t (Int32.not_lt.mp h24)] | rw [pIf_f (Nat.not_lt.mpr h24)] | rw [pIf_f (Nat.not_le.mpr h24)] | rw [pIf_t (Nat.not_le.mp h24)] | rw [pIf_t (Nat.not_lt.mp h24)] | skip); (first | rw [pIf_t h35] | rw [pIf_f h35] | rw [pIf_f (Int32.not_lt.mpr h35)] | rw [pIf_f (Int32.not_le.mpr h35)] | rw [pIf_t (Int32.not_le.mp h35)] | rw [pIf_t (Int32.not_lt.mp h35)] | rw [pIf_f (Nat.not_lt.mpr h35)] | rw [pIf_f (Nat.not_le.mpr h35)] | rw [pIf_t (Nat.not_le.mp h35)] | rw [pIf_t (Nat.not_lt.mp h35)] | skip); (try rw [nI_clamp (show k < 2 ^ 31 from by omega)]); (try rw [nI_clamp (show j < 2 ^ 31 from by omega)]); all_goals rfl, rfl⟩)
    ·
      refine aw_iconst (v := (-1)) dX7_refusalOfTwoRows_14 (by decide) ?_
      exact aw_iret rfl dX7_refusalOfTwoRows_15 (by first | contradiction | exact ⟨by unfold rr2I; (try rw [nI_clamp (show k < 2 ^ 31 from by omega)]); (try rw [nI_clamp (show j < 2 ^ 31 from by omega)]); (first | rw [pIf_t h4] | rw [pIf_f h4] | rw [pIf_f (Int32.not_lt.mpr h4)] | rw [pIf_f (Int32.not_le.mpr h4)] | rw [pIf_t (Int32.not_le.mp h4)] | rw [pIf_t (Int32.not_lt.mp h4)] | rw [pIf_f (Nat.not_lt.mpr h4)] | rw [pIf_f (Nat.not_le.mpr h4)] | rw [pIf_t (Nat.not_le.mp h4)] | rw [pIf_t (Nat.not_lt.mp h4)] | skip); (first | rw [pIf_t h11] | rw [pIf_f h11] | rw [pIf_f (Int32.not_lt.mpr h11)] | rw [pIf_f (Int32.not_le.mpr h11)] | rw [pIf_t (Int32.not_le.mp h11)] | rw [pIf_t (Int32.not_lt.mp h11)] | rw [pIf_f (Nat.not_lt.mpr h11)] | rw [pIf_f (Nat.not_le.mpr h11)] | rw [pIf_t (Nat.not_le.mp h11)] | rw [pIf_t (Nat.not_lt.mp h11)] | skip); (try rw [nI_clamp (show k < 2 ^ 31 from by omega)]); (try rw [nI_clamp (show j < 2 ^ 31 from by omega)]); all_goals rfl, rfl⟩)
theorem elP_n {M : Mm} (hz : sizOK M) {s i : Int32} (h : elP M s i) : ∃ k j, k < 8 ∧ j < 100 ∧ s = nI k ∧ i = nI j := elP_i hz h
theorem partP_n {M : Mm} (hz : sizOK M) {s i n : Int32} (h : partP M s i n) : ∃ k z a m, k < 8 ∧ z ≤ 100 ∧ a + m ≤ z ∧ s = nI k ∧ i = nI a ∧ n = nI m ∧ M.1 4 k = nI z := by
  obtain ⟨k, hk, rfl, -, h1, h2, h3⟩ := h
  obtain ⟨z, hz1, hz2⟩ := hz k hk
  rw [hz2] at h3
  have h0 : (0 : Int32).toInt = 0 := by decide
  have i1 : ∃ a, a < 2 ^ 31 ∧ i = nI a := ⟨i.toNatClampNeg, by have := i.toInt_lt; rw [i32_lt, h0] at h1; show i.toInt.toNat < _; omega, Int32.toInt_inj.mp (by rw [nI_toInt (by have := i.toInt_lt; show i.toInt.toNat < _; omega)]; rw [i32_lt, h0] at h1; show i.toInt = (i.toInt.toNat : Int); omega)⟩
  have i2 : ∃ a, a < 2 ^ 31 ∧ n = nI a := ⟨n.toNatClampNeg, by have := n.toInt_lt; rw [i32_lt, h0] at h2; show n.toInt.toNat < _; omega, Int32.toInt_inj.mp (by rw [nI_toInt (by have := n.toInt_lt; show n.toInt.toNat < _; omega)]; rw [i32_lt, h0] at h2; show n.toInt = (n.toInt.toNat : Int); omega)⟩
  obtain ⟨a, ha, rfl⟩ := i1
  obtain ⟨m, hm, rfl⟩ := i2
  refine ⟨k, z, a, m, hk, hz1, ?_, rfl, rfl, rfl, hz2⟩
  have e1 : ((nI a).toInt64 + (nI m).toInt64).toInt = (a : Int) + m := by
    rw [Int64.toInt_add, Int32.toInt_toInt64, Int32.toInt_toInt64, nI_toInt ha, nI_toInt hm]
    exact Int.bmod_eq_of_le (by omega) (by omega)
  have e2 : ((nI z).toInt64).toInt = (z : Int) := by rw [Int32.toInt_toInt64, nI_toInt (by omega)]
  by_cases hq : a + m ≤ z
  · exact hq
  · exfalso
    apply h3
    unfold lg_cmp
    rw [if_pos (show _ > _ from Int64.lt_iff_toInt_lt.mpr (by rw [e1, e2]; omega))]
    decide
def S_set (M : Mm) (s i : Int32) (w : Int64) (v : Int32) (M' : Mm) : Prop := pIf (rrI M s = 0) (pIf (elP M s i) (v = 1 ∧ M' = mL M (6 + s.toNatClampNeg) i.toNatClampNeg (cutL (M.1 3 s.toNatClampNeg - 100) w)) (v = -5 ∧ M' = rfx M 4)) (v = rrI M s ∧ M' = rfA M (rrI M s))
theorem m_X7_set {l : Launch} {M : Mm} {s i : Int32} {w : Int64} (hz : sizOK M) : AMet l 4 yX7_set cX7_set 6 (some FieldType.int) [.ref 0, .int s, .int i, .long w] M (QI (S_set M s i w)) := by
  refine AMet.of (by decide) (by simp [aargs, Value.category]) ?_
  show AW l 4 yX7_set cX7_set 6 (some FieldType.int) 0 [some (.ref 0), some (.int s), some (.int i), some (.long w), none, none] [] M _
  refine aw_aload_n (i := 0) dX7_set_0 rfl rfl ?_
  refine aw_iload_n (i := 1) dX7_set_1 rfl rfl ?_
  refine aw_cVi ck_X7_94 m_X7_refusalOfRow sh_0 rfl (by decide) (by decide) rfl rfl (Nat.le_of_ble_eq_true rfl) dX7_set_2 ?_
  refine aw_istore (i := 5) dX7_set_5 (by decide) ?_
  refine aw_iload (i := 5) dX7_set_7 rfl ?_
  refine aw_if_eq (tgt := 19) dX7_set_9 (by decide) (fun h9 => ?_) (fun h9 => ?_)
  ·
    refine aw_aload_n (i := 0) dX7_set_19 rfl rfl ?_
    refine aw_getR gf_X7_12 sh_0 rfl dX7_set_20 ?_
    refine aw_iload_n (i := 1) dX7_set_23 rfl rfl ?_
    refine aw_iload_n (i := 2) dX7_set_24 rfl rfl ?_
    refine aw_cVi ck_X7_97 m_X6_hasElement sh_2 rfl (by decide) (by decide) rfl rfl (Nat.le_of_ble_eq_true rfl) dX7_set_25 ?_
    refine aw_ifne_b (tgt := 38) dX7_set_28 (by decide) (fun h28 => ?_) (fun h28 => ?_)
    ·
      obtain ⟨k, j, hk, hj, rfl, rfl⟩ := elP_n hz h28
      refine aw_aload_n (i := 0) dX7_set_38 rfl rfl ?_
      refine aw_getR gf_X7_12 sh_0 rfl dX7_set_39 ?_
      refine aw_iload_n (i := 1) dX7_set_42 rfl rfl ?_
      refine aw_iload_n (i := 2) dX7_set_43 rfl rfl ?_
      refine aw_lload_n (i := 3) dX7_set_44 rfl rfl ?_
      refine aw_cVv ck_X7_101 (m_X6_putElement hk hj) sh_2 rfl (by decide) (by decide) rfl rfl (Nat.le_of_ble_eq_true rfl) dX7_set_45 ?_
      refine aw_iconst (v := 1) dX7_set_48 (by decide) ?_
      exact aw_iret rfl dX7_set_49 (by first | contradiction | exact ⟨_, rfl, by unfold S_set; (try rw [nI_clamp (show k < 2 ^ 31 from by omega)]); (try rw [nI_clamp (show j < 2 ^ 31 from by omega)]); (first | rw [pIf_t h9] | rw [pIf_f h9] | rw [pIf_f (Int32.not_lt.mpr h9)] | rw [pIf_f (Int32.not_le.mpr h9)] | rw [pIf_t (Int32.not_le.mp h9)] | rw [pIf_t (Int32.not_lt.mp h9)] | rw [pIf_f (Nat.not_lt.mpr h9)] | rw [pIf_f (Nat.not_le.mpr h9)] | rw [pIf_t (Nat.not_le.mp h9)] | rw [pIf_t (Nat.not_lt.mp h9)] | skip); (first | rw [pIf_t h28] | rw [pIf_f h28] | rw [pIf_f (Int32.not_lt.mpr h28)] | rw [pIf_f (Int32.not_le.mpr h28)] | rw [pIf_t (Int32.not_le.mp h28)] | rw [pIf_t (Int32.not_lt.mp h28)] | rw [pIf_f (Nat.not_lt.mpr h28)] | rw [pIf_f (Nat.not_le.mpr h28)] | rw [pIf_t (Nat.not_le.mp h28)] | rw [pIf_t (Nat.not_lt.mp h28)] | skip); (try rw [nI_clamp (show k < 2 ^ 31 from by omega)]); (try rw [nI_clamp (show j < 2 ^ 31 from by omega)]); exact ⟨rfl, rfl⟩⟩)
    ·
      refine aw_aload_n (i := 0) dX7_set_31 rfl rfl ?_
      refine aw_bipush (v := (-5)) dX7_set_32 (by decide) ?_
      refine aw_cVi ck_X7_86 (m_X7_refuse (k := 4) (by decide) (by decide)) sh_0 rfl (by decide) (by decide) rfl rfl (Nat.le_of_ble_eq_true rfl) dX7_set_34 ?_
      exact aw_iret rfl dX7_set_37 (by first | contradiction | exact ⟨_, rfl, by unfold S_set; (try rw [nI_clamp (show k < 2 ^ 31 from by omega)]); (try rw [nI_clamp (show j < 2 ^ 31 from by omega)]); (first | rw [pIf_t h9] | rw [pIf_f h9] | rw [pIf_f (Int32.not_lt.mpr h9)] | rw [pIf_f (Int32.not_le.mpr h9)] | rw [pIf_t (Int32.not_le.mp h9)] | rw [pIf_t (Int32.not_lt.mp h9)] | rw [pIf_f (Nat.not_lt.mpr h9)] | rw [pIf_f (Nat.not_le.mpr h9)] | rw [pIf_t (Nat.not_le.mp h9)] | rw [pIf_t (Nat.not_lt.mp h9)] | skip); (first | rw [pIf_t h28] | rw [pIf_f h28] | rw [pIf_f (Int32.not_lt.mpr h28)] | rw [pIf_f (Int32.not_le.mpr h28)] | rw [pIf_t (Int32.not_le.mp h28)] | rw [pIf_t (Int32.not_lt.mp h28)] | rw [pIf_f (Nat.not_lt.mpr h28)] | rw [pIf_f (Nat.not_le.mpr h28)] | rw [pIf_t (Nat.not_le.mp h28)] | rw [pIf_t (Nat.not_lt.mp h28)] | skip); (try rw [nI_clamp (show k < 2 ^ 31 from by omega)]); (try rw [nI_clamp (show j < 2 ^ 31 from by omega)]); exact ⟨rfl, rfl⟩⟩)
  ·
    have hrf := rr_ok h9
    refine aw_aload_n (i := 0) dX7_set_12 rfl rfl ?_
    refine aw_iload (i := 5) dX7_set_13 rfl ?_
    refine aw_cVi ck_X7_86 (m_X7_refA hrf) sh_0 rfl (by decide) (by decide) rfl rfl (Nat.le_of_ble_eq_true rfl) dX7_set_15 ?_
    exact aw_iret rfl dX7_set_18 (by first | contradiction | exact ⟨_, rfl, by unfold S_set; (try rw [nI_clamp (show k < 2 ^ 31 from by omega)]); (try rw [nI_clamp (show j < 2 ^ 31 from by omega)]); (first | rw [pIf_t h9] | rw [pIf_f h9] | rw [pIf_f (Int32.not_lt.mpr h9)] | rw [pIf_f (Int32.not_le.mpr h9)] | rw [pIf_t (Int32.not_le.mp h9)] | rw [pIf_t (Int32.not_lt.mp h9)] | rw [pIf_f (Nat.not_lt.mpr h9)] | rw [pIf_f (Nat.not_le.mpr h9)] | rw [pIf_t (Nat.not_le.mp h9)] | rw [pIf_t (Nat.not_lt.mp h9)] | skip); (try rw [nI_clamp (show k < 2 ^ 31 from by omega)]); (try rw [nI_clamp (show j < 2 ^ 31 from by omega)]); exact ⟨rfl, rfl⟩⟩)
def S_copy (M : Mm) (s t i j n : Int32) (v : Int32) (M' : Mm) : Prop := pIf (rr2I M s t = 0) (pIf (n < 0) (v = -4 ∧ M' = rfx M 3) (pIf (partP M s i n) (pIf (partP M t j n) (v = 1 ∧ M' = rL M (6 + t.toNatClampNeg) (va_cpy (M.2 (6 + s.toNatClampNeg)) (M.2 (6 + t.toNatClampNeg)) i.toNatClampNeg j.toNatClampNeg n.toNatClampNeg)) (v = -5 ∧ M' = rfx M 4)) (v = -5 ∧ M' = rfx M 4))) (v = rr2I M s t ∧ M' = rfA M (rr2I M s t))
theorem m_X7_copy {l : Launch} {M : Mm} {s t i j n : Int32} (hz : sizOK M) : AMet l 4 yX7_copy cX7_copy 7 (some FieldType.int) [.ref 0, .int s, .int t, .int i, .int j, .int n] M (QI (S_copy M s t i j n)) := by
  refine AMet.of (by decide) (by simp [aargs, Value.category]) ?_
  show AW l 4 yX7_copy cX7_copy 7 (some FieldType.int) 0 [some (.ref 0), some (.int s), some (.int t), some (.int i), some (.int j), some (.int n), none] [] M _
  refine aw_aload_n (i := 0) dX7_copy_0 rfl rfl ?_
  refine aw_iload_n (i := 1) dX7_copy_1 rfl rfl ?_
  refine aw_iload_n (i := 2) dX7_copy_2 rfl rfl ?_
  refine aw_cVi ck_X7_105 m_X7_refusalOfTwoRows sh_0 rfl (by decide) (by decide) rfl rfl (Nat.le_of_ble_eq_true rfl) dX7_copy_3 ?_
  refine aw_istore (i := 6) dX7_copy_6 (by decide) ?_
  refine aw_iload (i := 6) dX7_copy_8 rfl ?_
  refine aw_if_eq (tgt := 20) dX7_copy_10 (by decide) (fun h10 => ?_) (fun h10 => ?_)
  ·
    refine aw_iload (i := 5) dX7_copy_20 rfl ?_
    refine aw_if_ge (tgt := 32) dX7_copy_22 (by decide) (fun h22 => ?_) (fun h22 => ?_)
    ·
      refine aw_aload_n (i := 0) dX7_copy_32 rfl rfl ?_
      refine aw_getR gf_X7_12 sh_0 rfl dX7_copy_33 ?_
      refine aw_iload_n (i := 1) dX7_copy_36 rfl rfl ?_
      refine aw_iload_n (i := 3) dX7_copy_37 rfl rfl ?_
      refine aw_iload (i := 5) dX7_copy_38 rfl ?_
      refine aw_cVi ck_X7_109 m_X6_hasPart sh_2 rfl (by decide) (by decide) rfl rfl (Nat.le_of_ble_eq_true rfl) dX7_copy_40 ?_
      refine aw_ifeq_b (tgt := 61) dX7_copy_43 (by decide) (fun h43 => ?_) (fun h43 => ?_)
      ·
        refine aw_aload_n (i := 0) dX7_copy_61 rfl rfl ?_
        refine aw_bipush (v := (-5)) dX7_copy_62 (by decide) ?_
        refine aw_cVi ck_X7_86 (m_X7_refuse (k := 4) (by decide) (by decide)) sh_0 rfl (by decide) (by decide) rfl rfl (Nat.le_of_ble_eq_true rfl) dX7_copy_64 ?_
        exact aw_iret rfl dX7_copy_67 (by first | contradiction | exact ⟨_, rfl, by unfold S_copy; (try rw [nI_clamp (show k < 2 ^ 31 from by omega)]); (try rw [nI_clamp (show k2 < 2 ^ 31 from by omega)]); (try rw [nI_clamp (show a < 2 ^ 31 from by omega)]); (try rw [nI_clamp (show b < 2 ^ 31 from by omega)]); (try rw [nI_clamp (show m < 2 ^ 31 from by omega)]); (first | rw [pIf_t h10] | rw [pIf_f h10] | rw [pIf_f (Int32.not_lt.mpr h10)] | rw [pIf_f (Int32.not_le.mpr h10)] | rw [pIf_t (Int32.not_le.mp h10)] | rw [pIf_t (Int32.not_lt.mp h10)] | rw [pIf_f (Nat.not_lt.mpr h10)] | rw [pIf_f (Nat.not_le.mpr h10)] | rw [pIf_t (Nat.not_le.mp h10)] | rw [pIf_t (Nat.not_lt.mp h10)] | skip); (first | rw [pIf_t h22] | rw [pIf_f h22] | rw [pIf_f (Int32.not_lt.mpr h22)] | rw [pIf_f (Int32.not_le.mpr h22)] | rw [pIf_t (Int32.not_le.mp h22)] | rw [pIf_t (Int32.not_lt.mp h22)] | rw [pIf_f (Nat.not_lt.mpr h22)] | rw [pIf_f (Nat.not_le.mpr h22)] | rw [pIf_t (Nat.not_le.mp h22)] | rw [pIf_t (Nat.not_lt.mp h22)] | skip); (first | rw [pIf_t h43] | rw [pIf_f h43] | rw [pIf_f (Int32.not_lt.mpr h43)] | rw [pIf_f (Int32.not_le.mpr h43)] | rw [pIf_t (Int32.not_le.mp h43)] | rw [pIf_t (Int32.not_lt.mp h43)] | rw [pIf_f (Nat.not_lt.mpr h43)] | rw [pIf_f (Nat.not_le.mpr h43)] | rw [pIf_t (Nat.not_le.mp h43)] | rw [pIf_t (Nat.not_lt.mp h43)] | skip); (try rw [nI_clamp (show k < 2 ^ 31 from by omega)]); (try rw [nI_clamp (show k2 < 2 ^ 31 from by omega)]); (try rw [nI_clamp (show a < 2 ^ 31 from by omega)]); (try rw [nI_clamp (show b < 2 ^ 31 from by omega)]); (try rw [nI_clamp (show m < 2 ^ 31 from by omega)]); exact ⟨rfl, rfl⟩⟩)
      ·
        refine aw_aload_n (i := 0) dX7_copy_46 rfl rfl ?_
        refine aw_getR gf_X7_12 sh_0 rfl dX7_copy_47 ?_
        refine aw_iload_n (i := 2) dX7_copy_50 rfl rfl ?_
        refine aw_iload (i := 4) dX7_copy_51 rfl ?_
        refine aw_iload (i := 5) dX7_copy_53 rfl ?_
        refine aw_cVi ck_X7_109 m_X6_hasPart sh_2 rfl (by decide) (by decide) rfl rfl (Nat.le_of_ble_eq_true rfl) dX7_copy_55 ?_
        refine aw_ifne_b (tgt := 68) dX7_copy_58 (by decide) (fun h58 => ?_) (fun h58 => ?_)
        ·
          obtain ⟨k, z, a, m, hk, hz1, hz2, rfl, rfl, rfl, -⟩ := partP_n hz h43
          obtain ⟨k2, z2, b, m2, hk2, hz3, hz4, rfl, rfl, em, -⟩ := partP_n hz h58
          have em2 : m = m2 := by have e9 := congrArg Int32.toNatClampNeg em; rw [nI_clamp (by omega), nI_clamp (by omega)] at e9; exact e9
          subst em2
          refine aw_aload_n (i := 0) dX7_copy_68 rfl rfl ?_
          refine aw_getR gf_X7_12 sh_0 rfl dX7_copy_69 ?_
          refine aw_iload_n (i := 1) dX7_copy_72 rfl rfl ?_
          refine aw_iload_n (i := 2) dX7_copy_73 rfl rfl ?_
          refine aw_iload_n (i := 3) dX7_copy_74 rfl rfl ?_
          refine aw_iload (i := 4) dX7_copy_75 rfl ?_
          refine aw_iload (i := 5) dX7_copy_77 rfl ?_
          refine aw_cVv ck_X7_113 (m_X6_copyPart hk hk2 (by omega) (by omega)) sh_2 rfl (by decide) (by decide) rfl rfl (Nat.le_of_ble_eq_true rfl) dX7_copy_79 ?_
          refine aw_iconst (v := 1) dX7_copy_82 (by decide) ?_
          exact aw_iret rfl dX7_copy_83 (by first | contradiction | exact ⟨_, rfl, by unfold S_copy; (try rw [nI_clamp (show k < 2 ^ 31 from by omega)]); (try rw [nI_clamp (show k2 < 2 ^ 31 from by omega)]); (try rw [nI_clamp (show a < 2 ^ 31 from by omega)]); (try rw [nI_clamp (show b < 2 ^ 31 from by omega)]); (try rw [nI_clamp (show m < 2 ^ 31 from by omega)]); (first | rw [pIf_t h10] | rw [pIf_f h10] | rw [pIf_f (Int32.not_lt.mpr h10)] | rw [pIf_f (Int32.not_le.mpr h10)] | rw [pIf_t (Int32.not_le.mp h10)] | rw [pIf_t (Int32.not_lt.mp h10)] | rw [pIf_f (Nat.not_lt.mpr h10)] | rw [pIf_f (Nat.not_le.mpr h10)] | rw [pIf_t (Nat.not_le.mp h10)] | rw [pIf_t (Nat.not_lt.mp h10)] | skip); (first | rw [pIf_t h22] | rw [pIf_f h22] | rw [pIf_f (Int32.not_lt.mpr h22)] | rw [pIf_f (Int32.not_le.mpr h22)] | rw [pIf_t (Int32.not_le.mp h22)] | rw [pIf_t (Int32.not_lt.mp h22)] | rw [pIf_f (Nat.not_lt.mpr h22)] | rw [pIf_f (Nat.not_le.mpr h22)] | rw [pIf_t (Nat.not_le.mp h22)] | rw [pIf_t (Nat.not_lt.mp h22)] | skip); (first | rw [pIf_t h43] | rw [pIf_f h43] | rw [pIf_f (Int32.not_lt.mpr h43)] | rw [pIf_f (Int32.not_le.mpr h43)] | rw [pIf_t (Int32.not_le.mp h43)] | rw [pIf_t (Int32.not_lt.mp h43)] | rw [pIf_f (Nat.not_lt.mpr h43)] | rw [pIf_f (Nat.not_le.mpr h43)] | rw [pIf_t (Nat.not_le.mp h43)] | rw [pIf_t (Nat.not_lt.mp h43)] | skip); (first | rw [pIf_t h58] | rw [pIf_f h58] | rw [pIf_f (Int32.not_lt.mpr h58)] | rw [pIf_f (Int32.not_le.mpr h58)] | rw [pIf_t (Int32.not_le.mp h58)] | rw [pIf_t (Int32.not_lt.mp h58)] | rw [pIf_f (Nat.not_lt.mpr h58)] | rw [pIf_f (Nat.not_le.mpr h58)] | rw [pIf_t (Nat.not_le.mp h58)] | rw [pIf_t (Nat.not_lt.mp h58)] | skip); (try rw [nI_clamp (show k < 2 ^ 31 from by omega)]); (try rw [nI_clamp (show k2 < 2 ^ 31 from by omega)]); (try rw [nI_clamp (show a < 2 ^ 31 from by omega)]); (try rw [nI_clamp (show b < 2 ^ 31 from by omega)]); (try rw [nI_clamp (show m < 2 ^ 31 from by omega)]); exact ⟨rfl, rfl⟩⟩)
        ·
          refine aw_aload_n (i := 0) dX7_copy_61 rfl rfl ?_
          refine aw_bipush (v := (-5)) dX7_copy_62 (by decide) ?_
          refine aw_cVi ck_X7_86 (m_X7_refuse (k := 4) (by decide) (by decide)) sh_0 rfl (by decide) (by decide) rfl rfl (Nat.le_of_ble_eq_true rfl) dX7_copy_64 ?_
          exact aw_iret rfl dX7_copy_67 (by first | contradiction | exact ⟨_, rfl, by unfold S_copy; (try rw [nI_clamp (show k < 2 ^ 31 from by omega)]); (try rw [nI_clamp (show k2 < 2 ^ 31 from by omega)]); (try rw [nI_clamp (show a < 2 ^ 31 from by omega)]); (try rw [nI_clamp (show b < 2 ^ 31 from by omega)]); (try rw [nI_clamp (show m < 2 ^ 31 from by omega)]); (first | rw [pIf_t h10] | rw [pIf_f h10] | rw [pIf_f (Int32.not_lt.mpr h10)] | rw [pIf_f (Int32.not_le.mpr h10)] | rw [pIf_t (Int32.not_le.mp h10)] | rw [pIf_t (Int32.not_lt.mp h10)] | rw [pIf_f (Nat.not_lt.mpr h10)] | rw [pIf_f (Nat.not_le.mpr h10)] | rw [pIf_t (Nat.not_le.mp h10)] | rw [pIf_t (Nat.not_lt.mp h10)] | skip); (first | rw [pIf_t h22] | rw [pIf_f h22] | rw [pIf_f (Int32.not_lt.mpr h22)] | rw [pIf_f (Int32.not_le.mpr h22)] | rw [pIf_t (Int32.not_le.mp h22)] | rw [pIf_t (Int32.not_lt.mp h22)] | rw [pIf_f (Nat.not_lt.mpr h22)] | rw [pIf_f (Nat.not_le.mpr h22)] | rw [pIf_t (Nat.not_le.mp h22)] | rw [pIf_t (Nat.not_lt.mp h22)] | skip); (first | rw [pIf_t h43] | rw [pIf_f h43] | rw [pIf_f (Int32.not_lt.mpr h43)] | rw [pIf_f (Int32.not_le.mpr h43)] | rw [pIf_t (Int32.not_le.mp h43)] | rw [pIf_t (Int32.not_lt.mp h43)] | rw [pIf_f (Nat.not_lt.mpr h43)] | rw [pIf_f (Nat.not_le.mpr h43)] | rw [pIf_t (Nat.not_le.mp h43)] | rw [pIf_t (Nat.not_lt.mp h43)] | skip); (first | rw [pIf_t h58] | rw [pIf_f h58] | rw [pIf_f (Int32.not_lt.mpr h58)] | rw [pIf_f (Int32.not_le.mpr h58)] | rw [pIf_t (Int32.not_le.mp h58)] | rw [pIf_t (Int32.not_lt.mp h58)] | rw [pIf_f (Nat.not_lt.mpr h58)] | rw [pIf_f (Nat.not_le.mpr h58)] | rw [pIf_t (Nat.not_le.mp h58)] | rw [pIf_t (Nat.not_lt.mp h58)] | skip); (try rw [nI_clamp (show k < 2 ^ 31 from by omega)]); (try rw [nI_clamp (show k2 < 2 ^ 31 from by omega)]); (try rw [nI_clamp (show a < 2 ^ 31 from by omega)]); (try rw [nI_clamp (show b < 2 ^ 31 from by omega)]); (try rw [nI_clamp (show m < 2 ^ 31 from by omega)]); exact ⟨rfl, rfl⟩⟩)
    ·
      refine aw_aload_n (i := 0) dX7_copy_25 rfl rfl ?_
      refine aw_bipush (v := (-4)) dX7_copy_26 (by decide) ?_
      refine aw_cVi ck_X7_86 (m_X7_refuse (k := 3) (by decide) (by decide)) sh_0 rfl (by decide) (by decide) rfl rfl (Nat.le_of_ble_eq_true rfl) dX7_copy_28 ?_
      exact aw_iret rfl dX7_copy_31 (by first | contradiction | exact ⟨_, rfl, by unfold S_copy; (try rw [nI_clamp (show k < 2 ^ 31 from by omega)]); (try rw [nI_clamp (show k2 < 2 ^ 31 from by omega)]); (try rw [nI_clamp (show a < 2 ^ 31 from by omega)]); (try rw [nI_clamp (show b < 2 ^ 31 from by omega)]); (try rw [nI_clamp (show m < 2 ^ 31 from by omega)]); (first | rw [pIf_t h10] | rw [pIf_f h10] | rw [pIf_f (Int32.not_lt.mpr h10)] | rw [pIf_f (Int32.not_le.mpr h10)] | rw [pIf_t (Int32.not_le.mp h10)] | rw [pIf_t (Int32.not_lt.mp h10)] | rw [pIf_f (Nat.not_lt.mpr h10)] | rw [pIf_f (Nat.not_le.mpr h10)] | rw [pIf_t (Nat.not_le.mp h10)] | rw [pIf_t (Nat.not_lt.mp h10)] | skip); (first | rw [pIf_t h22] | rw [pIf_f h22] | rw [pIf_f (Int32.not_lt.mpr h22)] | rw [pIf_f (Int32.not_le.mpr h22)] | rw [pIf_t (Int32.not_le.mp h22)] | rw [pIf_t (Int32.not_lt.mp h22)] | rw [pIf_f (Nat.not_lt.mpr h22)] | rw [pIf_f (Nat.not_le.mpr h22)] | rw [pIf_t (Nat.not_le.mp h22)] | rw [pIf_t (Nat.not_lt.mp h22)] | skip); (try rw [nI_clamp (show k < 2 ^ 31 from by omega)]); (try rw [nI_clamp (show k2 < 2 ^ 31 from by omega)]); (try rw [nI_clamp (show a < 2 ^ 31 from by omega)]); (try rw [nI_clamp (show b < 2 ^ 31 from by omega)]); (try rw [nI_clamp (show m < 2 ^ 31 from by omega)]); exact ⟨rfl, rfl⟩⟩)
  ·
    have hrf := rr2_ok h10
    refine aw_aload_n (i := 0) dX7_copy_13 rfl rfl ?_
    refine aw_iload (i := 6) dX7_copy_14 rfl ?_
    refine aw_cVi ck_X7_86 (m_X7_refA hrf) sh_0 rfl (by decide) (by decide) rfl rfl (Nat.le_of_ble_eq_true rfl) dX7_copy_16 ?_
    exact aw_iret rfl dX7_copy_19 (by first | contradiction | exact ⟨_, rfl, by unfold S_copy; (try rw [nI_clamp (show k < 2 ^ 31 from by omega)]); (try rw [nI_clamp (show k2 < 2 ^ 31 from by omega)]); (try rw [nI_clamp (show a < 2 ^ 31 from by omega)]); (try rw [nI_clamp (show b < 2 ^ 31 from by omega)]); (try rw [nI_clamp (show m < 2 ^ 31 from by omega)]); (first | rw [pIf_t h10] | rw [pIf_f h10] | rw [pIf_f (Int32.not_lt.mpr h10)] | rw [pIf_f (Int32.not_le.mpr h10)] | rw [pIf_t (Int32.not_le.mp h10)] | rw [pIf_t (Int32.not_lt.mp h10)] | rw [pIf_f (Nat.not_lt.mpr h10)] | rw [pIf_f (Nat.not_le.mpr h10)] | rw [pIf_t (Nat.not_le.mp h10)] | rw [pIf_t (Nat.not_lt.mp h10)] | skip); (try rw [nI_clamp (show k < 2 ^ 31 from by omega)]); (try rw [nI_clamp (show k2 < 2 ^ 31 from by omega)]); (try rw [nI_clamp (show a < 2 ^ 31 from by omega)]); (try rw [nI_clamp (show b < 2 ^ 31 from by omega)]); (try rw [nI_clamp (show m < 2 ^ 31 from by omega)]); exact ⟨rfl, rfl⟩⟩)
theorem m_X7_element {l : Launch} {M : Mm} {s i : Int32} (hz : sizOK M) : AMet l 5 yX7_element cX7_element 3 (some FieldType.long) [.ref 0, .int s, .int i] M (QE (some (.long (elL M s i))) M) := by
  refine AMet.of (by decide) (by simp [aargs, Value.category]) ?_
  show AW l 5 yX7_element cX7_element 3 (some FieldType.long) 0 [some (.ref 0), some (.int s), some (.int i)] [] M _
  refine aw_aload_n (i := 0) dX7_element_0 rfl rfl ?_
  refine aw_getR gf_X7_12 sh_0 rfl dX7_element_1 ?_
  refine aw_iload_n (i := 1) dX7_element_4 rfl rfl ?_
  refine aw_iload_n (i := 2) dX7_element_5 rfl rfl ?_
  refine aw_cVl ck_X7_117 (m_X6_elementOr0 hz) sh_2 rfl (by decide) (by decide) rfl rfl (Nat.le_of_ble_eq_true rfl) dX7_element_6 ?_
  exact aw_lret rfl dX7_element_9 ⟨rfl, rfl⟩
def S_show (M : Mm) (s x : Int32) (v : Int32) (M' : Mm) : Prop := pIf (¬ s < 0 ∧ ¬ 8 ≤ s) (pIf (x = -1) (v = 0 ∧ M' = mI M 3 s.toNatClampNeg x) (pIf (¬ x < 0 ∧ ¬ M.1 14 11 ≤ x) (v = 1 ∧ M' = mI M 3 s.toNatClampNeg x) (v = -1 ∧ M' = rfx M 0))) (v = -1 ∧ M' = rfx M 0)
theorem m_X7_show {l : Launch} {M : Mm} {s x : Int32} : AMet l 3 yX7_show cX7_show 3 (some FieldType.int) [.ref 0, .int s, .int x] M (QI (S_show M s x)) := by
  refine AMet.of (by decide) (by simp [aargs, Value.category]) ?_
  show AW l 3 yX7_show cX7_show 3 (some FieldType.int) 0 [some (.ref 0), some (.int s), some (.int x)] [] M _
  refine aw_iload_n (i := 1) dX7_show_0 rfl rfl ?_
  refine aw_cSi ck_X7_82 m_X7_isShelf (by decide) (by decide) rfl rfl (Nat.le_of_ble_eq_true rfl) dX7_show_1 ?_
  refine aw_ifeq_b (tgt := 23) dX7_show_4 (by decide) (fun h4 => ?_) (fun h4 => ?_)
  ·
    refine aw_aload_n (i := 0) dX7_show_23 rfl rfl ?_
    refine aw_iconst (v := (-1)) dX7_show_24 (by decide) ?_
    refine aw_cVi ck_X7_86 (m_X7_refuse (k := 0) (by decide) (by decide)) sh_0 rfl (by decide) (by decide) rfl rfl (Nat.le_of_ble_eq_true rfl) dX7_show_25 ?_
    exact aw_iret rfl dX7_show_28 (by first | contradiction | exact ⟨_, rfl, by unfold S_show; (try rw [nI_clamp (show k < 2 ^ 31 from by omega)]); (try rw [nI_clamp (show j < 2 ^ 31 from by omega)]); (first | rw [pIf_t h4] | rw [pIf_f h4] | rw [pIf_f (Int32.not_lt.mpr h4)] | rw [pIf_f (Int32.not_le.mpr h4)] | rw [pIf_t (Int32.not_le.mp h4)] | rw [pIf_t (Int32.not_lt.mp h4)] | rw [pIf_f (Nat.not_lt.mpr h4)] | rw [pIf_f (Nat.not_le.mpr h4)] | rw [pIf_t (Nat.not_le.mp h4)] | rw [pIf_t (Nat.not_lt.mp h4)] | skip); (try rw [nI_clamp (show k < 2 ^ 31 from by omega)]); (try rw [nI_clamp (show j < 2 ^ 31 from by omega)]); exact ⟨rfl, rfl⟩⟩)
  ·
    obtain ⟨k, hk, rfl⟩ := shf_k h4
    refine aw_iload_n (i := 2) dX7_show_7 rfl rfl ?_
    refine aw_iconst (v := (-1)) dX7_show_8 (by decide) ?_
    refine aw_icmp_eq (tgt := 29) dX7_show_9 (by decide) (fun h9 => ?_) (fun h9 => ?_)
    ·
      refine aw_aload_n (i := 0) dX7_show_29 rfl rfl ?_
      refine aw_getR gf_X7_12 sh_0 rfl dX7_show_30 ?_
      refine aw_getR gf_X7_124 sh_2 rfl dX7_show_33 ?_
      refine aw_iload_n (i := 1) dX7_show_36 rfl rfl ?_
      refine aw_iload_n (i := 2) dX7_show_37 rfl rfl ?_
      refine aw_iastN sh_3 (by omega) (by omega) dX7_show_38 ?_
      refine aw_iload_n (i := 2) dX7_show_39 rfl rfl ?_
      refine aw_iconst (v := (-1)) dX7_show_40 (by decide) ?_
      refine aw_icmp_ne (tgt := 48) dX7_show_41 (by decide) (fun h41 => ?_) (fun h41 => ?_)
      ·
        refine aw_iconst (v := 1) dX7_show_48 (by decide) ?_
        exact aw_iret rfl dX7_show_49 (by first | contradiction | exact ⟨_, rfl, by unfold S_show; (try rw [nI_clamp (show k < 2 ^ 31 from by omega)]); (try rw [nI_clamp (show j < 2 ^ 31 from by omega)]); (first | rw [pIf_t h4] | rw [pIf_f h4] | rw [pIf_f (Int32.not_lt.mpr h4)] | rw [pIf_f (Int32.not_le.mpr h4)] | rw [pIf_t (Int32.not_le.mp h4)] | rw [pIf_t (Int32.not_lt.mp h4)] | rw [pIf_f (Nat.not_lt.mpr h4)] | rw [pIf_f (Nat.not_le.mpr h4)] | rw [pIf_t (Nat.not_le.mp h4)] | rw [pIf_t (Nat.not_lt.mp h4)] | skip); (first | rw [pIf_t h9] | rw [pIf_f h9] | rw [pIf_f (Int32.not_lt.mpr h9)] | rw [pIf_f (Int32.not_le.mpr h9)] | rw [pIf_t (Int32.not_le.mp h9)] | rw [pIf_t (Int32.not_lt.mp h9)] | rw [pIf_f (Nat.not_lt.mpr h9)] | rw [pIf_f (Nat.not_le.mpr h9)] | rw [pIf_t (Nat.not_le.mp h9)] | rw [pIf_t (Nat.not_lt.mp h9)] | skip); (first | rw [pIf_t h41] | rw [pIf_f h41] | rw [pIf_f (Int32.not_lt.mpr h41)] | rw [pIf_f (Int32.not_le.mpr h41)] | rw [pIf_t (Int32.not_le.mp h41)] | rw [pIf_t (Int32.not_lt.mp h41)] | rw [pIf_f (Nat.not_lt.mpr h41)] | rw [pIf_f (Nat.not_le.mpr h41)] | rw [pIf_t (Nat.not_le.mp h41)] | rw [pIf_t (Nat.not_lt.mp h41)] | skip); (try rw [nI_clamp (show k < 2 ^ 31 from by omega)]); (try rw [nI_clamp (show j < 2 ^ 31 from by omega)]); exact ⟨rfl, rfl⟩⟩)
      ·
        refine aw_iconst (v := 0) dX7_show_44 (by decide) ?_
        refine aw_goto (tgt := 49) dX7_show_45 (by decide) ?_
        exact aw_iret rfl dX7_show_49 (by first | contradiction | exact ⟨_, rfl, by unfold S_show; (try rw [nI_clamp (show k < 2 ^ 31 from by omega)]); (try rw [nI_clamp (show j < 2 ^ 31 from by omega)]); (first | rw [pIf_t h4] | rw [pIf_f h4] | rw [pIf_f (Int32.not_lt.mpr h4)] | rw [pIf_f (Int32.not_le.mpr h4)] | rw [pIf_t (Int32.not_le.mp h4)] | rw [pIf_t (Int32.not_lt.mp h4)] | rw [pIf_f (Nat.not_lt.mpr h4)] | rw [pIf_f (Nat.not_le.mpr h4)] | rw [pIf_t (Nat.not_le.mp h4)] | rw [pIf_t (Nat.not_lt.mp h4)] | skip); (first | rw [pIf_t h9] | rw [pIf_f h9] | rw [pIf_f (Int32.not_lt.mpr h9)] | rw [pIf_f (Int32.not_le.mpr h9)] | rw [pIf_t (Int32.not_le.mp h9)] | rw [pIf_t (Int32.not_lt.mp h9)] | rw [pIf_f (Nat.not_lt.mpr h9)] | rw [pIf_f (Nat.not_le.mpr h9)] | rw [pIf_t (Nat.not_le.mp h9)] | rw [pIf_t (Nat.not_lt.mp h9)] | skip); (first | rw [pIf_t h41] | rw [pIf_f h41] | rw [pIf_f (Int32.not_lt.mpr h41)] | rw [pIf_f (Int32.not_le.mpr h41)] | rw [pIf_t (Int32.not_le.mp h41)] | rw [pIf_t (Int32.not_lt.mp h41)] | rw [pIf_f (Nat.not_lt.mpr h41)] | rw [pIf_f (Nat.not_le.mpr h41)] | rw [pIf_t (Nat.not_le.mp h41)] | rw [pIf_t (Nat.not_lt.mp h41)] | skip); (try rw [nI_clamp (show k < 2 ^ 31 from by omega)]); (try rw [nI_clamp (show j < 2 ^ 31 from by omega)]); exact ⟨rfl, rfl⟩⟩)
    ·
      refine aw_aload_n (i := 0) dX7_show_12 rfl rfl ?_
      refine aw_getR gf_X7_19 sh_0 rfl dX7_show_13 ?_
      refine aw_iload_n (i := 2) dX7_show_16 rfl rfl ?_
      refine aw_cVi ck_X7_121 (m_X1_has (by simp [isC] : isC 14)) sh_14 rfl (by decide) (by decide) rfl rfl (Nat.le_of_ble_eq_true rfl) dX7_show_17 ?_
      refine aw_ifne_b (tgt := 29) dX7_show_20 (by decide) (fun h20 => ?_) (fun h20 => ?_)
      ·
        refine aw_aload_n (i := 0) dX7_show_29 rfl rfl ?_
        refine aw_getR gf_X7_12 sh_0 rfl dX7_show_30 ?_
        refine aw_getR gf_X7_124 sh_2 rfl dX7_show_33 ?_
        refine aw_iload_n (i := 1) dX7_show_36 rfl rfl ?_
        refine aw_iload_n (i := 2) dX7_show_37 rfl rfl ?_
        refine aw_iastN sh_3 (by omega) (by omega) dX7_show_38 ?_
        refine aw_iload_n (i := 2) dX7_show_39 rfl rfl ?_
        refine aw_iconst (v := (-1)) dX7_show_40 (by decide) ?_
        refine aw_icmp_ne (tgt := 48) dX7_show_41 (by decide) (fun h41 => ?_) (fun h41 => ?_)
        ·
          refine aw_iconst (v := 1) dX7_show_48 (by decide) ?_
          exact aw_iret rfl dX7_show_49 (by first | contradiction | exact ⟨_, rfl, by unfold S_show; (try rw [nI_clamp (show k < 2 ^ 31 from by omega)]); (try rw [nI_clamp (show j < 2 ^ 31 from by omega)]); (first | rw [pIf_t h4] | rw [pIf_f h4] | rw [pIf_f (Int32.not_lt.mpr h4)] | rw [pIf_f (Int32.not_le.mpr h4)] | rw [pIf_t (Int32.not_le.mp h4)] | rw [pIf_t (Int32.not_lt.mp h4)] | rw [pIf_f (Nat.not_lt.mpr h4)] | rw [pIf_f (Nat.not_le.mpr h4)] | rw [pIf_t (Nat.not_le.mp h4)] | rw [pIf_t (Nat.not_lt.mp h4)] | skip); (first | rw [pIf_t h9] | rw [pIf_f h9] | rw [pIf_f (Int32.not_lt.mpr h9)] | rw [pIf_f (Int32.not_le.mpr h9)] | rw [pIf_t (Int32.not_le.mp h9)] | rw [pIf_t (Int32.not_lt.mp h9)] | rw [pIf_f (Nat.not_lt.mpr h9)] | rw [pIf_f (Nat.not_le.mpr h9)] | rw [pIf_t (Nat.not_le.mp h9)] | rw [pIf_t (Nat.not_lt.mp h9)] | skip); (first | rw [pIf_t h20] | rw [pIf_f h20] | rw [pIf_f (Int32.not_lt.mpr h20)] | rw [pIf_f (Int32.not_le.mpr h20)] | rw [pIf_t (Int32.not_le.mp h20)] | rw [pIf_t (Int32.not_lt.mp h20)] | rw [pIf_f (Nat.not_lt.mpr h20)] | rw [pIf_f (Nat.not_le.mpr h20)] | rw [pIf_t (Nat.not_le.mp h20)] | rw [pIf_t (Nat.not_lt.mp h20)] | skip); (first | rw [pIf_t h41] | rw [pIf_f h41] | rw [pIf_f (Int32.not_lt.mpr h41)] | rw [pIf_f (Int32.not_le.mpr h41)] | rw [pIf_t (Int32.not_le.mp h41)] | rw [pIf_t (Int32.not_lt.mp h41)] | rw [pIf_f (Nat.not_lt.mpr h41)] | rw [pIf_f (Nat.not_le.mpr h41)] | rw [pIf_t (Nat.not_le.mp h41)] | rw [pIf_t (Nat.not_lt.mp h41)] | skip); (try rw [nI_clamp (show k < 2 ^ 31 from by omega)]); (try rw [nI_clamp (show j < 2 ^ 31 from by omega)]); exact ⟨rfl, rfl⟩⟩)
        ·
          refine aw_iconst (v := 0) dX7_show_44 (by decide) ?_
          refine aw_goto (tgt := 49) dX7_show_45 (by decide) ?_
          exact aw_iret rfl dX7_show_49 (by first | contradiction | exact ⟨_, rfl, by unfold S_show; (try rw [nI_clamp (show k < 2 ^ 31 from by omega)]); (try rw [nI_clamp (show j < 2 ^ 31 from by omega)]); (first | rw [pIf_t h4] | rw [pIf_f h4] | rw [pIf_f (Int32.not_lt.mpr h4)] | rw [pIf_f (Int32.not_le.mpr h4)] | rw [pIf_t (Int32.not_le.mp h4)] | rw [pIf_t (Int32.not_lt.mp h4)] | rw [pIf_f (Nat.not_lt.mpr h4)] | rw [pIf_f (Nat.not_le.mpr h4)] | rw [pIf_t (Nat.not_le.mp h4)] | rw [pIf_t (Nat.not_lt.mp h4)] | skip); (first | rw [pIf_t h9] | rw [pIf_f h9] | rw [pIf_f (Int32.not_lt.mpr h9)] | rw [pIf_f (Int32.not_le.mpr h9)] | rw [pIf_t (Int32.not_le.mp h9)] | rw [pIf_t (Int32.not_lt.mp h9)] | rw [pIf_f (Nat.not_lt.mpr h9)] | rw [pIf_f (Nat.not_le.mpr h9)] | rw [pIf_t (Nat.not_le.mp h9)] | rw [pIf_t (Nat.not_lt.mp h9)] | skip); (first | rw [pIf_t h20] | rw [pIf_f h20] | rw [pIf_f (Int32.not_lt.mpr h20)] | rw [pIf_f (Int32.not_le.mpr h20)] | rw [pIf_t (Int32.not_le.mp h20)] | rw [pIf_t (Int32.not_lt.mp h20)] | rw [pIf_f (Nat.not_lt.mpr h20)] | rw [pIf_f (Nat.not_le.mpr h20)] | rw [pIf_t (Nat.not_le.mp h20)] | rw [pIf_t (Nat.not_lt.mp h20)] | skip); (first | rw [pIf_t h41] | rw [pIf_f h41] | rw [pIf_f (Int32.not_lt.mpr h41)] | rw [pIf_f (Int32.not_le.mpr h41)] | rw [pIf_t (Int32.not_le.mp h41)] | rw [pIf_t (Int32.not_lt.mp h41)] | rw [pIf_f (Nat.not_lt.mpr h41)] | rw [pIf_f (Nat.not_le.mpr h41)] | rw [pIf_t (Nat.not_le.mp h41)] | rw [pIf_t (Nat.not_lt.mp h41)] | skip); (try rw [nI_clamp (show k < 2 ^ 31 from by omega)]); (try rw [nI_clamp (show j < 2 ^ 31 from by omega)]); exact ⟨rfl, rfl⟩⟩)
      ·
        refine aw_aload_n (i := 0) dX7_show_23 rfl rfl ?_
        refine aw_iconst (v := (-1)) dX7_show_24 (by decide) ?_
        refine aw_cVi ck_X7_86 (m_X7_refuse (k := 0) (by decide) (by decide)) sh_0 rfl (by decide) (by decide) rfl rfl (Nat.le_of_ble_eq_true rfl) dX7_show_25 ?_
        exact aw_iret rfl dX7_show_28 (by first | contradiction | exact ⟨_, rfl, by unfold S_show; (try rw [nI_clamp (show k < 2 ^ 31 from by omega)]); (try rw [nI_clamp (show j < 2 ^ 31 from by omega)]); (first | rw [pIf_t h4] | rw [pIf_f h4] | rw [pIf_f (Int32.not_lt.mpr h4)] | rw [pIf_f (Int32.not_le.mpr h4)] | rw [pIf_t (Int32.not_le.mp h4)] | rw [pIf_t (Int32.not_lt.mp h4)] | rw [pIf_f (Nat.not_lt.mpr h4)] | rw [pIf_f (Nat.not_le.mpr h4)] | rw [pIf_t (Nat.not_le.mp h4)] | rw [pIf_t (Nat.not_lt.mp h4)] | skip); (first | rw [pIf_t h9] | rw [pIf_f h9] | rw [pIf_f (Int32.not_lt.mpr h9)] | rw [pIf_f (Int32.not_le.mpr h9)] | rw [pIf_t (Int32.not_le.mp h9)] | rw [pIf_t (Int32.not_lt.mp h9)] | rw [pIf_f (Nat.not_lt.mpr h9)] | rw [pIf_f (Nat.not_le.mpr h9)] | rw [pIf_t (Nat.not_le.mp h9)] | rw [pIf_t (Nat.not_lt.mp h9)] | skip); (first | rw [pIf_t h20] | rw [pIf_f h20] | rw [pIf_f (Int32.not_lt.mpr h20)] | rw [pIf_f (Int32.not_le.mpr h20)] | rw [pIf_t (Int32.not_le.mp h20)] | rw [pIf_t (Int32.not_lt.mp h20)] | rw [pIf_f (Nat.not_lt.mpr h20)] | rw [pIf_f (Nat.not_le.mpr h20)] | rw [pIf_t (Nat.not_le.mp h20)] | rw [pIf_t (Nat.not_lt.mp h20)] | skip); (try rw [nI_clamp (show k < 2 ^ 31 from by omega)]); (try rw [nI_clamp (show j < 2 ^ 31 from by omega)]); exact ⟨rfl, rfl⟩⟩)
def S_holds (M : Mm) (s : Int32) (v : Int32) (M' : Mm) : Prop := pIf (¬ s < 0 ∧ ¬ 8 ≤ s) (v = M.1 3 s.toNatClampNeg ∧ M' = M) (v = -1 ∧ M' = M)
theorem m_X7_holds {l : Launch} {M : Mm} {s : Int32} : AMet l 3 yX7_holds cX7_holds 2 (some FieldType.int) [.ref 0, .int s] M (QI (S_holds M s)) := by
  refine AMet.of (by decide) (by simp [aargs, Value.category]) ?_
  show AW l 3 yX7_holds cX7_holds 2 (some FieldType.int) 0 [some (.ref 0), some (.int s)] [] M _
  refine aw_iload_n (i := 1) dX7_holds_0 rfl rfl ?_
  refine aw_cSi ck_X7_82 m_X7_isShelf (by decide) (by decide) rfl rfl (Nat.le_of_ble_eq_true rfl) dX7_holds_1 ?_
  refine aw_ifeq_b (tgt := 19) dX7_holds_4 (by decide) (fun h4 => ?_) (fun h4 => ?_)
  ·
    refine aw_iconst (v := (-1)) dX7_holds_19 (by decide) ?_
    exact aw_iret rfl dX7_holds_20 (by first | contradiction | exact ⟨_, rfl, by unfold S_holds; (try rw [nI_clamp (show k < 2 ^ 31 from by omega)]); (try rw [nI_clamp (show j < 2 ^ 31 from by omega)]); (first | rw [pIf_t h4] | rw [pIf_f h4] | rw [pIf_f (Int32.not_lt.mpr h4)] | rw [pIf_f (Int32.not_le.mpr h4)] | rw [pIf_t (Int32.not_le.mp h4)] | rw [pIf_t (Int32.not_lt.mp h4)] | rw [pIf_f (Nat.not_lt.mpr h4)] | rw [pIf_f (Nat.not_le.mpr h4)] | rw [pIf_t (Nat.not_le.mp h4)] | rw [pIf_t (Nat.not_lt.mp h4)] | skip); (try rw [nI_clamp (show k < 2 ^ 31 from by omega)]); (try rw [nI_clamp (show j < 2 ^ 31 from by omega)]); exact ⟨rfl, rfl⟩⟩)
  ·
    obtain ⟨k, hk, rfl⟩ := shf_k h4
    refine aw_aload_n (i := 0) dX7_holds_7 rfl rfl ?_
    refine aw_getR gf_X7_12 sh_0 rfl dX7_holds_8 ?_
    refine aw_getR gf_X7_124 sh_2 rfl dX7_holds_11 ?_
    refine aw_iload_n (i := 1) dX7_holds_14 rfl rfl ?_
    refine aw_ialdN sh_3 (by omega) (by omega) dX7_holds_15 ?_
    refine aw_goto (tgt := 20) dX7_holds_16 (by decide) ?_
    exact aw_iret rfl dX7_holds_20 (by first | contradiction | exact ⟨_, rfl, by unfold S_holds; (try rw [nI_clamp (show k < 2 ^ 31 from by omega)]); (try rw [nI_clamp (show j < 2 ^ 31 from by omega)]); (first | rw [pIf_t h4] | rw [pIf_f h4] | rw [pIf_f (Int32.not_lt.mpr h4)] | rw [pIf_f (Int32.not_le.mpr h4)] | rw [pIf_t (Int32.not_le.mp h4)] | rw [pIf_t (Int32.not_lt.mp h4)] | rw [pIf_f (Nat.not_lt.mpr h4)] | rw [pIf_f (Nat.not_le.mpr h4)] | rw [pIf_t (Nat.not_le.mp h4)] | rw [pIf_t (Nat.not_lt.mp h4)] | skip); (try rw [nI_clamp (show k < 2 ^ 31 from by omega)]); (try rw [nI_clamp (show j < 2 ^ 31 from by omega)]); exact ⟨rfl, rfl⟩⟩)
def undP : Nat → Int32 → Int32 → Prop
  | 0, a, w => a = w
  | k + 1, a, w => ((a = -1 ∨ a = w) ∧ a = w) ∨ (¬ (a = -1 ∨ a = w) ∧ undP k (aboveI a) w)
def upN : Nat → Int32 → Int32
  | 0, a => a
  | k + 1, a => upN k (aboveI a)
theorem above_v (a : Int32) : aboveI a = 0 ∨ aboveI a = 2 ∨ aboveI a = 1 ∨ aboveI a = -1 := by
  unfold aboveI
  by_cases h1 : a = 1 ∨ a = 2
  · exact Or.inl (if_pos h1)
  · rw [if_neg h1]
    by_cases h2 : a = 3 ∨ a = 4 ∨ a = 5
    · exact Or.inr (Or.inl (if_pos h2))
    · rw [if_neg h2]
      by_cases h3 : a = 6
      · exact Or.inr (Or.inr (Or.inl (if_pos h3)))
      · exact Or.inr (Or.inr (Or.inr (if_neg h3)))
theorem up4 (a : Int32) : upN 4 a = -1 := by
  show upN 3 (aboveI a) = -1
  rcases above_v a with h | h | h | h <;> rw [h] <;> decide
theorem m_X7_isKindOrUnder {l : Launch} {M : Mm} {a w : Int32} : AMet l 2 yX7_isKindOrUnder cX7_isKindOrUnder 4 (some FieldType.boolean) [.int a, .int w] M (QE (some (.int (b01 (undP 4 a w)))) M) := by
  refine AMet.of (by decide) (by simp [aargs, Value.category]) ?_
  show AW l 2 yX7_isKindOrUnder cX7_isKindOrUnder 4 (some FieldType.boolean) 0 [some (.int a), some (.int w), none, none] [] M _
  refine aw_iload_n (i := 0) dX7_isKindOrUnder_0 rfl rfl ?_
  refine aw_istore_n (i := 2) dX7_isKindOrUnder_1 rfl (by decide) ?_
  refine aw_iconst (v := 0) dX7_isKindOrUnder_2 (by decide) ?_
  refine aw_istore_n (i := 3) dX7_isKindOrUnder_3 rfl (by decide) ?_
  have lp4 : ∀ k u a9, u + k = 4 → upN k a9 = -1 → undP k a9 w = undP 4 a w → AW l 2 yX7_isKindOrUnder cX7_isKindOrUnder 4 (some FieldType.boolean) 4 [some (.int a), some (.int w), some (.int a9), some (.int (nI u))] [] M (QE (some (.int (b01 (undP 4 a w)))) M) := by
    intro k
    induction k using Nat.strongRecOn with
    | _ k ih =>
    intro u a9 hk hu hK
    refine aw_iload_n (i := 3) dX7_isKindOrUnder_4 rfl rfl ?_
    refine aw_bipush (v := 7) dX7_isKindOrUnder_5 (by decide) ?_
    refine aw_top (show (7 : Int32) = nI 7 from rfl) ?_
    refine aw_icmp_geN (tgt := 31) (by omega) (by omega) dX7_isKindOrUnder_7 (by decide) (fun h7 => ?_) (fun h7 => ?_)
    ·
      exact absurd h7 (by omega)
    ·
      refine aw_iload_n (i := 2) dX7_isKindOrUnder_10 rfl rfl ?_
      refine aw_iconst (v := (-1)) dX7_isKindOrUnder_11 (by decide) ?_
      refine aw_icmp_eq (tgt := 31) dX7_isKindOrUnder_12 (by decide) (fun h12 => ?_) (fun h12 => ?_)
      ·
        refine aw_iload_n (i := 2) dX7_isKindOrUnder_31 rfl rfl ?_
        refine aw_iload_n (i := 1) dX7_isKindOrUnder_32 rfl rfl ?_
        refine aw_ternC_ne (tgt := 40) (j := 41) (v := 1) (w := 0) dX7_isKindOrUnder_33 (by decide) dX7_isKindOrUnder_36 (by decide) dX7_isKindOrUnder_37 (by decide) dX7_isKindOrUnder_40 (by decide) rfl ?_
        refine aw_top t01a ?_
        exact aw_zret rfl b01_ok dX7_isKindOrUnder_41 ⟨congrArg (fun z => some (Value.int z)) (b01_c (by rw [← hK]; exact ⟨fun q => by have q := Classical.not_not.mp q; match k with | 0 => exact q | k9 + 1 => exact Or.inl ⟨Or.inr q, q⟩, fun q => by match k, q with | 0, q => exact fun z => z q | k9 + 1, q => exact fun z => q.elim (fun q => z q.2) (fun q => q.1 (by first | exact Or.inl h12 | exact Or.inr h17))⟩)), rfl⟩
      ·
        refine aw_iload_n (i := 2) dX7_isKindOrUnder_15 rfl rfl ?_
        refine aw_iload_n (i := 1) dX7_isKindOrUnder_16 rfl rfl ?_
        refine aw_icmp_eq (tgt := 31) dX7_isKindOrUnder_17 (by decide) (fun h17 => ?_) (fun h17 => ?_)
        ·
          refine aw_iload_n (i := 2) dX7_isKindOrUnder_31 rfl rfl ?_
          refine aw_iload_n (i := 1) dX7_isKindOrUnder_32 rfl rfl ?_
          refine aw_ternC_ne (tgt := 40) (j := 41) (v := 1) (w := 0) dX7_isKindOrUnder_33 (by decide) dX7_isKindOrUnder_36 (by decide) dX7_isKindOrUnder_37 (by decide) dX7_isKindOrUnder_40 (by decide) rfl ?_
          refine aw_top t01a ?_
          exact aw_zret rfl b01_ok dX7_isKindOrUnder_41 ⟨congrArg (fun z => some (Value.int z)) (b01_c (by rw [← hK]; exact ⟨fun q => by have q := Classical.not_not.mp q; match k with | 0 => exact q | k9 + 1 => exact Or.inl ⟨Or.inr q, q⟩, fun q => by match k, q with | 0, q => exact fun z => z q | k9 + 1, q => exact fun z => q.elim (fun q => z q.2) (fun q => q.1 (by first | exact Or.inl h12 | exact Or.inr h17))⟩)), rfl⟩
        ·
          refine aw_iload_n (i := 2) dX7_isKindOrUnder_20 rfl rfl ?_
          refine aw_cSi ck_X7_340 m_X7_kindAbove (by decide) (by decide) rfl rfl (Nat.le_of_ble_eq_true rfl) dX7_isKindOrUnder_21 ?_
          refine aw_istore_n (i := 2) dX7_isKindOrUnder_24 rfl (by decide) ?_
          refine aw_iincN (i := 3) dX7_isKindOrUnder_25 rfl (by decide) ?_
          refine aw_goto (tgt := 4) dX7_isKindOrUnder_28 (by decide) ?_
          match k, ih, hk, hu, hK with
          | 0, _, _, hu, _ => exact absurd hu h12
          | k9 + 1, ih, hk, hu, hK =>
            have e9 : undP (k9 + 1) a9 w = undP k9 (aboveI a9) w := propext ⟨fun q => q.elim (fun q => absurd q.2 h17) (fun q => q.2), fun q => Or.inr ⟨fun q => q.elim h12 h17, q⟩⟩
            exact ih k9 (by omega) (u + 1) (aboveI a9) (by omega) hu (e9.symm.trans hK)
  refine aw_loc (la := [some (.int a), some (.int w), some (.int a), some (.int (nI 0))]) ⟨rfl, rfl, rfl, rfl, trivial⟩ ?_
  exact lp4 4 0 a rfl (up4 a) rfl
theorem sw6 (w : Int32) : w = 0 ∨ w = 1 ∨ w = 2 ∨ w = 3 ∨ w = 4 ∨ w = 5 ∨ ((w.toInt < 0 ∨ 5 < w.toInt) ∧ ∀ k, k < 6 → ¬ w = nI k) := by
  rcases sw_n w (n := 6) (by decide) with ⟨k, hk, rfl⟩ | h
  · rcases (show k = 0 ∨ k = 1 ∨ k = 2 ∨ k = 3 ∨ k = 4 ∨ k = 5 by omega) with rfl | rfl | rfl | rfl | rfl | rfl
    · exact Or.inl rfl
    · exact Or.inr (Or.inl rfl)
    · exact Or.inr (Or.inr (Or.inl rfl))
    · exact Or.inr (Or.inr (Or.inr (Or.inl rfl)))
    · exact Or.inr (Or.inr (Or.inr (Or.inr (Or.inl rfl))))
    · exact Or.inr (Or.inr (Or.inr (Or.inr (Or.inr (Or.inl rfl)))))
  · exact Or.inr (Or.inr (Or.inr (Or.inr (Or.inr (Or.inr ⟨by have := h.1; omega, h.2⟩)))))
theorem sw4 (w : Int32) : w = 0 ∨ w = 1 ∨ w = 2 ∨ w = 3 ∨ ((w.toInt < 0 ∨ 3 < w.toInt) ∧ ∀ k, k < 4 → ¬ w = nI k) := by
  rcases sw_n w (n := 4) (by decide) with ⟨k, hk, rfl⟩ | h
  · rcases (show k = 0 ∨ k = 1 ∨ k = 2 ∨ k = 3 by omega) with rfl | rfl | rfl | rfl
    · exact Or.inl rfl
    · exact Or.inr (Or.inl rfl)
    · exact Or.inr (Or.inr (Or.inl rfl))
    · exact Or.inr (Or.inr (Or.inr (Or.inl rfl)))
  · exact Or.inr (Or.inr (Or.inr (Or.inr ⟨by have := h.1; omega, h.2⟩)))
/-- what a word says of a person -/
noncomputable def wrdF (c : Nat) (M : Mm) (p : Nat) (w : Int32) : Int32 := pIf (w = 0) (M.1 (c + 4) p) (pIf (w = 4) (M.1 (c + 7) p) (pIf (w = 5) (M.1 (c + 9) p) (M.1 (c + 6) p)))
def S_wordOf (c n : Nat) (M : Mm) (p : Nat) (w : Int32) (v : Int32) (M' : Mm) : Prop := pIf (w = 2) (lsM c n M M' ∧ v = M'.1 (c + 12) p) (pIf (w = 3) (lsM c n M M' ∧ v = M'.1 (c + 13) p) (M' = M ∧ v = wrdF c M p w))
theorem m_X1_wordOf {l : Launch} {M : Mm} {c p : Nat} {w : Int32} (hc : isC c) (hp : p < 30) {n : Nat} (hn : M.1 c 11 = nI n) (hn30 : n ≤ 30) : AMet l 4 yX1_wordOf cX1_wordOf 3 (some FieldType.int) [.ref c, .int (nI p), .int w] M (QI (S_wordOf c n M p w)) := by
  refine AMet.of (by decide) (by simp [aargs, Value.category]) ?_
  show AW l 4 yX1_wordOf cX1_wordOf 3 (some FieldType.int) 0 [some (.ref c), some (.int (nI p)), some (.int w)] [] M _
  refine aw_iload_n (i := 2) dX1_wordOf_0 rfl rfl ?_
  rcases sw6 w with rfl | rfl | rfl | rfl | rfl | rfl | ⟨hz9, hno9⟩
  ·
    refine aw_tableIn (off := 39) (tgt := 40) dX1_wordOf_1 (by decide) (by decide) (by decide) (by decide) ?_
    refine aw_aload_n (i := 0) dX1_wordOf_40 rfl rfl ?_
    refine aw_getR gf_X1_23 (shC hc) rfl dX1_wordOf_41 ?_
    refine aw_iload_n (i := 1) dX1_wordOf_44 rfl rfl ?_
    refine aw_ialdN (shC_4 hc) (by omega) (by omega) dX1_wordOf_45 ?_
    exact aw_iret rfl dX1_wordOf_46 ⟨_, rfl, by unfold S_wordOf; (first | rw [pIf_t (show ¬ (0 : Int32) = 2 from by decide)] | rw [pIf_f (show ¬ (0 : Int32) = 2 from by decide)] | rw [pIf_f (Int32.not_lt.mpr (show ¬ (0 : Int32) = 2 from by decide))] | rw [pIf_f (Int32.not_le.mpr (show ¬ (0 : Int32) = 2 from by decide))] | rw [pIf_t (Int32.not_le.mp (show ¬ (0 : Int32) = 2 from by decide))] | rw [pIf_t (Int32.not_lt.mp (show ¬ (0 : Int32) = 2 from by decide))] | rw [pIf_f (Nat.not_lt.mpr (show ¬ (0 : Int32) = 2 from by decide))] | rw [pIf_f (Nat.not_le.mpr (show ¬ (0 : Int32) = 2 from by decide))] | rw [pIf_t (Nat.not_le.mp (show ¬ (0 : Int32) = 2 from by decide))] | rw [pIf_t (Nat.not_lt.mp (show ¬ (0 : Int32) = 2 from by decide))] | skip); (first | rw [pIf_t (show ¬ (0 : Int32) = 3 from by decide)] | rw [pIf_f (show ¬ (0 : Int32) = 3 from by decide)] | rw [pIf_f (Int32.not_lt.mpr (show ¬ (0 : Int32) = 3 from by decide))] | rw [pIf_f (Int32.not_le.mpr (show ¬ (0 : Int32) = 3 from by decide))] | rw [pIf_t (Int32.not_le.mp (show ¬ (0 : Int32) = 3 from by decide))] | rw [pIf_t (Int32.not_lt.mp (show ¬ (0 : Int32) = 3 from by decide))] | rw [pIf_f (Nat.not_lt.mpr (show ¬ (0 : Int32) = 3 from by decide))] | rw [pIf_f (Nat.not_le.mpr (show ¬ (0 : Int32) = 3 from by decide))] | rw [pIf_t (Nat.not_le.mp (show ¬ (0 : Int32) = 3 from by decide))] | rw [pIf_t (Nat.not_lt.mp (show ¬ (0 : Int32) = 3 from by decide))] | skip); exact ⟨rfl, by unfold wrdF; (first | rw [pIf_t (show ¬ (0 : Int32) = 2 from by decide)] | rw [pIf_f (show ¬ (0 : Int32) = 2 from by decide)] | rw [pIf_f (Int32.not_lt.mpr (show ¬ (0 : Int32) = 2 from by decide))] | rw [pIf_f (Int32.not_le.mpr (show ¬ (0 : Int32) = 2 from by decide))] | rw [pIf_t (Int32.not_le.mp (show ¬ (0 : Int32) = 2 from by decide))] | rw [pIf_t (Int32.not_lt.mp (show ¬ (0 : Int32) = 2 from by decide))] | rw [pIf_f (Nat.not_lt.mpr (show ¬ (0 : Int32) = 2 from by decide))] | rw [pIf_f (Nat.not_le.mpr (show ¬ (0 : Int32) = 2 from by decide))] | rw [pIf_t (Nat.not_le.mp (show ¬ (0 : Int32) = 2 from by decide))] | rw [pIf_t (Nat.not_lt.mp (show ¬ (0 : Int32) = 2 from by decide))] | skip); (first | rw [pIf_t (show ¬ (0 : Int32) = 3 from by decide)] | rw [pIf_f (show ¬ (0 : Int32) = 3 from by decide)] | rw [pIf_f (Int32.not_lt.mpr (show ¬ (0 : Int32) = 3 from by decide))] | rw [pIf_f (Int32.not_le.mpr (show ¬ (0 : Int32) = 3 from by decide))] | rw [pIf_t (Int32.not_le.mp (show ¬ (0 : Int32) = 3 from by decide))] | rw [pIf_t (Int32.not_lt.mp (show ¬ (0 : Int32) = 3 from by decide))] | rw [pIf_f (Nat.not_lt.mpr (show ¬ (0 : Int32) = 3 from by decide))] | rw [pIf_f (Nat.not_le.mpr (show ¬ (0 : Int32) = 3 from by decide))] | rw [pIf_t (Nat.not_le.mp (show ¬ (0 : Int32) = 3 from by decide))] | rw [pIf_t (Nat.not_lt.mp (show ¬ (0 : Int32) = 3 from by decide))] | skip); (first | rw [pIf_t (show (0 : Int32) = 0 from rfl)] | rw [pIf_f (show (0 : Int32) = 0 from rfl)] | rw [pIf_f (Int32.not_lt.mpr (show (0 : Int32) = 0 from rfl))] | rw [pIf_f (Int32.not_le.mpr (show (0 : Int32) = 0 from rfl))] | rw [pIf_t (Int32.not_le.mp (show (0 : Int32) = 0 from rfl))] | rw [pIf_t (Int32.not_lt.mp (show (0 : Int32) = 0 from rfl))] | rw [pIf_f (Nat.not_lt.mpr (show (0 : Int32) = 0 from rfl))] | rw [pIf_f (Nat.not_le.mpr (show (0 : Int32) = 0 from rfl))] | rw [pIf_t (Nat.not_le.mp (show (0 : Int32) = 0 from rfl))] | rw [pIf_t (Nat.not_lt.mp (show (0 : Int32) = 0 from rfl))] | skip); (first | rw [pIf_t (show ¬ (0 : Int32) = 4 from by decide)] | rw [pIf_f (show ¬ (0 : Int32) = 4 from by decide)] | rw [pIf_f (Int32.not_lt.mpr (show ¬ (0 : Int32) = 4 from by decide))] | rw [pIf_f (Int32.not_le.mpr (show ¬ (0 : Int32) = 4 from by decide))] | rw [pIf_t (Int32.not_le.mp (show ¬ (0 : Int32) = 4 from by decide))] | rw [pIf_t (Int32.not_lt.mp (show ¬ (0 : Int32) = 4 from by decide))] | rw [pIf_f (Nat.not_lt.mpr (show ¬ (0 : Int32) = 4 from by decide))] | rw [pIf_f (Nat.not_le.mpr (show ¬ (0 : Int32) = 4 from by decide))] | rw [pIf_t (Nat.not_le.mp (show ¬ (0 : Int32) = 4 from by decide))] | rw [pIf_t (Nat.not_lt.mp (show ¬ (0 : Int32) = 4 from by decide))] | skip); (first | rw [pIf_t (show ¬ (0 : Int32) = 5 from by decide)] | rw [pIf_f (show ¬ (0 : Int32) = 5 from by decide)] | rw [pIf_f (Int32.not_lt.mpr (show ¬ (0 : Int32) = 5 from by decide))] | rw [pIf_f (Int32.not_le.mpr (show ¬ (0 : Int32) = 5 from by decide))] | rw [pIf_t (Int32.not_le.mp (show ¬ (0 : Int32) = 5 from by decide))] | rw [pIf_t (Int32.not_lt.mp (show ¬ (0 : Int32) = 5 from by decide))] | rw [pIf_f (Nat.not_lt.mpr (show ¬ (0 : Int32) = 5 from by decide))] | rw [pIf_f (Nat.not_le.mpr (show ¬ (0 : Int32) = 5 from by decide))] | rw [pIf_t (Nat.not_le.mp (show ¬ (0 : Int32) = 5 from by decide))] | rw [pIf_t (Nat.not_lt.mp (show ¬ (0 : Int32) = 5 from by decide))] | skip); all_goals rfl⟩⟩
  ·
    refine aw_tableIn (off := 82) (tgt := 83) dX1_wordOf_1 (by decide) (by decide) (by decide) (by decide) ?_
    refine aw_aload_n (i := 0) dX1_wordOf_83 rfl rfl ?_
    refine aw_getR gf_X1_29 (shC hc) rfl dX1_wordOf_84 ?_
    refine aw_iload_n (i := 1) dX1_wordOf_87 rfl rfl ?_
    refine aw_ialdN (shC_6 hc) (by omega) (by omega) dX1_wordOf_88 ?_
    exact aw_iret rfl dX1_wordOf_89 ⟨_, rfl, by unfold S_wordOf; (first | rw [pIf_t (show ¬ (1 : Int32) = 2 from by decide)] | rw [pIf_f (show ¬ (1 : Int32) = 2 from by decide)] | rw [pIf_f (Int32.not_lt.mpr (show ¬ (1 : Int32) = 2 from by decide))] | rw [pIf_f (Int32.not_le.mpr (show ¬ (1 : Int32) = 2 from by decide))] | rw [pIf_t (Int32.not_le.mp (show ¬ (1 : Int32) = 2 from by decide))] | rw [pIf_t (Int32.not_lt.mp (show ¬ (1 : Int32) = 2 from by decide))] | rw [pIf_f (Nat.not_lt.mpr (show ¬ (1 : Int32) = 2 from by decide))] | rw [pIf_f (Nat.not_le.mpr (show ¬ (1 : Int32) = 2 from by decide))] | rw [pIf_t (Nat.not_le.mp (show ¬ (1 : Int32) = 2 from by decide))] | rw [pIf_t (Nat.not_lt.mp (show ¬ (1 : Int32) = 2 from by decide))] | skip); (first | rw [pIf_t (show ¬ (1 : Int32) = 3 from by decide)] | rw [pIf_f (show ¬ (1 : Int32) = 3 from by decide)] | rw [pIf_f (Int32.not_lt.mpr (show ¬ (1 : Int32) = 3 from by decide))] | rw [pIf_f (Int32.not_le.mpr (show ¬ (1 : Int32) = 3 from by decide))] | rw [pIf_t (Int32.not_le.mp (show ¬ (1 : Int32) = 3 from by decide))] | rw [pIf_t (Int32.not_lt.mp (show ¬ (1 : Int32) = 3 from by decide))] | rw [pIf_f (Nat.not_lt.mpr (show ¬ (1 : Int32) = 3 from by decide))] | rw [pIf_f (Nat.not_le.mpr (show ¬ (1 : Int32) = 3 from by decide))] | rw [pIf_t (Nat.not_le.mp (show ¬ (1 : Int32) = 3 from by decide))] | rw [pIf_t (Nat.not_lt.mp (show ¬ (1 : Int32) = 3 from by decide))] | skip); exact ⟨rfl, by unfold wrdF; (first | rw [pIf_t (show ¬ (1 : Int32) = 2 from by decide)] | rw [pIf_f (show ¬ (1 : Int32) = 2 from by decide)] | rw [pIf_f (Int32.not_lt.mpr (show ¬ (1 : Int32) = 2 from by decide))] | rw [pIf_f (Int32.not_le.mpr (show ¬ (1 : Int32) = 2 from by decide))] | rw [pIf_t (Int32.not_le.mp (show ¬ (1 : Int32) = 2 from by decide))] | rw [pIf_t (Int32.not_lt.mp (show ¬ (1 : Int32) = 2 from by decide))] | rw [pIf_f (Nat.not_lt.mpr (show ¬ (1 : Int32) = 2 from by decide))] | rw [pIf_f (Nat.not_le.mpr (show ¬ (1 : Int32) = 2 from by decide))] | rw [pIf_t (Nat.not_le.mp (show ¬ (1 : Int32) = 2 from by decide))] | rw [pIf_t (Nat.not_lt.mp (show ¬ (1 : Int32) = 2 from by decide))] | skip); (first | rw [pIf_t (show ¬ (1 : Int32) = 3 from by decide)] | rw [pIf_f (show ¬ (1 : Int32) = 3 from by decide)] | rw [pIf_f (Int32.not_lt.mpr (show ¬ (1 : Int32) = 3 from by decide))] | rw [pIf_f (Int32.not_le.mpr (show ¬ (1 : Int32) = 3 from by decide))] | rw [pIf_t (Int32.not_le.mp (show ¬ (1 : Int32) = 3 from by decide))] | rw [pIf_t (Int32.not_lt.mp (show ¬ (1 : Int32) = 3 from by decide))] | rw [pIf_f (Nat.not_lt.mpr (show ¬ (1 : Int32) = 3 from by decide))] | rw [pIf_f (Nat.not_le.mpr (show ¬ (1 : Int32) = 3 from by decide))] | rw [pIf_t (Nat.not_le.mp (show ¬ (1 : Int32) = 3 from by decide))] | rw [pIf_t (Nat.not_lt.mp (show ¬ (1 : Int32) = 3 from by decide))] | skip); (first | rw [pIf_t (show ¬ (1 : Int32) = 0 from by decide)] | rw [pIf_f (show ¬ (1 : Int32) = 0 from by decide)] | rw [pIf_f (Int32.not_lt.mpr (show ¬ (1 : Int32) = 0 from by decide))] | rw [pIf_f (Int32.not_le.mpr (show ¬ (1 : Int32) = 0 from by decide))] | rw [pIf_t (Int32.not_le.mp (show ¬ (1 : Int32) = 0 from by decide))] | rw [pIf_t (Int32.not_lt.mp (show ¬ (1 : Int32) = 0 from by decide))] | rw [pIf_f (Nat.not_lt.mpr (show ¬ (1 : Int32) = 0 from by decide))] | rw [pIf_f (Nat.not_le.mpr (show ¬ (1 : Int32) = 0 from by decide))] | rw [pIf_t (Nat.not_le.mp (show ¬ (1 : Int32) = 0 from by decide))] | rw [pIf_t (Nat.not_lt.mp (show ¬ (1 : Int32) = 0 from by decide))] | skip); (first | rw [pIf_t (show ¬ (1 : Int32) = 4 from by decide)] | rw [pIf_f (show ¬ (1 : Int32) = 4 from by decide)] | rw [pIf_f (Int32.not_lt.mpr (show ¬ (1 : Int32) = 4 from by decide))] | rw [pIf_f (Int32.not_le.mpr (show ¬ (1 : Int32) = 4 from by decide))] | rw [pIf_t (Int32.not_le.mp (show ¬ (1 : Int32) = 4 from by decide))] | rw [pIf_t (Int32.not_lt.mp (show ¬ (1 : Int32) = 4 from by decide))] | rw [pIf_f (Nat.not_lt.mpr (show ¬ (1 : Int32) = 4 from by decide))] | rw [pIf_f (Nat.not_le.mpr (show ¬ (1 : Int32) = 4 from by decide))] | rw [pIf_t (Nat.not_le.mp (show ¬ (1 : Int32) = 4 from by decide))] | rw [pIf_t (Nat.not_lt.mp (show ¬ (1 : Int32) = 4 from by decide))] | skip); (first | rw [pIf_t (show ¬ (1 : Int32) = 5 from by decide)] | rw [pIf_f (show ¬ (1 : Int32) = 5 from by decide)] | rw [pIf_f (Int32.not_lt.mpr (show ¬ (1 : Int32) = 5 from by decide))] | rw [pIf_f (Int32.not_le.mpr (show ¬ (1 : Int32) = 5 from by decide))] | rw [pIf_t (Int32.not_le.mp (show ¬ (1 : Int32) = 5 from by decide))] | rw [pIf_t (Int32.not_lt.mp (show ¬ (1 : Int32) = 5 from by decide))] | rw [pIf_f (Nat.not_lt.mpr (show ¬ (1 : Int32) = 5 from by decide))] | rw [pIf_f (Nat.not_le.mpr (show ¬ (1 : Int32) = 5 from by decide))] | rw [pIf_t (Nat.not_le.mp (show ¬ (1 : Int32) = 5 from by decide))] | rw [pIf_t (Nat.not_lt.mp (show ¬ (1 : Int32) = 5 from by decide))] | skip); all_goals rfl⟩⟩
  ·
    refine aw_tableIn (off := 46) (tgt := 47) dX1_wordOf_1 (by decide) (by decide) (by decide) (by decide) ?_
    refine aw_aload_n (i := 0) dX1_wordOf_47 rfl rfl ?_
    refine aw_cVQ ck_X1_93 (m_X1_listen hc hn hn30) (shC hc) rfl (by decide) (by decide) rfl rfl (Nat.le_of_ble_eq_true rfl) dX1_wordOf_48 (fun r M9 hq9 => ?_)
    obtain ⟨rfl, hs9⟩ := hq9
    refine aw_aload_n (i := 0) dX1_wordOf_51 rfl rfl ?_
    refine aw_getR gf_X1_63 (shC hc) rfl dX1_wordOf_52 ?_
    refine aw_iload_n (i := 1) dX1_wordOf_55 rfl rfl ?_
    refine aw_ialdN (shC_12 hc) (by omega) (by omega) dX1_wordOf_56 ?_
    exact aw_iret rfl dX1_wordOf_57 (by first | contradiction | exact ⟨_, rfl, by unfold S_wordOf; (first | rw [pIf_t (show (2 : Int32) = 2 from rfl)] | rw [pIf_f (show (2 : Int32) = 2 from rfl)] | rw [pIf_f (Int32.not_lt.mpr (show (2 : Int32) = 2 from rfl))] | rw [pIf_f (Int32.not_le.mpr (show (2 : Int32) = 2 from rfl))] | rw [pIf_t (Int32.not_le.mp (show (2 : Int32) = 2 from rfl))] | rw [pIf_t (Int32.not_lt.mp (show (2 : Int32) = 2 from rfl))] | rw [pIf_f (Nat.not_lt.mpr (show (2 : Int32) = 2 from rfl))] | rw [pIf_f (Nat.not_le.mpr (show (2 : Int32) = 2 from rfl))] | rw [pIf_t (Nat.not_le.mp (show (2 : Int32) = 2 from rfl))] | rw [pIf_t (Nat.not_lt.mp (show (2 : Int32) = 2 from rfl))] | skip); (first | rw [pIf_t (show ¬ (2 : Int32) = 3 from by decide)] | rw [pIf_f (show ¬ (2 : Int32) = 3 from by decide)] | rw [pIf_f (Int32.not_lt.mpr (show ¬ (2 : Int32) = 3 from by decide))] | rw [pIf_f (Int32.not_le.mpr (show ¬ (2 : Int32) = 3 from by decide))] | rw [pIf_t (Int32.not_le.mp (show ¬ (2 : Int32) = 3 from by decide))] | rw [pIf_t (Int32.not_lt.mp (show ¬ (2 : Int32) = 3 from by decide))] | rw [pIf_f (Nat.not_lt.mpr (show ¬ (2 : Int32) = 3 from by decide))] | rw [pIf_f (Nat.not_le.mpr (show ¬ (2 : Int32) = 3 from by decide))] | rw [pIf_t (Nat.not_le.mp (show ¬ (2 : Int32) = 3 from by decide))] | rw [pIf_t (Nat.not_lt.mp (show ¬ (2 : Int32) = 3 from by decide))] | skip); (first | rw [pIf_t (show ¬ (2 : Int32) = 0 from by decide)] | rw [pIf_f (show ¬ (2 : Int32) = 0 from by decide)] | rw [pIf_f (Int32.not_lt.mpr (show ¬ (2 : Int32) = 0 from by decide))] | rw [pIf_f (Int32.not_le.mpr (show ¬ (2 : Int32) = 0 from by decide))] | rw [pIf_t (Int32.not_le.mp (show ¬ (2 : Int32) = 0 from by decide))] | rw [pIf_t (Int32.not_lt.mp (show ¬ (2 : Int32) = 0 from by decide))] | rw [pIf_f (Nat.not_lt.mpr (show ¬ (2 : Int32) = 0 from by decide))] | rw [pIf_f (Nat.not_le.mpr (show ¬ (2 : Int32) = 0 from by decide))] | rw [pIf_t (Nat.not_le.mp (show ¬ (2 : Int32) = 0 from by decide))] | rw [pIf_t (Nat.not_lt.mp (show ¬ (2 : Int32) = 0 from by decide))] | skip); (first | rw [pIf_t (show ¬ (2 : Int32) = 4 from by decide)] | rw [pIf_f (show ¬ (2 : Int32) = 4 from by decide)] | rw [pIf_f (Int32.not_lt.mpr (show ¬ (2 : Int32) = 4 from by decide))] | rw [pIf_f (Int32.not_le.mpr (show ¬ (2 : Int32) = 4 from by decide))] | rw [pIf_t (Int32.not_le.mp (show ¬ (2 : Int32) = 4 from by decide))] | rw [pIf_t (Int32.not_lt.mp (show ¬ (2 : Int32) = 4 from by decide))] | rw [pIf_f (Nat.not_lt.mpr (show ¬ (2 : Int32) = 4 from by decide))] | rw [pIf_f (Nat.not_le.mpr (show ¬ (2 : Int32) = 4 from by decide))] | rw [pIf_t (Nat.not_le.mp (show ¬ (2 : Int32) = 4 from by decide))] | rw [pIf_t (Nat.not_lt.mp (show ¬ (2 : Int32) = 4 from by decide))] | skip); (first | rw [pIf_t (show ¬ (2 : Int32) = 5 from by decide)] | rw [pIf_f (show ¬ (2 : Int32) = 5 from by decide)] | rw [pIf_f (Int32.not_lt.mpr (show ¬ (2 : Int32) = 5 from by decide))] | rw [pIf_f (Int32.not_le.mpr (show ¬ (2 : Int32) = 5 from by decide))] | rw [pIf_t (Int32.not_le.mp (show ¬ (2 : Int32) = 5 from by decide))] | rw [pIf_t (Int32.not_lt.mp (show ¬ (2 : Int32) = 5 from by decide))] | rw [pIf_f (Nat.not_lt.mpr (show ¬ (2 : Int32) = 5 from by decide))] | rw [pIf_f (Nat.not_le.mpr (show ¬ (2 : Int32) = 5 from by decide))] | rw [pIf_t (Nat.not_le.mp (show ¬ (2 : Int32) = 5 from by decide))] | rw [pIf_t (Nat.not_lt.mp (show ¬ (2 : Int32) = 5 from by decide))] | skip); exact ⟨hs9, rfl⟩⟩)
  ·
    refine aw_tableIn (off := 57) (tgt := 58) dX1_wordOf_1 (by decide) (by decide) (by decide) (by decide) ?_
    refine aw_aload_n (i := 0) dX1_wordOf_58 rfl rfl ?_
    refine aw_cVQ ck_X1_93 (m_X1_listen hc hn hn30) (shC hc) rfl (by decide) (by decide) rfl rfl (Nat.le_of_ble_eq_true rfl) dX1_wordOf_59 (fun r M9 hq9 => ?_)
    obtain ⟨rfl, hs9⟩ := hq9
    refine aw_aload_n (i := 0) dX1_wordOf_62 rfl rfl ?_
    refine aw_getR gf_X1_66 (shC hc) rfl dX1_wordOf_63 ?_
    refine aw_iload_n (i := 1) dX1_wordOf_66 rfl rfl ?_
    refine aw_ialdN (shC_13 hc) (by omega) (by omega) dX1_wordOf_67 ?_
    exact aw_iret rfl dX1_wordOf_68 (by first | contradiction | exact ⟨_, rfl, by unfold S_wordOf; (first | rw [pIf_t (show ¬ (3 : Int32) = 2 from by decide)] | rw [pIf_f (show ¬ (3 : Int32) = 2 from by decide)] | rw [pIf_f (Int32.not_lt.mpr (show ¬ (3 : Int32) = 2 from by decide))] | rw [pIf_f (Int32.not_le.mpr (show ¬ (3 : Int32) = 2 from by decide))] | rw [pIf_t (Int32.not_le.mp (show ¬ (3 : Int32) = 2 from by decide))] | rw [pIf_t (Int32.not_lt.mp (show ¬ (3 : Int32) = 2 from by decide))] | rw [pIf_f (Nat.not_lt.mpr (show ¬ (3 : Int32) = 2 from by decide))] | rw [pIf_f (Nat.not_le.mpr (show ¬ (3 : Int32) = 2 from by decide))] | rw [pIf_t (Nat.not_le.mp (show ¬ (3 : Int32) = 2 from by decide))] | rw [pIf_t (Nat.not_lt.mp (show ¬ (3 : Int32) = 2 from by decide))] | skip); (first | rw [pIf_t (show (3 : Int32) = 3 from rfl)] | rw [pIf_f (show (3 : Int32) = 3 from rfl)] | rw [pIf_f (Int32.not_lt.mpr (show (3 : Int32) = 3 from rfl))] | rw [pIf_f (Int32.not_le.mpr (show (3 : Int32) = 3 from rfl))] | rw [pIf_t (Int32.not_le.mp (show (3 : Int32) = 3 from rfl))] | rw [pIf_t (Int32.not_lt.mp (show (3 : Int32) = 3 from rfl))] | rw [pIf_f (Nat.not_lt.mpr (show (3 : Int32) = 3 from rfl))] | rw [pIf_f (Nat.not_le.mpr (show (3 : Int32) = 3 from rfl))] | rw [pIf_t (Nat.not_le.mp (show (3 : Int32) = 3 from rfl))] | rw [pIf_t (Nat.not_lt.mp (show (3 : Int32) = 3 from rfl))] | skip); (first | rw [pIf_t (show ¬ (3 : Int32) = 0 from by decide)] | rw [pIf_f (show ¬ (3 : Int32) = 0 from by decide)] | rw [pIf_f (Int32.not_lt.mpr (show ¬ (3 : Int32) = 0 from by decide))] | rw [pIf_f (Int32.not_le.mpr (show ¬ (3 : Int32) = 0 from by decide))] | rw [pIf_t (Int32.not_le.mp (show ¬ (3 : Int32) = 0 from by decide))] | rw [pIf_t (Int32.not_lt.mp (show ¬ (3 : Int32) = 0 from by decide))] | rw [pIf_f (Nat.not_lt.mpr (show ¬ (3 : Int32) = 0 from by decide))] | rw [pIf_f (Nat.not_le.mpr (show ¬ (3 : Int32) = 0 from by decide))] | rw [pIf_t (Nat.not_le.mp (show ¬ (3 : Int32) = 0 from by decide))] | rw [pIf_t (Nat.not_lt.mp (show ¬ (3 : Int32) = 0 from by decide))] | skip); (first | rw [pIf_t (show ¬ (3 : Int32) = 4 from by decide)] | rw [pIf_f (show ¬ (3 : Int32) = 4 from by decide)] | rw [pIf_f (Int32.not_lt.mpr (show ¬ (3 : Int32) = 4 from by decide))] | rw [pIf_f (Int32.not_le.mpr (show ¬ (3 : Int32) = 4 from by decide))] | rw [pIf_t (Int32.not_le.mp (show ¬ (3 : Int32) = 4 from by decide))] | rw [pIf_t (Int32.not_lt.mp (show ¬ (3 : Int32) = 4 from by decide))] | rw [pIf_f (Nat.not_lt.mpr (show ¬ (3 : Int32) = 4 from by decide))] | rw [pIf_f (Nat.not_le.mpr (show ¬ (3 : Int32) = 4 from by decide))] | rw [pIf_t (Nat.not_le.mp (show ¬ (3 : Int32) = 4 from by decide))] | rw [pIf_t (Nat.not_lt.mp (show ¬ (3 : Int32) = 4 from by decide))] | skip); (first | rw [pIf_t (show ¬ (3 : Int32) = 5 from by decide)] | rw [pIf_f (show ¬ (3 : Int32) = 5 from by decide)] | rw [pIf_f (Int32.not_lt.mpr (show ¬ (3 : Int32) = 5 from by decide))] | rw [pIf_f (Int32.not_le.mpr (show ¬ (3 : Int32) = 5 from by decide))] | rw [pIf_t (Int32.not_le.mp (show ¬ (3 : Int32) = 5 from by decide))] | rw [pIf_t (Int32.not_lt.mp (show ¬ (3 : Int32) = 5 from by decide))] | rw [pIf_f (Nat.not_lt.mpr (show ¬ (3 : Int32) = 5 from by decide))] | rw [pIf_f (Nat.not_le.mpr (show ¬ (3 : Int32) = 5 from by decide))] | rw [pIf_t (Nat.not_le.mp (show ¬ (3 : Int32) = 5 from by decide))] | rw [pIf_t (Nat.not_lt.mp (show ¬ (3 : Int32) = 5 from by decide))] | skip); exact ⟨hs9, rfl⟩⟩)
  ·
    refine aw_tableIn (off := 68) (tgt := 69) dX1_wordOf_1 (by decide) (by decide) (by decide) (by decide) ?_
    refine aw_aload_n (i := 0) dX1_wordOf_69 rfl rfl ?_
    refine aw_getR gf_X1_32 (shC hc) rfl dX1_wordOf_70 ?_
    refine aw_iload_n (i := 1) dX1_wordOf_73 rfl rfl ?_
    refine aw_ialdN (shC_7 hc) (by omega) (by omega) dX1_wordOf_74 ?_
    exact aw_iret rfl dX1_wordOf_75 ⟨_, rfl, by unfold S_wordOf; (first | rw [pIf_t (show ¬ (4 : Int32) = 2 from by decide)] | rw [pIf_f (show ¬ (4 : Int32) = 2 from by decide)] | rw [pIf_f (Int32.not_lt.mpr (show ¬ (4 : Int32) = 2 from by decide))] | rw [pIf_f (Int32.not_le.mpr (show ¬ (4 : Int32) = 2 from by decide))] | rw [pIf_t (Int32.not_le.mp (show ¬ (4 : Int32) = 2 from by decide))] | rw [pIf_t (Int32.not_lt.mp (show ¬ (4 : Int32) = 2 from by decide))] | rw [pIf_f (Nat.not_lt.mpr (show ¬ (4 : Int32) = 2 from by decide))] | rw [pIf_f (Nat.not_le.mpr (show ¬ (4 : Int32) = 2 from by decide))] | rw [pIf_t (Nat.not_le.mp (show ¬ (4 : Int32) = 2 from by decide))] | rw [pIf_t (Nat.not_lt.mp (show ¬ (4 : Int32) = 2 from by decide))] | skip); (first | rw [pIf_t (show ¬ (4 : Int32) = 3 from by decide)] | rw [pIf_f (show ¬ (4 : Int32) = 3 from by decide)] | rw [pIf_f (Int32.not_lt.mpr (show ¬ (4 : Int32) = 3 from by decide))] | rw [pIf_f (Int32.not_le.mpr (show ¬ (4 : Int32) = 3 from by decide))] | rw [pIf_t (Int32.not_le.mp (show ¬ (4 : Int32) = 3 from by decide))] | rw [pIf_t (Int32.not_lt.mp (show ¬ (4 : Int32) = 3 from by decide))] | rw [pIf_f (Nat.not_lt.mpr (show ¬ (4 : Int32) = 3 from by decide))] | rw [pIf_f (Nat.not_le.mpr (show ¬ (4 : Int32) = 3 from by decide))] | rw [pIf_t (Nat.not_le.mp (show ¬ (4 : Int32) = 3 from by decide))] | rw [pIf_t (Nat.not_lt.mp (show ¬ (4 : Int32) = 3 from by decide))] | skip); exact ⟨rfl, by unfold wrdF; (first | rw [pIf_t (show ¬ (4 : Int32) = 2 from by decide)] | rw [pIf_f (show ¬ (4 : Int32) = 2 from by decide)] | rw [pIf_f (Int32.not_lt.mpr (show ¬ (4 : Int32) = 2 from by decide))] | rw [pIf_f (Int32.not_le.mpr (show ¬ (4 : Int32) = 2 from by decide))] | rw [pIf_t (Int32.not_le.mp (show ¬ (4 : Int32) = 2 from by decide))] | rw [pIf_t (Int32.not_lt.mp (show ¬ (4 : Int32) = 2 from by decide))] | rw [pIf_f (Nat.not_lt.mpr (show ¬ (4 : Int32) = 2 from by decide))] | rw [pIf_f (Nat.not_le.mpr (show ¬ (4 : Int32) = 2 from by decide))] | rw [pIf_t (Nat.not_le.mp (show ¬ (4 : Int32) = 2 from by decide))] | rw [pIf_t (Nat.not_lt.mp (show ¬ (4 : Int32) = 2 from by decide))] | skip); (first | rw [pIf_t (show ¬ (4 : Int32) = 3 from by decide)] | rw [pIf_f (show ¬ (4 : Int32) = 3 from by decide)] | rw [pIf_f (Int32.not_lt.mpr (show ¬ (4 : Int32) = 3 from by decide))] | rw [pIf_f (Int32.not_le.mpr (show ¬ (4 : Int32) = 3 from by decide))] | rw [pIf_t (Int32.not_le.mp (show ¬ (4 : Int32) = 3 from by decide))] | rw [pIf_t (Int32.not_lt.mp (show ¬ (4 : Int32) = 3 from by decide))] | rw [pIf_f (Nat.not_lt.mpr (show ¬ (4 : Int32) = 3 from by decide))] | rw [pIf_f (Nat.not_le.mpr (show ¬ (4 : Int32) = 3 from by decide))] | rw [pIf_t (Nat.not_le.mp (show ¬ (4 : Int32) = 3 from by decide))] | rw [pIf_t (Nat.not_lt.mp (show ¬ (4 : Int32) = 3 from by decide))] | skip); (first | rw [pIf_t (show ¬ (4 : Int32) = 0 from by decide)] | rw [pIf_f (show ¬ (4 : Int32) = 0 from by decide)] | rw [pIf_f (Int32.not_lt.mpr (show ¬ (4 : Int32) = 0 from by decide))] | rw [pIf_f (Int32.not_le.mpr (show ¬ (4 : Int32) = 0 from by decide))] | rw [pIf_t (Int32.not_le.mp (show ¬ (4 : Int32) = 0 from by decide))] | rw [pIf_t (Int32.not_lt.mp (show ¬ (4 : Int32) = 0 from by decide))] | rw [pIf_f (Nat.not_lt.mpr (show ¬ (4 : Int32) = 0 from by decide))] | rw [pIf_f (Nat.not_le.mpr (show ¬ (4 : Int32) = 0 from by decide))] | rw [pIf_t (Nat.not_le.mp (show ¬ (4 : Int32) = 0 from by decide))] | rw [pIf_t (Nat.not_lt.mp (show ¬ (4 : Int32) = 0 from by decide))] | skip); (first | rw [pIf_t (show (4 : Int32) = 4 from rfl)] | rw [pIf_f (show (4 : Int32) = 4 from rfl)] | rw [pIf_f (Int32.not_lt.mpr (show (4 : Int32) = 4 from rfl))] | rw [pIf_f (Int32.not_le.mpr (show (4 : Int32) = 4 from rfl))] | rw [pIf_t (Int32.not_le.mp (show (4 : Int32) = 4 from rfl))] | rw [pIf_t (Int32.not_lt.mp (show (4 : Int32) = 4 from rfl))] | rw [pIf_f (Nat.not_lt.mpr (show (4 : Int32) = 4 from rfl))] | rw [pIf_f (Nat.not_le.mpr (show (4 : Int32) = 4 from rfl))] | rw [pIf_t (Nat.not_le.mp (show (4 : Int32) = 4 from rfl))] | rw [pIf_t (Nat.not_lt.mp (show (4 : Int32) = 4 from rfl))] | skip); (first | rw [pIf_t (show ¬ (4 : Int32) = 5 from by decide)] | rw [pIf_f (show ¬ (4 : Int32) = 5 from by decide)] | rw [pIf_f (Int32.not_lt.mpr (show ¬ (4 : Int32) = 5 from by decide))] | rw [pIf_f (Int32.not_le.mpr (show ¬ (4 : Int32) = 5 from by decide))] | rw [pIf_t (Int32.not_le.mp (show ¬ (4 : Int32) = 5 from by decide))] | rw [pIf_t (Int32.not_lt.mp (show ¬ (4 : Int32) = 5 from by decide))] | rw [pIf_f (Nat.not_lt.mpr (show ¬ (4 : Int32) = 5 from by decide))] | rw [pIf_f (Nat.not_le.mpr (show ¬ (4 : Int32) = 5 from by decide))] | rw [pIf_t (Nat.not_le.mp (show ¬ (4 : Int32) = 5 from by decide))] | rw [pIf_t (Nat.not_lt.mp (show ¬ (4 : Int32) = 5 from by decide))] | skip); all_goals rfl⟩⟩
  ·
    refine aw_tableIn (off := 75) (tgt := 76) dX1_wordOf_1 (by decide) (by decide) (by decide) (by decide) ?_
    refine aw_aload_n (i := 0) dX1_wordOf_76 rfl rfl ?_
    refine aw_getR gf_X1_38 (shC hc) rfl dX1_wordOf_77 ?_
    refine aw_iload_n (i := 1) dX1_wordOf_80 rfl rfl ?_
    refine aw_ialdN (shC_9 hc) (by omega) (by omega) dX1_wordOf_81 ?_
    exact aw_iret rfl dX1_wordOf_82 ⟨_, rfl, by unfold S_wordOf; (first | rw [pIf_t (show ¬ (5 : Int32) = 2 from by decide)] | rw [pIf_f (show ¬ (5 : Int32) = 2 from by decide)] | rw [pIf_f (Int32.not_lt.mpr (show ¬ (5 : Int32) = 2 from by decide))] | rw [pIf_f (Int32.not_le.mpr (show ¬ (5 : Int32) = 2 from by decide))] | rw [pIf_t (Int32.not_le.mp (show ¬ (5 : Int32) = 2 from by decide))] | rw [pIf_t (Int32.not_lt.mp (show ¬ (5 : Int32) = 2 from by decide))] | rw [pIf_f (Nat.not_lt.mpr (show ¬ (5 : Int32) = 2 from by decide))] | rw [pIf_f (Nat.not_le.mpr (show ¬ (5 : Int32) = 2 from by decide))] | rw [pIf_t (Nat.not_le.mp (show ¬ (5 : Int32) = 2 from by decide))] | rw [pIf_t (Nat.not_lt.mp (show ¬ (5 : Int32) = 2 from by decide))] | skip); (first | rw [pIf_t (show ¬ (5 : Int32) = 3 from by decide)] | rw [pIf_f (show ¬ (5 : Int32) = 3 from by decide)] | rw [pIf_f (Int32.not_lt.mpr (show ¬ (5 : Int32) = 3 from by decide))] | rw [pIf_f (Int32.not_le.mpr (show ¬ (5 : Int32) = 3 from by decide))] | rw [pIf_t (Int32.not_le.mp (show ¬ (5 : Int32) = 3 from by decide))] | rw [pIf_t (Int32.not_lt.mp (show ¬ (5 : Int32) = 3 from by decide))] | rw [pIf_f (Nat.not_lt.mpr (show ¬ (5 : Int32) = 3 from by decide))] | rw [pIf_f (Nat.not_le.mpr (show ¬ (5 : Int32) = 3 from by decide))] | rw [pIf_t (Nat.not_le.mp (show ¬ (5 : Int32) = 3 from by decide))] | rw [pIf_t (Nat.not_lt.mp (show ¬ (5 : Int32) = 3 from by decide))] | skip); exact ⟨rfl, by unfold wrdF; (first | rw [pIf_t (show ¬ (5 : Int32) = 2 from by decide)] | rw [pIf_f (show ¬ (5 : Int32) = 2 from by decide)] | rw [pIf_f (Int32.not_lt.mpr (show ¬ (5 : Int32) = 2 from by decide))] | rw [pIf_f (Int32.not_le.mpr (show ¬ (5 : Int32) = 2 from by decide))] | rw [pIf_t (Int32.not_le.mp (show ¬ (5 : Int32) = 2 from by decide))] | rw [pIf_t (Int32.not_lt.mp (show ¬ (5 : Int32) = 2 from by decide))] | rw [pIf_f (Nat.not_lt.mpr (show ¬ (5 : Int32) = 2 from by decide))] | rw [pIf_f (Nat.not_le.mpr (show ¬ (5 : Int32) = 2 from by decide))] | rw [pIf_t (Nat.not_le.mp (show ¬ (5 : Int32) = 2 from by decide))] | rw [pIf_t (Nat.not_lt.mp (show ¬ (5 : Int32) = 2 from by decide))] | skip); (first | rw [pIf_t (show ¬ (5 : Int32) = 3 from by decide)] | rw [pIf_f (show ¬ (5 : Int32) = 3 from by decide)] | rw [pIf_f (Int32.not_lt.mpr (show ¬ (5 : Int32) = 3 from by decide))] | rw [pIf_f (Int32.not_le.mpr (show ¬ (5 : Int32) = 3 from by decide))] | rw [pIf_t (Int32.not_le.mp (show ¬ (5 : Int32) = 3 from by decide))] | rw [pIf_t (Int32.not_lt.mp (show ¬ (5 : Int32) = 3 from by decide))] | rw [pIf_f (Nat.not_lt.mpr (show ¬ (5 : Int32) = 3 from by decide))] | rw [pIf_f (Nat.not_le.mpr (show ¬ (5 : Int32) = 3 from by decide))] | rw [pIf_t (Nat.not_le.mp (show ¬ (5 : Int32) = 3 from by decide))] | rw [pIf_t (Nat.not_lt.mp (show ¬ (5 : Int32) = 3 from by decide))] | skip); (first | rw [pIf_t (show ¬ (5 : Int32) = 0 from by decide)] | rw [pIf_f (show ¬ (5 : Int32) = 0 from by decide)] | rw [pIf_f (Int32.not_lt.mpr (show ¬ (5 : Int32) = 0 from by decide))] | rw [pIf_f (Int32.not_le.mpr (show ¬ (5 : Int32) = 0 from by decide))] | rw [pIf_t (Int32.not_le.mp (show ¬ (5 : Int32) = 0 from by decide))] | rw [pIf_t (Int32.not_lt.mp (show ¬ (5 : Int32) = 0 from by decide))] | rw [pIf_f (Nat.not_lt.mpr (show ¬ (5 : Int32) = 0 from by decide))] | rw [pIf_f (Nat.not_le.mpr (show ¬ (5 : Int32) = 0 from by decide))] | rw [pIf_t (Nat.not_le.mp (show ¬ (5 : Int32) = 0 from by decide))] | rw [pIf_t (Nat.not_lt.mp (show ¬ (5 : Int32) = 0 from by decide))] | skip); (first | rw [pIf_t (show ¬ (5 : Int32) = 4 from by decide)] | rw [pIf_f (show ¬ (5 : Int32) = 4 from by decide)] | rw [pIf_f (Int32.not_lt.mpr (show ¬ (5 : Int32) = 4 from by decide))] | rw [pIf_f (Int32.not_le.mpr (show ¬ (5 : Int32) = 4 from by decide))] | rw [pIf_t (Int32.not_le.mp (show ¬ (5 : Int32) = 4 from by decide))] | rw [pIf_t (Int32.not_lt.mp (show ¬ (5 : Int32) = 4 from by decide))] | rw [pIf_f (Nat.not_lt.mpr (show ¬ (5 : Int32) = 4 from by decide))] | rw [pIf_f (Nat.not_le.mpr (show ¬ (5 : Int32) = 4 from by decide))] | rw [pIf_t (Nat.not_le.mp (show ¬ (5 : Int32) = 4 from by decide))] | rw [pIf_t (Nat.not_lt.mp (show ¬ (5 : Int32) = 4 from by decide))] | skip); (first | rw [pIf_t (show (5 : Int32) = 5 from rfl)] | rw [pIf_f (show (5 : Int32) = 5 from rfl)] | rw [pIf_f (Int32.not_lt.mpr (show (5 : Int32) = 5 from rfl))] | rw [pIf_f (Int32.not_le.mpr (show (5 : Int32) = 5 from rfl))] | rw [pIf_t (Int32.not_le.mp (show (5 : Int32) = 5 from rfl))] | rw [pIf_t (Int32.not_lt.mp (show (5 : Int32) = 5 from rfl))] | rw [pIf_f (Nat.not_lt.mpr (show (5 : Int32) = 5 from rfl))] | rw [pIf_f (Nat.not_le.mpr (show (5 : Int32) = 5 from rfl))] | rw [pIf_t (Nat.not_le.mp (show (5 : Int32) = 5 from rfl))] | rw [pIf_t (Nat.not_lt.mp (show (5 : Int32) = 5 from rfl))] | skip); all_goals rfl⟩⟩
  ·
    refine aw_tableOut (tgt := 83) dX1_wordOf_1 hz9 (by decide) ?_
    refine aw_aload_n (i := 0) dX1_wordOf_83 rfl rfl ?_
    refine aw_getR gf_X1_29 (shC hc) rfl dX1_wordOf_84 ?_
    refine aw_iload_n (i := 1) dX1_wordOf_87 rfl rfl ?_
    refine aw_ialdN (shC_6 hc) (by omega) (by omega) dX1_wordOf_88 ?_
    exact aw_iret rfl dX1_wordOf_89 ⟨_, rfl, by unfold S_wordOf; (first | rw [pIf_t (show ¬ w = 2 from hno9 2 (by decide))] | rw [pIf_f (show ¬ w = 2 from hno9 2 (by decide))] | rw [pIf_f (Int32.not_lt.mpr (show ¬ w = 2 from hno9 2 (by decide)))] | rw [pIf_f (Int32.not_le.mpr (show ¬ w = 2 from hno9 2 (by decide)))] | rw [pIf_t (Int32.not_le.mp (show ¬ w = 2 from hno9 2 (by decide)))] | rw [pIf_t (Int32.not_lt.mp (show ¬ w = 2 from hno9 2 (by decide)))] | rw [pIf_f (Nat.not_lt.mpr (show ¬ w = 2 from hno9 2 (by decide)))] | rw [pIf_f (Nat.not_le.mpr (show ¬ w = 2 from hno9 2 (by decide)))] | rw [pIf_t (Nat.not_le.mp (show ¬ w = 2 from hno9 2 (by decide)))] | rw [pIf_t (Nat.not_lt.mp (show ¬ w = 2 from hno9 2 (by decide)))] | skip); (first | rw [pIf_t (show ¬ w = 3 from hno9 3 (by decide))] | rw [pIf_f (show ¬ w = 3 from hno9 3 (by decide))] | rw [pIf_f (Int32.not_lt.mpr (show ¬ w = 3 from hno9 3 (by decide)))] | rw [pIf_f (Int32.not_le.mpr (show ¬ w = 3 from hno9 3 (by decide)))] | rw [pIf_t (Int32.not_le.mp (show ¬ w = 3 from hno9 3 (by decide)))] | rw [pIf_t (Int32.not_lt.mp (show ¬ w = 3 from hno9 3 (by decide)))] | rw [pIf_f (Nat.not_lt.mpr (show ¬ w = 3 from hno9 3 (by decide)))] | rw [pIf_f (Nat.not_le.mpr (show ¬ w = 3 from hno9 3 (by decide)))] | rw [pIf_t (Nat.not_le.mp (show ¬ w = 3 from hno9 3 (by decide)))] | rw [pIf_t (Nat.not_lt.mp (show ¬ w = 3 from hno9 3 (by decide)))] | skip); exact ⟨rfl, by unfold wrdF; (first | rw [pIf_t (show ¬ w = 2 from hno9 2 (by decide))] | rw [pIf_f (show ¬ w = 2 from hno9 2 (by decide))] | rw [pIf_f (Int32.not_lt.mpr (show ¬ w = 2 from hno9 2 (by decide)))] | rw [pIf_f (Int32.not_le.mpr (show ¬ w = 2 from hno9 2 (by decide)))] | rw [pIf_t (Int32.not_le.mp (show ¬ w = 2 from hno9 2 (by decide)))] | rw [pIf_t (Int32.not_lt.mp (show ¬ w = 2 from hno9 2 (by decide)))] | rw [pIf_f (Nat.not_lt.mpr (show ¬ w = 2 from hno9 2 (by decide)))] | rw [pIf_f (Nat.not_le.mpr (show ¬ w = 2 from hno9 2 (by decide)))] | rw [pIf_t (Nat.not_le.mp (show ¬ w = 2 from hno9 2 (by decide)))] | rw [pIf_t (Nat.not_lt.mp (show ¬ w = 2 from hno9 2 (by decide)))] | skip); (first | rw [pIf_t (show ¬ w = 3 from hno9 3 (by decide))] | rw [pIf_f (show ¬ w = 3 from hno9 3 (by decide))] | rw [pIf_f (Int32.not_lt.mpr (show ¬ w = 3 from hno9 3 (by decide)))] | rw [pIf_f (Int32.not_le.mpr (show ¬ w = 3 from hno9 3 (by decide)))] | rw [pIf_t (Int32.not_le.mp (show ¬ w = 3 from hno9 3 (by decide)))] | rw [pIf_t (Int32.not_lt.mp (show ¬ w = 3 from hno9 3 (by decide)))] | rw [pIf_f (Nat.not_lt.mpr (show ¬ w = 3 from hno9 3 (by decide)))] | rw [pIf_f (Nat.not_le.mpr (show ¬ w = 3 from hno9 3 (by decide)))] | rw [pIf_t (Nat.not_le.mp (show ¬ w = 3 from hno9 3 (by decide)))] | rw [pIf_t (Nat.not_lt.mp (show ¬ w = 3 from hno9 3 (by decide)))] | skip); (first | rw [pIf_t (show ¬ w = 0 from hno9 0 (by decide))] | rw [pIf_f (show ¬ w = 0 from hno9 0 (by decide))] | rw [pIf_f (Int32.not_lt.mpr (show ¬ w = 0 from hno9 0 (by decide)))] | rw [pIf_f (Int32.not_le.mpr (show ¬ w = 0 from hno9 0 (by decide)))] | rw [pIf_t (Int32.not_le.mp (show ¬ w = 0 from hno9 0 (by decide)))] | rw [pIf_t (Int32.not_lt.mp (show ¬ w = 0 from hno9 0 (by decide)))] | rw [pIf_f (Nat.not_lt.mpr (show ¬ w = 0 from hno9 0 (by decide)))] | rw [pIf_f (Nat.not_le.mpr (show ¬ w = 0 from hno9 0 (by decide)))] | rw [pIf_t (Nat.not_le.mp (show ¬ w = 0 from hno9 0 (by decide)))] | rw [pIf_t (Nat.not_lt.mp (show ¬ w = 0 from hno9 0 (by decide)))] | skip); (first | rw [pIf_t (show ¬ w = 4 from hno9 4 (by decide))] | rw [pIf_f (show ¬ w = 4 from hno9 4 (by decide))] | rw [pIf_f (Int32.not_lt.mpr (show ¬ w = 4 from hno9 4 (by decide)))] | rw [pIf_f (Int32.not_le.mpr (show ¬ w = 4 from hno9 4 (by decide)))] | rw [pIf_t (Int32.not_le.mp (show ¬ w = 4 from hno9 4 (by decide)))] | rw [pIf_t (Int32.not_lt.mp (show ¬ w = 4 from hno9 4 (by decide)))] | rw [pIf_f (Nat.not_lt.mpr (show ¬ w = 4 from hno9 4 (by decide)))] | rw [pIf_f (Nat.not_le.mpr (show ¬ w = 4 from hno9 4 (by decide)))] | rw [pIf_t (Nat.not_le.mp (show ¬ w = 4 from hno9 4 (by decide)))] | rw [pIf_t (Nat.not_lt.mp (show ¬ w = 4 from hno9 4 (by decide)))] | skip); (first | rw [pIf_t (show ¬ w = 5 from hno9 5 (by decide))] | rw [pIf_f (show ¬ w = 5 from hno9 5 (by decide))] | rw [pIf_f (Int32.not_lt.mpr (show ¬ w = 5 from hno9 5 (by decide)))] | rw [pIf_f (Int32.not_le.mpr (show ¬ w = 5 from hno9 5 (by decide)))] | rw [pIf_t (Int32.not_le.mp (show ¬ w = 5 from hno9 5 (by decide)))] | rw [pIf_t (Int32.not_lt.mp (show ¬ w = 5 from hno9 5 (by decide)))] | rw [pIf_f (Nat.not_lt.mpr (show ¬ w = 5 from hno9 5 (by decide)))] | rw [pIf_f (Nat.not_le.mpr (show ¬ w = 5 from hno9 5 (by decide)))] | rw [pIf_t (Nat.not_le.mp (show ¬ w = 5 from hno9 5 (by decide)))] | rw [pIf_t (Nat.not_lt.mp (show ¬ w = 5 from hno9 5 (by decide)))] | skip); all_goals rfl⟩⟩
def S_says (M : Mm) (n : Nat) (s w : Int32) (v : Int32) (M' : Mm) : Prop := pIf (¬ s < 0 ∧ ¬ 8 ≤ s) (pIf (¬ w < 0 ∧ ¬ 7 ≤ w) (pIf (M.1 3 s.toNatClampNeg = -1) (v = -3 ∧ M' = rfx M 2) (pIf (¬ M.1 3 s.toNatClampNeg < 0 ∧ ¬ M.1 14 11 ≤ M.1 3 s.toNatClampNeg) (pIf (undP 4 (M.1 16 (M.1 3 s.toNatClampNeg).toNatClampNeg) w) (S_wordOf 14 n M (M.1 3 s.toNatClampNeg).toNatClampNeg w v M') (v = -2 ∧ M' = rfx M 1)) (v = -2 ∧ M' = rfx M 1))) (v = -1 ∧ M' = rfx M 0)) (v = -1 ∧ M' = rfx M 0)
theorem m_X7_says {l : Launch} {M : Mm} {s w : Int32} {n : Nat} (hn : M.1 14 11 = nI n) (hn30 : n ≤ 30) : AMet l 5 yX7_says cX7_says 4 (some FieldType.int) [.ref 0, .int s, .int w] M (QI (S_says M n s w)) := by
  refine AMet.of (by decide) (by simp [aargs, Value.category]) ?_
  show AW l 5 yX7_says cX7_says 4 (some FieldType.int) 0 [some (.ref 0), some (.int s), some (.int w), none] [] M _
  refine aw_iload_n (i := 1) dX7_says_0 rfl rfl ?_
  refine aw_cSi ck_X7_82 m_X7_isShelf (by decide) (by decide) rfl rfl (Nat.le_of_ble_eq_true rfl) dX7_says_1 ?_
  refine aw_ifeq_b (tgt := 14) dX7_says_4 (by decide) (fun h4 => ?_) (fun h4 => ?_)
  ·
    refine aw_aload_n (i := 0) dX7_says_14 rfl rfl ?_
    refine aw_iconst (v := (-1)) dX7_says_15 (by decide) ?_
    refine aw_cVi ck_X7_86 (m_X7_refuse (k := 0) (by decide) (by decide)) sh_0 rfl (by decide) (by decide) rfl rfl (Nat.le_of_ble_eq_true rfl) dX7_says_16 ?_
    exact aw_iret rfl dX7_says_19 (by first | contradiction | exact ⟨_, rfl, by unfold S_says; (try rw [nI_clamp (show k < 2 ^ 31 from by omega)]); (first | rw [pIf_t h4] | rw [pIf_f h4] | rw [pIf_f (Int32.not_lt.mpr h4)] | rw [pIf_f (Int32.not_le.mpr h4)] | rw [pIf_t (Int32.not_le.mp h4)] | rw [pIf_t (Int32.not_lt.mp h4)] | rw [pIf_f (Nat.not_lt.mpr h4)] | rw [pIf_f (Nat.not_le.mpr h4)] | rw [pIf_t (Nat.not_le.mp h4)] | rw [pIf_t (Nat.not_lt.mp h4)] | skip); (try rw [nI_clamp (show k < 2 ^ 31 from by omega)]); exact ⟨rfl, rfl⟩⟩)
  ·
    obtain ⟨k, hk, rfl⟩ := shf_k h4
    refine aw_iload_n (i := 2) dX7_says_7 rfl rfl ?_
    refine aw_cSi ck_X7_127 m_X7_isKind (by decide) (by decide) rfl rfl (Nat.le_of_ble_eq_true rfl) dX7_says_8 ?_
    refine aw_ifne_b (tgt := 20) dX7_says_11 (by decide) (fun h11 => ?_) (fun h11 => ?_)
    ·
      refine aw_aload_n (i := 0) dX7_says_20 rfl rfl ?_
      refine aw_getR gf_X7_12 sh_0 rfl dX7_says_21 ?_
      refine aw_getR gf_X7_124 sh_2 rfl dX7_says_24 ?_
      refine aw_iload_n (i := 1) dX7_says_27 rfl rfl ?_
      refine aw_ialdN sh_3 (by omega) (by omega) dX7_says_28 ?_
      refine aw_istore_n (i := 3) dX7_says_29 rfl (by decide) ?_
      refine aw_iload_n (i := 3) dX7_says_30 rfl rfl ?_
      refine aw_iconst (v := (-1)) dX7_says_31 (by decide) ?_
      refine aw_icmp_ne (tgt := 42) dX7_says_32 (by decide) (fun h32 => ?_) (fun h32 => ?_)
      ·
        refine aw_aload_n (i := 0) dX7_says_42 rfl rfl ?_
        refine aw_getR gf_X7_19 sh_0 rfl dX7_says_43 ?_
        refine aw_iload_n (i := 3) dX7_says_46 rfl rfl ?_
        refine aw_cVi ck_X7_121 (m_X1_has (by simp [isC] : isC 14)) sh_14 rfl (by decide) (by decide) rfl rfl (Nat.le_of_ble_eq_true rfl) dX7_says_47 ?_
        refine aw_ifeq_b (tgt := 69) dX7_says_50 (by decide) (fun h50 => ?_) (fun h50 => ?_)
        ·
          refine aw_aload_n (i := 0) dX7_says_69 rfl rfl ?_
          refine aw_bipush (v := (-2)) dX7_says_70 (by decide) ?_
          refine aw_cVi ck_X7_86 (m_X7_refuse (k := 1) (by decide) (by decide)) sh_0 rfl (by decide) (by decide) rfl rfl (Nat.le_of_ble_eq_true rfl) dX7_says_72 ?_
          exact aw_iret rfl dX7_says_75 (by first | contradiction | exact ⟨_, rfl, by unfold S_says; (try rw [nI_clamp (show k < 2 ^ 31 from by omega)]); (first | rw [pIf_t h4] | rw [pIf_f h4] | rw [pIf_f (Int32.not_lt.mpr h4)] | rw [pIf_f (Int32.not_le.mpr h4)] | rw [pIf_t (Int32.not_le.mp h4)] | rw [pIf_t (Int32.not_lt.mp h4)] | rw [pIf_f (Nat.not_lt.mpr h4)] | rw [pIf_f (Nat.not_le.mpr h4)] | rw [pIf_t (Nat.not_le.mp h4)] | rw [pIf_t (Nat.not_lt.mp h4)] | skip); (first | rw [pIf_t h11] | rw [pIf_f h11] | rw [pIf_f (Int32.not_lt.mpr h11)] | rw [pIf_f (Int32.not_le.mpr h11)] | rw [pIf_t (Int32.not_le.mp h11)] | rw [pIf_t (Int32.not_lt.mp h11)] | rw [pIf_f (Nat.not_lt.mpr h11)] | rw [pIf_f (Nat.not_le.mpr h11)] | rw [pIf_t (Nat.not_le.mp h11)] | rw [pIf_t (Nat.not_lt.mp h11)] | skip); (first | rw [pIf_t h32] | rw [pIf_f h32] | rw [pIf_f (Int32.not_lt.mpr h32)] | rw [pIf_f (Int32.not_le.mpr h32)] | rw [pIf_t (Int32.not_le.mp h32)] | rw [pIf_t (Int32.not_lt.mp h32)] | rw [pIf_f (Nat.not_lt.mpr h32)] | rw [pIf_f (Nat.not_le.mpr h32)] | rw [pIf_t (Nat.not_le.mp h32)] | rw [pIf_t (Nat.not_lt.mp h32)] | skip); (first | rw [pIf_t h50] | rw [pIf_f h50] | rw [pIf_f (Int32.not_lt.mpr h50)] | rw [pIf_f (Int32.not_le.mpr h50)] | rw [pIf_t (Int32.not_le.mp h50)] | rw [pIf_t (Int32.not_lt.mp h50)] | rw [pIf_f (Nat.not_lt.mpr h50)] | rw [pIf_f (Nat.not_le.mpr h50)] | rw [pIf_t (Nat.not_le.mp h50)] | rw [pIf_t (Nat.not_lt.mp h50)] | skip); (try rw [nI_clamp (show k < 2 ^ 31 from by omega)]); exact ⟨rfl, rfl⟩⟩)
        ·
          obtain ⟨p, hp, hxp⟩ := hasC hn hn30 h50
          refine aw_loc (la := [some (.ref 0), some (.int (nI k)), some (.int w), some (.int (nI p))]) ⟨rfl, rfl, rfl, congrArg (fun z => some (Value.int z)) hxp, trivial⟩ ?_
          refine aw_aload_n (i := 0) dX7_says_53 rfl rfl ?_
          refine aw_getR gf_X7_19 sh_0 rfl dX7_says_54 ?_
          refine aw_getR gf_X7_130 sh_14 rfl dX7_says_57 ?_
          refine aw_iload_n (i := 3) dX7_says_60 rfl rfl ?_
          refine aw_ialdN sh_16 (by omega) (by omega) dX7_says_61 ?_
          refine aw_iload_n (i := 2) dX7_says_62 rfl rfl ?_
          refine aw_cSi ck_X7_133 m_X7_isKindOrUnder (by decide) (by decide) rfl rfl (Nat.le_of_ble_eq_true rfl) dX7_says_63 ?_
          refine aw_ifne_b (tgt := 76) dX7_says_66 (by decide) (fun h66 => ?_) (fun h66 => ?_)
          ·
            refine aw_aload_n (i := 0) dX7_says_76 rfl rfl ?_
            refine aw_getR gf_X7_19 sh_0 rfl dX7_says_77 ?_
            refine aw_iload_n (i := 3) dX7_says_80 rfl rfl ?_
            refine aw_iload_n (i := 2) dX7_says_81 rfl rfl ?_
            refine aw_cVQ ck_X7_136 (m_X1_wordOf (by simp [isC] : isC 14) (by omega) hn hn30) sh_14 rfl (by decide) (by decide) rfl rfl (Nat.le_of_ble_eq_true rfl) dX7_says_82 (fun r M9 hq9 => ?_)
            obtain ⟨v9, rfl, hS9⟩ := hq9
            exact aw_iret rfl dX7_says_85 (by first | contradiction | exact ⟨_, rfl, by unfold S_says; (try rw [nI_clamp (show k < 2 ^ 31 from by omega)]); (first | rw [pIf_t h4] | rw [pIf_f h4] | rw [pIf_f (Int32.not_lt.mpr h4)] | rw [pIf_f (Int32.not_le.mpr h4)] | rw [pIf_t (Int32.not_le.mp h4)] | rw [pIf_t (Int32.not_lt.mp h4)] | rw [pIf_f (Nat.not_lt.mpr h4)] | rw [pIf_f (Nat.not_le.mpr h4)] | rw [pIf_t (Nat.not_le.mp h4)] | rw [pIf_t (Nat.not_lt.mp h4)] | skip); (first | rw [pIf_t h11] | rw [pIf_f h11] | rw [pIf_f (Int32.not_lt.mpr h11)] | rw [pIf_f (Int32.not_le.mpr h11)] | rw [pIf_t (Int32.not_le.mp h11)] | rw [pIf_t (Int32.not_lt.mp h11)] | rw [pIf_f (Nat.not_lt.mpr h11)] | rw [pIf_f (Nat.not_le.mpr h11)] | rw [pIf_t (Nat.not_le.mp h11)] | rw [pIf_t (Nat.not_lt.mp h11)] | skip); (first | rw [pIf_t h32] | rw [pIf_f h32] | rw [pIf_f (Int32.not_lt.mpr h32)] | rw [pIf_f (Int32.not_le.mpr h32)] | rw [pIf_t (Int32.not_le.mp h32)] | rw [pIf_t (Int32.not_lt.mp h32)] | rw [pIf_f (Nat.not_lt.mpr h32)] | rw [pIf_f (Nat.not_le.mpr h32)] | rw [pIf_t (Nat.not_le.mp h32)] | rw [pIf_t (Nat.not_lt.mp h32)] | skip); (first | rw [pIf_t h50] | rw [pIf_f h50] | rw [pIf_f (Int32.not_lt.mpr h50)] | rw [pIf_f (Int32.not_le.mpr h50)] | rw [pIf_t (Int32.not_le.mp h50)] | rw [pIf_t (Int32.not_lt.mp h50)] | rw [pIf_f (Nat.not_lt.mpr h50)] | rw [pIf_f (Nat.not_le.mpr h50)] | rw [pIf_t (Nat.not_le.mp h50)] | rw [pIf_t (Nat.not_lt.mp h50)] | skip); (try rw [nI_clamp (show k < 2 ^ 31 from by omega)]); rw [hxp, nI_clamp (show p < 2 ^ 31 from by omega)]; (first | rw [pIf_t h66] | rw [pIf_f h66] | rw [pIf_f (Int32.not_lt.mpr h66)] | rw [pIf_f (Int32.not_le.mpr h66)] | rw [pIf_t (Int32.not_le.mp h66)] | rw [pIf_t (Int32.not_lt.mp h66)] | rw [pIf_f (Nat.not_lt.mpr h66)] | rw [pIf_f (Nat.not_le.mpr h66)] | rw [pIf_t (Nat.not_le.mp h66)] | rw [pIf_t (Nat.not_lt.mp h66)] | skip); exact hS9⟩)
          ·
            refine aw_aload_n (i := 0) dX7_says_69 rfl rfl ?_
            refine aw_bipush (v := (-2)) dX7_says_70 (by decide) ?_
            refine aw_cVi ck_X7_86 (m_X7_refuse (k := 1) (by decide) (by decide)) sh_0 rfl (by decide) (by decide) rfl rfl (Nat.le_of_ble_eq_true rfl) dX7_says_72 ?_
            exact aw_iret rfl dX7_says_75 (by first | contradiction | exact ⟨_, rfl, by unfold S_says; (try rw [nI_clamp (show k < 2 ^ 31 from by omega)]); (first | rw [pIf_t h4] | rw [pIf_f h4] | rw [pIf_f (Int32.not_lt.mpr h4)] | rw [pIf_f (Int32.not_le.mpr h4)] | rw [pIf_t (Int32.not_le.mp h4)] | rw [pIf_t (Int32.not_lt.mp h4)] | rw [pIf_f (Nat.not_lt.mpr h4)] | rw [pIf_f (Nat.not_le.mpr h4)] | rw [pIf_t (Nat.not_le.mp h4)] | rw [pIf_t (Nat.not_lt.mp h4)] | skip); (first | rw [pIf_t h11] | rw [pIf_f h11] | rw [pIf_f (Int32.not_lt.mpr h11)] | rw [pIf_f (Int32.not_le.mpr h11)] | rw [pIf_t (Int32.not_le.mp h11)] | rw [pIf_t (Int32.not_lt.mp h11)] | rw [pIf_f (Nat.not_lt.mpr h11)] | rw [pIf_f (Nat.not_le.mpr h11)] | rw [pIf_t (Nat.not_le.mp h11)] | rw [pIf_t (Nat.not_lt.mp h11)] | skip); (first | rw [pIf_t h32] | rw [pIf_f h32] | rw [pIf_f (Int32.not_lt.mpr h32)] | rw [pIf_f (Int32.not_le.mpr h32)] | rw [pIf_t (Int32.not_le.mp h32)] | rw [pIf_t (Int32.not_lt.mp h32)] | rw [pIf_f (Nat.not_lt.mpr h32)] | rw [pIf_f (Nat.not_le.mpr h32)] | rw [pIf_t (Nat.not_le.mp h32)] | rw [pIf_t (Nat.not_lt.mp h32)] | skip); (first | rw [pIf_t h50] | rw [pIf_f h50] | rw [pIf_f (Int32.not_lt.mpr h50)] | rw [pIf_f (Int32.not_le.mpr h50)] | rw [pIf_t (Int32.not_le.mp h50)] | rw [pIf_t (Int32.not_lt.mp h50)] | rw [pIf_f (Nat.not_lt.mpr h50)] | rw [pIf_f (Nat.not_le.mpr h50)] | rw [pIf_t (Nat.not_le.mp h50)] | rw [pIf_t (Nat.not_lt.mp h50)] | skip); (try rw [nI_clamp (show k < 2 ^ 31 from by omega)]); rw [hxp, nI_clamp (show p < 2 ^ 31 from by omega)]; (first | rw [pIf_t h66] | rw [pIf_f h66] | rw [pIf_f (Int32.not_lt.mpr h66)] | rw [pIf_f (Int32.not_le.mpr h66)] | rw [pIf_t (Int32.not_le.mp h66)] | rw [pIf_t (Int32.not_lt.mp h66)] | rw [pIf_f (Nat.not_lt.mpr h66)] | rw [pIf_f (Nat.not_le.mpr h66)] | rw [pIf_t (Nat.not_le.mp h66)] | rw [pIf_t (Nat.not_lt.mp h66)] | skip); exact ⟨rfl, rfl⟩⟩)
      ·
        refine aw_aload_n (i := 0) dX7_says_35 rfl rfl ?_
        refine aw_bipush (v := (-3)) dX7_says_36 (by decide) ?_
        refine aw_cVi ck_X7_86 (m_X7_refuse (k := 2) (by decide) (by decide)) sh_0 rfl (by decide) (by decide) rfl rfl (Nat.le_of_ble_eq_true rfl) dX7_says_38 ?_
        exact aw_iret rfl dX7_says_41 (by first | contradiction | exact ⟨_, rfl, by unfold S_says; (try rw [nI_clamp (show k < 2 ^ 31 from by omega)]); (first | rw [pIf_t h4] | rw [pIf_f h4] | rw [pIf_f (Int32.not_lt.mpr h4)] | rw [pIf_f (Int32.not_le.mpr h4)] | rw [pIf_t (Int32.not_le.mp h4)] | rw [pIf_t (Int32.not_lt.mp h4)] | rw [pIf_f (Nat.not_lt.mpr h4)] | rw [pIf_f (Nat.not_le.mpr h4)] | rw [pIf_t (Nat.not_le.mp h4)] | rw [pIf_t (Nat.not_lt.mp h4)] | skip); (first | rw [pIf_t h11] | rw [pIf_f h11] | rw [pIf_f (Int32.not_lt.mpr h11)] | rw [pIf_f (Int32.not_le.mpr h11)] | rw [pIf_t (Int32.not_le.mp h11)] | rw [pIf_t (Int32.not_lt.mp h11)] | rw [pIf_f (Nat.not_lt.mpr h11)] | rw [pIf_f (Nat.not_le.mpr h11)] | rw [pIf_t (Nat.not_le.mp h11)] | rw [pIf_t (Nat.not_lt.mp h11)] | skip); (first | rw [pIf_t h32] | rw [pIf_f h32] | rw [pIf_f (Int32.not_lt.mpr h32)] | rw [pIf_f (Int32.not_le.mpr h32)] | rw [pIf_t (Int32.not_le.mp h32)] | rw [pIf_t (Int32.not_lt.mp h32)] | rw [pIf_f (Nat.not_lt.mpr h32)] | rw [pIf_f (Nat.not_le.mpr h32)] | rw [pIf_t (Nat.not_le.mp h32)] | rw [pIf_t (Nat.not_lt.mp h32)] | skip); (try rw [nI_clamp (show k < 2 ^ 31 from by omega)]); exact ⟨rfl, rfl⟩⟩)
    ·
      refine aw_aload_n (i := 0) dX7_says_14 rfl rfl ?_
      refine aw_iconst (v := (-1)) dX7_says_15 (by decide) ?_
      refine aw_cVi ck_X7_86 (m_X7_refuse (k := 0) (by decide) (by decide)) sh_0 rfl (by decide) (by decide) rfl rfl (Nat.le_of_ble_eq_true rfl) dX7_says_16 ?_
      exact aw_iret rfl dX7_says_19 (by first | contradiction | exact ⟨_, rfl, by unfold S_says; (try rw [nI_clamp (show k < 2 ^ 31 from by omega)]); (first | rw [pIf_t h4] | rw [pIf_f h4] | rw [pIf_f (Int32.not_lt.mpr h4)] | rw [pIf_f (Int32.not_le.mpr h4)] | rw [pIf_t (Int32.not_le.mp h4)] | rw [pIf_t (Int32.not_lt.mp h4)] | rw [pIf_f (Nat.not_lt.mpr h4)] | rw [pIf_f (Nat.not_le.mpr h4)] | rw [pIf_t (Nat.not_le.mp h4)] | rw [pIf_t (Nat.not_lt.mp h4)] | skip); (first | rw [pIf_t h11] | rw [pIf_f h11] | rw [pIf_f (Int32.not_lt.mpr h11)] | rw [pIf_f (Int32.not_le.mpr h11)] | rw [pIf_t (Int32.not_le.mp h11)] | rw [pIf_t (Int32.not_lt.mp h11)] | rw [pIf_f (Nat.not_lt.mpr h11)] | rw [pIf_f (Nat.not_le.mpr h11)] | rw [pIf_t (Nat.not_le.mp h11)] | rw [pIf_t (Nat.not_lt.mp h11)] | skip); (try rw [nI_clamp (show k < 2 ^ 31 from by omega)]); exact ⟨rfl, rfl⟩⟩)
def S_person (M : Mm) (n : Nat) (k s lk pc at9 : Int32) (v : Int32) (M' : Mm) : Prop := pIf (¬ k < 0 ∧ ¬ 7 ≤ k) (pIf (¬ s < 0 ∧ ¬ 48 ≤ s) (pIf (okNew k s lk pc at9 ∧ ¬ (∃ i, i < n ∧ M.1 (14 + 3) i = s)) (pIf (n < 30) (v = nI n ∧ admQ 14 n k s lk pc at9 M M') (v = -7 ∧ M' = rfx M 6)) (v = -6 ∧ M' = rfx M 5)) (v = -1 ∧ M' = rfx M 0)) (v = -1 ∧ M' = rfx M 0)
theorem m_X7_person {l : Launch} {M : Mm} {k s lk pc at9 : Int32} {n : Nat} (hn : M.1 14 11 = nI n) (hn30 : n ≤ 30) : AMet l 3 yX7_person cX7_person 6 (some FieldType.int) [.ref 0, .int k, .int s, .int lk, .int pc, .int at9] M (QI (S_person M n k s lk pc at9)) := by
  refine AMet.of (by decide) (by simp [aargs, Value.category]) ?_
  show AW l 3 yX7_person cX7_person 6 (some FieldType.int) 0 [some (.ref 0), some (.int k), some (.int s), some (.int lk), some (.int pc), some (.int at9)] [] M _
  refine aw_iload_n (i := 1) dX7_person_0 rfl rfl ?_
  refine aw_cSi ck_X7_127 m_X7_isKind (by decide) (by decide) rfl rfl (Nat.le_of_ble_eq_true rfl) dX7_person_1 ?_
  refine aw_ifeq_b (tgt := 14) dX7_person_4 (by decide) (fun h4 => ?_) (fun h4 => ?_)
  ·
    refine aw_aload_n (i := 0) dX7_person_14 rfl rfl ?_
    refine aw_iconst (v := (-1)) dX7_person_15 (by decide) ?_
    refine aw_cVi ck_X7_86 (m_X7_refuse (k := 0) (by decide) (by decide)) sh_0 rfl (by decide) (by decide) rfl rfl (Nat.le_of_ble_eq_true rfl) dX7_person_16 ?_
    exact aw_iret rfl dX7_person_19 (by first | contradiction | exact ⟨_, rfl, by unfold S_person; (first | rw [pIf_t h4] | rw [pIf_f h4] | rw [pIf_f (Int32.not_lt.mpr h4)] | rw [pIf_f (Int32.not_le.mpr h4)] | rw [pIf_t (Int32.not_le.mp h4)] | rw [pIf_t (Int32.not_lt.mp h4)] | rw [pIf_f (Nat.not_lt.mpr h4)] | rw [pIf_f (Nat.not_le.mpr h4)] | rw [pIf_t (Nat.not_le.mp h4)] | rw [pIf_t (Nat.not_lt.mp h4)] | skip); exact ⟨rfl, rfl⟩⟩)
  ·
    refine aw_iload_n (i := 2) dX7_person_7 rfl rfl ?_
    refine aw_cSi ck_X7_139 m_X7_isSeat (by decide) (by decide) rfl rfl (Nat.le_of_ble_eq_true rfl) dX7_person_8 ?_
    refine aw_ifne_b (tgt := 20) dX7_person_11 (by decide) (fun h11 => ?_) (fun h11 => ?_)
    ·
      refine aw_aload_n (i := 0) dX7_person_20 rfl rfl ?_
      refine aw_getR gf_X7_19 sh_0 rfl dX7_person_21 ?_
      refine aw_iload_n (i := 1) dX7_person_24 rfl rfl ?_
      refine aw_iload_n (i := 2) dX7_person_25 rfl rfl ?_
      refine aw_iload_n (i := 3) dX7_person_26 rfl rfl ?_
      refine aw_iload (i := 4) dX7_person_27 rfl ?_
      refine aw_iload (i := 5) dX7_person_29 rfl ?_
      refine aw_cVi ck_X7_142 (m_X1_mayCome (by simp [isC] : isC 14) hn hn30) sh_14 rfl (by decide) (by decide) rfl rfl (Nat.le_of_ble_eq_true rfl) dX7_person_31 ?_
      refine aw_ifne_b (tgt := 44) dX7_person_34 (by decide) (fun h34 => ?_) (fun h34 => ?_)
      ·
        refine aw_aload_n (i := 0) dX7_person_44 rfl rfl ?_
        refine aw_getR gf_X7_19 sh_0 rfl dX7_person_45 ?_
        refine aw_getN (n := n) gf_X7_146 sh_14 rfl hn dX7_person_48 ?_
        refine aw_bipush (v := 30) dX7_person_51 (by decide) ?_
        refine aw_top (show (30 : Int32) = nI 30 from rfl) ?_
        refine aw_icmp_ltN (tgt := 63) (by omega) (by omega) dX7_person_53 (by decide) (fun h53 => ?_) (fun h53 => ?_)
        ·
          refine aw_aload_n (i := 0) dX7_person_63 rfl rfl ?_
          refine aw_getR gf_X7_19 sh_0 rfl dX7_person_64 ?_
          refine aw_iload_n (i := 1) dX7_person_67 rfl rfl ?_
          refine aw_iload_n (i := 2) dX7_person_68 rfl rfl ?_
          refine aw_iload_n (i := 3) dX7_person_69 rfl rfl ?_
          refine aw_iload (i := 4) dX7_person_70 rfl ?_
          refine aw_iload (i := 5) dX7_person_72 rfl ?_
          refine aw_cVQ ck_X7_149 (m_X1_admit (by simp [isC] : isC 14) hn h53) sh_14 rfl (by decide) (by decide) rfl rfl (Nat.le_of_ble_eq_true rfl) dX7_person_74 (fun r M9 hq9 => ?_)
          obtain ⟨rfl, hs9⟩ := hq9
          exact aw_iret rfl dX7_person_77 (by first | contradiction | exact ⟨_, rfl, by unfold S_person; (first | rw [pIf_t h4] | rw [pIf_f h4] | rw [pIf_f (Int32.not_lt.mpr h4)] | rw [pIf_f (Int32.not_le.mpr h4)] | rw [pIf_t (Int32.not_le.mp h4)] | rw [pIf_t (Int32.not_lt.mp h4)] | rw [pIf_f (Nat.not_lt.mpr h4)] | rw [pIf_f (Nat.not_le.mpr h4)] | rw [pIf_t (Nat.not_le.mp h4)] | rw [pIf_t (Nat.not_lt.mp h4)] | skip); (first | rw [pIf_t h11] | rw [pIf_f h11] | rw [pIf_f (Int32.not_lt.mpr h11)] | rw [pIf_f (Int32.not_le.mpr h11)] | rw [pIf_t (Int32.not_le.mp h11)] | rw [pIf_t (Int32.not_lt.mp h11)] | rw [pIf_f (Nat.not_lt.mpr h11)] | rw [pIf_f (Nat.not_le.mpr h11)] | rw [pIf_t (Nat.not_le.mp h11)] | rw [pIf_t (Nat.not_lt.mp h11)] | skip); (first | rw [pIf_t h34] | rw [pIf_f h34] | rw [pIf_f (Int32.not_lt.mpr h34)] | rw [pIf_f (Int32.not_le.mpr h34)] | rw [pIf_t (Int32.not_le.mp h34)] | rw [pIf_t (Int32.not_lt.mp h34)] | rw [pIf_f (Nat.not_lt.mpr h34)] | rw [pIf_f (Nat.not_le.mpr h34)] | rw [pIf_t (Nat.not_le.mp h34)] | rw [pIf_t (Nat.not_lt.mp h34)] | skip); (first | rw [pIf_t h53] | rw [pIf_f h53] | rw [pIf_f (Int32.not_lt.mpr h53)] | rw [pIf_f (Int32.not_le.mpr h53)] | rw [pIf_t (Int32.not_le.mp h53)] | rw [pIf_t (Int32.not_lt.mp h53)] | rw [pIf_f (Nat.not_lt.mpr h53)] | rw [pIf_f (Nat.not_le.mpr h53)] | rw [pIf_t (Nat.not_le.mp h53)] | rw [pIf_t (Nat.not_lt.mp h53)] | skip); exact ⟨rfl, hs9⟩⟩)
        ·
          refine aw_aload_n (i := 0) dX7_person_56 rfl rfl ?_
          refine aw_bipush (v := (-7)) dX7_person_57 (by decide) ?_
          refine aw_cVi ck_X7_86 (m_X7_refuse (k := 6) (by decide) (by decide)) sh_0 rfl (by decide) (by decide) rfl rfl (Nat.le_of_ble_eq_true rfl) dX7_person_59 ?_
          exact aw_iret rfl dX7_person_62 (by first | contradiction | exact ⟨_, rfl, by unfold S_person; (first | rw [pIf_t h4] | rw [pIf_f h4] | rw [pIf_f (Int32.not_lt.mpr h4)] | rw [pIf_f (Int32.not_le.mpr h4)] | rw [pIf_t (Int32.not_le.mp h4)] | rw [pIf_t (Int32.not_lt.mp h4)] | rw [pIf_f (Nat.not_lt.mpr h4)] | rw [pIf_f (Nat.not_le.mpr h4)] | rw [pIf_t (Nat.not_le.mp h4)] | rw [pIf_t (Nat.not_lt.mp h4)] | skip); (first | rw [pIf_t h11] | rw [pIf_f h11] | rw [pIf_f (Int32.not_lt.mpr h11)] | rw [pIf_f (Int32.not_le.mpr h11)] | rw [pIf_t (Int32.not_le.mp h11)] | rw [pIf_t (Int32.not_lt.mp h11)] | rw [pIf_f (Nat.not_lt.mpr h11)] | rw [pIf_f (Nat.not_le.mpr h11)] | rw [pIf_t (Nat.not_le.mp h11)] | rw [pIf_t (Nat.not_lt.mp h11)] | skip); (first | rw [pIf_t h34] | rw [pIf_f h34] | rw [pIf_f (Int32.not_lt.mpr h34)] | rw [pIf_f (Int32.not_le.mpr h34)] | rw [pIf_t (Int32.not_le.mp h34)] | rw [pIf_t (Int32.not_lt.mp h34)] | rw [pIf_f (Nat.not_lt.mpr h34)] | rw [pIf_f (Nat.not_le.mpr h34)] | rw [pIf_t (Nat.not_le.mp h34)] | rw [pIf_t (Nat.not_lt.mp h34)] | skip); (first | rw [pIf_t h53] | rw [pIf_f h53] | rw [pIf_f (Int32.not_lt.mpr h53)] | rw [pIf_f (Int32.not_le.mpr h53)] | rw [pIf_t (Int32.not_le.mp h53)] | rw [pIf_t (Int32.not_lt.mp h53)] | rw [pIf_f (Nat.not_lt.mpr h53)] | rw [pIf_f (Nat.not_le.mpr h53)] | rw [pIf_t (Nat.not_le.mp h53)] | rw [pIf_t (Nat.not_lt.mp h53)] | skip); exact ⟨rfl, rfl⟩⟩)
      ·
        refine aw_aload_n (i := 0) dX7_person_37 rfl rfl ?_
        refine aw_bipush (v := (-6)) dX7_person_38 (by decide) ?_
        refine aw_cVi ck_X7_86 (m_X7_refuse (k := 5) (by decide) (by decide)) sh_0 rfl (by decide) (by decide) rfl rfl (Nat.le_of_ble_eq_true rfl) dX7_person_40 ?_
        exact aw_iret rfl dX7_person_43 (by first | contradiction | exact ⟨_, rfl, by unfold S_person; (first | rw [pIf_t h4] | rw [pIf_f h4] | rw [pIf_f (Int32.not_lt.mpr h4)] | rw [pIf_f (Int32.not_le.mpr h4)] | rw [pIf_t (Int32.not_le.mp h4)] | rw [pIf_t (Int32.not_lt.mp h4)] | rw [pIf_f (Nat.not_lt.mpr h4)] | rw [pIf_f (Nat.not_le.mpr h4)] | rw [pIf_t (Nat.not_le.mp h4)] | rw [pIf_t (Nat.not_lt.mp h4)] | skip); (first | rw [pIf_t h11] | rw [pIf_f h11] | rw [pIf_f (Int32.not_lt.mpr h11)] | rw [pIf_f (Int32.not_le.mpr h11)] | rw [pIf_t (Int32.not_le.mp h11)] | rw [pIf_t (Int32.not_lt.mp h11)] | rw [pIf_f (Nat.not_lt.mpr h11)] | rw [pIf_f (Nat.not_le.mpr h11)] | rw [pIf_t (Nat.not_le.mp h11)] | rw [pIf_t (Nat.not_lt.mp h11)] | skip); (first | rw [pIf_t h34] | rw [pIf_f h34] | rw [pIf_f (Int32.not_lt.mpr h34)] | rw [pIf_f (Int32.not_le.mpr h34)] | rw [pIf_t (Int32.not_le.mp h34)] | rw [pIf_t (Int32.not_lt.mp h34)] | rw [pIf_f (Nat.not_lt.mpr h34)] | rw [pIf_f (Nat.not_le.mpr h34)] | rw [pIf_t (Nat.not_le.mp h34)] | rw [pIf_t (Nat.not_lt.mp h34)] | skip); exact ⟨rfl, rfl⟩⟩)
    ·
      refine aw_aload_n (i := 0) dX7_person_14 rfl rfl ?_
      refine aw_iconst (v := (-1)) dX7_person_15 (by decide) ?_
      refine aw_cVi ck_X7_86 (m_X7_refuse (k := 0) (by decide) (by decide)) sh_0 rfl (by decide) (by decide) rfl rfl (Nat.le_of_ble_eq_true rfl) dX7_person_16 ?_
      exact aw_iret rfl dX7_person_19 (by first | contradiction | exact ⟨_, rfl, by unfold S_person; (first | rw [pIf_t h4] | rw [pIf_f h4] | rw [pIf_f (Int32.not_lt.mpr h4)] | rw [pIf_f (Int32.not_le.mpr h4)] | rw [pIf_t (Int32.not_le.mp h4)] | rw [pIf_t (Int32.not_lt.mp h4)] | rw [pIf_f (Nat.not_lt.mpr h4)] | rw [pIf_f (Nat.not_le.mpr h4)] | rw [pIf_t (Nat.not_le.mp h4)] | rw [pIf_t (Nat.not_lt.mp h4)] | skip); (first | rw [pIf_t h11] | rw [pIf_f h11] | rw [pIf_f (Int32.not_lt.mpr h11)] | rw [pIf_f (Int32.not_le.mpr h11)] | rw [pIf_t (Int32.not_le.mp h11)] | rw [pIf_t (Int32.not_lt.mp h11)] | rw [pIf_f (Nat.not_lt.mpr h11)] | rw [pIf_f (Nat.not_le.mpr h11)] | rw [pIf_t (Nat.not_le.mp h11)] | rw [pIf_t (Nat.not_lt.mp h11)] | skip); exact ⟨rfl, rfl⟩⟩)
def S_move (M : Mm) (n : Nat) (x s : Int32) (v : Int32) (M' : Mm) : Prop := pIf (¬ x < 0 ∧ ¬ M.1 14 11 ≤ x) (pIf (¬ s < 0 ∧ ¬ 48 ≤ s) (pIf (∃ i, i < n ∧ M.1 (14 + 3) i = s) (v = -6 ∧ M' = rfx M 5) (v = M.1 17 x.toNatClampNeg ∧ M' = mI M 17 x.toNatClampNeg s)) (v = -1 ∧ M' = rfx M 0)) (v = -1 ∧ M' = rfx M 0)
theorem m_X7_move {l : Launch} {M : Mm} {x s : Int32} {n : Nat} (hn : M.1 14 11 = nI n) (hn30 : n ≤ 30) : AMet l 3 yX7_move cX7_move 4 (some FieldType.int) [.ref 0, .int x, .int s] M (QI (S_move M n x s)) := by
  refine AMet.of (by decide) (by simp [aargs, Value.category]) ?_
  show AW l 3 yX7_move cX7_move 4 (some FieldType.int) 0 [some (.ref 0), some (.int x), some (.int s), none] [] M _
  refine aw_aload_n (i := 0) dX7_move_0 rfl rfl ?_
  refine aw_getR gf_X7_19 sh_0 rfl dX7_move_1 ?_
  refine aw_iload_n (i := 1) dX7_move_4 rfl rfl ?_
  refine aw_cVi ck_X7_121 (m_X1_has (by simp [isC] : isC 14)) sh_14 rfl (by decide) (by decide) rfl rfl (Nat.le_of_ble_eq_true rfl) dX7_move_5 ?_
  refine aw_ifeq_b (tgt := 18) dX7_move_8 (by decide) (fun h8 => ?_) (fun h8 => ?_)
  ·
    refine aw_aload_n (i := 0) dX7_move_18 rfl rfl ?_
    refine aw_iconst (v := (-1)) dX7_move_19 (by decide) ?_
    refine aw_cVi ck_X7_86 (m_X7_refuse (k := 0) (by decide) (by decide)) sh_0 rfl (by decide) (by decide) rfl rfl (Nat.le_of_ble_eq_true rfl) dX7_move_20 ?_
    exact aw_iret rfl dX7_move_23 (by first | contradiction | exact ⟨_, rfl, by unfold S_move; (try rw [nI_clamp (show p < 2 ^ 31 from by omega)]); (first | rw [pIf_t h8] | rw [pIf_f h8] | rw [pIf_f (Int32.not_lt.mpr h8)] | rw [pIf_f (Int32.not_le.mpr h8)] | rw [pIf_t (Int32.not_le.mp h8)] | rw [pIf_t (Int32.not_lt.mp h8)] | rw [pIf_f (Nat.not_lt.mpr h8)] | rw [pIf_f (Nat.not_le.mpr h8)] | rw [pIf_t (Nat.not_le.mp h8)] | rw [pIf_t (Nat.not_lt.mp h8)] | skip); (try rw [nI_clamp (show p < 2 ^ 31 from by omega)]); exact ⟨rfl, rfl⟩⟩)
  ·
    obtain ⟨p, hp, rfl⟩ := hasC hn hn30 h8
    refine aw_iload_n (i := 2) dX7_move_11 rfl rfl ?_
    refine aw_cSi ck_X7_139 m_X7_isSeat (by decide) (by decide) rfl rfl (Nat.le_of_ble_eq_true rfl) dX7_move_12 ?_
    refine aw_ifne_b (tgt := 24) dX7_move_15 (by decide) (fun h15 => ?_) (fun h15 => ?_)
    ·
      refine aw_aload_n (i := 0) dX7_move_24 rfl rfl ?_
      refine aw_getR gf_X7_19 sh_0 rfl dX7_move_25 ?_
      refine aw_iload_n (i := 2) dX7_move_28 rfl rfl ?_
      refine aw_cVi ck_X7_163 (m_X1_isTaken (by simp [isC] : isC 14) hn hn30) sh_14 rfl (by decide) (by decide) rfl rfl (Nat.le_of_ble_eq_true rfl) dX7_move_29 ?_
      refine aw_ifeq_b (tgt := 42) dX7_move_32 (by decide) (fun h32 => ?_) (fun h32 => ?_)
      ·
        refine aw_aload_n (i := 0) dX7_move_42 rfl rfl ?_
        refine aw_getR gf_X7_19 sh_0 rfl dX7_move_43 ?_
        refine aw_getR gf_X7_166 sh_14 rfl dX7_move_46 ?_
        refine aw_iload_n (i := 1) dX7_move_49 rfl rfl ?_
        refine aw_ialdN sh_17 (by omega) (by omega) dX7_move_50 ?_
        refine aw_istore_n (i := 3) dX7_move_51 rfl (by decide) ?_
        refine aw_aload_n (i := 0) dX7_move_52 rfl rfl ?_
        refine aw_getR gf_X7_19 sh_0 rfl dX7_move_53 ?_
        refine aw_getR gf_X7_166 sh_14 rfl dX7_move_56 ?_
        refine aw_iload_n (i := 1) dX7_move_59 rfl rfl ?_
        refine aw_iload_n (i := 2) dX7_move_60 rfl rfl ?_
        refine aw_iastN sh_17 (by omega) (by omega) dX7_move_61 ?_
        refine aw_iload_n (i := 3) dX7_move_62 rfl rfl ?_
        exact aw_iret rfl dX7_move_63 (by first | contradiction | exact ⟨_, rfl, by unfold S_move; (try rw [nI_clamp (show p < 2 ^ 31 from by omega)]); (first | rw [pIf_t h8] | rw [pIf_f h8] | rw [pIf_f (Int32.not_lt.mpr h8)] | rw [pIf_f (Int32.not_le.mpr h8)] | rw [pIf_t (Int32.not_le.mp h8)] | rw [pIf_t (Int32.not_lt.mp h8)] | rw [pIf_f (Nat.not_lt.mpr h8)] | rw [pIf_f (Nat.not_le.mpr h8)] | rw [pIf_t (Nat.not_le.mp h8)] | rw [pIf_t (Nat.not_lt.mp h8)] | skip); (first | rw [pIf_t h15] | rw [pIf_f h15] | rw [pIf_f (Int32.not_lt.mpr h15)] | rw [pIf_f (Int32.not_le.mpr h15)] | rw [pIf_t (Int32.not_le.mp h15)] | rw [pIf_t (Int32.not_lt.mp h15)] | rw [pIf_f (Nat.not_lt.mpr h15)] | rw [pIf_f (Nat.not_le.mpr h15)] | rw [pIf_t (Nat.not_le.mp h15)] | rw [pIf_t (Nat.not_lt.mp h15)] | skip); (first | rw [pIf_t h32] | rw [pIf_f h32] | rw [pIf_f (Int32.not_lt.mpr h32)] | rw [pIf_f (Int32.not_le.mpr h32)] | rw [pIf_t (Int32.not_le.mp h32)] | rw [pIf_t (Int32.not_lt.mp h32)] | rw [pIf_f (Nat.not_lt.mpr h32)] | rw [pIf_f (Nat.not_le.mpr h32)] | rw [pIf_t (Nat.not_le.mp h32)] | rw [pIf_t (Nat.not_lt.mp h32)] | skip); (try rw [nI_clamp (show p < 2 ^ 31 from by omega)]); exact ⟨rfl, rfl⟩⟩)
      ·
        refine aw_aload_n (i := 0) dX7_move_35 rfl rfl ?_
        refine aw_bipush (v := (-6)) dX7_move_36 (by decide) ?_
        refine aw_cVi ck_X7_86 (m_X7_refuse (k := 5) (by decide) (by decide)) sh_0 rfl (by decide) (by decide) rfl rfl (Nat.le_of_ble_eq_true rfl) dX7_move_38 ?_
        exact aw_iret rfl dX7_move_41 (by first | contradiction | exact ⟨_, rfl, by unfold S_move; (try rw [nI_clamp (show p < 2 ^ 31 from by omega)]); (first | rw [pIf_t h8] | rw [pIf_f h8] | rw [pIf_f (Int32.not_lt.mpr h8)] | rw [pIf_f (Int32.not_le.mpr h8)] | rw [pIf_t (Int32.not_le.mp h8)] | rw [pIf_t (Int32.not_lt.mp h8)] | rw [pIf_f (Nat.not_lt.mpr h8)] | rw [pIf_f (Nat.not_le.mpr h8)] | rw [pIf_t (Nat.not_le.mp h8)] | rw [pIf_t (Nat.not_lt.mp h8)] | skip); (first | rw [pIf_t h15] | rw [pIf_f h15] | rw [pIf_f (Int32.not_lt.mpr h15)] | rw [pIf_f (Int32.not_le.mpr h15)] | rw [pIf_t (Int32.not_le.mp h15)] | rw [pIf_t (Int32.not_lt.mp h15)] | rw [pIf_f (Nat.not_lt.mpr h15)] | rw [pIf_f (Nat.not_le.mpr h15)] | rw [pIf_t (Nat.not_le.mp h15)] | rw [pIf_t (Nat.not_lt.mp h15)] | skip); (first | rw [pIf_t h32] | rw [pIf_f h32] | rw [pIf_f (Int32.not_lt.mpr h32)] | rw [pIf_f (Int32.not_le.mpr h32)] | rw [pIf_t (Int32.not_le.mp h32)] | rw [pIf_t (Int32.not_lt.mp h32)] | rw [pIf_f (Nat.not_lt.mpr h32)] | rw [pIf_f (Nat.not_le.mpr h32)] | rw [pIf_t (Nat.not_le.mp h32)] | rw [pIf_t (Nat.not_lt.mp h32)] | skip); (try rw [nI_clamp (show p < 2 ^ 31 from by omega)]); exact ⟨rfl, rfl⟩⟩)
    ·
      refine aw_aload_n (i := 0) dX7_move_18 rfl rfl ?_
      refine aw_iconst (v := (-1)) dX7_move_19 (by decide) ?_
      refine aw_cVi ck_X7_86 (m_X7_refuse (k := 0) (by decide) (by decide)) sh_0 rfl (by decide) (by decide) rfl rfl (Nat.le_of_ble_eq_true rfl) dX7_move_20 ?_
      exact aw_iret rfl dX7_move_23 (by first | contradiction | exact ⟨_, rfl, by unfold S_move; (try rw [nI_clamp (show p < 2 ^ 31 from by omega)]); (first | rw [pIf_t h8] | rw [pIf_f h8] | rw [pIf_f (Int32.not_lt.mpr h8)] | rw [pIf_f (Int32.not_le.mpr h8)] | rw [pIf_t (Int32.not_le.mp h8)] | rw [pIf_t (Int32.not_lt.mp h8)] | rw [pIf_f (Nat.not_lt.mpr h8)] | rw [pIf_f (Nat.not_le.mpr h8)] | rw [pIf_t (Nat.not_le.mp h8)] | rw [pIf_t (Nat.not_lt.mp h8)] | skip); (first | rw [pIf_t h15] | rw [pIf_f h15] | rw [pIf_f (Int32.not_lt.mpr h15)] | rw [pIf_f (Int32.not_le.mpr h15)] | rw [pIf_t (Int32.not_le.mp h15)] | rw [pIf_t (Int32.not_lt.mp h15)] | rw [pIf_f (Nat.not_lt.mpr h15)] | rw [pIf_f (Nat.not_le.mpr h15)] | rw [pIf_t (Nat.not_le.mp h15)] | rw [pIf_t (Nat.not_lt.mp h15)] | skip); (try rw [nI_clamp (show p < 2 ^ 31 from by omega)]); exact ⟨rfl, rfl⟩⟩)
def S_glove (M : Mm) (x : Int32) (g : Prop) (v : Int32) (M' : Mm) : Prop := pIf (¬ x < 0 ∧ ¬ M.1 14 11 ≤ x) (pIf (M.1 25 x.toNatClampNeg = b01 g) (v = 0 ∧ M' = M) (v = 1 ∧ M' = mI M 25 x.toNatClampNeg (b01 g))) (v = -1 ∧ M' = rfx M 0)
theorem m_X7_glove {l : Launch} {M : Mm} {x : Int32} {g : Prop} {n : Nat} (hn : M.1 14 11 = nI n) (hn30 : n ≤ 30) : AMet l 3 yX7_glove cX7_glove 4 (some FieldType.int) [.ref 0, .int x, .int (b01 g)] M (QI (S_glove M x g)) := by
  refine AMet.of (by decide) (by simp [aargs, Value.category]) ?_
  show AW l 3 yX7_glove cX7_glove 4 (some FieldType.int) 0 [some (.ref 0), some (.int x), some (.int (b01 g)), none] [] M _
  refine aw_aload_n (i := 0) dX7_glove_0 rfl rfl ?_
  refine aw_getR gf_X7_19 sh_0 rfl dX7_glove_1 ?_
  refine aw_iload_n (i := 1) dX7_glove_4 rfl rfl ?_
  refine aw_cVi ck_X7_121 (m_X1_has (by simp [isC] : isC 14)) sh_14 rfl (by decide) (by decide) rfl rfl (Nat.le_of_ble_eq_true rfl) dX7_glove_5 ?_
  refine aw_ifne_b (tgt := 17) dX7_glove_8 (by decide) (fun h8 => ?_) (fun h8 => ?_)
  ·
    obtain ⟨p, hp, rfl⟩ := hasC hn hn30 h8
    refine aw_iload_n (i := 2) dX7_glove_17 rfl rfl ?_
    refine aw_tern_eq (tgt := 25) (j := 26) (v := 1) (w := 0) dX7_glove_18 (by decide) dX7_glove_21 (by decide) dX7_glove_22 (by decide) dX7_glove_25 (by decide) rfl ?_
    refine aw_top t01c ?_
    refine aw_istore_n (i := 3) dX7_glove_26 rfl (by decide) ?_
    refine aw_aload_n (i := 0) dX7_glove_27 rfl rfl ?_
    refine aw_getR gf_X7_19 sh_0 rfl dX7_glove_28 ?_
    refine aw_getR gf_X7_178 sh_14 rfl dX7_glove_31 ?_
    refine aw_iload_n (i := 1) dX7_glove_34 rfl rfl ?_
    refine aw_ialdN sh_25 (by omega) (by omega) dX7_glove_35 ?_
    refine aw_iload_n (i := 3) dX7_glove_36 rfl rfl ?_
    refine aw_icmp_ne (tgt := 42) dX7_glove_37 (by decide) (fun h37 => ?_) (fun h37 => ?_)
    ·
      refine aw_aload_n (i := 0) dX7_glove_42 rfl rfl ?_
      refine aw_getR gf_X7_19 sh_0 rfl dX7_glove_43 ?_
      refine aw_getR gf_X7_178 sh_14 rfl dX7_glove_46 ?_
      refine aw_iload_n (i := 1) dX7_glove_49 rfl rfl ?_
      refine aw_iload_n (i := 3) dX7_glove_50 rfl rfl ?_
      refine aw_iastN sh_25 (by omega) (by omega) dX7_glove_51 ?_
      refine aw_iconst (v := 1) dX7_glove_52 (by decide) ?_
      exact aw_iret rfl dX7_glove_53 (by first | contradiction | exact ⟨_, rfl, by unfold S_glove; (try rw [nI_clamp (show p < 2 ^ 31 from by omega)]); (first | rw [pIf_t h8] | rw [pIf_f h8] | rw [pIf_f (Int32.not_lt.mpr h8)] | rw [pIf_f (Int32.not_le.mpr h8)] | rw [pIf_t (Int32.not_le.mp h8)] | rw [pIf_t (Int32.not_lt.mp h8)] | rw [pIf_f (Nat.not_lt.mpr h8)] | rw [pIf_f (Nat.not_le.mpr h8)] | rw [pIf_t (Nat.not_le.mp h8)] | rw [pIf_t (Nat.not_lt.mp h8)] | skip); (first | rw [pIf_t h37] | rw [pIf_f h37] | rw [pIf_f (Int32.not_lt.mpr h37)] | rw [pIf_f (Int32.not_le.mpr h37)] | rw [pIf_t (Int32.not_le.mp h37)] | rw [pIf_t (Int32.not_lt.mp h37)] | rw [pIf_f (Nat.not_lt.mpr h37)] | rw [pIf_f (Nat.not_le.mpr h37)] | rw [pIf_t (Nat.not_le.mp h37)] | rw [pIf_t (Nat.not_lt.mp h37)] | skip); (try rw [nI_clamp (show p < 2 ^ 31 from by omega)]); exact ⟨rfl, rfl⟩⟩)
    ·
      refine aw_iconst (v := 0) dX7_glove_40 (by decide) ?_
      exact aw_iret rfl dX7_glove_41 (by first | contradiction | exact ⟨_, rfl, by unfold S_glove; (try rw [nI_clamp (show p < 2 ^ 31 from by omega)]); (first | rw [pIf_t h8] | rw [pIf_f h8] | rw [pIf_f (Int32.not_lt.mpr h8)] | rw [pIf_f (Int32.not_le.mpr h8)] | rw [pIf_t (Int32.not_le.mp h8)] | rw [pIf_t (Int32.not_lt.mp h8)] | rw [pIf_f (Nat.not_lt.mpr h8)] | rw [pIf_f (Nat.not_le.mpr h8)] | rw [pIf_t (Nat.not_le.mp h8)] | rw [pIf_t (Nat.not_lt.mp h8)] | skip); (first | rw [pIf_t h37] | rw [pIf_f h37] | rw [pIf_f (Int32.not_lt.mpr h37)] | rw [pIf_f (Int32.not_le.mpr h37)] | rw [pIf_t (Int32.not_le.mp h37)] | rw [pIf_t (Int32.not_lt.mp h37)] | rw [pIf_f (Nat.not_lt.mpr h37)] | rw [pIf_f (Nat.not_le.mpr h37)] | rw [pIf_t (Nat.not_le.mp h37)] | rw [pIf_t (Nat.not_lt.mp h37)] | skip); (try rw [nI_clamp (show p < 2 ^ 31 from by omega)]); exact ⟨rfl, rfl⟩⟩)
  ·
    refine aw_aload_n (i := 0) dX7_glove_11 rfl rfl ?_
    refine aw_iconst (v := (-1)) dX7_glove_12 (by decide) ?_
    refine aw_cVi ck_X7_86 (m_X7_refuse (k := 0) (by decide) (by decide)) sh_0 rfl (by decide) (by decide) rfl rfl (Nat.le_of_ble_eq_true rfl) dX7_glove_13 ?_
    exact aw_iret rfl dX7_glove_16 (by first | contradiction | exact ⟨_, rfl, by unfold S_glove; (try rw [nI_clamp (show p < 2 ^ 31 from by omega)]); (first | rw [pIf_t h8] | rw [pIf_f h8] | rw [pIf_f (Int32.not_lt.mpr h8)] | rw [pIf_f (Int32.not_le.mpr h8)] | rw [pIf_t (Int32.not_le.mp h8)] | rw [pIf_t (Int32.not_lt.mp h8)] | rw [pIf_f (Nat.not_lt.mpr h8)] | rw [pIf_f (Nat.not_le.mpr h8)] | rw [pIf_t (Nat.not_le.mp h8)] | rw [pIf_t (Nat.not_lt.mp h8)] | skip); (try rw [nI_clamp (show p < 2 ^ 31 from by omega)]); exact ⟨rfl, rfl⟩⟩)
theorem m_X7_fault {l : Launch} {M : Mm} : AMet l 1 yX7_fault cX7_fault 1 (some FieldType.int) [.ref 0] M (QE (some (.int (M.1 0 9))) M) := by
  refine AMet.of (by decide) (by simp [aargs, Value.category]) ?_
  show AW l 1 yX7_fault cX7_fault 1 (some FieldType.int) 0 [some (.ref 0)] [] M _
  refine aw_aload_n (i := 0) dX7_fault_0 rfl rfl ?_
  refine aw_getI gf_X7_65 sh_0 rfl dX7_fault_1 ?_
  exact aw_iret rfl dX7_fault_4 ⟨rfl, rfl⟩
def S_law (M : Mm) (cnt : Nat) (l9 i : Int32) (v : Int32) (M' : Mm) : Prop := pIf (¬ l9 < 0 ∧ ¬ M.1 78 1 ≤ l9) (pIf (i < 0) (v = -5 ∧ M' = rfx M 4) (pIf (i < 7) (v = M.1 (lawRow 78 cnt l9) i.toNatClampNeg ∧ M' = M) (v = -5 ∧ M' = rfx M 4))) (v = -5 ∧ M' = rfx M 4)
theorem m_X7_law {l : Launch} {M : Mm} {l9 i : Int32} {cnt : Nat} (hcn : M.1 78 1 = nI cnt) (hc6 : cnt ≤ 6) : AMet l 3 yX7_law cX7_law 3 (some FieldType.int) [.ref 0, .int l9, .int i] M (QI (S_law M cnt l9 i)) := by
  refine AMet.of (by decide) (by simp [aargs, Value.category]) ?_
  show AW l 3 yX7_law cX7_law 3 (some FieldType.int) 0 [some (.ref 0), some (.int l9), some (.int i)] [] M _
  refine aw_aload_n (i := 0) dX7_law_0 rfl rfl ?_
  refine aw_getR gf_X7_26 sh_0 rfl dX7_law_1 ?_
  refine aw_iload_n (i := 1) dX7_law_4 rfl rfl ?_
  refine aw_cVi ck_X7_193 (m_X3_has (by simp [isB] : isB 78)) sh_78 rfl (by decide) (by decide) rfl rfl (Nat.le_of_ble_eq_true rfl) dX7_law_5 ?_
  refine aw_ifeq_b (tgt := 21) dX7_law_8 (by decide) (fun h8 => ?_) (fun h8 => ?_)
  ·
    refine aw_aload_n (i := 0) dX7_law_21 rfl rfl ?_
    refine aw_bipush (v := (-5)) dX7_law_22 (by decide) ?_
    refine aw_cVi ck_X7_86 (m_X7_refuse (k := 4) (by decide) (by decide)) sh_0 rfl (by decide) (by decide) rfl rfl (Nat.le_of_ble_eq_true rfl) dX7_law_24 ?_
    exact aw_iret rfl dX7_law_27 (by first | contradiction | exact ⟨_, rfl, by unfold S_law; (try rw [nI_clamp (show j < 2 ^ 31 from by omega)]); (first | rw [pIf_t h8] | rw [pIf_f h8] | rw [pIf_f (Int32.not_lt.mpr h8)] | rw [pIf_f (Int32.not_le.mpr h8)] | rw [pIf_t (Int32.not_le.mp h8)] | rw [pIf_t (Int32.not_lt.mp h8)] | rw [pIf_f (Nat.not_lt.mpr h8)] | rw [pIf_f (Nat.not_le.mpr h8)] | rw [pIf_t (Nat.not_le.mp h8)] | rw [pIf_t (Nat.not_lt.mp h8)] | skip); (try rw [nI_clamp (show j < 2 ^ 31 from by omega)]); exact ⟨rfl, rfl⟩⟩)
  ·
    refine aw_iload_n (i := 2) dX7_law_11 rfl rfl ?_
    refine aw_if_lt (tgt := 21) dX7_law_12 (by decide) (fun h12 => ?_) (fun h12 => ?_)
    ·
      refine aw_aload_n (i := 0) dX7_law_21 rfl rfl ?_
      refine aw_bipush (v := (-5)) dX7_law_22 (by decide) ?_
      refine aw_cVi ck_X7_86 (m_X7_refuse (k := 4) (by decide) (by decide)) sh_0 rfl (by decide) (by decide) rfl rfl (Nat.le_of_ble_eq_true rfl) dX7_law_24 ?_
      exact aw_iret rfl dX7_law_27 (by first | contradiction | exact ⟨_, rfl, by unfold S_law; (try rw [nI_clamp (show j < 2 ^ 31 from by omega)]); (first | rw [pIf_t h8] | rw [pIf_f h8] | rw [pIf_f (Int32.not_lt.mpr h8)] | rw [pIf_f (Int32.not_le.mpr h8)] | rw [pIf_t (Int32.not_le.mp h8)] | rw [pIf_t (Int32.not_lt.mp h8)] | rw [pIf_f (Nat.not_lt.mpr h8)] | rw [pIf_f (Nat.not_le.mpr h8)] | rw [pIf_t (Nat.not_le.mp h8)] | rw [pIf_t (Nat.not_lt.mp h8)] | skip); (first | rw [pIf_t h12] | rw [pIf_f h12] | rw [pIf_f (Int32.not_lt.mpr h12)] | rw [pIf_f (Int32.not_le.mpr h12)] | rw [pIf_t (Int32.not_le.mp h12)] | rw [pIf_t (Int32.not_lt.mp h12)] | rw [pIf_f (Nat.not_lt.mpr h12)] | rw [pIf_f (Nat.not_le.mpr h12)] | rw [pIf_t (Nat.not_le.mp h12)] | rw [pIf_t (Nat.not_lt.mp h12)] | skip); (try rw [nI_clamp (show j < 2 ^ 31 from by omega)]); exact ⟨rfl, rfl⟩⟩)
    ·
      refine aw_iload_n (i := 2) dX7_law_15 rfl rfl ?_
      refine aw_bipush (v := 7) dX7_law_16 (by decide) ?_
      refine aw_icmp_lt (tgt := 28) dX7_law_18 (by decide) (fun h18 => ?_) (fun h18 => ?_)
      ·
        obtain ⟨j, hj, rfl⟩ : ∃ j, j < 7 ∧ i = nI j := by
          rcases pk_ix i (n := 7) (by decide) with q | q | q
          · exact absurd q h12
          · exact absurd h18 (Int32.not_lt.mpr q)
          · exact q
        refine aw_aload_n (i := 0) dX7_law_28 rfl rfl ?_
        refine aw_getR gf_X7_26 sh_0 rfl dX7_law_29 ?_
        refine aw_iload_n (i := 1) dX7_law_32 rfl rfl ?_
        refine aw_cVr ck_X7_194 (m_X3_numbersOf (by simp [isB] : isB 78) hcn hc6) sh_78 rfl (by decide) (by decide) rfl rfl (Nat.le_of_ble_eq_true rfl) dX7_law_33 ?_
        refine aw_iload_n (i := 2) dX7_law_36 rfl rfl ?_
        refine aw_ialdN (shLR (by simp [isB] : isB 78) hc6) (by omega) (by omega) dX7_law_37 ?_
        exact aw_iret rfl dX7_law_38 (by first | contradiction | exact ⟨_, rfl, by unfold S_law; (try rw [nI_clamp (show j < 2 ^ 31 from by omega)]); (first | rw [pIf_t h8] | rw [pIf_f h8] | rw [pIf_f (Int32.not_lt.mpr h8)] | rw [pIf_f (Int32.not_le.mpr h8)] | rw [pIf_t (Int32.not_le.mp h8)] | rw [pIf_t (Int32.not_lt.mp h8)] | rw [pIf_f (Nat.not_lt.mpr h8)] | rw [pIf_f (Nat.not_le.mpr h8)] | rw [pIf_t (Nat.not_le.mp h8)] | rw [pIf_t (Nat.not_lt.mp h8)] | skip); (first | rw [pIf_t h12] | rw [pIf_f h12] | rw [pIf_f (Int32.not_lt.mpr h12)] | rw [pIf_f (Int32.not_le.mpr h12)] | rw [pIf_t (Int32.not_le.mp h12)] | rw [pIf_t (Int32.not_lt.mp h12)] | rw [pIf_f (Nat.not_lt.mpr h12)] | rw [pIf_f (Nat.not_le.mpr h12)] | rw [pIf_t (Nat.not_le.mp h12)] | rw [pIf_t (Nat.not_lt.mp h12)] | skip); (first | rw [pIf_t h18] | rw [pIf_f h18] | rw [pIf_f (Int32.not_lt.mpr h18)] | rw [pIf_f (Int32.not_le.mpr h18)] | rw [pIf_t (Int32.not_le.mp h18)] | rw [pIf_t (Int32.not_lt.mp h18)] | rw [pIf_f (Nat.not_lt.mpr h18)] | rw [pIf_f (Nat.not_le.mpr h18)] | rw [pIf_t (Nat.not_le.mp h18)] | rw [pIf_t (Nat.not_lt.mp h18)] | skip); (try rw [nI_clamp (show j < 2 ^ 31 from by omega)]); exact ⟨rfl, rfl⟩⟩)
      ·
        refine aw_aload_n (i := 0) dX7_law_21 rfl rfl ?_
        refine aw_bipush (v := (-5)) dX7_law_22 (by decide) ?_
        refine aw_cVi ck_X7_86 (m_X7_refuse (k := 4) (by decide) (by decide)) sh_0 rfl (by decide) (by decide) rfl rfl (Nat.le_of_ble_eq_true rfl) dX7_law_24 ?_
        exact aw_iret rfl dX7_law_27 (by first | contradiction | exact ⟨_, rfl, by unfold S_law; (try rw [nI_clamp (show j < 2 ^ 31 from by omega)]); (first | rw [pIf_t h8] | rw [pIf_f h8] | rw [pIf_f (Int32.not_lt.mpr h8)] | rw [pIf_f (Int32.not_le.mpr h8)] | rw [pIf_t (Int32.not_le.mp h8)] | rw [pIf_t (Int32.not_lt.mp h8)] | rw [pIf_f (Nat.not_lt.mpr h8)] | rw [pIf_f (Nat.not_le.mpr h8)] | rw [pIf_t (Nat.not_le.mp h8)] | rw [pIf_t (Nat.not_lt.mp h8)] | skip); (first | rw [pIf_t h12] | rw [pIf_f h12] | rw [pIf_f (Int32.not_lt.mpr h12)] | rw [pIf_f (Int32.not_le.mpr h12)] | rw [pIf_t (Int32.not_le.mp h12)] | rw [pIf_t (Int32.not_lt.mp h12)] | rw [pIf_f (Nat.not_lt.mpr h12)] | rw [pIf_f (Nat.not_le.mpr h12)] | rw [pIf_t (Nat.not_le.mp h12)] | rw [pIf_t (Nat.not_lt.mp h12)] | skip); (first | rw [pIf_t h18] | rw [pIf_f h18] | rw [pIf_f (Int32.not_lt.mpr h18)] | rw [pIf_f (Int32.not_le.mpr h18)] | rw [pIf_t (Int32.not_le.mp h18)] | rw [pIf_t (Int32.not_lt.mp h18)] | rw [pIf_f (Nat.not_lt.mpr h18)] | rw [pIf_f (Nat.not_le.mpr h18)] | rw [pIf_t (Nat.not_le.mp h18)] | rw [pIf_t (Nat.not_lt.mp h18)] | skip); (try rw [nI_clamp (show j < 2 ^ 31 from by omega)]); exact ⟨rfl, rfl⟩⟩)
def S_force (M : Mm) (l9 : Int32) (v : Int32) (M' : Mm) : Prop := pIf (l9 = -1 ∨ (¬ l9 < 0 ∧ ¬ M.1 78 1 ≤ l9)) (v = M.1 78 2 ∧ M' = mI M 78 2 l9) (v = -11 ∧ M' = rfx M 0)
theorem m_X7_force {l : Launch} {M : Mm} {l9 : Int32} : AMet l 3 yX7_force cX7_force 3 (some FieldType.int) [.ref 0, .int l9] M (QI (S_force M l9)) := by
  refine AMet.of (by decide) (by simp [aargs, Value.category]) ?_
  show AW l 3 yX7_force cX7_force 3 (some FieldType.int) 0 [some (.ref 0), some (.int l9), none] [] M _
  refine aw_aload_n (i := 0) dX7_force_0 rfl rfl ?_
  refine aw_getR gf_X7_26 sh_0 rfl dX7_force_1 ?_
  refine aw_iload_n (i := 1) dX7_force_4 rfl rfl ?_
  refine aw_cVi ck_X7_198 (m_X3_hasOrNone (by simp [isB] : isB 78)) sh_78 rfl (by decide) (by decide) rfl rfl (Nat.le_of_ble_eq_true rfl) dX7_force_5 ?_
  refine aw_ifne_b (tgt := 18) dX7_force_8 (by decide) (fun h8 => ?_) (fun h8 => ?_)
  ·
    refine aw_aload_n (i := 0) dX7_force_18 rfl rfl ?_
    refine aw_getR gf_X7_26 sh_0 rfl dX7_force_19 ?_
    refine aw_getI gf_X7_201 sh_78 rfl dX7_force_22 ?_
    refine aw_istore_n (i := 2) dX7_force_25 rfl (by decide) ?_
    refine aw_aload_n (i := 0) dX7_force_26 rfl rfl ?_
    refine aw_getR gf_X7_26 sh_0 rfl dX7_force_27 ?_
    refine aw_iload_n (i := 1) dX7_force_30 rfl rfl ?_
    refine aw_putI pf_X7_201 sh_78 rfl dX7_force_31 ?_
    refine aw_iload_n (i := 2) dX7_force_34 rfl rfl ?_
    exact aw_iret rfl dX7_force_35 (by first | contradiction | exact ⟨_, rfl, by unfold S_force; (try rw [nI_clamp (show k < 2 ^ 31 from by omega)]); (try rw [nI_clamp (show j < 2 ^ 31 from by omega)]); (first | rw [pIf_t h8] | rw [pIf_f h8] | rw [pIf_f (Int32.not_lt.mpr h8)] | rw [pIf_f (Int32.not_le.mpr h8)] | rw [pIf_t (Int32.not_le.mp h8)] | rw [pIf_t (Int32.not_lt.mp h8)] | rw [pIf_f (Nat.not_lt.mpr h8)] | rw [pIf_f (Nat.not_le.mpr h8)] | rw [pIf_t (Nat.not_le.mp h8)] | rw [pIf_t (Nat.not_lt.mp h8)] | skip); (try rw [nI_clamp (show k < 2 ^ 31 from by omega)]); (try rw [nI_clamp (show j < 2 ^ 31 from by omega)]); exact ⟨rfl, rfl⟩⟩)
  ·
    refine aw_aload_n (i := 0) dX7_force_11 rfl rfl ?_
    refine aw_bipush (v := (-11)) dX7_force_12 (by decide) ?_
    refine aw_cVi ck_X7_86 (m_X7_refuse (k := 0) (by decide) (by decide)) sh_0 rfl (by decide) (by decide) rfl rfl (Nat.le_of_ble_eq_true rfl) dX7_force_14 ?_
    exact aw_iret rfl dX7_force_17 (by first | contradiction | exact ⟨_, rfl, by unfold S_force; (try rw [nI_clamp (show k < 2 ^ 31 from by omega)]); (try rw [nI_clamp (show j < 2 ^ 31 from by omega)]); (first | rw [pIf_t h8] | rw [pIf_f h8] | rw [pIf_f (Int32.not_lt.mpr h8)] | rw [pIf_f (Int32.not_le.mpr h8)] | rw [pIf_t (Int32.not_le.mp h8)] | rw [pIf_t (Int32.not_lt.mp h8)] | rw [pIf_f (Nat.not_lt.mpr h8)] | rw [pIf_f (Nat.not_le.mpr h8)] | rw [pIf_t (Nat.not_le.mp h8)] | rw [pIf_t (Nat.not_lt.mp h8)] | skip); (try rw [nI_clamp (show k < 2 ^ 31 from by omega)]); (try rw [nI_clamp (show j < 2 ^ 31 from by omega)]); exact ⟨rfl, rfl⟩⟩)
def S_seed (M : Mm) (x : Int32) (v : Int32) (M' : Mm) : Prop := v = M.1 14 13 ∧ M' = mI M 14 13 x
theorem m_X7_seed {l : Launch} {M : Mm} {x : Int32} : AMet l 3 yX7_seed cX7_seed 3 (some FieldType.int) [.ref 0, .int x] M (QI (S_seed M x)) := by
  refine AMet.of (by decide) (by simp [aargs, Value.category]) ?_
  show AW l 3 yX7_seed cX7_seed 3 (some FieldType.int) 0 [some (.ref 0), some (.int x), none] [] M _
  refine aw_aload_n (i := 0) dX7_seed_0 rfl rfl ?_
  refine aw_getR gf_X7_19 sh_0 rfl dX7_seed_1 ?_
  refine aw_getI gf_X7_204 sh_14 rfl dX7_seed_4 ?_
  refine aw_istore_n (i := 2) dX7_seed_7 rfl (by decide) ?_
  refine aw_aload_n (i := 0) dX7_seed_8 rfl rfl ?_
  refine aw_getR gf_X7_19 sh_0 rfl dX7_seed_9 ?_
  refine aw_iload_n (i := 1) dX7_seed_12 rfl rfl ?_
  refine aw_putI pf_X7_204 sh_14 rfl dX7_seed_13 ?_
  refine aw_iload_n (i := 2) dX7_seed_16 rfl rfl ?_
  exact aw_iret rfl dX7_seed_17 (by first | contradiction | exact ⟨_, rfl, by unfold S_seed; (try rw [nI_clamp (show k < 2 ^ 31 from by omega)]); (try rw [nI_clamp (show j < 2 ^ 31 from by omega)]); (try rw [nI_clamp (show k < 2 ^ 31 from by omega)]); (try rw [nI_clamp (show j < 2 ^ 31 from by omega)]); exact ⟨rfl, rfl⟩⟩)
def S_begin (M : Mm) (x : Int32) (v : Int32) (M' : Mm) : Prop := pIf (¬ x < 0 ∧ ¬ M.1 14 11 ≤ x) (pIf (M.1 22 x.toNatClampNeg = 0) (v = 1 ∧ M' = mI (mI M 22 x.toNatClampNeg 1) 23 x.toNatClampNeg 0) (v = -6 ∧ M' = rfx M 5)) (v = -1 ∧ M' = rfx M 0)
theorem m_X7_begin {l : Launch} {M : Mm} {x : Int32} {n : Nat} (hn : M.1 14 11 = nI n) (hn30 : n ≤ 30) : AMet l 3 yX7_begin cX7_begin 2 (some FieldType.int) [.ref 0, .int x] M (QI (S_begin M x)) := by
  refine AMet.of (by decide) (by simp [aargs, Value.category]) ?_
  show AW l 3 yX7_begin cX7_begin 2 (some FieldType.int) 0 [some (.ref 0), some (.int x)] [] M _
  refine aw_aload_n (i := 0) dX7_begin_0 rfl rfl ?_
  refine aw_getR gf_X7_19 sh_0 rfl dX7_begin_1 ?_
  refine aw_iload_n (i := 1) dX7_begin_4 rfl rfl ?_
  refine aw_cVi ck_X7_121 (m_X1_has (by simp [isC] : isC 14)) sh_14 rfl (by decide) (by decide) rfl rfl (Nat.le_of_ble_eq_true rfl) dX7_begin_5 ?_
  refine aw_ifne_b (tgt := 17) dX7_begin_8 (by decide) (fun h8 => ?_) (fun h8 => ?_)
  ·
    obtain ⟨p, hp, rfl⟩ := hasC hn hn30 h8
    refine aw_aload_n (i := 0) dX7_begin_17 rfl rfl ?_
    refine aw_getR gf_X7_19 sh_0 rfl dX7_begin_18 ?_
    refine aw_getR gf_X7_221 sh_14 rfl dX7_begin_21 ?_
    refine aw_iload_n (i := 1) dX7_begin_24 rfl rfl ?_
    refine aw_ialdN sh_22 (by omega) (by omega) dX7_begin_25 ?_
    refine aw_if_eq (tgt := 36) dX7_begin_26 (by decide) (fun h26 => ?_) (fun h26 => ?_)
    ·
      refine aw_aload_n (i := 0) dX7_begin_36 rfl rfl ?_
      refine aw_getR gf_X7_19 sh_0 rfl dX7_begin_37 ?_
      refine aw_iload_n (i := 1) dX7_begin_40 rfl rfl ?_
      refine aw_cVv ck_X7_224 (m_X1_ask (by simp [isC] : isC 14) (by omega)) sh_14 rfl (by decide) (by decide) rfl rfl (Nat.le_of_ble_eq_true rfl) dX7_begin_41 ?_
      refine aw_iconst (v := 1) dX7_begin_44 (by decide) ?_
      exact aw_iret rfl dX7_begin_45 (by first | contradiction | exact ⟨_, rfl, by unfold S_begin; (try rw [nI_clamp (show p < 2 ^ 31 from by omega)]); (first | rw [pIf_t h8] | rw [pIf_f h8] | rw [pIf_f (Int32.not_lt.mpr h8)] | rw [pIf_f (Int32.not_le.mpr h8)] | rw [pIf_t (Int32.not_le.mp h8)] | rw [pIf_t (Int32.not_lt.mp h8)] | rw [pIf_f (Nat.not_lt.mpr h8)] | rw [pIf_f (Nat.not_le.mpr h8)] | rw [pIf_t (Nat.not_le.mp h8)] | rw [pIf_t (Nat.not_lt.mp h8)] | skip); (first | rw [pIf_t h26] | rw [pIf_f h26] | rw [pIf_f (Int32.not_lt.mpr h26)] | rw [pIf_f (Int32.not_le.mpr h26)] | rw [pIf_t (Int32.not_le.mp h26)] | rw [pIf_t (Int32.not_lt.mp h26)] | rw [pIf_f (Nat.not_lt.mpr h26)] | rw [pIf_f (Nat.not_le.mpr h26)] | rw [pIf_t (Nat.not_le.mp h26)] | rw [pIf_t (Nat.not_lt.mp h26)] | skip); (try rw [nI_clamp (show p < 2 ^ 31 from by omega)]); exact ⟨rfl, rfl⟩⟩)
    ·
      refine aw_aload_n (i := 0) dX7_begin_29 rfl rfl ?_
      refine aw_bipush (v := (-6)) dX7_begin_30 (by decide) ?_
      refine aw_cVi ck_X7_86 (m_X7_refuse (k := 5) (by decide) (by decide)) sh_0 rfl (by decide) (by decide) rfl rfl (Nat.le_of_ble_eq_true rfl) dX7_begin_32 ?_
      exact aw_iret rfl dX7_begin_35 (by first | contradiction | exact ⟨_, rfl, by unfold S_begin; (try rw [nI_clamp (show p < 2 ^ 31 from by omega)]); (first | rw [pIf_t h8] | rw [pIf_f h8] | rw [pIf_f (Int32.not_lt.mpr h8)] | rw [pIf_f (Int32.not_le.mpr h8)] | rw [pIf_t (Int32.not_le.mp h8)] | rw [pIf_t (Int32.not_lt.mp h8)] | rw [pIf_f (Nat.not_lt.mpr h8)] | rw [pIf_f (Nat.not_le.mpr h8)] | rw [pIf_t (Nat.not_le.mp h8)] | rw [pIf_t (Nat.not_lt.mp h8)] | skip); (first | rw [pIf_t h26] | rw [pIf_f h26] | rw [pIf_f (Int32.not_lt.mpr h26)] | rw [pIf_f (Int32.not_le.mpr h26)] | rw [pIf_t (Int32.not_le.mp h26)] | rw [pIf_t (Int32.not_lt.mp h26)] | rw [pIf_f (Nat.not_lt.mpr h26)] | rw [pIf_f (Nat.not_le.mpr h26)] | rw [pIf_t (Nat.not_le.mp h26)] | rw [pIf_t (Nat.not_lt.mp h26)] | skip); (try rw [nI_clamp (show p < 2 ^ 31 from by omega)]); exact ⟨rfl, rfl⟩⟩)
  ·
    refine aw_aload_n (i := 0) dX7_begin_11 rfl rfl ?_
    refine aw_iconst (v := (-1)) dX7_begin_12 (by decide) ?_
    refine aw_cVi ck_X7_86 (m_X7_refuse (k := 0) (by decide) (by decide)) sh_0 rfl (by decide) (by decide) rfl rfl (Nat.le_of_ble_eq_true rfl) dX7_begin_13 ?_
    exact aw_iret rfl dX7_begin_16 (by first | contradiction | exact ⟨_, rfl, by unfold S_begin; (try rw [nI_clamp (show p < 2 ^ 31 from by omega)]); (first | rw [pIf_t h8] | rw [pIf_f h8] | rw [pIf_f (Int32.not_lt.mpr h8)] | rw [pIf_f (Int32.not_le.mpr h8)] | rw [pIf_t (Int32.not_le.mp h8)] | rw [pIf_t (Int32.not_lt.mp h8)] | rw [pIf_f (Nat.not_lt.mpr h8)] | rw [pIf_f (Nat.not_le.mpr h8)] | rw [pIf_t (Nat.not_le.mp h8)] | rw [pIf_t (Nat.not_lt.mp h8)] | skip); (try rw [nI_clamp (show p < 2 ^ 31 from by omega)]); exact ⟨rfl, rfl⟩⟩)
def S_hush (M : Mm) (n : Nat) (v : Int32) (M' : Mm) : Prop := v = nI n - nI (cntN n (fun i => M.1 (14 + 8) i = 0)) ∧ M' = calmM 14 M
theorem m_X7_hush {l : Launch} {M : Mm} {n : Nat} (hn : M.1 14 11 = nI n) (hn30 : n ≤ 30) : AMet l 4 yX7_hush cX7_hush 1 (some FieldType.int) [.ref 0] M (QI (S_hush M n)) := by
  refine AMet.of (by decide) (by simp [aargs, Value.category]) ?_
  show AW l 4 yX7_hush cX7_hush 1 (some FieldType.int) 0 [some (.ref 0)] [] M _
  refine aw_aload_n (i := 0) dX7_hush_0 rfl rfl ?_
  refine aw_getR gf_X7_19 sh_0 rfl dX7_hush_1 ?_
  refine aw_cVi ck_X7_228 (m_X1_calm (by simp [isC] : isC 14) hn hn30) sh_14 rfl (by decide) (by decide) rfl rfl (Nat.le_of_ble_eq_true rfl) dX7_hush_4 ?_
  exact aw_iret rfl dX7_hush_7 (by first | contradiction | exact ⟨_, rfl, by unfold S_hush; (try rw [nI_clamp (show k < 2 ^ 31 from by omega)]); (try rw [nI_clamp (show j < 2 ^ 31 from by omega)]); (try rw [nI_clamp (show k < 2 ^ 31 from by omega)]); (try rw [nI_clamp (show j < 2 ^ 31 from by omega)]); exact ⟨rfl, rfl⟩⟩)
def S_heard (M : Mm) (n : Nat) (x : Int32) (v : Int32) (M' : Mm) : Prop := pIf (¬ x < 0 ∧ ¬ M.1 14 11 ≤ x) (lsM 14 n M M' ∧ v = M'.1 26 x.toNatClampNeg) (v = -1 ∧ M' = rfx M 0)
theorem m_X7_heard {l : Launch} {M : Mm} {x : Int32} {n : Nat} (hn : M.1 14 11 = nI n) (hn30 : n ≤ 30) : AMet l 4 yX7_heard cX7_heard 2 (some FieldType.int) [.ref 0, .int x] M (QI (S_heard M n x)) := by
  refine AMet.of (by decide) (by simp [aargs, Value.category]) ?_
  show AW l 4 yX7_heard cX7_heard 2 (some FieldType.int) 0 [some (.ref 0), some (.int x)] [] M _
  refine aw_aload_n (i := 0) dX7_heard_0 rfl rfl ?_
  refine aw_getR gf_X7_19 sh_0 rfl dX7_heard_1 ?_
  refine aw_iload_n (i := 1) dX7_heard_4 rfl rfl ?_
  refine aw_cVi ck_X7_121 (m_X1_has (by simp [isC] : isC 14)) sh_14 rfl (by decide) (by decide) rfl rfl (Nat.le_of_ble_eq_true rfl) dX7_heard_5 ?_
  refine aw_ifne_b (tgt := 17) dX7_heard_8 (by decide) (fun h8 => ?_) (fun h8 => ?_)
  ·
    obtain ⟨p, hp, rfl⟩ := hasC hn hn30 h8
    refine aw_aload_n (i := 0) dX7_heard_17 rfl rfl ?_
    refine aw_getR gf_X7_19 sh_0 rfl dX7_heard_18 ?_
    refine aw_cVQ ck_X7_232 (m_X1_listen (by simp [isC] : isC 14) hn hn30) sh_14 rfl (by decide) (by decide) rfl rfl (Nat.le_of_ble_eq_true rfl) dX7_heard_21 (fun r M9 hq9 => ?_)
    obtain ⟨rfl, hs9⟩ := hq9
    refine aw_aload_n (i := 0) dX7_heard_24 rfl rfl ?_
    refine aw_getR gf_X7_19 sh_0 rfl dX7_heard_25 ?_
    refine aw_getR gf_X7_235 sh_14 rfl dX7_heard_28 ?_
    refine aw_iload_n (i := 1) dX7_heard_31 rfl rfl ?_
    refine aw_ialdN sh_26 (by omega) (by omega) dX7_heard_32 ?_
    exact aw_iret rfl dX7_heard_33 (by first | contradiction | exact ⟨_, rfl, by unfold S_heard; (try rw [nI_clamp (show p < 2 ^ 31 from by omega)]); (first | rw [pIf_t h8] | rw [pIf_f h8] | rw [pIf_f (Int32.not_lt.mpr h8)] | rw [pIf_f (Int32.not_le.mpr h8)] | rw [pIf_t (Int32.not_le.mp h8)] | rw [pIf_t (Int32.not_lt.mp h8)] | rw [pIf_f (Nat.not_lt.mpr h8)] | rw [pIf_f (Nat.not_le.mpr h8)] | rw [pIf_t (Nat.not_le.mp h8)] | rw [pIf_t (Nat.not_lt.mp h8)] | skip); (try rw [nI_clamp (show p < 2 ^ 31 from by omega)]); exact ⟨hs9, rfl⟩⟩)
  ·
    refine aw_aload_n (i := 0) dX7_heard_11 rfl rfl ?_
    refine aw_iconst (v := (-1)) dX7_heard_12 (by decide) ?_
    refine aw_cVi ck_X7_86 (m_X7_refuse (k := 0) (by decide) (by decide)) sh_0 rfl (by decide) (by decide) rfl rfl (Nat.le_of_ble_eq_true rfl) dX7_heard_13 ?_
    exact aw_iret rfl dX7_heard_16 (by first | contradiction | exact ⟨_, rfl, by unfold S_heard; (try rw [nI_clamp (show p < 2 ^ 31 from by omega)]); (first | rw [pIf_t h8] | rw [pIf_f h8] | rw [pIf_f (Int32.not_lt.mpr h8)] | rw [pIf_f (Int32.not_le.mpr h8)] | rw [pIf_t (Int32.not_le.mp h8)] | rw [pIf_t (Int32.not_lt.mp h8)] | rw [pIf_f (Nat.not_lt.mpr h8)] | rw [pIf_f (Nat.not_le.mpr h8)] | rw [pIf_t (Nat.not_le.mp h8)] | rw [pIf_t (Nat.not_lt.mp h8)] | skip); (try rw [nI_clamp (show p < 2 ^ 31 from by omega)]); exact ⟨rfl, rfl⟩⟩)
def S_beside (M : Mm) (n : Nat) (x : Int32) (v : Int32) (M' : Mm) : Prop := pIf (¬ x < 0 ∧ ¬ M.1 14 11 ≤ x) (lsM 14 n M M' ∧ v = M'.1 27 x.toNatClampNeg) (v = -1 ∧ M' = rfx M 0)
theorem m_X7_beside {l : Launch} {M : Mm} {x : Int32} {n : Nat} (hn : M.1 14 11 = nI n) (hn30 : n ≤ 30) : AMet l 4 yX7_beside cX7_beside 2 (some FieldType.int) [.ref 0, .int x] M (QI (S_beside M n x)) := by
  refine AMet.of (by decide) (by simp [aargs, Value.category]) ?_
  show AW l 4 yX7_beside cX7_beside 2 (some FieldType.int) 0 [some (.ref 0), some (.int x)] [] M _
  refine aw_aload_n (i := 0) dX7_beside_0 rfl rfl ?_
  refine aw_getR gf_X7_19 sh_0 rfl dX7_beside_1 ?_
  refine aw_iload_n (i := 1) dX7_beside_4 rfl rfl ?_
  refine aw_cVi ck_X7_121 (m_X1_has (by simp [isC] : isC 14)) sh_14 rfl (by decide) (by decide) rfl rfl (Nat.le_of_ble_eq_true rfl) dX7_beside_5 ?_
  refine aw_ifne_b (tgt := 17) dX7_beside_8 (by decide) (fun h8 => ?_) (fun h8 => ?_)
  ·
    obtain ⟨p, hp, rfl⟩ := hasC hn hn30 h8
    refine aw_aload_n (i := 0) dX7_beside_17 rfl rfl ?_
    refine aw_getR gf_X7_19 sh_0 rfl dX7_beside_18 ?_
    refine aw_cVQ ck_X7_232 (m_X1_listen (by simp [isC] : isC 14) hn hn30) sh_14 rfl (by decide) (by decide) rfl rfl (Nat.le_of_ble_eq_true rfl) dX7_beside_21 (fun r M9 hq9 => ?_)
    obtain ⟨rfl, hs9⟩ := hq9
    refine aw_aload_n (i := 0) dX7_beside_24 rfl rfl ?_
    refine aw_getR gf_X7_19 sh_0 rfl dX7_beside_25 ?_
    refine aw_getR gf_X7_238 sh_14 rfl dX7_beside_28 ?_
    refine aw_iload_n (i := 1) dX7_beside_31 rfl rfl ?_
    refine aw_ialdN sh_27 (by omega) (by omega) dX7_beside_32 ?_
    exact aw_iret rfl dX7_beside_33 (by first | contradiction | exact ⟨_, rfl, by unfold S_beside; (try rw [nI_clamp (show p < 2 ^ 31 from by omega)]); (first | rw [pIf_t h8] | rw [pIf_f h8] | rw [pIf_f (Int32.not_lt.mpr h8)] | rw [pIf_f (Int32.not_le.mpr h8)] | rw [pIf_t (Int32.not_le.mp h8)] | rw [pIf_t (Int32.not_lt.mp h8)] | rw [pIf_f (Nat.not_lt.mpr h8)] | rw [pIf_f (Nat.not_le.mpr h8)] | rw [pIf_t (Nat.not_le.mp h8)] | rw [pIf_t (Nat.not_lt.mp h8)] | skip); (try rw [nI_clamp (show p < 2 ^ 31 from by omega)]); exact ⟨hs9, rfl⟩⟩)
  ·
    refine aw_aload_n (i := 0) dX7_beside_11 rfl rfl ?_
    refine aw_iconst (v := (-1)) dX7_beside_12 (by decide) ?_
    refine aw_cVi ck_X7_86 (m_X7_refuse (k := 0) (by decide) (by decide)) sh_0 rfl (by decide) (by decide) rfl rfl (Nat.le_of_ble_eq_true rfl) dX7_beside_13 ?_
    exact aw_iret rfl dX7_beside_16 (by first | contradiction | exact ⟨_, rfl, by unfold S_beside; (try rw [nI_clamp (show p < 2 ^ 31 from by omega)]); (first | rw [pIf_t h8] | rw [pIf_f h8] | rw [pIf_f (Int32.not_lt.mpr h8)] | rw [pIf_f (Int32.not_le.mpr h8)] | rw [pIf_t (Int32.not_le.mp h8)] | rw [pIf_t (Int32.not_lt.mp h8)] | rw [pIf_f (Nat.not_lt.mpr h8)] | rw [pIf_f (Nat.not_le.mpr h8)] | rw [pIf_t (Nat.not_le.mp h8)] | rw [pIf_t (Nat.not_lt.mp h8)] | skip); (try rw [nI_clamp (show p < 2 ^ 31 from by omega)]); exact ⟨rfl, rfl⟩⟩)
