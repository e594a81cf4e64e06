theorem sw4_no {w : Int32} (h1 : ¬ w < 0) (h2 : w ≤ 3) : ¬ (w.toInt < 0 ∨ 3 < w.toInt) := by
  have e0 : (0 : Int32).toInt = 0 := by decide
  have e3 : (3 : Int32).toInt = 3 := by decide
  rw [i32_lt, e0] at h1
  rw [Int32.le_iff_toInt_le, e3] at h2
  omega
theorem nI_div5 : ∀ m, m ≤ 100 → nI m / 5 = nI (m / 5) := by decide +kernel
theorem nI_mul5 : ∀ m, m ≤ 100 → nI m * 5 = nI (m * 5) := by decide +kernel
theorem rr_ok10 {M : Mm} {s : Int32} (h : ¬ rrI M s = 0) : rfOK (rrI M s - 10) := by
  revert h
  unfold rrI
  by_cases h1 : ¬ s < 0 ∧ ¬ 8 ≤ s
  · rw [pIf_t h1]
    by_cases h2 : perP M s
    · rw [pIf_t h2]; exact fun _ => ⟨1, by decide, by decide⟩
    · rw [pIf_f h2]
      by_cases h3 : rowP M s
      · rw [pIf_t h3]; exact fun q => absurd rfl q
      · rw [pIf_f h3]; exact fun _ => ⟨2, by decide, by decide⟩
  · rw [pIf_f h1]; exact fun _ => ⟨0, by decide, by decide⟩
def S_personOf (M : Mm) (x w : Int32) (v : Int32) (M' : Mm) : Prop := pIf (¬ x < 0 ∧ ¬ M.1 14 11 ≤ x) (pIf (w < 0) (v = -5 ∧ M' = rfx M 4) (pIf (w < 10) (v = M.1 (16 + w.toNatClampNeg) x.toNatClampNeg ∧ M' = M) (v = -5 ∧ M' = rfx M 4))) (v = -5 ∧ M' = rfx M 4)
theorem m_X7_personOf {l : Launch} {M : Mm} {x w : Int32} {n : Nat} (hn : M.1 14 11 = nI n) (hn30 : n ≤ 30) : AMet l 3 yX7_personOf cX7_personOf 3 (some FieldType.int) [.ref 0, .int x, .int w] M (QI (S_personOf M x w)) := by
  refine AMet.of (by decide) (by simp [aargs, Value.category]) ?_
  show AW l 3 yX7_personOf cX7_personOf 3 (some FieldType.int) 0 [some (.ref 0), some (.int x), some (.int w)] [] M _
  refine aw_aload_n (i := 0) dX7_personOf_0 rfl rfl ?_
  refine aw_getR gf_X7_19 sh_0 rfl dX7_personOf_1 ?_
  refine aw_iload_n (i := 1) dX7_personOf_4 rfl rfl ?_
  refine aw_cVi ck_X7_121 (m_X1_has (by simp [isC] : isC 14)) sh_14 rfl (by decide) (by decide) rfl rfl (Nat.le_of_ble_eq_true rfl) dX7_personOf_5 ?_
  refine aw_ifeq_b (tgt := 21) dX7_personOf_8 (by decide) (fun h8 => ?_) (fun h8 => ?_)
  ·
    refine aw_aload_n (i := 0) dX7_personOf_21 rfl rfl ?_
    refine aw_bipush (v := (-5)) dX7_personOf_22 (by decide) ?_
    refine aw_cVi ck_X7_86 (m_X7_refuse (k := 4) (by decide) (by decide)) sh_0 rfl (by decide) (by decide) rfl rfl (Nat.le_of_ble_eq_true rfl) dX7_personOf_24 ?_
    exact aw_iret rfl dX7_personOf_27 (by first | contradiction | exact ⟨_, rfl, by unfold S_personOf; (try rw [nI_clamp (show p < 2 ^ 31 from by omega)]); (try rw [nI_clamp (show j < 2 ^ 31 from by omega)]); (first | rw [pIf_t h8] | rw [pIf_f h8] | rw [pIf_f (Int32.not_lt.mpr h8)] | rw [pIf_f (Int32.not_le.mpr h8)] | rw [pIf_t (Int32.not_le.mp h8)] | rw [pIf_t (Int32.not_lt.mp h8)] | rw [pIf_f (Nat.not_lt.mpr h8)] | rw [pIf_f (Nat.not_le.mpr h8)] | rw [pIf_t (Nat.not_le.mp h8)] | rw [pIf_t (Nat.not_lt.mp h8)] | skip); (try rw [nI_clamp (show p < 2 ^ 31 from by omega)]); (try rw [nI_clamp (show j < 2 ^ 31 from by omega)]); exact ⟨rfl, rfl⟩⟩)
  ·
    obtain ⟨p, hp, rfl⟩ := hasC hn hn30 h8
    refine aw_iload_n (i := 2) dX7_personOf_11 rfl rfl ?_
    refine aw_if_lt (tgt := 21) dX7_personOf_12 (by decide) (fun h12 => ?_) (fun h12 => ?_)
    ·
      refine aw_aload_n (i := 0) dX7_personOf_21 rfl rfl ?_
      refine aw_bipush (v := (-5)) dX7_personOf_22 (by decide) ?_
      refine aw_cVi ck_X7_86 (m_X7_refuse (k := 4) (by decide) (by decide)) sh_0 rfl (by decide) (by decide) rfl rfl (Nat.le_of_ble_eq_true rfl) dX7_personOf_24 ?_
      exact aw_iret rfl dX7_personOf_27 (by first | contradiction | exact ⟨_, rfl, by unfold S_personOf; (try rw [nI_clamp (show p < 2 ^ 31 from by omega)]); (try rw [nI_clamp (show j < 2 ^ 31 from by omega)]); (first | rw [pIf_t h8] | rw [pIf_f h8] | rw [pIf_f (Int32.not_lt.mpr h8)] | rw [pIf_f (Int32.not_le.mpr h8)] | rw [pIf_t (Int32.not_le.mp h8)] | rw [pIf_t (Int32.not_lt.mp h8)] | rw [pIf_f (Nat.not_lt.mpr h8)] | rw [pIf_f (Nat.not_le.mpr h8)] | rw [pIf_t (Nat.not_le.mp h8)] | rw [pIf_t (Nat.not_lt.mp h8)] | skip); (first | rw [pIf_t h12] | rw [pIf_f h12] | rw [pIf_f (Int32.not_lt.mpr h12)] | rw [pIf_f (Int32.not_le.mpr h12)] | rw [pIf_t (Int32.not_le.mp h12)] | rw [pIf_t (Int32.not_lt.mp h12)] | rw [pIf_f (Nat.not_lt.mpr h12)] | rw [pIf_f (Nat.not_le.mpr h12)] | rw [pIf_t (Nat.not_le.mp h12)] | rw [pIf_t (Nat.not_lt.mp h12)] | skip); (try rw [nI_clamp (show p < 2 ^ 31 from by omega)]); (try rw [nI_clamp (show j < 2 ^ 31 from by omega)]); exact ⟨rfl, rfl⟩⟩)
    ·
      refine aw_iload_n (i := 2) dX7_personOf_15 rfl rfl ?_
      refine aw_bipush (v := 10) dX7_personOf_16 (by decide) ?_
      refine aw_icmp_lt (tgt := 28) dX7_personOf_18 (by decide) (fun h18 => ?_) (fun h18 => ?_)
      ·
        obtain ⟨j, hj, rfl⟩ : ∃ j, j < 10 ∧ w = nI j := by
          rcases pk_ix w (n := 10) (by decide) with q | q | q
          · exact absurd q h12
          · exact absurd h18 (Int32.not_lt.mpr q)
          · exact q
        refine aw_aload_n (i := 0) dX7_personOf_28 rfl rfl ?_
        refine aw_getR gf_X7_19 sh_0 rfl dX7_personOf_29 ?_
        refine aw_getR gf_X7_159 sh_14 rfl dX7_personOf_32 ?_
        refine aw_iload_n (i := 2) dX7_personOf_35 rfl rfl ?_
        refine aw_aaldN (t := 0) sh_15 (by decide) (by omega) (by decide) dX7_personOf_36 ?_
        refine aw_iload_n (i := 1) dX7_personOf_37 rfl rfl ?_
        refine aw_ialdN (shC_r (c := 14) (by simp [isC]) j (by omega)) (by omega) (by omega) dX7_personOf_38 ?_
        exact aw_iret rfl dX7_personOf_39 (by first | contradiction | exact ⟨_, rfl, by unfold S_personOf; (try rw [nI_clamp (show p < 2 ^ 31 from by omega)]); (try rw [nI_clamp (show j < 2 ^ 31 from by omega)]); (first | rw [pIf_t h8] | rw [pIf_f h8] | rw [pIf_f (Int32.not_lt.mpr h8)] | rw [pIf_f (Int32.not_le.mpr h8)] | rw [pIf_t (Int32.not_le.mp h8)] | rw [pIf_t (Int32.not_lt.mp h8)] | rw [pIf_f (Nat.not_lt.mpr h8)] | rw [pIf_f (Nat.not_le.mpr h8)] | rw [pIf_t (Nat.not_le.mp h8)] | rw [pIf_t (Nat.not_lt.mp h8)] | skip); (first | rw [pIf_t h12] | rw [pIf_f h12] | rw [pIf_f (Int32.not_lt.mpr h12)] | rw [pIf_f (Int32.not_le.mpr h12)] | rw [pIf_t (Int32.not_le.mp h12)] | rw [pIf_t (Int32.not_lt.mp h12)] | rw [pIf_f (Nat.not_lt.mpr h12)] | rw [pIf_f (Nat.not_le.mpr h12)] | rw [pIf_t (Nat.not_le.mp h12)] | rw [pIf_t (Nat.not_lt.mp h12)] | skip); (first | rw [pIf_t h18] | rw [pIf_f h18] | rw [pIf_f (Int32.not_lt.mpr h18)] | rw [pIf_f (Int32.not_le.mpr h18)] | rw [pIf_t (Int32.not_le.mp h18)] | rw [pIf_t (Int32.not_lt.mp h18)] | rw [pIf_f (Nat.not_lt.mpr h18)] | rw [pIf_f (Nat.not_le.mpr h18)] | rw [pIf_t (Nat.not_le.mp h18)] | rw [pIf_t (Nat.not_lt.mp h18)] | skip); (try rw [nI_clamp (show p < 2 ^ 31 from by omega)]); (try rw [nI_clamp (show j < 2 ^ 31 from by omega)]); exact ⟨rfl, rfl⟩⟩)
      ·
        refine aw_aload_n (i := 0) dX7_personOf_21 rfl rfl ?_
        refine aw_bipush (v := (-5)) dX7_personOf_22 (by decide) ?_
        refine aw_cVi ck_X7_86 (m_X7_refuse (k := 4) (by decide) (by decide)) sh_0 rfl (by decide) (by decide) rfl rfl (Nat.le_of_ble_eq_true rfl) dX7_personOf_24 ?_
        exact aw_iret rfl dX7_personOf_27 (by first | contradiction | exact ⟨_, rfl, by unfold S_personOf; (try rw [nI_clamp (show p < 2 ^ 31 from by omega)]); (try rw [nI_clamp (show j < 2 ^ 31 from by omega)]); (first | rw [pIf_t h8] | rw [pIf_f h8] | rw [pIf_f (Int32.not_lt.mpr h8)] | rw [pIf_f (Int32.not_le.mpr h8)] | rw [pIf_t (Int32.not_le.mp h8)] | rw [pIf_t (Int32.not_lt.mp h8)] | rw [pIf_f (Nat.not_lt.mpr h8)] | rw [pIf_f (Nat.not_le.mpr h8)] | rw [pIf_t (Nat.not_le.mp h8)] | rw [pIf_t (Nat.not_lt.mp h8)] | skip); (first | rw [pIf_t h12] | rw [pIf_f h12] | rw [pIf_f (Int32.not_lt.mpr h12)] | rw [pIf_f (Int32.not_le.mpr h12)] | rw [pIf_t (Int32.not_le.mp h12)] | rw [pIf_t (Int32.not_lt.mp h12)] | rw [pIf_f (Nat.not_lt.mpr h12)] | rw [pIf_f (Nat.not_le.mpr h12)] | rw [pIf_t (Nat.not_le.mp h12)] | rw [pIf_t (Nat.not_lt.mp h12)] | skip); (first | rw [pIf_t h18] | rw [pIf_f h18] | rw [pIf_f (Int32.not_lt.mpr h18)] | rw [pIf_f (Int32.not_le.mpr h18)] | rw [pIf_t (Int32.not_le.mp h18)] | rw [pIf_t (Int32.not_lt.mp h18)] | rw [pIf_f (Nat.not_lt.mpr h18)] | rw [pIf_f (Nat.not_le.mpr h18)] | rw [pIf_t (Nat.not_le.mp h18)] | rw [pIf_t (Nat.not_lt.mp h18)] | skip); (try rw [nI_clamp (show p < 2 ^ 31 from by omega)]); (try rw [nI_clamp (show j < 2 ^ 31 from by omega)]); exact ⟨rfl, rfl⟩⟩)
def S_alter (M : Mm) (x w y : Int32) (v : Int32) (M' : Mm) : Prop := pIf (¬ x < 0 ∧ ¬ M.1 14 11 ≤ x) (pIf (w < 0) (v = -6 ∧ M' = rfx M 5) (pIf (3 < w) (v = -6 ∧ M' = rfx M 5) (pIf (w = 0) (pIf (y < 0) (v = -6 ∧ M' = rfx M 5) (pIf (99 < y) (v = -6 ∧ M' = rfx M 5) (v = M.1 (16 + 2) x.toNatClampNeg ∧ M' = mI M (16 + 2) x.toNatClampNeg y))) (pIf (w = 1) (pIf (y < 1) (v = -6 ∧ M' = rfx M 5) (pIf (9 < y) (v = -6 ∧ M' = rfx M 5) (v = M.1 (16 + 3) x.toNatClampNeg ∧ M' = mI (mI M (16 + 3) x.toNatClampNeg y) 21 x.toNatClampNeg (modI ((mI M (16 + 3) x.toNatClampNeg y).1 21 x.toNatClampNeg) y)))) (pIf (w = 2) (pIf (y < 0) (v = -6 ∧ M' = rfx M 5) (pIf (99 < y) (v = -6 ∧ M' = rfx M 5) (v = M.1 (16 + 4) x.toNatClampNeg ∧ M' = mI M (16 + 4) x.toNatClampNeg y))) (pIf (y < 0) (v = -6 ∧ M' = rfx M 5) (pIf (M.1 (14 + 5) x.toNatClampNeg - 1 < y) (v = -6 ∧ M' = rfx M 5) (v = M.1 (16 + 5) x.toNatClampNeg ∧ M' = mI M (16 + 5) x.toNatClampNeg y)))))))) (v = -1 ∧ M' = rfx M 0)
theorem m_X7_alter {l : Launch} {M : Mm} {x w y : Int32} {n : Nat} (hn : M.1 14 11 = nI n) (hn30 : n ≤ 30) : AMet l 3 yX7_alter cX7_alter 6 (some FieldType.int) [.ref 0, .int x, .int w, .int y] M (QI (S_alter M x w y)) := by
  refine AMet.of (by decide) (by simp [aargs, Value.category]) ?_
  show AW l 3 yX7_alter cX7_alter 6 (some FieldType.int) 0 [some (.ref 0), some (.int x), some (.int w), some (.int y), none, none] [] M _
  refine aw_aload_n (i := 0) dX7_alter_0 rfl rfl ?_
  refine aw_getR gf_X7_19 sh_0 rfl dX7_alter_1 ?_
  refine aw_iload_n (i := 1) dX7_alter_4 rfl rfl ?_
  refine aw_cVi ck_X7_121 (m_X1_has (by simp [isC] : isC 14)) sh_14 rfl (by decide) (by decide) rfl rfl (Nat.le_of_ble_eq_true rfl) dX7_alter_5 ?_
  refine aw_ifne_b (tgt := 17) dX7_alter_8 (by decide) (fun h8 => ?_) (fun h8 => ?_)
  ·
    obtain ⟨p, hp, rfl⟩ := hasC hn hn30 h8
    refine aw_iload_n (i := 2) dX7_alter_17 rfl rfl ?_
    refine aw_if_lt (tgt := 26) dX7_alter_18 (by decide) (fun h18 => ?_) (fun h18 => ?_)
    ·
      refine aw_aload_n (i := 0) dX7_alter_26 rfl rfl ?_
      refine aw_bipush (v := (-6)) dX7_alter_27 (by decide) ?_
      refine aw_cVi ck_X7_86 (m_X7_refuse (k := 5) (by decide) (by decide)) sh_0 rfl (by decide) (by decide) rfl rfl (Nat.le_of_ble_eq_true rfl) dX7_alter_29 ?_
      exact aw_iret rfl dX7_alter_32 (by first | contradiction | exact ⟨_, rfl, by unfold S_alter; (try rw [nI_clamp (show p < 2 ^ 31 from by omega)]); (first | rw [pIf_t h8] | rw [pIf_f h8] | rw [pIf_f (Int32.not_lt.mpr h8)] | rw [pIf_f (Int32.not_le.mpr h8)] | rw [pIf_t (Int32.not_le.mp h8)] | rw [pIf_t (Int32.not_lt.mp h8)] | rw [pIf_f (Nat.not_lt.mpr h8)] | rw [pIf_f (Nat.not_le.mpr h8)] | rw [pIf_t (Nat.not_le.mp h8)] | rw [pIf_t (Nat.not_lt.mp h8)] | skip); (first | rw [pIf_t h18] | rw [pIf_f h18] | rw [pIf_f (Int32.not_lt.mpr h18)] | rw [pIf_f (Int32.not_le.mpr h18)] | rw [pIf_t (Int32.not_le.mp h18)] | rw [pIf_t (Int32.not_lt.mp h18)] | rw [pIf_f (Nat.not_lt.mpr h18)] | rw [pIf_f (Nat.not_le.mpr h18)] | rw [pIf_t (Nat.not_le.mp h18)] | rw [pIf_t (Nat.not_lt.mp h18)] | skip); (try rw [nI_clamp (show p < 2 ^ 31 from by omega)]); exact ⟨rfl, rfl⟩⟩)
    ·
      refine aw_iload_n (i := 2) dX7_alter_21 rfl rfl ?_
      refine aw_iconst (v := 3) dX7_alter_22 (by decide) ?_
      refine aw_icmp_le (tgt := 33) dX7_alter_23 (by decide) (fun h23 => ?_) (fun h23 => ?_)
      ·
        rcases sw4 w with rfl | rfl | rfl | rfl | ⟨hz9, hno9⟩
        ·
          refine aw_iconst (v := 2) dX7_alter_33 (by decide) ?_
          refine aw_iload_n (i := 2) dX7_alter_34 rfl rfl ?_
          refine aw_iadd dX7_alter_35 ?_
          refine aw_top (show (2 : Int32) + 0 = 2 from by decide) ?_
          refine aw_istore (i := 4) dX7_alter_36 (by decide) ?_
          refine aw_iload_n (i := 3) dX7_alter_38 rfl rfl ?_
          refine aw_iload (i := 4) dX7_alter_39 rfl ?_
          refine aw_iconst (v := 3) dX7_alter_41 (by decide) ?_
          refine aw_icmp_ne (tgt := 49) dX7_alter_42 (by decide) (fun h42 => ?_) (fun h42 => ?_)
          ·
            refine aw_iconst (v := 0) dX7_alter_49 (by decide) ?_
            refine aw_icmp_lt (tgt := 67) dX7_alter_50 (by decide) (fun h50 => ?_) (fun h50 => ?_)
            ·
              refine aw_aload_n (i := 0) dX7_alter_67 rfl rfl ?_
              refine aw_bipush (v := (-6)) dX7_alter_68 (by decide) ?_
              refine aw_cVi ck_X7_86 (m_X7_refuse (k := 5) (by decide) (by decide)) sh_0 rfl (by decide) (by decide) rfl rfl (Nat.le_of_ble_eq_true rfl) dX7_alter_70 ?_
              exact aw_iret rfl dX7_alter_73 (by first | contradiction | exact ⟨_, rfl, by unfold S_alter; (try rw [nI_clamp (show p < 2 ^ 31 from by omega)]); (first | rw [pIf_t h8] | rw [pIf_f h8] | rw [pIf_f (Int32.not_lt.mpr h8)] | rw [pIf_f (Int32.not_le.mpr h8)] | rw [pIf_t (Int32.not_le.mp h8)] | rw [pIf_t (Int32.not_lt.mp h8)] | rw [pIf_f (Nat.not_lt.mpr h8)] | rw [pIf_f (Nat.not_le.mpr h8)] | rw [pIf_t (Nat.not_le.mp h8)] | rw [pIf_t (Nat.not_lt.mp h8)] | skip); (first | rw [pIf_t h18] | rw [pIf_f h18] | rw [pIf_f (Int32.not_lt.mpr h18)] | rw [pIf_f (Int32.not_le.mpr h18)] | rw [pIf_t (Int32.not_le.mp h18)] | rw [pIf_t (Int32.not_lt.mp h18)] | rw [pIf_f (Nat.not_lt.mpr h18)] | rw [pIf_f (Nat.not_le.mpr h18)] | rw [pIf_t (Nat.not_le.mp h18)] | rw [pIf_t (Nat.not_lt.mp h18)] | skip); (first | rw [pIf_t h23] | rw [pIf_f h23] | rw [pIf_f (Int32.not_lt.mpr h23)] | rw [pIf_f (Int32.not_le.mpr h23)] | rw [pIf_t (Int32.not_le.mp h23)] | rw [pIf_t (Int32.not_lt.mp h23)] | rw [pIf_f (Nat.not_lt.mpr h23)] | rw [pIf_f (Nat.not_le.mpr h23)] | rw [pIf_t (Nat.not_le.mp h23)] | rw [pIf_t (Nat.not_lt.mp h23)] | skip); (first | rw [pIf_t (show (0 : Int32) = 0 from rfl)] | rw [pIf_f (show (0 : Int32) = 0 from rfl)] | rw [pIf_f (Int32.not_lt.mpr (show (0 : Int32) = 0 from rfl))] | rw [pIf_f (Int32.not_le.mpr (show (0 : Int32) = 0 from rfl))] | rw [pIf_t (Int32.not_le.mp (show (0 : Int32) = 0 from rfl))] | rw [pIf_t (Int32.not_lt.mp (show (0 : Int32) = 0 from rfl))] | rw [pIf_f (Nat.not_lt.mpr (show (0 : Int32) = 0 from rfl))] | rw [pIf_f (Nat.not_le.mpr (show (0 : Int32) = 0 from rfl))] | rw [pIf_t (Nat.not_le.mp (show (0 : Int32) = 0 from rfl))] | rw [pIf_t (Nat.not_lt.mp (show (0 : Int32) = 0 from rfl))] | skip); (first | rw [pIf_t h42] | rw [pIf_f h42] | rw [pIf_f (Int32.not_lt.mpr h42)] | rw [pIf_f (Int32.not_le.mpr h42)] | rw [pIf_t (Int32.not_le.mp h42)] | rw [pIf_t (Int32.not_lt.mp h42)] | rw [pIf_f (Nat.not_lt.mpr h42)] | rw [pIf_f (Nat.not_le.mpr h42)] | rw [pIf_t (Nat.not_le.mp h42)] | rw [pIf_t (Nat.not_lt.mp h42)] | skip); (first | rw [pIf_t h50] | rw [pIf_f h50] | rw [pIf_f (Int32.not_lt.mpr h50)] | rw [pIf_f (Int32.not_le.mpr h50)] | rw [pIf_t (Int32.not_le.mp h50)] | rw [pIf_t (Int32.not_lt.mp h50)] | rw [pIf_f (Nat.not_lt.mpr h50)] | rw [pIf_f (Nat.not_le.mpr h50)] | rw [pIf_t (Nat.not_le.mp h50)] | rw [pIf_t (Nat.not_lt.mp h50)] | skip); (try rw [nI_clamp (show p < 2 ^ 31 from by omega)]); exact ⟨rfl, rfl⟩⟩)
            ·
              refine aw_iload_n (i := 3) dX7_alter_53 rfl rfl ?_
              refine aw_aload_n (i := 0) dX7_alter_54 rfl rfl ?_
              refine aw_getR gf_X7_19 sh_0 rfl dX7_alter_55 ?_
              refine aw_iload_n (i := 1) dX7_alter_58 rfl rfl ?_
              refine aw_iload (i := 4) dX7_alter_59 rfl ?_
              refine aw_cVi ck_X7_169 (m_X1_mostOf (t := 2) (by simp [isC] : isC 14) (by omega) (by decide)) sh_14 rfl (by decide) (by decide) rfl rfl (Nat.le_of_ble_eq_true rfl) dX7_alter_61 ?_
              refine aw_top ((if_neg (by decide)).trans (if_neg (by decide))) ?_
              refine aw_icmp_le (tgt := 74) dX7_alter_64 (by decide) (fun h64 => ?_) (fun h64 => ?_)
              ·
                refine aw_aload_n (i := 0) dX7_alter_74 rfl rfl ?_
                refine aw_getR gf_X7_19 sh_0 rfl dX7_alter_75 ?_
                refine aw_getR gf_X7_159 sh_14 rfl dX7_alter_78 ?_
                refine aw_iload (i := 4) dX7_alter_81 rfl ?_
                refine aw_top (show (2 : Int32) = nI 2 from rfl) ?_
                refine aw_aaldN (t := 0) sh_15 (by decide) (by omega) (by decide) dX7_alter_83 ?_
                refine aw_iload_n (i := 1) dX7_alter_84 rfl rfl ?_
                refine aw_ialdN (shC_r (c := 14) (by simp [isC]) 2 (by omega)) (by omega) (by omega) dX7_alter_85 ?_
                refine aw_istore (i := 5) dX7_alter_86 (by decide) ?_
                refine aw_aload_n (i := 0) dX7_alter_88 rfl rfl ?_
                refine aw_getR gf_X7_19 sh_0 rfl dX7_alter_89 ?_
                refine aw_getR gf_X7_159 sh_14 rfl dX7_alter_92 ?_
                refine aw_iload (i := 4) dX7_alter_95 rfl ?_
                refine aw_top (show (2 : Int32) = nI 2 from rfl) ?_
                refine aw_aaldN (t := 0) sh_15 (by decide) (by omega) (by decide) dX7_alter_97 ?_
                refine aw_iload_n (i := 1) dX7_alter_98 rfl rfl ?_
                refine aw_iload_n (i := 3) dX7_alter_99 rfl rfl ?_
                refine aw_iastN (shC_r (c := 14) (by simp [isC]) 2 (by omega)) (by omega) (by omega) dX7_alter_100 ?_
                refine aw_iload (i := 4) dX7_alter_101 rfl ?_
                refine aw_iconst (v := 3) dX7_alter_103 (by decide) ?_
                refine aw_icmp_ne (tgt := 129) dX7_alter_104 (by decide) (fun h104 => ?_) (fun h104 => ?_)
                ·
                  refine aw_iload (i := 5) dX7_alter_129 rfl ?_
                  exact aw_iret rfl dX7_alter_131 (by first | contradiction | exact ⟨_, rfl, by unfold S_alter; (try rw [nI_clamp (show p < 2 ^ 31 from by omega)]); (first | rw [pIf_t h8] | rw [pIf_f h8] | rw [pIf_f (Int32.not_lt.mpr h8)] | rw [pIf_f (Int32.not_le.mpr h8)] | rw [pIf_t (Int32.not_le.mp h8)] | rw [pIf_t (Int32.not_lt.mp h8)] | rw [pIf_f (Nat.not_lt.mpr h8)] | rw [pIf_f (Nat.not_le.mpr h8)] | rw [pIf_t (Nat.not_le.mp h8)] | rw [pIf_t (Nat.not_lt.mp h8)] | skip); (first | rw [pIf_t h18] | rw [pIf_f h18] | rw [pIf_f (Int32.not_lt.mpr h18)] | rw [pIf_f (Int32.not_le.mpr h18)] | rw [pIf_t (Int32.not_le.mp h18)] | rw [pIf_t (Int32.not_lt.mp h18)] | rw [pIf_f (Nat.not_lt.mpr h18)] | rw [pIf_f (Nat.not_le.mpr h18)] | rw [pIf_t (Nat.not_le.mp h18)] | rw [pIf_t (Nat.not_lt.mp h18)] | skip); (first | rw [pIf_t h23] | rw [pIf_f h23] | rw [pIf_f (Int32.not_lt.mpr h23)] | rw [pIf_f (Int32.not_le.mpr h23)] | rw [pIf_t (Int32.not_le.mp h23)] | rw [pIf_t (Int32.not_lt.mp h23)] | rw [pIf_f (Nat.not_lt.mpr h23)] | rw [pIf_f (Nat.not_le.mpr h23)] | rw [pIf_t (Nat.not_le.mp h23)] | rw [pIf_t (Nat.not_lt.mp h23)] | skip); (first | rw [pIf_t (show (0 : Int32) = 0 from rfl)] | rw [pIf_f (show (0 : Int32) = 0 from rfl)] | rw [pIf_f (Int32.not_lt.mpr (show (0 : Int32) = 0 from rfl))] | rw [pIf_f (Int32.not_le.mpr (show (0 : Int32) = 0 from rfl))] | rw [pIf_t (Int32.not_le.mp (show (0 : Int32) = 0 from rfl))] | rw [pIf_t (Int32.not_lt.mp (show (0 : Int32) = 0 from rfl))] | rw [pIf_f (Nat.not_lt.mpr (show (0 : Int32) = 0 from rfl))] | rw [pIf_f (Nat.not_le.mpr (show (0 : Int32) = 0 from rfl))] | rw [pIf_t (Nat.not_le.mp (show (0 : Int32) = 0 from rfl))] | rw [pIf_t (Nat.not_lt.mp (show (0 : Int32) = 0 from rfl))] | skip); (first | rw [pIf_t h42] | rw [pIf_f h42] | rw [pIf_f (Int32.not_lt.mpr h42)] | rw [pIf_f (Int32.not_le.mpr h42)] | rw [pIf_t (Int32.not_le.mp h42)] | rw [pIf_t (Int32.not_lt.mp h42)] | rw [pIf_f (Nat.not_lt.mpr h42)] | rw [pIf_f (Nat.not_le.mpr h42)] | rw [pIf_t (Nat.not_le.mp h42)] | rw [pIf_t (Nat.not_lt.mp h42)] | skip); (first | rw [pIf_t h50] | rw [pIf_f h50] | rw [pIf_f (Int32.not_lt.mpr h50)] | rw [pIf_f (Int32.not_le.mpr h50)] | rw [pIf_t (Int32.not_le.mp h50)] | rw [pIf_t (Int32.not_lt.mp h50)] | rw [pIf_f (Nat.not_lt.mpr h50)] | rw [pIf_f (Nat.not_le.mpr h50)] | rw [pIf_t (Nat.not_le.mp h50)] | rw [pIf_t (Nat.not_lt.mp h50)] | skip); (first | rw [pIf_t h64] | rw [pIf_f h64] | rw [pIf_f (Int32.not_lt.mpr h64)] | rw [pIf_f (Int32.not_le.mpr h64)] | rw [pIf_t (Int32.not_le.mp h64)] | rw [pIf_t (Int32.not_lt.mp h64)] | rw [pIf_f (Nat.not_lt.mpr h64)] | rw [pIf_f (Nat.not_le.mpr h64)] | rw [pIf_t (Nat.not_le.mp h64)] | rw [pIf_t (Nat.not_lt.mp h64)] | skip); (first | rw [pIf_t h104] | rw [pIf_f h104] | rw [pIf_f (Int32.not_lt.mpr h104)] | rw [pIf_f (Int32.not_le.mpr h104)] | rw [pIf_t (Int32.not_le.mp h104)] | rw [pIf_t (Int32.not_lt.mp h104)] | rw [pIf_f (Nat.not_lt.mpr h104)] | rw [pIf_f (Nat.not_le.mpr h104)] | rw [pIf_t (Nat.not_le.mp h104)] | rw [pIf_t (Nat.not_lt.mp h104)] | skip); (try rw [nI_clamp (show p < 2 ^ 31 from by omega)]); exact ⟨rfl, rfl⟩⟩)
                ·
                  exact absurd h104 (by decide)
              ·
                refine aw_aload_n (i := 0) dX7_alter_67 rfl rfl ?_
                refine aw_bipush (v := (-6)) dX7_alter_68 (by decide) ?_
                refine aw_cVi ck_X7_86 (m_X7_refuse (k := 5) (by decide) (by decide)) sh_0 rfl (by decide) (by decide) rfl rfl (Nat.le_of_ble_eq_true rfl) dX7_alter_70 ?_
                exact aw_iret rfl dX7_alter_73 (by first | contradiction | exact ⟨_, rfl, by unfold S_alter; (try rw [nI_clamp (show p < 2 ^ 31 from by omega)]); (first | rw [pIf_t h8] | rw [pIf_f h8] | rw [pIf_f (Int32.not_lt.mpr h8)] | rw [pIf_f (Int32.not_le.mpr h8)] | rw [pIf_t (Int32.not_le.mp h8)] | rw [pIf_t (Int32.not_lt.mp h8)] | rw [pIf_f (Nat.not_lt.mpr h8)] | rw [pIf_f (Nat.not_le.mpr h8)] | rw [pIf_t (Nat.not_le.mp h8)] | rw [pIf_t (Nat.not_lt.mp h8)] | skip); (first | rw [pIf_t h18] | rw [pIf_f h18] | rw [pIf_f (Int32.not_lt.mpr h18)] | rw [pIf_f (Int32.not_le.mpr h18)] | rw [pIf_t (Int32.not_le.mp h18)] | rw [pIf_t (Int32.not_lt.mp h18)] | rw [pIf_f (Nat.not_lt.mpr h18)] | rw [pIf_f (Nat.not_le.mpr h18)] | rw [pIf_t (Nat.not_le.mp h18)] | rw [pIf_t (Nat.not_lt.mp h18)] | skip); (first | rw [pIf_t h23] | rw [pIf_f h23] | rw [pIf_f (Int32.not_lt.mpr h23)] | rw [pIf_f (Int32.not_le.mpr h23)] | rw [pIf_t (Int32.not_le.mp h23)] | rw [pIf_t (Int32.not_lt.mp h23)] | rw [pIf_f (Nat.not_lt.mpr h23)] | rw [pIf_f (Nat.not_le.mpr h23)] | rw [pIf_t (Nat.not_le.mp h23)] | rw [pIf_t (Nat.not_lt.mp h23)] | skip); (first | rw [pIf_t (show (0 : Int32) = 0 from rfl)] | rw [pIf_f (show (0 : Int32) = 0 from rfl)] | rw [pIf_f (Int32.not_lt.mpr (show (0 : Int32) = 0 from rfl))] | rw [pIf_f (Int32.not_le.mpr (show (0 : Int32) = 0 from rfl))] | rw [pIf_t (Int32.not_le.mp (show (0 : Int32) = 0 from rfl))] | rw [pIf_t (Int32.not_lt.mp (show (0 : Int32) = 0 from rfl))] | rw [pIf_f (Nat.not_lt.mpr (show (0 : Int32) = 0 from rfl))] | rw [pIf_f (Nat.not_le.mpr (show (0 : Int32) = 0 from rfl))] | rw [pIf_t (Nat.not_le.mp (show (0 : Int32) = 0 from rfl))] | rw [pIf_t (Nat.not_lt.mp (show (0 : Int32) = 0 from rfl))] | skip); (first | rw [pIf_t h42] | rw [pIf_f h42] | rw [pIf_f (Int32.not_lt.mpr h42)] | rw [pIf_f (Int32.not_le.mpr h42)] | rw [pIf_t (Int32.not_le.mp h42)] | rw [pIf_t (Int32.not_lt.mp h42)] | rw [pIf_f (Nat.not_lt.mpr h42)] | rw [pIf_f (Nat.not_le.mpr h42)] | rw [pIf_t (Nat.not_le.mp h42)] | rw [pIf_t (Nat.not_lt.mp h42)] | skip); (first | rw [pIf_t h50] | rw [pIf_f h50] | rw [pIf_f (Int32.not_lt.mpr h50)] | rw [pIf_f (Int32.not_le.mpr h50)] | rw [pIf_t (Int32.not_le.mp h50)] | rw [pIf_t (Int32.not_lt.mp h50)] | rw [pIf_f (Nat.not_lt.mpr h50)] | rw [pIf_f (Nat.not_le.mpr h50)] | rw [pIf_t (Nat.not_le.mp h50)] | rw [pIf_t (Nat.not_lt.mp h50)] | skip); (first | rw [pIf_t h64] | rw [pIf_f h64] | rw [pIf_f (Int32.not_lt.mpr h64)] | rw [pIf_f (Int32.not_le.mpr h64)] | rw [pIf_t (Int32.not_le.mp h64)] | rw [pIf_t (Int32.not_lt.mp h64)] | rw [pIf_f (Nat.not_lt.mpr h64)] | rw [pIf_f (Nat.not_le.mpr h64)] | rw [pIf_t (Nat.not_le.mp h64)] | rw [pIf_t (Nat.not_lt.mp h64)] | skip); (try rw [nI_clamp (show p < 2 ^ 31 from by omega)]); exact ⟨rfl, rfl⟩⟩)
          ·
            exact absurd h42 (by decide)
        ·
          refine aw_iconst (v := 2) dX7_alter_33 (by decide) ?_
          refine aw_iload_n (i := 2) dX7_alter_34 rfl rfl ?_
          refine aw_iadd dX7_alter_35 ?_
          refine aw_top (show (2 : Int32) + 1 = 3 from by decide) ?_
          refine aw_istore (i := 4) dX7_alter_36 (by decide) ?_
          refine aw_iload_n (i := 3) dX7_alter_38 rfl rfl ?_
          refine aw_iload (i := 4) dX7_alter_39 rfl ?_
          refine aw_iconst (v := 3) dX7_alter_41 (by decide) ?_
          refine aw_icmp_ne (tgt := 49) dX7_alter_42 (by decide) (fun h42 => ?_) (fun h42 => ?_)
          ·
            exact absurd h42 (by decide)
          ·
            refine aw_iconst (v := 1) dX7_alter_45 (by decide) ?_
            refine aw_goto (tgt := 50) dX7_alter_46 (by decide) ?_
            refine aw_icmp_lt (tgt := 67) dX7_alter_50 (by decide) (fun h50 => ?_) (fun h50 => ?_)
            ·
              refine aw_aload_n (i := 0) dX7_alter_67 rfl rfl ?_
              refine aw_bipush (v := (-6)) dX7_alter_68 (by decide) ?_
              refine aw_cVi ck_X7_86 (m_X7_refuse (k := 5) (by decide) (by decide)) sh_0 rfl (by decide) (by decide) rfl rfl (Nat.le_of_ble_eq_true rfl) dX7_alter_70 ?_
              exact aw_iret rfl dX7_alter_73 (by first | contradiction | exact ⟨_, rfl, by unfold S_alter; (try rw [nI_clamp (show p < 2 ^ 31 from by omega)]); (first | rw [pIf_t h8] | rw [pIf_f h8] | rw [pIf_f (Int32.not_lt.mpr h8)] | rw [pIf_f (Int32.not_le.mpr h8)] | rw [pIf_t (Int32.not_le.mp h8)] | rw [pIf_t (Int32.not_lt.mp h8)] | rw [pIf_f (Nat.not_lt.mpr h8)] | rw [pIf_f (Nat.not_le.mpr h8)] | rw [pIf_t (Nat.not_le.mp h8)] | rw [pIf_t (Nat.not_lt.mp h8)] | skip); (first | rw [pIf_t h18] | rw [pIf_f h18] | rw [pIf_f (Int32.not_lt.mpr h18)] | rw [pIf_f (Int32.not_le.mpr h18)] | rw [pIf_t (Int32.not_le.mp h18)] | rw [pIf_t (Int32.not_lt.mp h18)] | rw [pIf_f (Nat.not_lt.mpr h18)] | rw [pIf_f (Nat.not_le.mpr h18)] | rw [pIf_t (Nat.not_le.mp h18)] | rw [pIf_t (Nat.not_lt.mp h18)] | skip); (first | rw [pIf_t h23] | rw [pIf_f h23] | rw [pIf_f (Int32.not_lt.mpr h23)] | rw [pIf_f (Int32.not_le.mpr h23)] | rw [pIf_t (Int32.not_le.mp h23)] | rw [pIf_t (Int32.not_lt.mp h23)] | rw [pIf_f (Nat.not_lt.mpr h23)] | rw [pIf_f (Nat.not_le.mpr h23)] | rw [pIf_t (Nat.not_le.mp h23)] | rw [pIf_t (Nat.not_lt.mp h23)] | skip); (first | rw [pIf_t (show ¬ (1 : Int32) = 0 from by decide)] | rw [pIf_f (show ¬ (1 : Int32) = 0 from by decide)] | rw [pIf_f (Int32.not_lt.mpr (show ¬ (1 : Int32) = 0 from by decide))] | rw [pIf_f (Int32.not_le.mpr (show ¬ (1 : Int32) = 0 from by decide))] | rw [pIf_t (Int32.not_le.mp (show ¬ (1 : Int32) = 0 from by decide))] | rw [pIf_t (Int32.not_lt.mp (show ¬ (1 : Int32) = 0 from by decide))] | rw [pIf_f (Nat.not_lt.mpr (show ¬ (1 : Int32) = 0 from by decide))] | rw [pIf_f (Nat.not_le.mpr (show ¬ (1 : Int32) = 0 from by decide))] | rw [pIf_t (Nat.not_le.mp (show ¬ (1 : Int32) = 0 from by decide))] | rw [pIf_t (Nat.not_lt.mp (show ¬ (1 : Int32) = 0 from by decide))] | skip); (first | rw [pIf_t (show (1 : Int32) = 1 from rfl)] | rw [pIf_f (show (1 : Int32) = 1 from rfl)] | rw [pIf_f (Int32.not_lt.mpr (show (1 : Int32) = 1 from rfl))] | rw [pIf_f (Int32.not_le.mpr (show (1 : Int32) = 1 from rfl))] | rw [pIf_t (Int32.not_le.mp (show (1 : Int32) = 1 from rfl))] | rw [pIf_t (Int32.not_lt.mp (show (1 : Int32) = 1 from rfl))] | rw [pIf_f (Nat.not_lt.mpr (show (1 : Int32) = 1 from rfl))] | rw [pIf_f (Nat.not_le.mpr (show (1 : Int32) = 1 from rfl))] | rw [pIf_t (Nat.not_le.mp (show (1 : Int32) = 1 from rfl))] | rw [pIf_t (Nat.not_lt.mp (show (1 : Int32) = 1 from rfl))] | skip); (first | rw [pIf_t h42] | rw [pIf_f h42] | rw [pIf_f (Int32.not_lt.mpr h42)] | rw [pIf_f (Int32.not_le.mpr h42)] | rw [pIf_t (Int32.not_le.mp h42)] | rw [pIf_t (Int32.not_lt.mp h42)] | rw [pIf_f (Nat.not_lt.mpr h42)] | rw [pIf_f (Nat.not_le.mpr h42)] | rw [pIf_t (Nat.not_le.mp h42)] | rw [pIf_t (Nat.not_lt.mp h42)] | skip); (first | rw [pIf_t h50] | rw [pIf_f h50] | rw [pIf_f (Int32.not_lt.mpr h50)] | rw [pIf_f (Int32.not_le.mpr h50)] | rw [pIf_t (Int32.not_le.mp h50)] | rw [pIf_t (Int32.not_lt.mp h50)] | rw [pIf_f (Nat.not_lt.mpr h50)] | rw [pIf_f (Nat.not_le.mpr h50)] | rw [pIf_t (Nat.not_le.mp h50)] | rw [pIf_t (Nat.not_lt.mp h50)] | skip); (try rw [nI_clamp (show p < 2 ^ 31 from by omega)]); exact ⟨rfl, rfl⟩⟩)
            ·
              refine aw_iload_n (i := 3) dX7_alter_53 rfl rfl ?_
              refine aw_aload_n (i := 0) dX7_alter_54 rfl rfl ?_
              refine aw_getR gf_X7_19 sh_0 rfl dX7_alter_55 ?_
              refine aw_iload_n (i := 1) dX7_alter_58 rfl rfl ?_
              refine aw_iload (i := 4) dX7_alter_59 rfl ?_
              refine aw_cVi ck_X7_169 (m_X1_mostOf (t := 3) (by simp [isC] : isC 14) (by omega) (by decide)) sh_14 rfl (by decide) (by decide) rfl rfl (Nat.le_of_ble_eq_true rfl) dX7_alter_61 ?_
              refine aw_top (if_pos rfl) ?_
              refine aw_icmp_le (tgt := 74) dX7_alter_64 (by decide) (fun h64 => ?_) (fun h64 => ?_)
              ·
                refine aw_aload_n (i := 0) dX7_alter_74 rfl rfl ?_
                refine aw_getR gf_X7_19 sh_0 rfl dX7_alter_75 ?_
                refine aw_getR gf_X7_159 sh_14 rfl dX7_alter_78 ?_
                refine aw_iload (i := 4) dX7_alter_81 rfl ?_
                refine aw_top (show (3 : Int32) = nI 3 from rfl) ?_
                refine aw_aaldN (t := 0) sh_15 (by decide) (by omega) (by decide) dX7_alter_83 ?_
                refine aw_iload_n (i := 1) dX7_alter_84 rfl rfl ?_
                refine aw_ialdN (shC_r (c := 14) (by simp [isC]) 3 (by omega)) (by omega) (by omega) dX7_alter_85 ?_
                refine aw_istore (i := 5) dX7_alter_86 (by decide) ?_
                refine aw_aload_n (i := 0) dX7_alter_88 rfl rfl ?_
                refine aw_getR gf_X7_19 sh_0 rfl dX7_alter_89 ?_
                refine aw_getR gf_X7_159 sh_14 rfl dX7_alter_92 ?_
                refine aw_iload (i := 4) dX7_alter_95 rfl ?_
                refine aw_top (show (3 : Int32) = nI 3 from rfl) ?_
                refine aw_aaldN (t := 0) sh_15 (by decide) (by omega) (by decide) dX7_alter_97 ?_
                refine aw_iload_n (i := 1) dX7_alter_98 rfl rfl ?_
                refine aw_iload_n (i := 3) dX7_alter_99 rfl rfl ?_
                refine aw_iastN (shC_r (c := 14) (by simp [isC]) 3 (by omega)) (by omega) (by omega) dX7_alter_100 ?_
                refine aw_iload (i := 4) dX7_alter_101 rfl ?_
                refine aw_iconst (v := 3) dX7_alter_103 (by decide) ?_
                refine aw_icmp_ne (tgt := 129) dX7_alter_104 (by decide) (fun h104 => ?_) (fun h104 => ?_)
                ·
                  exact absurd h104 (by decide)
                ·
                  refine aw_aload_n (i := 0) dX7_alter_107 rfl rfl ?_
                  refine aw_getR gf_X7_19 sh_0 rfl dX7_alter_108 ?_
                  refine aw_getR gf_X7_172 sh_14 rfl dX7_alter_111 ?_
                  refine aw_iload_n (i := 1) dX7_alter_114 rfl rfl ?_
                  refine aw_aload_n (i := 0) dX7_alter_115 rfl rfl ?_
                  refine aw_getR gf_X7_19 sh_0 rfl dX7_alter_116 ?_
                  refine aw_getR gf_X7_172 sh_14 rfl dX7_alter_119 ?_
                  refine aw_iload_n (i := 1) dX7_alter_122 rfl rfl ?_
                  refine aw_ialdN sh_21 (by omega) (by omega) dX7_alter_123 ?_
                  refine aw_iload_n (i := 3) dX7_alter_124 rfl rfl ?_
                  refine aw_cSi ck_X7_175 m_X7_modulo (by decide) (by decide) rfl rfl (Nat.le_of_ble_eq_true rfl) dX7_alter_125 ?_
                  refine aw_iastN sh_21 (by omega) (by omega) dX7_alter_128 ?_
                  refine aw_iload (i := 5) dX7_alter_129 rfl ?_
                  exact aw_iret rfl dX7_alter_131 (by first | contradiction | exact ⟨_, rfl, by unfold S_alter; (try rw [nI_clamp (show p < 2 ^ 31 from by omega)]); (first | rw [pIf_t h8] | rw [pIf_f h8] | rw [pIf_f (Int32.not_lt.mpr h8)] | rw [pIf_f (Int32.not_le.mpr h8)] | rw [pIf_t (Int32.not_le.mp h8)] | rw [pIf_t (Int32.not_lt.mp h8)] | rw [pIf_f (Nat.not_lt.mpr h8)] | rw [pIf_f (Nat.not_le.mpr h8)] | rw [pIf_t (Nat.not_le.mp h8)] | rw [pIf_t (Nat.not_lt.mp h8)] | skip); (first | rw [pIf_t h18] | rw [pIf_f h18] | rw [pIf_f (Int32.not_lt.mpr h18)] | rw [pIf_f (Int32.not_le.mpr h18)] | rw [pIf_t (Int32.not_le.mp h18)] | rw [pIf_t (Int32.not_lt.mp h18)] | rw [pIf_f (Nat.not_lt.mpr h18)] | rw [pIf_f (Nat.not_le.mpr h18)] | rw [pIf_t (Nat.not_le.mp h18)] | rw [pIf_t (Nat.not_lt.mp h18)] | skip); (first | rw [pIf_t h23] | rw [pIf_f h23] | rw [pIf_f (Int32.not_lt.mpr h23)] | rw [pIf_f (Int32.not_le.mpr h23)] | rw [pIf_t (Int32.not_le.mp h23)] | rw [pIf_t (Int32.not_lt.mp h23)] | rw [pIf_f (Nat.not_lt.mpr h23)] | rw [pIf_f (Nat.not_le.mpr h23)] | rw [pIf_t (Nat.not_le.mp h23)] | rw [pIf_t (Nat.not_lt.mp h23)] | skip); (first | rw [pIf_t (show ¬ (1 : Int32) = 0 from by decide)] | rw [pIf_f (show ¬ (1 : Int32) = 0 from by decide)] | rw [pIf_f (Int32.not_lt.mpr (show ¬ (1 : Int32) = 0 from by decide))] | rw [pIf_f (Int32.not_le.mpr (show ¬ (1 : Int32) = 0 from by decide))] | rw [pIf_t (Int32.not_le.mp (show ¬ (1 : Int32) = 0 from by decide))] | rw [pIf_t (Int32.not_lt.mp (show ¬ (1 : Int32) = 0 from by decide))] | rw [pIf_f (Nat.not_lt.mpr (show ¬ (1 : Int32) = 0 from by decide))] | rw [pIf_f (Nat.not_le.mpr (show ¬ (1 : Int32) = 0 from by decide))] | rw [pIf_t (Nat.not_le.mp (show ¬ (1 : Int32) = 0 from by decide))] | rw [pIf_t (Nat.not_lt.mp (show ¬ (1 : Int32) = 0 from by decide))] | skip); (first | rw [pIf_t (show (1 : Int32) = 1 from rfl)] | rw [pIf_f (show (1 : Int32) = 1 from rfl)] | rw [pIf_f (Int32.not_lt.mpr (show (1 : Int32) = 1 from rfl))] | rw [pIf_f (Int32.not_le.mpr (show (1 : Int32) = 1 from rfl))] | rw [pIf_t (Int32.not_le.mp (show (1 : Int32) = 1 from rfl))] | rw [pIf_t (Int32.not_lt.mp (show (1 : Int32) = 1 from rfl))] | rw [pIf_f (Nat.not_lt.mpr (show (1 : Int32) = 1 from rfl))] | rw [pIf_f (Nat.not_le.mpr (show (1 : Int32) = 1 from rfl))] | rw [pIf_t (Nat.not_le.mp (show (1 : Int32) = 1 from rfl))] | rw [pIf_t (Nat.not_lt.mp (show (1 : Int32) = 1 from rfl))] | skip); (first | rw [pIf_t h42] | rw [pIf_f h42] | rw [pIf_f (Int32.not_lt.mpr h42)] | rw [pIf_f (Int32.not_le.mpr h42)] | rw [pIf_t (Int32.not_le.mp h42)] | rw [pIf_t (Int32.not_lt.mp h42)] | rw [pIf_f (Nat.not_lt.mpr h42)] | rw [pIf_f (Nat.not_le.mpr h42)] | rw [pIf_t (Nat.not_le.mp h42)] | rw [pIf_t (Nat.not_lt.mp h42)] | skip); (first | rw [pIf_t h50] | rw [pIf_f h50] | rw [pIf_f (Int32.not_lt.mpr h50)] | rw [pIf_f (Int32.not_le.mpr h50)] | rw [pIf_t (Int32.not_le.mp h50)] | rw [pIf_t (Int32.not_lt.mp h50)] | rw [pIf_f (Nat.not_lt.mpr h50)] | rw [pIf_f (Nat.not_le.mpr h50)] | rw [pIf_t (Nat.not_le.mp h50)] | rw [pIf_t (Nat.not_lt.mp h50)] | skip); (first | rw [pIf_t h64] | rw [pIf_f h64] | rw [pIf_f (Int32.not_lt.mpr h64)] | rw [pIf_f (Int32.not_le.mpr h64)] | rw [pIf_t (Int32.not_le.mp h64)] | rw [pIf_t (Int32.not_lt.mp h64)] | rw [pIf_f (Nat.not_lt.mpr h64)] | rw [pIf_f (Nat.not_le.mpr h64)] | rw [pIf_t (Nat.not_le.mp h64)] | rw [pIf_t (Nat.not_lt.mp h64)] | skip); (first | rw [pIf_t h104] | rw [pIf_f h104] | rw [pIf_f (Int32.not_lt.mpr h104)] | rw [pIf_f (Int32.not_le.mpr h104)] | rw [pIf_t (Int32.not_le.mp h104)] | rw [pIf_t (Int32.not_lt.mp h104)] | rw [pIf_f (Nat.not_lt.mpr h104)] | rw [pIf_f (Nat.not_le.mpr h104)] | rw [pIf_t (Nat.not_le.mp h104)] | rw [pIf_t (Nat.not_lt.mp h104)] | skip); (try rw [nI_clamp (show p < 2 ^ 31 from by omega)]); exact ⟨rfl, rfl⟩⟩)
              ·
                refine aw_aload_n (i := 0) dX7_alter_67 rfl rfl ?_
                refine aw_bipush (v := (-6)) dX7_alter_68 (by decide) ?_
                refine aw_cVi ck_X7_86 (m_X7_refuse (k := 5) (by decide) (by decide)) sh_0 rfl (by decide) (by decide) rfl rfl (Nat.le_of_ble_eq_true rfl) dX7_alter_70 ?_
                exact aw_iret rfl dX7_alter_73 (by first | contradiction | exact ⟨_, rfl, by unfold S_alter; (try rw [nI_clamp (show p < 2 ^ 31 from by omega)]); (first | rw [pIf_t h8] | rw [pIf_f h8] | rw [pIf_f (Int32.not_lt.mpr h8)] | rw [pIf_f (Int32.not_le.mpr h8)] | rw [pIf_t (Int32.not_le.mp h8)] | rw [pIf_t (Int32.not_lt.mp h8)] | rw [pIf_f (Nat.not_lt.mpr h8)] | rw [pIf_f (Nat.not_le.mpr h8)] | rw [pIf_t (Nat.not_le.mp h8)] | rw [pIf_t (Nat.not_lt.mp h8)] | skip); (first | rw [pIf_t h18] | rw [pIf_f h18] | rw [pIf_f (Int32.not_lt.mpr h18)] | rw [pIf_f (Int32.not_le.mpr h18)] | rw [pIf_t (Int32.not_le.mp h18)] | rw [pIf_t (Int32.not_lt.mp h18)] | rw [pIf_f (Nat.not_lt.mpr h18)] | rw [pIf_f (Nat.not_le.mpr h18)] | rw [pIf_t (Nat.not_le.mp h18)] | rw [pIf_t (Nat.not_lt.mp h18)] | skip); (first | rw [pIf_t h23] | rw [pIf_f h23] | rw [pIf_f (Int32.not_lt.mpr h23)] | rw [pIf_f (Int32.not_le.mpr h23)] | rw [pIf_t (Int32.not_le.mp h23)] | rw [pIf_t (Int32.not_lt.mp h23)] | rw [pIf_f (Nat.not_lt.mpr h23)] | rw [pIf_f (Nat.not_le.mpr h23)] | rw [pIf_t (Nat.not_le.mp h23)] | rw [pIf_t (Nat.not_lt.mp h23)] | skip); (first | rw [pIf_t (show ¬ (1 : Int32) = 0 from by decide)] | rw [pIf_f (show ¬ (1 : Int32) = 0 from by decide)] | rw [pIf_f (Int32.not_lt.mpr (show ¬ (1 : Int32) = 0 from by decide))] | rw [pIf_f (Int32.not_le.mpr (show ¬ (1 : Int32) = 0 from by decide))] | rw [pIf_t (Int32.not_le.mp (show ¬ (1 : Int32) = 0 from by decide))] | rw [pIf_t (Int32.not_lt.mp (show ¬ (1 : Int32) = 0 from by decide))] | rw [pIf_f (Nat.not_lt.mpr (show ¬ (1 : Int32) = 0 from by decide))] | rw [pIf_f (Nat.not_le.mpr (show ¬ (1 : Int32) = 0 from by decide))] | rw [pIf_t (Nat.not_le.mp (show ¬ (1 : Int32) = 0 from by decide))] | rw [pIf_t (Nat.not_lt.mp (show ¬ (1 : Int32) = 0 from by decide))] | skip); (first | rw [pIf_t (show (1 : Int32) = 1 from rfl)] | rw [pIf_f (show (1 : Int32) = 1 from rfl)] | rw [pIf_f (Int32.not_lt.mpr (show (1 : Int32) = 1 from rfl))] | rw [pIf_f (Int32.not_le.mpr (show (1 : Int32) = 1 from rfl))] | rw [pIf_t (Int32.not_le.mp (show (1 : Int32) = 1 from rfl))] | rw [pIf_t (Int32.not_lt.mp (show (1 : Int32) = 1 from rfl))] | rw [pIf_f (Nat.not_lt.mpr (show (1 : Int32) = 1 from rfl))] | rw [pIf_f (Nat.not_le.mpr (show (1 : Int32) = 1 from rfl))] | rw [pIf_t (Nat.not_le.mp (show (1 : Int32) = 1 from rfl))] | rw [pIf_t (Nat.not_lt.mp (show (1 : Int32) = 1 from rfl))] | skip); (first | rw [pIf_t h42] | rw [pIf_f h42] | rw [pIf_f (Int32.not_lt.mpr h42)] | rw [pIf_f (Int32.not_le.mpr h42)] | rw [pIf_t (Int32.not_le.mp h42)] | rw [pIf_t (Int32.not_lt.mp h42)] | rw [pIf_f (Nat.not_lt.mpr h42)] | rw [pIf_f (Nat.not_le.mpr h42)] | rw [pIf_t (Nat.not_le.mp h42)] | rw [pIf_t (Nat.not_lt.mp h42)] | skip); (first | rw [pIf_t h50] | rw [pIf_f h50] | rw [pIf_f (Int32.not_lt.mpr h50)] | rw [pIf_f (Int32.not_le.mpr h50)] | rw [pIf_t (Int32.not_le.mp h50)] | rw [pIf_t (Int32.not_lt.mp h50)] | rw [pIf_f (Nat.not_lt.mpr h50)] | rw [pIf_f (Nat.not_le.mpr h50)] | rw [pIf_t (Nat.not_le.mp h50)] | rw [pIf_t (Nat.not_lt.mp h50)] | skip); (first | rw [pIf_t h64] | rw [pIf_f h64] | rw [pIf_f (Int32.not_lt.mpr h64)] | rw [pIf_f (Int32.not_le.mpr h64)] | rw [pIf_t (Int32.not_le.mp h64)] | rw [pIf_t (Int32.not_lt.mp h64)] | rw [pIf_f (Nat.not_lt.mpr h64)] | rw [pIf_f (Nat.not_le.mpr h64)] | rw [pIf_t (Nat.not_le.mp h64)] | rw [pIf_t (Nat.not_lt.mp h64)] | skip); (try rw [nI_clamp (show p < 2 ^ 31 from by omega)]); exact ⟨rfl, rfl⟩⟩)
        ·
          refine aw_iconst (v := 2) dX7_alter_33 (by decide) ?_
          refine aw_iload_n (i := 2) dX7_alter_34 rfl rfl ?_
          refine aw_iadd dX7_alter_35 ?_
          refine aw_top (show (2 : Int32) + 2 = 4 from by decide) ?_
          refine aw_istore (i := 4) dX7_alter_36 (by decide) ?_
          refine aw_iload_n (i := 3) dX7_alter_38 rfl rfl ?_
          refine aw_iload (i := 4) dX7_alter_39 rfl ?_
          refine aw_iconst (v := 3) dX7_alter_41 (by decide) ?_
          refine aw_icmp_ne (tgt := 49) dX7_alter_42 (by decide) (fun h42 => ?_) (fun h42 => ?_)
          ·
            refine aw_iconst (v := 0) dX7_alter_49 (by decide) ?_
            refine aw_icmp_lt (tgt := 67) dX7_alter_50 (by decide) (fun h50 => ?_) (fun h50 => ?_)
            ·
              refine aw_aload_n (i := 0) dX7_alter_67 rfl rfl ?_
              refine aw_bipush (v := (-6)) dX7_alter_68 (by decide) ?_
              refine aw_cVi ck_X7_86 (m_X7_refuse (k := 5) (by decide) (by decide)) sh_0 rfl (by decide) (by decide) rfl rfl (Nat.le_of_ble_eq_true rfl) dX7_alter_70 ?_
              exact aw_iret rfl dX7_alter_73 (by first | contradiction | exact ⟨_, rfl, by unfold S_alter; (try rw [nI_clamp (show p < 2 ^ 31 from by omega)]); (first | rw [pIf_t h8] | rw [pIf_f h8] | rw [pIf_f (Int32.not_lt.mpr h8)] | rw [pIf_f (Int32.not_le.mpr h8)] | rw [pIf_t (Int32.not_le.mp h8)] | rw [pIf_t (Int32.not_lt.mp h8)] | rw [pIf_f (Nat.not_lt.mpr h8)] | rw [pIf_f (Nat.not_le.mpr h8)] | rw [pIf_t (Nat.not_le.mp h8)] | rw [pIf_t (Nat.not_lt.mp h8)] | skip); (first | rw [pIf_t h18] | rw [pIf_f h18] | rw [pIf_f (Int32.not_lt.mpr h18)] | rw [pIf_f (Int32.not_le.mpr h18)] | rw [pIf_t (Int32.not_le.mp h18)] | rw [pIf_t (Int32.not_lt.mp h18)] | rw [pIf_f (Nat.not_lt.mpr h18)] | rw [pIf_f (Nat.not_le.mpr h18)] | rw [pIf_t (Nat.not_le.mp h18)] | rw [pIf_t (Nat.not_lt.mp h18)] | skip); (first | rw [pIf_t h23] | rw [pIf_f h23] | rw [pIf_f (Int32.not_lt.mpr h23)] | rw [pIf_f (Int32.not_le.mpr h23)] | rw [pIf_t (Int32.not_le.mp h23)] | rw [pIf_t (Int32.not_lt.mp h23)] | rw [pIf_f (Nat.not_lt.mpr h23)] | rw [pIf_f (Nat.not_le.mpr h23)] | rw [pIf_t (Nat.not_le.mp h23)] | rw [pIf_t (Nat.not_lt.mp h23)] | skip); (first | rw [pIf_t (show ¬ (2 : Int32) = 0 from by decide)] | rw [pIf_f (show ¬ (2 : Int32) = 0 from by decide)] | rw [pIf_f (Int32.not_lt.mpr (show ¬ (2 : Int32) = 0 from by decide))] | rw [pIf_f (Int32.not_le.mpr (show ¬ (2 : Int32) = 0 from by decide))] | rw [pIf_t (Int32.not_le.mp (show ¬ (2 : Int32) = 0 from by decide))] | rw [pIf_t (Int32.not_lt.mp (show ¬ (2 : Int32) = 0 from by decide))] | rw [pIf_f (Nat.not_lt.mpr (show ¬ (2 : Int32) = 0 from by decide))] | rw [pIf_f (Nat.not_le.mpr (show ¬ (2 : Int32) = 0 from by decide))] | rw [pIf_t (Nat.not_le.mp (show ¬ (2 : Int32) = 0 from by decide))] | rw [pIf_t (Nat.not_lt.mp (show ¬ (2 : Int32) = 0 from by decide))] | skip); (first | rw [pIf_t (show ¬ (2 : Int32) = 1 from by decide)] | rw [pIf_f (show ¬ (2 : Int32) = 1 from by decide)] | rw [pIf_f (Int32.not_lt.mpr (show ¬ (2 : Int32) = 1 from by decide))] | rw [pIf_f (Int32.not_le.mpr (show ¬ (2 : Int32) = 1 from by decide))] | rw [pIf_t (Int32.not_le.mp (show ¬ (2 : Int32) = 1 from by decide))] | rw [pIf_t (Int32.not_lt.mp (show ¬ (2 : Int32) = 1 from by decide))] | rw [pIf_f (Nat.not_lt.mpr (show ¬ (2 : Int32) = 1 from by decide))] | rw [pIf_f (Nat.not_le.mpr (show ¬ (2 : Int32) = 1 from by decide))] | rw [pIf_t (Nat.not_le.mp (show ¬ (2 : Int32) = 1 from by decide))] | rw [pIf_t (Nat.not_lt.mp (show ¬ (2 : Int32) = 1 from by decide))] | skip); (first | rw [pIf_t (show (2 : Int32) = 2 from rfl)] | rw [pIf_f (show (2 : Int32) = 2 from rfl)] | rw [pIf_f (Int32.not_lt.mpr (show (2 : Int32) = 2 from rfl))] | rw [pIf_f (Int32.not_le.mpr (show (2 : Int32) = 2 from rfl))] | rw [pIf_t (Int32.not_le.mp (show (2 : Int32) = 2 from rfl))] | rw [pIf_t (Int32.not_lt.mp (show (2 : Int32) = 2 from rfl))] | rw [pIf_f (Nat.not_lt.mpr (show (2 : Int32) = 2 from rfl))] | rw [pIf_f (Nat.not_le.mpr (show (2 : Int32) = 2 from rfl))] | rw [pIf_t (Nat.not_le.mp (show (2 : Int32) = 2 from rfl))] | rw [pIf_t (Nat.not_lt.mp (show (2 : Int32) = 2 from rfl))] | skip); (first | rw [pIf_t h42] | rw [pIf_f h42] | rw [pIf_f (Int32.not_lt.mpr h42)] | rw [pIf_f (Int32.not_le.mpr h42)] | rw [pIf_t (Int32.not_le.mp h42)] | rw [pIf_t (Int32.not_lt.mp h42)] | rw [pIf_f (Nat.not_lt.mpr h42)] | rw [pIf_f (Nat.not_le.mpr h42)] | rw [pIf_t (Nat.not_le.mp h42)] | rw [pIf_t (Nat.not_lt.mp h42)] | skip); (first | rw [pIf_t h50] | rw [pIf_f h50] | rw [pIf_f (Int32.not_lt.mpr h50)] | rw [pIf_f (Int32.not_le.mpr h50)] | rw [pIf_t (Int32.not_le.mp h50)] | rw [pIf_t (Int32.not_lt.mp h50)] | rw [pIf_f (Nat.not_lt.mpr h50)] | rw [pIf_f (Nat.not_le.mpr h50)] | rw [pIf_t (Nat.not_le.mp h50)] | rw [pIf_t (Nat.not_lt.mp h50)] | skip); (try rw [nI_clamp (show p < 2 ^ 31 from by omega)]); exact ⟨rfl, rfl⟩⟩)
            ·
              refine aw_iload_n (i := 3) dX7_alter_53 rfl rfl ?_
              refine aw_aload_n (i := 0) dX7_alter_54 rfl rfl ?_
              refine aw_getR gf_X7_19 sh_0 rfl dX7_alter_55 ?_
              refine aw_iload_n (i := 1) dX7_alter_58 rfl rfl ?_
              refine aw_iload (i := 4) dX7_alter_59 rfl ?_
              refine aw_cVi ck_X7_169 (m_X1_mostOf (t := 4) (by simp [isC] : isC 14) (by omega) (by decide)) sh_14 rfl (by decide) (by decide) rfl rfl (Nat.le_of_ble_eq_true rfl) dX7_alter_61 ?_
              refine aw_top ((if_neg (by decide)).trans (if_neg (by decide))) ?_
              refine aw_icmp_le (tgt := 74) dX7_alter_64 (by decide) (fun h64 => ?_) (fun h64 => ?_)
              ·
                refine aw_aload_n (i := 0) dX7_alter_74 rfl rfl ?_
                refine aw_getR gf_X7_19 sh_0 rfl dX7_alter_75 ?_
                refine aw_getR gf_X7_159 sh_14 rfl dX7_alter_78 ?_
                refine aw_iload (i := 4) dX7_alter_81 rfl ?_
                refine aw_top (show (4 : Int32) = nI 4 from rfl) ?_
                refine aw_aaldN (t := 0) sh_15 (by decide) (by omega) (by decide) dX7_alter_83 ?_
                refine aw_iload_n (i := 1) dX7_alter_84 rfl rfl ?_
                refine aw_ialdN (shC_r (c := 14) (by simp [isC]) 4 (by omega)) (by omega) (by omega) dX7_alter_85 ?_
                refine aw_istore (i := 5) dX7_alter_86 (by decide) ?_
                refine aw_aload_n (i := 0) dX7_alter_88 rfl rfl ?_
                refine aw_getR gf_X7_19 sh_0 rfl dX7_alter_89 ?_
                refine aw_getR gf_X7_159 sh_14 rfl dX7_alter_92 ?_
                refine aw_iload (i := 4) dX7_alter_95 rfl ?_
                refine aw_top (show (4 : Int32) = nI 4 from rfl) ?_
                refine aw_aaldN (t := 0) sh_15 (by decide) (by omega) (by decide) dX7_alter_97 ?_
                refine aw_iload_n (i := 1) dX7_alter_98 rfl rfl ?_
                refine aw_iload_n (i := 3) dX7_alter_99 rfl rfl ?_
                refine aw_iastN (shC_r (c := 14) (by simp [isC]) 4 (by omega)) (by omega) (by omega) dX7_alter_100 ?_
                refine aw_iload (i := 4) dX7_alter_101 rfl ?_
                refine aw_iconst (v := 3) dX7_alter_103 (by decide) ?_
                refine aw_icmp_ne (tgt := 129) dX7_alter_104 (by decide) (fun h104 => ?_) (fun h104 => ?_)
                ·
                  refine aw_iload (i := 5) dX7_alter_129 rfl ?_
                  exact aw_iret rfl dX7_alter_131 (by first | contradiction | exact ⟨_, rfl, by unfold S_alter; (try rw [nI_clamp (show p < 2 ^ 31 from by omega)]); (first | rw [pIf_t h8] | rw [pIf_f h8] | rw [pIf_f (Int32.not_lt.mpr h8)] | rw [pIf_f (Int32.not_le.mpr h8)] | rw [pIf_t (Int32.not_le.mp h8)] | rw [pIf_t (Int32.not_lt.mp h8)] | rw [pIf_f (Nat.not_lt.mpr h8)] | rw [pIf_f (Nat.not_le.mpr h8)] | rw [pIf_t (Nat.not_le.mp h8)] | rw [pIf_t (Nat.not_lt.mp h8)] | skip); (first | rw [pIf_t h18] | rw [pIf_f h18] | rw [pIf_f (Int32.not_lt.mpr h18)] | rw [pIf_f (Int32.not_le.mpr h18)] | rw [pIf_t (Int32.not_le.mp h18)] | rw [pIf_t (Int32.not_lt.mp h18)] | rw [pIf_f (Nat.not_lt.mpr h18)] | rw [pIf_f (Nat.not_le.mpr h18)] | rw [pIf_t (Nat.not_le.mp h18)] | rw [pIf_t (Nat.not_lt.mp h18)] | skip); (first | rw [pIf_t h23] | rw [pIf_f h23] | rw [pIf_f (Int32.not_lt.mpr h23)] | rw [pIf_f (Int32.not_le.mpr h23)] | rw [pIf_t (Int32.not_le.mp h23)] | rw [pIf_t (Int32.not_lt.mp h23)] | rw [pIf_f (Nat.not_lt.mpr h23)] | rw [pIf_f (Nat.not_le.mpr h23)] | rw [pIf_t (Nat.not_le.mp h23)] | rw [pIf_t (Nat.not_lt.mp h23)] | skip); (first | rw [pIf_t (show ¬ (2 : Int32) = 0 from by decide)] | rw [pIf_f (show ¬ (2 : Int32) = 0 from by decide)] | rw [pIf_f (Int32.not_lt.mpr (show ¬ (2 : Int32) = 0 from by decide))] | rw [pIf_f (Int32.not_le.mpr (show ¬ (2 : Int32) = 0 from by decide))] | rw [pIf_t (Int32.not_le.mp (show ¬ (2 : Int32) = 0 from by decide))] | rw [pIf_t (Int32.not_lt.mp (show ¬ (2 : Int32) = 0 from by decide))] | rw [pIf_f (Nat.not_lt.mpr (show ¬ (2 : Int32) = 0 from by decide))] | rw [pIf_f (Nat.not_le.mpr (show ¬ (2 : Int32) = 0 from by decide))] | rw [pIf_t (Nat.not_le.mp (show ¬ (2 : Int32) = 0 from by decide))] | rw [pIf_t (Nat.not_lt.mp (show ¬ (2 : Int32) = 0 from by decide))] | skip); (first | rw [pIf_t (show ¬ (2 : Int32) = 1 from by decide)] | rw [pIf_f (show ¬ (2 : Int32) = 1 from by decide)] | rw [pIf_f (Int32.not_lt.mpr (show ¬ (2 : Int32) = 1 from by decide))] | rw [pIf_f (Int32.not_le.mpr (show ¬ (2 : Int32) = 1 from by decide))] | rw [pIf_t (Int32.not_le.mp (show ¬ (2 : Int32) = 1 from by decide))] | rw [pIf_t (Int32.not_lt.mp (show ¬ (2 : Int32) = 1 from by decide))] | rw [pIf_f (Nat.not_lt.mpr (show ¬ (2 : Int32) = 1 from by decide))] | rw [pIf_f (Nat.not_le.mpr (show ¬ (2 : Int32) = 1 from by decide))] | rw [pIf_t (Nat.not_le.mp (show ¬ (2 : Int32) = 1 from by decide))] | rw [pIf_t (Nat.not_lt.mp (show ¬ (2 : Int32) = 1 from by decide))] | skip); (first | rw [pIf_t (show (2 : Int32) = 2 from rfl)] | rw [pIf_f (show (2 : Int32) = 2 from rfl)] | rw [pIf_f (Int32.not_lt.mpr (show (2 : Int32) = 2 from rfl))] | rw [pIf_f (Int32.not_le.mpr (show (2 : Int32) = 2 from rfl))] | rw [pIf_t (Int32.not_le.mp (show (2 : Int32) = 2 from rfl))] | rw [pIf_t (Int32.not_lt.mp (show (2 : Int32) = 2 from rfl))] | rw [pIf_f (Nat.not_lt.mpr (show (2 : Int32) = 2 from rfl))] | rw [pIf_f (Nat.not_le.mpr (show (2 : Int32) = 2 from rfl))] | rw [pIf_t (Nat.not_le.mp (show (2 : Int32) = 2 from rfl))] | rw [pIf_t (Nat.not_lt.mp (show (2 : Int32) = 2 from rfl))] | skip); (first | rw [pIf_t h42] | rw [pIf_f h42] | rw [pIf_f (Int32.not_lt.mpr h42)] | rw [pIf_f (Int32.not_le.mpr h42)] | rw [pIf_t (Int32.not_le.mp h42)] | rw [pIf_t (Int32.not_lt.mp h42)] | rw [pIf_f (Nat.not_lt.mpr h42)] | rw [pIf_f (Nat.not_le.mpr h42)] | rw [pIf_t (Nat.not_le.mp h42)] | rw [pIf_t (Nat.not_lt.mp h42)] | skip); (first | rw [pIf_t h50] | rw [pIf_f h50] | rw [pIf_f (Int32.not_lt.mpr h50)] | rw [pIf_f (Int32.not_le.mpr h50)] | rw [pIf_t (Int32.not_le.mp h50)] | rw [pIf_t (Int32.not_lt.mp h50)] | rw [pIf_f (Nat.not_lt.mpr h50)] | rw [pIf_f (Nat.not_le.mpr h50)] | rw [pIf_t (Nat.not_le.mp h50)] | rw [pIf_t (Nat.not_lt.mp h50)] | skip); (first | rw [pIf_t h64] | rw [pIf_f h64] | rw [pIf_f (Int32.not_lt.mpr h64)] | rw [pIf_f (Int32.not_le.mpr h64)] | rw [pIf_t (Int32.not_le.mp h64)] | rw [pIf_t (Int32.not_lt.mp h64)] | rw [pIf_f (Nat.not_lt.mpr h64)] | rw [pIf_f (Nat.not_le.mpr h64)] | rw [pIf_t (Nat.not_le.mp h64)] | rw [pIf_t (Nat.not_lt.mp h64)] | skip); (first | rw [pIf_t h104] | rw [pIf_f h104] | rw [pIf_f (Int32.not_lt.mpr h104)] | rw [pIf_f (Int32.not_le.mpr h104)] | rw [pIf_t (Int32.not_le.mp h104)] | rw [pIf_t (Int32.not_lt.mp h104)] | rw [pIf_f (Nat.not_lt.mpr h104)] | rw [pIf_f (Nat.not_le.mpr h104)] | rw [pIf_t (Nat.not_le.mp h104)] | rw [pIf_t (Nat.not_lt.mp h104)] | skip); (try rw [nI_clamp (show p < 2 ^ 31 from by omega)]); exact ⟨rfl, rfl⟩⟩)
                ·
                  exact absurd h104 (by decide)
              ·
                refine aw_aload_n (i := 0) dX7_alter_67 rfl rfl ?_
                refine aw_bipush (v := (-6)) dX7_alter_68 (by decide) ?_
                refine aw_cVi ck_X7_86 (m_X7_refuse (k := 5) (by decide) (by decide)) sh_0 rfl (by decide) (by decide) rfl rfl (Nat.le_of_ble_eq_true rfl) dX7_alter_70 ?_
                exact aw_iret rfl dX7_alter_73 (by first | contradiction | exact ⟨_, rfl, by unfold S_alter; (try rw [nI_clamp (show p < 2 ^ 31 from by omega)]); (first | rw [pIf_t h8] | rw [pIf_f h8] | rw [pIf_f (Int32.not_lt.mpr h8)] | rw [pIf_f (Int32.not_le.mpr h8)] | rw [pIf_t (Int32.not_le.mp h8)] | rw [pIf_t (Int32.not_lt.mp h8)] | rw [pIf_f (Nat.not_lt.mpr h8)] | rw [pIf_f (Nat.not_le.mpr h8)] | rw [pIf_t (Nat.not_le.mp h8)] | rw [pIf_t (Nat.not_lt.mp h8)] | skip); (first | rw [pIf_t h18] | rw [pIf_f h18] | rw [pIf_f (Int32.not_lt.mpr h18)] | rw [pIf_f (Int32.not_le.mpr h18)] | rw [pIf_t (Int32.not_le.mp h18)] | rw [pIf_t (Int32.not_lt.mp h18)] | rw [pIf_f (Nat.not_lt.mpr h18)] | rw [pIf_f (Nat.not_le.mpr h18)] | rw [pIf_t (Nat.not_le.mp h18)] | rw [pIf_t (Nat.not_lt.mp h18)] | skip); (first | rw [pIf_t h23] | rw [pIf_f h23] | rw [pIf_f (Int32.not_lt.mpr h23)] | rw [pIf_f (Int32.not_le.mpr h23)] | rw [pIf_t (Int32.not_le.mp h23)] | rw [pIf_t (Int32.not_lt.mp h23)] | rw [pIf_f (Nat.not_lt.mpr h23)] | rw [pIf_f (Nat.not_le.mpr h23)] | rw [pIf_t (Nat.not_le.mp h23)] | rw [pIf_t (Nat.not_lt.mp h23)] | skip); (first | rw [pIf_t (show ¬ (2 : Int32) = 0 from by decide)] | rw [pIf_f (show ¬ (2 : Int32) = 0 from by decide)] | rw [pIf_f (Int32.not_lt.mpr (show ¬ (2 : Int32) = 0 from by decide))] | rw [pIf_f (Int32.not_le.mpr (show ¬ (2 : Int32) = 0 from by decide))] | rw [pIf_t (Int32.not_le.mp (show ¬ (2 : Int32) = 0 from by decide))] | rw [pIf_t (Int32.not_lt.mp (show ¬ (2 : Int32) = 0 from by decide))] | rw [pIf_f (Nat.not_lt.mpr (show ¬ (2 : Int32) = 0 from by decide))] | rw [pIf_f (Nat.not_le.mpr (show ¬ (2 : Int32) = 0 from by decide))] | rw [pIf_t (Nat.not_le.mp (show ¬ (2 : Int32) = 0 from by decide))] | rw [pIf_t (Nat.not_lt.mp (show ¬ (2 : Int32) = 0 from by decide))] | skip); (first | rw [pIf_t (show ¬ (2 : Int32) = 1 from by decide)] | rw [pIf_f (show ¬ (2 : Int32) = 1 from by decide)] | rw [pIf_f (Int32.not_lt.mpr (show ¬ (2 : Int32) = 1 from by decide))] | rw [pIf_f (Int32.not_le.mpr (show ¬ (2 : Int32) = 1 from by decide))] | rw [pIf_t (Int32.not_le.mp (show ¬ (2 : Int32) = 1 from by decide))] | rw [pIf_t (Int32.not_lt.mp (show ¬ (2 : Int32) = 1 from by decide))] | rw [pIf_f (Nat.not_lt.mpr (show ¬ (2 : Int32) = 1 from by decide))] | rw [pIf_f (Nat.not_le.mpr (show ¬ (2 : Int32) = 1 from by decide))] | rw [pIf_t (Nat.not_le.mp (show ¬ (2 : Int32) = 1 from by decide))] | rw [pIf_t (Nat.not_lt.mp (show ¬ (2 : Int32) = 1 from by decide))] | skip); (first | rw [pIf_t (show (2 : Int32) = 2 from rfl)] | rw [pIf_f (show (2 : Int32) = 2 from rfl)] | rw [pIf_f (Int32.not_lt.mpr (show (2 : Int32) = 2 from rfl))] | rw [pIf_f (Int32.not_le.mpr (show (2 : Int32) = 2 from rfl))] | rw [pIf_t (Int32.not_le.mp (show (2 : Int32) = 2 from rfl))] | rw [pIf_t (Int32.not_lt.mp (show (2 : Int32) = 2 from rfl))] | rw [pIf_f (Nat.not_lt.mpr (show (2 : Int32) = 2 from rfl))] | rw [pIf_f (Nat.not_le.mpr (show (2 : Int32) = 2 from rfl))] | rw [pIf_t (Nat.not_le.mp (show (2 : Int32) = 2 from rfl))] | rw [pIf_t (Nat.not_lt.mp (show (2 : Int32) = 2 from rfl))] | skip); (first | rw [pIf_t h42] | rw [pIf_f h42] | rw [pIf_f (Int32.not_lt.mpr h42)] | rw [pIf_f (Int32.not_le.mpr h42)] | rw [pIf_t (Int32.not_le.mp h42)] | rw [pIf_t (Int32.not_lt.mp h42)] | rw [pIf_f (Nat.not_lt.mpr h42)] | rw [pIf_f (Nat.not_le.mpr h42)] | rw [pIf_t (Nat.not_le.mp h42)] | rw [pIf_t (Nat.not_lt.mp h42)] | skip); (first | rw [pIf_t h50] | rw [pIf_f h50] | rw [pIf_f (Int32.not_lt.mpr h50)] | rw [pIf_f (Int32.not_le.mpr h50)] | rw [pIf_t (Int32.not_le.mp h50)] | rw [pIf_t (Int32.not_lt.mp h50)] | rw [pIf_f (Nat.not_lt.mpr h50)] | rw [pIf_f (Nat.not_le.mpr h50)] | rw [pIf_t (Nat.not_le.mp h50)] | rw [pIf_t (Nat.not_lt.mp h50)] | skip); (first | rw [pIf_t h64] | rw [pIf_f h64] | rw [pIf_f (Int32.not_lt.mpr h64)] | rw [pIf_f (Int32.not_le.mpr h64)] | rw [pIf_t (Int32.not_le.mp h64)] | rw [pIf_t (Int32.not_lt.mp h64)] | rw [pIf_f (Nat.not_lt.mpr h64)] | rw [pIf_f (Nat.not_le.mpr h64)] | rw [pIf_t (Nat.not_le.mp h64)] | rw [pIf_t (Nat.not_lt.mp h64)] | skip); (try rw [nI_clamp (show p < 2 ^ 31 from by omega)]); exact ⟨rfl, rfl⟩⟩)
          ·
            exact absurd h42 (by decide)
        ·
          refine aw_iconst (v := 2) dX7_alter_33 (by decide) ?_
          refine aw_iload_n (i := 2) dX7_alter_34 rfl rfl ?_
          refine aw_iadd dX7_alter_35 ?_
          refine aw_top (show (2 : Int32) + 3 = 5 from by decide) ?_
          refine aw_istore (i := 4) dX7_alter_36 (by decide) ?_
          refine aw_iload_n (i := 3) dX7_alter_38 rfl rfl ?_
          refine aw_iload (i := 4) dX7_alter_39 rfl ?_
          refine aw_iconst (v := 3) dX7_alter_41 (by decide) ?_
          refine aw_icmp_ne (tgt := 49) dX7_alter_42 (by decide) (fun h42 => ?_) (fun h42 => ?_)
          ·
            refine aw_iconst (v := 0) dX7_alter_49 (by decide) ?_
            refine aw_icmp_lt (tgt := 67) dX7_alter_50 (by decide) (fun h50 => ?_) (fun h50 => ?_)
            ·
              refine aw_aload_n (i := 0) dX7_alter_67 rfl rfl ?_
              refine aw_bipush (v := (-6)) dX7_alter_68 (by decide) ?_
              refine aw_cVi ck_X7_86 (m_X7_refuse (k := 5) (by decide) (by decide)) sh_0 rfl (by decide) (by decide) rfl rfl (Nat.le_of_ble_eq_true rfl) dX7_alter_70 ?_
              exact aw_iret rfl dX7_alter_73 (by first | contradiction | exact ⟨_, rfl, by unfold S_alter; (try rw [nI_clamp (show p < 2 ^ 31 from by omega)]); (first | rw [pIf_t h8] | rw [pIf_f h8] | rw [pIf_f (Int32.not_lt.mpr h8)] | rw [pIf_f (Int32.not_le.mpr h8)] | rw [pIf_t (Int32.not_le.mp h8)] | rw [pIf_t (Int32.not_lt.mp h8)] | rw [pIf_f (Nat.not_lt.mpr h8)] | rw [pIf_f (Nat.not_le.mpr h8)] | rw [pIf_t (Nat.not_le.mp h8)] | rw [pIf_t (Nat.not_lt.mp h8)] | skip); (first | rw [pIf_t h18] | rw [pIf_f h18] | rw [pIf_f (Int32.not_lt.mpr h18)] | rw [pIf_f (Int32.not_le.mpr h18)] | rw [pIf_t (Int32.not_le.mp h18)] | rw [pIf_t (Int32.not_lt.mp h18)] | rw [pIf_f (Nat.not_lt.mpr h18)] | rw [pIf_f (Nat.not_le.mpr h18)] | rw [pIf_t (Nat.not_le.mp h18)] | rw [pIf_t (Nat.not_lt.mp h18)] | skip); (first | rw [pIf_t h23] | rw [pIf_f h23] | rw [pIf_f (Int32.not_lt.mpr h23)] | rw [pIf_f (Int32.not_le.mpr h23)] | rw [pIf_t (Int32.not_le.mp h23)] | rw [pIf_t (Int32.not_lt.mp h23)] | rw [pIf_f (Nat.not_lt.mpr h23)] | rw [pIf_f (Nat.not_le.mpr h23)] | rw [pIf_t (Nat.not_le.mp h23)] | rw [pIf_t (Nat.not_lt.mp h23)] | skip); (first | rw [pIf_t (show ¬ (3 : Int32) = 0 from by decide)] | rw [pIf_f (show ¬ (3 : Int32) = 0 from by decide)] | rw [pIf_f (Int32.not_lt.mpr (show ¬ (3 : Int32) = 0 from by decide))] | rw [pIf_f (Int32.not_le.mpr (show ¬ (3 : Int32) = 0 from by decide))] | rw [pIf_t (Int32.not_le.mp (show ¬ (3 : Int32) = 0 from by decide))] | rw [pIf_t (Int32.not_lt.mp (show ¬ (3 : Int32) = 0 from by decide))] | rw [pIf_f (Nat.not_lt.mpr (show ¬ (3 : Int32) = 0 from by decide))] | rw [pIf_f (Nat.not_le.mpr (show ¬ (3 : Int32) = 0 from by decide))] | rw [pIf_t (Nat.not_le.mp (show ¬ (3 : Int32) = 0 from by decide))] | rw [pIf_t (Nat.not_lt.mp (show ¬ (3 : Int32) = 0 from by decide))] | skip); (first | rw [pIf_t (show ¬ (3 : Int32) = 1 from by decide)] | rw [pIf_f (show ¬ (3 : Int32) = 1 from by decide)] | rw [pIf_f (Int32.not_lt.mpr (show ¬ (3 : Int32) = 1 from by decide))] | rw [pIf_f (Int32.not_le.mpr (show ¬ (3 : Int32) = 1 from by decide))] | rw [pIf_t (Int32.not_le.mp (show ¬ (3 : Int32) = 1 from by decide))] | rw [pIf_t (Int32.not_lt.mp (show ¬ (3 : Int32) = 1 from by decide))] | rw [pIf_f (Nat.not_lt.mpr (show ¬ (3 : Int32) = 1 from by decide))] | rw [pIf_f (Nat.not_le.mpr (show ¬ (3 : Int32) = 1 from by decide))] | rw [pIf_t (Nat.not_le.mp (show ¬ (3 : Int32) = 1 from by decide))] | rw [pIf_t (Nat.not_lt.mp (show ¬ (3 : Int32) = 1 from by decide))] | skip); (first | rw [pIf_t (show ¬ (3 : Int32) = 2 from by decide)] | rw [pIf_f (show ¬ (3 : Int32) = 2 from by decide)] | rw [pIf_f (Int32.not_lt.mpr (show ¬ (3 : Int32) = 2 from by decide))] | rw [pIf_f (Int32.not_le.mpr (show ¬ (3 : Int32) = 2 from by decide))] | rw [pIf_t (Int32.not_le.mp (show ¬ (3 : Int32) = 2 from by decide))] | rw [pIf_t (Int32.not_lt.mp (show ¬ (3 : Int32) = 2 from by decide))] | rw [pIf_f (Nat.not_lt.mpr (show ¬ (3 : Int32) = 2 from by decide))] | rw [pIf_f (Nat.not_le.mpr (show ¬ (3 : Int32) = 2 from by decide))] | rw [pIf_t (Nat.not_le.mp (show ¬ (3 : Int32) = 2 from by decide))] | rw [pIf_t (Nat.not_lt.mp (show ¬ (3 : Int32) = 2 from by decide))] | skip); (first | rw [pIf_t h42] | rw [pIf_f h42] | rw [pIf_f (Int32.not_lt.mpr h42)] | rw [pIf_f (Int32.not_le.mpr h42)] | rw [pIf_t (Int32.not_le.mp h42)] | rw [pIf_t (Int32.not_lt.mp h42)] | rw [pIf_f (Nat.not_lt.mpr h42)] | rw [pIf_f (Nat.not_le.mpr h42)] | rw [pIf_t (Nat.not_le.mp h42)] | rw [pIf_t (Nat.not_lt.mp h42)] | skip); (first | rw [pIf_t h50] | rw [pIf_f h50] | rw [pIf_f (Int32.not_lt.mpr h50)] | rw [pIf_f (Int32.not_le.mpr h50)] | rw [pIf_t (Int32.not_le.mp h50)] | rw [pIf_t (Int32.not_lt.mp h50)] | rw [pIf_f (Nat.not_lt.mpr h50)] | rw [pIf_f (Nat.not_le.mpr h50)] | rw [pIf_t (Nat.not_le.mp h50)] | rw [pIf_t (Nat.not_lt.mp h50)] | skip); (try rw [nI_clamp (show p < 2 ^ 31 from by omega)]); exact ⟨rfl, rfl⟩⟩)
            ·
              refine aw_iload_n (i := 3) dX7_alter_53 rfl rfl ?_
              refine aw_aload_n (i := 0) dX7_alter_54 rfl rfl ?_
              refine aw_getR gf_X7_19 sh_0 rfl dX7_alter_55 ?_
              refine aw_iload_n (i := 1) dX7_alter_58 rfl rfl ?_
              refine aw_iload (i := 4) dX7_alter_59 rfl ?_
              refine aw_cVi ck_X7_169 (m_X1_mostOf (t := 5) (by simp [isC] : isC 14) (by omega) (by decide)) sh_14 rfl (by decide) (by decide) rfl rfl (Nat.le_of_ble_eq_true rfl) dX7_alter_61 ?_
              refine aw_top ((if_neg (by decide)).trans (if_pos rfl)) ?_
              refine aw_icmp_le (tgt := 74) dX7_alter_64 (by decide) (fun h64 => ?_) (fun h64 => ?_)
              ·
                refine aw_aload_n (i := 0) dX7_alter_74 rfl rfl ?_
                refine aw_getR gf_X7_19 sh_0 rfl dX7_alter_75 ?_
                refine aw_getR gf_X7_159 sh_14 rfl dX7_alter_78 ?_
                refine aw_iload (i := 4) dX7_alter_81 rfl ?_
                refine aw_top (show (5 : Int32) = nI 5 from rfl) ?_
                refine aw_aaldN (t := 0) sh_15 (by decide) (by omega) (by decide) dX7_alter_83 ?_
                refine aw_iload_n (i := 1) dX7_alter_84 rfl rfl ?_
                refine aw_ialdN (shC_r (c := 14) (by simp [isC]) 5 (by omega)) (by omega) (by omega) dX7_alter_85 ?_
                refine aw_istore (i := 5) dX7_alter_86 (by decide) ?_
                refine aw_aload_n (i := 0) dX7_alter_88 rfl rfl ?_
                refine aw_getR gf_X7_19 sh_0 rfl dX7_alter_89 ?_
                refine aw_getR gf_X7_159 sh_14 rfl dX7_alter_92 ?_
                refine aw_iload (i := 4) dX7_alter_95 rfl ?_
                refine aw_top (show (5 : Int32) = nI 5 from rfl) ?_
                refine aw_aaldN (t := 0) sh_15 (by decide) (by omega) (by decide) dX7_alter_97 ?_
                refine aw_iload_n (i := 1) dX7_alter_98 rfl rfl ?_
                refine aw_iload_n (i := 3) dX7_alter_99 rfl rfl ?_
                refine aw_iastN (shC_r (c := 14) (by simp [isC]) 5 (by omega)) (by omega) (by omega) dX7_alter_100 ?_
                refine aw_iload (i := 4) dX7_alter_101 rfl ?_
                refine aw_iconst (v := 3) dX7_alter_103 (by decide) ?_
                refine aw_icmp_ne (tgt := 129) dX7_alter_104 (by decide) (fun h104 => ?_) (fun h104 => ?_)
                ·
                  refine aw_iload (i := 5) dX7_alter_129 rfl ?_
                  exact aw_iret rfl dX7_alter_131 (by first | contradiction | exact ⟨_, rfl, by unfold S_alter; (try rw [nI_clamp (show p < 2 ^ 31 from by omega)]); (first | rw [pIf_t h8] | rw [pIf_f h8] | rw [pIf_f (Int32.not_lt.mpr h8)] | rw [pIf_f (Int32.not_le.mpr h8)] | rw [pIf_t (Int32.not_le.mp h8)] | rw [pIf_t (Int32.not_lt.mp h8)] | rw [pIf_f (Nat.not_lt.mpr h8)] | rw [pIf_f (Nat.not_le.mpr h8)] | rw [pIf_t (Nat.not_le.mp h8)] | rw [pIf_t (Nat.not_lt.mp h8)] | skip); (first | rw [pIf_t h18] | rw [pIf_f h18] | rw [pIf_f (Int32.not_lt.mpr h18)] | rw [pIf_f (Int32.not_le.mpr h18)] | rw [pIf_t (Int32.not_le.mp h18)] | rw [pIf_t (Int32.not_lt.mp h18)] | rw [pIf_f (Nat.not_lt.mpr h18)] | rw [pIf_f (Nat.not_le.mpr h18)] | rw [pIf_t (Nat.not_le.mp h18)] | rw [pIf_t (Nat.not_lt.mp h18)] | skip); (first | rw [pIf_t h23] | rw [pIf_f h23] | rw [pIf_f (Int32.not_lt.mpr h23)] | rw [pIf_f (Int32.not_le.mpr h23)] | rw [pIf_t (Int32.not_le.mp h23)] | rw [pIf_t (Int32.not_lt.mp h23)] | rw [pIf_f (Nat.not_lt.mpr h23)] | rw [pIf_f (Nat.not_le.mpr h23)] | rw [pIf_t (Nat.not_le.mp h23)] | rw [pIf_t (Nat.not_lt.mp h23)] | skip); (first | rw [pIf_t (show ¬ (3 : Int32) = 0 from by decide)] | rw [pIf_f (show ¬ (3 : Int32) = 0 from by decide)] | rw [pIf_f (Int32.not_lt.mpr (show ¬ (3 : Int32) = 0 from by decide))] | rw [pIf_f (Int32.not_le.mpr (show ¬ (3 : Int32) = 0 from by decide))] | rw [pIf_t (Int32.not_le.mp (show ¬ (3 : Int32) = 0 from by decide))] | rw [pIf_t (Int32.not_lt.mp (show ¬ (3 : Int32) = 0 from by decide))] | rw [pIf_f (Nat.not_lt.mpr (show ¬ (3 : Int32) = 0 from by decide))] | rw [pIf_f (Nat.not_le.mpr (show ¬ (3 : Int32) = 0 from by decide))] | rw [pIf_t (Nat.not_le.mp (show ¬ (3 : Int32) = 0 from by decide))] | rw [pIf_t (Nat.not_lt.mp (show ¬ (3 : Int32) = 0 from by decide))] | skip); (first | rw [pIf_t (show ¬ (3 : Int32) = 1 from by decide)] | rw [pIf_f (show ¬ (3 : Int32) = 1 from by decide)] | rw [pIf_f (Int32.not_lt.mpr (show ¬ (3 : Int32) = 1 from by decide))] | rw [pIf_f (Int32.not_le.mpr (show ¬ (3 : Int32) = 1 from by decide))] | rw [pIf_t (Int32.not_le.mp (show ¬ (3 : Int32) = 1 from by decide))] | rw [pIf_t (Int32.not_lt.mp (show ¬ (3 : Int32) = 1 from by decide))] | rw [pIf_f (Nat.not_lt.mpr (show ¬ (3 : Int32) = 1 from by decide))] | rw [pIf_f (Nat.not_le.mpr (show ¬ (3 : Int32) = 1 from by decide))] | rw [pIf_t (Nat.not_le.mp (show ¬ (3 : Int32) = 1 from by decide))] | rw [pIf_t (Nat.not_lt.mp (show ¬ (3 : Int32) = 1 from by decide))] | skip); (first | rw [pIf_t (show ¬ (3 : Int32) = 2 from by decide)] | rw [pIf_f (show ¬ (3 : Int32) = 2 from by decide)] | rw [pIf_f (Int32.not_lt.mpr (show ¬ (3 : Int32) = 2 from by decide))] | rw [pIf_f (Int32.not_le.mpr (show ¬ (3 : Int32) = 2 from by decide))] | rw [pIf_t (Int32.not_le.mp (show ¬ (3 : Int32) = 2 from by decide))] | rw [pIf_t (Int32.not_lt.mp (show ¬ (3 : Int32) = 2 from by decide))] | rw [pIf_f (Nat.not_lt.mpr (show ¬ (3 : Int32) = 2 from by decide))] | rw [pIf_f (Nat.not_le.mpr (show ¬ (3 : Int32) = 2 from by decide))] | rw [pIf_t (Nat.not_le.mp (show ¬ (3 : Int32) = 2 from by decide))] | rw [pIf_t (Nat.not_lt.mp (show ¬ (3 : Int32) = 2 from by decide))] | skip); (first | rw [pIf_t h42] | rw [pIf_f h42] | rw [pIf_f (Int32.not_lt.mpr h42)] | rw [pIf_f (Int32.not_le.mpr h42)] | rw [pIf_t (Int32.not_le.mp h42)] | rw [pIf_t (Int32.not_lt.mp h42)] | rw [pIf_f (Nat.not_lt.mpr h42)] | rw [pIf_f (Nat.not_le.mpr h42)] | rw [pIf_t (Nat.not_le.mp h42)] | rw [pIf_t (Nat.not_lt.mp h42)] | skip); (first | rw [pIf_t h50] | rw [pIf_f h50] | rw [pIf_f (Int32.not_lt.mpr h50)] | rw [pIf_f (Int32.not_le.mpr h50)] | rw [pIf_t (Int32.not_le.mp h50)] | rw [pIf_t (Int32.not_lt.mp h50)] | rw [pIf_f (Nat.not_lt.mpr h50)] | rw [pIf_f (Nat.not_le.mpr h50)] | rw [pIf_t (Nat.not_le.mp h50)] | rw [pIf_t (Nat.not_lt.mp h50)] | skip); (first | rw [pIf_t h64] | rw [pIf_f h64] | rw [pIf_f (Int32.not_lt.mpr h64)] | rw [pIf_f (Int32.not_le.mpr h64)] | rw [pIf_t (Int32.not_le.mp h64)] | rw [pIf_t (Int32.not_lt.mp h64)] | rw [pIf_f (Nat.not_lt.mpr h64)] | rw [pIf_f (Nat.not_le.mpr h64)] | rw [pIf_t (Nat.not_le.mp h64)] | rw [pIf_t (Nat.not_lt.mp h64)] | skip); (first | rw [pIf_t h104] | rw [pIf_f h104] | rw [pIf_f (Int32.not_lt.mpr h104)] | rw [pIf_f (Int32.not_le.mpr h104)] | rw [pIf_t (Int32.not_le.mp h104)] | rw [pIf_t (Int32.not_lt.mp h104)] | rw [pIf_f (Nat.not_lt.mpr h104)] | rw [pIf_f (Nat.not_le.mpr h104)] | rw [pIf_t (Nat.not_le.mp h104)] | rw [pIf_t (Nat.not_lt.mp h104)] | skip); (try rw [nI_clamp (show p < 2 ^ 31 from by omega)]); exact ⟨rfl, rfl⟩⟩)
                ·
                  exact absurd h104 (by decide)
              ·
                refine aw_aload_n (i := 0) dX7_alter_67 rfl rfl ?_
                refine aw_bipush (v := (-6)) dX7_alter_68 (by decide) ?_
                refine aw_cVi ck_X7_86 (m_X7_refuse (k := 5) (by decide) (by decide)) sh_0 rfl (by decide) (by decide) rfl rfl (Nat.le_of_ble_eq_true rfl) dX7_alter_70 ?_
                exact aw_iret rfl dX7_alter_73 (by first | contradiction | exact ⟨_, rfl, by unfold S_alter; (try rw [nI_clamp (show p < 2 ^ 31 from by omega)]); (first | rw [pIf_t h8] | rw [pIf_f h8] | rw [pIf_f (Int32.not_lt.mpr h8)] | rw [pIf_f (Int32.not_le.mpr h8)] | rw [pIf_t (Int32.not_le.mp h8)] | rw [pIf_t (Int32.not_lt.mp h8)] | rw [pIf_f (Nat.not_lt.mpr h8)] | rw [pIf_f (Nat.not_le.mpr h8)] | rw [pIf_t (Nat.not_le.mp h8)] | rw [pIf_t (Nat.not_lt.mp h8)] | skip); (first | rw [pIf_t h18] | rw [pIf_f h18] | rw [pIf_f (Int32.not_lt.mpr h18)] | rw [pIf_f (Int32.not_le.mpr h18)] | rw [pIf_t (Int32.not_le.mp h18)] | rw [pIf_t (Int32.not_lt.mp h18)] | rw [pIf_f (Nat.not_lt.mpr h18)] | rw [pIf_f (Nat.not_le.mpr h18)] | rw [pIf_t (Nat.not_le.mp h18)] | rw [pIf_t (Nat.not_lt.mp h18)] | skip); (first | rw [pIf_t h23] | rw [pIf_f h23] | rw [pIf_f (Int32.not_lt.mpr h23)] | rw [pIf_f (Int32.not_le.mpr h23)] | rw [pIf_t (Int32.not_le.mp h23)] | rw [pIf_t (Int32.not_lt.mp h23)] | rw [pIf_f (Nat.not_lt.mpr h23)] | rw [pIf_f (Nat.not_le.mpr h23)] | rw [pIf_t (Nat.not_le.mp h23)] | rw [pIf_t (Nat.not_lt.mp h23)] | skip); (first | rw [pIf_t (show ¬ (3 : Int32) = 0 from by decide)] | rw [pIf_f (show ¬ (3 : Int32) = 0 from by decide)] | rw [pIf_f (Int32.not_lt.mpr (show ¬ (3 : Int32) = 0 from by decide))] | rw [pIf_f (Int32.not_le.mpr (show ¬ (3 : Int32) = 0 from by decide))] | rw [pIf_t (Int32.not_le.mp (show ¬ (3 : Int32) = 0 from by decide))] | rw [pIf_t (Int32.not_lt.mp (show ¬ (3 : Int32) = 0 from by decide))] | rw [pIf_f (Nat.not_lt.mpr (show ¬ (3 : Int32) = 0 from by decide))] | rw [pIf_f (Nat.not_le.mpr (show ¬ (3 : Int32) = 0 from by decide))] | rw [pIf_t (Nat.not_le.mp (show ¬ (3 : Int32) = 0 from by decide))] | rw [pIf_t (Nat.not_lt.mp (show ¬ (3 : Int32) = 0 from by decide))] | skip); (first | rw [pIf_t (show ¬ (3 : Int32) = 1 from by decide)] | rw [pIf_f (show ¬ (3 : Int32) = 1 from by decide)] | rw [pIf_f (Int32.not_lt.mpr (show ¬ (3 : Int32) = 1 from by decide))] | rw [pIf_f (Int32.not_le.mpr (show ¬ (3 : Int32) = 1 from by decide))] | rw [pIf_t (Int32.not_le.mp (show ¬ (3 : Int32) = 1 from by decide))] | rw [pIf_t (Int32.not_lt.mp (show ¬ (3 : Int32) = 1 from by decide))] | rw [pIf_f (Nat.not_lt.mpr (show ¬ (3 : Int32) = 1 from by decide))] | rw [pIf_f (Nat.not_le.mpr (show ¬ (3 : Int32) = 1 from by decide))] | rw [pIf_t (Nat.not_le.mp (show ¬ (3 : Int32) = 1 from by decide))] | rw [pIf_t (Nat.not_lt.mp (show ¬ (3 : Int32) = 1 from by decide))] | skip); (first | rw [pIf_t (show ¬ (3 : Int32) = 2 from by decide)] | rw [pIf_f (show ¬ (3 : Int32) = 2 from by decide)] | rw [pIf_f (Int32.not_lt.mpr (show ¬ (3 : Int32) = 2 from by decide))] | rw [pIf_f (Int32.not_le.mpr (show ¬ (3 : Int32) = 2 from by decide))] | rw [pIf_t (Int32.not_le.mp (show ¬ (3 : Int32) = 2 from by decide))] | rw [pIf_t (Int32.not_lt.mp (show ¬ (3 : Int32) = 2 from by decide))] | rw [pIf_f (Nat.not_lt.mpr (show ¬ (3 : Int32) = 2 from by decide))] | rw [pIf_f (Nat.not_le.mpr (show ¬ (3 : Int32) = 2 from by decide))] | rw [pIf_t (Nat.not_le.mp (show ¬ (3 : Int32) = 2 from by decide))] | rw [pIf_t (Nat.not_lt.mp (show ¬ (3 : Int32) = 2 from by decide))] | skip); (first | rw [pIf_t h42] | rw [pIf_f h42] | rw [pIf_f (Int32.not_lt.mpr h42)] | rw [pIf_f (Int32.not_le.mpr h42)] | rw [pIf_t (Int32.not_le.mp h42)] | rw [pIf_t (Int32.not_lt.mp h42)] | rw [pIf_f (Nat.not_lt.mpr h42)] | rw [pIf_f (Nat.not_le.mpr h42)] | rw [pIf_t (Nat.not_le.mp h42)] | rw [pIf_t (Nat.not_lt.mp h42)] | skip); (first | rw [pIf_t h50] | rw [pIf_f h50] | rw [pIf_f (Int32.not_lt.mpr h50)] | rw [pIf_f (Int32.not_le.mpr h50)] | rw [pIf_t (Int32.not_le.mp h50)] | rw [pIf_t (Int32.not_lt.mp h50)] | rw [pIf_f (Nat.not_lt.mpr h50)] | rw [pIf_f (Nat.not_le.mpr h50)] | rw [pIf_t (Nat.not_le.mp h50)] | rw [pIf_t (Nat.not_lt.mp h50)] | skip); (first | rw [pIf_t h64] | rw [pIf_f h64] | rw [pIf_f (Int32.not_lt.mpr h64)] | rw [pIf_f (Int32.not_le.mpr h64)] | rw [pIf_t (Int32.not_le.mp h64)] | rw [pIf_t (Int32.not_lt.mp h64)] | rw [pIf_f (Nat.not_lt.mpr h64)] | rw [pIf_f (Nat.not_le.mpr h64)] | rw [pIf_t (Nat.not_le.mp h64)] | rw [pIf_t (Nat.not_lt.mp h64)] | skip); (try rw [nI_clamp (show p < 2 ^ 31 from by omega)]); exact ⟨rfl, rfl⟩⟩)
          ·
            exact absurd h42 (by decide)
        ·
          exact absurd hz9 (sw4_no h18 h23)
      ·
        refine aw_aload_n (i := 0) dX7_alter_26 rfl rfl ?_
        refine aw_bipush (v := (-6)) dX7_alter_27 (by decide) ?_
        refine aw_cVi ck_X7_86 (m_X7_refuse (k := 5) (by decide) (by decide)) sh_0 rfl (by decide) (by decide) rfl rfl (Nat.le_of_ble_eq_true rfl) dX7_alter_29 ?_
        exact aw_iret rfl dX7_alter_32 (by first | contradiction | exact ⟨_, rfl, by unfold S_alter; (try rw [nI_clamp (show p < 2 ^ 31 from by omega)]); (first | rw [pIf_t h8] | rw [pIf_f h8] | rw [pIf_f (Int32.not_lt.mpr h8)] | rw [pIf_f (Int32.not_le.mpr h8)] | rw [pIf_t (Int32.not_le.mp h8)] | rw [pIf_t (Int32.not_lt.mp h8)] | rw [pIf_f (Nat.not_lt.mpr h8)] | rw [pIf_f (Nat.not_le.mpr h8)] | rw [pIf_t (Nat.not_le.mp h8)] | rw [pIf_t (Nat.not_lt.mp h8)] | skip); (first | rw [pIf_t h18] | rw [pIf_f h18] | rw [pIf_f (Int32.not_lt.mpr h18)] | rw [pIf_f (Int32.not_le.mpr h18)] | rw [pIf_t (Int32.not_le.mp h18)] | rw [pIf_t (Int32.not_lt.mp h18)] | rw [pIf_f (Nat.not_lt.mpr h18)] | rw [pIf_f (Nat.not_le.mpr h18)] | rw [pIf_t (Nat.not_le.mp h18)] | rw [pIf_t (Nat.not_lt.mp h18)] | skip); (first | rw [pIf_t h23] | rw [pIf_f h23] | rw [pIf_f (Int32.not_lt.mpr h23)] | rw [pIf_f (Int32.not_le.mpr h23)] | rw [pIf_t (Int32.not_le.mp h23)] | rw [pIf_t (Int32.not_lt.mp h23)] | rw [pIf_f (Nat.not_lt.mpr h23)] | rw [pIf_f (Nat.not_le.mpr h23)] | rw [pIf_t (Nat.not_le.mp h23)] | rw [pIf_t (Nat.not_lt.mp h23)] | skip); (try rw [nI_clamp (show p < 2 ^ 31 from by omega)]); exact ⟨rfl, rfl⟩⟩)
  ·
    refine aw_aload_n (i := 0) dX7_alter_11 rfl rfl ?_
    refine aw_iconst (v := (-1)) dX7_alter_12 (by decide) ?_
    refine aw_cVi ck_X7_86 (m_X7_refuse (k := 0) (by decide) (by decide)) sh_0 rfl (by decide) (by decide) rfl rfl (Nat.le_of_ble_eq_true rfl) dX7_alter_13 ?_
    exact aw_iret rfl dX7_alter_16 (by first | contradiction | exact ⟨_, rfl, by unfold S_alter; (try rw [nI_clamp (show p < 2 ^ 31 from by omega)]); (first | rw [pIf_t h8] | rw [pIf_f h8] | rw [pIf_f (Int32.not_lt.mpr h8)] | rw [pIf_f (Int32.not_le.mpr h8)] | rw [pIf_t (Int32.not_le.mp h8)] | rw [pIf_t (Int32.not_lt.mp h8)] | rw [pIf_f (Nat.not_lt.mpr h8)] | rw [pIf_f (Nat.not_le.mpr h8)] | rw [pIf_t (Nat.not_le.mp h8)] | rw [pIf_t (Nat.not_lt.mp h8)] | skip); (try rw [nI_clamp (show p < 2 ^ 31 from by omega)]); exact ⟨rfl, rfl⟩⟩)
def S_admitFrom (n : Nat) (M : Mm) (s i : Int32) (v : Int32) (M' : Mm) : Prop := pIf (n < 30) (pIf (okNew (elL M s i).toInt32 (elL M s (i + 1)).toInt32 (elL M s (i + 2)).toInt32 (elL M s (i + 3)).toInt32 (elL M s (i + 4)).toInt32 ∧ ¬ (∃ j, j < n ∧ M.1 (14 + 3) j = (elL M s (i + 1)).toInt32)) (v = 1 ∧ admQ 14 n (elL M s i).toInt32 (elL M s (i + 1)).toInt32 (elL M s (i + 2)).toInt32 (elL M s (i + 3)).toInt32 (elL M s (i + 4)).toInt32 M M') (v = 0 ∧ M' = M)) (v = 0 ∧ M' = M)
theorem adm_cnt {n : Nat} {M M' : Mm} {s i : Int32} (hn : M.1 14 11 = nI n) (h : S_admitFrom n M s i 1 M') : n < 30 ∧ M'.1 14 11 = nI (n + 1) ∧ M'.1 3 = M.1 3 ∧ M'.1 4 = M.1 4 ∧ M'.2 = M.2 := by
  unfold S_admitFrom at h
  by_cases h1 : n < 30
  · rw [pIf_t h1] at h
    by_cases h2 : okNew (elL M s i).toInt32 (elL M s (i + 1)).toInt32 (elL M s (i + 2)).toInt32 (elL M s (i + 3)).toInt32 (elL M s (i + 4)).toInt32 ∧ ¬ (∃ j, j < n ∧ M.1 (14 + 3) j = (elL M s (i + 1)).toInt32)
    · rw [pIf_t h2] at h
      exact ⟨h1, h.2.2.2.1, h.2.1.2 3 (by omega), h.2.1.2 4 (by omega), h.2.1.1⟩
    · rw [pIf_f h2] at h
      exact absurd h.1 (by decide)
  · rw [pIf_f h1] at h
    exact absurd h.1 (by decide)
theorem sizOK_4 {M M' : Mm} (h : M'.1 4 = M.1 4) (hz : sizOK M) : sizOK M' := fun k hk => by rw [h]; exact hz k hk
theorem m_X7_admitFrom {l : Launch} {M : Mm} {s i : Int32} (hz : sizOK M) {n : Nat} (hn : M.1 14 11 = nI n) (hn30 : n ≤ 30) : AMet l 6 yX7_admitFrom cX7_admitFrom 9 (some FieldType.boolean) [.ref 0, .int s, .int i] M (QI (S_admitFrom n M s i)) := by
  refine AMet.of (by decide) (by simp [aargs, Value.category]) ?_
  show AW l 6 yX7_admitFrom cX7_admitFrom 9 (some FieldType.boolean) 0 [some (.ref 0), some (.int s), some (.int i), none, none, none, none, none, none] [] M _
  refine aw_aload_n (i := 0) dX7_admitFrom_0 rfl rfl ?_
  refine aw_getR gf_X7_12 sh_0 rfl dX7_admitFrom_1 ?_
  refine aw_iload_n (i := 1) dX7_admitFrom_4 rfl rfl ?_
  refine aw_iload_n (i := 2) dX7_admitFrom_5 rfl rfl ?_
  refine aw_cVi ck_X7_156 (m_X6_intOr0 hz) sh_2 rfl (by decide) (by decide) rfl rfl (Nat.le_of_ble_eq_true rfl) dX7_admitFrom_6 ?_
  refine aw_istore_n (i := 3) dX7_admitFrom_9 rfl (by decide) ?_
  refine aw_aload_n (i := 0) dX7_admitFrom_10 rfl rfl ?_
  refine aw_getR gf_X7_12 sh_0 rfl dX7_admitFrom_11 ?_
  refine aw_iload_n (i := 1) dX7_admitFrom_14 rfl rfl ?_
  refine aw_iload_n (i := 2) dX7_admitFrom_15 rfl rfl ?_
  refine aw_iconst (v := 1) dX7_admitFrom_16 (by decide) ?_
  refine aw_iadd dX7_admitFrom_17 ?_
  refine aw_cVi ck_X7_156 (m_X6_intOr0 hz) sh_2 rfl (by decide) (by decide) rfl rfl (Nat.le_of_ble_eq_true rfl) dX7_admitFrom_18 ?_
  refine aw_istore (i := 4) dX7_admitFrom_21 (by decide) ?_
  refine aw_aload_n (i := 0) dX7_admitFrom_23 rfl rfl ?_
  refine aw_getR gf_X7_12 sh_0 rfl dX7_admitFrom_24 ?_
  refine aw_iload_n (i := 1) dX7_admitFrom_27 rfl rfl ?_
  refine aw_iload_n (i := 2) dX7_admitFrom_28 rfl rfl ?_
  refine aw_iconst (v := 2) dX7_admitFrom_29 (by decide) ?_
  refine aw_iadd dX7_admitFrom_30 ?_
  refine aw_cVi ck_X7_156 (m_X6_intOr0 hz) sh_2 rfl (by decide) (by decide) rfl rfl (Nat.le_of_ble_eq_true rfl) dX7_admitFrom_31 ?_
  refine aw_istore (i := 5) dX7_admitFrom_34 (by decide) ?_
  refine aw_aload_n (i := 0) dX7_admitFrom_36 rfl rfl ?_
  refine aw_getR gf_X7_12 sh_0 rfl dX7_admitFrom_37 ?_
  refine aw_iload_n (i := 1) dX7_admitFrom_40 rfl rfl ?_
  refine aw_iload_n (i := 2) dX7_admitFrom_41 rfl rfl ?_
  refine aw_iconst (v := 3) dX7_admitFrom_42 (by decide) ?_
  refine aw_iadd dX7_admitFrom_43 ?_
  refine aw_cVi ck_X7_156 (m_X6_intOr0 hz) sh_2 rfl (by decide) (by decide) rfl rfl (Nat.le_of_ble_eq_true rfl) dX7_admitFrom_44 ?_
  refine aw_istore (i := 6) dX7_admitFrom_47 (by decide) ?_
  refine aw_aload_n (i := 0) dX7_admitFrom_49 rfl rfl ?_
  refine aw_getR gf_X7_12 sh_0 rfl dX7_admitFrom_50 ?_
  refine aw_iload_n (i := 1) dX7_admitFrom_53 rfl rfl ?_
  refine aw_iload_n (i := 2) dX7_admitFrom_54 rfl rfl ?_
  refine aw_iconst (v := 4) dX7_admitFrom_55 (by decide) ?_
  refine aw_iadd dX7_admitFrom_56 ?_
  refine aw_cVi ck_X7_156 (m_X6_intOr0 hz) sh_2 rfl (by decide) (by decide) rfl rfl (Nat.le_of_ble_eq_true rfl) dX7_admitFrom_57 ?_
  refine aw_istore (i := 7) dX7_admitFrom_60 (by decide) ?_
  refine aw_aload_n (i := 0) dX7_admitFrom_62 rfl rfl ?_
  refine aw_getR gf_X7_19 sh_0 rfl dX7_admitFrom_63 ?_
  refine aw_getN (n := n) gf_X7_146 sh_14 rfl hn dX7_admitFrom_66 ?_
  refine aw_bipush (v := 30) dX7_admitFrom_69 (by decide) ?_
  refine aw_top (show (30 : Int32) = nI 30 from rfl) ?_
  refine aw_icmp_geN (tgt := 97) (by omega) (by omega) dX7_admitFrom_71 (by decide) (fun h71 => ?_) (fun h71 => ?_)
  ·
    refine aw_iconst (v := 0) dX7_admitFrom_97 (by decide) ?_
    refine aw_istore (i := 8) dX7_admitFrom_98 (by decide) ?_
    refine aw_iload (i := 8) dX7_admitFrom_100 rfl ?_
    refine aw_if_eq (tgt := 122) dX7_admitFrom_102 (by decide) (fun h102 => ?_) (fun h102 => ?_)
    ·
      refine aw_iload (i := 8) dX7_admitFrom_122 rfl ?_
      exact aw_zret rfl (by simp) dX7_admitFrom_124 (by first | contradiction | exact ⟨_, rfl, by unfold S_admitFrom; (first | rw [pIf_t h71] | rw [pIf_f h71] | rw [pIf_f (Int32.not_lt.mpr h71)] | rw [pIf_f (Int32.not_le.mpr h71)] | rw [pIf_t (Int32.not_le.mp h71)] | rw [pIf_t (Int32.not_lt.mp h71)] | rw [pIf_f (Nat.not_lt.mpr h71)] | rw [pIf_f (Nat.not_le.mpr h71)] | rw [pIf_t (Nat.not_le.mp h71)] | rw [pIf_t (Nat.not_lt.mp h71)] | skip); exact ⟨rfl, rfl⟩⟩)
    ·
      exact absurd h102 (by decide)
  ·
    refine aw_aload_n (i := 0) dX7_admitFrom_74 rfl rfl ?_
    refine aw_getR gf_X7_19 sh_0 rfl dX7_admitFrom_75 ?_
    refine aw_iload_n (i := 3) dX7_admitFrom_78 rfl rfl ?_
    refine aw_iload (i := 4) dX7_admitFrom_79 rfl ?_
    refine aw_iload (i := 5) dX7_admitFrom_81 rfl ?_
    refine aw_iload (i := 6) dX7_admitFrom_83 rfl ?_
    refine aw_iload (i := 7) dX7_admitFrom_85 rfl ?_
    refine aw_cVi ck_X7_142 (m_X1_mayCome (by simp [isC] : isC 14) hn hn30) sh_14 rfl (by decide) (by decide) rfl rfl (Nat.le_of_ble_eq_true rfl) dX7_admitFrom_87 ?_
    refine aw_ifeq_b (tgt := 97) dX7_admitFrom_90 (by decide) (fun h90 => ?_) (fun h90 => ?_)
    ·
      refine aw_iconst (v := 0) dX7_admitFrom_97 (by decide) ?_
      refine aw_istore (i := 8) dX7_admitFrom_98 (by decide) ?_
      refine aw_iload (i := 8) dX7_admitFrom_100 rfl ?_
      refine aw_if_eq (tgt := 122) dX7_admitFrom_102 (by decide) (fun h102 => ?_) (fun h102 => ?_)
      ·
        refine aw_iload (i := 8) dX7_admitFrom_122 rfl ?_
        exact aw_zret rfl (by simp) dX7_admitFrom_124 (by first | contradiction | exact ⟨_, rfl, by unfold S_admitFrom; (first | rw [pIf_t h71] | rw [pIf_f h71] | rw [pIf_f (Int32.not_lt.mpr h71)] | rw [pIf_f (Int32.not_le.mpr h71)] | rw [pIf_t (Int32.not_le.mp h71)] | rw [pIf_t (Int32.not_lt.mp h71)] | rw [pIf_f (Nat.not_lt.mpr h71)] | rw [pIf_f (Nat.not_le.mpr h71)] | rw [pIf_t (Nat.not_le.mp h71)] | rw [pIf_t (Nat.not_lt.mp h71)] | skip); (first | rw [pIf_t h90] | rw [pIf_f h90] | rw [pIf_f (Int32.not_lt.mpr h90)] | rw [pIf_f (Int32.not_le.mpr h90)] | rw [pIf_t (Int32.not_le.mp h90)] | rw [pIf_t (Int32.not_lt.mp h90)] | rw [pIf_f (Nat.not_lt.mpr h90)] | rw [pIf_f (Nat.not_le.mpr h90)] | rw [pIf_t (Nat.not_le.mp h90)] | rw [pIf_t (Nat.not_lt.mp h90)] | skip); exact ⟨rfl, rfl⟩⟩)
      ·
        exact absurd h102 (by decide)
    ·
      refine aw_iconst (v := 1) dX7_admitFrom_93 (by decide) ?_
      refine aw_goto (tgt := 98) dX7_admitFrom_94 (by decide) ?_
      refine aw_istore (i := 8) dX7_admitFrom_98 (by decide) ?_
      refine aw_iload (i := 8) dX7_admitFrom_100 rfl ?_
      refine aw_if_eq (tgt := 122) dX7_admitFrom_102 (by decide) (fun h102 => ?_) (fun h102 => ?_)
      ·
        exact absurd h102 (by decide)
      ·
        refine aw_aload_n (i := 0) dX7_admitFrom_105 rfl rfl ?_
        refine aw_getR gf_X7_19 sh_0 rfl dX7_admitFrom_106 ?_
        refine aw_iload_n (i := 3) dX7_admitFrom_109 rfl rfl ?_
        refine aw_iload (i := 4) dX7_admitFrom_110 rfl ?_
        refine aw_iload (i := 5) dX7_admitFrom_112 rfl ?_
        refine aw_iload (i := 6) dX7_admitFrom_114 rfl ?_
        refine aw_iload (i := 7) dX7_admitFrom_116 rfl ?_
        refine aw_cVQ ck_X7_149 (m_X1_admit (by simp [isC] : isC 14) hn (by omega)) sh_14 rfl (by decide) (by decide) rfl rfl (Nat.le_of_ble_eq_true rfl) dX7_admitFrom_118 (fun r M9 hq9 => ?_)
        obtain ⟨rfl, hs9⟩ := hq9
        refine aw_pop dX7_admitFrom_121 rfl ?_
        refine aw_iload (i := 8) dX7_admitFrom_122 rfl ?_
        exact aw_zret rfl (by simp) dX7_admitFrom_124 (by first | contradiction | exact ⟨_, rfl, by unfold S_admitFrom; (first | rw [pIf_t h71] | rw [pIf_f h71] | rw [pIf_f (Int32.not_lt.mpr h71)] | rw [pIf_f (Int32.not_le.mpr h71)] | rw [pIf_t (Int32.not_le.mp h71)] | rw [pIf_t (Int32.not_lt.mp h71)] | rw [pIf_f (Nat.not_lt.mpr h71)] | rw [pIf_f (Nat.not_le.mpr h71)] | rw [pIf_t (Nat.not_le.mp h71)] | rw [pIf_t (Nat.not_lt.mp h71)] | skip); (first | rw [pIf_t h90] | rw [pIf_f h90] | rw [pIf_f (Int32.not_lt.mpr h90)] | rw [pIf_f (Int32.not_le.mpr h90)] | rw [pIf_t (Int32.not_le.mp h90)] | rw [pIf_t (Int32.not_lt.mp h90)] | rw [pIf_f (Nat.not_lt.mpr h90)] | rw [pIf_f (Nat.not_le.mpr h90)] | rw [pIf_t (Nat.not_le.mp h90)] | rw [pIf_t (Nat.not_lt.mp h90)] | skip); exact ⟨rfl, hs9⟩⟩)
theorem adm_01 {n : Nat} {M M' : Mm} {s i v : Int32} (h : S_admitFrom n M s i v M') : v = 0 ∨ v = 1 := by
  unfold S_admitFrom at h
  by_cases h1 : n < 30
  · rw [pIf_t h1] at h
    by_cases h2 : okNew (elL M s i).toInt32 (elL M s (i + 1)).toInt32 (elL M s (i + 2)).toInt32 (elL M s (i + 3)).toInt32 (elL M s (i + 4)).toInt32 ∧ ¬ (∃ j, j < n ∧ M.1 (14 + 3) j = (elL M s (i + 1)).toInt32)
    · rw [pIf_t h2] at h; exact Or.inr h.1
    · rw [pIf_f h2] at h; exact Or.inl h.1
  · rw [pIf_f h1] at h; exact Or.inl h.1
def pplI (n : Nat) (s : Int32) (a : Nat) : Nat → Mm → Mm → Prop
  | 0, M, M' => M' = M
  | j + 1, M, M' => ∃ X, pplI n s a j M X ∧ S_admitFrom (n + j) X s (nI (a + j * 5)) 1 M'
theorem ppl_cnt {n : Nat} {s : Int32} {a : Nat} {M : Mm} (hn : M.1 14 11 = nI n) (hn30 : n ≤ 30) (hz : sizOK M) : ∀ j M', pplI n s a j M M' → n + j ≤ 30 ∧ M'.1 14 11 = nI (n + j) ∧ sizOK M'
  | 0, M', h => by
    have e : M' = M := h
    subst e
    exact ⟨hn30, hn, hz⟩
  | j + 1, M', ⟨X, h1, h2⟩ => by
    obtain ⟨q1, q2, q3⟩ := ppl_cnt hn hn30 hz j X h1
    obtain ⟨w1, w2, -, w4, -⟩ := adm_cnt q2 h2
    exact ⟨by omega, w2, sizOK_4 w4 q3⟩
def S_people (M : Mm) (n : Nat) (s i m : Int32) (v : Int32) (M' : Mm) : Prop := pIf (rrI M s = 0) (pIf (m < 0) (v = -4 ∧ M' = rfx M 3) (pIf (partP M s i m) (pIf (m - m / 5 * 5 = 0) (∃ j X, pplI n s i.toNatClampNeg j M X ∧ v = nI j ∧ j ≤ m.toNatClampNeg / 5 ∧ ((j = m.toNatClampNeg / 5 ∧ M' = X) ∨ (j < m.toNatClampNeg / 5 ∧ S_admitFrom (n + j) X s (nI (i.toNatClampNeg + j * 5)) 0 M'))) (v = -6 ∧ M' = rfx M 5)) (v = -5 ∧ M' = rfx M 4))) (v = rrI M s ∧ M' = rfA M (rrI M s))
theorem m_X7_people {l : Launch} {M : Mm} {s i m9 : Int32} (hz : sizOK M) {n : Nat} (hn : M.1 14 11 = nI n) (hn30 : n ≤ 30) : AMet l 7 yX7_people cX7_people 6 (some FieldType.int) [.ref 0, .int s, .int i, .int m9] M (QI (S_people M n s i m9)) := by
  refine AMet.of (by decide) (by simp [aargs, Value.category]) ?_
  show AW l 7 yX7_people cX7_people 6 (some FieldType.int) 0 [some (.ref 0), some (.int s), some (.int i), some (.int m9), none, none] [] M _
  refine aw_aload_n (i := 0) dX7_people_0 rfl rfl ?_
  refine aw_iload_n (i := 1) dX7_people_1 rfl rfl ?_
  refine aw_cVi ck_X7_94 m_X7_refusalOfRow sh_0 rfl (by decide) (by decide) rfl rfl (Nat.le_of_ble_eq_true rfl) dX7_people_2 ?_
  refine aw_istore (i := 4) dX7_people_5 (by decide) ?_
  refine aw_iload (i := 4) dX7_people_7 rfl ?_
  refine aw_if_eq (tgt := 19) dX7_people_9 (by decide) (fun h9 => ?_) (fun h9 => ?_)
  ·
    refine aw_iload_n (i := 3) dX7_people_19 rfl rfl ?_
    refine aw_if_ge (tgt := 30) dX7_people_20 (by decide) (fun h20 => ?_) (fun h20 => ?_)
    ·
      refine aw_aload_n (i := 0) dX7_people_30 rfl rfl ?_
      refine aw_getR gf_X7_12 sh_0 rfl dX7_people_31 ?_
      refine aw_iload_n (i := 1) dX7_people_34 rfl rfl ?_
      refine aw_iload_n (i := 2) dX7_people_35 rfl rfl ?_
      refine aw_iload_n (i := 3) dX7_people_36 rfl rfl ?_
      refine aw_cVi ck_X7_109 m_X6_hasPart sh_2 rfl (by decide) (by decide) rfl rfl (Nat.le_of_ble_eq_true rfl) dX7_people_37 ?_
      refine aw_ifne_b (tgt := 50) dX7_people_40 (by decide) (fun h40 => ?_) (fun h40 => ?_)
      ·
        obtain ⟨k, z, a, m, hk, hz1, hz2, rfl, rfl, rfl, -⟩ := partP_n hz h40
        refine aw_iload_n (i := 3) dX7_people_50 rfl rfl ?_
        refine aw_iconst (v := 5) dX7_people_51 (by decide) ?_
        refine aw_irem dX7_people_52 (by decide) ?_
        refine aw_if_eq (tgt := 63) dX7_people_53 (by decide) (fun h53 => ?_) (fun h53 => ?_)
        ·
          try (have hn0 := hn)
          refine aw_iconst (v := 0) dX7_people_63 (by decide) ?_
          refine aw_istore (i := 5) dX7_people_64 (by decide) ?_
          have lp66 : ∀ k9 j X, j + k9 = m / 5 → pplI n (nI k) a j M X → AW l 7 yX7_people cX7_people 6 (some FieldType.int) 66 [some (.ref 0), some (.int (nI k)), some (.int (nI a)), some (.int (nI m)), none, some (.int (nI j))] [] X (QI (S_people M n (nI k) (nI a) (nI m))) := by
            intro k9
            induction k9 using Nat.strongRecOn with
            | _ k9 ih =>
            intro j X hk9 hX
            obtain ⟨c1, c2, c3⟩ := ppl_cnt hn hn30 hz j X hX
            refine aw_iload (i := 5) dX7_people_66 rfl ?_
            refine aw_iload_n (i := 3) dX7_people_68 rfl rfl ?_
            refine aw_iconst (v := 5) dX7_people_69 (by decide) ?_
            refine aw_idiv dX7_people_70 (by decide) ?_
            refine aw_top (nI_div5 m (by omega)) ?_
            refine aw_icmp_geN (tgt := 94) (by omega) (by omega) dX7_people_71 (by decide) (fun h71 => ?_) (fun h71 => ?_)
            ·
              refine aw_iload (i := 5) dX7_people_94 rfl ?_
              exact aw_iret rfl dX7_people_96 ⟨_, rfl, by unfold S_people; (try rw [nI_clamp (show a < 2 ^ 31 from by omega)]); (try rw [nI_clamp (show m < 2 ^ 31 from by omega)]); (first | rw [pIf_t h9] | rw [pIf_f h9] | rw [pIf_f (Int32.not_lt.mpr h9)] | rw [pIf_f (Int32.not_le.mpr h9)] | rw [pIf_t (Int32.not_le.mp h9)] | rw [pIf_t (Int32.not_lt.mp h9)] | rw [pIf_f (Nat.not_lt.mpr h9)] | rw [pIf_f (Nat.not_le.mpr h9)] | rw [pIf_t (Nat.not_le.mp h9)] | rw [pIf_t (Nat.not_lt.mp h9)] | skip); (first | rw [pIf_t h20] | rw [pIf_f h20] | rw [pIf_f (Int32.not_lt.mpr h20)] | rw [pIf_f (Int32.not_le.mpr h20)] | rw [pIf_t (Int32.not_le.mp h20)] | rw [pIf_t (Int32.not_lt.mp h20)] | rw [pIf_f (Nat.not_lt.mpr h20)] | rw [pIf_f (Nat.not_le.mpr h20)] | rw [pIf_t (Nat.not_le.mp h20)] | rw [pIf_t (Nat.not_lt.mp h20)] | skip); (first | rw [pIf_t h40] | rw [pIf_f h40] | rw [pIf_f (Int32.not_lt.mpr h40)] | rw [pIf_f (Int32.not_le.mpr h40)] | rw [pIf_t (Int32.not_le.mp h40)] | rw [pIf_t (Int32.not_lt.mp h40)] | rw [pIf_f (Nat.not_lt.mpr h40)] | rw [pIf_f (Nat.not_le.mpr h40)] | rw [pIf_t (Nat.not_le.mp h40)] | rw [pIf_t (Nat.not_lt.mp h40)] | skip); (first | rw [pIf_t h53] | rw [pIf_f h53] | rw [pIf_f (Int32.not_lt.mpr h53)] | rw [pIf_f (Int32.not_le.mpr h53)] | rw [pIf_t (Int32.not_le.mp h53)] | rw [pIf_t (Int32.not_lt.mp h53)] | rw [pIf_f (Nat.not_lt.mpr h53)] | rw [pIf_f (Nat.not_le.mpr h53)] | rw [pIf_t (Nat.not_le.mp h53)] | rw [pIf_t (Nat.not_lt.mp h53)] | skip); exact ⟨j, X, hX, rfl, by omega, Or.inl ⟨by omega, rfl⟩⟩⟩
            ·
              refine aw_aload_n (i := 0) dX7_people_74 rfl rfl ?_
              refine aw_iload_n (i := 1) dX7_people_75 rfl rfl ?_
              refine aw_iload_n (i := 2) dX7_people_76 rfl rfl ?_
              refine aw_iload (i := 5) dX7_people_77 rfl ?_
              refine aw_iconst (v := 5) dX7_people_79 (by decide) ?_
              refine aw_imul dX7_people_80 ?_
              refine aw_top (nI_mul5 j (by omega)) ?_
              refine aw_iadd dX7_people_81 ?_
              refine aw_top (nI_add a (j * 5)) ?_
              refine aw_cVQ ck_X7_153 (m_X7_admitFrom c3 c2 c1) sh_0 rfl (by decide) (by decide) rfl rfl (Nat.le_of_ble_eq_true rfl) dX7_people_82 (fun r M9 hq9 => ?_)
              obtain ⟨v9, rfl, hS9⟩ := hq9
              have hv9 : v9 = 0 ∨ v9 = 1 := adm_01 hS9
              refine aw_if_eq (tgt := 94) dX7_people_85 (by decide) (fun h85 => ?_) (fun h85 => ?_)
              ·
                subst h85
                refine aw_iload (i := 5) dX7_people_94 rfl ?_
                exact aw_iret rfl dX7_people_96 ⟨_, rfl, by unfold S_people; (try rw [nI_clamp (show a < 2 ^ 31 from by omega)]); (try rw [nI_clamp (show m < 2 ^ 31 from by omega)]); (first | rw [pIf_t h9] | rw [pIf_f h9] | rw [pIf_f (Int32.not_lt.mpr h9)] | rw [pIf_f (Int32.not_le.mpr h9)] | rw [pIf_t (Int32.not_le.mp h9)] | rw [pIf_t (Int32.not_lt.mp h9)] | rw [pIf_f (Nat.not_lt.mpr h9)] | rw [pIf_f (Nat.not_le.mpr h9)] | rw [pIf_t (Nat.not_le.mp h9)] | rw [pIf_t (Nat.not_lt.mp h9)] | skip); (first | rw [pIf_t h20] | rw [pIf_f h20] | rw [pIf_f (Int32.not_lt.mpr h20)] | rw [pIf_f (Int32.not_le.mpr h20)] | rw [pIf_t (Int32.not_le.mp h20)] | rw [pIf_t (Int32.not_lt.mp h20)] | rw [pIf_f (Nat.not_lt.mpr h20)] | rw [pIf_f (Nat.not_le.mpr h20)] | rw [pIf_t (Nat.not_le.mp h20)] | rw [pIf_t (Nat.not_lt.mp h20)] | skip); (first | rw [pIf_t h40] | rw [pIf_f h40] | rw [pIf_f (Int32.not_lt.mpr h40)] | rw [pIf_f (Int32.not_le.mpr h40)] | rw [pIf_t (Int32.not_le.mp h40)] | rw [pIf_t (Int32.not_lt.mp h40)] | rw [pIf_f (Nat.not_lt.mpr h40)] | rw [pIf_f (Nat.not_le.mpr h40)] | rw [pIf_t (Nat.not_le.mp h40)] | rw [pIf_t (Nat.not_lt.mp h40)] | skip); (first | rw [pIf_t h53] | rw [pIf_f h53] | rw [pIf_f (Int32.not_lt.mpr h53)] | rw [pIf_f (Int32.not_le.mpr h53)] | rw [pIf_t (Int32.not_le.mp h53)] | rw [pIf_t (Int32.not_lt.mp h53)] | rw [pIf_f (Nat.not_lt.mpr h53)] | rw [pIf_f (Nat.not_le.mpr h53)] | rw [pIf_t (Nat.not_le.mp h53)] | rw [pIf_t (Nat.not_lt.mp h53)] | skip); exact ⟨j, X, hX, rfl, by omega, Or.inr ⟨by omega, hS9⟩⟩⟩
              ·
                have h86 : v9 = 1 := hv9.resolve_left h85
                subst h86
                refine aw_iincN (i := 5) dX7_people_88 rfl (by decide) ?_
                refine aw_goto (tgt := 66) dX7_people_91 (by decide) ?_
                refine aw_loc (la := [some (.ref 0), some (.int (nI k)), some (.int (nI a)), some (.int (nI m)), none, some (.int (nI (j + 1)))]) ⟨rfl, rfl, rfl, rfl, rfl, trivial⟩ ?_
                exact ih (k9 - 1) (by omega) (j + 1) M9 (by omega) ⟨X, hX, hS9⟩
          refine aw_loc (la := [some (.ref 0), some (.int (nI k)), some (.int (nI a)), some (.int (nI m)), none, some (.int (nI 0))]) ⟨rfl, rfl, rfl, rfl, rfl, trivial⟩ ?_
          exact lp66 (m / 5) 0 M (by omega) rfl
        ·
          refine aw_aload_n (i := 0) dX7_people_56 rfl rfl ?_
          refine aw_bipush (v := (-6)) dX7_people_57 (by decide) ?_
          refine aw_cVi ck_X7_86 (m_X7_refuse (k := 5) (by decide) (by decide)) sh_0 rfl (by decide) (by decide) rfl rfl (Nat.le_of_ble_eq_true rfl) dX7_people_59 ?_
          exact aw_iret rfl dX7_people_62 (by first | contradiction | exact ⟨_, rfl, by unfold S_people; (try rw [nI_clamp (show a < 2 ^ 31 from by omega)]); (try rw [nI_clamp (show m < 2 ^ 31 from by omega)]); (first | rw [pIf_t h9] | rw [pIf_f h9] | rw [pIf_f (Int32.not_lt.mpr h9)] | rw [pIf_f (Int32.not_le.mpr h9)] | rw [pIf_t (Int32.not_le.mp h9)] | rw [pIf_t (Int32.not_lt.mp h9)] | rw [pIf_f (Nat.not_lt.mpr h9)] | rw [pIf_f (Nat.not_le.mpr h9)] | rw [pIf_t (Nat.not_le.mp h9)] | rw [pIf_t (Nat.not_lt.mp h9)] | skip); (first | rw [pIf_t h20] | rw [pIf_f h20] | rw [pIf_f (Int32.not_lt.mpr h20)] | rw [pIf_f (Int32.not_le.mpr h20)] | rw [pIf_t (Int32.not_le.mp h20)] | rw [pIf_t (Int32.not_lt.mp h20)] | rw [pIf_f (Nat.not_lt.mpr h20)] | rw [pIf_f (Nat.not_le.mpr h20)] | rw [pIf_t (Nat.not_le.mp h20)] | rw [pIf_t (Nat.not_lt.mp h20)] | skip); (first | rw [pIf_t h40] | rw [pIf_f h40] | rw [pIf_f (Int32.not_lt.mpr h40)] | rw [pIf_f (Int32.not_le.mpr h40)] | rw [pIf_t (Int32.not_le.mp h40)] | rw [pIf_t (Int32.not_lt.mp h40)] | rw [pIf_f (Nat.not_lt.mpr h40)] | rw [pIf_f (Nat.not_le.mpr h40)] | rw [pIf_t (Nat.not_le.mp h40)] | rw [pIf_t (Nat.not_lt.mp h40)] | skip); (first | rw [pIf_t h53] | rw [pIf_f h53] | rw [pIf_f (Int32.not_lt.mpr h53)] | rw [pIf_f (Int32.not_le.mpr h53)] | rw [pIf_t (Int32.not_le.mp h53)] | rw [pIf_t (Int32.not_lt.mp h53)] | rw [pIf_f (Nat.not_lt.mpr h53)] | rw [pIf_f (Nat.not_le.mpr h53)] | rw [pIf_t (Nat.not_le.mp h53)] | rw [pIf_t (Nat.not_lt.mp h53)] | skip); (try rw [nI_clamp (show a < 2 ^ 31 from by omega)]); (try rw [nI_clamp (show m < 2 ^ 31 from by omega)]); exact ⟨rfl, rfl⟩⟩)
      ·
        refine aw_aload_n (i := 0) dX7_people_43 rfl rfl ?_
        refine aw_bipush (v := (-5)) dX7_people_44 (by decide) ?_
        refine aw_cVi ck_X7_86 (m_X7_refuse (k := 4) (by decide) (by decide)) sh_0 rfl (by decide) (by decide) rfl rfl (Nat.le_of_ble_eq_true rfl) dX7_people_46 ?_
        exact aw_iret rfl dX7_people_49 (by first | contradiction | exact ⟨_, rfl, by unfold S_people; (try rw [nI_clamp (show a < 2 ^ 31 from by omega)]); (try rw [nI_clamp (show m < 2 ^ 31 from by omega)]); (first | rw [pIf_t h9] | rw [pIf_f h9] | rw [pIf_f (Int32.not_lt.mpr h9)] | rw [pIf_f (Int32.not_le.mpr h9)] | rw [pIf_t (Int32.not_le.mp h9)] | rw [pIf_t (Int32.not_lt.mp h9)] | rw [pIf_f (Nat.not_lt.mpr h9)] | rw [pIf_f (Nat.not_le.mpr h9)] | rw [pIf_t (Nat.not_le.mp h9)] | rw [pIf_t (Nat.not_lt.mp h9)] | skip); (first | rw [pIf_t h20] | rw [pIf_f h20] | rw [pIf_f (Int32.not_lt.mpr h20)] | rw [pIf_f (Int32.not_le.mpr h20)] | rw [pIf_t (Int32.not_le.mp h20)] | rw [pIf_t (Int32.not_lt.mp h20)] | rw [pIf_f (Nat.not_lt.mpr h20)] | rw [pIf_f (Nat.not_le.mpr h20)] | rw [pIf_t (Nat.not_le.mp h20)] | rw [pIf_t (Nat.not_lt.mp h20)] | skip); (first | rw [pIf_t h40] | rw [pIf_f h40] | rw [pIf_f (Int32.not_lt.mpr h40)] | rw [pIf_f (Int32.not_le.mpr h40)] | rw [pIf_t (Int32.not_le.mp h40)] | rw [pIf_t (Int32.not_lt.mp h40)] | rw [pIf_f (Nat.not_lt.mpr h40)] | rw [pIf_f (Nat.not_le.mpr h40)] | rw [pIf_t (Nat.not_le.mp h40)] | rw [pIf_t (Nat.not_lt.mp h40)] | skip); (try rw [nI_clamp (show a < 2 ^ 31 from by omega)]); (try rw [nI_clamp (show m < 2 ^ 31 from by omega)]); exact ⟨rfl, rfl⟩⟩)
    ·
      refine aw_aload_n (i := 0) dX7_people_23 rfl rfl ?_
      refine aw_bipush (v := (-4)) dX7_people_24 (by decide) ?_
      refine aw_cVi ck_X7_86 (m_X7_refuse (k := 3) (by decide) (by decide)) sh_0 rfl (by decide) (by decide) rfl rfl (Nat.le_of_ble_eq_true rfl) dX7_people_26 ?_
      exact aw_iret rfl dX7_people_29 (by first | contradiction | exact ⟨_, rfl, by unfold S_people; (try rw [nI_clamp (show a < 2 ^ 31 from by omega)]); (try rw [nI_clamp (show m < 2 ^ 31 from by omega)]); (first | rw [pIf_t h9] | rw [pIf_f h9] | rw [pIf_f (Int32.not_lt.mpr h9)] | rw [pIf_f (Int32.not_le.mpr h9)] | rw [pIf_t (Int32.not_le.mp h9)] | rw [pIf_t (Int32.not_lt.mp h9)] | rw [pIf_f (Nat.not_lt.mpr h9)] | rw [pIf_f (Nat.not_le.mpr h9)] | rw [pIf_t (Nat.not_le.mp h9)] | rw [pIf_t (Nat.not_lt.mp h9)] | skip); (first | rw [pIf_t h20] | rw [pIf_f h20] | rw [pIf_f (Int32.not_lt.mpr h20)] | rw [pIf_f (Int32.not_le.mpr h20)] | rw [pIf_t (Int32.not_le.mp h20)] | rw [pIf_t (Int32.not_lt.mp h20)] | rw [pIf_f (Nat.not_lt.mpr h20)] | rw [pIf_f (Nat.not_le.mpr h20)] | rw [pIf_t (Nat.not_le.mp h20)] | rw [pIf_t (Nat.not_lt.mp h20)] | skip); (try rw [nI_clamp (show a < 2 ^ 31 from by omega)]); (try rw [nI_clamp (show m < 2 ^ 31 from by omega)]); exact ⟨rfl, rfl⟩⟩)
  ·
    have hrf := rr_ok h9
    refine aw_aload_n (i := 0) dX7_people_12 rfl rfl ?_
    refine aw_iload (i := 4) dX7_people_13 rfl ?_
    refine aw_cVi ck_X7_86 (m_X7_refA hrf) sh_0 rfl (by decide) (by decide) rfl rfl (Nat.le_of_ble_eq_true rfl) dX7_people_15 ?_
    exact aw_iret rfl dX7_people_18 (by first | contradiction | exact ⟨_, rfl, by unfold S_people; (try rw [nI_clamp (show a < 2 ^ 31 from by omega)]); (try rw [nI_clamp (show m < 2 ^ 31 from by omega)]); (first | rw [pIf_t h9] | rw [pIf_f h9] | rw [pIf_f (Int32.not_lt.mpr h9)] | rw [pIf_f (Int32.not_le.mpr h9)] | rw [pIf_t (Int32.not_le.mp h9)] | rw [pIf_t (Int32.not_lt.mp h9)] | rw [pIf_f (Nat.not_lt.mpr h9)] | rw [pIf_f (Nat.not_le.mpr h9)] | rw [pIf_t (Nat.not_le.mp h9)] | rw [pIf_t (Nat.not_lt.mp h9)] | skip); (try rw [nI_clamp (show a < 2 ^ 31 from by omega)]); (try rw [nI_clamp (show m < 2 ^ 31 from by omega)]); exact ⟨rfl, rfl⟩⟩)
