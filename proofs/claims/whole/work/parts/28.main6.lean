def S_part (M : Mm) (n cnt : Nat) (w o x : Int32) (v : Int32) (M' : Mm) : Prop := pIf (w = -1 ∨ (¬ w < 0 ∧ ¬ M.1 78 1 ≤ w)) (pIf (o = -1 ∨ (¬ o < 0 ∧ ¬ M.1 78 1 ≤ o)) (pIf (¬ x < 0 ∧ ¬ 200 < x) (∃ Y j, gtQ 44 n cnt w x.toNatClampNeg M Y ∧ gtQ 61 n cnt o x.toNatClampNeg Y M' ∧ j ≤ x.toNatClampNeg ∧ (∀ i, i < j → M'.1 45 i = M'.1 62 i) ∧ ((j < x.toNatClampNeg ∧ ¬ M'.1 45 j = M'.1 62 j ∧ v = nI j) ∨ (j = x.toNatClampNeg ∧ v = -1))) (v = -16 ∧ M' = rfx M 5)) (v = -11 ∧ M' = rfx M 0)) (v = -11 ∧ M' = rfx M 0)
theorem m_X7_part {l : Launch} {M : Mm} {w o x : Int32} {n : Nat} (hn : M.1 14 11 = nI n) (hn30 : n ≤ 30) {cnt : Nat} (hcn : M.1 78 1 = nI cnt) (hc6 : cnt ≤ 6) : AMet l 7 yX7_part cX7_part 5 (some FieldType.int) [.ref 0, .int w, .int o, .int x] M (QI (S_part M n cnt w o x)) := by
  refine AMet.of (by decide) (by simp [aargs, Value.category]) ?_
  show AW l 7 yX7_part cX7_part 5 (some FieldType.int) 0 [some (.ref 0), some (.int w), some (.int o), some (.int x), none] [] M _
  refine aw_aload_n (i := 0) dX7_part_0 rfl rfl ?_
  refine aw_getR gf_X7_26 sh_0 rfl dX7_part_1 ?_
  refine aw_iload_n (i := 1) dX7_part_4 rfl rfl ?_
  refine aw_cVi ck_X7_198 (m_X3_hasOrNone (by simp [isB] : isB 78)) sh_78 rfl (by decide) (by decide) rfl rfl (Nat.le_of_ble_eq_true rfl) dX7_part_5 ?_
  refine aw_ifeq_b (tgt := 22) dX7_part_8 (by decide) (fun h8 => ?_) (fun h8 => ?_)
  ·
    refine aw_aload_n (i := 0) dX7_part_22 rfl rfl ?_
    refine aw_bipush (v := (-11)) dX7_part_23 (by decide) ?_
    refine aw_cVi ck_X7_86 (m_X7_refuse (k := 0) (by decide) (by decide)) sh_0 rfl (by decide) (by decide) rfl rfl (Nat.le_of_ble_eq_true rfl) dX7_part_25 ?_
    exact aw_iret rfl dX7_part_28 (by first | contradiction | exact ⟨_, rfl, by unfold S_part; (first | rw [pIf_t h8] | rw [pIf_f h8] | rw [pIf_f (Int32.not_lt.mpr h8)] | rw [pIf_f (Int32.not_le.mpr h8)] | rw [pIf_t (Int32.not_le.mp h8)] | rw [pIf_t (Int32.not_lt.mp h8)] | rw [pIf_f (Nat.not_lt.mpr h8)] | rw [pIf_f (Nat.not_le.mpr h8)] | rw [pIf_t (Nat.not_le.mp h8)] | rw [pIf_t (Nat.not_lt.mp h8)] | skip); exact ⟨rfl, rfl⟩⟩)
  ·
    refine aw_aload_n (i := 0) dX7_part_11 rfl rfl ?_
    refine aw_getR gf_X7_26 sh_0 rfl dX7_part_12 ?_
    refine aw_iload_n (i := 2) dX7_part_15 rfl rfl ?_
    refine aw_cVi ck_X7_198 (m_X3_hasOrNone (by simp [isB] : isB 78)) sh_78 rfl (by decide) (by decide) rfl rfl (Nat.le_of_ble_eq_true rfl) dX7_part_16 ?_
    refine aw_ifne_b (tgt := 29) dX7_part_19 (by decide) (fun h19 => ?_) (fun h19 => ?_)
    ·
      refine aw_iload_n (i := 3) dX7_part_29 rfl rfl ?_
      refine aw_cSi ck_X7_252 m_X7_isEvening (by decide) (by decide) rfl rfl (Nat.le_of_ble_eq_true rfl) dX7_part_30 ?_
      refine aw_ifne_b (tgt := 43) dX7_part_33 (by decide) (fun h33 => ?_) (fun h33 => ?_)
      ·
        obtain ⟨m, hm, rfl⟩ := n0_200 h33
        refine aw_aload_n (i := 0) dX7_part_43 rfl rfl ?_
        refine aw_aload_n (i := 0) dX7_part_44 rfl rfl ?_
        refine aw_getR gf_X7_40 sh_0 rfl dX7_part_45 ?_
        refine aw_iload_n (i := 1) dX7_part_48 rfl rfl ?_
        refine aw_iload_n (i := 3) dX7_part_49 rfl rfl ?_
        refine aw_cVQ ck_X7_255 (m_X7_goThrough (by simp [isE] : isE 44) hn hn30 hcn hc6 (by omega)) sh_0 rfl (by decide) (by decide) rfl rfl (Nat.le_of_ble_eq_true rfl) dX7_part_50 (fun r M9 hq9 => ?_)
        obtain ⟨rfl, hg1⟩ := hq9
        generalize M9 = Y at hg1 ⊢
        have hY1 := (gtQ_I hn hg1).1
        refine aw_aload_n (i := 0) dX7_part_53 rfl rfl ?_
        refine aw_aload_n (i := 0) dX7_part_54 rfl rfl ?_
        refine aw_getR gf_X7_44 sh_0 rfl dX7_part_55 ?_
        refine aw_iload_n (i := 2) dX7_part_58 rfl rfl ?_
        refine aw_iload_n (i := 3) dX7_part_59 rfl rfl ?_
        refine aw_cVQ ck_X7_255 (m_X7_goThrough (by simp [isE] : isE 61) ((congrFun (hY1.2 14 (by omega)) _).trans hn) hn30 ((congrFun (hY1.2 78 (by omega)) _).trans hcn) hc6 (by omega)) sh_0 rfl (by decide) (by decide) rfl rfl (Nat.le_of_ble_eq_true rfl) dX7_part_60 (fun r M9 hq9 => ?_)
        obtain ⟨rfl, hg2⟩ := hq9
        generalize M9 = Z at hg2 ⊢
        refine aw_iconst (v := 0) dX7_part_63 (by decide) ?_
        refine aw_istore (i := 4) dX7_part_64 (by decide) ?_
        have lp66 : ∀ k9 j, j + k9 = m → (∀ i, i < j → Z.1 45 i = Z.1 62 i) → AW l 7 yX7_part cX7_part 5 (some FieldType.int) 66 [some (.ref 0), some (.int w), some (.int o), some (.int (nI m)), some (.int (nI j))] [] Z (QI (S_part M n cnt w o (nI m))) := by
          intro k9
          induction k9 using Nat.strongRecOn with
          | _ k9 ih =>
          intro j hk9 hall
          refine aw_iload (i := 4) dX7_part_66 rfl ?_
          refine aw_iload_n (i := 3) dX7_part_68 rfl rfl ?_
          refine aw_icmp_geN (tgt := 104) (by omega) (by omega) dX7_part_69 (by decide) (fun h69 => ?_) (fun h69 => ?_)
          ·
            refine aw_iconst (v := (-1)) dX7_part_104 (by decide) ?_
            exact aw_iret rfl dX7_part_105 ⟨_, rfl, by unfold S_part; rw [nI_clamp (show m < 2 ^ 31 from by omega)]; (first | rw [pIf_t h8] | rw [pIf_f h8] | rw [pIf_f (Int32.not_lt.mpr h8)] | rw [pIf_f (Int32.not_le.mpr h8)] | rw [pIf_t (Int32.not_le.mp h8)] | rw [pIf_t (Int32.not_lt.mp h8)] | rw [pIf_f (Nat.not_lt.mpr h8)] | rw [pIf_f (Nat.not_le.mpr h8)] | rw [pIf_t (Nat.not_le.mp h8)] | rw [pIf_t (Nat.not_lt.mp h8)] | skip); (first | rw [pIf_t h19] | rw [pIf_f h19] | rw [pIf_f (Int32.not_lt.mpr h19)] | rw [pIf_f (Int32.not_le.mpr h19)] | rw [pIf_t (Int32.not_le.mp h19)] | rw [pIf_t (Int32.not_lt.mp h19)] | rw [pIf_f (Nat.not_lt.mpr h19)] | rw [pIf_f (Nat.not_le.mpr h19)] | rw [pIf_t (Nat.not_le.mp h19)] | rw [pIf_t (Nat.not_lt.mp h19)] | skip); (first | rw [pIf_t h33] | rw [pIf_f h33] | rw [pIf_f (Int32.not_lt.mpr h33)] | rw [pIf_f (Int32.not_le.mpr h33)] | rw [pIf_t (Int32.not_le.mp h33)] | rw [pIf_t (Int32.not_lt.mp h33)] | rw [pIf_f (Nat.not_lt.mpr h33)] | rw [pIf_f (Nat.not_le.mpr h33)] | rw [pIf_t (Nat.not_le.mp h33)] | rw [pIf_t (Nat.not_lt.mp h33)] | skip); exact ⟨Y, j, hg1, hg2, by omega, hall, Or.inr ⟨by omega, rfl⟩⟩⟩
          ·
            refine aw_aload_n (i := 0) dX7_part_72 rfl rfl ?_
            refine aw_getR gf_X7_40 sh_0 rfl dX7_part_73 ?_
            refine aw_getR gf_X7_265 sh_44 rfl dX7_part_76 ?_
            refine aw_iload (i := 4) dX7_part_79 rfl ?_
            refine aw_ialdN sh_45 (by omega) (by omega) dX7_part_81 ?_
            refine aw_aload_n (i := 0) dX7_part_82 rfl rfl ?_
            refine aw_getR gf_X7_44 sh_0 rfl dX7_part_83 ?_
            refine aw_getR gf_X7_265 sh_61 rfl dX7_part_86 ?_
            refine aw_iload (i := 4) dX7_part_89 rfl ?_
            refine aw_ialdN sh_62 (by omega) (by omega) dX7_part_91 ?_
            refine aw_icmp_eq (tgt := 98) dX7_part_92 (by decide) (fun h92 => ?_) (fun h92 => ?_)
            ·
              refine aw_iincN (i := 4) dX7_part_98 rfl (by decide) ?_
              refine aw_goto (tgt := 66) dX7_part_101 (by decide) ?_
              refine aw_loc (la := [some (.ref 0), some (.int w), some (.int o), some (.int (nI m)), some (.int (nI (j + 1)))]) ⟨rfl, rfl, rfl, rfl, rfl, trivial⟩ ?_
              exact ih (k9 - 1) (by omega) (j + 1) (by omega) (fun i hi => by
                by_cases e : i = j
                · subst e; exact h92
                · exact hall i (by omega))
            ·
              refine aw_iload (i := 4) dX7_part_95 rfl ?_
              exact aw_iret rfl dX7_part_97 ⟨_, rfl, by unfold S_part; rw [nI_clamp (show m < 2 ^ 31 from by omega)]; (first | rw [pIf_t h8] | rw [pIf_f h8] | rw [pIf_f (Int32.not_lt.mpr h8)] | rw [pIf_f (Int32.not_le.mpr h8)] | rw [pIf_t (Int32.not_le.mp h8)] | rw [pIf_t (Int32.not_lt.mp h8)] | rw [pIf_f (Nat.not_lt.mpr h8)] | rw [pIf_f (Nat.not_le.mpr h8)] | rw [pIf_t (Nat.not_le.mp h8)] | rw [pIf_t (Nat.not_lt.mp h8)] | skip); (first | rw [pIf_t h19] | rw [pIf_f h19] | rw [pIf_f (Int32.not_lt.mpr h19)] | rw [pIf_f (Int32.not_le.mpr h19)] | rw [pIf_t (Int32.not_le.mp h19)] | rw [pIf_t (Int32.not_lt.mp h19)] | rw [pIf_f (Nat.not_lt.mpr h19)] | rw [pIf_f (Nat.not_le.mpr h19)] | rw [pIf_t (Nat.not_le.mp h19)] | rw [pIf_t (Nat.not_lt.mp h19)] | skip); (first | rw [pIf_t h33] | rw [pIf_f h33] | rw [pIf_f (Int32.not_lt.mpr h33)] | rw [pIf_f (Int32.not_le.mpr h33)] | rw [pIf_t (Int32.not_le.mp h33)] | rw [pIf_t (Int32.not_lt.mp h33)] | rw [pIf_f (Nat.not_lt.mpr h33)] | rw [pIf_f (Nat.not_le.mpr h33)] | rw [pIf_t (Nat.not_le.mp h33)] | rw [pIf_t (Nat.not_lt.mp h33)] | skip); exact ⟨Y, j, hg1, hg2, by omega, hall, Or.inl ⟨by omega, h92, rfl⟩⟩⟩
        refine aw_loc (la := [some (.ref 0), some (.int w), some (.int o), some (.int (nI m)), some (.int (nI 0))]) ⟨rfl, rfl, rfl, rfl, rfl, trivial⟩ ?_
        exact lp66 m 0 (by omega) (fun i hi => absurd hi (by omega))
      ·
        refine aw_aload_n (i := 0) dX7_part_36 rfl rfl ?_
        refine aw_bipush (v := (-16)) dX7_part_37 (by decide) ?_
        refine aw_cVi ck_X7_86 (m_X7_refuse (k := 5) (by decide) (by decide)) sh_0 rfl (by decide) (by decide) rfl rfl (Nat.le_of_ble_eq_true rfl) dX7_part_39 ?_
        exact aw_iret rfl dX7_part_42 (by first | contradiction | exact ⟨_, rfl, by unfold S_part; (first | rw [pIf_t h8] | rw [pIf_f h8] | rw [pIf_f (Int32.not_lt.mpr h8)] | rw [pIf_f (Int32.not_le.mpr h8)] | rw [pIf_t (Int32.not_le.mp h8)] | rw [pIf_t (Int32.not_lt.mp h8)] | rw [pIf_f (Nat.not_lt.mpr h8)] | rw [pIf_f (Nat.not_le.mpr h8)] | rw [pIf_t (Nat.not_le.mp h8)] | rw [pIf_t (Nat.not_lt.mp h8)] | skip); (first | rw [pIf_t h19] | rw [pIf_f h19] | rw [pIf_f (Int32.not_lt.mpr h19)] | rw [pIf_f (Int32.not_le.mpr h19)] | rw [pIf_t (Int32.not_le.mp h19)] | rw [pIf_t (Int32.not_lt.mp h19)] | rw [pIf_f (Nat.not_lt.mpr h19)] | rw [pIf_f (Nat.not_le.mpr h19)] | rw [pIf_t (Nat.not_le.mp h19)] | rw [pIf_t (Nat.not_lt.mp h19)] | skip); (first | rw [pIf_t h33] | rw [pIf_f h33] | rw [pIf_f (Int32.not_lt.mpr h33)] | rw [pIf_f (Int32.not_le.mpr h33)] | rw [pIf_t (Int32.not_le.mp h33)] | rw [pIf_t (Int32.not_lt.mp h33)] | rw [pIf_f (Nat.not_lt.mpr h33)] | rw [pIf_f (Nat.not_le.mpr h33)] | rw [pIf_t (Nat.not_le.mp h33)] | rw [pIf_t (Nat.not_lt.mp h33)] | skip); exact ⟨rfl, rfl⟩⟩)
    ·
      refine aw_aload_n (i := 0) dX7_part_22 rfl rfl ?_
      refine aw_bipush (v := (-11)) dX7_part_23 (by decide) ?_
      refine aw_cVi ck_X7_86 (m_X7_refuse (k := 0) (by decide) (by decide)) sh_0 rfl (by decide) (by decide) rfl rfl (Nat.le_of_ble_eq_true rfl) dX7_part_25 ?_
      exact aw_iret rfl dX7_part_28 (by first | contradiction | exact ⟨_, rfl, by unfold S_part; (first | rw [pIf_t h8] | rw [pIf_f h8] | rw [pIf_f (Int32.not_lt.mpr h8)] | rw [pIf_f (Int32.not_le.mpr h8)] | rw [pIf_t (Int32.not_le.mp h8)] | rw [pIf_t (Int32.not_lt.mp h8)] | rw [pIf_f (Nat.not_lt.mpr h8)] | rw [pIf_f (Nat.not_le.mpr h8)] | rw [pIf_t (Nat.not_le.mp h8)] | rw [pIf_t (Nat.not_lt.mp h8)] | skip); (first | rw [pIf_t h19] | rw [pIf_f h19] | rw [pIf_f (Int32.not_lt.mpr h19)] | rw [pIf_f (Int32.not_le.mpr h19)] | rw [pIf_t (Int32.not_le.mp h19)] | rw [pIf_t (Int32.not_lt.mp h19)] | rw [pIf_f (Nat.not_lt.mpr h19)] | rw [pIf_f (Nat.not_le.mpr h19)] | rw [pIf_t (Nat.not_le.mp h19)] | rw [pIf_t (Nat.not_lt.mp h19)] | skip); exact ⟨rfl, rfl⟩⟩)
def mnF (ln : Nat → Int32) : Nat → Int32
  | 0 => 100
  | i + 1 => if ln i < mnF ln i then ln i else mnF ln i
def mxF (ln : Nat → Int32) : Nat → Int32
  | 0 => 0
  | i + 1 => if mxF ln i < ln i then ln i else mxF ln i
def spQ (n L : Nat) (i : Nat) (X Y : Mm) : Prop := ∃ Z, becM 46 14 X Z ∧ evQ 44 n L 100 (mI Z 46 13 (Z.1 14 13 + nI i)) Y
theorem spQ_I {n L i : Nat} {X Y : Mm} (hn : X.1 14 11 = nI n) (h : spQ n L i X Y) : outE 44 X Y ∧ Y.1 44 2 = nI 100 := by
  obtain ⟨Z, h1, h2⟩ := h
  obtain ⟨q1, -, q3⟩ := evQ_I (show (mI Z 46 13 (Z.1 14 13 + nI i)).1 (44 + 2) 11 = nI n from by rw [show 44 + 2 = 46 from rfl, mI_self, upd_other (by decide)]; exact bec_n (v := 44) hn h1) h2
  exact ⟨⟨q1.1.trans h1.1.1, fun k hk => (q1.2 k hk).trans ((mI_other (by omega)).trans (bec_o (v := 44) h1 hk))⟩, q3⟩
def S_spread (ln : Nat → Int32) (n cnt : Nat) (M : Mm) (x : Int32) (v : Int32) (M' : Mm) : Prop := pIf (x < 1) (v = -6 ∧ M' = rfx M 5) (pIf (20 < x) (v = -6 ∧ M' = rfx M 5) (outE 44 M M' ∧ v = mxF ln x.toNatClampNeg - mnF ln x.toNatClampNeg))
theorem n1_20 {x : Int32} (h1 : ¬ x < 1) (h2 : x ≤ 20) : ∃ m, m < 21 ∧ x = nI m := by
  have e1 : (1 : Int32).toInt = 1 := by decide
  have e0 : (0 : Int32).toInt = 0 := by decide
  have e2 : (20 : Int32).toInt = 20 := by decide
  rw [i32_lt, e1] at h1
  rw [Int32.le_iff_toInt_le, e2] at h2
  rcases pk_ix x (n := 21) (by decide) with q | q | q
  · rw [i32_lt, e0] at q; omega
  · rw [Int32.le_iff_toInt_le, nI_toInt (by decide)] at q; omega
  · exact q
theorem m_X7_spread {l : Launch} {M : Mm} {x : Int32} {ln : Nat → Int32} {n : Nat} (hn : M.1 14 11 = nI n) (hn30 : n ≤ 30) {cnt : Nat} (hcn : M.1 78 1 = nI cnt) (hc6 : cnt ≤ 6) (hL : ∀ i X Y, outE 44 M X → spQ n (lawRow 78 cnt (M.1 78 2)) i X Y → lenI (Y.1 (44 + 1)) 100 = ln i) : AMet l 7 yX7_spread cX7_spread 6 (some FieldType.int) [.ref 0, .int x] M (QI (S_spread ln n cnt M x)) := by
  refine AMet.of (by decide) (by simp [aargs, Value.category]) ?_
  show AW l 7 yX7_spread cX7_spread 6 (some FieldType.int) 0 [some (.ref 0), some (.int x), none, none, none, none] [] M _
  refine aw_iload_n (i := 1) dX7_spread_0 rfl rfl ?_
  refine aw_iconst (v := 1) dX7_spread_1 (by decide) ?_
  refine aw_icmp_lt (tgt := 11) dX7_spread_2 (by decide) (fun h2 => ?_) (fun h2 => ?_)
  ·
    refine aw_aload_n (i := 0) dX7_spread_11 rfl rfl ?_
    refine aw_bipush (v := (-6)) dX7_spread_12 (by decide) ?_
    refine aw_cVi ck_X7_86 (m_X7_refuse (k := 5) (by decide) (by decide)) sh_0 rfl (by decide) (by decide) rfl rfl (Nat.le_of_ble_eq_true rfl) dX7_spread_14 ?_
    exact aw_iret rfl dX7_spread_17 (by first | contradiction | exact ⟨_, rfl, by unfold S_spread; (first | rw [pIf_t h2] | rw [pIf_f h2] | rw [pIf_f (Int32.not_lt.mpr h2)] | rw [pIf_f (Int32.not_le.mpr h2)] | rw [pIf_t (Int32.not_le.mp h2)] | rw [pIf_t (Int32.not_lt.mp h2)] | rw [pIf_f (Nat.not_lt.mpr h2)] | rw [pIf_f (Nat.not_le.mpr h2)] | rw [pIf_t (Nat.not_le.mp h2)] | rw [pIf_t (Nat.not_lt.mp h2)] | skip); exact ⟨rfl, rfl⟩⟩)
  ·
    refine aw_iload_n (i := 1) dX7_spread_5 rfl rfl ?_
    refine aw_bipush (v := 20) dX7_spread_6 (by decide) ?_
    refine aw_icmp_le (tgt := 18) dX7_spread_8 (by decide) (fun h8 => ?_) (fun h8 => ?_)
    ·
      obtain ⟨m, hm, rfl⟩ := n1_20 h2 h8
      refine aw_bipush (v := 100) dX7_spread_18 (by decide) ?_
      refine aw_istore_n (i := 2) dX7_spread_20 rfl (by decide) ?_
      refine aw_iconst (v := 0) dX7_spread_21 (by decide) ?_
      refine aw_istore_n (i := 3) dX7_spread_22 rfl (by decide) ?_
      refine aw_iconst (v := 0) dX7_spread_23 (by decide) ?_
      refine aw_istore (i := 4) dX7_spread_24 (by decide) ?_
      have lp26 : ∀ k9 i X, i + k9 = m → outE 44 M X → AW l 7 yX7_spread cX7_spread 6 (some FieldType.int) 26 [some (.ref 0), some (.int (nI m)), some (.int (mnF ln i)), some (.int (mxF ln i)), some (.int (nI i)), none] [] X (QI (S_spread ln n cnt M (nI m))) := by
        intro k9
        induction k9 using Nat.strongRecOn with
        | _ k9 ih =>
        intro i X hk9 hX
        refine aw_iload (i := 4) dX7_spread_26 rfl ?_
        refine aw_iload_n (i := 1) dX7_spread_28 rfl rfl ?_
        refine aw_icmp_geN (tgt := 108) (by omega) (by omega) dX7_spread_29 (by decide) (fun h29 => ?_) (fun h29 => ?_)
        ·
          refine aw_iload_n (i := 3) dX7_spread_108 rfl rfl ?_
          refine aw_iload_n (i := 2) dX7_spread_109 rfl rfl ?_
          refine aw_isub dX7_spread_110 ?_
          exact aw_iret rfl dX7_spread_111 ⟨_, rfl, by unfold S_spread; rw [nI_clamp (show m < 2 ^ 31 from by omega)]; (first | rw [pIf_t h2] | rw [pIf_f h2] | rw [pIf_f (Int32.not_lt.mpr h2)] | rw [pIf_f (Int32.not_le.mpr h2)] | rw [pIf_t (Int32.not_le.mp h2)] | rw [pIf_t (Int32.not_lt.mp h2)] | rw [pIf_f (Nat.not_lt.mpr h2)] | rw [pIf_f (Nat.not_le.mpr h2)] | rw [pIf_t (Nat.not_le.mp h2)] | rw [pIf_t (Nat.not_lt.mp h2)] | skip); (first | rw [pIf_t h8] | rw [pIf_f h8] | rw [pIf_f (Int32.not_lt.mpr h8)] | rw [pIf_f (Int32.not_le.mpr h8)] | rw [pIf_t (Int32.not_le.mp h8)] | rw [pIf_t (Int32.not_lt.mp h8)] | rw [pIf_f (Nat.not_lt.mpr h8)] | rw [pIf_f (Nat.not_le.mpr h8)] | rw [pIf_t (Nat.not_le.mp h8)] | rw [pIf_t (Nat.not_lt.mp h8)] | skip); exact ⟨hX, by rw [show i = m by omega]⟩⟩
        ·
          refine aw_aload_n (i := 0) dX7_spread_32 rfl rfl ?_
          refine aw_getR gf_X7_40 sh_0 rfl dX7_spread_33 ?_
          refine aw_aload_n (i := 0) dX7_spread_36 rfl rfl ?_
          refine aw_getR gf_X7_19 sh_0 rfl dX7_spread_37 ?_
          refine aw_cVQ ck_X7_268 (m_X2_startFrom (by simp [isE] : isE 44) (by simp [isC] : isC 14) (apE (by simp [isE]))) sh_44 rfl (by decide) (by decide) rfl rfl (Nat.le_of_ble_eq_true rfl) dX7_spread_40 (fun r M9 hq9 => ?_)
          obtain ⟨rfl, hs1⟩ := hq9
          generalize M9 = Z at hs1 ⊢
          have hnX0 : X.1 14 11 = nI n := (congrFun (hX.2 14 (by omega)) _).trans hn
          have hnA : (mI Z 46 13 (Z.1 14 13 + nI i)).1 (44 + 2) 11 = nI n := by rw [show 44 + 2 = 46 from rfl, mI_self, upd_other (by decide)]; exact bec_n (v := 44) hnX0 hs1
          have hcA : (mI Z 46 13 (Z.1 14 13 + nI i)).1 78 1 = nI cnt := (congrFun ((mI_other (by decide)).trans ((bec_o (v := 44) hs1 (by omega)).trans (hX.2 78 (by omega)))) _).trans hcn
          have hfA : (mI Z 46 13 (Z.1 14 13 + nI i)).1 78 2 = M.1 78 2 := congrFun ((mI_other (by decide)).trans ((bec_o (v := 44) hs1 (by omega)).trans (hX.2 78 (by omega)))) _
          refine aw_aload_n (i := 0) dX7_spread_43 rfl rfl ?_
          refine aw_getR gf_X7_40 sh_0 rfl dX7_spread_44 ?_
          refine aw_getR gf_X7_272 sh_44 rfl dX7_spread_47 ?_
          refine aw_aload_n (i := 0) dX7_spread_50 rfl rfl ?_
          refine aw_getR gf_X7_19 sh_0 rfl dX7_spread_51 ?_
          refine aw_getI gf_X7_204 sh_14 rfl dX7_spread_54 ?_
          refine aw_iload (i := 4) dX7_spread_57 rfl ?_
          refine aw_iadd dX7_spread_59 ?_
          refine aw_putI pf_X7_204 sh_46 rfl dX7_spread_60 ?_
          refine aw_aload_n (i := 0) dX7_spread_63 rfl rfl ?_
          refine aw_getR gf_X7_40 sh_0 rfl dX7_spread_64 ?_
          refine aw_aload_n (i := 0) dX7_spread_67 rfl rfl ?_
          refine aw_getR gf_X7_26 sh_0 rfl dX7_spread_68 ?_
          refine aw_cVr ck_X7_210 (m_X3_numbersInForce (by simp [isB] : isB 78) hcA hc6) sh_78 rfl (by decide) (by decide) rfl rfl (Nat.le_of_ble_eq_true rfl) dX7_spread_71 ?_
          refine aw_bipush (v := 100) dX7_spread_74 (by decide) ?_
          refine aw_cVQ ck_X7_276 (m_X2_goThrough (m := 100) (by simp [isE] : isE 44) (shLR (by simp [isB]) hc6) (lr_out2 (by simp [isE]) hc6) hnA hn30 (by decide)) sh_44 rfl (by decide) (by decide) rfl rfl (Nat.le_of_ble_eq_true rfl) dX7_spread_76 (fun r M9 hq9 => ?_)
          obtain ⟨rfl, hs2⟩ := hq9
          rw [hfA] at hs2
          have hsp : spQ n (lawRow 78 cnt (M.1 78 2)) i X M9 := ⟨Z, hs1, hs2⟩
          have hY := spQ_I hnX0 hsp
          have hl9 := hL i X M9 hX hsp
          refine aw_aload_n (i := 0) dX7_spread_79 rfl rfl ?_
          refine aw_getR gf_X7_40 sh_0 rfl dX7_spread_80 ?_
          refine aw_cVi ck_X7_259 (m_X2_lengthOfClapping (by simp [isE] : isE 44) (by decide) hY.2) sh_44 rfl (by decide) (by decide) rfl rfl (Nat.le_of_ble_eq_true rfl) dX7_spread_83 ?_
          refine aw_istore (i := 5) dX7_spread_86 (by decide) ?_
          refine aw_iload_n (i := 2) dX7_spread_88 rfl rfl ?_
          refine aw_iload (i := 5) dX7_spread_89 rfl ?_
          refine aw_mmin (List.mem_append_right _ (List.mem_of_getElem? (i := 795) (by decide +kernel))) (List.mem_append_right _ (List.mem_of_getElem? (i := 477) (by decide +kernel))) (List.mem_append_right _ (List.mem_of_getElem? (i := 12) (by decide +kernel))) (List.mem_append_right _ (List.mem_of_getElem? (i := 478) (by decide +kernel))) (by decide) (Nat.le_of_ble_eq_true rfl) dX7_spread_91 ?_
          refine aw_top (z := mnF ln (i + 1)) (by rw [hl9]; exact rfl) ?_
          refine aw_istore_n (i := 2) dX7_spread_94 rfl (by decide) ?_
          refine aw_iload_n (i := 3) dX7_spread_95 rfl rfl ?_
          refine aw_iload (i := 5) dX7_spread_96 rfl ?_
          refine aw_mmax (List.mem_append_right _ (List.mem_of_getElem? (i := 796) (by decide +kernel))) (List.mem_append_right _ (List.mem_of_getElem? (i := 554) (by decide +kernel))) (List.mem_append_right _ (List.mem_of_getElem? (i := 12) (by decide +kernel))) (List.mem_append_right _ (List.mem_of_getElem? (i := 555) (by decide +kernel))) (by decide) (Nat.le_of_ble_eq_true rfl) dX7_spread_98 ?_
          refine aw_top (z := mxF ln (i + 1)) (by rw [hl9]; exact rfl) ?_
          refine aw_istore_n (i := 3) dX7_spread_101 rfl (by decide) ?_
          refine aw_iincN (i := 4) dX7_spread_102 rfl (by decide) ?_
          refine aw_goto (tgt := 26) dX7_spread_105 (by decide) ?_
          refine aw_loc (la := [some (.ref 0), some (.int (nI m)), some (.int (mnF ln (i + 1))), some (.int (mxF ln (i + 1))), some (.int (nI (i + 1))), none]) ⟨rfl, rfl, rfl, rfl, rfl, trivial⟩ ?_
          exact ih (k9 - 1) (by omega) (i + 1) _ (by omega) (outE_tr hX hY.1)
      refine aw_loc (la := [some (.ref 0), some (.int (nI m)), some (.int (mnF ln 0)), some (.int (mxF ln 0)), some (.int (nI 0)), none]) ⟨rfl, rfl, rfl, rfl, rfl, trivial⟩ ?_
      exact lp26 m 0 M (by omega) outE_rf
    ·
      refine aw_aload_n (i := 0) dX7_spread_11 rfl rfl ?_
      refine aw_bipush (v := (-6)) dX7_spread_12 (by decide) ?_
      refine aw_cVi ck_X7_86 (m_X7_refuse (k := 5) (by decide) (by decide)) sh_0 rfl (by decide) (by decide) rfl rfl (Nat.le_of_ble_eq_true rfl) dX7_spread_14 ?_
      exact aw_iret rfl dX7_spread_17 (by first | contradiction | exact ⟨_, rfl, by unfold S_spread; (first | rw [pIf_t h2] | rw [pIf_f h2] | rw [pIf_f (Int32.not_lt.mpr h2)] | rw [pIf_f (Int32.not_le.mpr h2)] | rw [pIf_t (Int32.not_le.mp h2)] | rw [pIf_t (Int32.not_lt.mp h2)] | rw [pIf_f (Nat.not_lt.mpr h2)] | rw [pIf_f (Nat.not_le.mpr h2)] | rw [pIf_t (Nat.not_le.mp h2)] | rw [pIf_t (Nat.not_lt.mp h2)] | skip); (first | rw [pIf_t h8] | rw [pIf_f h8] | rw [pIf_f (Int32.not_lt.mpr h8)] | rw [pIf_f (Int32.not_le.mpr h8)] | rw [pIf_t (Int32.not_le.mp h8)] | rw [pIf_t (Int32.not_lt.mp h8)] | rw [pIf_f (Nat.not_lt.mpr h8)] | rw [pIf_f (Nat.not_le.mpr h8)] | rw [pIf_t (Nat.not_le.mp h8)] | rw [pIf_t (Nat.not_lt.mp h8)] | skip); exact ⟨rfl, rfl⟩⟩)
