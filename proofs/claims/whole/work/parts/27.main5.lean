noncomputable def mbaV (M : Mm) (x : Int32) : Int32 := pIf (x = -1) 1 (pIf (¬ x < 0 ∧ ¬ M.1 14 11 ≤ x) (pIf (M.1 22 x.toNatClampNeg = 0) 1 0) 0)
theorem mba_p {M : Mm} {n : Nat} {x : Int32} (hn : M.1 14 11 = nI n) (hn30 : n ≤ 30) (h : ¬ mbaV M x = 0) (h1 : ¬ x = -1) : ∃ p, p < n ∧ x = nI p := by
  unfold mbaV at h
  rw [pIf_f h1] at h
  by_cases h2 : (¬ x < 0 ∧ ¬ M.1 14 11 ≤ x)
  · exact hasC hn hn30 h2
  · rw [pIf_f h2] at h
    exact absurd rfl h
noncomputable def askM (x : Int32) (X : Mm) : Mm := pIf (x = -1) X (mI (mI X (46 + 8) x.toNatClampNeg 1) (46 + 9) x.toNatClampNeg 0)
theorem askM_o {x : Int32} {X : Mm} {k : Nat} (h : k ≠ 54 ∧ k ≠ 55) : (askM x X).1 k = X.1 k := by
  unfold askM
  by_cases h1 : x = -1
  · rw [pIf_t h1]
  · rw [pIf_f h1, mI_other h.2, mI_other h.1]
theorem m_X7_mayBeAsked {l : Launch} {M : Mm} {x : Int32} {n : Nat} (hn : M.1 14 11 = nI n) (hn30 : n ≤ 30) : AMet l 2 yX7_mayBeAsked cX7_mayBeAsked 2 (some FieldType.boolean) [.ref 0, .int x] M (QE (some (.int (mbaV M x))) M) := by
  refine AMet.of (by decide) (by simp [aargs, Value.category]) ?_
  show AW l 2 yX7_mayBeAsked cX7_mayBeAsked 2 (some FieldType.boolean) 0 [some (.ref 0), some (.int x)] [] M _
  refine aw_iload_n (i := 1) dX7_mayBeAsked_0 rfl rfl ?_
  refine aw_iconst (v := (-1)) dX7_mayBeAsked_1 (by decide) ?_
  refine aw_icmp_eq (tgt := 28) dX7_mayBeAsked_2 (by decide) (fun h2 => ?_) (fun h2 => ?_)
  ·
    refine aw_iconst (v := 1) dX7_mayBeAsked_28 (by decide) ?_
    refine aw_goto (tgt := 33) dX7_mayBeAsked_29 (by decide) ?_
    exact aw_zret rfl (by simp) dX7_mayBeAsked_33 (by first | contradiction | exact ⟨by unfold mbaV; (try rw [nI_clamp (show p < 2 ^ 31 from by omega)]); (first | rw [pIf_t h2] | rw [pIf_f h2] | rw [pIf_f (Int32.not_lt.mpr h2)] | rw [pIf_f (Int32.not_le.mpr h2)] | rw [pIf_t (Int32.not_le.mp h2)] | rw [pIf_t (Int32.not_lt.mp h2)] | rw [pIf_f (Nat.not_lt.mpr h2)] | rw [pIf_f (Nat.not_le.mpr h2)] | rw [pIf_t (Nat.not_le.mp h2)] | rw [pIf_t (Nat.not_lt.mp h2)] | skip); (try rw [nI_clamp (show p < 2 ^ 31 from by omega)]); all_goals rfl, rfl⟩)
  ·
    refine aw_aload_n (i := 0) dX7_mayBeAsked_5 rfl rfl ?_
    refine aw_getR gf_X7_19 sh_0 rfl dX7_mayBeAsked_6 ?_
    refine aw_iload_n (i := 1) dX7_mayBeAsked_9 rfl rfl ?_
    refine aw_cVi ck_X7_121 (m_X1_has (by simp [isC] : isC 14)) sh_14 rfl (by decide) (by decide) rfl rfl (Nat.le_of_ble_eq_true rfl) dX7_mayBeAsked_10 ?_
    refine aw_ifeq_b (tgt := 32) dX7_mayBeAsked_13 (by decide) (fun h13 => ?_) (fun h13 => ?_)
    ·
      refine aw_iconst (v := 0) dX7_mayBeAsked_32 (by decide) ?_
      exact aw_zret rfl (by simp) dX7_mayBeAsked_33 (by first | contradiction | exact ⟨by unfold mbaV; (try rw [nI_clamp (show p < 2 ^ 31 from by omega)]); (first | rw [pIf_t h2] | rw [pIf_f h2] | rw [pIf_f (Int32.not_lt.mpr h2)] | rw [pIf_f (Int32.not_le.mpr h2)] | rw [pIf_t (Int32.not_le.mp h2)] | rw [pIf_t (Int32.not_lt.mp h2)] | rw [pIf_f (Nat.not_lt.mpr h2)] | rw [pIf_f (Nat.not_le.mpr h2)] | rw [pIf_t (Nat.not_le.mp h2)] | rw [pIf_t (Nat.not_lt.mp h2)] | skip); (first | rw [pIf_t h13] | rw [pIf_f h13] | rw [pIf_f (Int32.not_lt.mpr h13)] | rw [pIf_f (Int32.not_le.mpr h13)] | rw [pIf_t (Int32.not_le.mp h13)] | rw [pIf_t (Int32.not_lt.mp h13)] | rw [pIf_f (Nat.not_lt.mpr h13)] | rw [pIf_f (Nat.not_le.mpr h13)] | rw [pIf_t (Nat.not_le.mp h13)] | rw [pIf_t (Nat.not_lt.mp h13)] | skip); (try rw [nI_clamp (show p < 2 ^ 31 from by omega)]); all_goals rfl, rfl⟩)
    ·
      obtain ⟨p, hp, rfl⟩ := hasC hn hn30 h13
      refine aw_aload_n (i := 0) dX7_mayBeAsked_16 rfl rfl ?_
      refine aw_getR gf_X7_19 sh_0 rfl dX7_mayBeAsked_17 ?_
      refine aw_getR gf_X7_221 sh_14 rfl dX7_mayBeAsked_20 ?_
      refine aw_iload_n (i := 1) dX7_mayBeAsked_23 rfl rfl ?_
      refine aw_ialdN sh_22 (by omega) (by omega) dX7_mayBeAsked_24 ?_
      refine aw_if_ne (tgt := 32) dX7_mayBeAsked_25 (by decide) (fun h25 => ?_) (fun h25 => ?_)
      ·
        refine aw_iconst (v := 0) dX7_mayBeAsked_32 (by decide) ?_
        exact aw_zret rfl (by simp) dX7_mayBeAsked_33 (by first | contradiction | exact ⟨by unfold mbaV; (try rw [nI_clamp (show p < 2 ^ 31 from by omega)]); (first | rw [pIf_t h2] | rw [pIf_f h2] | rw [pIf_f (Int32.not_lt.mpr h2)] | rw [pIf_f (Int32.not_le.mpr h2)] | rw [pIf_t (Int32.not_le.mp h2)] | rw [pIf_t (Int32.not_lt.mp h2)] | rw [pIf_f (Nat.not_lt.mpr h2)] | rw [pIf_f (Nat.not_le.mpr h2)] | rw [pIf_t (Nat.not_le.mp h2)] | rw [pIf_t (Nat.not_lt.mp h2)] | skip); (first | rw [pIf_t h13] | rw [pIf_f h13] | rw [pIf_f (Int32.not_lt.mpr h13)] | rw [pIf_f (Int32.not_le.mpr h13)] | rw [pIf_t (Int32.not_le.mp h13)] | rw [pIf_t (Int32.not_lt.mp h13)] | rw [pIf_f (Nat.not_lt.mpr h13)] | rw [pIf_f (Nat.not_le.mpr h13)] | rw [pIf_t (Nat.not_le.mp h13)] | rw [pIf_t (Nat.not_lt.mp h13)] | skip); (first | rw [pIf_t h25] | rw [pIf_f h25] | rw [pIf_f (Int32.not_lt.mpr h25)] | rw [pIf_f (Int32.not_le.mpr h25)] | rw [pIf_t (Int32.not_le.mp h25)] | rw [pIf_t (Int32.not_lt.mp h25)] | rw [pIf_f (Nat.not_lt.mpr h25)] | rw [pIf_f (Nat.not_le.mpr h25)] | rw [pIf_t (Nat.not_le.mp h25)] | rw [pIf_t (Nat.not_lt.mp h25)] | skip); (try rw [nI_clamp (show p < 2 ^ 31 from by omega)]); all_goals rfl, rfl⟩)
      ·
        refine aw_iconst (v := 1) dX7_mayBeAsked_28 (by decide) ?_
        refine aw_goto (tgt := 33) dX7_mayBeAsked_29 (by decide) ?_
        exact aw_zret rfl (by simp) dX7_mayBeAsked_33 (by first | contradiction | exact ⟨by unfold mbaV; (try rw [nI_clamp (show p < 2 ^ 31 from by omega)]); (first | rw [pIf_t h2] | rw [pIf_f h2] | rw [pIf_f (Int32.not_lt.mpr h2)] | rw [pIf_f (Int32.not_le.mpr h2)] | rw [pIf_t (Int32.not_le.mp h2)] | rw [pIf_t (Int32.not_lt.mp h2)] | rw [pIf_f (Nat.not_lt.mpr h2)] | rw [pIf_f (Nat.not_le.mpr h2)] | rw [pIf_t (Nat.not_le.mp h2)] | rw [pIf_t (Nat.not_lt.mp h2)] | skip); (first | rw [pIf_t h13] | rw [pIf_f h13] | rw [pIf_f (Int32.not_lt.mpr h13)] | rw [pIf_f (Int32.not_le.mpr h13)] | rw [pIf_t (Int32.not_le.mp h13)] | rw [pIf_t (Int32.not_lt.mp h13)] | rw [pIf_f (Nat.not_lt.mpr h13)] | rw [pIf_f (Nat.not_le.mpr h13)] | rw [pIf_t (Nat.not_le.mp h13)] | rw [pIf_t (Nat.not_lt.mp h13)] | skip); (first | rw [pIf_t h25] | rw [pIf_f h25] | rw [pIf_f (Int32.not_lt.mpr h25)] | rw [pIf_f (Int32.not_le.mpr h25)] | rw [pIf_t (Int32.not_le.mp h25)] | rw [pIf_t (Int32.not_lt.mp h25)] | rw [pIf_f (Nat.not_lt.mpr h25)] | rw [pIf_f (Nat.not_le.mpr h25)] | rw [pIf_t (Nat.not_le.mp h25)] | rw [pIf_t (Nat.not_lt.mp h25)] | skip); (try rw [nI_clamp (show p < 2 ^ 31 from by omega)]); all_goals rfl, rfl⟩)
def S_areEnough (M : Mm) (n cnt : Nat) (a b m : Int32) (v : Int32) (M' : Mm) : Prop := pIf (nI n < m) (v = 0 ∧ M' = M) (pIf (mbaV M a = 0) (v = 0 ∧ M' = M) (pIf (mbaV M b = 0) (v = 0 ∧ M' = M) (∃ X, becM 46 14 M X ∧ evQ 44 n (lawRow 78 cnt (M.1 78 2)) 60 (askM b (askM a X)) M' ∧ v = b01 (¬ bcI (M'.1 44 3) < m))))
theorem m_X7_areEnough {l : Launch} {M : Mm} {a b m : Int32} {n : Nat} (hn : M.1 14 11 = nI n) (hn30 : n ≤ 30) {cnt : Nat} (hcn : M.1 78 1 = nI cnt) (hc6 : cnt ≤ 6) : AMet l 6 yX7_areEnough cX7_areEnough 4 (some FieldType.boolean) [.ref 0, .int a, .int b, .int m] M (QI (S_areEnough M n cnt a b m)) := by
  refine AMet.of (by decide) (by simp [aargs, Value.category]) ?_
  show AW l 6 yX7_areEnough cX7_areEnough 4 (some FieldType.boolean) 0 [some (.ref 0), some (.int a), some (.int b), some (.int m)] [] M _
  refine aw_iload_n (i := 3) dX7_areEnough_0 rfl rfl ?_
  refine aw_aload_n (i := 0) dX7_areEnough_1 rfl rfl ?_
  refine aw_getR gf_X7_19 sh_0 rfl dX7_areEnough_2 ?_
  refine aw_getN (n := n) gf_X7_146 sh_14 rfl hn dX7_areEnough_5 ?_
  refine aw_icmp_gt (tgt := 27) dX7_areEnough_8 (by decide) (fun h8 => ?_) (fun h8 => ?_)
  ·
    refine aw_iconst (v := 0) dX7_areEnough_27 (by decide) ?_
    exact aw_zret rfl (by simp) dX7_areEnough_28 ⟨_, rfl, by unfold S_areEnough; (first | rw [pIf_t h8] | rw [pIf_f h8] | rw [pIf_f (Int32.not_lt.mpr h8)] | rw [pIf_f (Int32.not_le.mpr h8)] | rw [pIf_t (Int32.not_le.mp h8)] | rw [pIf_t (Int32.not_lt.mp h8)] | rw [pIf_f (Nat.not_lt.mpr h8)] | rw [pIf_f (Nat.not_le.mpr h8)] | rw [pIf_t (Nat.not_le.mp h8)] | rw [pIf_t (Nat.not_lt.mp h8)] | skip); exact ⟨rfl, rfl⟩⟩
  ·
    refine aw_aload_n (i := 0) dX7_areEnough_11 rfl rfl ?_
    refine aw_iload_n (i := 1) dX7_areEnough_12 rfl rfl ?_
    refine aw_cVi ck_X7_281 (m_X7_mayBeAsked hn hn30) sh_0 rfl (by decide) (by decide) rfl rfl (Nat.le_of_ble_eq_true rfl) dX7_areEnough_13 ?_
    refine aw_if_eq (tgt := 27) dX7_areEnough_16 (by decide) (fun h16 => ?_) (fun h16 => ?_)
    ·
      refine aw_iconst (v := 0) dX7_areEnough_27 (by decide) ?_
      exact aw_zret rfl (by simp) dX7_areEnough_28 ⟨_, rfl, by unfold S_areEnough; (first | rw [pIf_t h8] | rw [pIf_f h8] | rw [pIf_f (Int32.not_lt.mpr h8)] | rw [pIf_f (Int32.not_le.mpr h8)] | rw [pIf_t (Int32.not_le.mp h8)] | rw [pIf_t (Int32.not_lt.mp h8)] | rw [pIf_f (Nat.not_lt.mpr h8)] | rw [pIf_f (Nat.not_le.mpr h8)] | rw [pIf_t (Nat.not_le.mp h8)] | rw [pIf_t (Nat.not_lt.mp h8)] | skip); (first | rw [pIf_t h16] | rw [pIf_f h16] | rw [pIf_f (Int32.not_lt.mpr h16)] | rw [pIf_f (Int32.not_le.mpr h16)] | rw [pIf_t (Int32.not_le.mp h16)] | rw [pIf_t (Int32.not_lt.mp h16)] | rw [pIf_f (Nat.not_lt.mpr h16)] | rw [pIf_f (Nat.not_le.mpr h16)] | rw [pIf_t (Nat.not_le.mp h16)] | rw [pIf_t (Nat.not_lt.mp h16)] | skip); exact ⟨rfl, rfl⟩⟩
    ·
      refine aw_aload_n (i := 0) dX7_areEnough_19 rfl rfl ?_
      refine aw_iload_n (i := 2) dX7_areEnough_20 rfl rfl ?_
      refine aw_cVi ck_X7_281 (m_X7_mayBeAsked hn hn30) sh_0 rfl (by decide) (by decide) rfl rfl (Nat.le_of_ble_eq_true rfl) dX7_areEnough_21 ?_
      refine aw_if_ne (tgt := 29) dX7_areEnough_24 (by decide) (fun h24 => ?_) (fun h24 => ?_)
      ·
        refine aw_aload_n (i := 0) dX7_areEnough_29 rfl rfl ?_
        refine aw_getR gf_X7_40 sh_0 rfl dX7_areEnough_30 ?_
        refine aw_aload_n (i := 0) dX7_areEnough_33 rfl rfl ?_
        refine aw_getR gf_X7_19 sh_0 rfl dX7_areEnough_34 ?_
        refine aw_cVQ ck_X7_268 (m_X2_startFrom (by simp [isE] : isE 44) (by simp [isC] : isC 14) (apE (by simp [isE]))) sh_44 rfl (by decide) (by decide) rfl rfl (Nat.le_of_ble_eq_true rfl) dX7_areEnough_37 (fun r M9 hq9 => ?_)
        obtain ⟨rfl, hs1⟩ := hq9
        generalize M9 = X at hs1 ⊢
        have hnX : X.1 46 11 = nI n := bec_n (v := 44) hn hs1
        have hcX : X.1 78 1 = nI cnt := (congrFun (bec_o (v := 44) hs1 (by omega)) _).trans hcn
        have hfX : X.1 78 2 = M.1 78 2 := congrFun (bec_o (v := 44) hs1 (by omega)) _
        refine aw_iload_n (i := 1) dX7_areEnough_40 rfl rfl ?_
        refine aw_iconst (v := (-1)) dX7_areEnough_41 (by decide) ?_
        refine aw_icmp_eq (tgt := 56) dX7_areEnough_42 (by decide) (fun h42 => ?_) (fun h42 => ?_)
        ·
          refine aw_iload_n (i := 2) dX7_areEnough_56 rfl rfl ?_
          refine aw_iconst (v := (-1)) dX7_areEnough_57 (by decide) ?_
          refine aw_icmp_eq (tgt := 72) dX7_areEnough_58 (by decide) (fun h58 => ?_) (fun h58 => ?_)
          ·
            refine aw_mem (M' := askM b (askM a X)) (by unfold askM; rw [pIf_t h42, pIf_t h58]) ?_
            have hcA : (askM b (askM a X)).1 78 1 = nI cnt := (congrFun ((askM_o (by decide)).trans (askM_o (by decide))) _).trans hcX
            have hfA : (askM b (askM a X)).1 78 2 = M.1 78 2 := (congrFun ((askM_o (by decide)).trans (askM_o (by decide))) _).trans hfX
            have hnA : (askM b (askM a X)).1 (44 + 2) 11 = nI n := (congrFun ((askM_o (by decide)).trans (askM_o (by decide))) _).trans hnX
            refine aw_aload_n (i := 0) dX7_areEnough_72 rfl rfl ?_
            refine aw_getR gf_X7_40 sh_0 rfl dX7_areEnough_73 ?_
            refine aw_aload_n (i := 0) dX7_areEnough_76 rfl rfl ?_
            refine aw_getR gf_X7_26 sh_0 rfl dX7_areEnough_77 ?_
            refine aw_cVr ck_X7_210 (m_X3_numbersInForce (by simp [isB] : isB 78) hcA hc6) sh_78 rfl (by decide) (by decide) rfl rfl (Nat.le_of_ble_eq_true rfl) dX7_areEnough_80 ?_
            refine aw_bipush (v := 60) dX7_areEnough_83 (by decide) ?_
            refine aw_cVQ ck_X7_276 (m_X2_goThrough (by simp [isE] : isE 44) (shLR (by simp [isB]) hc6) (lr_out2 (by simp [isE]) hc6) hnA hn30 (by decide)) sh_44 rfl (by decide) (by decide) rfl rfl (Nat.le_of_ble_eq_true rfl) dX7_areEnough_85 (fun r M9 hq9 => ?_)
            obtain ⟨rfl, hs2⟩ := hq9
            rw [hfA] at hs2
            refine aw_aload_n (i := 0) dX7_areEnough_88 rfl rfl ?_
            refine aw_getR gf_X7_40 sh_0 rfl dX7_areEnough_89 ?_
            refine aw_cVi ck_X7_262 (m_X2_countJoined (by simp [isE] : isE 44)) sh_44 rfl (by decide) (by decide) rfl rfl (Nat.le_of_ble_eq_true rfl) dX7_areEnough_92 ?_
            refine aw_iload_n (i := 3) dX7_areEnough_95 rfl rfl ?_
            refine aw_ternC_lt (tgt := 103) (j := 104) (v := 1) (w := 0) dX7_areEnough_96 (by decide) dX7_areEnough_99 (by decide) dX7_areEnough_100 (by decide) dX7_areEnough_103 (by decide) rfl ?_
            refine aw_top t01a ?_
            exact aw_zret rfl b01_ok dX7_areEnough_104 ⟨_, rfl, by unfold S_areEnough; (first | rw [pIf_t h8] | rw [pIf_f h8] | rw [pIf_f (Int32.not_lt.mpr h8)] | rw [pIf_f (Int32.not_le.mpr h8)] | rw [pIf_t (Int32.not_le.mp h8)] | rw [pIf_t (Int32.not_lt.mp h8)] | rw [pIf_f (Nat.not_lt.mpr h8)] | rw [pIf_f (Nat.not_le.mpr h8)] | rw [pIf_t (Nat.not_le.mp h8)] | rw [pIf_t (Nat.not_lt.mp h8)] | skip); (first | rw [pIf_t h16] | rw [pIf_f h16] | rw [pIf_f (Int32.not_lt.mpr h16)] | rw [pIf_f (Int32.not_le.mpr h16)] | rw [pIf_t (Int32.not_le.mp h16)] | rw [pIf_t (Int32.not_lt.mp h16)] | rw [pIf_f (Nat.not_lt.mpr h16)] | rw [pIf_f (Nat.not_le.mpr h16)] | rw [pIf_t (Nat.not_le.mp h16)] | rw [pIf_t (Nat.not_lt.mp h16)] | skip); (first | rw [pIf_t h24] | rw [pIf_f h24] | rw [pIf_f (Int32.not_lt.mpr h24)] | rw [pIf_f (Int32.not_le.mpr h24)] | rw [pIf_t (Int32.not_le.mp h24)] | rw [pIf_t (Int32.not_lt.mp h24)] | rw [pIf_f (Nat.not_lt.mpr h24)] | rw [pIf_f (Nat.not_le.mpr h24)] | rw [pIf_t (Nat.not_le.mp h24)] | rw [pIf_t (Nat.not_lt.mp h24)] | skip); exact ⟨X, hs1, hs2, rfl⟩⟩
          ·
            obtain ⟨q, hq, rfl⟩ := mba_p hn hn30 h24 h58
            refine aw_aload_n (i := 0) dX7_areEnough_61 rfl rfl ?_
            refine aw_getR gf_X7_40 sh_0 rfl dX7_areEnough_62 ?_
            refine aw_getR gf_X7_272 sh_44 rfl dX7_areEnough_65 ?_
            refine aw_iload_n (i := 2) dX7_areEnough_68 rfl rfl ?_
            refine aw_cVv ck_X7_224 (m_X1_ask (by simp [isC] : isC 46) (by omega)) sh_46 rfl (by decide) (by decide) rfl rfl (Nat.le_of_ble_eq_true rfl) dX7_areEnough_69 ?_
            refine aw_mem (M' := askM (nI q) (askM a X)) (by unfold askM; rw [pIf_t h42, pIf_f h58]; rw [nI_clamp (show q < 2 ^ 31 from by omega)]) ?_
            have hcA : (askM (nI q) (askM a X)).1 78 1 = nI cnt := (congrFun ((askM_o (by decide)).trans (askM_o (by decide))) _).trans hcX
            have hfA : (askM (nI q) (askM a X)).1 78 2 = M.1 78 2 := (congrFun ((askM_o (by decide)).trans (askM_o (by decide))) _).trans hfX
            have hnA : (askM (nI q) (askM a X)).1 (44 + 2) 11 = nI n := (congrFun ((askM_o (by decide)).trans (askM_o (by decide))) _).trans hnX
            refine aw_aload_n (i := 0) dX7_areEnough_72 rfl rfl ?_
            refine aw_getR gf_X7_40 sh_0 rfl dX7_areEnough_73 ?_
            refine aw_aload_n (i := 0) dX7_areEnough_76 rfl rfl ?_
            refine aw_getR gf_X7_26 sh_0 rfl dX7_areEnough_77 ?_
            refine aw_cVr ck_X7_210 (m_X3_numbersInForce (by simp [isB] : isB 78) hcA hc6) sh_78 rfl (by decide) (by decide) rfl rfl (Nat.le_of_ble_eq_true rfl) dX7_areEnough_80 ?_
            refine aw_bipush (v := 60) dX7_areEnough_83 (by decide) ?_
            refine aw_cVQ ck_X7_276 (m_X2_goThrough (by simp [isE] : isE 44) (shLR (by simp [isB]) hc6) (lr_out2 (by simp [isE]) hc6) hnA hn30 (by decide)) sh_44 rfl (by decide) (by decide) rfl rfl (Nat.le_of_ble_eq_true rfl) dX7_areEnough_85 (fun r M9 hq9 => ?_)
            obtain ⟨rfl, hs2⟩ := hq9
            rw [hfA] at hs2
            refine aw_aload_n (i := 0) dX7_areEnough_88 rfl rfl ?_
            refine aw_getR gf_X7_40 sh_0 rfl dX7_areEnough_89 ?_
            refine aw_cVi ck_X7_262 (m_X2_countJoined (by simp [isE] : isE 44)) sh_44 rfl (by decide) (by decide) rfl rfl (Nat.le_of_ble_eq_true rfl) dX7_areEnough_92 ?_
            refine aw_iload_n (i := 3) dX7_areEnough_95 rfl rfl ?_
            refine aw_ternC_lt (tgt := 103) (j := 104) (v := 1) (w := 0) dX7_areEnough_96 (by decide) dX7_areEnough_99 (by decide) dX7_areEnough_100 (by decide) dX7_areEnough_103 (by decide) rfl ?_
            refine aw_top t01a ?_
            exact aw_zret rfl b01_ok dX7_areEnough_104 ⟨_, rfl, by unfold S_areEnough; (first | rw [pIf_t h8] | rw [pIf_f h8] | rw [pIf_f (Int32.not_lt.mpr h8)] | rw [pIf_f (Int32.not_le.mpr h8)] | rw [pIf_t (Int32.not_le.mp h8)] | rw [pIf_t (Int32.not_lt.mp h8)] | rw [pIf_f (Nat.not_lt.mpr h8)] | rw [pIf_f (Nat.not_le.mpr h8)] | rw [pIf_t (Nat.not_le.mp h8)] | rw [pIf_t (Nat.not_lt.mp h8)] | skip); (first | rw [pIf_t h16] | rw [pIf_f h16] | rw [pIf_f (Int32.not_lt.mpr h16)] | rw [pIf_f (Int32.not_le.mpr h16)] | rw [pIf_t (Int32.not_le.mp h16)] | rw [pIf_t (Int32.not_lt.mp h16)] | rw [pIf_f (Nat.not_lt.mpr h16)] | rw [pIf_f (Nat.not_le.mpr h16)] | rw [pIf_t (Nat.not_le.mp h16)] | rw [pIf_t (Nat.not_lt.mp h16)] | skip); (first | rw [pIf_t h24] | rw [pIf_f h24] | rw [pIf_f (Int32.not_lt.mpr h24)] | rw [pIf_f (Int32.not_le.mpr h24)] | rw [pIf_t (Int32.not_le.mp h24)] | rw [pIf_t (Int32.not_lt.mp h24)] | rw [pIf_f (Nat.not_lt.mpr h24)] | rw [pIf_f (Nat.not_le.mpr h24)] | rw [pIf_t (Nat.not_le.mp h24)] | rw [pIf_t (Nat.not_lt.mp h24)] | skip); exact ⟨X, hs1, hs2, rfl⟩⟩
        ·
          obtain ⟨p, hp, rfl⟩ := mba_p hn hn30 h16 h42
          refine aw_aload_n (i := 0) dX7_areEnough_45 rfl rfl ?_
          refine aw_getR gf_X7_40 sh_0 rfl dX7_areEnough_46 ?_
          refine aw_getR gf_X7_272 sh_44 rfl dX7_areEnough_49 ?_
          refine aw_iload_n (i := 1) dX7_areEnough_52 rfl rfl ?_
          refine aw_cVv ck_X7_224 (m_X1_ask (by simp [isC] : isC 46) (by omega)) sh_46 rfl (by decide) (by decide) rfl rfl (Nat.le_of_ble_eq_true rfl) dX7_areEnough_53 ?_
          refine aw_iload_n (i := 2) dX7_areEnough_56 rfl rfl ?_
          refine aw_iconst (v := (-1)) dX7_areEnough_57 (by decide) ?_
          refine aw_icmp_eq (tgt := 72) dX7_areEnough_58 (by decide) (fun h58 => ?_) (fun h58 => ?_)
          ·
            refine aw_mem (M' := askM b (askM (nI p) X)) (by unfold askM; rw [pIf_f h42, pIf_t h58]; rw [nI_clamp (show p < 2 ^ 31 from by omega)]) ?_
            have hcA : (askM b (askM (nI p) X)).1 78 1 = nI cnt := (congrFun ((askM_o (by decide)).trans (askM_o (by decide))) _).trans hcX
            have hfA : (askM b (askM (nI p) X)).1 78 2 = M.1 78 2 := (congrFun ((askM_o (by decide)).trans (askM_o (by decide))) _).trans hfX
            have hnA : (askM b (askM (nI p) X)).1 (44 + 2) 11 = nI n := (congrFun ((askM_o (by decide)).trans (askM_o (by decide))) _).trans hnX
            refine aw_aload_n (i := 0) dX7_areEnough_72 rfl rfl ?_
            refine aw_getR gf_X7_40 sh_0 rfl dX7_areEnough_73 ?_
            refine aw_aload_n (i := 0) dX7_areEnough_76 rfl rfl ?_
            refine aw_getR gf_X7_26 sh_0 rfl dX7_areEnough_77 ?_
            refine aw_cVr ck_X7_210 (m_X3_numbersInForce (by simp [isB] : isB 78) hcA hc6) sh_78 rfl (by decide) (by decide) rfl rfl (Nat.le_of_ble_eq_true rfl) dX7_areEnough_80 ?_
            refine aw_bipush (v := 60) dX7_areEnough_83 (by decide) ?_
            refine aw_cVQ ck_X7_276 (m_X2_goThrough (by simp [isE] : isE 44) (shLR (by simp [isB]) hc6) (lr_out2 (by simp [isE]) hc6) hnA hn30 (by decide)) sh_44 rfl (by decide) (by decide) rfl rfl (Nat.le_of_ble_eq_true rfl) dX7_areEnough_85 (fun r M9 hq9 => ?_)
            obtain ⟨rfl, hs2⟩ := hq9
            rw [hfA] at hs2
            refine aw_aload_n (i := 0) dX7_areEnough_88 rfl rfl ?_
            refine aw_getR gf_X7_40 sh_0 rfl dX7_areEnough_89 ?_
            refine aw_cVi ck_X7_262 (m_X2_countJoined (by simp [isE] : isE 44)) sh_44 rfl (by decide) (by decide) rfl rfl (Nat.le_of_ble_eq_true rfl) dX7_areEnough_92 ?_
            refine aw_iload_n (i := 3) dX7_areEnough_95 rfl rfl ?_
            refine aw_ternC_lt (tgt := 103) (j := 104) (v := 1) (w := 0) dX7_areEnough_96 (by decide) dX7_areEnough_99 (by decide) dX7_areEnough_100 (by decide) dX7_areEnough_103 (by decide) rfl ?_
            refine aw_top t01a ?_
            exact aw_zret rfl b01_ok dX7_areEnough_104 ⟨_, rfl, by unfold S_areEnough; (first | rw [pIf_t h8] | rw [pIf_f h8] | rw [pIf_f (Int32.not_lt.mpr h8)] | rw [pIf_f (Int32.not_le.mpr h8)] | rw [pIf_t (Int32.not_le.mp h8)] | rw [pIf_t (Int32.not_lt.mp h8)] | rw [pIf_f (Nat.not_lt.mpr h8)] | rw [pIf_f (Nat.not_le.mpr h8)] | rw [pIf_t (Nat.not_le.mp h8)] | rw [pIf_t (Nat.not_lt.mp h8)] | skip); (first | rw [pIf_t h16] | rw [pIf_f h16] | rw [pIf_f (Int32.not_lt.mpr h16)] | rw [pIf_f (Int32.not_le.mpr h16)] | rw [pIf_t (Int32.not_le.mp h16)] | rw [pIf_t (Int32.not_lt.mp h16)] | rw [pIf_f (Nat.not_lt.mpr h16)] | rw [pIf_f (Nat.not_le.mpr h16)] | rw [pIf_t (Nat.not_le.mp h16)] | rw [pIf_t (Nat.not_lt.mp h16)] | skip); (first | rw [pIf_t h24] | rw [pIf_f h24] | rw [pIf_f (Int32.not_lt.mpr h24)] | rw [pIf_f (Int32.not_le.mpr h24)] | rw [pIf_t (Int32.not_le.mp h24)] | rw [pIf_t (Int32.not_lt.mp h24)] | rw [pIf_f (Nat.not_lt.mpr h24)] | rw [pIf_f (Nat.not_le.mpr h24)] | rw [pIf_t (Nat.not_le.mp h24)] | rw [pIf_t (Nat.not_lt.mp h24)] | skip); exact ⟨X, hs1, hs2, rfl⟩⟩
          ·
            obtain ⟨q, hq, rfl⟩ := mba_p hn hn30 h24 h58
            refine aw_aload_n (i := 0) dX7_areEnough_61 rfl rfl ?_
            refine aw_getR gf_X7_40 sh_0 rfl dX7_areEnough_62 ?_
            refine aw_getR gf_X7_272 sh_44 rfl dX7_areEnough_65 ?_
            refine aw_iload_n (i := 2) dX7_areEnough_68 rfl rfl ?_
            refine aw_cVv ck_X7_224 (m_X1_ask (by simp [isC] : isC 46) (by omega)) sh_46 rfl (by decide) (by decide) rfl rfl (Nat.le_of_ble_eq_true rfl) dX7_areEnough_69 ?_
            refine aw_mem (M' := askM (nI q) (askM (nI p) X)) (by unfold askM; rw [pIf_f h42, pIf_f h58]; rw [nI_clamp (show p < 2 ^ 31 from by omega)]; rw [nI_clamp (show q < 2 ^ 31 from by omega)]) ?_
            have hcA : (askM (nI q) (askM (nI p) X)).1 78 1 = nI cnt := (congrFun ((askM_o (by decide)).trans (askM_o (by decide))) _).trans hcX
            have hfA : (askM (nI q) (askM (nI p) X)).1 78 2 = M.1 78 2 := (congrFun ((askM_o (by decide)).trans (askM_o (by decide))) _).trans hfX
            have hnA : (askM (nI q) (askM (nI p) X)).1 (44 + 2) 11 = nI n := (congrFun ((askM_o (by decide)).trans (askM_o (by decide))) _).trans hnX
            refine aw_aload_n (i := 0) dX7_areEnough_72 rfl rfl ?_
            refine aw_getR gf_X7_40 sh_0 rfl dX7_areEnough_73 ?_
            refine aw_aload_n (i := 0) dX7_areEnough_76 rfl rfl ?_
            refine aw_getR gf_X7_26 sh_0 rfl dX7_areEnough_77 ?_
            refine aw_cVr ck_X7_210 (m_X3_numbersInForce (by simp [isB] : isB 78) hcA hc6) sh_78 rfl (by decide) (by decide) rfl rfl (Nat.le_of_ble_eq_true rfl) dX7_areEnough_80 ?_
            refine aw_bipush (v := 60) dX7_areEnough_83 (by decide) ?_
            refine aw_cVQ ck_X7_276 (m_X2_goThrough (by simp [isE] : isE 44) (shLR (by simp [isB]) hc6) (lr_out2 (by simp [isE]) hc6) hnA hn30 (by decide)) sh_44 rfl (by decide) (by decide) rfl rfl (Nat.le_of_ble_eq_true rfl) dX7_areEnough_85 (fun r M9 hq9 => ?_)
            obtain ⟨rfl, hs2⟩ := hq9
            rw [hfA] at hs2
            refine aw_aload_n (i := 0) dX7_areEnough_88 rfl rfl ?_
            refine aw_getR gf_X7_40 sh_0 rfl dX7_areEnough_89 ?_
            refine aw_cVi ck_X7_262 (m_X2_countJoined (by simp [isE] : isE 44)) sh_44 rfl (by decide) (by decide) rfl rfl (Nat.le_of_ble_eq_true rfl) dX7_areEnough_92 ?_
            refine aw_iload_n (i := 3) dX7_areEnough_95 rfl rfl ?_
            refine aw_ternC_lt (tgt := 103) (j := 104) (v := 1) (w := 0) dX7_areEnough_96 (by decide) dX7_areEnough_99 (by decide) dX7_areEnough_100 (by decide) dX7_areEnough_103 (by decide) rfl ?_
            refine aw_top t01a ?_
            exact aw_zret rfl b01_ok dX7_areEnough_104 ⟨_, rfl, by unfold S_areEnough; (first | rw [pIf_t h8] | rw [pIf_f h8] | rw [pIf_f (Int32.not_lt.mpr h8)] | rw [pIf_f (Int32.not_le.mpr h8)] | rw [pIf_t (Int32.not_le.mp h8)] | rw [pIf_t (Int32.not_lt.mp h8)] | rw [pIf_f (Nat.not_lt.mpr h8)] | rw [pIf_f (Nat.not_le.mpr h8)] | rw [pIf_t (Nat.not_le.mp h8)] | rw [pIf_t (Nat.not_lt.mp h8)] | skip); (first | rw [pIf_t h16] | rw [pIf_f h16] | rw [pIf_f (Int32.not_lt.mpr h16)] | rw [pIf_f (Int32.not_le.mpr h16)] | rw [pIf_t (Int32.not_le.mp h16)] | rw [pIf_t (Int32.not_lt.mp h16)] | rw [pIf_f (Nat.not_lt.mpr h16)] | rw [pIf_f (Nat.not_le.mpr h16)] | rw [pIf_t (Nat.not_le.mp h16)] | rw [pIf_t (Nat.not_lt.mp h16)] | skip); (first | rw [pIf_t h24] | rw [pIf_f h24] | rw [pIf_f (Int32.not_lt.mpr h24)] | rw [pIf_f (Int32.not_le.mpr h24)] | rw [pIf_t (Int32.not_le.mp h24)] | rw [pIf_t (Int32.not_lt.mp h24)] | rw [pIf_f (Nat.not_lt.mpr h24)] | rw [pIf_f (Nat.not_le.mpr h24)] | rw [pIf_t (Nat.not_le.mp h24)] | rw [pIf_t (Nat.not_lt.mp h24)] | skip); exact ⟨X, hs1, hs2, rfl⟩⟩
      ·
        refine aw_iconst (v := 0) dX7_areEnough_27 (by decide) ?_
        exact aw_zret rfl (by simp) dX7_areEnough_28 ⟨_, rfl, by unfold S_areEnough; (first | rw [pIf_t h8] | rw [pIf_f h8] | rw [pIf_f (Int32.not_lt.mpr h8)] | rw [pIf_f (Int32.not_le.mpr h8)] | rw [pIf_t (Int32.not_le.mp h8)] | rw [pIf_t (Int32.not_lt.mp h8)] | rw [pIf_f (Nat.not_lt.mpr h8)] | rw [pIf_f (Nat.not_le.mpr h8)] | rw [pIf_t (Nat.not_le.mp h8)] | rw [pIf_t (Nat.not_lt.mp h8)] | skip); (first | rw [pIf_t h16] | rw [pIf_f h16] | rw [pIf_f (Int32.not_lt.mpr h16)] | rw [pIf_f (Int32.not_le.mpr h16)] | rw [pIf_t (Int32.not_le.mp h16)] | rw [pIf_t (Int32.not_lt.mp h16)] | rw [pIf_f (Nat.not_lt.mpr h16)] | rw [pIf_f (Nat.not_le.mpr h16)] | rw [pIf_t (Nat.not_le.mp h16)] | rw [pIf_t (Nat.not_lt.mp h16)] | skip); (first | rw [pIf_t h24] | rw [pIf_f h24] | rw [pIf_f (Int32.not_lt.mpr h24)] | rw [pIf_f (Int32.not_le.mpr h24)] | rw [pIf_t (Int32.not_le.mp h24)] | rw [pIf_t (Int32.not_lt.mp h24)] | rw [pIf_f (Nat.not_lt.mpr h24)] | rw [pIf_f (Nat.not_le.mpr h24)] | rw [pIf_t (Nat.not_le.mp h24)] | rw [pIf_t (Nat.not_lt.mp h24)] | skip); exact ⟨rfl, rfl⟩⟩
def S_few (E : Int32 → Int32 → Prop) (n : Nat) (M : Mm) (m : Int32) (v : Int32) (M' : Mm) : Prop := pIf (m < 1) (v = -6 ∧ M' = rfx M 5) (pIf (30 < m) (v = -6 ∧ M' = rfx M 5) (∃ X, outE 44 M X ∧ ((E (-1) (-1) ∧ v = 0 ∧ M' = X) ∨ (¬ E (-1) (-1) ∧ ((∃ a, a < n ∧ (∀ i, i < a → ¬ E (-1) (nI i)) ∧ E (-1) (nI a) ∧ v = (1 : Int32) <<< (nI a &&& 31) ∧ M' = X) ∨ ((∀ i, i < n → ¬ E (-1) (nI i)) ∧ ((∃ b a, 1 ≤ b ∧ b < n ∧ a < b ∧ (∀ b' a', b' < b → a' < b' → ¬ E (nI a') (nI b')) ∧ (∀ a', a' < a → ¬ E (nI a') (nI b)) ∧ E (nI a) (nI b) ∧ v = ((1 : Int32) <<< (nI a &&& 31)) ||| ((1 : Int32) <<< (nI b &&& 31)) ∧ M' = X) ∨ ((∀ b a, b < n → a < b → ¬ E (nI a) (nI b)) ∧ v = -5 ∧ M' = rfx X 4))))))))
theorem m_X7_few {l : Launch} {M : Mm} {m : Int32} {E : Int32 → Int32 → Prop} {n : Nat} (hn : M.1 14 11 = nI n) (hn30 : n ≤ 30) {cnt : Nat} (hcn : M.1 78 1 = nI cnt) (hc6 : cnt ≤ 6) (hE : ∀ a b X v X', outE 44 M X → S_areEnough X n cnt a b m v X' → v = b01 (E a b) ∧ outE 44 M X') : AMet l 7 yX7_few cX7_few 4 (some FieldType.int) [.ref 0, .int m] M (QI (S_few E n M m)) := by
  refine AMet.of (by decide) (by simp [aargs, Value.category]) ?_
  show AW l 7 yX7_few cX7_few 4 (some FieldType.int) 0 [some (.ref 0), some (.int m), none, none] [] M _
  refine aw_iload_n (i := 1) dX7_few_0 rfl rfl ?_
  refine aw_iconst (v := 1) dX7_few_1 (by decide) ?_
  refine aw_icmp_lt (tgt := 11) dX7_few_2 (by decide) (fun h2 => ?_) (fun h2 => ?_)
  ·
    refine aw_aload_n (i := 0) dX7_few_11 rfl rfl ?_
    refine aw_bipush (v := (-6)) dX7_few_12 (by decide) ?_
    refine aw_cVi ck_X7_86 (m_X7_refuse (k := 5) (by decide) (by decide)) sh_0 rfl (by decide) (by decide) rfl rfl (Nat.le_of_ble_eq_true rfl) dX7_few_14 ?_
    exact aw_iret rfl dX7_few_17 (by first | contradiction | exact ⟨_, rfl, by unfold S_few; (first | rw [pIf_t h2] | rw [pIf_f h2] | rw [pIf_f (Int32.not_lt.mpr h2)] | rw [pIf_f (Int32.not_le.mpr h2)] | rw [pIf_t (Int32.not_le.mp h2)] | rw [pIf_t (Int32.not_lt.mp h2)] | rw [pIf_f (Nat.not_lt.mpr h2)] | rw [pIf_f (Nat.not_le.mpr h2)] | rw [pIf_t (Nat.not_le.mp h2)] | rw [pIf_t (Nat.not_lt.mp h2)] | skip); exact ⟨rfl, rfl⟩⟩)
  ·
    refine aw_iload_n (i := 1) dX7_few_5 rfl rfl ?_
    refine aw_bipush (v := 30) dX7_few_6 (by decide) ?_
    refine aw_icmp_le (tgt := 18) dX7_few_8 (by decide) (fun h8 => ?_) (fun h8 => ?_)
    ·
      refine aw_aload_n (i := 0) dX7_few_18 rfl rfl ?_
      refine aw_iconst (v := (-1)) dX7_few_19 (by decide) ?_
      refine aw_iconst (v := (-1)) dX7_few_20 (by decide) ?_
      refine aw_iload_n (i := 1) dX7_few_21 rfl rfl ?_
      refine aw_cVQ ck_X7_278 (m_X7_areEnough hn hn30 hcn hc6) sh_0 rfl (by decide) (by decide) rfl rfl (Nat.le_of_ble_eq_true rfl) dX7_few_22 (fun r M9 hq9 => ?_)
      obtain ⟨v9, rfl, hS9⟩ := hq9
      obtain ⟨rfl, hO1⟩ := hE _ _ _ _ _ outE_rf hS9
      refine aw_pc rfl ?_
      refine aw_ifeq_b (tgt := 30) dX7_few_25 (by decide) (fun h25 => ?_) (fun h25 => ?_)
      ·
        refine aw_iconst (v := 0) dX7_few_30 (by decide) ?_
        refine aw_istore_n (i := 2) dX7_few_31 rfl (by decide) ?_
        have lp32 : ∀ k9 a X, a + k9 = n → outE 44 M X → (∀ i, i < a → ¬ E (-1) (nI i)) → AW l 7 yX7_few cX7_few 4 (some FieldType.int) 32 [some (.ref 0), some (.int m), some (.int (nI a)), none] [] X (QI (S_few E n M m)) := by
          intro k9
          induction k9 using Nat.strongRecOn with
          | _ k9 ih =>
          intro a X hk9 hX hall
          refine aw_iload_n (i := 2) dX7_few_32 rfl rfl ?_
          refine aw_aload_n (i := 0) dX7_few_33 rfl rfl ?_
          refine aw_getR gf_X7_19 sh_0 rfl dX7_few_34 ?_
          refine aw_getN (n := n) gf_X7_146 sh_14 rfl ((congrFun (hX.2 14 (by omega)) _).trans hn) dX7_few_37 ?_
          refine aw_icmp_geN (tgt := 63) (by omega) (by omega) dX7_few_40 (by decide) (fun h40 => ?_) (fun h40 => ?_)
          ·
            refine aw_iconst (v := 1) dX7_few_63 (by decide) ?_
            refine aw_istore_n (i := 2) dX7_few_64 rfl (by decide) ?_
            have lp65 : ∀ k8 b Y, n ≤ b + k8 → 1 ≤ b ∧ b ≤ n + 1 → outE 44 M Y → (∀ b' a', b' < b → a' < b' → ¬ E (nI a') (nI b')) → AW l 7 yX7_few cX7_few 4 (some FieldType.int) 65 [some (.ref 0), some (.int m), some (.int (nI b)), none] [] Y (QI (S_few E n M m)) := by
              intro k8
              induction k8 using Nat.strongRecOn with
              | _ k8 ih8 =>
              intro b Y hk8 hb1 hY hall2
              refine aw_iload_n (i := 2) dX7_few_65 rfl rfl ?_
              refine aw_aload_n (i := 0) dX7_few_66 rfl rfl ?_
              refine aw_getR gf_X7_19 sh_0 rfl dX7_few_67 ?_
              refine aw_getN (n := n) gf_X7_146 sh_14 rfl ((congrFun (hY.2 14 (by omega)) _).trans hn) dX7_few_70 ?_
              refine aw_icmp_geN (tgt := 113) (by omega) (by omega) dX7_few_73 (by decide) (fun h73 => ?_) (fun h73 => ?_)
              ·
                refine aw_aload_n (i := 0) dX7_few_113 rfl rfl ?_
                refine aw_bipush (v := (-5)) dX7_few_114 (by decide) ?_
                refine aw_cVi ck_X7_86 (m_X7_refuse (k := 4) (by decide) (by decide)) sh_0 rfl (by decide) (by decide) rfl rfl (Nat.le_of_ble_eq_true rfl) dX7_few_116 ?_
                exact aw_iret rfl dX7_few_119 ⟨_, rfl, by unfold S_few; (first | rw [pIf_t h2] | rw [pIf_f h2] | rw [pIf_f (Int32.not_lt.mpr h2)] | rw [pIf_f (Int32.not_le.mpr h2)] | rw [pIf_t (Int32.not_le.mp h2)] | rw [pIf_t (Int32.not_lt.mp h2)] | rw [pIf_f (Nat.not_lt.mpr h2)] | rw [pIf_f (Nat.not_le.mpr h2)] | rw [pIf_t (Nat.not_le.mp h2)] | rw [pIf_t (Nat.not_lt.mp h2)] | skip); (first | rw [pIf_t h8] | rw [pIf_f h8] | rw [pIf_f (Int32.not_lt.mpr h8)] | rw [pIf_f (Int32.not_le.mpr h8)] | rw [pIf_t (Int32.not_le.mp h8)] | rw [pIf_t (Int32.not_lt.mp h8)] | rw [pIf_f (Nat.not_lt.mpr h8)] | rw [pIf_f (Nat.not_le.mpr h8)] | rw [pIf_t (Nat.not_le.mp h8)] | rw [pIf_t (Nat.not_lt.mp h8)] | skip); exact ⟨_, hY, Or.inr ⟨h25, Or.inr ⟨fun i hi => hall i (by omega), Or.inr ⟨fun b' a' h1 h3 => hall2 b' a' (by omega) h3, rfl, rfl⟩⟩⟩⟩⟩
              ·
                refine aw_iconst (v := 0) dX7_few_76 (by decide) ?_
                refine aw_istore_n (i := 3) dX7_few_77 rfl (by decide) ?_
                have lp78 : ∀ k7 a9 Z, a9 + k7 = b → outE 44 M Z → (∀ a', a' < a9 → ¬ E (nI a') (nI b)) → AW l 7 yX7_few cX7_few 4 (some FieldType.int) 78 [some (.ref 0), some (.int m), some (.int (nI b)), some (.int (nI a9))] [] Z (QI (S_few E n M m)) := by
                  intro k7
                  induction k7 using Nat.strongRecOn with
                  | _ k7 ih7 =>
                  intro a9 Z hk7 hZ hall3
                  refine aw_iload_n (i := 3) dX7_few_78 rfl rfl ?_
                  refine aw_iload_n (i := 2) dX7_few_79 rfl rfl ?_
                  refine aw_icmp_geN (tgt := 107) (by omega) (by omega) dX7_few_80 (by decide) (fun h80 => ?_) (fun h80 => ?_)
                  ·
                    refine aw_iincN (i := 2) dX7_few_107 rfl (by decide) ?_
                    refine aw_goto (tgt := 65) dX7_few_110 (by decide) ?_
                    refine aw_loc (la := [some (.ref 0), some (.int m), some (.int (nI (b + 1))), none]) ⟨rfl, rfl, rfl, trivial⟩ ?_
                    exact ih8 (k8 - 1) (by omega) (b + 1) _ (by omega) ⟨by omega, by omega⟩ hZ (fun b' a' h1 h3 => by
                      by_cases e : b' = b
                      · subst e; exact hall3 a' (by omega)
                      · exact hall2 b' a' (by omega) h3)
                  ·
                    refine aw_aload_n (i := 0) dX7_few_83 rfl rfl ?_
                    refine aw_iload_n (i := 3) dX7_few_84 rfl rfl ?_
                    refine aw_iload_n (i := 2) dX7_few_85 rfl rfl ?_
                    refine aw_iload_n (i := 1) dX7_few_86 rfl rfl ?_
                    refine aw_cVQ ck_X7_278 (m_X7_areEnough (congrFun (hZ.2 14 (by omega)) _ |>.trans hn) hn30 (congrFun (hZ.2 78 (by omega)) _ |>.trans hcn) hc6) sh_0 rfl (by decide) (by decide) rfl rfl (Nat.le_of_ble_eq_true rfl) dX7_few_87 (fun r M9 hq9 => ?_)
                    obtain ⟨v9, rfl, hS9⟩ := hq9
                    obtain ⟨rfl, hO3⟩ := hE _ _ _ _ _ hZ hS9
                    refine aw_pc rfl ?_
                    refine aw_ifeq_b (tgt := 101) dX7_few_90 (by decide) (fun h90 => ?_) (fun h90 => ?_)
                    ·
                      refine aw_iincN (i := 3) dX7_few_101 rfl (by decide) ?_
                      refine aw_goto (tgt := 78) dX7_few_104 (by decide) ?_
                      refine aw_loc (la := [some (.ref 0), some (.int m), some (.int (nI b)), some (.int (nI (a9 + 1)))]) ⟨rfl, rfl, rfl, rfl, trivial⟩ ?_
                      exact ih7 (k7 - 1) (by omega) (a9 + 1) _ (by omega) hO3 (fun a' h3 => by
                        by_cases e : a' = a9
                        · subst e; exact h90
                        · exact hall3 a' (by omega))
                    ·
                      refine aw_iconst (v := 1) dX7_few_93 (by decide) ?_
                      refine aw_iload_n (i := 3) dX7_few_94 rfl rfl ?_
                      refine aw_ishl dX7_few_95 ?_
                      refine aw_iconst (v := 1) dX7_few_96 (by decide) ?_
                      refine aw_iload_n (i := 2) dX7_few_97 rfl rfl ?_
                      refine aw_ishl dX7_few_98 ?_
                      refine aw_ior dX7_few_99 ?_
                      exact aw_iret rfl dX7_few_100 ⟨_, rfl, by unfold S_few; (first | rw [pIf_t h2] | rw [pIf_f h2] | rw [pIf_f (Int32.not_lt.mpr h2)] | rw [pIf_f (Int32.not_le.mpr h2)] | rw [pIf_t (Int32.not_le.mp h2)] | rw [pIf_t (Int32.not_lt.mp h2)] | rw [pIf_f (Nat.not_lt.mpr h2)] | rw [pIf_f (Nat.not_le.mpr h2)] | rw [pIf_t (Nat.not_le.mp h2)] | rw [pIf_t (Nat.not_lt.mp h2)] | skip); (first | rw [pIf_t h8] | rw [pIf_f h8] | rw [pIf_f (Int32.not_lt.mpr h8)] | rw [pIf_f (Int32.not_le.mpr h8)] | rw [pIf_t (Int32.not_le.mp h8)] | rw [pIf_t (Int32.not_lt.mp h8)] | rw [pIf_f (Nat.not_lt.mpr h8)] | rw [pIf_f (Nat.not_le.mpr h8)] | rw [pIf_t (Nat.not_le.mp h8)] | rw [pIf_t (Nat.not_lt.mp h8)] | skip); exact ⟨_, hO3, Or.inr ⟨h25, Or.inr ⟨fun i hi => hall i (by omega), Or.inl ⟨b, a9, by omega, by omega, by omega, hall2, hall3, h90, rfl, rfl⟩⟩⟩⟩⟩
                refine aw_loc (la := [some (.ref 0), some (.int m), some (.int (nI b)), some (.int (nI 0))]) ⟨rfl, rfl, rfl, rfl, trivial⟩ ?_
                exact lp78 b 0 _ (by omega) hY (fun a' h3 => absurd h3 (by omega))
            refine aw_loc (la := [some (.ref 0), some (.int m), some (.int (nI 1)), none]) ⟨rfl, rfl, rfl, trivial⟩ ?_
            exact lp65 n 1 _ (by omega) ⟨by omega, by omega⟩ hX (fun b' a' h1 h3 => absurd h3 (by omega))
          ·
            refine aw_aload_n (i := 0) dX7_few_43 rfl rfl ?_
            refine aw_iconst (v := (-1)) dX7_few_44 (by decide) ?_
            refine aw_iload_n (i := 2) dX7_few_45 rfl rfl ?_
            refine aw_iload_n (i := 1) dX7_few_46 rfl rfl ?_
            refine aw_cVQ ck_X7_278 (m_X7_areEnough (congrFun (hX.2 14 (by omega)) _ |>.trans hn) hn30 (congrFun (hX.2 78 (by omega)) _ |>.trans hcn) hc6) sh_0 rfl (by decide) (by decide) rfl rfl (Nat.le_of_ble_eq_true rfl) dX7_few_47 (fun r M9 hq9 => ?_)
            obtain ⟨v9, rfl, hS9⟩ := hq9
            obtain ⟨rfl, hO2⟩ := hE _ _ _ _ _ hX hS9
            refine aw_pc rfl ?_
            refine aw_ifeq_b (tgt := 57) dX7_few_50 (by decide) (fun h50 => ?_) (fun h50 => ?_)
            ·
              refine aw_iincN (i := 2) dX7_few_57 rfl (by decide) ?_
              refine aw_goto (tgt := 32) dX7_few_60 (by decide) ?_
              refine aw_loc (la := [some (.ref 0), some (.int m), some (.int (nI (a + 1))), none]) ⟨rfl, rfl, rfl, trivial⟩ ?_
              exact ih (k9 - 1) (by omega) (a + 1) _ (by omega) hO2 (fun i hi => by
                by_cases e : i = a
                · subst e; exact h50
                · exact hall i (by omega))
            ·
              refine aw_iconst (v := 1) dX7_few_53 (by decide) ?_
              refine aw_iload_n (i := 2) dX7_few_54 rfl rfl ?_
              refine aw_ishl dX7_few_55 ?_
              exact aw_iret rfl dX7_few_56 ⟨_, rfl, by unfold S_few; (first | rw [pIf_t h2] | rw [pIf_f h2] | rw [pIf_f (Int32.not_lt.mpr h2)] | rw [pIf_f (Int32.not_le.mpr h2)] | rw [pIf_t (Int32.not_le.mp h2)] | rw [pIf_t (Int32.not_lt.mp h2)] | rw [pIf_f (Nat.not_lt.mpr h2)] | rw [pIf_f (Nat.not_le.mpr h2)] | rw [pIf_t (Nat.not_le.mp h2)] | rw [pIf_t (Nat.not_lt.mp h2)] | skip); (first | rw [pIf_t h8] | rw [pIf_f h8] | rw [pIf_f (Int32.not_lt.mpr h8)] | rw [pIf_f (Int32.not_le.mpr h8)] | rw [pIf_t (Int32.not_le.mp h8)] | rw [pIf_t (Int32.not_lt.mp h8)] | rw [pIf_f (Nat.not_lt.mpr h8)] | rw [pIf_f (Nat.not_le.mpr h8)] | rw [pIf_t (Nat.not_le.mp h8)] | rw [pIf_t (Nat.not_lt.mp h8)] | skip); exact ⟨_, hO2, Or.inr ⟨h25, Or.inl ⟨a, by omega, hall, h50, rfl, rfl⟩⟩⟩⟩
        refine aw_loc (la := [some (.ref 0), some (.int m), some (.int (nI 0)), none]) ⟨rfl, rfl, rfl, trivial⟩ ?_
        exact lp32 n 0 _ (by omega) hO1 (fun i hi => absurd hi (by omega))
      ·
        refine aw_iconst (v := 0) dX7_few_28 (by decide) ?_
        exact aw_iret rfl dX7_few_29 ⟨_, rfl, by unfold S_few; (first | rw [pIf_t h2] | rw [pIf_f h2] | rw [pIf_f (Int32.not_lt.mpr h2)] | rw [pIf_f (Int32.not_le.mpr h2)] | rw [pIf_t (Int32.not_le.mp h2)] | rw [pIf_t (Int32.not_lt.mp h2)] | rw [pIf_f (Nat.not_lt.mpr h2)] | rw [pIf_f (Nat.not_le.mpr h2)] | rw [pIf_t (Nat.not_le.mp h2)] | rw [pIf_t (Nat.not_lt.mp h2)] | skip); (first | rw [pIf_t h8] | rw [pIf_f h8] | rw [pIf_f (Int32.not_lt.mpr h8)] | rw [pIf_f (Int32.not_le.mpr h8)] | rw [pIf_t (Int32.not_le.mp h8)] | rw [pIf_t (Int32.not_lt.mp h8)] | rw [pIf_f (Nat.not_lt.mpr h8)] | rw [pIf_f (Nat.not_le.mpr h8)] | rw [pIf_t (Nat.not_le.mp h8)] | rw [pIf_t (Nat.not_lt.mp h8)] | skip); exact ⟨_, hO1, Or.inl ⟨h25, rfl, rfl⟩⟩⟩
    ·
      refine aw_aload_n (i := 0) dX7_few_11 rfl rfl ?_
      refine aw_bipush (v := (-6)) dX7_few_12 (by decide) ?_
      refine aw_cVi ck_X7_86 (m_X7_refuse (k := 5) (by decide) (by decide)) sh_0 rfl (by decide) (by decide) rfl rfl (Nat.le_of_ble_eq_true rfl) dX7_few_14 ?_
      exact aw_iret rfl dX7_few_17 (by first | contradiction | exact ⟨_, rfl, by unfold S_few; (first | rw [pIf_t h2] | rw [pIf_f h2] | rw [pIf_f (Int32.not_lt.mpr h2)] | rw [pIf_f (Int32.not_le.mpr h2)] | rw [pIf_t (Int32.not_le.mp h2)] | rw [pIf_t (Int32.not_lt.mp h2)] | rw [pIf_f (Nat.not_lt.mpr h2)] | rw [pIf_f (Nat.not_le.mpr h2)] | rw [pIf_t (Nat.not_le.mp h2)] | rw [pIf_t (Nat.not_lt.mp h2)] | skip); (first | rw [pIf_t h8] | rw [pIf_f h8] | rw [pIf_f (Int32.not_lt.mpr h8)] | rw [pIf_f (Int32.not_le.mpr h8)] | rw [pIf_t (Int32.not_le.mp h8)] | rw [pIf_t (Int32.not_lt.mp h8)] | rw [pIf_f (Nat.not_lt.mpr h8)] | rw [pIf_f (Nat.not_le.mpr h8)] | rw [pIf_t (Nat.not_le.mp h8)] | rw [pIf_t (Nat.not_lt.mp h8)] | skip); exact ⟨rfl, rfl⟩⟩)
def told (M : Mm) (s : Int32) (m : Nat) : Prop := ∀ i, i < m → M.1 45 i = (elL M s (nI i)).toInt32
theorem m_X7_isAsTold {l : Launch} {M : Mm} {s : Int32} {m : Nat} (hz : sizOK M) (hm : m ≤ 100) : AMet l 6 yX7_isAsTold cX7_isAsTold 4 (some FieldType.boolean) [.ref 0, .int s, .int (nI m)] M (QE (some (.int (b01 (told M s m)))) M) := by
  refine AMet.of (by decide) (by simp [aargs, Value.category]) ?_
  show AW l 6 yX7_isAsTold cX7_isAsTold 4 (some FieldType.boolean) 0 [some (.ref 0), some (.int s), some (.int (nI m)), none] [] M _
  refine aw_iconst (v := 0) dX7_isAsTold_0 (by decide) ?_
  refine aw_istore_n (i := 3) dX7_isAsTold_1 rfl (by decide) ?_
  have lp2 : ∀ k9 j, j + k9 = m → (∀ i, i < j → M.1 45 i = (elL M s (nI i)).toInt32) → AW l 6 yX7_isAsTold cX7_isAsTold 4 (some FieldType.boolean) 2 [some (.ref 0), some (.int s), some (.int (nI m)), some (.int (nI j))] [] M (QE (some (.int (b01 (told M s m)))) M) := by
    intro k9
    induction k9 using Nat.strongRecOn with
    | _ k9 ih =>
    intro j hk9 hall
    refine aw_iload_n (i := 3) dX7_isAsTold_2 rfl rfl ?_
    refine aw_iload_n (i := 2) dX7_isAsTold_3 rfl rfl ?_
    refine aw_icmp_geN (tgt := 36) (by omega) (by omega) dX7_isAsTold_4 (by decide) (fun h4 => ?_) (fun h4 => ?_)
    ·
      refine aw_iconst (v := 1) dX7_isAsTold_36 (by decide) ?_
      exact aw_zret rfl (by simp) dX7_isAsTold_37 ⟨by rw [b01_t (p := told M s m) (fun i hi => hall i (by omega))], rfl⟩
    ·
      refine aw_aload_n (i := 0) dX7_isAsTold_7 rfl rfl ?_
      refine aw_getR gf_X7_40 sh_0 rfl dX7_isAsTold_8 ?_
      refine aw_getR gf_X7_265 sh_44 rfl dX7_isAsTold_11 ?_
      refine aw_iload_n (i := 3) dX7_isAsTold_14 rfl rfl ?_
      refine aw_ialdN sh_45 (by omega) (by omega) dX7_isAsTold_15 ?_
      refine aw_aload_n (i := 0) dX7_isAsTold_16 rfl rfl ?_
      refine aw_getR gf_X7_12 sh_0 rfl dX7_isAsTold_17 ?_
      refine aw_iload_n (i := 1) dX7_isAsTold_20 rfl rfl ?_
      refine aw_iload_n (i := 3) dX7_isAsTold_21 rfl rfl ?_
      refine aw_cVi ck_X7_156 (m_X6_intOr0 hz) sh_2 rfl (by decide) (by decide) rfl rfl (Nat.le_of_ble_eq_true rfl) dX7_isAsTold_22 ?_
      refine aw_icmp_eq (tgt := 30) dX7_isAsTold_25 (by decide) (fun h25 => ?_) (fun h25 => ?_)
      ·
        refine aw_iincN (i := 3) dX7_isAsTold_30 rfl (by decide) ?_
        refine aw_goto (tgt := 2) dX7_isAsTold_33 (by decide) ?_
        refine aw_loc (la := [some (.ref 0), some (.int s), some (.int (nI m)), some (.int (nI (j + 1)))]) ⟨rfl, rfl, rfl, rfl, trivial⟩ ?_
        exact ih (k9 - 1) (by omega) (j + 1) (by omega) (fun i hi => by
          by_cases e : i = j
          · subst e; exact h25
          · exact hall i (by omega))
      ·
        refine aw_iconst (v := 0) dX7_isAsTold_28 (by decide) ?_
        exact aw_zret rfl (by simp) dX7_isAsTold_29 ⟨by rw [b01_f (p := told M s m) (fun q => h25 (q j (by omega)))], rfl⟩
  refine aw_loc (la := [some (.ref 0), some (.int s), some (.int (nI m)), some (.int (nI 0))]) ⟨rfl, rfl, rfl, rfl, trivial⟩ ?_
  exact lp2 m 0 (by omega) (fun i hi => absurd hi (by omega))
def S_fit (T : Nat → Prop) (n cnt : Nat) (M : Mm) (s x : Int32) (v : Int32) (M' : Mm) : Prop := pIf (rrI M s = 0) (pIf (x < 0) (v = -4 ∧ M' = rfx M 3) (pIf (partP M s 0 x) (outE 44 M M' ∧ v = bitsI cnt T) (v = -5 ∧ M' = rfx M 4))) (v = rrI M s ∧ M' = rfA M (rrI M s))
theorem m_X7_fit {l : Launch} {M : Mm} {s x : Int32} {T : Nat → Prop} (hz : sizOK M) {n : Nat} (hn : M.1 14 11 = nI n) (hn30 : n ≤ 30) {cnt : Nat} (hcn : M.1 78 1 = nI cnt) (hc6 : cnt ≤ 6) (hT : ∀ l7 X Y, l7 < cnt → outE 44 M X → gtQ 44 n cnt (nI l7) x.toNatClampNeg X Y → (told Y s x.toNatClampNeg ↔ T l7)) : AMet l 7 yX7_fit cX7_fit 6 (some FieldType.int) [.ref 0, .int s, .int x] M (QI (S_fit T n cnt M s x)) := by
  refine AMet.of (by decide) (by simp [aargs, Value.category]) ?_
  show AW l 7 yX7_fit cX7_fit 6 (some FieldType.int) 0 [some (.ref 0), some (.int s), some (.int x), none, none, none] [] M _
  refine aw_aload_n (i := 0) dX7_fit_0 rfl rfl ?_
  refine aw_iload_n (i := 1) dX7_fit_1 rfl rfl ?_
  refine aw_cVi ck_X7_94 m_X7_refusalOfRow sh_0 rfl (by decide) (by decide) rfl rfl (Nat.le_of_ble_eq_true rfl) dX7_fit_2 ?_
  refine aw_istore_n (i := 3) dX7_fit_5 rfl (by decide) ?_
  refine aw_iload_n (i := 3) dX7_fit_6 rfl rfl ?_
  refine aw_if_eq (tgt := 16) dX7_fit_7 (by decide) (fun h7 => ?_) (fun h7 => ?_)
  ·
    refine aw_iload_n (i := 2) dX7_fit_16 rfl rfl ?_
    refine aw_if_ge (tgt := 27) dX7_fit_17 (by decide) (fun h17 => ?_) (fun h17 => ?_)
    ·
      refine aw_aload_n (i := 0) dX7_fit_27 rfl rfl ?_
      refine aw_getR gf_X7_12 sh_0 rfl dX7_fit_28 ?_
      refine aw_iload_n (i := 1) dX7_fit_31 rfl rfl ?_
      refine aw_iconst (v := 0) dX7_fit_32 (by decide) ?_
      refine aw_iload_n (i := 2) dX7_fit_33 rfl rfl ?_
      refine aw_cVi ck_X7_109 m_X6_hasPart sh_2 rfl (by decide) (by decide) rfl rfl (Nat.le_of_ble_eq_true rfl) dX7_fit_34 ?_
      refine aw_ifne_b (tgt := 47) dX7_fit_37 (by decide) (fun h37 => ?_) (fun h37 => ?_)
      ·
        obtain ⟨k, z, a, m, hk, hz1, hz2, rfl, ea, rfl, -⟩ := partP_n hz h37
        rw [nI_clamp (show m < 2 ^ 31 from by omega)] at hT
        refine aw_iload_n (i := 2) dX7_fit_47 rfl rfl ?_
        refine aw_bipush (v := 100) dX7_fit_48 (by decide) ?_
        refine aw_top (show (100 : Int32) = nI 100 from rfl) ?_
        refine aw_icmp_leN (tgt := 60) (by omega) (by omega) dX7_fit_50 (by decide) (fun h50 => ?_) (fun h50 => ?_)
        ·
          refine aw_iconst (v := 0) dX7_fit_60 (by decide) ?_
          refine aw_istore (i := 4) dX7_fit_61 (by decide) ?_
          refine aw_iconst (v := 0) dX7_fit_63 (by decide) ?_
          refine aw_istore (i := 5) dX7_fit_64 (by decide) ?_
          have lp66 : ∀ k9 l7 X, l7 + k9 = cnt → outE 44 M X → AW l 7 yX7_fit cX7_fit 6 (some FieldType.int) 66 [some (.ref 0), some (.int (nI k)), some (.int (nI m)), none, some (.int (bitsI l7 T)), some (.int (nI l7))] [] X (QI (S_fit T n cnt M (nI k) (nI m))) := by
            intro k9
            induction k9 using Nat.strongRecOn with
            | _ k9 ih =>
            intro l7 X hk9 hX
            refine aw_iload (i := 5) dX7_fit_66 rfl ?_
            refine aw_aload_n (i := 0) dX7_fit_68 rfl rfl ?_
            refine aw_getR gf_X7_26 sh_0 rfl dX7_fit_69 ?_
            refine aw_getN (n := cnt) gf_X7_185 sh_78 rfl ((congrFun (hX.2 78 (by omega)) _).trans hcn) dX7_fit_72 ?_
            refine aw_icmp_geN (tgt := 113) (by omega) (by omega) dX7_fit_75 (by decide) (fun h75 => ?_) (fun h75 => ?_)
            ·
              refine aw_iload (i := 4) dX7_fit_113 rfl ?_
              exact aw_iret rfl dX7_fit_115 ⟨_, rfl, by unfold S_fit; (first | rw [pIf_t h7] | rw [pIf_f h7] | rw [pIf_f (Int32.not_lt.mpr h7)] | rw [pIf_f (Int32.not_le.mpr h7)] | rw [pIf_t (Int32.not_le.mp h7)] | rw [pIf_t (Int32.not_lt.mp h7)] | rw [pIf_f (Nat.not_lt.mpr h7)] | rw [pIf_f (Nat.not_le.mpr h7)] | rw [pIf_t (Nat.not_le.mp h7)] | rw [pIf_t (Nat.not_lt.mp h7)] | skip); (first | rw [pIf_t h17] | rw [pIf_f h17] | rw [pIf_f (Int32.not_lt.mpr h17)] | rw [pIf_f (Int32.not_le.mpr h17)] | rw [pIf_t (Int32.not_le.mp h17)] | rw [pIf_t (Int32.not_lt.mp h17)] | rw [pIf_f (Nat.not_lt.mpr h17)] | rw [pIf_f (Nat.not_le.mpr h17)] | rw [pIf_t (Nat.not_le.mp h17)] | rw [pIf_t (Nat.not_lt.mp h17)] | skip); (first | rw [pIf_t h37] | rw [pIf_f h37] | rw [pIf_f (Int32.not_lt.mpr h37)] | rw [pIf_f (Int32.not_le.mpr h37)] | rw [pIf_t (Int32.not_le.mp h37)] | rw [pIf_t (Int32.not_lt.mp h37)] | rw [pIf_f (Nat.not_lt.mpr h37)] | rw [pIf_f (Nat.not_le.mpr h37)] | rw [pIf_t (Nat.not_le.mp h37)] | rw [pIf_t (Nat.not_lt.mp h37)] | skip); exact ⟨hX, by rw [show l7 = cnt by omega]⟩⟩
            ·
              refine aw_aload_n (i := 0) dX7_fit_78 rfl rfl ?_
              refine aw_aload_n (i := 0) dX7_fit_79 rfl rfl ?_
              refine aw_getR gf_X7_40 sh_0 rfl dX7_fit_80 ?_
              refine aw_iload (i := 5) dX7_fit_83 rfl ?_
              refine aw_iload_n (i := 2) dX7_fit_85 rfl rfl ?_
              refine aw_cVQ ck_X7_255 (m_X7_goThrough (by simp [isE] : isE 44) ((congrFun (hX.2 14 (by omega)) _).trans hn) hn30 ((congrFun (hX.2 78 (by omega)) _).trans hcn) hc6 (by omega)) sh_0 rfl (by decide) (by decide) rfl rfl (Nat.le_of_ble_eq_true rfl) dX7_fit_86 (fun r M9 hq9 => ?_)
              obtain ⟨rfl, hg9⟩ := hq9
              have hY := outE_tr hX (gtQ_I ((congrFun (hX.2 14 (by omega)) _).trans hn) hg9).1
              have hTl := hT l7 _ _ (by omega) hX hg9
              refine aw_aload_n (i := 0) dX7_fit_89 rfl rfl ?_
              refine aw_iload_n (i := 1) dX7_fit_90 rfl rfl ?_
              refine aw_iload_n (i := 2) dX7_fit_91 rfl rfl ?_
              refine aw_cVi ck_X7_287 (m_X7_isAsTold (outE_siz (by simp [isE]) hY hz) (by omega)) sh_0 rfl (by decide) (by decide) rfl rfl (Nat.le_of_ble_eq_true rfl) dX7_fit_92 ?_
              refine aw_ifeq_b (tgt := 107) dX7_fit_95 (by decide) (fun h95 => ?_) (fun h95 => ?_)
              ·
                refine aw_iincN (i := 5) dX7_fit_107 rfl (by decide) ?_
                refine aw_goto (tgt := 66) dX7_fit_110 (by decide) ?_
                refine aw_loc (la := [some (.ref 0), some (.int (nI k)), some (.int (nI m)), none, some (.int (bitsI (l7 + 1) T)), some (.int (nI (l7 + 1)))]) ⟨rfl, rfl, rfl, congrArg (fun z => some (Value.int z)) (bitsI_f (fun q => h95 (hTl.mpr q))).symm, rfl, trivial⟩ ?_
                exact ih (k9 - 1) (by omega) (l7 + 1) _ (by omega) hY
              ·
                refine aw_iload (i := 4) dX7_fit_98 rfl ?_
                refine aw_iconst (v := 1) dX7_fit_100 (by decide) ?_
                refine aw_iload (i := 5) dX7_fit_101 rfl ?_
                refine aw_ishl dX7_fit_103 ?_
                refine aw_ior dX7_fit_104 ?_
                refine aw_istore (i := 4) dX7_fit_105 (by decide) ?_
                refine aw_iincN (i := 5) dX7_fit_107 rfl (by decide) ?_
                refine aw_goto (tgt := 66) dX7_fit_110 (by decide) ?_
                refine aw_loc (la := [some (.ref 0), some (.int (nI k)), some (.int (nI m)), none, some (.int (bitsI (l7 + 1) T)), some (.int (nI (l7 + 1)))]) ⟨rfl, rfl, rfl, congrArg (fun z => some (Value.int z)) (bitsI_t (hTl.mp h95)).symm, rfl, trivial⟩ ?_
                exact ih (k9 - 1) (by omega) (l7 + 1) _ (by omega) hY
          refine aw_loc (la := [some (.ref 0), some (.int (nI k)), some (.int (nI m)), none, some (.int (bitsI 0 T)), some (.int (nI 0))]) ⟨rfl, rfl, rfl, rfl, rfl, trivial⟩ ?_
          exact lp66 cnt 0 M (by omega) outE_rf
        ·
          omega
      ·
        refine aw_aload_n (i := 0) dX7_fit_40 rfl rfl ?_
        refine aw_bipush (v := (-5)) dX7_fit_41 (by decide) ?_
        refine aw_cVi ck_X7_86 (m_X7_refuse (k := 4) (by decide) (by decide)) sh_0 rfl (by decide) (by decide) rfl rfl (Nat.le_of_ble_eq_true rfl) dX7_fit_43 ?_
        exact aw_iret rfl dX7_fit_46 (by first | contradiction | exact ⟨_, rfl, by unfold S_fit; (first | rw [pIf_t h7] | rw [pIf_f h7] | rw [pIf_f (Int32.not_lt.mpr h7)] | rw [pIf_f (Int32.not_le.mpr h7)] | rw [pIf_t (Int32.not_le.mp h7)] | rw [pIf_t (Int32.not_lt.mp h7)] | rw [pIf_f (Nat.not_lt.mpr h7)] | rw [pIf_f (Nat.not_le.mpr h7)] | rw [pIf_t (Nat.not_le.mp h7)] | rw [pIf_t (Nat.not_lt.mp h7)] | skip); (first | rw [pIf_t h17] | rw [pIf_f h17] | rw [pIf_f (Int32.not_lt.mpr h17)] | rw [pIf_f (Int32.not_le.mpr h17)] | rw [pIf_t (Int32.not_le.mp h17)] | rw [pIf_t (Int32.not_lt.mp h17)] | rw [pIf_f (Nat.not_lt.mpr h17)] | rw [pIf_f (Nat.not_le.mpr h17)] | rw [pIf_t (Nat.not_le.mp h17)] | rw [pIf_t (Nat.not_lt.mp h17)] | skip); (first | rw [pIf_t h37] | rw [pIf_f h37] | rw [pIf_f (Int32.not_lt.mpr h37)] | rw [pIf_f (Int32.not_le.mpr h37)] | rw [pIf_t (Int32.not_le.mp h37)] | rw [pIf_t (Int32.not_lt.mp h37)] | rw [pIf_f (Nat.not_lt.mpr h37)] | rw [pIf_f (Nat.not_le.mpr h37)] | rw [pIf_t (Nat.not_le.mp h37)] | rw [pIf_t (Nat.not_lt.mp h37)] | skip); exact ⟨rfl, rfl⟩⟩)
    ·
      refine aw_aload_n (i := 0) dX7_fit_20 rfl rfl ?_
      refine aw_bipush (v := (-4)) dX7_fit_21 (by decide) ?_
      refine aw_cVi ck_X7_86 (m_X7_refuse (k := 3) (by decide) (by decide)) sh_0 rfl (by decide) (by decide) rfl rfl (Nat.le_of_ble_eq_true rfl) dX7_fit_23 ?_
      exact aw_iret rfl dX7_fit_26 (by first | contradiction | exact ⟨_, rfl, by unfold S_fit; (first | rw [pIf_t h7] | rw [pIf_f h7] | rw [pIf_f (Int32.not_lt.mpr h7)] | rw [pIf_f (Int32.not_le.mpr h7)] | rw [pIf_t (Int32.not_le.mp h7)] | rw [pIf_t (Int32.not_lt.mp h7)] | rw [pIf_f (Nat.not_lt.mpr h7)] | rw [pIf_f (Nat.not_le.mpr h7)] | rw [pIf_t (Nat.not_le.mp h7)] | rw [pIf_t (Nat.not_lt.mp h7)] | skip); (first | rw [pIf_t h17] | rw [pIf_f h17] | rw [pIf_f (Int32.not_lt.mpr h17)] | rw [pIf_f (Int32.not_le.mpr h17)] | rw [pIf_t (Int32.not_le.mp h17)] | rw [pIf_t (Int32.not_lt.mp h17)] | rw [pIf_f (Nat.not_lt.mpr h17)] | rw [pIf_f (Nat.not_le.mpr h17)] | rw [pIf_t (Nat.not_le.mp h17)] | rw [pIf_t (Nat.not_lt.mp h17)] | skip); exact ⟨rfl, rfl⟩⟩)
  ·
    have hrf := rr_ok h7
    refine aw_aload_n (i := 0) dX7_fit_10 rfl rfl ?_
    refine aw_iload_n (i := 3) dX7_fit_11 rfl rfl ?_
    refine aw_cVi ck_X7_86 (m_X7_refA hrf) sh_0 rfl (by decide) (by decide) rfl rfl (Nat.le_of_ble_eq_true rfl) dX7_fit_12 ?_
    exact aw_iret rfl dX7_fit_15 (by first | contradiction | exact ⟨_, rfl, by unfold S_fit; (first | rw [pIf_t h7] | rw [pIf_f h7] | rw [pIf_f (Int32.not_lt.mpr h7)] | rw [pIf_f (Int32.not_le.mpr h7)] | rw [pIf_t (Int32.not_le.mp h7)] | rw [pIf_t (Int32.not_lt.mp h7)] | rw [pIf_f (Nat.not_lt.mpr h7)] | rw [pIf_f (Nat.not_le.mpr h7)] | rw [pIf_t (Nat.not_le.mp h7)] | rw [pIf_t (Nat.not_lt.mp h7)] | skip); exact ⟨rfl, rfl⟩⟩)
