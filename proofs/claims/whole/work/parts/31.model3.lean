theorem far8_eq (a b : Int32) : far8 a b = farI a b := by
  have e : ∀ x, ab8 x = absI x := fun x => by
    unfold ab8 absI
    by_cases h : x < 0
    · rw [if_pos h, if_neg (Int32.not_le.mpr h)]; grind
    · rw [if_neg h, if_pos (Int32.not_lt.mp h)]
  unfold far8 farI
  rw [e, e]
theorem farI_self (a : Int32) : farI a a = 0 := by
  unfold farI
  rw [show a / 8 - a / 8 = 0 from by grind, show a - a / 8 * 8 - (a - a / 8 * 8) = 0 from by grind]
  decide
theorem far_tab : ∀ s, s < 48 → ∀ t, t < 48 → ¬ 1 + farI (nI s) (nI t) = 0 ∧ 12 / (1 + farI (nI s) (nI t)) = loudI (farI (nI s) (nI t)) := by decide +kernel
theorem stO {f g : Nat → Int32} {p o : Nat} (hp : ∃ s, s < 48 ∧ f p = nI s) (ho : ∃ s, s < 48 ∧ g o = nI s) : ¬ 1 + farI (f p) (g o) = 0 ∧ 12 / (1 + farI (f p) (g o)) = loudI (farI (f p) (g o)) := by
  obtain ⟨s, hs, e1⟩ := hp
  obtain ⟨t, ht, e2⟩ := ho
  rw [e1, e2]
  exact far_tab s hs t ht
noncomputable def hrT (M : Mm) (p : Nat) : Nat → Int32 := fun o => pIf (o ≠ p ∧ M.1 113 o = 1) (wgt (M.1 108) p o) 0
noncomputable def nrT (M : Mm) (p : Nat) : Nat → Int32 := fun o => pIf (o ≠ p ∧ M.1 113 o = 1 ∧ farI (M.1 108 p) (M.1 108 o) = 1) 1 0
theorem sum_0 {i : Nat} {F : Nat → Int32} (h : F i = 0) : sumI i F = sumI (i + 1) F := by
  show _ = sumI i F + F i
  rw [h]; grind
theorem sum_v {i : Nat} {F : Nat → Int32} {v : Int32} (h : v = F i) : sumI i F + v = sumI (i + 1) F := by
  show _ = sumI i F + F i
  rw [h]
theorem m_X8_heardBy {l : Launch} {M : Mm} {p : Nat} {n : Nat} (hn : M.1 105 0 = nI n) (hn30 : n ≤ 30) (hst : ∀ q, q < n → ∃ s, s < 48 ∧ M.1 108 q = nI s) (hp : p < n) : AMet l 2 yX8_heardBy cX8_heardBy 4 (some FieldType.int) [.ref 105, .int (nI p)] M (QE (some (.int (hearF n (M.1 108) (M.1 113) p))) M) := by
  refine AMet.of (by decide) (by simp [aargs, Value.category]) ?_
  show AW l 2 yX8_heardBy cX8_heardBy 4 (some FieldType.int) 0 [some (.ref 105), some (.int (nI p)), none, none] [] M _
  refine aw_iconst (v := 0) dX8_heardBy_0 (by decide) ?_
  refine aw_istore_n (i := 2) dX8_heardBy_1 rfl (by decide) ?_
  refine aw_iconst (v := 0) dX8_heardBy_2 (by decide) ?_
  refine aw_istore_n (i := 3) dX8_heardBy_3 rfl (by decide) ?_
  have lp4 : ∀ k9 i, i + k9 = n → AW l 2 yX8_heardBy cX8_heardBy 4 (some FieldType.int) 4 [some (.ref 105), some (.int (nI p)), some (.int (sumI i (hrT M p))), some (.int (nI i))] [] M (QE (some (.int (hearF n (M.1 108) (M.1 113) p))) M) := by
    intro k9
    induction k9 using Nat.strongRecOn with
    | _ k9 ih =>
    intro i hk9
    refine aw_iload_n (i := 3) dX8_heardBy_4 rfl rfl ?_
    refine aw_aload_n (i := 0) dX8_heardBy_5 rfl rfl ?_
    refine aw_getN (n := n) gf_X8_132 sh_105 rfl (by first | exact hn | simpa [mI] using hn) dX8_heardBy_6 ?_
    refine aw_icmp_geN (tgt := 57) (by omega) (by omega) dX8_heardBy_9 (by decide) (fun h9 => ?_) (fun h9 => ?_)
    ·
      refine aw_iload_n (i := 2) dX8_heardBy_57 rfl rfl ?_
      exact aw_iret rfl dX8_heardBy_58 ⟨by rw [show i = n by omega]; rfl, rfl⟩
    ·
      refine aw_iload_n (i := 3) dX8_heardBy_12 rfl rfl ?_
      refine aw_iload_n (i := 1) dX8_heardBy_13 rfl rfl ?_
      refine aw_icmp_eqN (tgt := 51) (by omega) (by omega) dX8_heardBy_14 (by decide) (fun h14 => ?_) (fun h14 => ?_)
      ·
        refine aw_iincN (i := 3) dX8_heardBy_51 rfl (by decide) ?_
        refine aw_goto (tgt := 4) dX8_heardBy_54 (by decide) ?_
        refine aw_loc (la := [some (.ref 105), some (.int (nI p)), some (.int (sumI (i + 1) (hrT M p))), some (.int (nI (i + 1)))]) ⟨rfl, rfl, congrArg (fun z => some (Value.int z)) (by first | exact sum_0 (pIf_f (fun q => q.1 h14))), rfl, trivial⟩ ?_
        exact ih (k9 - 1) (by omega) (i + 1) (by omega)
      ·
        refine aw_aload_n (i := 0) dX8_heardBy_17 rfl rfl ?_
        refine aw_getR gf_X8_41 sh_105 rfl dX8_heardBy_18 ?_
        refine aw_iload_n (i := 3) dX8_heardBy_21 rfl rfl ?_
        refine aw_ialdN sh_113 (by omega) (by omega) dX8_heardBy_22 ?_
        refine aw_iconst (v := 1) dX8_heardBy_23 (by decide) ?_
        refine aw_icmp_ne (tgt := 51) dX8_heardBy_24 (by decide) (fun h24 => ?_) (fun h24 => ?_)
        ·
          refine aw_iincN (i := 3) dX8_heardBy_51 rfl (by decide) ?_
          refine aw_goto (tgt := 4) dX8_heardBy_54 (by decide) ?_
          refine aw_loc (la := [some (.ref 105), some (.int (nI p)), some (.int (sumI (i + 1) (hrT M p))), some (.int (nI (i + 1)))]) ⟨rfl, rfl, congrArg (fun z => some (Value.int z)) (by first | exact sum_v (((stO (hst p hp) (hst i (by omega))).2).trans (pIf_t ⟨h14, h24⟩).symm) | exact sum_0 (pIf_f (fun q => q.1 h14)) | exact sum_0 (pIf_f (fun q => h24 q.2))), rfl, trivial⟩ ?_
          exact ih (k9 - 1) (by omega) (i + 1) (by omega)
        ·
          refine aw_iload_n (i := 2) dX8_heardBy_27 rfl rfl ?_
          refine aw_bipush (v := 12) dX8_heardBy_28 (by decide) ?_
          refine aw_iconst (v := 1) dX8_heardBy_30 (by decide) ?_
          refine aw_aload_n (i := 0) dX8_heardBy_31 rfl rfl ?_
          refine aw_aload_n (i := 0) dX8_heardBy_32 rfl rfl ?_
          refine aw_getR gf_X8_26 sh_105 rfl dX8_heardBy_33 ?_
          refine aw_iload_n (i := 1) dX8_heardBy_36 rfl rfl ?_
          refine aw_ialdN sh_108 (by omega) (by omega) dX8_heardBy_37 ?_
          refine aw_aload_n (i := 0) dX8_heardBy_38 rfl rfl ?_
          refine aw_getR gf_X8_26 sh_105 rfl dX8_heardBy_39 ?_
          refine aw_iload_n (i := 3) dX8_heardBy_42 rfl rfl ?_
          refine aw_ialdN sh_108 (by omega) (by omega) dX8_heardBy_43 ?_
          refine aw_cVi ck_X8_213 m_X8_far sh_105 rfl (by decide) (by decide) rfl rfl (Nat.le_of_ble_eq_true rfl) dX8_heardBy_44 ?_
          refine aw_top (far8_eq _ _) ?_
          refine aw_iadd dX8_heardBy_47 ?_
          refine aw_idiv dX8_heardBy_48 (stO (hst p hp) (hst i (by omega))).1 ?_
          refine aw_iadd dX8_heardBy_49 ?_
          refine aw_istore_n (i := 2) dX8_heardBy_50 rfl (by decide) ?_
          refine aw_iincN (i := 3) dX8_heardBy_51 rfl (by decide) ?_
          refine aw_goto (tgt := 4) dX8_heardBy_54 (by decide) ?_
          refine aw_loc (la := [some (.ref 105), some (.int (nI p)), some (.int (sumI (i + 1) (hrT M p))), some (.int (nI (i + 1)))]) ⟨rfl, rfl, congrArg (fun z => some (Value.int z)) (by first | exact sum_v (((stO (hst p hp) (hst i (by omega))).2).trans (pIf_t ⟨h14, h24⟩).symm) | exact sum_0 (pIf_f (fun q => q.1 h14)) | exact sum_0 (pIf_f (fun q => h24 q.2))), rfl, trivial⟩ ?_
          exact ih (k9 - 1) (by omega) (i + 1) (by omega)
  refine aw_loc (la := [some (.ref 105), some (.int (nI p)), some (.int (sumI 0 (hrT M p))), some (.int (nI 0))]) ⟨rfl, rfl, rfl, rfl, trivial⟩ ?_
  exact lp4 n 0 (by omega)
theorem m_X8_besideOf {l : Launch} {M : Mm} {p : Nat} {n : Nat} (hn : M.1 105 0 = nI n) (hn30 : n ≤ 30) (hp : p < n) : AMet l 2 yX8_besideOf cX8_besideOf 4 (some FieldType.int) [.ref 105, .int (nI p)] M (QE (some (.int (nearF n (M.1 108) (M.1 113) p))) M) := by
  refine AMet.of (by decide) (by simp [aargs, Value.category]) ?_
  show AW l 2 yX8_besideOf cX8_besideOf 4 (some FieldType.int) 0 [some (.ref 105), some (.int (nI p)), none, none] [] M _
  refine aw_iconst (v := 0) dX8_besideOf_0 (by decide) ?_
  refine aw_istore_n (i := 2) dX8_besideOf_1 rfl (by decide) ?_
  refine aw_iconst (v := 0) dX8_besideOf_2 (by decide) ?_
  refine aw_istore_n (i := 3) dX8_besideOf_3 rfl (by decide) ?_
  have lp4 : ∀ k9 i, i + k9 = n → AW l 2 yX8_besideOf cX8_besideOf 4 (some FieldType.int) 4 [some (.ref 105), some (.int (nI p)), some (.int (sumI i (nrT M p))), some (.int (nI i))] [] M (QE (some (.int (nearF n (M.1 108) (M.1 113) p))) M) := by
    intro k9
    induction k9 using Nat.strongRecOn with
    | _ k9 ih =>
    intro i hk9
    refine aw_iload_n (i := 3) dX8_besideOf_4 rfl rfl ?_
    refine aw_aload_n (i := 0) dX8_besideOf_5 rfl rfl ?_
    refine aw_getN (n := n) gf_X8_132 sh_105 rfl (by first | exact hn | simpa [mI] using hn) dX8_besideOf_6 ?_
    refine aw_icmp_geN (tgt := 51) (by omega) (by omega) dX8_besideOf_9 (by decide) (fun h9 => ?_) (fun h9 => ?_)
    ·
      refine aw_iload_n (i := 2) dX8_besideOf_51 rfl rfl ?_
      exact aw_iret rfl dX8_besideOf_52 ⟨by rw [show i = n by omega]; rfl, rfl⟩
    ·
      refine aw_aload_n (i := 0) dX8_besideOf_12 rfl rfl ?_
      refine aw_getR gf_X8_41 sh_105 rfl dX8_besideOf_13 ?_
      refine aw_iload_n (i := 3) dX8_besideOf_16 rfl rfl ?_
      refine aw_ialdN sh_113 (by omega) (by omega) dX8_besideOf_17 ?_
      refine aw_iconst (v := 1) dX8_besideOf_18 (by decide) ?_
      refine aw_icmp_ne (tgt := 45) dX8_besideOf_19 (by decide) (fun h19 => ?_) (fun h19 => ?_)
      ·
        refine aw_iincN (i := 3) dX8_besideOf_45 rfl (by decide) ?_
        refine aw_goto (tgt := 4) dX8_besideOf_48 (by decide) ?_
        refine aw_loc (la := [some (.ref 105), some (.int (nI p)), some (.int (sumI (i + 1) (nrT M p))), some (.int (nI (i + 1)))]) ⟨rfl, rfl, congrArg (fun z => some (Value.int z)) (by first | exact sum_0 (pIf_f (fun q => h19 q.2.1))), rfl, trivial⟩ ?_
        exact ih (k9 - 1) (by omega) (i + 1) (by omega)
      ·
        refine aw_aload_n (i := 0) dX8_besideOf_22 rfl rfl ?_
        refine aw_aload_n (i := 0) dX8_besideOf_23 rfl rfl ?_
        refine aw_getR gf_X8_26 sh_105 rfl dX8_besideOf_24 ?_
        refine aw_iload_n (i := 1) dX8_besideOf_27 rfl rfl ?_
        refine aw_ialdN sh_108 (by omega) (by omega) dX8_besideOf_28 ?_
        refine aw_aload_n (i := 0) dX8_besideOf_29 rfl rfl ?_
        refine aw_getR gf_X8_26 sh_105 rfl dX8_besideOf_30 ?_
        refine aw_iload_n (i := 3) dX8_besideOf_33 rfl rfl ?_
        refine aw_ialdN sh_108 (by omega) (by omega) dX8_besideOf_34 ?_
        refine aw_cVi ck_X8_213 m_X8_far sh_105 rfl (by decide) (by decide) rfl rfl (Nat.le_of_ble_eq_true rfl) dX8_besideOf_35 ?_
        refine aw_top (far8_eq _ _) ?_
        refine aw_iconst (v := 1) dX8_besideOf_38 (by decide) ?_
        refine aw_icmp_ne (tgt := 45) dX8_besideOf_39 (by decide) (fun h39 => ?_) (fun h39 => ?_)
        ·
          refine aw_iincN (i := 3) dX8_besideOf_45 rfl (by decide) ?_
          refine aw_goto (tgt := 4) dX8_besideOf_48 (by decide) ?_
          refine aw_loc (la := [some (.ref 105), some (.int (nI p)), some (.int (sumI (i + 1) (nrT M p))), some (.int (nI (i + 1)))]) ⟨rfl, rfl, congrArg (fun z => some (Value.int z)) (by first | exact sum_v ((pIf_t ⟨fun e => by subst e; rw [farI_self] at h39; exact absurd h39 (by decide), h19, h39⟩).symm) | exact sum_0 (pIf_f (fun q => h39 q.2.2)) | exact sum_0 (pIf_f (fun q => h19 q.2.1))), rfl, trivial⟩ ?_
          exact ih (k9 - 1) (by omega) (i + 1) (by omega)
        ·
          refine aw_iinc1 (i := 2) dX8_besideOf_42 rfl (by decide) ?_
          refine aw_iincN (i := 3) dX8_besideOf_45 rfl (by decide) ?_
          refine aw_goto (tgt := 4) dX8_besideOf_48 (by decide) ?_
          refine aw_loc (la := [some (.ref 105), some (.int (nI p)), some (.int (sumI (i + 1) (nrT M p))), some (.int (nI (i + 1)))]) ⟨rfl, rfl, congrArg (fun z => some (Value.int z)) (by first | exact sum_v ((pIf_t ⟨fun e => by subst e; rw [farI_self] at h39; exact absurd h39 (by decide), h19, h39⟩).symm) | exact sum_0 (pIf_f (fun q => h39 q.2.2)) | exact sum_0 (pIf_f (fun q => h19 q.2.1))), rfl, trivial⟩ ?_
          exact ih (k9 - 1) (by omega) (i + 1) (by omega)
  refine aw_loc (la := [some (.ref 105), some (.int (nI p)), some (.int (sumI 0 (nrT M p))), some (.int (nI 0))]) ⟨rfl, rfl, rfl, rfl, trivial⟩ ?_
  exact lp4 n 0 (by omega)
def S8_heard (M : Mm) (n : Nat) (x : Int32) (v : Int32) (M' : Mm) : Prop := pIf (¬ x < 0 ∧ ¬ M.1 105 0 ≤ x) (v = hearF n (M.1 108) (M.1 113) x.toNatClampNeg ∧ M' = M) (v = -1 ∧ M' = nox M 1)
theorem m_X8_heard {l : Launch} {M : Mm} {x : Int32} {n : Nat} (hn : M.1 105 0 = nI n) (hn30 : n ≤ 30) (hst : ∀ q, q < n → ∃ s, s < 48 ∧ M.1 108 q = nI s) : AMet l 3 yX8_heard cX8_heard 2 (some FieldType.int) [.ref 105, .int x] M (QI (S8_heard M n x)) := by
  refine AMet.of (by decide) (by simp [aargs, Value.category]) ?_
  show AW l 3 yX8_heard cX8_heard 2 (some FieldType.int) 0 [some (.ref 105), some (.int x)] [] M _
  refine aw_aload_n (i := 0) dX8_heard_0 rfl rfl ?_
  refine aw_iload_n (i := 1) dX8_heard_1 rfl rfl ?_
  refine aw_cVi ck_X8_146 m_X8_isPerson sh_105 rfl (by decide) (by decide) rfl rfl (Nat.le_of_ble_eq_true rfl) dX8_heard_2 ?_
  refine aw_ifeq_b (tgt := 16) dX8_heard_5 (by decide) (fun h5 => ?_) (fun h5 => ?_)
  ·
    refine aw_aload_n (i := 0) dX8_heard_16 rfl rfl ?_
    refine aw_iconst (v := (-1)) dX8_heard_17 (by decide) ?_
    refine aw_cVi ck_X8_142 (m_X8_no (k := 1) (by decide) (by decide)) sh_105 rfl (by decide) (by decide) rfl rfl (Nat.le_of_ble_eq_true rfl) dX8_heard_18 ?_
    exact aw_iret rfl dX8_heard_21 (by first | contradiction | exact ⟨_, rfl, by unfold S8_heard; (try rw [nI_clamp (show p < 2 ^ 31 from by omega)]); (first | rw [pIf_t h5] | rw [pIf_f h5] | rw [pIf_f (Int32.not_lt.mpr h5)] | rw [pIf_f (Int32.not_le.mpr h5)] | rw [pIf_t (Int32.not_le.mp h5)] | rw [pIf_t (Int32.not_lt.mp h5)] | rw [pIf_f (Nat.not_lt.mpr h5)] | rw [pIf_f (Nat.not_le.mpr h5)] | rw [pIf_t (Nat.not_le.mp h5)] | rw [pIf_t (Nat.not_lt.mp h5)] | skip); (try rw [nI_clamp (show p < 2 ^ 31 from by omega)]); exact ⟨rfl, rfl⟩⟩)
  ·
    obtain ⟨p, hp, rfl⟩ := has8 hn hn30 h5
    refine aw_aload_n (i := 0) dX8_heard_8 rfl rfl ?_
    refine aw_iload_n (i := 1) dX8_heard_9 rfl rfl ?_
    refine aw_cVi ck_X8_149 (m_X8_heardBy hn hn30 hst hp) sh_105 rfl (by decide) (by decide) rfl rfl (Nat.le_of_ble_eq_true rfl) dX8_heard_10 ?_
    refine aw_goto (tgt := 21) dX8_heard_13 (by decide) ?_
    exact aw_iret rfl dX8_heard_21 (by first | contradiction | exact ⟨_, rfl, by unfold S8_heard; (try rw [nI_clamp (show p < 2 ^ 31 from by omega)]); (first | rw [pIf_t h5] | rw [pIf_f h5] | rw [pIf_f (Int32.not_lt.mpr h5)] | rw [pIf_f (Int32.not_le.mpr h5)] | rw [pIf_t (Int32.not_le.mp h5)] | rw [pIf_t (Int32.not_lt.mp h5)] | rw [pIf_f (Nat.not_lt.mpr h5)] | rw [pIf_f (Nat.not_le.mpr h5)] | rw [pIf_t (Nat.not_le.mp h5)] | rw [pIf_t (Nat.not_lt.mp h5)] | skip); (try rw [nI_clamp (show p < 2 ^ 31 from by omega)]); exact ⟨rfl, rfl⟩⟩)
def S8_beside (M : Mm) (n : Nat) (x : Int32) (v : Int32) (M' : Mm) : Prop := pIf (¬ x < 0 ∧ ¬ M.1 105 0 ≤ x) (v = nearF n (M.1 108) (M.1 113) x.toNatClampNeg ∧ M' = M) (v = -1 ∧ M' = nox M 1)
theorem m_X8_beside {l : Launch} {M : Mm} {x : Int32} {n : Nat} (hn : M.1 105 0 = nI n) (hn30 : n ≤ 30) : AMet l 3 yX8_beside cX8_beside 2 (some FieldType.int) [.ref 105, .int x] M (QI (S8_beside M n x)) := by
  refine AMet.of (by decide) (by simp [aargs, Value.category]) ?_
  show AW l 3 yX8_beside cX8_beside 2 (some FieldType.int) 0 [some (.ref 105), some (.int x)] [] M _
  refine aw_aload_n (i := 0) dX8_beside_0 rfl rfl ?_
  refine aw_iload_n (i := 1) dX8_beside_1 rfl rfl ?_
  refine aw_cVi ck_X8_146 m_X8_isPerson sh_105 rfl (by decide) (by decide) rfl rfl (Nat.le_of_ble_eq_true rfl) dX8_beside_2 ?_
  refine aw_ifeq_b (tgt := 16) dX8_beside_5 (by decide) (fun h5 => ?_) (fun h5 => ?_)
  ·
    refine aw_aload_n (i := 0) dX8_beside_16 rfl rfl ?_
    refine aw_iconst (v := (-1)) dX8_beside_17 (by decide) ?_
    refine aw_cVi ck_X8_142 (m_X8_no (k := 1) (by decide) (by decide)) sh_105 rfl (by decide) (by decide) rfl rfl (Nat.le_of_ble_eq_true rfl) dX8_beside_18 ?_
    exact aw_iret rfl dX8_beside_21 (by first | contradiction | exact ⟨_, rfl, by unfold S8_beside; (try rw [nI_clamp (show p < 2 ^ 31 from by omega)]); (first | rw [pIf_t h5] | rw [pIf_f h5] | rw [pIf_f (Int32.not_lt.mpr h5)] | rw [pIf_f (Int32.not_le.mpr h5)] | rw [pIf_t (Int32.not_le.mp h5)] | rw [pIf_t (Int32.not_lt.mp h5)] | rw [pIf_f (Nat.not_lt.mpr h5)] | rw [pIf_f (Nat.not_le.mpr h5)] | rw [pIf_t (Nat.not_le.mp h5)] | rw [pIf_t (Nat.not_lt.mp h5)] | skip); (try rw [nI_clamp (show p < 2 ^ 31 from by omega)]); exact ⟨rfl, rfl⟩⟩)
  ·
    obtain ⟨p, hp, rfl⟩ := has8 hn hn30 h5
    refine aw_aload_n (i := 0) dX8_beside_8 rfl rfl ?_
    refine aw_iload_n (i := 1) dX8_beside_9 rfl rfl ?_
    refine aw_cVi ck_X8_152 (m_X8_besideOf hn hn30 hp) sh_105 rfl (by decide) (by decide) rfl rfl (Nat.le_of_ble_eq_true rfl) dX8_beside_10 ?_
    refine aw_goto (tgt := 21) dX8_beside_13 (by decide) ?_
    exact aw_iret rfl dX8_beside_21 (by first | contradiction | exact ⟨_, rfl, by unfold S8_beside; (try rw [nI_clamp (show p < 2 ^ 31 from by omega)]); (first | rw [pIf_t h5] | rw [pIf_f h5] | rw [pIf_f (Int32.not_lt.mpr h5)] | rw [pIf_f (Int32.not_le.mpr h5)] | rw [pIf_t (Int32.not_le.mp h5)] | rw [pIf_t (Int32.not_lt.mp h5)] | rw [pIf_f (Nat.not_lt.mpr h5)] | rw [pIf_f (Nat.not_le.mpr h5)] | rw [pIf_t (Nat.not_le.mp h5)] | rw [pIf_t (Nat.not_lt.mp h5)] | skip); (try rw [nI_clamp (show p < 2 ^ 31 from by omega)]); exact ⟨rfl, rfl⟩⟩)
noncomputable def qui8 (i : Nat) (M : Mm) : Mm := rI (rI (rI (rI M 113 (fillR (M.1 113) i 0)) 114 (fillR (M.1 114) i 0)) 115 (fillR (M.1 115) i 0)) 112 (fillR (M.1 112) i 0)
theorem qui8_o {i k : Nat} {M : Mm} (h : k ≠ 112 ∧ k ≠ 113 ∧ k ≠ 114 ∧ k ≠ 115) : (qui8 i M).1 k = M.1 k := by
  unfold qui8
  rw [rI_other h.1, rI_other h.2.2.2, rI_other h.2.2.1, rI_other h.2.1]
theorem qui8_0 (M : Mm) : qui8 0 M = M := by
  have e : ∀ f : Nat → Int32, fillR f 0 0 = f := fun f => by funext j; exact if_neg (by omega)
  unfold qui8
  rw [e, e, e, e, rI_id, rI_id, rI_id, rI_id]
theorem fill_s (f : Nat → Int32) (i : Nat) (v : Int32) : upd (fillR f i v) i v = fillR f (i + 1) v := by
  funext j
  show (if j = i then v else if j < i then v else f j) = if j < i + 1 then v else f j
  by_cases e : j = i
  · rw [if_pos e, if_pos (by omega)]
  · rw [if_neg e]
    by_cases h : j < i
    · rw [if_pos h, if_pos (by omega)]
    · rw [if_neg h, if_neg (by omega)]
theorem qui8_s (i : Nat) (M : Mm) : mI (mI (mI (mI (qui8 i M) 113 i 0) 114 i 0) 115 i 0) 112 i 0 = qui8 (i + 1) M := by
  refine Prod.ext ?_ rfl
  funext k j
  have e : ∀ (M : Mm) (k k' j : Nat) (v : Int32), (mI M k j v).1 k' = if k' = k then upd (M.1 k) j v else M.1 k' := fun _ _ _ _ _ => rfl
  have e2 : ∀ (M : Mm) (k k' : Nat) (f : Nat → Int32), (rI M k f).1 k' = if k' = k then f else M.1 k' := fun _ _ _ _ => rfl
  have h112 : (qui8 i M).1 112 = fillR (M.1 112) i 0 := rI_self _ _ _
  have h115 : (qui8 i M).1 115 = fillR (M.1 115) i 0 := (rI_other (by decide)).trans (rI_self _ _ _)
  have h114 : (qui8 i M).1 114 = fillR (M.1 114) i 0 := (rI_other (by decide)).trans ((rI_other (by decide)).trans (rI_self _ _ _))
  have h113 : (qui8 i M).1 113 = fillR (M.1 113) i 0 := (rI_other (by decide)).trans ((rI_other (by decide)).trans ((rI_other (by decide)).trans (rI_self _ _ _)))
  by_cases a : k = 112
  · subst a
    rw [mI_self, mI_other (by decide), mI_other (by decide), mI_other (by decide), h112, fill_s]
    exact (congrFun (rI_self _ _ _) _).symm
  by_cases b : k = 115
  · subst b
    rw [mI_other (by decide), mI_self, mI_other (by decide), mI_other (by decide), h115, fill_s]
    exact (congrFun ((rI_other (by decide)).trans (rI_self _ _ _)) _).symm
  by_cases c : k = 114
  · subst c
    rw [mI_other (by decide), mI_other (by decide), mI_self, mI_other (by decide), h114, fill_s]
    exact (congrFun ((rI_other (by decide)).trans ((rI_other (by decide)).trans (rI_self _ _ _))) _).symm
  by_cases d : k = 113
  · subst d
    rw [mI_other (by decide), mI_other (by decide), mI_other (by decide), mI_self, h113, fill_s]
    exact (congrFun ((rI_other (by decide)).trans ((rI_other (by decide)).trans ((rI_other (by decide)).trans (rI_self _ _ _)))) _).symm
  · rw [mI_other a, mI_other b, mI_other c, mI_other d, qui8_o ⟨a, d, c, b⟩, qui8_o ⟨a, d, c, b⟩]
theorem m_X8_quiets {l : Launch} {M : Mm} {n : Nat} (hn : M.1 105 0 = nI n) (hn30 : n ≤ 30) : AMet l 1 yX8_quiets cX8_quiets 2 none [.ref 105] M (QE none (mI (qui8 n M) 105 3 0)) := by
  refine AMet.of (by decide) (by simp [aargs, Value.category]) ?_
  show AW l 1 yX8_quiets cX8_quiets 2 none 0 [some (.ref 105), none] [] M _
  refine aw_iconst (v := 0) dX8_quiets_0 (by decide) ?_
  refine aw_istore_n (i := 1) dX8_quiets_1 rfl (by decide) ?_
  have lp2 : ∀ k9 i, i + k9 = n → AW l 1 yX8_quiets cX8_quiets 2 none 2 [some (.ref 105), some (.int (nI i))] [] (qui8 i M) (QE none (mI (qui8 n M) 105 3 0)) := by
    intro k9
    induction k9 using Nat.strongRecOn with
    | _ k9 ih =>
    intro i hk9
    refine aw_iload_n (i := 1) dX8_quiets_2 rfl rfl ?_
    refine aw_aload_n (i := 0) dX8_quiets_3 rfl rfl ?_
    refine aw_getN (n := n) gf_X8_132 sh_105 rfl ((congrFun (qui8_o (by decide)) _).trans hn) dX8_quiets_4 ?_
    refine aw_icmp_geN (tgt := 44) (by omega) (by omega) dX8_quiets_7 (by decide) (fun h7 => ?_) (fun h7 => ?_)
    ·
      refine aw_aload_n (i := 0) dX8_quiets_44 rfl rfl ?_
      refine aw_iconst (v := 0) dX8_quiets_45 (by decide) ?_
      refine aw_putI pf_X8_223 sh_105 rfl dX8_quiets_46 ?_
      exact aw_vret rfl dX8_quiets_49 ⟨rfl, by rw [show i = n by omega]⟩
    ·
      refine aw_aload_n (i := 0) dX8_quiets_10 rfl rfl ?_
      refine aw_getR gf_X8_41 sh_105 rfl dX8_quiets_11 ?_
      refine aw_iload_n (i := 1) dX8_quiets_14 rfl rfl ?_
      refine aw_iconst (v := 0) dX8_quiets_15 (by decide) ?_
      refine aw_iastN sh_113 (by omega) (by omega) dX8_quiets_16 ?_
      refine aw_aload_n (i := 0) dX8_quiets_17 rfl rfl ?_
      refine aw_getR gf_X8_44 sh_105 rfl dX8_quiets_18 ?_
      refine aw_iload_n (i := 1) dX8_quiets_21 rfl rfl ?_
      refine aw_iconst (v := 0) dX8_quiets_22 (by decide) ?_
      refine aw_iastN sh_114 (by omega) (by omega) dX8_quiets_23 ?_
      refine aw_aload_n (i := 0) dX8_quiets_24 rfl rfl ?_
      refine aw_getR gf_X8_47 sh_105 rfl dX8_quiets_25 ?_
      refine aw_iload_n (i := 1) dX8_quiets_28 rfl rfl ?_
      refine aw_iconst (v := 0) dX8_quiets_29 (by decide) ?_
      refine aw_iastN sh_115 (by omega) (by omega) dX8_quiets_30 ?_
      refine aw_aload_n (i := 0) dX8_quiets_31 rfl rfl ?_
      refine aw_getR gf_X8_38 sh_105 rfl dX8_quiets_32 ?_
      refine aw_iload_n (i := 1) dX8_quiets_35 rfl rfl ?_
      refine aw_iconst (v := 0) dX8_quiets_36 (by decide) ?_
      refine aw_iastN sh_112 (by omega) (by omega) dX8_quiets_37 ?_
      refine aw_iincN (i := 1) dX8_quiets_38 rfl (by decide) ?_
      refine aw_goto (tgt := 2) dX8_quiets_41 (by decide) ?_
      refine aw_mem (qui8_s i M) ?_
      refine aw_loc (la := [some (.ref 105), some (.int (nI (i + 1)))]) ⟨rfl, rfl, trivial⟩ ?_
      exact ih (k9 - 1) (by omega) (i + 1) (by omega)
  refine aw_mem (qui8_0 M).symm ?_
  refine aw_loc (la := [some (.ref 105), some (.int (nI 0))]) ⟨rfl, rfl, trivial⟩ ?_
  exact lp2 n 0 (by omega)
theorem m_X8_hush {l : Launch} {M : Mm} {n : Nat} (hn : M.1 105 0 = nI n) (hn30 : n ≤ 30) : AMet l 2 yX8_hush cX8_hush 3 (some FieldType.int) [.ref 105] M (QE (some (.int (nI (cntN n (fun i => ¬ M.1 113 i = 0))))) (mI (mI (mI (qui8 n M) 105 3 0) 105 7 0) 105 8 0)) := by
  refine AMet.of (by decide) (by simp [aargs, Value.category]) ?_
  show AW l 2 yX8_hush cX8_hush 3 (some FieldType.int) 0 [some (.ref 105), none, none] [] M _
  refine aw_iconst (v := 0) dX8_hush_0 (by decide) ?_
  refine aw_istore_n (i := 1) dX8_hush_1 rfl (by decide) ?_
  refine aw_iconst (v := 0) dX8_hush_2 (by decide) ?_
  refine aw_istore_n (i := 2) dX8_hush_3 rfl (by decide) ?_
  have lp4 : ∀ k9 i, i + k9 = n → AW l 2 yX8_hush cX8_hush 3 (some FieldType.int) 4 [some (.ref 105), some (.int (nI (cntN i (fun i => ¬ M.1 113 i = 0)))), some (.int (nI i))] [] M (QE (some (.int (nI (cntN n (fun i => ¬ M.1 113 i = 0))))) (mI (mI (mI (qui8 n M) 105 3 0) 105 7 0) 105 8 0)) := by
    intro k9
    induction k9 using Nat.strongRecOn with
    | _ k9 ih =>
    intro i hk9
    refine aw_iload_n (i := 2) dX8_hush_4 rfl rfl ?_
    refine aw_aload_n (i := 0) dX8_hush_5 rfl rfl ?_
    refine aw_getN (n := n) gf_X8_132 sh_105 rfl (by first | exact hn | simpa [mI] using hn) dX8_hush_6 ?_
    refine aw_icmp_geN (tgt := 30) (by omega) (by omega) dX8_hush_9 (by decide) (fun h9 => ?_) (fun h9 => ?_)
    ·
      refine aw_aload_n (i := 0) dX8_hush_30 rfl rfl ?_
      refine aw_cVv ck_X8_250 (m_X8_quiets hn hn30) sh_105 rfl (by decide) (by decide) rfl rfl (Nat.le_of_ble_eq_true rfl) dX8_hush_31 ?_
      refine aw_aload_n (i := 0) dX8_hush_34 rfl rfl ?_
      refine aw_iconst (v := 0) dX8_hush_35 (by decide) ?_
      refine aw_putI pf_X8_235 sh_105 rfl dX8_hush_36 ?_
      refine aw_aload_n (i := 0) dX8_hush_39 rfl rfl ?_
      refine aw_iconst (v := 0) dX8_hush_40 (by decide) ?_
      refine aw_putI pf_X8_241 sh_105 rfl dX8_hush_41 ?_
      refine aw_iload_n (i := 1) dX8_hush_44 rfl rfl ?_
      exact aw_iret rfl dX8_hush_45 ⟨by rw [show i = n by omega], rfl⟩
    ·
      refine aw_aload_n (i := 0) dX8_hush_12 rfl rfl ?_
      refine aw_getR gf_X8_41 sh_105 rfl dX8_hush_13 ?_
      refine aw_iload_n (i := 2) dX8_hush_16 rfl rfl ?_
      refine aw_ialdN sh_113 (by omega) (by omega) dX8_hush_17 ?_
      refine aw_if_eq (tgt := 24) dX8_hush_18 (by decide) (fun h18 => ?_) (fun h18 => ?_)
      ·
        refine aw_iincN (i := 2) dX8_hush_24 rfl (by decide) ?_
        refine aw_goto (tgt := 4) dX8_hush_27 (by decide) ?_
        refine aw_loc (la := [some (.ref 105), some (.int (nI (cntN (i + 1) (fun i => ¬ M.1 113 i = 0)))), some (.int (nI (i + 1)))]) ?_ (ih (k9 - 1) (by omega) (i + 1) (by omega))
        first | rw [← nI_cnt_t (P := fun i => ¬ M.1 113 i = 0) h18] | rw [← nI_cnt_f (P := fun i => ¬ M.1 113 i = 0) (fun q => q h18)]
        exact ⟨rfl, rfl, rfl, trivial⟩
      ·
        refine aw_iinc1 (i := 1) dX8_hush_21 rfl (by decide) ?_
        refine aw_iincN (i := 2) dX8_hush_24 rfl (by decide) ?_
        refine aw_goto (tgt := 4) dX8_hush_27 (by decide) ?_
        refine aw_loc (la := [some (.ref 105), some (.int (nI (cntN (i + 1) (fun i => ¬ M.1 113 i = 0)))), some (.int (nI (i + 1)))]) ?_ (ih (k9 - 1) (by omega) (i + 1) (by omega))
        first | rw [← nI_cnt_t (P := fun i => ¬ M.1 113 i = 0) h18] | rw [← nI_cnt_f (P := fun i => ¬ M.1 113 i = 0) (fun q => q h18)]
        exact ⟨rfl, rfl, rfl, trivial⟩
  refine aw_loc (la := [some (.ref 105), some (.int (nI (cntN 0 (fun i => ¬ M.1 113 i = 0)))), some (.int (nI 0))]) ⟨rfl, rfl, rfl, trivial⟩ ?_
  exact lp4 n 0 (by omega)
noncomputable def tkT (M : Mm) (m : Nat) (g : Prop) : Nat → Int32 := fun i => pIf (hitB (M.1 105 7) i ∧ (¬ g ∨ M.1 116 i = 1)) (loudI (farI (M.1 117 m) (M.1 108 i))) 0
theorem m_X8_takes {l : Launch} {M : Mm} {m : Nat} {g : Prop} {n : Nat} (hn : M.1 105 0 = nI n) (hn30 : n ≤ 30) (hst : ∀ q, q < n → ∃ s, s < 48 ∧ M.1 108 q = nI s) (hm8 : m < 8) (hms : ∃ s, s < 48 ∧ M.1 117 m = nI s) : AMet l 2 yX8_takes cX8_takes 5 (some FieldType.int) [.ref 105, .int (nI m), .int (b01 g)] M (QE (some (.int (sumI n (tkT M m g)))) M) := by
  refine AMet.of (by decide) (by simp [aargs, Value.category]) ?_
  show AW l 2 yX8_takes cX8_takes 5 (some FieldType.int) 0 [some (.ref 105), some (.int (nI m)), some (.int (b01 g)), none, none] [] M _
  refine aw_iconst (v := 0) dX8_takes_0 (by decide) ?_
  refine aw_istore_n (i := 3) dX8_takes_1 rfl (by decide) ?_
  refine aw_iconst (v := 0) dX8_takes_2 (by decide) ?_
  refine aw_istore (i := 4) dX8_takes_3 (by decide) ?_
  have lp5 : ∀ k9 i, i + k9 = n → AW l 2 yX8_takes cX8_takes 5 (some FieldType.int) 5 [some (.ref 105), some (.int (nI m)), some (.int (b01 g)), some (.int (sumI i (tkT M m g))), some (.int (nI i))] [] M (QE (some (.int (sumI n (tkT M m g)))) M) := by
    intro k9
    induction k9 using Nat.strongRecOn with
    | _ k9 ih =>
    intro i hk9
    refine aw_iload (i := 4) dX8_takes_5 rfl ?_
    refine aw_aload_n (i := 0) dX8_takes_7 rfl rfl ?_
    refine aw_getN (n := n) gf_X8_132 sh_105 rfl (by first | exact hn | simpa [mI] using hn) dX8_takes_8 ?_
    refine aw_icmp_geN (tgt := 73) (by omega) (by omega) dX8_takes_11 (by decide) (fun h11 => ?_) (fun h11 => ?_)
    ·
      refine aw_iload_n (i := 3) dX8_takes_73 rfl rfl ?_
      exact aw_iret rfl dX8_takes_74 ⟨by rw [show i = n by omega], rfl⟩
    ·
      refine aw_aload_n (i := 0) dX8_takes_14 rfl rfl ?_
      refine aw_getI gf_X8_235 sh_105 rfl dX8_takes_15 ?_
      refine aw_iload (i := 4) dX8_takes_18 rfl ?_
      refine aw_ishr dX8_takes_20 ?_
      refine aw_iconst (v := 1) dX8_takes_21 (by decide) ?_
      refine aw_iand dX8_takes_22 ?_
      refine aw_iconst (v := 1) dX8_takes_23 (by decide) ?_
      refine aw_icmp_ne (tgt := 67) dX8_takes_24 (by decide) (fun h24 => ?_) (fun h24 => ?_)
      ·
        refine aw_iincN (i := 4) dX8_takes_67 rfl (by decide) ?_
        refine aw_goto (tgt := 5) dX8_takes_70 (by decide) ?_
        refine aw_loc (la := [some (.ref 105), some (.int (nI m)), some (.int (b01 g)), some (.int (sumI (i + 1) (tkT M m g))), some (.int (nI (i + 1)))]) ⟨rfl, rfl, rfl, congrArg (fun z => some (Value.int z)) (by first | exact sum_0 (pIf_f (fun q => h24 q.1))), rfl, trivial⟩ ?_
        exact ih (k9 - 1) (by omega) (i + 1) (by omega)
      ·
        refine aw_iload_n (i := 2) dX8_takes_27 rfl rfl ?_
        refine aw_ifeq_b (tgt := 42) dX8_takes_28 (by decide) (fun h28 => ?_) (fun h28 => ?_)
        ·
          refine aw_iload_n (i := 3) dX8_takes_42 rfl rfl ?_
          refine aw_bipush (v := 12) dX8_takes_43 (by decide) ?_
          refine aw_iconst (v := 1) dX8_takes_45 (by decide) ?_
          refine aw_aload_n (i := 0) dX8_takes_46 rfl rfl ?_
          refine aw_aload_n (i := 0) dX8_takes_47 rfl rfl ?_
          refine aw_getR gf_X8_53 sh_105 rfl dX8_takes_48 ?_
          refine aw_iload_n (i := 1) dX8_takes_51 rfl rfl ?_
          refine aw_ialdN sh_117 (by omega) (by omega) dX8_takes_52 ?_
          refine aw_aload_n (i := 0) dX8_takes_53 rfl rfl ?_
          refine aw_getR gf_X8_26 sh_105 rfl dX8_takes_54 ?_
          refine aw_iload (i := 4) dX8_takes_57 rfl ?_
          refine aw_ialdN sh_108 (by omega) (by omega) dX8_takes_59 ?_
          refine aw_cVi ck_X8_213 m_X8_far sh_105 rfl (by decide) (by decide) rfl rfl (Nat.le_of_ble_eq_true rfl) dX8_takes_60 ?_
          refine aw_top (far8_eq _ _) ?_
          refine aw_iadd dX8_takes_63 ?_
          refine aw_idiv dX8_takes_64 (stO hms (hst i (by omega))).1 ?_
          refine aw_iadd dX8_takes_65 ?_
          refine aw_istore_n (i := 3) dX8_takes_66 rfl (by decide) ?_
          refine aw_iincN (i := 4) dX8_takes_67 rfl (by decide) ?_
          refine aw_goto (tgt := 5) dX8_takes_70 (by decide) ?_
          refine aw_loc (la := [some (.ref 105), some (.int (nI m)), some (.int (b01 g)), some (.int (sumI (i + 1) (tkT M m g))), some (.int (nI (i + 1)))]) ⟨rfl, rfl, rfl, congrArg (fun z => some (Value.int z)) (by first | exact sum_v (((stO hms (hst i (by omega))).2).trans (pIf_t ⟨h24, Or.inl h28⟩).symm) | exact sum_0 (pIf_f (fun q => h24 q.1))), rfl, trivial⟩ ?_
          exact ih (k9 - 1) (by omega) (i + 1) (by omega)
        ·
          refine aw_aload_n (i := 0) dX8_takes_31 rfl rfl ?_
          refine aw_getR gf_X8_50 sh_105 rfl dX8_takes_32 ?_
          refine aw_iload (i := 4) dX8_takes_35 rfl ?_
          refine aw_ialdN sh_116 (by omega) (by omega) dX8_takes_37 ?_
          refine aw_iconst (v := 1) dX8_takes_38 (by decide) ?_
          refine aw_icmp_ne (tgt := 67) dX8_takes_39 (by decide) (fun h39 => ?_) (fun h39 => ?_)
          ·
            refine aw_iincN (i := 4) dX8_takes_67 rfl (by decide) ?_
            refine aw_goto (tgt := 5) dX8_takes_70 (by decide) ?_
            refine aw_loc (la := [some (.ref 105), some (.int (nI m)), some (.int (b01 g)), some (.int (sumI (i + 1) (tkT M m g))), some (.int (nI (i + 1)))]) ⟨rfl, rfl, rfl, congrArg (fun z => some (Value.int z)) (by first | exact sum_v (((stO hms (hst i (by omega))).2).trans (pIf_t ⟨h24, Or.inr h39⟩).symm) | exact sum_v (((stO hms (hst i (by omega))).2).trans (pIf_t ⟨h24, Or.inl h28⟩).symm) | exact sum_0 (pIf_f (fun q => h24 q.1)) | exact sum_0 (pIf_f (fun q => q.2.elim (fun z => z h28) h39))), rfl, trivial⟩ ?_
            exact ih (k9 - 1) (by omega) (i + 1) (by omega)
          ·
            refine aw_iload_n (i := 3) dX8_takes_42 rfl rfl ?_
            refine aw_bipush (v := 12) dX8_takes_43 (by decide) ?_
            refine aw_iconst (v := 1) dX8_takes_45 (by decide) ?_
            refine aw_aload_n (i := 0) dX8_takes_46 rfl rfl ?_
            refine aw_aload_n (i := 0) dX8_takes_47 rfl rfl ?_
            refine aw_getR gf_X8_53 sh_105 rfl dX8_takes_48 ?_
            refine aw_iload_n (i := 1) dX8_takes_51 rfl rfl ?_
            refine aw_ialdN sh_117 (by omega) (by omega) dX8_takes_52 ?_
            refine aw_aload_n (i := 0) dX8_takes_53 rfl rfl ?_
            refine aw_getR gf_X8_26 sh_105 rfl dX8_takes_54 ?_
            refine aw_iload (i := 4) dX8_takes_57 rfl ?_
            refine aw_ialdN sh_108 (by omega) (by omega) dX8_takes_59 ?_
            refine aw_cVi ck_X8_213 m_X8_far sh_105 rfl (by decide) (by decide) rfl rfl (Nat.le_of_ble_eq_true rfl) dX8_takes_60 ?_
            refine aw_top (far8_eq _ _) ?_
            refine aw_iadd dX8_takes_63 ?_
            refine aw_idiv dX8_takes_64 (stO hms (hst i (by omega))).1 ?_
            refine aw_iadd dX8_takes_65 ?_
            refine aw_istore_n (i := 3) dX8_takes_66 rfl (by decide) ?_
            refine aw_iincN (i := 4) dX8_takes_67 rfl (by decide) ?_
            refine aw_goto (tgt := 5) dX8_takes_70 (by decide) ?_
            refine aw_loc (la := [some (.ref 105), some (.int (nI m)), some (.int (b01 g)), some (.int (sumI (i + 1) (tkT M m g))), some (.int (nI (i + 1)))]) ⟨rfl, rfl, rfl, congrArg (fun z => some (Value.int z)) (by first | exact sum_v (((stO hms (hst i (by omega))).2).trans (pIf_t ⟨h24, Or.inr h39⟩).symm) | exact sum_v (((stO hms (hst i (by omega))).2).trans (pIf_t ⟨h24, Or.inl h28⟩).symm) | exact sum_0 (pIf_f (fun q => h24 q.1)) | exact sum_0 (pIf_f (fun q => q.2.elim (fun z => z h28) h39))), rfl, trivial⟩ ?_
            exact ih (k9 - 1) (by omega) (i + 1) (by omega)
  refine aw_loc (la := [some (.ref 105), some (.int (nI m)), some (.int (b01 g)), some (.int (sumI 0 (tkT M m g))), some (.int (nI 0))]) ⟨rfl, rfl, rfl, rfl, rfl, trivial⟩ ?_
  exact lp5 n 0 (by omega)
