theorem mI_mI (M : Mm) (k j : Nat) (v w : Int32) : mI (mI M k j v) k j w = mI M k j w := by rw [mI_rI, mI_self, upd_upd, mI_rI M k j v, rI_rI]; rfl
theorem min200 {m : Nat} (h : m ≤ 200) : (if (200 : Int32) < nI m then (200 : Int32) else nI m) = nI m := if_neg (fun q => by have := (nI_ltI (a := 200) (b := m) (by omega) (by omega)).mp q; omega)
theorem max0 {m : Nat} (h : m ≤ 200) : (if (0 : Int32) < nI m then nI m else (0 : Int32)) = nI m := by
  by_cases e : m = 0
  · subst e; decide
  · rw [if_pos (show (0 : Int32) < nI m from (nI_ltI (a := 0) (b := m) (by omega) (by omega)).mpr (by omega))]
noncomputable def whileN (P : Nat → Prop) : Nat → Nat → Nat
  | 0, a => a
  | k + 1, a => pIf (P a) (whileN P k (a + 1)) a
theorem whileN_t {P : Nat → Prop} {k a : Nat} (h : P a) (hk : 0 < k) : whileN P (k - 1) (a + 1) = whileN P k a := by
  match k, hk with
  | k + 1, _ => exact (pIf_t h).symm
theorem whileN_f {P : Nat → Prop} {k a : Nat} (h : ¬ P a) : whileN P k a = a := by
  match k with
  | 0 => rfl
  | k + 1 => exact pIf_f h
theorem whileN_le {P : Nat → Prop} : ∀ (k a : Nat), whileN P k a ≤ a + k
  | 0, a => Nat.le_refl _
  | k + 1, a => by
    by_cases h : P a
    · rw [show whileN P (k + 1) a = whileN P k (a + 1) from pIf_t h]
      have := whileN_le (P := P) k (a + 1)
      omega
    · rw [whileN_f h]; omega
noncomputable def len1 (t : Nat → Int32) (m : Nat) : Nat := whileN (fun a => a < m ∧ t a = 0) m 0
noncomputable def len2 (t : Nat → Int32) (m : Nat) : Nat := whileN (fun a => a < m ∧ ¬ t a ≤ 0) (m - len1 t m) (len1 t m)
theorem len1_le (t : Nat → Int32) (m : Nat) : len1 t m ≤ m := by have := whileN_le (P := fun a => a < m ∧ t a = 0) m 0; unfold len1; omega
noncomputable def lenI (t : Nat → Int32) (m : Nat) : Int32 := nI (len2 t m) - nI (len1 t m)
theorem m_X2_startFrom {l : Launch} {M : Mm} {v c2 : Nat} (hv : isE v) (hc2 : isC c2) (ha9 : apartC (v + 2) c2) : AMet l 2 yX2_startFrom cX2_startFrom 2 none [.ref v, .ref c2] M (QN (becM (v + 2) c2 M)) := by
  refine AMet.of (by decide) (by simp [aargs, Value.category]) ?_
  show AW l 2 yX2_startFrom cX2_startFrom 2 none 0 [some (.ref v), some (.ref c2)] [] M _
  refine aw_aload_n (i := 0) dX2_startFrom_0 rfl rfl ?_
  refine aw_getR gf_X2_12 (shE hv) rfl dX2_startFrom_1 ?_
  refine aw_aload_n (i := 1) dX2_startFrom_4 rfl rfl ?_
  refine aw_cVQ ck_X2_29 (m_X1_become hv.c hc2 ha9) (shC hv.c) rfl (by decide) (by decide) rfl rfl (Nat.le_of_ble_eq_true rfl) dX2_startFrom_5 (fun r M9 hq9 => ?_)
  obtain ⟨rfl, hs9⟩ := hq9
  exact aw_vret rfl dX2_startFrom_8 ⟨rfl, hs9⟩
theorem m_X2_countJoined {l : Launch} {M : Mm} {v : Nat} (hv : isE v) : AMet l 2 yX2_countJoined cX2_countJoined 1 (some FieldType.int) [.ref v] M (QE (some (.int (bcI (M.1 v 3)))) M) := by
  refine AMet.of (by decide) (by simp [aargs, Value.category]) ?_
  show AW l 2 yX2_countJoined cX2_countJoined 1 (some FieldType.int) 0 [some (.ref v)] [] M _
  refine aw_aload_n (i := 0) dX2_countJoined_0 rfl rfl ?_
  refine aw_getI gf_X2_26 (shE hv) rfl dX2_countJoined_1 ?_
  refine aw_cSi ck_X2_58 m_J6_bitCount_0f7a4 (by decide) (by decide) rfl rfl (Nat.le_of_ble_eq_true rfl) dX2_countJoined_4 ?_
  exact aw_iret rfl dX2_countJoined_7 ⟨rfl, rfl⟩
theorem m_X2_lengthOfClapping {l : Launch} {M : Mm} {v m : Nat} (hv : isE v) (hm : m ≤ 200) (hs : M.1 v 2 = nI m) : AMet l 1 yX2_lengthOfClapping cX2_lengthOfClapping 3 (some FieldType.int) [.ref v] M (QE (some (.int (lenI (M.1 (v + 1)) m))) M) := by
  refine AMet.of (by decide) (by simp [aargs, Value.category]) ?_
  show AW l 1 yX2_lengthOfClapping cX2_lengthOfClapping 3 (some FieldType.int) 0 [some (.ref v), none, none] [] M _
  refine aw_iconst (v := 0) dX2_lengthOfClapping_0 (by decide) ?_
  refine aw_istore_n (i := 1) dX2_lengthOfClapping_1 rfl (by decide) ?_
  have lp2 : ∀ k i, i + k = m → AW l 1 yX2_lengthOfClapping cX2_lengthOfClapping 3 (some FieldType.int) 25 [some (.ref v), some (.int (nI (whileN (fun a => a < m ∧ M.1 (v + 1) a = 0) k i))), none] [] M (QE (some (.int (lenI (M.1 (v + 1)) m))) M) → AW l 1 yX2_lengthOfClapping cX2_lengthOfClapping 3 (some FieldType.int) 2 [some (.ref v), some (.int (nI i)), none] [] M (QE (some (.int (lenI (M.1 (v + 1)) m))) M) := by
    intro k
    induction k using Nat.strongRecOn with
    | _ k ih =>
    intro i hk hK
    refine aw_iload_n (i := 1) dX2_lengthOfClapping_2 rfl rfl ?_
    refine aw_aload_n (i := 0) dX2_lengthOfClapping_3 rfl rfl ?_
    refine aw_getN (n := m) gf_X2_22 (shE hv) rfl hs dX2_lengthOfClapping_4 ?_
    refine aw_icmp_geN (tgt := 25) (by omega) (by omega) dX2_lengthOfClapping_7 (by decide) (fun h7 => ?_) (fun h7 => ?_)
    ·
      rw [whileN_f (P := (fun a => a < m ∧ M.1 (v + 1) a = 0)) (fun q => by first | exact absurd q.1 (by omega) | exact absurd q.2 (by assumption))] at hK
      exact hK
    ·
      refine aw_aload_n (i := 0) dX2_lengthOfClapping_10 rfl rfl ?_
      refine aw_getR gf_X2_18 (shE hv) rfl dX2_lengthOfClapping_11 ?_
      refine aw_iload_n (i := 1) dX2_lengthOfClapping_14 rfl rfl ?_
      refine aw_ialdN (shE_1 hv) (by omega) (by omega) dX2_lengthOfClapping_15 ?_
      refine aw_if_ne (tgt := 25) dX2_lengthOfClapping_16 (by decide) (fun h16 => ?_) (fun h16 => ?_)
      ·
        rw [whileN_f (P := (fun a => a < m ∧ M.1 (v + 1) a = 0)) (fun q => by first | exact absurd q.1 (by omega) | exact absurd q.2 (by assumption))] at hK
        exact hK
      ·
        refine aw_iincN (i := 1) dX2_lengthOfClapping_19 rfl (by decide) ?_
        refine aw_goto (tgt := 2) dX2_lengthOfClapping_22 (by decide) ?_
        refine ih (k - 1) (by omega) (i + 1) (by omega) ?_
        rw [whileN_t (P := (fun a => a < m ∧ M.1 (v + 1) a = 0)) ⟨by assumption, by assumption⟩ (by omega)]
        exact hK
  refine aw_loc (la := [some (.ref v), some (.int (nI 0)), none]) ⟨rfl, rfl, trivial⟩ ?_
  refine lp2 m 0 (by omega) ?_
  show AW l 1 yX2_lengthOfClapping cX2_lengthOfClapping 3 (some FieldType.int) 25 [some (.ref v), some (.int (nI (len1 (M.1 (v + 1)) m))), none] [] M (QE (some (.int (lenI (M.1 (v + 1)) m))) M)
  have hl1 := len1_le (M.1 (v + 1)) m
  generalize hf : (len1 (M.1 (v + 1)) m) = f at hl1 ⊢
  refine aw_iload_n (i := 1) dX2_lengthOfClapping_25 rfl rfl ?_
  refine aw_istore_n (i := 2) dX2_lengthOfClapping_26 rfl (by decide) ?_
  refine aw_loc (la := [some (.ref v), some (.int (nI f)), some (.int (nI f))]) ⟨rfl, rfl, rfl, trivial⟩ ?_
  have lp27 : ∀ k i, i + k = m → AW l 1 yX2_lengthOfClapping cX2_lengthOfClapping 3 (some FieldType.int) 50 [some (.ref v), some (.int (nI f)), some (.int (nI (whileN (fun a => a < m ∧ ¬ M.1 (v + 1) a ≤ 0) k i)))] [] M (QE (some (.int (lenI (M.1 (v + 1)) m))) M) → AW l 1 yX2_lengthOfClapping cX2_lengthOfClapping 3 (some FieldType.int) 27 [some (.ref v), some (.int (nI f)), some (.int (nI i))] [] M (QE (some (.int (lenI (M.1 (v + 1)) m))) M) := by
    intro k
    induction k using Nat.strongRecOn with
    | _ k ih =>
    intro i hk hK
    refine aw_iload_n (i := 2) dX2_lengthOfClapping_27 rfl rfl ?_
    refine aw_aload_n (i := 0) dX2_lengthOfClapping_28 rfl rfl ?_
    refine aw_getN (n := m) gf_X2_22 (shE hv) rfl hs dX2_lengthOfClapping_29 ?_
    refine aw_icmp_geN (tgt := 50) (by omega) (by omega) dX2_lengthOfClapping_32 (by decide) (fun h32 => ?_) (fun h32 => ?_)
    ·
      rw [whileN_f (P := (fun a => a < m ∧ ¬ M.1 (v + 1) a ≤ 0)) (fun q => by first | exact absurd q.1 (by omega) | exact absurd (by assumption) q.2)] at hK
      exact hK
    ·
      refine aw_aload_n (i := 0) dX2_lengthOfClapping_35 rfl rfl ?_
      refine aw_getR gf_X2_18 (shE hv) rfl dX2_lengthOfClapping_36 ?_
      refine aw_iload_n (i := 2) dX2_lengthOfClapping_39 rfl rfl ?_
      refine aw_ialdN (shE_1 hv) (by omega) (by omega) dX2_lengthOfClapping_40 ?_
      refine aw_if_le (tgt := 50) dX2_lengthOfClapping_41 (by decide) (fun h41 => ?_) (fun h41 => ?_)
      ·
        rw [whileN_f (P := (fun a => a < m ∧ ¬ M.1 (v + 1) a ≤ 0)) (fun q => by first | exact absurd q.1 (by omega) | exact absurd (by assumption) q.2)] at hK
        exact hK
      ·
        refine aw_iincN (i := 2) dX2_lengthOfClapping_44 rfl (by decide) ?_
        refine aw_goto (tgt := 27) dX2_lengthOfClapping_47 (by decide) ?_
        refine ih (k - 1) (by omega) (i + 1) (by omega) ?_
        rw [whileN_t (P := (fun a => a < m ∧ ¬ M.1 (v + 1) a ≤ 0)) ⟨by assumption, by assumption⟩ (by omega)]
        exact hK
  refine lp27 (m - f) f (by omega) ?_
  refine aw_iload_n (i := 2) dX2_lengthOfClapping_50 rfl rfl ?_
  refine aw_iload_n (i := 1) dX2_lengthOfClapping_51 rfl rfl ?_
  refine aw_isub dX2_lengthOfClapping_52 ?_
  exact aw_iret rfl dX2_lengthOfClapping_53 ⟨by unfold lenI len2; rw [hf], rfl⟩
/-- one tick of an evening, its i-th -/
def evS (v n L i : Nat) (X Y : Mm) : Prop := ∃ X1, turnQ (v + 2) n L X X1 ∧ Y = mI (mI (mI X1 (v + 2) 12 (X1.1 (v + 2) 12 + 1)) v 3 ((mI X1 (v + 2) 12 (X1.1 (v + 2) 12 + 1)).1 v 3 ||| bitsI n (fun j => nmF (tnC (v + 2) n L X) (X.1 (v + 2 + 8)) j = 1))) (v + 1) i (bcI (bitsI n (fun j => nmF (tnC (v + 2) n L X) (X.1 (v + 2 + 8)) j = 1)))
def evR (v n L : Nat) : Nat → Mm → Mm → Prop
  | 0, M, M9 => M9 = M
  | k + 1, M, M9 => ∃ X, evR v n L k M X ∧ evS v n L k X M9
def evI (v n m : Nat) (M0 M : Mm) : Prop := Same (fun k => k = v ∨ k = v + 1 ∨ k = v + 2 ∨ k = v + 10 ∨ k = v + 11 ∨ (v + 14 ≤ k ∧ k ≤ v + 16)) M0 M ∧ M.1 (v + 2) 11 = nI n ∧ M.1 v 2 = nI m ∧ heardOK (v + 2) n M
theorem evS_I {v n m L i : Nat} {M0 X Y : Mm} (h : evI v n m M0 X) (hs : evS v n L i X Y) : evI v n m M0 Y := by
  obtain ⟨hS, hc, hz, hh⟩ := h
  obtain ⟨X1, ⟨tS, tj, -, -, -, th⟩, rfl⟩ := hs
  refine ⟨⟨?_, fun k hk => ?_⟩, ?_, ?_, fun j hj => ?_⟩
  · rw [mI_2, mI_2, mI_2, tS.1]; exact hS.1
  · rw [mI_other (by omega), mI_other (by omega), mI_other (by omega), tS.2 k (by omega)]
    exact hS.2 k hk
  · rw [mI_other (by omega), mI_other (by omega), mI_self, upd_other (by decide), tj 11 (by decide)]
    exact hc
  · rw [mI_other (by omega), mI_self, upd_other (by decide), mI_other (by omega), tS.2 v (by omega)]
    exact hz
  · rw [mI_other (by omega), mI_other (by omega), mI_other (by omega), mI_other (by omega), mI_other (by omega), mI_other (by omega), mI_other (by omega), mI_other (by omega), mI_other (by omega), mI_other (by omega), mI_other (by omega), mI_other (by omega)]
    exact th j hj
/-- an evening, gone through -/
noncomputable def ev0 (v n m : Nat) (M : Mm) : Mm := mI (mI M v 2 (nI m)) v 3 (bitsI n (fun j => M.1 (v + 10) j = 1))
def evQ (v n L m : Nat) (M M9 : Mm) : Prop := ∃ M1, lsM (v + 2) n (ev0 v n m M) M1 ∧ evR v n L m M1 M9
theorem m_X2_goThrough {l : Launch} {M : Mm} {v L m : Nat} (hv : isE v) (hL : shp[L]? = some (.inr (0, 7, 0))) (hLo : ¬ (v ≤ L ∧ L ≤ v + 16)) {n : Nat} (hn : M.1 (v + 2) 11 = nI n) (hn30 : n ≤ 30) (hm : m ≤ 200) : AMet l 5 yX2_goThrough cX2_goThrough 5 none [.ref v, .ref L, .int (nI m)] M (QN (evQ v n L m M)) := by
  refine AMet.of (by decide) (by simp [aargs, Value.category]) ?_
  show AW l 5 yX2_goThrough cX2_goThrough 5 none 0 [some (.ref v), some (.ref L), some (.int (nI m)), none, none] [] M _
  refine aw_aload_n (i := 0) dX2_goThrough_0 rfl rfl ?_
  refine aw_iconst (v := 0) dX2_goThrough_1 (by decide) ?_
  refine aw_iload_n (i := 2) dX2_goThrough_2 rfl rfl ?_
  refine aw_sipush (v := 200) dX2_goThrough_3 (by decide) ?_
  refine aw_mmin (List.mem_append_right _ (List.mem_of_getElem? (i := 727) (by decide +kernel))) (List.mem_append_right _ (List.mem_of_getElem? (i := 477) (by decide +kernel))) (List.mem_append_right _ (List.mem_of_getElem? (i := 12) (by decide +kernel))) (List.mem_append_right _ (List.mem_of_getElem? (i := 478) (by decide +kernel))) (by decide) (Nat.le_of_ble_eq_true rfl) dX2_goThrough_6 ?_
  refine aw_top (min200 hm) ?_
  refine aw_mmax (List.mem_append_right _ (List.mem_of_getElem? (i := 728) (by decide +kernel))) (List.mem_append_right _ (List.mem_of_getElem? (i := 554) (by decide +kernel))) (List.mem_append_right _ (List.mem_of_getElem? (i := 12) (by decide +kernel))) (List.mem_append_right _ (List.mem_of_getElem? (i := 555) (by decide +kernel))) (by decide) (Nat.le_of_ble_eq_true rfl) dX2_goThrough_9 ?_
  refine aw_top (max0 hm) ?_
  refine aw_putI pf_X2_22 (shE hv) rfl dX2_goThrough_12 ?_
  refine aw_aload_n (i := 0) dX2_goThrough_15 rfl rfl ?_
  refine aw_iconst (v := 0) dX2_goThrough_16 (by decide) ?_
  refine aw_putI pf_X2_26 (shE hv) rfl dX2_goThrough_17 ?_
  refine aw_iconst (v := 0) dX2_goThrough_20 (by decide) ?_
  refine aw_istore_n (i := 3) dX2_goThrough_21 rfl (by decide) ?_
  have lp22 : ∀ k i, i + k = n → AW l 5 yX2_goThrough cX2_goThrough 5 none 22 [some (.ref v), some (.ref L), some (.int (nI m)), some (.int (nI i)), none] [] (mI (mI M v 2 (nI m)) v 3 (bitsI i (fun j => M.1 (v + 10) j = 1))) (QN (evQ v n L m M)) := by
    intro k
    induction k using Nat.strongRecOn with
    | _ k ih =>
    intro i hk
    refine aw_iload_n (i := 3) dX2_goThrough_22 rfl rfl ?_
    refine aw_aload_n (i := 0) dX2_goThrough_23 rfl rfl ?_
    refine aw_getR gf_X2_12 (shE hv) rfl dX2_goThrough_24 ?_
    refine aw_getN (n := n) gf_X2_42 (shC hv.c) rfl (by rw [mI_other (by omega), mI_other (by omega)]; exact hn) dX2_goThrough_27 ?_
    refine aw_icmp_geN (tgt := 64) (by omega) (by omega) dX2_goThrough_30 (by decide) (fun h30 => ?_) (fun h30 => ?_)
    ·
      rw [show i = n by omega]
      refine aw_mem (M' := ev0 v n m M) rfl ?_
      refine aw_aload_n (i := 0) dX2_goThrough_64 rfl rfl ?_
      refine aw_getR gf_X2_12 (shE hv) rfl dX2_goThrough_65 ?_
      refine aw_cVQ ck_X2_48 (m_X1_listen hv.c (by unfold ev0; rw [mI_other (by omega), mI_other (by omega)]; exact hn) hn30) (shC hv.c) rfl (by decide) (by decide) rfl rfl (Nat.le_of_ble_eq_true rfl) dX2_goThrough_68 (fun r M9 hq9 => ?_)
      obtain ⟨rfl, hs9⟩ := hq9
      generalize M9 = M1 at hs9 ⊢
      refine aw_iconst (v := 0) dX2_goThrough_71 (by decide) ?_
      refine aw_istore_n (i := 3) dX2_goThrough_72 rfl (by decide) ?_
      have lp73 : ∀ k9 i, i + k9 = m → ∀ M' : Mm, evI v n m M1 M' → evR v n L i M1 M' → AW l 5 yX2_goThrough cX2_goThrough 5 none 73 [some (.ref v), some (.ref L), some (.int (nI m)), some (.int (nI i)), none] [] M' (QN (evQ v n L m M)) := by
        intro k9
        induction k9 using Nat.strongRecOn with
        | _ k9 ih9 =>
        intro i hk9 M' hI hR
        refine aw_iload_n (i := 3) dX2_goThrough_73 rfl rfl ?_
        refine aw_aload_n (i := 0) dX2_goThrough_74 rfl rfl ?_
        refine aw_getN (n := m) gf_X2_22 (shE hv) rfl hI.2.2.1 dX2_goThrough_75 ?_
        refine aw_icmp_geN (tgt := 132) (by omega) (by omega) dX2_goThrough_78 (by decide) (fun h78 => ?_) (fun h78 => ?_)
        ·
          exact aw_vret rfl dX2_goThrough_132 ⟨rfl, M1, hs9, by rw [show m = i by omega]; exact hR⟩
        ·
          refine aw_aload_n (i := 0) dX2_goThrough_81 rfl rfl ?_
          refine aw_getR gf_X2_12 (shE hv) rfl dX2_goThrough_82 ?_
          refine aw_aload_n (i := 1) dX2_goThrough_85 rfl rfl ?_
          refine aw_cVQ ck_X2_51 (m_X1_turn hv.c hL (fun q => hLo (by omega)) hI.2.1 hn30 hI.2.2.2) (shC hv.c) rfl (by decide) (by decide) rfl rfl (Nat.le_of_ble_eq_true rfl) dX2_goThrough_86 (fun r M9 hq9 => ?_)
          obtain ⟨rfl, hs9⟩ := hq9
          refine aw_pc (pc' := 89) rfl ?_
          refine aw_istore (i := 4) dX2_goThrough_89 (by decide) ?_
          refine aw_aload_n (i := 0) dX2_goThrough_91 rfl rfl ?_
          refine aw_getR gf_X2_12 (shE hv) rfl dX2_goThrough_92 ?_
          refine aw_dup dX2_goThrough_95 rfl ?_
          refine aw_getI gf_X2_55 (shC hv.c) rfl dX2_goThrough_96 ?_
          refine aw_iconst (v := 1) dX2_goThrough_99 (by decide) ?_
          refine aw_iadd dX2_goThrough_100 ?_
          refine aw_putI pf_X2_55 (shC hv.c) rfl dX2_goThrough_101 ?_
          refine aw_aload_n (i := 0) dX2_goThrough_104 rfl rfl ?_
          refine aw_dup dX2_goThrough_105 rfl ?_
          refine aw_getI gf_X2_26 (shE hv) rfl dX2_goThrough_106 ?_
          refine aw_iload (i := 4) dX2_goThrough_109 rfl ?_
          refine aw_ior dX2_goThrough_111 ?_
          refine aw_putI pf_X2_26 (shE hv) rfl dX2_goThrough_112 ?_
          refine aw_aload_n (i := 0) dX2_goThrough_115 rfl rfl ?_
          refine aw_getR gf_X2_18 (shE hv) rfl dX2_goThrough_116 ?_
          refine aw_iload_n (i := 3) dX2_goThrough_119 rfl rfl ?_
          refine aw_iload (i := 4) dX2_goThrough_120 rfl ?_
          refine aw_cSi ck_X2_58 m_J6_bitCount_0f7a4 (by decide) (by decide) rfl rfl (Nat.le_of_ble_eq_true rfl) dX2_goThrough_122 ?_
          refine aw_iastN (shE_1 hv) (by omega) (by omega) dX2_goThrough_125 ?_
          refine aw_iincN (i := 3) dX2_goThrough_126 rfl (by decide) ?_
          refine aw_goto (tgt := 73) dX2_goThrough_129 (by decide) ?_
          refine aw_loc (la := [some (.ref v), some (.ref L), some (.int (nI m)), some (.int (nI (i + 1))), none]) ⟨rfl, rfl, rfl, rfl, trivial⟩ ?_
          have ht : evS v n L i M' _ := ⟨M9, hs9, rfl⟩
          exact ih9 (k9 - 1) (by omega) (i + 1) (by omega) _ (evS_I hI ht) ⟨M', hR, ht⟩
      refine aw_loc (la := [some (.ref v), some (.ref L), some (.int (nI m)), some (.int (nI 0)), none]) ⟨rfl, rfl, rfl, rfl, trivial⟩ ?_
      exact lp73 m 0 (by omega) M1 ⟨⟨rfl, fun _ _ => rfl⟩, by rw [hs9.1.2 _ (by omega)]; unfold ev0; rw [mI_other (by omega), mI_other (by omega)]; exact hn, by rw [hs9.1.2 _ (by omega)]; unfold ev0; rw [mI_self, upd_other (by decide), mI_self, upd_self], hs9.2⟩ rfl
    ·
      refine aw_aload_n (i := 0) dX2_goThrough_33 rfl rfl ?_
      refine aw_getR gf_X2_12 (shE hv) rfl dX2_goThrough_34 ?_
      refine aw_getR gf_X2_45 (shC hv.c) rfl dX2_goThrough_37 ?_
      refine aw_iload_n (i := 3) dX2_goThrough_40 rfl rfl ?_
      refine aw_ialdX (shC_8 hv.c) (by omega) (by decide) (congrFun ((mI_other (by omega)).trans (mI_other (by omega))) _) dX2_goThrough_41 ?_
      refine aw_iconst (v := 1) dX2_goThrough_42 (by decide) ?_
      refine aw_icmp_ne (tgt := 58) dX2_goThrough_43 (by decide) (fun h43 => ?_) (fun h43 => ?_)
      ·
        refine aw_iincN (i := 3) dX2_goThrough_58 rfl (by decide) ?_
        refine aw_goto (tgt := 22) dX2_goThrough_61 (by decide) ?_
        refine aw_mem (M' := (mI (mI M v 2 (nI m)) v 3 (bitsI (i + 1) (fun j => M.1 (v + 10) j = 1)))) (by rw [bitsI_f (P := fun j => M.1 (v + 10) j = 1) (by assumption)]) ?_
        refine aw_loc (la := [some (.ref v), some (.ref L), some (.int (nI m)), some (.int (nI (i + 1))), none]) ⟨rfl, rfl, rfl, rfl, trivial⟩ ?_
        exact ih (k - 1) (by omega) (i + 1) (by omega)
      ·
        refine aw_aload_n (i := 0) dX2_goThrough_46 rfl rfl ?_
        refine aw_dup dX2_goThrough_47 rfl ?_
        refine aw_getX gf_X2_26 (shE hv) rfl (by rw [mI_self, upd_self]) dX2_goThrough_48 ?_
        refine aw_iconst (v := 1) dX2_goThrough_51 (by decide) ?_
        refine aw_iload_n (i := 3) dX2_goThrough_52 rfl rfl ?_
        refine aw_ishl dX2_goThrough_53 ?_
        refine aw_ior dX2_goThrough_54 ?_
        refine aw_putI pf_X2_26 (shE hv) rfl dX2_goThrough_55 ?_
        refine aw_iincN (i := 3) dX2_goThrough_58 rfl (by decide) ?_
        refine aw_goto (tgt := 22) dX2_goThrough_61 (by decide) ?_
        refine aw_mem (M' := (mI (mI M v 2 (nI m)) v 3 (bitsI (i + 1) (fun j => M.1 (v + 10) j = 1)))) (by rw [bitsI_t (P := fun j => M.1 (v + 10) j = 1) (by assumption), mI_mI]) ?_
        refine aw_loc (la := [some (.ref v), some (.ref L), some (.int (nI m)), some (.int (nI (i + 1))), none]) ⟨rfl, rfl, rfl, rfl, trivial⟩ ?_
        exact ih (k - 1) (by omega) (i + 1) (by omega)
  refine aw_loc (la := [some (.ref v), some (.ref L), some (.int (nI m)), some (.int (nI 0)), none]) ⟨rfl, rfl, rfl, rfl, trivial⟩ ?_
  exact lp22 n 0 (by omega)
