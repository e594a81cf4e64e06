/-- Integer.bitCount, as it is written -/
def bc1 (x : Int32) : Int32 := x - (((x).toUInt32 >>> ((1 : Int32).toUInt32 &&& Int32.toUInt32 31)).toInt32 &&& 1431655765)
def bc2 (x : Int32) : Int32 := (x &&& 858993459) + (((x).toUInt32 >>> ((2 : Int32).toUInt32 &&& Int32.toUInt32 31)).toInt32 &&& 858993459)
def bc3 (x : Int32) : Int32 := (x + ((x).toUInt32 >>> ((4 : Int32).toUInt32 &&& Int32.toUInt32 31)).toInt32) &&& 252645135
def bc4 (x : Int32) : Int32 := x + ((x).toUInt32 >>> ((8 : Int32).toUInt32 &&& Int32.toUInt32 31)).toInt32
def bc5 (x : Int32) : Int32 := x + ((x).toUInt32 >>> ((16 : Int32).toUInt32 &&& Int32.toUInt32 31)).toInt32
def bcI (x : Int32) : Int32 := bc5 (bc4 (bc3 (bc2 (bc1 x)))) &&& 63
theorem m_J6_bitCount_0f7a4 {l : Launch} {M : Mm} {x : Int32} : AMet l 1 yJ6_bitCount_0f7a4 cJ6_bitCount_0f7a4 1 (some FieldType.int) [.int x] M (QE (some (.int (bcI x))) M) := by
  refine AMet.of (by decide) (by simp [aargs, Value.category]) ?_
  show AW l 1 yJ6_bitCount_0f7a4 cJ6_bitCount_0f7a4 1 (some FieldType.int) 0 [some (.int x)] [] M _
  refine aw_iload_n (i := 0) dJ6_bitCount_0f7a4_0 rfl rfl ?_
  refine aw_iload_n (i := 0) dJ6_bitCount_0f7a4_1 rfl rfl ?_
  refine aw_iconst (v := 1) dJ6_bitCount_0f7a4_2 (by decide) ?_
  refine aw_iushr dJ6_bitCount_0f7a4_3 ?_
  refine aw_ldcw (v := 1431655765) (List.mem_append_right _ (List.mem_of_getElem? (i := 649) (by decide +kernel))) dJ6_bitCount_0f7a4_4 ?_
  refine aw_iand dJ6_bitCount_0f7a4_7 ?_
  refine aw_isub dJ6_bitCount_0f7a4_8 ?_
  refine aw_istore_n (i := 0) dJ6_bitCount_0f7a4_9 rfl (by decide) ?_
  refine aw_iload_n (i := 0) dJ6_bitCount_0f7a4_10 rfl rfl ?_
  refine aw_ldcw (v := 858993459) (List.mem_append_right _ (List.mem_of_getElem? (i := 650) (by decide +kernel))) dJ6_bitCount_0f7a4_11 ?_
  refine aw_iand dJ6_bitCount_0f7a4_14 ?_
  refine aw_iload_n (i := 0) dJ6_bitCount_0f7a4_15 rfl rfl ?_
  refine aw_iconst (v := 2) dJ6_bitCount_0f7a4_16 (by decide) ?_
  refine aw_iushr dJ6_bitCount_0f7a4_17 ?_
  refine aw_ldcw (v := 858993459) (List.mem_append_right _ (List.mem_of_getElem? (i := 650) (by decide +kernel))) dJ6_bitCount_0f7a4_18 ?_
  refine aw_iand dJ6_bitCount_0f7a4_21 ?_
  refine aw_iadd dJ6_bitCount_0f7a4_22 ?_
  refine aw_istore_n (i := 0) dJ6_bitCount_0f7a4_23 rfl (by decide) ?_
  refine aw_iload_n (i := 0) dJ6_bitCount_0f7a4_24 rfl rfl ?_
  refine aw_iload_n (i := 0) dJ6_bitCount_0f7a4_25 rfl rfl ?_
  refine aw_iconst (v := 4) dJ6_bitCount_0f7a4_26 (by decide) ?_
  refine aw_iushr dJ6_bitCount_0f7a4_27 ?_
  refine aw_iadd dJ6_bitCount_0f7a4_28 ?_
  refine aw_ldcw (v := 252645135) (List.mem_append_right _ (List.mem_of_getElem? (i := 651) (by decide +kernel))) dJ6_bitCount_0f7a4_29 ?_
  refine aw_iand dJ6_bitCount_0f7a4_32 ?_
  refine aw_istore_n (i := 0) dJ6_bitCount_0f7a4_33 rfl (by decide) ?_
  refine aw_iload_n (i := 0) dJ6_bitCount_0f7a4_34 rfl rfl ?_
  refine aw_iload_n (i := 0) dJ6_bitCount_0f7a4_35 rfl rfl ?_
  refine aw_bipush (v := 8) dJ6_bitCount_0f7a4_36 (by decide) ?_
  refine aw_iushr dJ6_bitCount_0f7a4_38 ?_
  refine aw_iadd dJ6_bitCount_0f7a4_39 ?_
  refine aw_istore_n (i := 0) dJ6_bitCount_0f7a4_40 rfl (by decide) ?_
  refine aw_iload_n (i := 0) dJ6_bitCount_0f7a4_41 rfl rfl ?_
  refine aw_iload_n (i := 0) dJ6_bitCount_0f7a4_42 rfl rfl ?_
  refine aw_bipush (v := 16) dJ6_bitCount_0f7a4_43 (by decide) ?_
  refine aw_iushr dJ6_bitCount_0f7a4_45 ?_
  refine aw_iadd dJ6_bitCount_0f7a4_46 ?_
  refine aw_istore_n (i := 0) dJ6_bitCount_0f7a4_47 rfl (by decide) ?_
  refine aw_iload_n (i := 0) dJ6_bitCount_0f7a4_48 rfl rfl ?_
  refine aw_bipush (v := 63) dJ6_bitCount_0f7a4_49 (by decide) ?_
  refine aw_iand dJ6_bitCount_0f7a4_51 ?_
  exact aw_iret rfl dJ6_bitCount_0f7a4_52 ⟨rfl, rfl⟩
def calmM (c : Nat) (M : Mm) : Mm :=
  let M1 := rI M (c + 8) (fillR (M.1 (c + 8)) 30 0)
  let M2 := rI M1 (c + 9) (fillR (M1.1 (c + 9)) 30 0)
  let M3 := rI M2 (c + 10) (fillR (M2.1 (c + 10)) 30 0)
  let M4 := rI M3 (c + 7) (fillR (M3.1 (c + 7)) 30 0)
  mI (mI (mI M4 c 12 0) c 14 0) c 15 0
theorem m_X1_calm {l : Launch} {M : Mm} {c : Nat} (hc : isC c) {n : Nat} (hn : M.1 c 11 = nI n) (hn30 : n ≤ 30) : AMet l 3 yX1_calm cX1_calm 2 (some FieldType.int) [.ref c] M (QE (some (.int (nI n - nI (cntN n (fun i => M.1 (c + 8) i = 0))))) (calmM c M)) := by
  refine AMet.of (by decide) (by simp [aargs, Value.category]) ?_
  show AW l 3 yX1_calm cX1_calm 2 (some FieldType.int) 0 [some (.ref c), none] [] M _
  refine aw_aload_n (i := 0) dX1_calm_0 rfl rfl ?_
  refine aw_getN (n := n) gf_X1_47 (shC hc) rfl hn dX1_calm_1 ?_
  refine aw_aload_n (i := 0) dX1_calm_4 rfl rfl ?_
  refine aw_bipush (v := 6) dX1_calm_5 (by decide) ?_
  refine aw_iconst (v := 0) dX1_calm_7 (by decide) ?_
  refine aw_top2 (show (6 : Int32) = nI 6 from rfl) ?_
  refine aw_cVi ck_X1_96 (m_X1_countOf (t := 6) hc (by decide) hn hn30) (shC hc) rfl (by decide) (by decide) rfl rfl (Nat.le_of_ble_eq_true rfl) dX1_calm_8 ?_
  refine aw_isub dX1_calm_11 ?_
  refine aw_istore_n (i := 1) dX1_calm_12 rfl (by decide) ?_
  refine aw_aload_n (i := 0) dX1_calm_13 rfl rfl ?_
  refine aw_getR gf_X1_35 (shC hc) rfl dX1_calm_14 ?_
  refine aw_iconst (v := 0) dX1_calm_17 (by decide) ?_
  refine aw_cSv ck_X1_100 (m_J7_fill_53178 (shC_8 hc) (by decide)) (by decide) (by decide) rfl rfl (Nat.le_of_ble_eq_true rfl) dX1_calm_18 ?_
  refine aw_aload_n (i := 0) dX1_calm_21 rfl rfl ?_
  refine aw_getR gf_X1_38 (shC hc) rfl dX1_calm_22 ?_
  refine aw_iconst (v := 0) dX1_calm_25 (by decide) ?_
  refine aw_cSv ck_X1_100 (m_J7_fill_53178 (shC_9 hc) (by decide)) (by decide) (by decide) rfl rfl (Nat.le_of_ble_eq_true rfl) dX1_calm_26 ?_
  refine aw_aload_n (i := 0) dX1_calm_29 rfl rfl ?_
  refine aw_getR gf_X1_41 (shC hc) rfl dX1_calm_30 ?_
  refine aw_iconst (v := 0) dX1_calm_33 (by decide) ?_
  refine aw_cSv ck_X1_100 (m_J7_fill_53178 (shC_10 hc) (by decide)) (by decide) (by decide) rfl rfl (Nat.le_of_ble_eq_true rfl) dX1_calm_34 ?_
  refine aw_aload_n (i := 0) dX1_calm_37 rfl rfl ?_
  refine aw_getR gf_X1_32 (shC hc) rfl dX1_calm_38 ?_
  refine aw_iconst (v := 0) dX1_calm_41 (by decide) ?_
  refine aw_cSv ck_X1_100 (m_J7_fill_53178 (shC_7 hc) (by decide)) (by decide) (by decide) rfl rfl (Nat.le_of_ble_eq_true rfl) dX1_calm_42 ?_
  refine aw_aload_n (i := 0) dX1_calm_45 rfl rfl ?_
  refine aw_iconst (v := 0) dX1_calm_46 (by decide) ?_
  refine aw_putI pf_X1_51 (shC hc) rfl dX1_calm_47 ?_
  refine aw_aload_n (i := 0) dX1_calm_50 rfl rfl ?_
  refine aw_iconst (v := 0) dX1_calm_51 (by decide) ?_
  refine aw_putI pf_X1_57 (shC hc) rfl dX1_calm_52 ?_
  refine aw_aload_n (i := 0) dX1_calm_55 rfl rfl ?_
  refine aw_iconst (v := 0) dX1_calm_56 (by decide) ?_
  refine aw_putI pf_X1_60 (shC hc) rfl dX1_calm_57 ?_
  refine aw_iload_n (i := 1) dX1_calm_60 rfl rfl ?_
  exact aw_iret rfl dX1_calm_61 ⟨rfl, rfl⟩
def aloneM (c p : Nat) (M : Mm) : Mm := mI (mI (rI (calmM c M) (c + 6) (fillR ((calmM c M).1 (c + 6)) 30 10000)) (c + 8) p 1) (c + 9) p 0
theorem m_X1_leaveAloneWith {l : Launch} {M : Mm} {c p : Nat} (hc : isC c) (hp : p < 30) {n : Nat} (hn : M.1 c 11 = nI n) (hn30 : n ≤ 30) : AMet l 4 yX1_leaveAloneWith cX1_leaveAloneWith 2 none [.ref c, .int (nI p)] M (QE none (aloneM c p M)) := by
  refine AMet.of (by decide) (by simp [aargs, Value.category]) ?_
  show AW l 4 yX1_leaveAloneWith cX1_leaveAloneWith 2 none 0 [some (.ref c), some (.int (nI p))] [] M _
  refine aw_aload_n (i := 0) dX1_leaveAloneWith_0 rfl rfl ?_
  refine aw_cVi ck_X1_106 (m_X1_calm hc hn hn30) (shC hc) rfl (by decide) (by decide) rfl rfl (Nat.le_of_ble_eq_true rfl) dX1_leaveAloneWith_1 ?_
  refine aw_pop dX1_leaveAloneWith_4 rfl ?_
  refine aw_aload_n (i := 0) dX1_leaveAloneWith_5 rfl rfl ?_
  refine aw_getR gf_X1_29 (shC hc) rfl dX1_leaveAloneWith_6 ?_
  refine aw_sipush (v := 10000) dX1_leaveAloneWith_9 (by decide) ?_
  refine aw_cSv ck_X1_100 (m_J7_fill_53178 (shC_6 hc) (by decide)) (by decide) (by decide) rfl rfl (Nat.le_of_ble_eq_true rfl) dX1_leaveAloneWith_12 ?_
  refine aw_aload_n (i := 0) dX1_leaveAloneWith_15 rfl rfl ?_
  refine aw_iload_n (i := 1) dX1_leaveAloneWith_16 rfl rfl ?_
  refine aw_cVv ck_X1_110 (m_X1_ask hc hp) (shC hc) rfl (by decide) (by decide) rfl rfl (Nat.le_of_ble_eq_true rfl) dX1_leaveAloneWith_17 ?_
  exact aw_vret rfl dX1_leaveAloneWith_20 ⟨rfl, rfl⟩
/-- the first i rows, of c2 -/
def becQ (c c2 i : Nat) (M M' : Mm) : Prop := Same (fun q => c + 2 ≤ q ∧ q < c + 2 + i) M M' ∧ ∀ t, t < i → M'.1 (c + 2 + t) = va_cpy (M.1 (c2 + 2 + t)) (M.1 (c + 2 + t)) 0 0 30
def apartC (c c2 : Nat) : Prop := c + 15 ≤ c2 ∨ c2 + 15 ≤ c
theorem becQ_step {c c2 i : Nat} {M M' : Mm} (ha : apartC c c2) (h : becQ c c2 i M M') (hi : i < 10) : becQ c c2 (i + 1) M (rI M' (c + 2 + i) (va_cpy (M'.1 (c2 + 2 + i)) (M'.1 (c + 2 + i)) 0 0 30)) := by
  unfold apartC at ha
  refine ⟨(h.1.mono (fun k q => ⟨q.1, by omega⟩)).rI ⟨by omega, by omega⟩, fun t ht => ?_⟩
  have e1 : M'.1 (c2 + 2 + i) = M.1 (c2 + 2 + i) := h.1.2 _ (by omega)
  by_cases e : t = i
  · subst e
    rw [rI_self, e1, h.1.2 (c + 2 + t) (by omega)]
  · rw [rI_other (by omega), h.2 t (by omega)]
/-- c as c2 is -/
def becM (c c2 : Nat) (M M' : Mm) : Prop := Same (fun q => q = c ∨ (c + 2 ≤ q ∧ q < c + 12)) M M' ∧ (∀ t, t < 10 → M'.1 (c + 2 + t) = va_cpy (M.1 (c2 + 2 + t)) (M.1 (c + 2 + t)) 0 0 30) ∧ (∀ j, 11 ≤ j → j ≤ 15 → M'.1 c j = M.1 c2 j)
theorem becM_end {c c2 : Nat} {M M' : Mm} (ha : apartC c c2) (h : becQ c c2 10 M M') : becM c c2 M (mI (mI (mI (mI (mI M' c 11 (M'.1 c2 11)) c 12 (M'.1 c2 12)) c 13 (M'.1 c2 13)) c 14 (M'.1 c2 14)) c 15 (M'.1 c2 15)) := by
  unfold apartC at ha
  have e2 : M'.1 c2 = M.1 c2 := h.1.2 _ (by omega)
  have o : ∀ k, k ≠ c → (mI (mI (mI (mI (mI M' c 11 (M'.1 c2 11)) c 12 (M'.1 c2 12)) c 13 (M'.1 c2 13)) c 14 (M'.1 c2 14)) c 15 (M'.1 c2 15)).1 k = M'.1 k := fun k hk => by rw [mI_other hk, mI_other hk, mI_other hk, mI_other hk, mI_other hk]
  refine ⟨⟨h.1.1, fun k hk => ?_⟩, fun t ht => ?_, fun j h1 h2 => ?_⟩
  · rw [o k (fun e => hk (Or.inl e))]
    exact h.1.2 k (fun q => hk (Or.inr ⟨q.1, by omega⟩))
  · rw [o _ (by omega)]
    exact h.2 t ht
  · rw [← e2, mI_self, mI_self, mI_self, mI_self, mI_self]
    match j, h1, h2 with
    | 11, _, _ => simp [upd]
    | 12, _, _ => simp [upd]
    | 13, _, _ => simp [upd]
    | 14, _, _ => simp [upd]
    | 15, _, _ => simp [upd]
theorem m_X1_become {l : Launch} {M : Mm} {c c2 : Nat} (hc : isC c) (hc2 : isC c2) (ha : apartC c c2) : AMet l 1 yX1_become cX1_become 3 none [.ref c, .ref c2] M (QN (becM c c2 M)) := by
  refine AMet.of (by decide) (by simp [aargs, Value.category]) ?_
  show AW l 1 yX1_become cX1_become 3 none 0 [some (.ref c), some (.ref c2), none] [] M _
  have hne : c2 ≠ c := by unfold apartC at ha; omega
  refine aw_iconst (v := 0) dX1_become_0 (by decide) ?_
  refine aw_istore_n (i := 2) dX1_become_1 rfl (by decide) ?_
  have lp2 : ∀ k i, i + k = 10 → ∀ M' : Mm, becQ c c2 i M M' → AW l 1 yX1_become cX1_become 3 none 2 [some (.ref c), some (.ref c2), some (.int (nI i))] [] M' (QN (becM c c2 M)) := by
    intro k
    induction k using Nat.strongRecOn with
    | _ k ih =>
    intro i hk M' hQ
    refine aw_iload_n (i := 2) dX1_become_2 rfl rfl ?_
    refine aw_bipush (v := 10) dX1_become_3 (by decide) ?_
    refine aw_top (show (10 : Int32) = nI 10 from rfl) ?_
    refine aw_icmp_geN (tgt := 33) (by omega) (by omega) dX1_become_5 (by decide) (fun h5 => ?_) (fun h5 => ?_)
    ·
      refine aw_aload_n (i := 0) dX1_become_33 rfl rfl ?_
      refine aw_aload_n (i := 1) dX1_become_34 rfl rfl ?_
      refine aw_getI gf_X1_47 (shC hc2) rfl dX1_become_35 ?_
      refine aw_putI pf_X1_47 (shC hc) rfl dX1_become_38 ?_
      refine aw_aload_n (i := 0) dX1_become_41 rfl rfl ?_
      refine aw_aload_n (i := 1) dX1_become_42 rfl rfl ?_
      refine aw_getX gf_X1_51 (shC hc2) rfl (congrFun (mI_other hne) _) dX1_become_43 ?_
      refine aw_putI pf_X1_51 (shC hc) rfl dX1_become_46 ?_
      refine aw_aload_n (i := 0) dX1_become_49 rfl rfl ?_
      refine aw_aload_n (i := 1) dX1_become_50 rfl rfl ?_
      refine aw_getX gf_X1_54 (shC hc2) rfl (congrFun ((mI_other hne).trans (mI_other hne)) _) dX1_become_51 ?_
      refine aw_putI pf_X1_54 (shC hc) rfl dX1_become_54 ?_
      refine aw_aload_n (i := 0) dX1_become_57 rfl rfl ?_
      refine aw_aload_n (i := 1) dX1_become_58 rfl rfl ?_
      refine aw_getX gf_X1_57 (shC hc2) rfl (congrFun ((mI_other hne).trans ((mI_other hne).trans (mI_other hne))) _) dX1_become_59 ?_
      refine aw_putI pf_X1_57 (shC hc) rfl dX1_become_62 ?_
      refine aw_aload_n (i := 0) dX1_become_65 rfl rfl ?_
      refine aw_aload_n (i := 1) dX1_become_66 rfl rfl ?_
      refine aw_getX gf_X1_60 (shC hc2) rfl (congrFun ((mI_other hne).trans ((mI_other hne).trans ((mI_other hne).trans (mI_other hne)))) _) dX1_become_67 ?_
      refine aw_putI pf_X1_60 (shC hc) rfl dX1_become_70 ?_
      exact aw_vret rfl dX1_become_73 ⟨rfl, by rw [show i = 10 by omega] at hQ; exact becM_end ha hQ⟩
    ·
      refine aw_aload_n (i := 1) dX1_become_8 rfl rfl ?_
      refine aw_getR gf_X1_11 (shC hc2) rfl dX1_become_9 ?_
      refine aw_iload_n (i := 2) dX1_become_12 rfl rfl ?_
      refine aw_aaldN (t := 0) (shC_1 hc2) (by decide) (by omega) (by decide) dX1_become_13 ?_
      refine aw_iconst (v := 0) dX1_become_14 (by decide) ?_
      refine aw_aload_n (i := 0) dX1_become_15 rfl rfl ?_
      refine aw_getR gf_X1_11 (shC hc) rfl dX1_become_16 ?_
      refine aw_iload_n (i := 2) dX1_become_19 rfl rfl ?_
      refine aw_aaldN (t := 0) (shC_1 hc) (by decide) (by omega) (by decide) dX1_become_20 ?_
      refine aw_iconst (v := 0) dX1_become_21 (by decide) ?_
      refine aw_bipush (v := 30) dX1_become_22 (by decide) ?_
      refine aw_copyI (List.mem_append_right _ (List.mem_of_getElem? (i := 722) (by decide +kernel))) (List.mem_append_right _ (List.mem_of_getElem? (i := 146) (by decide +kernel))) (List.mem_append_right _ (List.mem_of_getElem? (i := 145) (by decide +kernel))) (List.mem_append_right _ (List.mem_of_getElem? (i := 6) (by decide +kernel))) (shC_r hc2 i (by omega)) (shC_r hc i (by omega)) (by decide) (by decide) (by decide) (by decide) (by decide) (by decide) (Nat.le_of_ble_eq_true rfl) dX1_become_24 ?_
      refine aw_iincN (i := 2) dX1_become_27 rfl (by decide) ?_
      refine aw_goto (tgt := 2) dX1_become_30 (by decide) ?_
      exact ih (k - 1) (by omega) (i + 1) (by omega) _ (becQ_step ha hQ (by omega))
  refine aw_loc (la := [some (.ref c), some (.ref c2), some (.int (nI 0))]) ⟨rfl, rfl, rfl, trivial⟩ ?_
  exact lp2 10 0 (by omega) M ⟨⟨rfl, fun _ _ => rfl⟩, fun t ht => absurd ht (by omega)⟩
/-- bit i of what hit -/
def hitB (x : Int32) (i : Nat) : Prop := (x >>> (nI i &&& 31)) &&& 1 = 1
noncomputable def takenF (n : Nat) (seat glove : Nat → Int32) (hits : Int32) (s : Int32) (g : Prop) (m : Nat) : Int32 := sumI m (fun i => pIf (hitB hits i ∧ (¬ g ∨ glove i = 1)) (loudI (farI (seat i) s)) 0)
theorem takenF_t {n : Nat} {seat glove : Nat → Int32} {hits s : Int32} {g : Prop} {i : Nat} (h1 : hitB hits i) (h2 : ¬ g ∨ glove i = 1) : takenF n seat glove hits s g i + loudI (farI (seat i) s) = takenF n seat glove hits s g (i + 1) := by
  show _ = sumI i _ + pIf _ _ _
  rw [pIf_t ⟨h1, h2⟩]
  rfl
theorem takenF_f {n : Nat} {seat glove : Nat → Int32} {hits s : Int32} {g : Prop} {i : Nat} (h : ¬ (hitB hits i ∧ (¬ g ∨ glove i = 1))) : takenF n seat glove hits s g i = takenF n seat glove hits s g (i + 1) := by
  show _ = sumI i _ + pIf _ _ _
  rw [pIf_f h, add0]
  rfl
theorem m_X1_takenAt {l : Launch} {M : Mm} {c : Nat} {s : Int32} {g : Prop} (hc : isC c) {n : Nat} (hn : M.1 c 11 = nI n) (hn30 : n ≤ 30) : AMet l 2 yX1_takenAt cX1_takenAt 6 (some FieldType.int) [.ref c, .int s, .int (b01 g)] M (QE (some (.int (takenF n (M.1 (c + 3)) (M.1 (c + 11)) (M.1 c 14) s g n))) M) := by
  refine AMet.of (by decide) (by simp [aargs, Value.category]) ?_
  show AW l 2 yX1_takenAt cX1_takenAt 6 (some FieldType.int) 0 [some (.ref c), some (.int s), some (.int (b01 g)), none, none, none] [] M _
  refine aw_iconst (v := 0) dX1_takenAt_0 (by decide) ?_
  refine aw_istore_n (i := 3) dX1_takenAt_1 rfl (by decide) ?_
  refine aw_iconst (v := 0) dX1_takenAt_2 (by decide) ?_
  refine aw_istore (i := 4) dX1_takenAt_3 (by decide) ?_
  have lp5 : ∀ k i, i + k = n → AW l 2 yX1_takenAt cX1_takenAt 6 (some FieldType.int) 5 [some (.ref c), some (.int s), some (.int (b01 g)), some (.int (takenF n (M.1 (c + 3)) (M.1 (c + 11)) (M.1 c 14) s g i)), some (.int (nI i)), none] [] M (QE (some (.int (takenF n (M.1 (c + 3)) (M.1 (c + 11)) (M.1 c 14) s g n))) M) := by
    intro k
    induction k using Nat.strongRecOn with
    | _ k ih =>
    intro i hk
    refine aw_iload (i := 4) dX1_takenAt_5 rfl ?_
    refine aw_aload_n (i := 0) dX1_takenAt_7 rfl rfl ?_
    refine aw_getN (n := n) gf_X1_47 (shC hc) rfl hn dX1_takenAt_8 ?_
    refine aw_icmp_geN (tgt := 77) (by omega) (by omega) dX1_takenAt_11 (by decide) (fun h11 => ?_) (fun h11 => ?_)
    ·
      refine aw_iload_n (i := 3) dX1_takenAt_77 rfl rfl ?_
      exact aw_iret rfl dX1_takenAt_78 ⟨by rw [show n = i by omega], rfl⟩
    ·
      refine aw_aload_n (i := 0) dX1_takenAt_14 rfl rfl ?_
      refine aw_getI gf_X1_57 (shC hc) rfl dX1_takenAt_15 ?_
      refine aw_iload (i := 4) dX1_takenAt_18 rfl ?_
      refine aw_ishr dX1_takenAt_20 ?_
      refine aw_iconst (v := 1) dX1_takenAt_21 (by decide) ?_
      refine aw_iand dX1_takenAt_22 ?_
      refine aw_iconst (v := 1) dX1_takenAt_23 (by decide) ?_
      refine aw_icmp_ne (tgt := 46) dX1_takenAt_24 (by decide) (fun h24 => ?_) (fun h24 => ?_)
      ·
        refine aw_iconst (v := 0) dX1_takenAt_46 (by decide) ?_
        refine aw_istore (i := 5) dX1_takenAt_47 (by decide) ?_
        refine aw_iload (i := 5) dX1_takenAt_49 rfl ?_
        refine aw_if_eq (tgt := 71) dX1_takenAt_51 (by decide) (fun h51 => ?_) (fun h51 => ?_)
        ·
          refine aw_iincN (i := 4) dX1_takenAt_71 rfl (by decide) ?_
          refine aw_goto (tgt := 5) dX1_takenAt_74 (by decide) ?_
          refine aw_loc (la := [some (.ref c), some (.int s), some (.int (b01 g)), some (.int (takenF n (M.1 (c + 3)) (M.1 (c + 11)) (M.1 c 14) s g (i + 1))), some (.int (nI (i + 1))), none]) ⟨rfl, rfl, rfl, (show some (Value.int (takenF n (M.1 (c + 3)) (M.1 (c + 11)) (M.1 c 14) s g i)) = some (Value.int (takenF n (M.1 (c + 3)) (M.1 (c + 11)) (M.1 c 14) s g (i + 1))) from by rw [← takenF_f (by unfold hitB; grind)]), rfl, trivial⟩ (ih (k - 1) (by omega) (i + 1) (by omega))
        ·
          exact absurd h51 (by decide)
      ·
        refine aw_iload_n (i := 2) dX1_takenAt_27 rfl rfl ?_
        refine aw_ifeq_b (tgt := 42) dX1_takenAt_28 (by decide) (fun h28 => ?_) (fun h28 => ?_)
        ·
          refine aw_iconst (v := 1) dX1_takenAt_42 (by decide) ?_
          refine aw_goto (tgt := 47) dX1_takenAt_43 (by decide) ?_
          refine aw_istore (i := 5) dX1_takenAt_47 (by decide) ?_
          refine aw_iload (i := 5) dX1_takenAt_49 rfl ?_
          refine aw_if_eq (tgt := 71) dX1_takenAt_51 (by decide) (fun h51 => ?_) (fun h51 => ?_)
          ·
            exact absurd h51 (by decide)
          ·
            refine aw_iload_n (i := 3) dX1_takenAt_54 rfl rfl ?_
            refine aw_aload_n (i := 0) dX1_takenAt_55 rfl rfl ?_
            refine aw_getR gf_X1_20 (shC hc) rfl dX1_takenAt_56 ?_
            refine aw_iload (i := 4) dX1_takenAt_59 rfl ?_
            refine aw_ialdN (shC_3 hc) (by omega) (by omega) dX1_takenAt_61 ?_
            refine aw_iload_n (i := 1) dX1_takenAt_62 rfl rfl ?_
            refine aw_cSi ck_X1_118 m_X7_farOf (by decide) (by decide) rfl rfl (Nat.le_of_ble_eq_true rfl) dX1_takenAt_63 ?_
            refine aw_cSi ck_X1_121 m_X7_loudnessAt (by decide) (by decide) rfl rfl (Nat.le_of_ble_eq_true rfl) dX1_takenAt_66 ?_
            refine aw_iadd dX1_takenAt_69 ?_
            refine aw_istore_n (i := 3) dX1_takenAt_70 rfl (by decide) ?_
            refine aw_iincN (i := 4) dX1_takenAt_71 rfl (by decide) ?_
            refine aw_goto (tgt := 5) dX1_takenAt_74 (by decide) ?_
            refine aw_loc (la := [some (.ref c), some (.int s), some (.int (b01 g)), some (.int (takenF n (M.1 (c + 3)) (M.1 (c + 11)) (M.1 c 14) s g (i + 1))), some (.int (nI (i + 1))), none]) ⟨rfl, rfl, rfl, (show some (Value.int ((takenF n (M.1 (c + 3)) (M.1 (c + 11)) (M.1 c 14) s g i) + loudI (farI (M.1 (c + 3) i) s))) = some (Value.int (takenF n (M.1 (c + 3)) (M.1 (c + 11)) (M.1 c 14) s g (i + 1))) from by rw [← takenF_t (by assumption) (by first | exact Or.inl (by assumption) | exact Or.inr (by assumption))]), rfl, trivial⟩ (ih (k - 1) (by omega) (i + 1) (by omega))
        ·
          refine aw_aload_n (i := 0) dX1_takenAt_31 rfl rfl ?_
          refine aw_getR gf_X1_44 (shC hc) rfl dX1_takenAt_32 ?_
          refine aw_iload (i := 4) dX1_takenAt_35 rfl ?_
          refine aw_ialdN (shC_11 hc) (by omega) (by omega) dX1_takenAt_37 ?_
          refine aw_iconst (v := 1) dX1_takenAt_38 (by decide) ?_
          refine aw_icmp_ne (tgt := 46) dX1_takenAt_39 (by decide) (fun h39 => ?_) (fun h39 => ?_)
          ·
            refine aw_iconst (v := 0) dX1_takenAt_46 (by decide) ?_
            refine aw_istore (i := 5) dX1_takenAt_47 (by decide) ?_
            refine aw_iload (i := 5) dX1_takenAt_49 rfl ?_
            refine aw_if_eq (tgt := 71) dX1_takenAt_51 (by decide) (fun h51 => ?_) (fun h51 => ?_)
            ·
              refine aw_iincN (i := 4) dX1_takenAt_71 rfl (by decide) ?_
              refine aw_goto (tgt := 5) dX1_takenAt_74 (by decide) ?_
              refine aw_loc (la := [some (.ref c), some (.int s), some (.int (b01 g)), some (.int (takenF n (M.1 (c + 3)) (M.1 (c + 11)) (M.1 c 14) s g (i + 1))), some (.int (nI (i + 1))), none]) ⟨rfl, rfl, rfl, (show some (Value.int (takenF n (M.1 (c + 3)) (M.1 (c + 11)) (M.1 c 14) s g i)) = some (Value.int (takenF n (M.1 (c + 3)) (M.1 (c + 11)) (M.1 c 14) s g (i + 1))) from by rw [← takenF_f (by unfold hitB; grind)]), rfl, trivial⟩ (ih (k - 1) (by omega) (i + 1) (by omega))
            ·
              exact absurd h51 (by decide)
          ·
            refine aw_iconst (v := 1) dX1_takenAt_42 (by decide) ?_
            refine aw_goto (tgt := 47) dX1_takenAt_43 (by decide) ?_
            refine aw_istore (i := 5) dX1_takenAt_47 (by decide) ?_
            refine aw_iload (i := 5) dX1_takenAt_49 rfl ?_
            refine aw_if_eq (tgt := 71) dX1_takenAt_51 (by decide) (fun h51 => ?_) (fun h51 => ?_)
            ·
              exact absurd h51 (by decide)
            ·
              refine aw_iload_n (i := 3) dX1_takenAt_54 rfl rfl ?_
              refine aw_aload_n (i := 0) dX1_takenAt_55 rfl rfl ?_
              refine aw_getR gf_X1_20 (shC hc) rfl dX1_takenAt_56 ?_
              refine aw_iload (i := 4) dX1_takenAt_59 rfl ?_
              refine aw_ialdN (shC_3 hc) (by omega) (by omega) dX1_takenAt_61 ?_
              refine aw_iload_n (i := 1) dX1_takenAt_62 rfl rfl ?_
              refine aw_cSi ck_X1_118 m_X7_farOf (by decide) (by decide) rfl rfl (Nat.le_of_ble_eq_true rfl) dX1_takenAt_63 ?_
              refine aw_cSi ck_X1_121 m_X7_loudnessAt (by decide) (by decide) rfl rfl (Nat.le_of_ble_eq_true rfl) dX1_takenAt_66 ?_
              refine aw_iadd dX1_takenAt_69 ?_
              refine aw_istore_n (i := 3) dX1_takenAt_70 rfl (by decide) ?_
              refine aw_iincN (i := 4) dX1_takenAt_71 rfl (by decide) ?_
              refine aw_goto (tgt := 5) dX1_takenAt_74 (by decide) ?_
              refine aw_loc (la := [some (.ref c), some (.int s), some (.int (b01 g)), some (.int (takenF n (M.1 (c + 3)) (M.1 (c + 11)) (M.1 c 14) s g (i + 1))), some (.int (nI (i + 1))), none]) ⟨rfl, rfl, rfl, (show some (Value.int ((takenF n (M.1 (c + 3)) (M.1 (c + 11)) (M.1 c 14) s g i) + loudI (farI (M.1 (c + 3) i) s))) = some (Value.int (takenF n (M.1 (c + 3)) (M.1 (c + 11)) (M.1 c 14) s g (i + 1))) from by rw [← takenF_t (by assumption) (by first | exact Or.inl (by assumption) | exact Or.inr (by assumption))]), rfl, trivial⟩ (ih (k - 1) (by omega) (i + 1) (by omega))
  refine aw_loc (la := [some (.ref c), some (.int s), some (.int (b01 g)), some (.int (takenF n (M.1 (c + 3)) (M.1 (c + 11)) (M.1 c 14) s g 0)), some (.int (nI 0)), none]) ⟨rfl, rfl, rfl, rfl, rfl, trivial⟩ ?_
  exact lp5 n 0 (by omega)
