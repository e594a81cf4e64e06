def outE (v : Nat) (M M' : Mm) : Prop := Same (fun k => v ≤ k ∧ k ≤ v + 16) M M'
theorem evR_I {v n m L : Nat} {M0 M1 : Mm} (h0 : evI v n m M0 M1) : ∀ k M9, evR v n L k M1 M9 → evI v n m M0 M9
  | 0, M9, h => by
    have e : M9 = M1 := h
    subst e
    exact h0
  | k + 1, M9, ⟨X, h1, h2⟩ => evS_I (evR_I h0 k X h1) h2
theorem evQ_I {v n L m : Nat} {M M9 : Mm} (hn : M.1 (v + 2) 11 = nI n) (h : evQ v n L m M M9) : outE v M M9 ∧ M9.1 (v + 2) 11 = nI n ∧ M9.1 v 2 = nI m := by
  obtain ⟨M1, hls, hR⟩ := h
  have e0 : evI v n m (ev0 v n m M) M1 := by
    refine ⟨⟨hls.1.1, fun k hk => hls.1.2 k (by omega)⟩, ?_, ?_, hls.2⟩
    · rw [hls.1.2 (v + 2) (by omega)]
      unfold ev0
      rw [mI_other (by omega), mI_other (by omega)]
      exact hn
    · rw [hls.1.2 v (by omega)]
      unfold ev0
      rw [mI_self, upd_other (by decide), mI_self, upd_self]
  obtain ⟨hS, hc, hz, -⟩ := evR_I e0 m M9 hR
  refine ⟨⟨hS.1, fun k hk => ?_⟩, hc, hz⟩
  rw [hS.2 k (by omega)]
  unfold ev0
  rw [mI_other (by omega), mI_other (by omega)]
/-- the way into an evening and through it -/
def gtQ (v n cnt : Nat) (w : Int32) (m : Nat) (M M' : Mm) : Prop := ∃ X, becM (v + 2) 14 M X ∧ evQ v n (lawRow 78 cnt w) m X M'
theorem bec_n {v n : Nat} {M X : Mm} (hn : M.1 14 11 = nI n) (h : becM (v + 2) 14 M X) : X.1 (v + 2) 11 = nI n := (h.2.2 11 (by omega) (by omega)).trans hn
theorem bec_o {v k : Nat} {M X : Mm} (h : becM (v + 2) 14 M X) (hk : ¬ (v ≤ k ∧ k ≤ v + 16)) : X.1 k = M.1 k := h.1.2 k (by omega)
theorem gtQ_I {v n cnt m : Nat} {w : Int32} {M M' : Mm} (hn : M.1 14 11 = nI n) (h : gtQ v n cnt w m M M') : outE v M M' ∧ M'.1 v 2 = nI m := by
  obtain ⟨X, h1, h2⟩ := h
  obtain ⟨q1, -, q3⟩ := evQ_I (bec_n hn h1) h2
  exact ⟨⟨q1.1.trans h1.1.1, fun k hk => (q1.2 k hk).trans (bec_o h1 hk)⟩, q3⟩
theorem lr_out2 {v cnt : Nat} {k : Int32} (hv : isE v) (hc6 : cnt ≤ 6) : ¬ (v ≤ lawRow 78 cnt k ∧ lawRow 78 cnt k ≤ v + 16) := by
  obtain ⟨j, h1, h2⟩ := lawRow_in (u := 78) (k := k) hc6
  rcases hv with rfl | rfl <;> omega
theorem apE {v : Nat} (hv : isE v) : apartC (v + 2) 14 := by
  unfold apartC
  rcases hv with rfl | rfl <;> omega
theorem n0_200 {x : Int32} (h : ¬ x < 0 ∧ ¬ 200 < x) : ∃ m, m < 201 ∧ x = nI m := by
  have e2 : (200 : Int32).toInt = 200 := by decide
  have h2 := h.2
  rw [i32_lt, e2] at h2
  rcases pk_ix x (n := 201) (by decide) with q | q | q
  · exact absurd q h.1
  · rw [Int32.le_iff_toInt_le, nI_toInt (by decide)] at q; omega
  · exact q
theorem outE_tr {v : Nat} {M X Y : Mm} (h : outE v M X) (h2 : outE v X Y) : outE v M Y := h.tr h2
theorem outE_rf {v : Nat} {M : Mm} : outE v M M := Same.rf
theorem outE_siz {v : Nat} {M X : Mm} (hv : isE v) (h : outE v M X) (hz : sizOK M) : sizOK X := fun k hk => by rw [h.2 4 (by rcases hv with rfl | rfl <;> omega)]; exact hz k hk
theorem m_X7_goThrough {l : Launch} {M : Mm} {v m : Nat} {w : Int32} (hv : isE v) {n : Nat} (hn : M.1 14 11 = nI n) (hn30 : n ≤ 30) {cnt : Nat} (hcn : M.1 78 1 = nI cnt) (hc6 : cnt ≤ 6) (hm : m ≤ 200) : AMet l 6 yX7_goThrough cX7_goThrough 4 none [.ref 0, .ref v, .int w, .int (nI m)] M (QN (gtQ v n cnt w m M)) := by
  refine AMet.of (by decide) (by simp [aargs, Value.category]) ?_
  show AW l 6 yX7_goThrough cX7_goThrough 4 none 0 [some (.ref 0), some (.ref v), some (.int w), some (.int (nI m))] [] M _
  refine aw_aload_n (i := 1) dX7_goThrough_0 rfl rfl ?_
  refine aw_aload_n (i := 0) dX7_goThrough_1 rfl rfl ?_
  refine aw_getR gf_X7_19 sh_0 rfl dX7_goThrough_2 ?_
  refine aw_cVQ ck_X7_268 (m_X2_startFrom hv (by simp [isC] : isC 14) (apE hv)) (shE hv) rfl (by decide) (by decide) rfl rfl (Nat.le_of_ble_eq_true rfl) dX7_goThrough_5 (fun r M9 hq9 => ?_)
  obtain ⟨rfl, hs1⟩ := hq9
  generalize M9 = X at hs1 ⊢
  have hnX := bec_n hn hs1
  have hcX : X.1 78 1 = nI cnt := (congrFun (bec_o hs1 (by rcases hv with rfl | rfl <;> omega)) _).trans hcn
  refine aw_aload_n (i := 1) dX7_goThrough_8 rfl rfl ?_
  refine aw_aload_n (i := 0) dX7_goThrough_9 rfl rfl ?_
  refine aw_getR gf_X7_26 sh_0 rfl dX7_goThrough_10 ?_
  refine aw_iload_n (i := 2) dX7_goThrough_13 rfl rfl ?_
  refine aw_cVr ck_X7_194 (m_X3_numbersOf (by simp [isB] : isB 78) hcX hc6) sh_78 rfl (by decide) (by decide) rfl rfl (Nat.le_of_ble_eq_true rfl) dX7_goThrough_14 ?_
  refine aw_iload_n (i := 3) dX7_goThrough_17 rfl rfl ?_
  refine aw_cVQ ck_X7_276 (m_X2_goThrough hv (shLR (by simp [isB]) hc6) (lr_out2 hv hc6) hnX hn30 hm) (shE hv) rfl (by decide) (by decide) rfl rfl (Nat.le_of_ble_eq_true rfl) dX7_goThrough_18 (fun r M9 hq9 => ?_)
  obtain ⟨rfl, hs2⟩ := hq9
  exact aw_vret rfl dX7_goThrough_21 ⟨rfl, X, hs1, hs2⟩
def S_length (M : Mm) (n cnt : Nat) (w x : Int32) (v : Int32) (M' : Mm) : Prop := pIf (w = -1 ∨ (¬ w < 0 ∧ ¬ M.1 78 1 ≤ w)) (pIf (¬ x < 0 ∧ ¬ 200 < x) (gtQ 44 n cnt w x.toNatClampNeg M M' ∧ v = lenI (M'.1 (44 + 1)) x.toNatClampNeg) (v = -6 ∧ M' = rfx M 5)) (v = -1 ∧ M' = rfx M 0)
theorem m_X7_length {l : Launch} {M : Mm} {w x : Int32} {n : Nat} (hn : M.1 14 11 = nI n) (hn30 : n ≤ 30) {cnt : Nat} (hcn : M.1 78 1 = nI cnt) (hc6 : cnt ≤ 6) : AMet l 7 yX7_length cX7_length 3 (some FieldType.int) [.ref 0, .int w, .int x] M (QI (S_length M n cnt w x)) := by
  refine AMet.of (by decide) (by simp [aargs, Value.category]) ?_
  show AW l 7 yX7_length cX7_length 3 (some FieldType.int) 0 [some (.ref 0), some (.int w), some (.int x)] [] M _
  refine aw_aload_n (i := 0) dX7_length_0 rfl rfl ?_
  refine aw_getR gf_X7_26 sh_0 rfl dX7_length_1 ?_
  refine aw_iload_n (i := 1) dX7_length_4 rfl rfl ?_
  refine aw_cVi ck_X7_198 (m_X3_hasOrNone (by simp [isB] : isB 78)) sh_78 rfl (by decide) (by decide) rfl rfl (Nat.le_of_ble_eq_true rfl) dX7_length_5 ?_
  refine aw_ifne_b (tgt := 17) dX7_length_8 (by decide) (fun h8 => ?_) (fun h8 => ?_)
  ·
    refine aw_iload_n (i := 2) dX7_length_17 rfl rfl ?_
    refine aw_cSi ck_X7_252 m_X7_isEvening (by decide) (by decide) rfl rfl (Nat.le_of_ble_eq_true rfl) dX7_length_18 ?_
    refine aw_ifne_b (tgt := 31) dX7_length_21 (by decide) (fun h21 => ?_) (fun h21 => ?_)
    ·
      obtain ⟨m, hm, rfl⟩ := n0_200 h21
      refine aw_aload_n (i := 0) dX7_length_31 rfl rfl ?_
      refine aw_aload_n (i := 0) dX7_length_32 rfl rfl ?_
      refine aw_getR gf_X7_40 sh_0 rfl dX7_length_33 ?_
      refine aw_iload_n (i := 1) dX7_length_36 rfl rfl ?_
      refine aw_iload_n (i := 2) dX7_length_37 rfl rfl ?_
      refine aw_cVQ ck_X7_255 (m_X7_goThrough (by simp [isE] : isE 44) hn hn30 hcn hc6 (by omega)) sh_0 rfl (by decide) (by decide) rfl rfl (Nat.le_of_ble_eq_true rfl) dX7_length_38 (fun r M9 hq9 => ?_)
      obtain ⟨rfl, hg9⟩ := hq9
      have hgI := gtQ_I hn hg9
      refine aw_aload_n (i := 0) dX7_length_41 rfl rfl ?_
      refine aw_getR gf_X7_40 sh_0 rfl dX7_length_42 ?_
      refine aw_cVi ck_X7_259 (m_X2_lengthOfClapping (by simp [isE] : isE 44) (by omega) hgI.2) sh_44 rfl (by decide) (by decide) rfl rfl (Nat.le_of_ble_eq_true rfl) dX7_length_45 ?_
      exact aw_iret rfl dX7_length_48 (by first | contradiction | exact ⟨_, rfl, by unfold S_length; (try rw [nI_clamp (show m < 2 ^ 31 from by omega)]); (first | rw [pIf_t h8] | rw [pIf_f h8] | rw [pIf_f (Int32.not_lt.mpr h8)] | rw [pIf_f (Int32.not_le.mpr h8)] | rw [pIf_t (Int32.not_le.mp h8)] | rw [pIf_t (Int32.not_lt.mp h8)] | rw [pIf_f (Nat.not_lt.mpr h8)] | rw [pIf_f (Nat.not_le.mpr h8)] | rw [pIf_t (Nat.not_le.mp h8)] | rw [pIf_t (Nat.not_lt.mp h8)] | skip); (first | rw [pIf_t h21] | rw [pIf_f h21] | rw [pIf_f (Int32.not_lt.mpr h21)] | rw [pIf_f (Int32.not_le.mpr h21)] | rw [pIf_t (Int32.not_le.mp h21)] | rw [pIf_t (Int32.not_lt.mp h21)] | rw [pIf_f (Nat.not_lt.mpr h21)] | rw [pIf_f (Nat.not_le.mpr h21)] | rw [pIf_t (Nat.not_le.mp h21)] | rw [pIf_t (Nat.not_lt.mp h21)] | skip); (try rw [nI_clamp (show m < 2 ^ 31 from by omega)]); exact ⟨hg9, rfl⟩⟩)
    ·
      refine aw_aload_n (i := 0) dX7_length_24 rfl rfl ?_
      refine aw_bipush (v := (-6)) dX7_length_25 (by decide) ?_
      refine aw_cVi ck_X7_86 (m_X7_refuse (k := 5) (by decide) (by decide)) sh_0 rfl (by decide) (by decide) rfl rfl (Nat.le_of_ble_eq_true rfl) dX7_length_27 ?_
      exact aw_iret rfl dX7_length_30 (by first | contradiction | exact ⟨_, rfl, by unfold S_length; (try rw [nI_clamp (show m < 2 ^ 31 from by omega)]); (first | rw [pIf_t h8] | rw [pIf_f h8] | rw [pIf_f (Int32.not_lt.mpr h8)] | rw [pIf_f (Int32.not_le.mpr h8)] | rw [pIf_t (Int32.not_le.mp h8)] | rw [pIf_t (Int32.not_lt.mp h8)] | rw [pIf_f (Nat.not_lt.mpr h8)] | rw [pIf_f (Nat.not_le.mpr h8)] | rw [pIf_t (Nat.not_le.mp h8)] | rw [pIf_t (Nat.not_lt.mp h8)] | skip); (first | rw [pIf_t h21] | rw [pIf_f h21] | rw [pIf_f (Int32.not_lt.mpr h21)] | rw [pIf_f (Int32.not_le.mpr h21)] | rw [pIf_t (Int32.not_le.mp h21)] | rw [pIf_t (Int32.not_lt.mp h21)] | rw [pIf_f (Nat.not_lt.mpr h21)] | rw [pIf_f (Nat.not_le.mpr h21)] | rw [pIf_t (Nat.not_le.mp h21)] | rw [pIf_t (Nat.not_lt.mp h21)] | skip); (try rw [nI_clamp (show m < 2 ^ 31 from by omega)]); exact ⟨rfl, rfl⟩⟩)
  ·
    refine aw_aload_n (i := 0) dX7_length_11 rfl rfl ?_
    refine aw_iconst (v := (-1)) dX7_length_12 (by decide) ?_
    refine aw_cVi ck_X7_86 (m_X7_refuse (k := 0) (by decide) (by decide)) sh_0 rfl (by decide) (by decide) rfl rfl (Nat.le_of_ble_eq_true rfl) dX7_length_13 ?_
    exact aw_iret rfl dX7_length_16 (by first | contradiction | exact ⟨_, rfl, by unfold S_length; (try rw [nI_clamp (show m < 2 ^ 31 from by omega)]); (first | rw [pIf_t h8] | rw [pIf_f h8] | rw [pIf_f (Int32.not_lt.mpr h8)] | rw [pIf_f (Int32.not_le.mpr h8)] | rw [pIf_t (Int32.not_le.mp h8)] | rw [pIf_t (Int32.not_lt.mp h8)] | rw [pIf_f (Nat.not_lt.mpr h8)] | rw [pIf_f (Nat.not_le.mpr h8)] | rw [pIf_t (Nat.not_le.mp h8)] | rw [pIf_t (Nat.not_lt.mp h8)] | skip); (try rw [nI_clamp (show m < 2 ^ 31 from by omega)]); exact ⟨rfl, rfl⟩⟩)
def S_joined (M : Mm) (n cnt : Nat) (w x : Int32) (v : Int32) (M' : Mm) : Prop := pIf (w = -1 ∨ (¬ w < 0 ∧ ¬ M.1 78 1 ≤ w)) (pIf (¬ x < 0 ∧ ¬ 200 < x) (gtQ 44 n cnt w x.toNatClampNeg M M' ∧ v = bcI (M'.1 44 3)) (v = -6 ∧ M' = rfx M 5)) (v = -1 ∧ M' = rfx M 0)
theorem m_X7_joined {l : Launch} {M : Mm} {w x : Int32} {n : Nat} (hn : M.1 14 11 = nI n) (hn30 : n ≤ 30) {cnt : Nat} (hcn : M.1 78 1 = nI cnt) (hc6 : cnt ≤ 6) : AMet l 7 yX7_joined cX7_joined 3 (some FieldType.int) [.ref 0, .int w, .int x] M (QI (S_joined M n cnt w x)) := by
  refine AMet.of (by decide) (by simp [aargs, Value.category]) ?_
  show AW l 7 yX7_joined cX7_joined 3 (some FieldType.int) 0 [some (.ref 0), some (.int w), some (.int x)] [] M _
  refine aw_aload_n (i := 0) dX7_joined_0 rfl rfl ?_
  refine aw_getR gf_X7_26 sh_0 rfl dX7_joined_1 ?_
  refine aw_iload_n (i := 1) dX7_joined_4 rfl rfl ?_
  refine aw_cVi ck_X7_198 (m_X3_hasOrNone (by simp [isB] : isB 78)) sh_78 rfl (by decide) (by decide) rfl rfl (Nat.le_of_ble_eq_true rfl) dX7_joined_5 ?_
  refine aw_ifne_b (tgt := 17) dX7_joined_8 (by decide) (fun h8 => ?_) (fun h8 => ?_)
  ·
    refine aw_iload_n (i := 2) dX7_joined_17 rfl rfl ?_
    refine aw_cSi ck_X7_252 m_X7_isEvening (by decide) (by decide) rfl rfl (Nat.le_of_ble_eq_true rfl) dX7_joined_18 ?_
    refine aw_ifne_b (tgt := 31) dX7_joined_21 (by decide) (fun h21 => ?_) (fun h21 => ?_)
    ·
      obtain ⟨m, hm, rfl⟩ := n0_200 h21
      refine aw_aload_n (i := 0) dX7_joined_31 rfl rfl ?_
      refine aw_aload_n (i := 0) dX7_joined_32 rfl rfl ?_
      refine aw_getR gf_X7_40 sh_0 rfl dX7_joined_33 ?_
      refine aw_iload_n (i := 1) dX7_joined_36 rfl rfl ?_
      refine aw_iload_n (i := 2) dX7_joined_37 rfl rfl ?_
      refine aw_cVQ ck_X7_255 (m_X7_goThrough (by simp [isE] : isE 44) hn hn30 hcn hc6 (by omega)) sh_0 rfl (by decide) (by decide) rfl rfl (Nat.le_of_ble_eq_true rfl) dX7_joined_38 (fun r M9 hq9 => ?_)
      obtain ⟨rfl, hg9⟩ := hq9
      have hgI := gtQ_I hn hg9
      refine aw_aload_n (i := 0) dX7_joined_41 rfl rfl ?_
      refine aw_getR gf_X7_40 sh_0 rfl dX7_joined_42 ?_
      refine aw_cVi ck_X7_262 (m_X2_countJoined (by simp [isE] : isE 44)) sh_44 rfl (by decide) (by decide) rfl rfl (Nat.le_of_ble_eq_true rfl) dX7_joined_45 ?_
      exact aw_iret rfl dX7_joined_48 (by first | contradiction | exact ⟨_, rfl, by unfold S_joined; (try rw [nI_clamp (show m < 2 ^ 31 from by omega)]); (first | rw [pIf_t h8] | rw [pIf_f h8] | rw [pIf_f (Int32.not_lt.mpr h8)] | rw [pIf_f (Int32.not_le.mpr h8)] | rw [pIf_t (Int32.not_le.mp h8)] | rw [pIf_t (Int32.not_lt.mp h8)] | rw [pIf_f (Nat.not_lt.mpr h8)] | rw [pIf_f (Nat.not_le.mpr h8)] | rw [pIf_t (Nat.not_le.mp h8)] | rw [pIf_t (Nat.not_lt.mp h8)] | skip); (first | rw [pIf_t h21] | rw [pIf_f h21] | rw [pIf_f (Int32.not_lt.mpr h21)] | rw [pIf_f (Int32.not_le.mpr h21)] | rw [pIf_t (Int32.not_le.mp h21)] | rw [pIf_t (Int32.not_lt.mp h21)] | rw [pIf_f (Nat.not_lt.mpr h21)] | rw [pIf_f (Nat.not_le.mpr h21)] | rw [pIf_t (Nat.not_le.mp h21)] | rw [pIf_t (Nat.not_lt.mp h21)] | skip); (try rw [nI_clamp (show m < 2 ^ 31 from by omega)]); exact ⟨hg9, rfl⟩⟩)
    ·
      refine aw_aload_n (i := 0) dX7_joined_24 rfl rfl ?_
      refine aw_bipush (v := (-6)) dX7_joined_25 (by decide) ?_
      refine aw_cVi ck_X7_86 (m_X7_refuse (k := 5) (by decide) (by decide)) sh_0 rfl (by decide) (by decide) rfl rfl (Nat.le_of_ble_eq_true rfl) dX7_joined_27 ?_
      exact aw_iret rfl dX7_joined_30 (by first | contradiction | exact ⟨_, rfl, by unfold S_joined; (try rw [nI_clamp (show m < 2 ^ 31 from by omega)]); (first | rw [pIf_t h8] | rw [pIf_f h8] | rw [pIf_f (Int32.not_lt.mpr h8)] | rw [pIf_f (Int32.not_le.mpr h8)] | rw [pIf_t (Int32.not_le.mp h8)] | rw [pIf_t (Int32.not_lt.mp h8)] | rw [pIf_f (Nat.not_lt.mpr h8)] | rw [pIf_f (Nat.not_le.mpr h8)] | rw [pIf_t (Nat.not_le.mp h8)] | rw [pIf_t (Nat.not_lt.mp h8)] | skip); (first | rw [pIf_t h21] | rw [pIf_f h21] | rw [pIf_f (Int32.not_lt.mpr h21)] | rw [pIf_f (Int32.not_le.mpr h21)] | rw [pIf_t (Int32.not_le.mp h21)] | rw [pIf_t (Int32.not_lt.mp h21)] | rw [pIf_f (Nat.not_lt.mpr h21)] | rw [pIf_f (Nat.not_le.mpr h21)] | rw [pIf_t (Nat.not_le.mp h21)] | rw [pIf_t (Nat.not_lt.mp h21)] | skip); (try rw [nI_clamp (show m < 2 ^ 31 from by omega)]); exact ⟨rfl, rfl⟩⟩)
  ·
    refine aw_aload_n (i := 0) dX7_joined_11 rfl rfl ?_
    refine aw_iconst (v := (-1)) dX7_joined_12 (by decide) ?_
    refine aw_cVi ck_X7_86 (m_X7_refuse (k := 0) (by decide) (by decide)) sh_0 rfl (by decide) (by decide) rfl rfl (Nat.le_of_ble_eq_true rfl) dX7_joined_13 ?_
    exact aw_iret rfl dX7_joined_16 (by first | contradiction | exact ⟨_, rfl, by unfold S_joined; (try rw [nI_clamp (show m < 2 ^ 31 from by omega)]); (first | rw [pIf_t h8] | rw [pIf_f h8] | rw [pIf_f (Int32.not_lt.mpr h8)] | rw [pIf_f (Int32.not_le.mpr h8)] | rw [pIf_t (Int32.not_le.mp h8)] | rw [pIf_t (Int32.not_lt.mp h8)] | rw [pIf_f (Nat.not_lt.mpr h8)] | rw [pIf_f (Nat.not_le.mpr h8)] | rw [pIf_t (Nat.not_le.mp h8)] | rw [pIf_t (Nat.not_lt.mp h8)] | skip); (try rw [nI_clamp (show m < 2 ^ 31 from by omega)]); exact ⟨rfl, rfl⟩⟩)
def S_tally (M : Mm) (n cnt : Nat) (w x i : Int32) (v : Int32) (M' : Mm) : Prop := pIf (w = -1 ∨ (¬ w < 0 ∧ ¬ M.1 78 1 ≤ w)) (pIf (¬ x < 0 ∧ ¬ 200 < x) (pIf (i < 0) (v = -5 ∧ M' = rfx M 4) (pIf (i < x) (gtQ 44 n cnt w x.toNatClampNeg M M' ∧ v = M'.1 45 i.toNatClampNeg) (v = -5 ∧ M' = rfx M 4))) (v = -5 ∧ M' = rfx M 4)) (v = -5 ∧ M' = rfx M 4)
theorem m_X7_tally {l : Launch} {M : Mm} {w x i : Int32} {n : Nat} (hn : M.1 14 11 = nI n) (hn30 : n ≤ 30) {cnt : Nat} (hcn : M.1 78 1 = nI cnt) (hc6 : cnt ≤ 6) : AMet l 7 yX7_tally cX7_tally 4 (some FieldType.int) [.ref 0, .int w, .int x, .int i] M (QI (S_tally M n cnt w x i)) := by
  refine AMet.of (by decide) (by simp [aargs, Value.category]) ?_
  show AW l 7 yX7_tally cX7_tally 4 (some FieldType.int) 0 [some (.ref 0), some (.int w), some (.int x), some (.int i)] [] M _
  refine aw_aload_n (i := 0) dX7_tally_0 rfl rfl ?_
  refine aw_getR gf_X7_26 sh_0 rfl dX7_tally_1 ?_
  refine aw_iload_n (i := 1) dX7_tally_4 rfl rfl ?_
  refine aw_cVi ck_X7_198 (m_X3_hasOrNone (by simp [isB] : isB 78)) sh_78 rfl (by decide) (by decide) rfl rfl (Nat.le_of_ble_eq_true rfl) dX7_tally_5 ?_
  refine aw_ifeq_b (tgt := 27) dX7_tally_8 (by decide) (fun h8 => ?_) (fun h8 => ?_)
  ·
    refine aw_aload_n (i := 0) dX7_tally_27 rfl rfl ?_
    refine aw_bipush (v := (-5)) dX7_tally_28 (by decide) ?_
    refine aw_cVi ck_X7_86 (m_X7_refuse (k := 4) (by decide) (by decide)) sh_0 rfl (by decide) (by decide) rfl rfl (Nat.le_of_ble_eq_true rfl) dX7_tally_30 ?_
    exact aw_iret rfl dX7_tally_33 (by first | contradiction | exact ⟨_, rfl, by unfold S_tally; (try rw [nI_clamp (show m < 2 ^ 31 from by omega)]); (try rw [nI_clamp (show j < 2 ^ 31 from by omega)]); (first | rw [pIf_t h8] | rw [pIf_f h8] | rw [pIf_f (Int32.not_lt.mpr h8)] | rw [pIf_f (Int32.not_le.mpr h8)] | rw [pIf_t (Int32.not_le.mp h8)] | rw [pIf_t (Int32.not_lt.mp h8)] | rw [pIf_f (Nat.not_lt.mpr h8)] | rw [pIf_f (Nat.not_le.mpr h8)] | rw [pIf_t (Nat.not_le.mp h8)] | rw [pIf_t (Nat.not_lt.mp h8)] | skip); (try rw [nI_clamp (show m < 2 ^ 31 from by omega)]); (try rw [nI_clamp (show j < 2 ^ 31 from by omega)]); exact ⟨rfl, rfl⟩⟩)
  ·
    refine aw_iload_n (i := 2) dX7_tally_11 rfl rfl ?_
    refine aw_cSi ck_X7_252 m_X7_isEvening (by decide) (by decide) rfl rfl (Nat.le_of_ble_eq_true rfl) dX7_tally_12 ?_
    refine aw_ifeq_b (tgt := 27) dX7_tally_15 (by decide) (fun h15 => ?_) (fun h15 => ?_)
    ·
      refine aw_aload_n (i := 0) dX7_tally_27 rfl rfl ?_
      refine aw_bipush (v := (-5)) dX7_tally_28 (by decide) ?_
      refine aw_cVi ck_X7_86 (m_X7_refuse (k := 4) (by decide) (by decide)) sh_0 rfl (by decide) (by decide) rfl rfl (Nat.le_of_ble_eq_true rfl) dX7_tally_30 ?_
      exact aw_iret rfl dX7_tally_33 (by first | contradiction | exact ⟨_, rfl, by unfold S_tally; (try rw [nI_clamp (show m < 2 ^ 31 from by omega)]); (try rw [nI_clamp (show j < 2 ^ 31 from by omega)]); (first | rw [pIf_t h8] | rw [pIf_f h8] | rw [pIf_f (Int32.not_lt.mpr h8)] | rw [pIf_f (Int32.not_le.mpr h8)] | rw [pIf_t (Int32.not_le.mp h8)] | rw [pIf_t (Int32.not_lt.mp h8)] | rw [pIf_f (Nat.not_lt.mpr h8)] | rw [pIf_f (Nat.not_le.mpr h8)] | rw [pIf_t (Nat.not_le.mp h8)] | rw [pIf_t (Nat.not_lt.mp h8)] | skip); (first | rw [pIf_t h15] | rw [pIf_f h15] | rw [pIf_f (Int32.not_lt.mpr h15)] | rw [pIf_f (Int32.not_le.mpr h15)] | rw [pIf_t (Int32.not_le.mp h15)] | rw [pIf_t (Int32.not_lt.mp h15)] | rw [pIf_f (Nat.not_lt.mpr h15)] | rw [pIf_f (Nat.not_le.mpr h15)] | rw [pIf_t (Nat.not_le.mp h15)] | rw [pIf_t (Nat.not_lt.mp h15)] | skip); (try rw [nI_clamp (show m < 2 ^ 31 from by omega)]); (try rw [nI_clamp (show j < 2 ^ 31 from by omega)]); exact ⟨rfl, rfl⟩⟩)
    ·
      obtain ⟨m, hm, rfl⟩ := n0_200 h15
      refine aw_iload_n (i := 3) dX7_tally_18 rfl rfl ?_
      refine aw_if_lt (tgt := 27) dX7_tally_19 (by decide) (fun h19 => ?_) (fun h19 => ?_)
      ·
        refine aw_aload_n (i := 0) dX7_tally_27 rfl rfl ?_
        refine aw_bipush (v := (-5)) dX7_tally_28 (by decide) ?_
        refine aw_cVi ck_X7_86 (m_X7_refuse (k := 4) (by decide) (by decide)) sh_0 rfl (by decide) (by decide) rfl rfl (Nat.le_of_ble_eq_true rfl) dX7_tally_30 ?_
        exact aw_iret rfl dX7_tally_33 (by first | contradiction | exact ⟨_, rfl, by unfold S_tally; (try rw [nI_clamp (show m < 2 ^ 31 from by omega)]); (try rw [nI_clamp (show j < 2 ^ 31 from by omega)]); (first | rw [pIf_t h8] | rw [pIf_f h8] | rw [pIf_f (Int32.not_lt.mpr h8)] | rw [pIf_f (Int32.not_le.mpr h8)] | rw [pIf_t (Int32.not_le.mp h8)] | rw [pIf_t (Int32.not_lt.mp h8)] | rw [pIf_f (Nat.not_lt.mpr h8)] | rw [pIf_f (Nat.not_le.mpr h8)] | rw [pIf_t (Nat.not_le.mp h8)] | rw [pIf_t (Nat.not_lt.mp h8)] | skip); (first | rw [pIf_t h15] | rw [pIf_f h15] | rw [pIf_f (Int32.not_lt.mpr h15)] | rw [pIf_f (Int32.not_le.mpr h15)] | rw [pIf_t (Int32.not_le.mp h15)] | rw [pIf_t (Int32.not_lt.mp h15)] | rw [pIf_f (Nat.not_lt.mpr h15)] | rw [pIf_f (Nat.not_le.mpr h15)] | rw [pIf_t (Nat.not_le.mp h15)] | rw [pIf_t (Nat.not_lt.mp h15)] | skip); (first | rw [pIf_t h19] | rw [pIf_f h19] | rw [pIf_f (Int32.not_lt.mpr h19)] | rw [pIf_f (Int32.not_le.mpr h19)] | rw [pIf_t (Int32.not_le.mp h19)] | rw [pIf_t (Int32.not_lt.mp h19)] | rw [pIf_f (Nat.not_lt.mpr h19)] | rw [pIf_f (Nat.not_le.mpr h19)] | rw [pIf_t (Nat.not_le.mp h19)] | rw [pIf_t (Nat.not_lt.mp h19)] | skip); (try rw [nI_clamp (show m < 2 ^ 31 from by omega)]); (try rw [nI_clamp (show j < 2 ^ 31 from by omega)]); exact ⟨rfl, rfl⟩⟩)
      ·
        refine aw_iload_n (i := 3) dX7_tally_22 rfl rfl ?_
        refine aw_iload_n (i := 2) dX7_tally_23 rfl rfl ?_
        refine aw_icmp_lt (tgt := 34) dX7_tally_24 (by decide) (fun h24 => ?_) (fun h24 => ?_)
        ·
          obtain ⟨j, hj, rfl⟩ : ∃ j, j < m ∧ i = nI j := by
            rcases pk_ix i (n := m) (by omega) with q | q | q
            · exact absurd q h19
            · exact absurd h24 (Int32.not_lt.mpr q)
            · exact q
          refine aw_aload_n (i := 0) dX7_tally_34 rfl rfl ?_
          refine aw_aload_n (i := 0) dX7_tally_35 rfl rfl ?_
          refine aw_getR gf_X7_40 sh_0 rfl dX7_tally_36 ?_
          refine aw_iload_n (i := 1) dX7_tally_39 rfl rfl ?_
          refine aw_iload_n (i := 2) dX7_tally_40 rfl rfl ?_
          refine aw_cVQ ck_X7_255 (m_X7_goThrough (by simp [isE] : isE 44) hn hn30 hcn hc6 (by omega)) sh_0 rfl (by decide) (by decide) rfl rfl (Nat.le_of_ble_eq_true rfl) dX7_tally_41 (fun r M9 hq9 => ?_)
          obtain ⟨rfl, hg9⟩ := hq9
          have hgI := gtQ_I hn hg9
          refine aw_aload_n (i := 0) dX7_tally_44 rfl rfl ?_
          refine aw_getR gf_X7_40 sh_0 rfl dX7_tally_45 ?_
          refine aw_getR gf_X7_265 sh_44 rfl dX7_tally_48 ?_
          refine aw_iload_n (i := 3) dX7_tally_51 rfl rfl ?_
          refine aw_ialdN sh_45 (by omega) (by omega) dX7_tally_52 ?_
          exact aw_iret rfl dX7_tally_53 (by first | contradiction | exact ⟨_, rfl, by unfold S_tally; (try rw [nI_clamp (show m < 2 ^ 31 from by omega)]); (try rw [nI_clamp (show j < 2 ^ 31 from by omega)]); (first | rw [pIf_t h8] | rw [pIf_f h8] | rw [pIf_f (Int32.not_lt.mpr h8)] | rw [pIf_f (Int32.not_le.mpr h8)] | rw [pIf_t (Int32.not_le.mp h8)] | rw [pIf_t (Int32.not_lt.mp h8)] | rw [pIf_f (Nat.not_lt.mpr h8)] | rw [pIf_f (Nat.not_le.mpr h8)] | rw [pIf_t (Nat.not_le.mp h8)] | rw [pIf_t (Nat.not_lt.mp h8)] | skip); (first | rw [pIf_t h15] | rw [pIf_f h15] | rw [pIf_f (Int32.not_lt.mpr h15)] | rw [pIf_f (Int32.not_le.mpr h15)] | rw [pIf_t (Int32.not_le.mp h15)] | rw [pIf_t (Int32.not_lt.mp h15)] | rw [pIf_f (Nat.not_lt.mpr h15)] | rw [pIf_f (Nat.not_le.mpr h15)] | rw [pIf_t (Nat.not_le.mp h15)] | rw [pIf_t (Nat.not_lt.mp h15)] | skip); (first | rw [pIf_t h19] | rw [pIf_f h19] | rw [pIf_f (Int32.not_lt.mpr h19)] | rw [pIf_f (Int32.not_le.mpr h19)] | rw [pIf_t (Int32.not_le.mp h19)] | rw [pIf_t (Int32.not_lt.mp h19)] | rw [pIf_f (Nat.not_lt.mpr h19)] | rw [pIf_f (Nat.not_le.mpr h19)] | rw [pIf_t (Nat.not_le.mp h19)] | rw [pIf_t (Nat.not_lt.mp h19)] | skip); (first | rw [pIf_t h24] | rw [pIf_f h24] | rw [pIf_f (Int32.not_lt.mpr h24)] | rw [pIf_f (Int32.not_le.mpr h24)] | rw [pIf_t (Int32.not_le.mp h24)] | rw [pIf_t (Int32.not_lt.mp h24)] | rw [pIf_f (Nat.not_lt.mpr h24)] | rw [pIf_f (Nat.not_le.mpr h24)] | rw [pIf_t (Nat.not_le.mp h24)] | rw [pIf_t (Nat.not_lt.mp h24)] | skip); (try rw [nI_clamp (show m < 2 ^ 31 from by omega)]); (try rw [nI_clamp (show j < 2 ^ 31 from by omega)]); exact ⟨hg9, rfl⟩⟩)
        ·
          refine aw_aload_n (i := 0) dX7_tally_27 rfl rfl ?_
          refine aw_bipush (v := (-5)) dX7_tally_28 (by decide) ?_
          refine aw_cVi ck_X7_86 (m_X7_refuse (k := 4) (by decide) (by decide)) sh_0 rfl (by decide) (by decide) rfl rfl (Nat.le_of_ble_eq_true rfl) dX7_tally_30 ?_
          exact aw_iret rfl dX7_tally_33 (by first | contradiction | exact ⟨_, rfl, by unfold S_tally; (try rw [nI_clamp (show m < 2 ^ 31 from by omega)]); (try rw [nI_clamp (show j < 2 ^ 31 from by omega)]); (first | rw [pIf_t h8] | rw [pIf_f h8] | rw [pIf_f (Int32.not_lt.mpr h8)] | rw [pIf_f (Int32.not_le.mpr h8)] | rw [pIf_t (Int32.not_le.mp h8)] | rw [pIf_t (Int32.not_lt.mp h8)] | rw [pIf_f (Nat.not_lt.mpr h8)] | rw [pIf_f (Nat.not_le.mpr h8)] | rw [pIf_t (Nat.not_le.mp h8)] | rw [pIf_t (Nat.not_lt.mp h8)] | skip); (first | rw [pIf_t h15] | rw [pIf_f h15] | rw [pIf_f (Int32.not_lt.mpr h15)] | rw [pIf_f (Int32.not_le.mpr h15)] | rw [pIf_t (Int32.not_le.mp h15)] | rw [pIf_t (Int32.not_lt.mp h15)] | rw [pIf_f (Nat.not_lt.mpr h15)] | rw [pIf_f (Nat.not_le.mpr h15)] | rw [pIf_t (Nat.not_le.mp h15)] | rw [pIf_t (Nat.not_lt.mp h15)] | skip); (first | rw [pIf_t h19] | rw [pIf_f h19] | rw [pIf_f (Int32.not_lt.mpr h19)] | rw [pIf_f (Int32.not_le.mpr h19)] | rw [pIf_t (Int32.not_le.mp h19)] | rw [pIf_t (Int32.not_lt.mp h19)] | rw [pIf_f (Nat.not_lt.mpr h19)] | rw [pIf_f (Nat.not_le.mpr h19)] | rw [pIf_t (Nat.not_le.mp h19)] | rw [pIf_t (Nat.not_lt.mp h19)] | skip); (first | rw [pIf_t h24] | rw [pIf_f h24] | rw [pIf_f (Int32.not_lt.mpr h24)] | rw [pIf_f (Int32.not_le.mpr h24)] | rw [pIf_t (Int32.not_le.mp h24)] | rw [pIf_t (Int32.not_lt.mp h24)] | rw [pIf_f (Nat.not_lt.mpr h24)] | rw [pIf_f (Nat.not_le.mpr h24)] | rw [pIf_t (Nat.not_le.mp h24)] | rw [pIf_t (Nat.not_lt.mp h24)] | skip); (try rw [nI_clamp (show m < 2 ^ 31 from by omega)]); (try rw [nI_clamp (show j < 2 ^ 31 from by omega)]); exact ⟨rfl, rfl⟩⟩)
theorem calm_o {c k : Nat} {M : Mm} (h : k ≠ c ∧ k ≠ c + 7 ∧ k ≠ c + 8 ∧ k ≠ c + 9 ∧ k ≠ c + 10) : (calmM c M).1 k = M.1 k := by
  unfold calmM
  rw [mI_other h.1, mI_other h.1, mI_other h.1, rI_other h.2.1, rI_other h.2.2.2.2, rI_other h.2.2.2.1, rI_other h.2.2.1]
theorem calm_n {c : Nat} {M : Mm} {j : Nat} (h : j ≠ 12 ∧ j ≠ 14 ∧ j ≠ 15) : (calmM c M).1 c j = M.1 c j := by
  unfold calmM
  rw [mI_self, upd_other h.2.2, mI_self, upd_other h.2.1, mI_self, upd_other h.1, rI_other (by omega), rI_other (by omega), rI_other (by omega), rI_other (by omega)]
theorem alone_o {c p k : Nat} {M : Mm} (h : k ≠ c ∧ k ≠ c + 6 ∧ k ≠ c + 7 ∧ k ≠ c + 8 ∧ k ≠ c + 9 ∧ k ≠ c + 10) : (aloneM c p M).1 k = M.1 k := by
  unfold aloneM
  rw [mI_other h.2.2.2.2.1, mI_other h.2.2.2.1, rI_other h.2.1, calm_o ⟨h.1, h.2.2⟩]
theorem alone_n {c p : Nat} {M : Mm} : (aloneM c p M).1 c 11 = M.1 c 11 := by
  unfold aloneM
  rw [mI_other (by omega), mI_other (by omega), rI_other (by omega), calm_n (by decide)]
def S_grows (M : Mm) (n cnt : Nat) (x : Int32) (v : Int32) (M' : Mm) : Prop := pIf (¬ x < 0 ∧ ¬ M.1 14 11 ≤ x) (∃ X, becM 46 14 M X ∧ evQ 44 n (lawRow 78 cnt (M.1 78 2)) 100 (aloneM 46 x.toNatClampNeg X) M' ∧ v = bcI (M'.1 44 3) - 1) (v = -1 ∧ M' = rfx M 0)
theorem m_X7_grows {l : Launch} {M : Mm} {x : Int32} {n : Nat} (hn : M.1 14 11 = nI n) (hn30 : n ≤ 30) {cnt : Nat} (hcn : M.1 78 1 = nI cnt) (hc6 : cnt ≤ 6) : AMet l 6 yX7_grows cX7_grows 2 (some FieldType.int) [.ref 0, .int x] M (QI (S_grows M n cnt x)) := by
  refine AMet.of (by decide) (by simp [aargs, Value.category]) ?_
  show AW l 6 yX7_grows cX7_grows 2 (some FieldType.int) 0 [some (.ref 0), some (.int x)] [] M _
  refine aw_aload_n (i := 0) dX7_grows_0 rfl rfl ?_
  refine aw_getR gf_X7_19 sh_0 rfl dX7_grows_1 ?_
  refine aw_iload_n (i := 1) dX7_grows_4 rfl rfl ?_
  refine aw_cVi ck_X7_121 (m_X1_has (by simp [isC] : isC 14)) sh_14 rfl (by decide) (by decide) rfl rfl (Nat.le_of_ble_eq_true rfl) dX7_grows_5 ?_
  refine aw_ifne_b (tgt := 17) dX7_grows_8 (by decide) (fun h8 => ?_) (fun h8 => ?_)
  ·
    obtain ⟨p, hp, rfl⟩ := hasC hn hn30 h8
    refine aw_aload_n (i := 0) dX7_grows_17 rfl rfl ?_
    refine aw_getR gf_X7_40 sh_0 rfl dX7_grows_18 ?_
    refine aw_aload_n (i := 0) dX7_grows_21 rfl rfl ?_
    refine aw_getR gf_X7_19 sh_0 rfl dX7_grows_22 ?_
    refine aw_cVQ ck_X7_268 (m_X2_startFrom (by simp [isE] : isE 44) (by simp [isC] : isC 14) (apE (by simp [isE]))) sh_44 rfl (by decide) (by decide) rfl rfl (Nat.le_of_ble_eq_true rfl) dX7_grows_25 (fun r M9 hq9 => ?_)
    obtain ⟨rfl, hs1⟩ := hq9
    generalize M9 = X at hs1 ⊢
    have hnX : X.1 46 11 = nI n := bec_n (v := 44) hn hs1
    have hcX : (aloneM 46 p X).1 78 1 = nI cnt := (congrFun (alone_o (by decide)) _).trans ((congrFun (bec_o (v := 44) hs1 (by omega)) _).trans hcn)
    have hfX : (aloneM 46 p X).1 78 2 = M.1 78 2 := (congrFun (alone_o (by decide)) _).trans (congrFun (bec_o (v := 44) hs1 (by omega)) _)
    have hnA : (aloneM 46 p X).1 (44 + 2) 11 = nI n := alone_n.trans hnX
    refine aw_aload_n (i := 0) dX7_grows_28 rfl rfl ?_
    refine aw_getR gf_X7_40 sh_0 rfl dX7_grows_29 ?_
    refine aw_getR gf_X7_272 sh_44 rfl dX7_grows_32 ?_
    refine aw_iload_n (i := 1) dX7_grows_35 rfl rfl ?_
    refine aw_cVv ck_X7_273 (m_X1_leaveAloneWith (by simp [isC] : isC 46) (by omega) hnX hn30) sh_46 rfl (by decide) (by decide) rfl rfl (Nat.le_of_ble_eq_true rfl) dX7_grows_36 ?_
    refine aw_aload_n (i := 0) dX7_grows_39 rfl rfl ?_
    refine aw_getR gf_X7_40 sh_0 rfl dX7_grows_40 ?_
    refine aw_aload_n (i := 0) dX7_grows_43 rfl rfl ?_
    refine aw_getR gf_X7_26 sh_0 rfl dX7_grows_44 ?_
    refine aw_cVr ck_X7_210 (m_X3_numbersInForce (by simp [isB] : isB 78) hcX hc6) sh_78 rfl (by decide) (by decide) rfl rfl (Nat.le_of_ble_eq_true rfl) dX7_grows_47 ?_
    refine aw_bipush (v := 100) dX7_grows_50 (by decide) ?_
    refine aw_cVQ ck_X7_276 (m_X2_goThrough (by simp [isE] : isE 44) (shLR (by simp [isB]) hc6) (lr_out2 (by simp [isE]) hc6) hnA hn30 (by decide)) sh_44 rfl (by decide) (by decide) rfl rfl (Nat.le_of_ble_eq_true rfl) dX7_grows_52 (fun r M9 hq9 => ?_)
    obtain ⟨rfl, hs2⟩ := hq9
    rw [hfX] at hs2
    refine aw_aload_n (i := 0) dX7_grows_55 rfl rfl ?_
    refine aw_getR gf_X7_40 sh_0 rfl dX7_grows_56 ?_
    refine aw_cVi ck_X7_262 (m_X2_countJoined (by simp [isE] : isE 44)) sh_44 rfl (by decide) (by decide) rfl rfl (Nat.le_of_ble_eq_true rfl) dX7_grows_59 ?_
    refine aw_iconst (v := 1) dX7_grows_62 (by decide) ?_
    refine aw_isub dX7_grows_63 ?_
    exact aw_iret rfl dX7_grows_64 (by first | contradiction | exact ⟨_, rfl, by unfold S_grows; (try rw [nI_clamp (show p < 2 ^ 31 from by omega)]); (first | rw [pIf_t h8] | rw [pIf_f h8] | rw [pIf_f (Int32.not_lt.mpr h8)] | rw [pIf_f (Int32.not_le.mpr h8)] | rw [pIf_t (Int32.not_le.mp h8)] | rw [pIf_t (Int32.not_lt.mp h8)] | rw [pIf_f (Nat.not_lt.mpr h8)] | rw [pIf_f (Nat.not_le.mpr h8)] | rw [pIf_t (Nat.not_le.mp h8)] | rw [pIf_t (Nat.not_lt.mp h8)] | skip); (try rw [nI_clamp (show p < 2 ^ 31 from by omega)]); exact ⟨X, hs1, hs2, rfl⟩⟩)
  ·
    refine aw_aload_n (i := 0) dX7_grows_11 rfl rfl ?_
    refine aw_iconst (v := (-1)) dX7_grows_12 (by decide) ?_
    refine aw_cVi ck_X7_86 (m_X7_refuse (k := 0) (by decide) (by decide)) sh_0 rfl (by decide) (by decide) rfl rfl (Nat.le_of_ble_eq_true rfl) dX7_grows_13 ?_
    exact aw_iret rfl dX7_grows_16 (by first | contradiction | exact ⟨_, rfl, by unfold S_grows; (try rw [nI_clamp (show p < 2 ^ 31 from by omega)]); (first | rw [pIf_t h8] | rw [pIf_f h8] | rw [pIf_f (Int32.not_lt.mpr h8)] | rw [pIf_f (Int32.not_le.mpr h8)] | rw [pIf_t (Int32.not_le.mp h8)] | rw [pIf_t (Int32.not_lt.mp h8)] | rw [pIf_f (Nat.not_lt.mpr h8)] | rw [pIf_f (Nat.not_le.mpr h8)] | rw [pIf_t (Nat.not_le.mp h8)] | rw [pIf_t (Nat.not_lt.mp h8)] | skip); (try rw [nI_clamp (show p < 2 ^ 31 from by omega)]); exact ⟨rfl, rfl⟩⟩)
def S_front (M : Mm) (n cnt : Nat) (w : Int32) (v : Int32) (M' : Mm) : Prop := pIf (w = -1 ∨ (¬ w < 0 ∧ ¬ M.1 78 1 ≤ w)) (∃ X M0, becM 46 14 M X ∧ lsM 46 n X M0 ∧ itR 60 (tickQ 46 n (lawRow 78 cnt w)) M0 M' ∧ v = (if 6 ≤ lsr (M'.1 (46 + 3)) (M'.1 (46 + 10)) n then -1 else lsr (M'.1 (46 + 3)) (M'.1 (46 + 10)) n)) (v = -11 ∧ M' = rfx M 0)
theorem m_X7_front {l : Launch} {M : Mm} {w : Int32} {n : Nat} (hn : M.1 14 11 = nI n) (hn30 : n ≤ 30) {cnt : Nat} (hcn : M.1 78 1 = nI cnt) (hc6 : cnt ≤ 6) : AMet l 6 yX7_front cX7_front 2 (some FieldType.int) [.ref 0, .int w] M (QI (S_front M n cnt w)) := by
  refine AMet.of (by decide) (by simp [aargs, Value.category]) ?_
  show AW l 6 yX7_front cX7_front 2 (some FieldType.int) 0 [some (.ref 0), some (.int w)] [] M _
  refine aw_aload_n (i := 0) dX7_front_0 rfl rfl ?_
  refine aw_getR gf_X7_26 sh_0 rfl dX7_front_1 ?_
  refine aw_iload_n (i := 1) dX7_front_4 rfl rfl ?_
  refine aw_cVi ck_X7_198 (m_X3_hasOrNone (by simp [isB] : isB 78)) sh_78 rfl (by decide) (by decide) rfl rfl (Nat.le_of_ble_eq_true rfl) dX7_front_5 ?_
  refine aw_ifne_b (tgt := 18) dX7_front_8 (by decide) (fun h8 => ?_) (fun h8 => ?_)
  ·
    refine aw_aload_n (i := 0) dX7_front_18 rfl rfl ?_
    refine aw_getR gf_X7_40 sh_0 rfl dX7_front_19 ?_
    refine aw_aload_n (i := 0) dX7_front_22 rfl rfl ?_
    refine aw_getR gf_X7_19 sh_0 rfl dX7_front_23 ?_
    refine aw_cVQ ck_X7_268 (m_X2_startFrom (by simp [isE] : isE 44) (by simp [isC] : isC 14) (apE (by simp [isE]))) sh_44 rfl (by decide) (by decide) rfl rfl (Nat.le_of_ble_eq_true rfl) dX7_front_26 (fun r M9 hq9 => ?_)
    obtain ⟨rfl, hs1⟩ := hq9
    generalize M9 = X at hs1 ⊢
    have hnX : X.1 46 11 = nI n := bec_n (v := 44) hn hs1
    have hcX : X.1 78 1 = nI cnt := (congrFun (bec_o (v := 44) hs1 (by omega)) _).trans hcn
    refine aw_aload_n (i := 0) dX7_front_29 rfl rfl ?_
    refine aw_getR gf_X7_40 sh_0 rfl dX7_front_30 ?_
    refine aw_getR gf_X7_272 sh_44 rfl dX7_front_33 ?_
    refine aw_aload_n (i := 0) dX7_front_36 rfl rfl ?_
    refine aw_getR gf_X7_26 sh_0 rfl dX7_front_37 ?_
    refine aw_iload_n (i := 1) dX7_front_40 rfl rfl ?_
    refine aw_cVr ck_X7_194 (m_X3_numbersOf (by simp [isB] : isB 78) hcX hc6) sh_78 rfl (by decide) (by decide) rfl rfl (Nat.le_of_ble_eq_true rfl) dX7_front_41 ?_
    refine aw_bipush (v := 60) dX7_front_44 (by decide) ?_
    refine aw_cVQ ck_X7_214 (m_X1_passTicks (m := 60) (by simp [isC] : isC 46) (shLR (by simp [isB]) hc6) (fun q => lr_out2 (v := 44) (k := w) (by simp [isE]) hc6 (by omega)) hnX hn30 (by decide)) sh_46 rfl (by decide) (by decide) rfl rfl (Nat.le_of_ble_eq_true rfl) dX7_front_46 (fun r M9 hq9 => ?_)
    obtain ⟨rfl, M0, hls, hit⟩ := hq9
    have hn9 := (itR_I (lsM_I hnX hls) _ _ hit).2.1
    refine aw_aload_n (i := 0) dX7_front_49 rfl rfl ?_
    refine aw_getR gf_X7_40 sh_0 rfl dX7_front_50 ?_
    refine aw_getR gf_X7_272 sh_44 rfl dX7_front_53 ?_
    refine aw_cVi ck_X7_284 (m_X1_leastStandingRow (by simp [isC] : isC 46) hn9 hn30) sh_46 rfl (by decide) (by decide) rfl rfl (Nat.le_of_ble_eq_true rfl) dX7_front_56 ?_
    exact aw_iret rfl dX7_front_59 (by first | contradiction | exact ⟨_, rfl, by unfold S_front; (first | rw [pIf_t h8] | rw [pIf_f h8] | rw [pIf_f (Int32.not_lt.mpr h8)] | rw [pIf_f (Int32.not_le.mpr h8)] | rw [pIf_t (Int32.not_le.mp h8)] | rw [pIf_t (Int32.not_lt.mp h8)] | rw [pIf_f (Nat.not_lt.mpr h8)] | rw [pIf_f (Nat.not_le.mpr h8)] | rw [pIf_t (Nat.not_le.mp h8)] | rw [pIf_t (Nat.not_lt.mp h8)] | skip); exact ⟨X, M0, hs1, hls, hit, rfl⟩⟩)
  ·
    refine aw_aload_n (i := 0) dX7_front_11 rfl rfl ?_
    refine aw_bipush (v := (-11)) dX7_front_12 (by decide) ?_
    refine aw_cVi ck_X7_86 (m_X7_refuse (k := 0) (by decide) (by decide)) sh_0 rfl (by decide) (by decide) rfl rfl (Nat.le_of_ble_eq_true rfl) dX7_front_14 ?_
    exact aw_iret rfl dX7_front_17 (by first | contradiction | exact ⟨_, rfl, by unfold S_front; (first | rw [pIf_t h8] | rw [pIf_f h8] | rw [pIf_f (Int32.not_lt.mpr h8)] | rw [pIf_f (Int32.not_le.mpr h8)] | rw [pIf_t (Int32.not_le.mp h8)] | rw [pIf_t (Int32.not_lt.mp h8)] | rw [pIf_f (Nat.not_lt.mpr h8)] | rw [pIf_f (Nat.not_le.mpr h8)] | rw [pIf_t (Nat.not_le.mp h8)] | rw [pIf_t (Nat.not_lt.mp h8)] | skip); exact ⟨rfl, rfl⟩⟩)
