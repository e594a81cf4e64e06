theorem m_J7_fill_53178 {l : Launch} {M : Mm} {a N q : Nat} {v : Int32} (hs : shp[a]? = some (.inr (0, N, q))) (hN : N < 1000) : AMet l 1 yJ7_fill_53178 cJ7_fill_53178 4 none [.ref a, .int v] M (QE none (rI M a (fillR (M.1 a) N v))) := by
  refine AMet.of (by decide) (by simp [aargs, Value.category]) ?_
  show AW l 1 yJ7_fill_53178 cJ7_fill_53178 4 none 0 [some (.ref a), some (.int v), none, none] [] M _
  refine aw_iconst (v := 0) dJ7_fill_53178_0 (by decide) ?_
  refine aw_istore_n (i := 2) dJ7_fill_53178_1 rfl (by decide) ?_
  refine aw_aload_n (i := 0) dJ7_fill_53178_2 rfl rfl ?_
  refine aw_alen hs (by decide) rfl dJ7_fill_53178_3 ?_
  refine aw_top (show _ = nI N from rfl) ?_
  refine aw_istore_n (i := 3) dJ7_fill_53178_4 rfl (by decide) ?_
  have lp5 : ∀ k i, i + k = N → AW l 1 yJ7_fill_53178 cJ7_fill_53178 4 none 5 [some (.ref a), some (.int v), some (.int (nI i)), some (.int (nI N))] [] (rI M a (fillR (M.1 a) i v)) (QE none (rI M a (fillR (M.1 a) N v))) := by
    intro k
    induction k using Nat.strongRecOn with
    | _ k ih =>
    intro i hk
    refine aw_iload_n (i := 2) dJ7_fill_53178_5 rfl rfl ?_
    refine aw_iload_n (i := 3) dJ7_fill_53178_6 rfl rfl ?_
    refine aw_icmp_geN (tgt := 20) (by omega) (by omega) dJ7_fill_53178_7 (by decide) (fun h7 => ?_) (fun h7 => ?_)
    ·
      exact aw_vret rfl dJ7_fill_53178_20 ⟨rfl, by rw [show i = N by omega]⟩
    ·
      refine aw_aload_n (i := 0) dJ7_fill_53178_10 rfl rfl ?_
      refine aw_iload_n (i := 2) dJ7_fill_53178_11 rfl rfl ?_
      refine aw_iload_n (i := 1) dJ7_fill_53178_12 rfl rfl ?_
      refine aw_iastN hs (by omega) (by omega) dJ7_fill_53178_13 ?_
      refine aw_iincN (i := 2) dJ7_fill_53178_14 rfl (by decide) ?_
      refine aw_goto (tgt := 5) dJ7_fill_53178_17 (by decide) ?_
      have e9 : mI (rI M a (fillR (M.1 a) i v)) a i v = rI M a (fillR (M.1 a) (i + 1) v) := by rw [mI_rI, rI_rI, rI_self, fillR_succ]
      rw [e9]
      exact ih (k - 1) (by omega) (i + 1) (by omega)
  have e0 := lp5 N 0 (by omega)
  rw [fillR_0, rI_id] at e0
  exact e0
theorem m_J7_fill_d0a16 {l : Launch} {M : Mm} {a N q : Nat} {v : Int64} (hs : shp[a]? = some (.inr (2, N, q))) (hN : N < 1000) : AMet l 1 yJ7_fill_d0a16 cJ7_fill_d0a16 5 none [.ref a, .long v] M (QE none (rL M a (fillL (M.2 a) N v))) := by
  refine AMet.of (by decide) (by simp [aargs, Value.category]) ?_
  show AW l 1 yJ7_fill_d0a16 cJ7_fill_d0a16 5 none 0 [some (.ref a), some (.long v), none, none, none] [] M _
  refine aw_iconst (v := 0) dJ7_fill_d0a16_0 (by decide) ?_
  refine aw_istore_n (i := 3) dJ7_fill_d0a16_1 rfl (by decide) ?_
  refine aw_aload_n (i := 0) dJ7_fill_d0a16_2 rfl rfl ?_
  refine aw_alen hs (by decide) rfl dJ7_fill_d0a16_3 ?_
  refine aw_top (show _ = nI N from rfl) ?_
  refine aw_istore (i := 4) dJ7_fill_d0a16_4 (by decide) ?_
  have lp6 : ∀ k i, i + k = N → AW l 1 yJ7_fill_d0a16 cJ7_fill_d0a16 5 none 6 [some (.ref a), some (.long v), none, some (.int (nI i)), some (.int (nI N))] [] (rL M a (fillL (M.2 a) i v)) (QE none (rL M a (fillL (M.2 a) N v))) := by
    intro k
    induction k using Nat.strongRecOn with
    | _ k ih =>
    intro i hk
    refine aw_iload_n (i := 3) dJ7_fill_d0a16_6 rfl rfl ?_
    refine aw_iload (i := 4) dJ7_fill_d0a16_7 rfl ?_
    refine aw_icmp_geN (tgt := 22) (by omega) (by omega) dJ7_fill_d0a16_9 (by decide) (fun h9 => ?_) (fun h9 => ?_)
    ·
      exact aw_vret rfl dJ7_fill_d0a16_22 ⟨rfl, by rw [show i = N by omega]⟩
    ·
      refine aw_aload_n (i := 0) dJ7_fill_d0a16_12 rfl rfl ?_
      refine aw_iload_n (i := 3) dJ7_fill_d0a16_13 rfl rfl ?_
      refine aw_lload_n (i := 1) dJ7_fill_d0a16_14 rfl rfl ?_
      refine aw_lastN hs (by omega) (by omega) dJ7_fill_d0a16_15 ?_
      refine aw_iincN (i := 3) dJ7_fill_d0a16_16 rfl (by decide) ?_
      refine aw_goto (tgt := 6) dJ7_fill_d0a16_19 (by decide) ?_
      have e9 : mL (rL M a (fillL (M.2 a) i v)) a i v = rL M a (fillL (M.2 a) (i + 1) v) := by rw [mL_rL, rL_rL, rL_self, fillL_succ]
      rw [e9]
      exact ih (k - 1) (by omega) (i + 1) (by omega)
  have e0 := lp6 N 0 (by omega)
  rw [fillL_0, rL_id] at e0
  exact e0
theorem m_X1_has {l : Launch} {M : Mm} {c : Nat} {p : Int32} (hc : isC c) : AMet l 1 yX1_has cX1_has 2 (some FieldType.boolean) [.ref c, .int p] M (QE (some (.int (b01 (¬ p < 0 ∧ ¬ M.1 c 11 ≤ p)))) M) := by
  refine AMet.of (by decide) (by simp [aargs, Value.category]) ?_
  show AW l 1 yX1_has cX1_has 2 (some FieldType.boolean) 0 [some (.ref c), some (.int p)] [] M _
  refine aw_iload_n (i := 1) dX1_has_0 rfl rfl ?_
  refine aw_if_lt (tgt := 16) dX1_has_1 (by decide) (fun h1 => ?_) (fun h1 => ?_)
  ·
    refine aw_iconst (v := 0) dX1_has_16 (by decide) ?_
    exact aw_zret rfl (by simp) dX1_has_17 (by simp [QE, b01, h1])
  ·
    refine aw_iload_n (i := 1) dX1_has_4 rfl rfl ?_
    refine aw_aload_n (i := 0) dX1_has_5 rfl rfl ?_
    refine aw_getI gf_X1_47 (shC hc) rfl dX1_has_6 ?_
    refine aw_icmp_ge (tgt := 16) dX1_has_9 (by decide) (fun h9 => ?_) (fun h9 => ?_)
    ·
      refine aw_iconst (v := 0) dX1_has_16 (by decide) ?_
      exact aw_zret rfl (by simp) dX1_has_17 (by simp [QE, b01, h1, h9])
    ·
      refine aw_iconst (v := 1) dX1_has_12 (by decide) ?_
      refine aw_goto (tgt := 17) dX1_has_13 (by decide) ?_
      exact aw_zret rfl (by simp) dX1_has_17 (by simp [QE, b01, h1, h9])
theorem m_X1_isTaken {l : Launch} {M : Mm} {c : Nat} {w : Int32} (hc : isC c) {n : Nat} (hn : M.1 c 11 = nI n) (hn30 : n ≤ 30) : AMet l 1 yX1_isTaken cX1_isTaken 3 (some FieldType.boolean) [.ref c, .int w] M (QE (some (.int (b01 (∃ i, i < n ∧ M.1 (c + 3) i = w)))) M) := by
  refine AMet.of (by decide) (by simp [aargs, Value.category]) ?_
  show AW l 1 yX1_isTaken cX1_isTaken 3 (some FieldType.boolean) 0 [some (.ref c), some (.int w), none] [] M _
  refine aw_iconst (v := 0) dX1_isTaken_0 (by decide) ?_
  refine aw_istore_n (i := 2) dX1_isTaken_1 rfl (by decide) ?_
  have lp2 : ∀ k i, i + k = n → (∀ j, j < i → ¬ M.1 (c + 3) j = w) → AW l 1 yX1_isTaken cX1_isTaken 3 (some FieldType.boolean) 2 [some (.ref c), some (.int w), some (.int (nI i))] [] M (QE (some (.int (b01 (∃ i, i < n ∧ M.1 (c + 3) i = w)))) M) := by
    intro k
    induction k using Nat.strongRecOn with
    | _ k ih =>
    intro i hk hj
    refine aw_iload_n (i := 2) dX1_isTaken_2 rfl rfl ?_
    refine aw_aload_n (i := 0) dX1_isTaken_3 rfl rfl ?_
    refine aw_getN (n := n) gf_X1_47 (shC hc) rfl hn dX1_isTaken_4 ?_
    refine aw_icmp_geN (tgt := 28) (by omega) (by omega) dX1_isTaken_7 (by decide) (fun h7 => ?_) (fun h7 => ?_)
    ·
      refine aw_iconst (v := 0) dX1_isTaken_28 (by decide) ?_
      exact aw_zret rfl (by simp) dX1_isTaken_29 ⟨by rw [b01_f]; rintro ⟨j, h1, h2⟩; exact hj j (by omega) h2, rfl⟩
    ·
      refine aw_aload_n (i := 0) dX1_isTaken_10 rfl rfl ?_
      refine aw_getR gf_X1_20 (shC hc) rfl dX1_isTaken_11 ?_
      refine aw_iload_n (i := 2) dX1_isTaken_14 rfl rfl ?_
      refine aw_ialdN (shC_3 hc) (by omega) (by omega) dX1_isTaken_15 ?_
      refine aw_iload_n (i := 1) dX1_isTaken_16 rfl rfl ?_
      refine aw_icmp_ne (tgt := 22) dX1_isTaken_17 (by decide) (fun h17 => ?_) (fun h17 => ?_)
      ·
        refine aw_iincN (i := 2) dX1_isTaken_22 rfl (by decide) ?_
        refine aw_goto (tgt := 2) dX1_isTaken_25 (by decide) ?_
        exact ih (k - 1) (by omega) (i + 1) (by omega) (fun j h => by
            by_cases e : j = i
            · rw [e]; assumption
            · exact hj j (by omega))
      ·
        refine aw_iconst (v := 1) dX1_isTaken_20 (by decide) ?_
        exact aw_zret rfl (by simp) dX1_isTaken_21 ⟨by rw [b01_t ⟨i, by omega, h17⟩], rfl⟩
  exact lp2 n 0 (by omega) (fun j h => absurd h (by omega))
theorem m_X1_ask {l : Launch} {M : Mm} {c p : Nat} (hc : isC c) (hp : p < 30) : AMet l 1 yX1_ask cX1_ask 2 none [.ref c, .int (nI p)] M (QE none (mI (mI M (c + 8) p 1) (c + 9) p 0)) := by
  refine AMet.of (by decide) (by simp [aargs, Value.category]) ?_
  show AW l 1 yX1_ask cX1_ask 2 none 0 [some (.ref c), some (.int (nI p))] [] M _
  refine aw_aload_n (i := 0) dX1_ask_0 rfl rfl ?_
  refine aw_getR gf_X1_35 (shC hc) rfl dX1_ask_1 ?_
  refine aw_iload_n (i := 1) dX1_ask_4 rfl rfl ?_
  refine aw_iconst (v := 1) dX1_ask_5 (by decide) ?_
  refine aw_iastN (shC_8 hc) (by omega) (by omega) dX1_ask_6 ?_
  refine aw_aload_n (i := 0) dX1_ask_7 rfl rfl ?_
  refine aw_getR gf_X1_38 (shC hc) rfl dX1_ask_8 ?_
  refine aw_iload_n (i := 1) dX1_ask_11 rfl rfl ?_
  refine aw_iconst (v := 0) dX1_ask_12 (by decide) ?_
  refine aw_iastN (shC_9 hc) (by omega) (by omega) dX1_ask_13 ?_
  exact aw_vret rfl dX1_ask_14 ⟨rfl, rfl⟩
theorem m_X1_countOf {l : Launch} {M : Mm} {c t : Nat} {v : Int32} (hc : isC c) (ht : t < 10) {n : Nat} (hn : M.1 c 11 = nI n) (hn30 : n ≤ 30) : AMet l 1 yX1_countOf cX1_countOf 5 (some FieldType.int) [.ref c, .int (nI t), .int v] M (QE (some (.int (nI (cntN n (fun i => M.1 (c + 2 + t) i = v))))) M) := by
  refine AMet.of (by decide) (by simp [aargs, Value.category]) ?_
  show AW l 1 yX1_countOf cX1_countOf 5 (some FieldType.int) 0 [some (.ref c), some (.int (nI t)), some (.int v), none, none] [] M _
  refine aw_iconst (v := 0) dX1_countOf_0 (by decide) ?_
  refine aw_istore_n (i := 3) dX1_countOf_1 rfl (by decide) ?_
  refine aw_iconst (v := 0) dX1_countOf_2 (by decide) ?_
  refine aw_istore (i := 4) dX1_countOf_3 (by decide) ?_
  have lp5 : ∀ k i, i + k = n → AW l 1 yX1_countOf cX1_countOf 5 (some FieldType.int) 5 [some (.ref c), some (.int (nI t)), some (.int v), some (.int (nI (cntN i (fun i => M.1 (c + 2 + t) i = v)))), some (.int (nI i))] [] M (QE (some (.int (nI (cntN n (fun i => M.1 (c + 2 + t) i = v))))) M) := by
    intro k
    induction k using Nat.strongRecOn with
    | _ k ih =>
    intro i hk
    refine aw_iload (i := 4) dX1_countOf_5 rfl ?_
    refine aw_aload_n (i := 0) dX1_countOf_7 rfl rfl ?_
    refine aw_getN (n := n) gf_X1_47 (shC hc) rfl hn dX1_countOf_8 ?_
    refine aw_icmp_geN (tgt := 36) (by omega) (by omega) dX1_countOf_11 (by decide) (fun h11 => ?_) (fun h11 => ?_)
    ·
      refine aw_iload_n (i := 3) dX1_countOf_36 rfl rfl ?_
      exact aw_iret rfl dX1_countOf_37 ⟨by rw [show i = n by omega], rfl⟩
    ·
      refine aw_aload_n (i := 0) dX1_countOf_14 rfl rfl ?_
      refine aw_getR gf_X1_11 (shC hc) rfl dX1_countOf_15 ?_
      refine aw_iload_n (i := 1) dX1_countOf_18 rfl rfl ?_
      refine aw_aaldN (t := 0) (shC_1 hc) (by decide) (by omega) (by decide) dX1_countOf_19 ?_
      refine aw_iload (i := 4) dX1_countOf_20 rfl ?_
      refine aw_ialdN (shC_r hc t ht) (by omega) (by omega) dX1_countOf_22 ?_
      refine aw_iload_n (i := 2) dX1_countOf_23 rfl rfl ?_
      refine aw_icmp_ne (tgt := 30) dX1_countOf_24 (by decide) (fun h24 => ?_) (fun h24 => ?_)
      ·
        refine aw_iincN (i := 4) dX1_countOf_30 rfl (by decide) ?_
        refine aw_goto (tgt := 5) dX1_countOf_33 (by decide) ?_
        refine aw_loc (la := [some (.ref c), some (.int (nI t)), some (.int v), some (.int (nI (cntN (i + 1) (fun i => M.1 (c + 2 + t) i = v)))), some (.int (nI (i + 1)))]) ?_ (ih (k - 1) (by omega) (i + 1) (by omega))
        first | rw [← nI_cnt_t (P := fun i => M.1 (c + 2 + t) i = v) (by assumption)] | rw [← nI_cnt_f (P := fun i => M.1 (c + 2 + t) i = v) (by assumption)]
        exact ⟨rfl, rfl, rfl, rfl, rfl, trivial⟩
      ·
        refine aw_iinc1 (i := 3) dX1_countOf_27 rfl (by decide) ?_
        refine aw_iincN (i := 4) dX1_countOf_30 rfl (by decide) ?_
        refine aw_goto (tgt := 5) dX1_countOf_33 (by decide) ?_
        refine aw_loc (la := [some (.ref c), some (.int (nI t)), some (.int v), some (.int (nI (cntN (i + 1) (fun i => M.1 (c + 2 + t) i = v)))), some (.int (nI (i + 1)))]) ?_ (ih (k - 1) (by omega) (i + 1) (by omega))
        first | rw [← nI_cnt_t (P := fun i => M.1 (c + 2 + t) i = v) (by assumption)] | rw [← nI_cnt_f (P := fun i => M.1 (c + 2 + t) i = v) (by assumption)]
        exact ⟨rfl, rfl, rfl, rfl, rfl, trivial⟩
  exact lp5 n 0 (by omega)
/-- behind soundFrom -/
def sfQ (c n p : Nat) (t : Int32) (M M' : Mm) : Prop := Same (fun k => k = c + 12 ∨ k = c + 13) M M' ∧ ∀ j, M'.1 (c + 12) j = pIf (j < n ∧ j ≠ p) (M.1 (c + 12) j + t * wgt (M.1 (c + 3)) j p) (M.1 (c + 12) j) ∧ M'.1 (c + 13) j = pIf (j < n ∧ j ≠ p ∧ farI (M.1 (c + 3) j) (M.1 (c + 3) p) = 1) (M.1 (c + 13) j + t) (M.1 (c + 13) j)
theorem sfQ_step {c i p : Nat} {t : Int32} {M M' : Mm} (h : sfQ c i p t M M') (hp : i ≠ p) : sfQ c (i + 1) p t M (pIf (farI (M.1 (c + 3) i) (M.1 (c + 3) p) = 1) (mI (mI M' (c + 12) i (M'.1 (c + 12) i + t * wgt (M.1 (c + 3)) i p)) (c + 13) i ((mI M' (c + 12) i (M'.1 (c + 12) i + t * wgt (M.1 (c + 3)) i p)).1 (c + 13) i + t)) (mI M' (c + 12) i (M'.1 (c + 12) i + t * wgt (M.1 (c + 3)) i p))) := by
  obtain ⟨hS, hj⟩ := h
  have h12 := (hj i).1
  have h13 := (hj i).2
  rw [pIf_f (by omega)] at h12 h13
  by_cases hf : farI (M.1 (c + 3) i) (M.1 (c + 3) p) = 1
  · rw [pIf_t hf]
    refine ⟨(hS.mI (Or.inl rfl)).mI (Or.inr rfl), fun j => ⟨?_, ?_⟩⟩
    · rw [mI_other (by omega), mI_self]
      by_cases e : j = i
      · subst e; rw [upd_self, pIf_t ⟨by omega, hp⟩, h12]
      · rw [upd_other e, (hj j).1]
        by_cases q : j < i ∧ j ≠ p
        · rw [pIf_t q, pIf_t ⟨by omega, q.2⟩]
        · rw [pIf_f q, pIf_f (fun z => q ⟨by omega, z.2⟩)]
    · rw [mI_self]
      by_cases e : j = i
      · subst e; rw [upd_self, pIf_t ⟨by omega, hp, hf⟩, mI_other (by omega), h13]
      · rw [upd_other e, mI_other (by omega), (hj j).2]
        by_cases q : j < i ∧ j ≠ p ∧ farI (M.1 (c + 3) j) (M.1 (c + 3) p) = 1
        · rw [pIf_t q, pIf_t ⟨by omega, q.2⟩]
        · rw [pIf_f q, pIf_f (fun z => q ⟨by omega, z.2⟩)]
  · rw [pIf_f hf]
    refine ⟨hS.mI (Or.inl rfl), fun j => ⟨?_, ?_⟩⟩
    · rw [mI_self]
      by_cases e : j = i
      · subst e; rw [upd_self, pIf_t ⟨by omega, hp⟩, h12]
      · rw [upd_other e, (hj j).1]
        by_cases q : j < i ∧ j ≠ p
        · rw [pIf_t q, pIf_t ⟨by omega, q.2⟩]
        · rw [pIf_f q, pIf_f (fun z => q ⟨by omega, z.2⟩)]
    · rw [mI_other (by omega), (hj j).2]
      by_cases q : j < i ∧ j ≠ p ∧ farI (M.1 (c + 3) j) (M.1 (c + 3) p) = 1
      · rw [pIf_t q, pIf_t ⟨by omega, q.2⟩]
      · rw [pIf_f q, pIf_f (fun z => by
          by_cases e : j = i
          · subst e; exact hf z.2.2
          · exact q ⟨by omega, z.2⟩)]
theorem sfQ_skip {c i p : Nat} {t : Int32} {M M' : Mm} (h : sfQ c i p t M M') (hp : i = p) : sfQ c (i + 1) p t M M' := by
  obtain ⟨hS, hj⟩ := h
  subst hp
  refine ⟨hS, fun j => ⟨?_, ?_⟩⟩
  · rw [(hj j).1]
    by_cases q : j < i ∧ j ≠ i
    · rw [pIf_t q, pIf_t ⟨by omega, q.2⟩]
    · rw [pIf_f q, pIf_f (fun z => q ⟨by omega, z.2⟩)]
  · rw [(hj j).2]
    by_cases q : j < i ∧ j ≠ i ∧ farI (M.1 (c + 3) j) (M.1 (c + 3) i) = 1
    · rw [pIf_t q, pIf_t ⟨by omega, q.2⟩]
    · rw [pIf_f q, pIf_f (fun z => q ⟨by omega, z.2⟩)]
theorem sfQ_0 {c p : Nat} {t : Int32} {M : Mm} : sfQ c 0 p t M M := ⟨Same.rf, fun j => ⟨by rw [pIf_f (by omega)], by rw [pIf_f (by omega)]⟩⟩
def QN (P : Mm → Prop) : Option Value → Mm → Prop := fun r M' => r = none ∧ P M'
def QI (P : Int32 → Mm → Prop) : Option Value → Mm → Prop := fun r M' => ∃ v : Int32, r = some (.int v) ∧ P v M'
theorem m_X1_soundFrom {l : Launch} {M : Mm} {c p : Nat} {t : Int32} (hc : isC c) (hp : p < 30) {n : Nat} (hn : M.1 c 11 = nI n) (hn30 : n ≤ 30) : AMet l 2 yX1_soundFrom cX1_soundFrom 5 none [.ref c, .int (nI p), .int t] M (QN (sfQ c n p t M)) := by
  refine AMet.of (by decide) (by simp [aargs, Value.category]) ?_
  show AW l 2 yX1_soundFrom cX1_soundFrom 5 none 0 [some (.ref c), some (.int (nI p)), some (.int t), none, none] [] M _
  refine aw_iconst (v := 0) dX1_soundFrom_0 (by decide) ?_
  refine aw_istore_n (i := 3) dX1_soundFrom_1 rfl (by decide) ?_
  have lp2 : ∀ k i, i + k = n → ∀ M' : Mm, sfQ c i p t M M' → AW l 2 yX1_soundFrom cX1_soundFrom 5 none 2 [some (.ref c), some (.int (nI p)), some (.int t), some (.int (nI i)), none] [] M' (QN (sfQ c n p t M)) := by
    intro k
    induction k using Nat.strongRecOn with
    | _ k ih =>
    intro i hk M' hQ
    have e3 : M'.1 (c + 3) = M.1 (c + 3) := hQ.1.2 _ (by omega)
    have eC : M'.1 c 11 = nI n := by rw [hQ.1.2 c (by omega)]; exact hn
    refine aw_iload_n (i := 3) dX1_soundFrom_2 rfl rfl ?_
    refine aw_aload_n (i := 0) dX1_soundFrom_3 rfl rfl ?_
    refine aw_getN (n := n) gf_X1_47 (shC hc) rfl eC dX1_soundFrom_4 ?_
    refine aw_icmp_geN (tgt := 73) (by omega) (by omega) dX1_soundFrom_7 (by decide) (fun h7 => ?_) (fun h7 => ?_)
    ·
      exact aw_vret rfl dX1_soundFrom_73 ⟨rfl, by rw [show n = i by omega]; exact hQ⟩
    ·
      refine aw_iload_n (i := 3) dX1_soundFrom_10 rfl rfl ?_
      refine aw_iload_n (i := 1) dX1_soundFrom_11 rfl rfl ?_
      refine aw_icmp_neN (tgt := 18) (by omega) (by omega) dX1_soundFrom_12 (by decide) (fun h12 => ?_) (fun h12 => ?_)
      ·
        refine aw_aload_n (i := 0) dX1_soundFrom_18 rfl rfl ?_
        refine aw_getR gf_X1_20 (shC hc) rfl dX1_soundFrom_19 ?_
        refine aw_iload_n (i := 3) dX1_soundFrom_22 rfl rfl ?_
        refine aw_ialdN (shC_3 hc) (by omega) (by omega) dX1_soundFrom_23 ?_
        refine aw_aload_n (i := 0) dX1_soundFrom_24 rfl rfl ?_
        refine aw_getR gf_X1_20 (shC hc) rfl dX1_soundFrom_25 ?_
        refine aw_iload_n (i := 1) dX1_soundFrom_28 rfl rfl ?_
        refine aw_ialdN (shC_3 hc) (by omega) (by omega) dX1_soundFrom_29 ?_
        refine aw_cSi ck_X1_118 m_X7_farOf (by decide) (by decide) rfl rfl (Nat.le_of_ble_eq_true rfl) dX1_soundFrom_30 ?_
        rw [e3]
        refine aw_istore (i := 4) dX1_soundFrom_33 (by decide) ?_
        refine aw_aload_n (i := 0) dX1_soundFrom_35 rfl rfl ?_
        refine aw_getR gf_X1_63 (shC hc) rfl dX1_soundFrom_36 ?_
        refine aw_iload_n (i := 3) dX1_soundFrom_39 rfl rfl ?_
        refine aw_dup2 dX1_soundFrom_40 rfl rfl ?_
        refine aw_ialdN (shC_12 hc) (by omega) (by omega) dX1_soundFrom_41 ?_
        refine aw_iload_n (i := 2) dX1_soundFrom_42 rfl rfl ?_
        refine aw_iload (i := 4) dX1_soundFrom_43 rfl ?_
        refine aw_cSi ck_X1_121 m_X7_loudnessAt (by decide) (by decide) rfl rfl (Nat.le_of_ble_eq_true rfl) dX1_soundFrom_45 ?_
        refine aw_imul dX1_soundFrom_48 ?_
        refine aw_iadd dX1_soundFrom_49 ?_
        refine aw_iastN (shC_12 hc) (by omega) (by omega) dX1_soundFrom_50 ?_
        refine aw_iload (i := 4) dX1_soundFrom_51 rfl ?_
        refine aw_iconst (v := 1) dX1_soundFrom_53 (by decide) ?_
        refine aw_icmp_ne (tgt := 67) dX1_soundFrom_54 (by decide) (fun h54 => ?_) (fun h54 => ?_)
        ·
          have _q := 0
          refine aw_iincN (i := 3) dX1_soundFrom_67 rfl (by decide) ?_
          refine aw_goto (tgt := 2) dX1_soundFrom_70 (by decide) ?_
          refine aw_loc (la := [some (.ref c), some (.int (nI p)), some (.int t), some (.int (nI (i + 1))), none]) ⟨rfl, rfl, rfl, rfl, trivial⟩ ?_
          have hst := sfQ_step (t := t) hQ (by assumption)
          first | rw [pIf_t (by assumption)] at hst | rw [pIf_f (by assumption)] at hst
          exact ih (k - 1) (by omega) (i + 1) (by omega) _ hst
        ·
          refine aw_aload_n (i := 0) dX1_soundFrom_57 rfl rfl ?_
          refine aw_getR gf_X1_66 (shC hc) rfl dX1_soundFrom_58 ?_
          refine aw_iload_n (i := 3) dX1_soundFrom_61 rfl rfl ?_
          refine aw_dup2 dX1_soundFrom_62 rfl rfl ?_
          refine aw_ialdN (shC_13 hc) (by omega) (by omega) dX1_soundFrom_63 ?_
          refine aw_iload_n (i := 2) dX1_soundFrom_64 rfl rfl ?_
          refine aw_iadd dX1_soundFrom_65 ?_
          refine aw_iastN (shC_13 hc) (by omega) (by omega) dX1_soundFrom_66 ?_
          refine aw_iincN (i := 3) dX1_soundFrom_67 rfl (by decide) ?_
          refine aw_goto (tgt := 2) dX1_soundFrom_70 (by decide) ?_
          refine aw_loc (la := [some (.ref c), some (.int (nI p)), some (.int t), some (.int (nI (i + 1))), none]) ⟨rfl, rfl, rfl, rfl, trivial⟩ ?_
          have hst := sfQ_step (t := t) hQ (by assumption)
          first | rw [pIf_t (by assumption)] at hst | rw [pIf_f (by assumption)] at hst
          exact ih (k - 1) (by omega) (i + 1) (by omega) _ hst
      ·
        refine aw_goto (tgt := 67) dX1_soundFrom_15 (by decide) ?_
        refine aw_iincN (i := 3) dX1_soundFrom_67 rfl (by decide) ?_
        refine aw_goto (tgt := 2) dX1_soundFrom_70 (by decide) ?_
        refine aw_loc (la := [some (.ref c), some (.int (nI p)), some (.int t), some (.int (nI (i + 1))), none]) ⟨rfl, rfl, rfl, rfl, trivial⟩ ?_
        exact ih (k - 1) (by omega) (i + 1) (by omega) _ (sfQ_skip hQ (by assumption))
  refine aw_loc (la := [some (.ref c), some (.int (nI p)), some (.int t), some (.int (nI 0)), none]) ⟨rfl, rfl, rfl, rfl, trivial⟩ ?_
  exact lp2 n 0 (by omega) M sfQ_0
/-- HEARD and BESIDE HIM are as the ones that clap make them -/
def heardOK (c n : Nat) (M : Mm) : Prop := ∀ j, j < n → M.1 (c + 12) j = hearF n (M.1 (c + 3)) (M.1 (c + 8)) j ∧ M.1 (c + 13) j = nearF n (M.1 (c + 3)) (M.1 (c + 8)) j
def hearP (m : Nat) (seat mood : Nat → Int32) (p : Nat) : Int32 := 0
def lsQ (c n i : Nat) (M M' : Mm) : Prop := Same (fun k => k = c + 12 ∨ k = c + 13) M M' ∧ ∀ j, j < n → M'.1 (c + 12) j = hearF i (M.1 (c + 3)) (M.1 (c + 8)) j ∧ M'.1 (c + 13) j = nearF i (M.1 (c + 3)) (M.1 (c + 8)) j
theorem hearF_succ (i : Nat) (seat mood : Nat → Int32) (p : Nat) : hearF (i + 1) seat mood p = hearF i seat mood p + pIf (i ≠ p ∧ mood i = 1) (wgt seat p i) 0 := rfl
theorem nearF_succ (i : Nat) (seat mood : Nat → Int32) (p : Nat) : nearF (i + 1) seat mood p = nearF i seat mood p + pIf (i ≠ p ∧ mood i = 1 ∧ farI (seat p) (seat i) = 1) 1 0 := rfl
theorem add0 (x : Int32) : x + 0 = x := by grind
theorem one_mul32 (x : Int32) : 1 * x = x := by grind
theorem lsQ_step {c n i : Nat} {M M' M'' : Mm} (h : lsQ c n i M M') (hm : M.1 (c + 8) i = 1) (h2 : sfQ c n i 1 M' M'') : lsQ c n (i + 1) M M'' := by
  obtain ⟨hS, hj⟩ := h
  obtain ⟨hS2, hj2⟩ := h2
  have e3 : M'.1 (c + 3) = M.1 (c + 3) := hS.2 _ (by omega)
  refine ⟨hS.tr hS2, fun j hjn => ⟨?_, ?_⟩⟩
  · rw [(hj2 j).1, (hj j hjn).1, hearF_succ, e3]
    by_cases e : j = i
    · subst e
      rw [pIf_f (by omega), pIf_f (by simp), add0]
    · rw [pIf_t ⟨hjn, e⟩, pIf_t ⟨fun q => e q.symm, hm⟩, one_mul32]
  · rw [(hj2 j).2, (hj j hjn).2, nearF_succ, e3]
    by_cases e : j = i
    · subst e
      rw [pIf_f (by omega), pIf_f (by simp), add0]
    · by_cases q : farI (M.1 (c + 3) j) (M.1 (c + 3) i) = 1
      · rw [pIf_t ⟨hjn, e, q⟩, pIf_t ⟨fun q => e q.symm, hm, q⟩]
      · rw [pIf_f (fun z => q z.2.2), pIf_f (fun z => q z.2.2), add0]
theorem lsQ_skip {c n i : Nat} {M M' : Mm} (h : lsQ c n i M M') (hm : ¬ M.1 (c + 8) i = 1) : lsQ c n (i + 1) M M' := by
  obtain ⟨hS, hj⟩ := h
  refine ⟨hS, fun j hjn => ⟨?_, ?_⟩⟩
  · rw [(hj j hjn).1, hearF_succ, pIf_f (fun z => hm z.2), add0]
  · rw [(hj j hjn).2, nearF_succ, pIf_f (fun z => hm z.2.1), add0]
theorem lsQ_0 {c n : Nat} {M : Mm} (hn : n ≤ 30) : lsQ c n 0 M (rI (rI M (c + 12) (fillR (M.1 (c + 12)) 30 0)) (c + 13) (fillR ((rI M (c + 12) (fillR (M.1 (c + 12)) 30 0)).1 (c + 13)) 30 0)) := by
  refine ⟨(Same.rf.rI (Or.inl rfl)).rI (Or.inr rfl), fun j hj => ⟨?_, ?_⟩⟩
  · rw [rI_other (by omega), rI_self]
    exact if_pos (by omega)
  · rw [rI_self]
    exact if_pos (by omega)
def lsM (c n : Nat) (M M' : Mm) : Prop := Same (fun k => k = c + 12 ∨ k = c + 13) M M' ∧ heardOK c n M'
theorem lsQ_end {c n : Nat} {M M' : Mm} (h : lsQ c n n M M') : lsM c n M M' := by
  refine ⟨h.1, fun j hj => ?_⟩
  rw [h.1.2 (c + 3) (by omega), h.1.2 (c + 8) (by omega)]
  exact h.2 j hj
set_option maxRecDepth 4000 in
theorem m_X1_listen {l : Launch} {M : Mm} {c : Nat} (hc : isC c) {n : Nat} (hn : M.1 c 11 = nI n) (hn30 : n ≤ 30) : AMet l 3 yX1_listen cX1_listen 2 none [.ref c] M (QN (lsM c n M)) := by
  refine AMet.of (by decide) (by simp [aargs, Value.category]) ?_
  show AW l 3 yX1_listen cX1_listen 2 none 0 [some (.ref c), none] [] M _
  refine aw_aload_n (i := 0) dX1_listen_0 rfl rfl ?_
  refine aw_getR gf_X1_63 (shC hc) rfl dX1_listen_1 ?_
  refine aw_iconst (v := 0) dX1_listen_4 (by decide) ?_
  refine aw_cSv ck_X1_100 (m_J7_fill_53178 (shC_12 hc) (by decide)) (by decide) (by decide) rfl rfl (Nat.le_of_ble_eq_true rfl) dX1_listen_5 ?_
  refine aw_aload_n (i := 0) dX1_listen_8 rfl rfl ?_
  refine aw_getR gf_X1_66 (shC hc) rfl dX1_listen_9 ?_
  refine aw_iconst (v := 0) dX1_listen_12 (by decide) ?_
  refine aw_cSv ck_X1_100 (m_J7_fill_53178 (shC_13 hc) (by decide)) (by decide) (by decide) rfl rfl (Nat.le_of_ble_eq_true rfl) dX1_listen_13 ?_
  refine aw_iconst (v := 0) dX1_listen_16 (by decide) ?_
  refine aw_istore_n (i := 1) dX1_listen_17 rfl (by decide) ?_
  have lp18 : ∀ k i, i + k = n → ∀ M' : Mm, lsQ c n i M M' → AW l 3 yX1_listen cX1_listen 2 none 18 [some (.ref c), some (.int (nI i))] [] M' (QN (lsM c n M)) := by
    intro k
    induction k using Nat.strongRecOn with
    | _ k ih =>
    intro i hk M' hQ
    have e8 : M'.1 (c + 8) = M.1 (c + 8) := hQ.1.2 _ (by omega)
    have eC : M'.1 c 11 = nI n := by rw [hQ.1.2 c (by omega)]; exact hn
    refine aw_iload_n (i := 1) dX1_listen_18 rfl rfl ?_
    refine aw_aload_n (i := 0) dX1_listen_19 rfl rfl ?_
    refine aw_getN (n := n) gf_X1_47 (shC hc) rfl eC dX1_listen_20 ?_
    refine aw_icmp_geN (tgt := 48) (by omega) (by omega) dX1_listen_23 (by decide) (fun h23 => ?_) (fun h23 => ?_)
    ·
      exact aw_vret rfl dX1_listen_48 ⟨rfl, by rw [show i = n by omega] at hQ; exact lsQ_end hQ⟩
    ·
      refine aw_aload_n (i := 0) dX1_listen_26 rfl rfl ?_
      refine aw_getR gf_X1_35 (shC hc) rfl dX1_listen_27 ?_
      refine aw_iload_n (i := 1) dX1_listen_30 rfl rfl ?_
      refine aw_ialdN (shC_8 hc) (by omega) (by omega) dX1_listen_31 ?_
      rw [e8]
      refine aw_iconst (v := 1) dX1_listen_32 (by decide) ?_
      refine aw_icmp_ne (tgt := 42) dX1_listen_33 (by decide) (fun h33 => ?_) (fun h33 => ?_)
      ·
        refine aw_iincN (i := 1) dX1_listen_42 rfl (by decide) ?_
        refine aw_goto (tgt := 18) dX1_listen_45 (by decide) ?_
        refine aw_loc (la := [some (.ref c), some (.int (nI (i + 1)))]) ⟨rfl, rfl, trivial⟩ ?_
        first | exact ih (k - 1) (by omega) (i + 1) (by omega) _ (lsQ_skip hQ (by assumption)) | exact ih (k - 1) (by omega) (i + 1) (by omega) _ (lsQ_step hQ (by assumption) hs9)
      ·
        refine aw_aload_n (i := 0) dX1_listen_36 rfl rfl ?_
        refine aw_iload_n (i := 1) dX1_listen_37 rfl rfl ?_
        refine aw_iconst (v := 1) dX1_listen_38 (by decide) ?_
        refine aw_cVQ ck_X1_114 (m_X1_soundFrom hc (by omega) (by first | assumption | (rw [hQ.1.2 c (by omega)]; exact hn)) hn30) (shC hc) rfl (by decide) (by decide) rfl rfl (Nat.le_of_ble_eq_true rfl) dX1_listen_39 (fun r M9 hq9 => ?_)
        obtain ⟨rfl, hs9⟩ := hq9
        refine aw_iincN (i := 1) dX1_listen_42 rfl (by decide) ?_
        refine aw_goto (tgt := 18) dX1_listen_45 (by decide) ?_
        refine aw_loc (la := [some (.ref c), some (.int (nI (i + 1)))]) ⟨rfl, rfl, trivial⟩ ?_
        first | exact ih (k - 1) (by omega) (i + 1) (by omega) _ (lsQ_skip hQ (by assumption)) | exact ih (k - 1) (by omega) (i + 1) (by omega) _ (lsQ_step hQ (by assumption) hs9)
  refine aw_loc (la := [some (.ref c), some (.int (nI 0))]) ⟨rfl, rfl, trivial⟩ ?_
  exact lp18 n 0 (by omega) _ (lsQ_0 hn30)
