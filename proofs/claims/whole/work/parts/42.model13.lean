/-- what a tick, or an evening, leaves -/
def fx8 (M X : Mm) : Prop := X.2 = M.2 ∧ (∀ k, ¬ (S8 k ∨ k = 137) → X.1 k = M.1 k) ∧ ∀ j, j ≠ 3 → j ≠ 4 → j ≠ 7 → j ≠ 8 → j ≠ 51 → X.1 105 j = M.1 105 j
theorem fx8.rf {M : Mm} : fx8 M M := ⟨rfl, fun _ _ => rfl, fun _ _ _ _ _ _ => rfl⟩
theorem fx8.tr {M X Y : Mm} (h : fx8 M X) (h2 : fx8 X Y) : fx8 M Y := ⟨h2.1.trans h.1, fun k hk => (h2.2.1 k hk).trans (h.2.1 k hk), fun j a b c e f => (h2.2.2 j a b c e f).trans (h.2.2 j a b c e f)⟩
theorem tk8_fx {n : Nat} {M M' : Mm} (h : tk8 n M M') : fx8 M M' := by
  obtain ⟨Z, ⟨hS, hf, -⟩, rfl⟩ := h
  refine ⟨hS.1, fun k hk => ?_, fun j a b c e f => ?_⟩
  · rw [mI_other (fun z => hk (Or.inl (Or.inl z)))]
    exact hS.2 k (fun z => hk (Or.inl z))
  · rw [mI_self, upd_other a]
    exact hf j b c e
/-- people of the model that can go through ticks -/
def g8 (n : Nat) (M : Mm) : Prop := M.1 105 0 = nI n ∧ n ≤ 30 ∧ (∀ q, q < n → ∃ s, s < 48 ∧ M.1 108 q = nI s) ∧ (∀ q, q < n → ∃ k, k < 7 ∧ M.1 107 q = nI k) ∧ (∀ q, q < n → ∃ k, 1 ≤ k ∧ k ≤ 9 ∧ M.1 110 q = nI k) ∧ ∀ p q, p < n → q < n → M.1 108 p = M.1 108 q → p = q
theorem g8.of {n : Nat} {M X : Mm} (h : g8 n M) (h0 : X.1 105 0 = M.1 105 0) (h7 : X.1 107 = M.1 107) (h8 : X.1 108 = M.1 108) (h10 : X.1 110 = M.1 110) : g8 n X := by
  unfold g8
  rw [h0, h7, h8, h10]
  exact h
theorem fx8.g {n : Nat} {M X : Mm} (h : fx8 M X) (hg : g8 n M) : g8 n X := hg.of (h.2.2 0 (by decide) (by decide) (by decide) (by decide) (by decide)) (h.2.1 107 (by unfold S8; omega)) (h.2.1 108 (by unfold S8; omega)) (h.2.1 110 (by unfold S8; omega))
theorem fx8.L {M X : Mm} (h : fx8 M X) : sL8 M X := ⟨h.2.1 118 (by unfold S8; omega), h.2.1 119 (by unfold S8; omega), h.2.2 35 (by decide) (by decide) (by decide) (by decide) (by decide)⟩
def okW (w : Int32) : Prop := w = -1 ∨ ∃ k, k < 6 ∧ w = nI k
theorem m_X8_tickG {l : Launch} {n : Nat} {M : Mm} (hg : g8 n M) (hb : byOK M) : AMet l 3 yX8_tick cX8_tick 3 none [.ref 105] M (QN (tk8 n M)) := m_X8_tick hg.1 hg.2.1 hb hg.2.2.1 hg.2.2.2.1 hg.2.2.2.2.1 hg.2.2.2.2.2
theorem itR_fx {n : Nat} {M : Mm} : ∀ k X, itR k (tk8 n) M X → fx8 M X
  | 0, X, h => by
    have e : X = M := h
    subst e
    exact fx8.rf
  | k + 1, X, ⟨Y, h1, h2⟩ => (itR_fx k Y h1).tr (tk8_fx h2)
theorem by_35 {M : Mm} {w : Int32} (hw : okW w) : byOK (mI M 105 35 w) := by
  unfold byOK
  rw [mI_self, upd_self]
  exact hw
theorem g_105 {n j : Nat} {M : Mm} {v : Int32} (hj : j ≠ 0) (h : g8 n M) : g8 n (mI M 105 j v) := h.of (by rw [mI_self, upd_other (fun z => hj z.symm)]) (mI_other (by decide)) (mI_other (by decide)) (mI_other (by decide))
theorem g_row {n k i : Nat} {M : Mm} {v : Int32} (hk : k ≠ 105 ∧ k ≠ 107 ∧ k ≠ 108 ∧ k ≠ 110) (h : g8 n M) : g8 n (mI M k i v) := h.of (congrFun (mI_other (fun z => hk.1 z.symm)) 0) (mI_other (fun z => hk.2.1 z.symm)) (mI_other (fun z => hk.2.2.1 z.symm)) (mI_other (fun z => hk.2.2.2 z.symm))
/-- the start of an evening -/
noncomputable def B8 (n : Nat) (w : Int32) (M : Mm) : Mm := mI (mI (mI M 105 35 w) 105 51 0) 105 51 ((mI (mI M 105 35 w) 105 51 0).1 105 51 ||| bitsI n (fun q => (mI (mI M 105 35 w) 105 51 0).1 113 q = 1))
theorem B8_g {n : Nat} {w : Int32} {M : Mm} (h : g8 n M) : g8 n (B8 n w M) := g_105 (by decide) (g_105 (by decide) (g_105 (by decide) h))
theorem B8_b {n : Nat} {w : Int32} {M : Mm} (hw : okW w) : byOK (B8 n w M) := by
  unfold byOK B8
  rw [mI_self, upd_other (by decide), mI_self, upd_other (by decide), mI_self, upd_self]
  exact hw
/-- one tick of an evening, its i-th -/
def eS8 (n i : Nat) (X Y : Mm) : Prop := ∃ X1, tk8 n X X1 ∧ Y = mI (mI X1 137 i (X1.1 105 8)) 105 51 ((mI X1 137 i (X1.1 105 8)).1 105 51 ||| bitsI n (fun q => (mI X1 137 i (X1.1 105 8)).1 113 q = 1))
def eR8 (n : Nat) : Nat → Mm → Mm → Prop
  | 0, M, M' => M' = M
  | k + 1, M, M' => ∃ X, eR8 n k M X ∧ eS8 n k X M'
theorem eS8_fx {n i : Nat} {X Y : Mm} (h : eS8 n i X Y) : fx8 X Y := by
  obtain ⟨X1, h1, rfl⟩ := h
  refine (tk8_fx h1).tr ⟨rfl, fun k hk => ?_, fun j a b c e f => ?_⟩
  · rw [mI_other (fun z => hk (Or.inl (Or.inl z))), mI_other (fun z => hk (Or.inr z))]
  · rw [mI_self, upd_other f, mI_other (by decide)]
theorem eR8_fx {n : Nat} {M : Mm} : ∀ k X, eR8 n k M X → fx8 M X
  | 0, X, h => by
    have e : X = M := h
    subst e
    exact fx8.rf
  | k + 1, X, ⟨Y, h1, h2⟩ => (eR8_fx k Y h1).tr (eS8_fx h2)
def ev8 (n : Nat) (w : Int32) (m : Nat) (M M' : Mm) : Prop := eR8 n m (B8 n w M) M'
theorem n1_100' {x : Int32} (h1 : ¬ x < 1) (h2 : x ≤ 100) : ∃ m, m < 101 ∧ x = nI m := n1_100 h1 (Int32.not_lt.mpr h2)
def S8_tick (M : Mm) (n : Nat) (x : Int32) (v : Int32) (M' : Mm) : Prop := pIf (x < 1) (v = -6 ∧ M' = nox M 6) (pIf (100 < x) (v = -6 ∧ M' = nox M 6) (pIf (9999 < M.1 105 3 + x) (v = -6 ∧ M' = nox M 6) (itR x.toNatClampNeg (tk8 n) (mI M 105 35 (M.1 105 5)) M' ∧ v = nI (cntN n (fun q => M'.1 113 q = 1)))))
theorem m_X8_tick_ {l : Launch} {M : Mm} {x : Int32} {n : Nat} (hg : g8 n M) (hfo : okW (M.1 105 5)) : AMet l 4 yX8_tick_ cX8_tick_ 3 (some FieldType.int) [.ref 105, .int x] M (QI (S8_tick M n x)) := by
  refine AMet.of (by decide) (by simp [aargs, Value.category]) ?_
  show AW l 4 yX8_tick_ cX8_tick_ 3 (some FieldType.int) 0 [some (.ref 105), some (.int x), none] [] M _
  refine aw_iload_n (i := 1) dX8_tick__0 rfl rfl ?_
  refine aw_iconst (v := 1) dX8_tick__1 (by decide) ?_
  refine aw_icmp_lt (tgt := 23) dX8_tick__2 (by decide) (fun h2 => ?_) (fun h2 => ?_)
  ·
    refine aw_aload_n (i := 0) dX8_tick__23 rfl rfl ?_
    refine aw_bipush (v := (-6)) dX8_tick__24 (by decide) ?_
    refine aw_cVi ck_X8_142 (m_X8_no (k := 6) (by decide) (by decide)) sh_105 rfl (by decide) (by decide) rfl rfl (Nat.le_of_ble_eq_true rfl) dX8_tick__26 ?_
    exact aw_iret rfl dX8_tick__29 (by first | contradiction | exact ⟨_, rfl, by unfold S8_tick; (first | rw [pIf_t h2] | rw [pIf_f h2] | rw [pIf_f (Int32.not_lt.mpr h2)] | rw [pIf_f (Int32.not_le.mpr h2)] | rw [pIf_t (Int32.not_le.mp h2)] | rw [pIf_t (Int32.not_lt.mp h2)] | rw [pIf_f (Nat.not_lt.mpr h2)] | rw [pIf_f (Nat.not_le.mpr h2)] | rw [pIf_t (Nat.not_le.mp h2)] | rw [pIf_t (Nat.not_lt.mp h2)] | skip); exact ⟨rfl, rfl⟩⟩)
  ·
    refine aw_iload_n (i := 1) dX8_tick__5 rfl rfl ?_
    refine aw_bipush (v := 100) dX8_tick__6 (by decide) ?_
    refine aw_icmp_gt (tgt := 23) dX8_tick__8 (by decide) (fun h8 => ?_) (fun h8 => ?_)
    ·
      refine aw_aload_n (i := 0) dX8_tick__23 rfl rfl ?_
      refine aw_bipush (v := (-6)) dX8_tick__24 (by decide) ?_
      refine aw_cVi ck_X8_142 (m_X8_no (k := 6) (by decide) (by decide)) sh_105 rfl (by decide) (by decide) rfl rfl (Nat.le_of_ble_eq_true rfl) dX8_tick__26 ?_
      exact aw_iret rfl dX8_tick__29 (by first | contradiction | exact ⟨_, rfl, by unfold S8_tick; (first | rw [pIf_t h2] | rw [pIf_f h2] | rw [pIf_f (Int32.not_lt.mpr h2)] | rw [pIf_f (Int32.not_le.mpr h2)] | rw [pIf_t (Int32.not_le.mp h2)] | rw [pIf_t (Int32.not_lt.mp h2)] | rw [pIf_f (Nat.not_lt.mpr h2)] | rw [pIf_f (Nat.not_le.mpr h2)] | rw [pIf_t (Nat.not_le.mp h2)] | rw [pIf_t (Nat.not_lt.mp h2)] | skip); (first | rw [pIf_t h8] | rw [pIf_f h8] | rw [pIf_f (Int32.not_lt.mpr h8)] | rw [pIf_f (Int32.not_le.mpr h8)] | rw [pIf_t (Int32.not_le.mp h8)] | rw [pIf_t (Int32.not_lt.mp h8)] | rw [pIf_f (Nat.not_lt.mpr h8)] | rw [pIf_f (Nat.not_le.mpr h8)] | rw [pIf_t (Nat.not_le.mp h8)] | rw [pIf_t (Nat.not_lt.mp h8)] | skip); exact ⟨rfl, rfl⟩⟩)
    ·
      refine aw_aload_n (i := 0) dX8_tick__11 rfl rfl ?_
      refine aw_getI gf_X8_223 sh_105 rfl dX8_tick__12 ?_
      refine aw_iload_n (i := 1) dX8_tick__15 rfl rfl ?_
      refine aw_iadd dX8_tick__16 ?_
      refine aw_sipush (v := 9999) dX8_tick__17 (by decide) ?_
      refine aw_icmp_le (tgt := 30) dX8_tick__20 (by decide) (fun h20 => ?_) (fun h20 => ?_)
      ·
        obtain ⟨m, hm, rfl⟩ := n1_100 h2 (Int32.not_lt.mpr (Int32.not_lt.mp h8))
        refine aw_aload_n (i := 0) dX8_tick__30 rfl rfl ?_
        refine aw_aload_n (i := 0) dX8_tick__31 rfl rfl ?_
        refine aw_getI gf_X8_13 sh_105 rfl dX8_tick__32 ?_
        refine aw_putI pf_X8_87 sh_105 rfl dX8_tick__35 ?_
        refine aw_iconst (v := 0) dX8_tick__38 (by decide) ?_
        refine aw_istore_n (i := 2) dX8_tick__39 rfl (by decide) ?_
        have lp40 : ∀ k9 i (X : Mm), i + k9 = m → itR i (tk8 n) (mI M 105 35 (M.1 105 5)) X → AW l 4 yX8_tick_ cX8_tick_ 3 (some FieldType.int) 40 [some (.ref 105), some (.int (nI m)), some (.int (nI i))] [] X (QI (S8_tick M n (nI m))) := by
          intro k9
          induction k9 using Nat.strongRecOn with
          | _ k9 ih =>
          intro i X hk9 hX
          have fX := itR_fx i X hX
          have gX : g8 n X := fX.g (g_105 (by decide) hg)
          have bX : byOK X := by_s fX.L (by_35 hfo)
          refine aw_iload_n (i := 2) dX8_tick__40 rfl rfl ?_
          refine aw_iload_n (i := 1) dX8_tick__41 rfl rfl ?_
          refine aw_icmp_geN (tgt := 55) (by omega) (by omega) dX8_tick__42 (by decide) (fun h42 => ?_) (fun h42 => ?_)
          ·
            refine aw_aload_n (i := 0) dX8_tick__55 rfl rfl ?_
            refine aw_cVi ck_X8_238 (m_X8_clapping gX.1 gX.2.1) sh_105 rfl (by decide) (by decide) rfl rfl (Nat.le_of_ble_eq_true rfl) dX8_tick__56 ?_
            exact aw_iret rfl dX8_tick__59 ⟨_, rfl, by unfold S8_tick; rw [nI_clamp (show m < 2 ^ 31 from by omega)]; (first | rw [pIf_t h2] | rw [pIf_f h2] | rw [pIf_f (Int32.not_lt.mpr h2)] | rw [pIf_f (Int32.not_le.mpr h2)] | rw [pIf_t (Int32.not_le.mp h2)] | rw [pIf_t (Int32.not_lt.mp h2)] | rw [pIf_f (Nat.not_lt.mpr h2)] | rw [pIf_f (Nat.not_le.mpr h2)] | rw [pIf_t (Nat.not_le.mp h2)] | rw [pIf_t (Nat.not_lt.mp h2)] | skip); (first | rw [pIf_t h8] | rw [pIf_f h8] | rw [pIf_f (Int32.not_lt.mpr h8)] | rw [pIf_f (Int32.not_le.mpr h8)] | rw [pIf_t (Int32.not_le.mp h8)] | rw [pIf_t (Int32.not_lt.mp h8)] | rw [pIf_f (Nat.not_lt.mpr h8)] | rw [pIf_f (Nat.not_le.mpr h8)] | rw [pIf_t (Nat.not_le.mp h8)] | rw [pIf_t (Nat.not_lt.mp h8)] | skip); (first | rw [pIf_t h20] | rw [pIf_f h20] | rw [pIf_f (Int32.not_lt.mpr h20)] | rw [pIf_f (Int32.not_le.mpr h20)] | rw [pIf_t (Int32.not_le.mp h20)] | rw [pIf_t (Int32.not_lt.mp h20)] | rw [pIf_f (Nat.not_lt.mpr h20)] | rw [pIf_f (Nat.not_le.mpr h20)] | rw [pIf_t (Nat.not_le.mp h20)] | rw [pIf_t (Nat.not_lt.mp h20)] | skip); rw [show i = m from by omega] at hX; exact ⟨hX, rfl⟩⟩
          ·
            refine aw_aload_n (i := 0) dX8_tick__45 rfl rfl ?_
            refine aw_cVQ ck_X8_247 (m_X8_tickG gX bX) sh_105 rfl (by decide) (by decide) rfl rfl (Nat.le_of_ble_eq_true rfl) dX8_tick__46 (fun r M9 hq9 => ?_)
            obtain ⟨rfl, ht9⟩ := hq9
            refine aw_iincN (i := 2) dX8_tick__49 rfl (by decide) ?_
            refine aw_goto (tgt := 40) dX8_tick__52 (by decide) ?_
            refine aw_loc (la := [some (.ref 105), some (.int (nI m)), some (.int (nI (i + 1)))]) ⟨rfl, rfl, rfl, trivial⟩ ?_
            exact ih (k9 - 1) (by omega) (i + 1) M9 (by omega) ⟨X, hX, ht9⟩
        refine aw_loc (la := [some (.ref 105), some (.int (nI m)), some (.int (nI 0))]) ⟨rfl, rfl, rfl, trivial⟩ ?_
        exact lp40 m 0 (mI M 105 35 (M.1 105 5)) (by omega) rfl
      ·
        refine aw_aload_n (i := 0) dX8_tick__23 rfl rfl ?_
        refine aw_bipush (v := (-6)) dX8_tick__24 (by decide) ?_
        refine aw_cVi ck_X8_142 (m_X8_no (k := 6) (by decide) (by decide)) sh_105 rfl (by decide) (by decide) rfl rfl (Nat.le_of_ble_eq_true rfl) dX8_tick__26 ?_
        exact aw_iret rfl dX8_tick__29 (by first | contradiction | exact ⟨_, rfl, by unfold S8_tick; (first | rw [pIf_t h2] | rw [pIf_f h2] | rw [pIf_f (Int32.not_lt.mpr h2)] | rw [pIf_f (Int32.not_le.mpr h2)] | rw [pIf_t (Int32.not_le.mp h2)] | rw [pIf_t (Int32.not_lt.mp h2)] | rw [pIf_f (Nat.not_lt.mpr h2)] | rw [pIf_f (Nat.not_le.mpr h2)] | rw [pIf_t (Nat.not_le.mp h2)] | rw [pIf_t (Nat.not_lt.mp h2)] | skip); (first | rw [pIf_t h8] | rw [pIf_f h8] | rw [pIf_f (Int32.not_lt.mpr h8)] | rw [pIf_f (Int32.not_le.mpr h8)] | rw [pIf_t (Int32.not_le.mp h8)] | rw [pIf_t (Int32.not_lt.mp h8)] | rw [pIf_f (Nat.not_lt.mpr h8)] | rw [pIf_f (Nat.not_le.mpr h8)] | rw [pIf_t (Nat.not_le.mp h8)] | rw [pIf_t (Nat.not_lt.mp h8)] | skip); (first | rw [pIf_t h20] | rw [pIf_f h20] | rw [pIf_f (Int32.not_lt.mpr h20)] | rw [pIf_f (Int32.not_le.mpr h20)] | rw [pIf_t (Int32.not_le.mp h20)] | rw [pIf_t (Int32.not_lt.mp h20)] | rw [pIf_f (Nat.not_lt.mpr h20)] | rw [pIf_f (Nat.not_le.mpr h20)] | rw [pIf_t (Nat.not_le.mp h20)] | rw [pIf_t (Nat.not_lt.mp h20)] | skip); exact ⟨rfl, rfl⟩⟩)
theorem m_X8_evening {l : Launch} {M : Mm} {w : Int32} {m : Nat} {n : Nat} (hg : g8 n M) (hw : okW w) (hm : m ≤ 200) : AMet l 4 yX8_evening cX8_evening 4 none [.ref 105, .int w, .int (nI m)] M (QN (ev8 n w m M)) := by
  refine AMet.of (by decide) (by simp [aargs, Value.category]) ?_
  show AW l 4 yX8_evening cX8_evening 4 none 0 [some (.ref 105), some (.int w), some (.int (nI m)), none] [] M _
  refine aw_aload_n (i := 0) dX8_evening_0 rfl rfl ?_
  refine aw_iload_n (i := 1) dX8_evening_1 rfl rfl ?_
  refine aw_putI pf_X8_87 sh_105 rfl dX8_evening_2 ?_
  refine aw_aload_n (i := 0) dX8_evening_5 rfl rfl ?_
  refine aw_iconst (v := 0) dX8_evening_6 (by decide) ?_
  refine aw_putI pf_X8_268 sh_105 rfl dX8_evening_7 ?_
  refine aw_aload_n (i := 0) dX8_evening_10 rfl rfl ?_
  refine aw_cVv ck_X8_271 (m_X8_meets (g_105 (by decide) (g_105 (by decide) hg)).1 hg.2.1) sh_105 rfl (by decide) (by decide) rfl rfl (Nat.le_of_ble_eq_true rfl) dX8_evening_11 ?_
  refine aw_iconst (v := 0) dX8_evening_14 (by decide) ?_
  refine aw_istore_n (i := 3) dX8_evening_15 rfl (by decide) ?_
  have lp16 : ∀ k9 i (X : Mm), i + k9 = m → eR8 n i (B8 n w M) X → AW l 4 yX8_evening cX8_evening 4 none 16 [some (.ref 105), some (.int w), some (.int (nI m)), some (.int (nI i))] [] X (QN (ev8 n w m M)) := by
    intro k9
    induction k9 using Nat.strongRecOn with
    | _ k9 ih =>
    intro i X hk9 hX
    have fX := eR8_fx i X hX
    have gX : g8 n X := fX.g (B8_g hg)
    have bX : byOK X := by_s fX.L (B8_b hw)
    refine aw_iload_n (i := 3) dX8_evening_16 rfl rfl ?_
    refine aw_iload_n (i := 2) dX8_evening_17 rfl rfl ?_
    refine aw_icmp_geN (tgt := 45) (by omega) (by omega) dX8_evening_18 (by decide) (fun h18 => ?_) (fun h18 => ?_)
    ·
      exact aw_vret rfl dX8_evening_45 ⟨rfl, by rw [show i = m from by omega] at hX; exact hX⟩
    ·
      refine aw_aload_n (i := 0) dX8_evening_21 rfl rfl ?_
      refine aw_cVQ ck_X8_247 (m_X8_tickG gX bX) sh_105 rfl (by decide) (by decide) rfl rfl (Nat.le_of_ble_eq_true rfl) dX8_evening_22 (fun r M9 hq9 => ?_)
      obtain ⟨rfl, ht9⟩ := hq9
      refine aw_aload_n (i := 0) dX8_evening_25 rfl rfl ?_
      refine aw_getR gf_X8_117 sh_105 rfl dX8_evening_26 ?_
      refine aw_iload_n (i := 3) dX8_evening_29 rfl rfl ?_
      refine aw_aload_n (i := 0) dX8_evening_30 rfl rfl ?_
      refine aw_getI gf_X8_241 sh_105 rfl dX8_evening_31 ?_
      refine aw_iastN sh_137 (by omega) (by omega) dX8_evening_34 ?_
      refine aw_aload_n (i := 0) dX8_evening_35 rfl rfl ?_
      refine aw_cVv ck_X8_271 (m_X8_meets (g_row (by decide) ((tk8_fx ht9).g gX)).1 hg.2.1) sh_105 rfl (by decide) (by decide) rfl rfl (Nat.le_of_ble_eq_true rfl) dX8_evening_36 ?_
      refine aw_iincN (i := 3) dX8_evening_39 rfl (by decide) ?_
      refine aw_goto (tgt := 16) dX8_evening_42 (by decide) ?_
      refine aw_loc (la := [some (.ref 105), some (.int w), some (.int (nI m)), some (.int (nI (i + 1)))]) ⟨rfl, rfl, rfl, rfl, trivial⟩ ?_
      exact ih (k9 - 1) (by omega) (i + 1) _ (by omega) ⟨X, hX, M9, ht9, rfl⟩
  refine aw_loc (la := [some (.ref 105), some (.int w), some (.int (nI m)), some (.int (nI 0))]) ⟨rfl, rfl, rfl, rfl, trivial⟩ ?_
  exact lp16 m 0 (B8 n w M) (by omega) rfl
theorem kep_g {n : Nat} {M : Mm} (h : g8 n M) : g8 n (kepM n M) := by
  unfold kepM
  refine g_105 (by decide) (g_105 (by decide) (g_105 (by decide) (g_105 (by decide) (h.of (congrFun (kep_o (by decide)) 0) (kep_o (by decide)) (kep_o (by decide)) (kep_o (by decide))))))
theorem m_X8_whole {l : Launch} {M : Mm} {w : Int32} {m : Nat} {n : Nat} (hg : g8 n M) (hw : okW w) (hm : m ≤ 200) : AMet l 5 yX8_whole cX8_whole 3 none [.ref 105, .int w, .int (nI m)] M (QN (ev8 n w m (kepM n M))) := by
  refine AMet.of (by decide) (by simp [aargs, Value.category]) ?_
  show AW l 5 yX8_whole cX8_whole 3 none 0 [some (.ref 105), some (.int w), some (.int (nI m))] [] M _
  refine aw_aload_n (i := 0) dX8_whole_0 rfl rfl ?_
  refine aw_cVv ck_X8_274 (m_X8_keepsAll hg.1 hg.2.1) sh_105 rfl (by decide) (by decide) rfl rfl (Nat.le_of_ble_eq_true rfl) dX8_whole_1 ?_
  refine aw_aload_n (i := 0) dX8_whole_4 rfl rfl ?_
  refine aw_iload_n (i := 1) dX8_whole_5 rfl rfl ?_
  refine aw_iload_n (i := 2) dX8_whole_6 rfl rfl ?_
  refine aw_cVQ ck_X8_277 (m_X8_evening (kep_g hg) hw hm) sh_105 rfl (by decide) (by decide) rfl rfl (Nat.le_of_ble_eq_true rfl) dX8_whole_7 (fun r M9 hq9 => ?_)
  obtain ⟨rfl, ht9⟩ := hq9
  exact aw_vret rfl dX8_whole_10 ⟨rfl, ht9⟩
/-- what stays of the model's memory when an evening is brought back -/
def out8 (n : Nat) (M X : Mm) : Prop := X.2 = M.2 ∧ (∀ k, ¬ (k = 105 ∨ (112 ≤ k ∧ k ≤ 115) ∨ (128 ≤ k ∧ k ≤ 138)) → X.1 k = M.1 k) ∧ (∀ k j, 112 ≤ k → k ≤ 115 → j < n → X.1 k j = M.1 k j) ∧ ∀ j, ¬ (j = 35 ∨ (47 ≤ j ∧ j ≤ 51)) → X.1 105 j = M.1 105 j
theorem out8.rf {n : Nat} {M : Mm} : out8 n M M := ⟨rfl, fun _ _ => rfl, fun _ _ _ _ _ => rfl, fun _ _ => rfl⟩
theorem out8.tr {n : Nat} {M X Y : Mm} (h : out8 n M X) (h2 : out8 n X Y) : out8 n M Y := ⟨h2.1.trans h.1, fun k hk => (h2.2.1 k hk).trans (h.2.1 k hk), fun k j a b c => (h2.2.2.1 k j a b c).trans (h.2.2.1 k j a b c), fun j hj => (h2.2.2.2 j hj).trans (h.2.2.2 j hj)⟩
theorem out8.g {n : Nat} {M X : Mm} (h : out8 n M X) (hg : g8 n M) : g8 n X := hg.of (h.2.2.2 0 (by decide)) (h.2.1 107 (by decide)) (h.2.1 108 (by decide)) (h.2.1 110 (by decide))
/-- rows as they were kept -/
def kp8 (n : Nat) (M X : Mm) : Prop := (∀ j, j < n → X.1 133 j = M.1 113 j ∧ X.1 134 j = M.1 114 j ∧ X.1 135 j = M.1 115 j ∧ X.1 136 j = M.1 112 j) ∧ X.1 105 47 = M.1 105 4 ∧ X.1 105 48 = M.1 105 3 ∧ X.1 105 49 = M.1 105 7 ∧ X.1 105 50 = M.1 105 8
/-- all but scratch as it was -/
def sc8 (M X : Mm) : Prop := X.2 = M.2 ∧ (∀ k, ¬ (k = 105 ∨ (112 ≤ k ∧ k ≤ 115) ∨ (128 ≤ k ∧ k ≤ 138)) → X.1 k = M.1 k) ∧ ∀ j, ¬ (j = 3 ∨ j = 4 ∨ j = 7 ∨ j = 8 ∨ j = 35 ∨ j = 36 ∨ (47 ≤ j ∧ j ≤ 51)) → X.1 105 j = M.1 105 j
theorem sc8.rf {M : Mm} : sc8 M M := ⟨rfl, fun _ _ => rfl, fun _ _ => rfl⟩
theorem sc8.tr {M X Y : Mm} (h : sc8 M X) (h2 : sc8 X Y) : sc8 M Y := ⟨h2.1.trans h.1, fun k hk => (h2.2.1 k hk).trans (h.2.1 k hk), fun j hj => (h2.2.2 j hj).trans (h.2.2 j hj)⟩
theorem sc8.fx {M X Y : Mm} (h : sc8 M X) (h2 : fx8 X Y) : sc8 M Y := ⟨h2.1.trans h.1, fun k hk => (h2.2.1 k (by unfold S8; omega)).trans (h.2.1 k hk), fun j hj => (h2.2.2 j (by omega) (by omega) (by omega) (by omega) (by omega)).trans (h.2.2 j hj)⟩
theorem sc8.m5 {M X : Mm} {j : Nat} {v : Int32} (h : sc8 M X) (hj : j = 3 ∨ j = 4 ∨ j = 7 ∨ j = 8 ∨ j = 35 ∨ j = 36 ∨ (47 ≤ j ∧ j ≤ 51)) : sc8 M (mI X 105 j v) := ⟨h.1, fun k hk => (mI_other (fun z => hk (Or.inl z))).trans (h.2.1 k hk), fun i hi => by rw [mI_self, upd_other (fun z => hi (by rw [z]; exact hj))]; exact h.2.2 i hi⟩
theorem sc8.mr {M X : Mm} {k j : Nat} {v : Int32} (h : sc8 M X) (hk : (112 ≤ k ∧ k ≤ 115) ∨ (128 ≤ k ∧ k ≤ 138)) : sc8 M (mI X k j v) := ⟨h.1, fun q hq => (mI_other (fun z => hq (by omega))).trans (h.2.1 q hq), fun i hi => (congrFun (mI_other (by omega)) i).trans (h.2.2 i hi)⟩
theorem kp8_k {n : Nat} {M : Mm} : kp8 n M (kepM n M) := by
  unfold kp8 kepM
  refine ⟨fun j hj => ?_, ?_, ?_, ?_, ?_⟩
  · rw [mI_other (show 133 ≠ 105 by decide), mI_other (show 133 ≠ 105 by decide), mI_other (show 133 ≠ 105 by decide), mI_other (show 133 ≠ 105 by decide), mI_other (show 134 ≠ 105 by decide), mI_other (show 134 ≠ 105 by decide), mI_other (show 134 ≠ 105 by decide), mI_other (show 134 ≠ 105 by decide), mI_other (show 135 ≠ 105 by decide), mI_other (show 135 ≠ 105 by decide), mI_other (show 135 ≠ 105 by decide), mI_other (show 135 ≠ 105 by decide), mI_other (show 136 ≠ 105 by decide), mI_other (show 136 ≠ 105 by decide), mI_other (show 136 ≠ 105 by decide), mI_other (show 136 ≠ 105 by decide), kep_1, kep_2, kep_3, kep_4]
    exact ⟨upto_lt hj, upto_lt hj, upto_lt hj, upto_lt hj⟩
  all_goals (rw [mI_self, mI_self, mI_self, mI_self]; rfl)
theorem kep_sc {n : Nat} {M : Mm} : sc8 M (kepM n M) := by
  unfold kepM
  refine (((sc8.m5 ?_ (by omega)).m5 (by omega)).m5 (by omega)).m5 (by omega)
  refine ⟨?_, fun k hk => kep_o (by omega), fun j hj => congrFun (kep_o (by decide)) j⟩
  unfold kep
  rfl
theorem kp8.fx {n : Nat} {M X Y : Mm} (h : kp8 n M X) (h2 : fx8 X Y) : kp8 n M Y := by
  unfold kp8
  rw [h2.2.1 133 (by unfold S8; omega), h2.2.1 134 (by unfold S8; omega), h2.2.1 135 (by unfold S8; omega), h2.2.1 136 (by unfold S8; omega), h2.2.2 47 (by decide) (by decide) (by decide) (by decide) (by decide), h2.2.2 48 (by decide) (by decide) (by decide) (by decide) (by decide), h2.2.2 49 (by decide) (by decide) (by decide) (by decide) (by decide), h2.2.2 50 (by decide) (by decide) (by decide) (by decide) (by decide)]
  exact h
theorem kp8.m5 {n : Nat} {M X : Mm} {j : Nat} {v : Int32} (h : kp8 n M X) (hj : j < 47 ∨ j = 51) : kp8 n M (mI X 105 j v) := by
  unfold kp8
  rw [mI_other (show 133 ≠ 105 by decide), mI_other (show 134 ≠ 105 by decide), mI_other (show 135 ≠ 105 by decide), mI_other (show 136 ≠ 105 by decide), mI_self, upd_other (show 47 ≠ j by omega), upd_other (show 48 ≠ j by omega), upd_other (show 49 ≠ j by omega), upd_other (show 50 ≠ j by omega)]
  exact h
theorem kp8.mr {n : Nat} {M X : Mm} {k j : Nat} {v : Int32} (h : kp8 n M X) (hk : k < 105 ∨ (105 < k ∧ k < 133) ∨ 136 < k) : kp8 n M (mI X k j v) := by
  unfold kp8
  rw [mI_other (show 133 ≠ k by omega), mI_other (show 134 ≠ k by omega), mI_other (show 135 ≠ k by omega), mI_other (show 136 ≠ k by omega), mI_other (show 105 ≠ k by omega)]
  exact h
/-- brought back -/
theorem bak_out {n : Nat} {M Y : Mm} (hk : kp8 n M Y) (hs : sc8 M Y) (h36 : Y.1 105 36 = M.1 105 36) : out8 n M (bakM n Y) := by
  obtain ⟨hr, p7, p8, p9, p0⟩ := hk
  refine ⟨?_, fun k h => ?_, fun k j a b c => ?_, fun j hj => ?_⟩
  · exact hs.1
  · unfold bakM
    rw [mI_other (fun z => h (Or.inl z)), mI_other (fun z => h (Or.inl z)), mI_other (fun z => h (Or.inl z)), mI_other (fun z => h (Or.inl z)), bak_o (by omega)]
    exact hs.2.1 k h
  · unfold bakM
    rw [mI_other (by omega), mI_other (by omega), mI_other (by omega), mI_other (by omega)]
    obtain ⟨r1, r2, r3, r4⟩ := hr j c
    rcases (show k = 112 ∨ k = 113 ∨ k = 114 ∨ k = 115 by omega) with rfl | rfl | rfl | rfl
    · rw [bak_4, upto_lt c, r4]
    · rw [bak_1, upto_lt c, r1]
    · rw [bak_2, upto_lt c, r2]
    · rw [bak_3, upto_lt c, r3]
  · unfold bakM
    rw [mI_self, mI_self, mI_self, mI_self]
    by_cases e4 : j = 4
    · subst e4
      rw [upd_other (by decide), upd_other (by decide), upd_other (by decide), upd_self, p7]
    · by_cases e3 : j = 3
      · subst e3
        rw [upd_other (by decide), upd_other (by decide), upd_self, p8]
      · by_cases e7 : j = 7
        · subst e7
          rw [upd_other (by decide), upd_self, p9]
        · by_cases e8 : j = 8
          · subst e8
            rw [upd_self, p0]
          · rw [upd_other e8, upd_other e7, upd_other e3, upd_other e4, bak_o (by decide)]
            by_cases e6 : j = 36
            · subst e6; exact h36
            · exact hs.2.2 j (by omega)
theorem bak_v {n j k : Nat} {Y : Mm} (hk : k ≠ 105 ∧ k ≠ 112 ∧ k ≠ 113 ∧ k ≠ 114 ∧ k ≠ 115) : (bakM n Y).1 k j = Y.1 k j := by
  unfold bakM
  rw [mI_other hk.1, mI_other hk.1, mI_other hk.1, mI_other hk.1, bak_o (by omega)]
theorem bak_51 {n : Nat} {Y : Mm} : (bakM n Y).1 105 51 = Y.1 105 51 := by
  unfold bakM
  rw [mI_self, mI_self, mI_self, mI_self, upd_other (by decide), upd_other (by decide), upd_other (by decide), upd_other (by decide), bak_o (by decide)]
theorem bak_g {n : Nat} {Y : Mm} (h : g8 n Y) : g8 n (bakM n Y) := by
  unfold bakM
  exact g_105 (by decide) (g_105 (by decide) (g_105 (by decide) (g_105 (by decide) (h.of (congrFun (bak_o (by decide)) 0) (bak_o (by decide)) (bak_o (by decide)) (bak_o (by decide))))))
theorem B8_kp {n : Nat} {w : Int32} {M X : Mm} (h : kp8 n M X) : kp8 n M (B8 n w X) := ((h.m5 (by omega)).m5 (by omega)).m5 (by omega)
theorem B8_sc {n : Nat} {w : Int32} {M X : Mm} (h : sc8 M X) : sc8 M (B8 n w X) := ((h.m5 (by omega)).m5 (by omega)).m5 (by omega)
theorem ev8_kp {n m : Nat} {w : Int32} {M X Y : Mm} (h : kp8 n M X) (he : ev8 n w m X Y) : kp8 n M Y := (B8_kp h).fx (eR8_fx m Y he)
theorem ev8_sc {n m : Nat} {w : Int32} {M X Y : Mm} (h : sc8 M X) (he : ev8 n w m X Y) : sc8 M Y := (B8_sc h).fx (eR8_fx m Y he)
theorem ev8_36 {n m : Nat} {w : Int32} {X Y : Mm} (he : ev8 n w m X Y) : Y.1 105 36 = X.1 105 36 := by
  rw [(eR8_fx m Y he).2.2 36 (by decide) (by decide) (by decide) (by decide) (by decide)]
  unfold B8
  rw [mI_self, upd_other (by decide), mI_self, upd_other (by decide), mI_self, upd_other (by decide)]
theorem ev8_g {n m : Nat} {w : Int32} {X Y : Mm} (hg : g8 n X) (he : ev8 n w m X Y) : g8 n Y := (eR8_fx m Y he).g (B8_g hg)
theorem kep_36 {n : Nat} {M : Mm} : (kepM n M).1 105 36 = M.1 105 36 := by
  unfold kepM
  rw [mI_self, upd_other (by decide), mI_self, upd_other (by decide), mI_self, upd_other (by decide), mI_self, upd_other (by decide), kep_o (by decide)]
/-- an evening and back -/
def wb8 (n : Nat) (w : Int32) (m : Nat) (M M' : Mm) : Prop := ∃ Y, ev8 n w m (kepM n M) Y ∧ M' = bakM n Y
theorem wb8_out {n m : Nat} {w : Int32} {M M' : Mm} (h : wb8 n w m M M') : out8 n M M' := by
  obtain ⟨Y, he, rfl⟩ := h
  exact bak_out (ev8_kp kp8_k he) (ev8_sc kep_sc he) ((ev8_36 he).trans kep_36)
theorem lw8 {M : Mm} {lc : Nat} {w : Int32} (hlc : M.1 105 1 = nI lc) (hl6 : lc ≤ 6) (h : ¬ w < -1 ∧ ¬ M.1 105 1 ≤ w) : okW w := by
  rw [hlc] at h
  rcases pk_ix w (n := lc) (by omega) with q | q | ⟨j, q1, q2⟩
  · refine Or.inl ?_
    have h1 := h.1
    have e1 : (-1 : Int32).toInt = -1 := by decide
    have e0 : (0 : Int32).toInt = 0 := by decide
    rw [i32_lt, e1] at h1
    rw [i32_lt, e0] at q
    exact i32_lit (show w.toInt = -1 by omega) (-1) (by decide)
  · exact absurd q h.2
  · exact Or.inr ⟨j, by omega, q2⟩
def S8_length (M : Mm) (n : Nat) (w x : Int32) (v : Int32) (M' : Mm) : Prop := pIf (¬ w < -1 ∧ ¬ M.1 105 1 ≤ w) (pIf (¬ x < 0 ∧ ¬ 200 < x) (wb8 n w x.toNatClampNeg M M' ∧ v = lenI (M'.1 137) x.toNatClampNeg) (v = -6 ∧ M' = nox M 6)) (v = -1 ∧ M' = nox M 1)
theorem m_X8_length {l : Launch} {M : Mm} {w x : Int32} {n : Nat} (hg : g8 n M) {lc : Nat} (hlc : M.1 105 1 = nI lc) (hl6 : lc ≤ 6) : AMet l 6 yX8_length cX8_length 3 (some FieldType.int) [.ref 105, .int w, .int x] M (QI (S8_length M n w x)) := by
  refine AMet.of (by decide) (by simp [aargs, Value.category]) ?_
  show AW l 6 yX8_length cX8_length 3 (some FieldType.int) 0 [some (.ref 105), some (.int w), some (.int x)] [] M _
  refine aw_aload_n (i := 0) dX8_length_0 rfl rfl ?_
  refine aw_iload_n (i := 1) dX8_length_1 rfl rfl ?_
  refine aw_cVi ck_X8_206 m_X8_isLaws sh_105 rfl (by decide) (by decide) rfl rfl (Nat.le_of_ble_eq_true rfl) dX8_length_2 ?_
  refine aw_ifne_b (tgt := 14) dX8_length_5 (by decide) (fun h5 => ?_) (fun h5 => ?_)
  ·
    refine aw_aload_n (i := 0) dX8_length_14 rfl rfl ?_
    refine aw_iload_n (i := 2) dX8_length_15 rfl rfl ?_
    refine aw_cVi ck_X8_281 m_X8_isTicks sh_105 rfl (by decide) (by decide) rfl rfl (Nat.le_of_ble_eq_true rfl) dX8_length_16 ?_
    refine aw_ifne_b (tgt := 29) dX8_length_19 (by decide) (fun h19 => ?_) (fun h19 => ?_)
    ·
      obtain ⟨m, hm, rfl⟩ := n0_200 h19
      have hw := lw8 hlc hl6 h5
      refine aw_aload_n (i := 0) dX8_length_29 rfl rfl ?_
      refine aw_iload_n (i := 1) dX8_length_30 rfl rfl ?_
      refine aw_iload_n (i := 2) dX8_length_31 rfl rfl ?_
      refine aw_cVQ ck_X8_284 (m_X8_whole hg hw (by omega)) sh_105 rfl (by decide) (by decide) rfl rfl (Nat.le_of_ble_eq_true rfl) dX8_length_32 (fun r M9 hq9 => ?_)
      obtain ⟨rfl, ht9⟩ := hq9
      refine aw_aload_n (i := 0) dX8_length_35 rfl rfl ?_
      refine aw_cVv ck_X8_287 (m_X8_backAll (ev8_g (kep_g hg) ht9).1 hg.2.1) sh_105 rfl (by decide) (by decide) rfl rfl (Nat.le_of_ble_eq_true rfl) dX8_length_36 ?_
      refine aw_aload_n (i := 0) dX8_length_39 rfl rfl ?_
      refine aw_iload_n (i := 2) dX8_length_40 rfl rfl ?_
      refine aw_cVi ck_X8_290 (m_X8_lengthOf (by omega)) sh_105 rfl (by decide) (by decide) rfl rfl (Nat.le_of_ble_eq_true rfl) dX8_length_41 ?_
      exact aw_iret rfl dX8_length_44 ⟨_, rfl, by unfold S8_length; rw [nI_clamp (show m < 2 ^ 31 from by omega)]; (first | rw [pIf_t h5] | rw [pIf_f h5] | rw [pIf_f (Int32.not_lt.mpr h5)] | rw [pIf_f (Int32.not_le.mpr h5)] | rw [pIf_t (Int32.not_le.mp h5)] | rw [pIf_t (Int32.not_lt.mp h5)] | rw [pIf_f (Nat.not_lt.mpr h5)] | rw [pIf_f (Nat.not_le.mpr h5)] | rw [pIf_t (Nat.not_le.mp h5)] | rw [pIf_t (Nat.not_lt.mp h5)] | skip); (first | rw [pIf_t h19] | rw [pIf_f h19] | rw [pIf_f (Int32.not_lt.mpr h19)] | rw [pIf_f (Int32.not_le.mpr h19)] | rw [pIf_t (Int32.not_le.mp h19)] | rw [pIf_t (Int32.not_lt.mp h19)] | rw [pIf_f (Nat.not_lt.mpr h19)] | rw [pIf_f (Nat.not_le.mpr h19)] | rw [pIf_t (Nat.not_le.mp h19)] | rw [pIf_t (Nat.not_lt.mp h19)] | skip); exact ⟨⟨M9, ht9, rfl⟩, rfl⟩⟩
    ·
      refine aw_aload_n (i := 0) dX8_length_22 rfl rfl ?_
      refine aw_bipush (v := (-6)) dX8_length_23 (by decide) ?_
      refine aw_cVi ck_X8_142 (m_X8_no (k := 6) (by decide) (by decide)) sh_105 rfl (by decide) (by decide) rfl rfl (Nat.le_of_ble_eq_true rfl) dX8_length_25 ?_
      exact aw_iret rfl dX8_length_28 (by first | contradiction | exact ⟨_, rfl, by unfold S8_length; (first | rw [pIf_t h5] | rw [pIf_f h5] | rw [pIf_f (Int32.not_lt.mpr h5)] | rw [pIf_f (Int32.not_le.mpr h5)] | rw [pIf_t (Int32.not_le.mp h5)] | rw [pIf_t (Int32.not_lt.mp h5)] | rw [pIf_f (Nat.not_lt.mpr h5)] | rw [pIf_f (Nat.not_le.mpr h5)] | rw [pIf_t (Nat.not_le.mp h5)] | rw [pIf_t (Nat.not_lt.mp h5)] | skip); (first | rw [pIf_t h19] | rw [pIf_f h19] | rw [pIf_f (Int32.not_lt.mpr h19)] | rw [pIf_f (Int32.not_le.mpr h19)] | rw [pIf_t (Int32.not_le.mp h19)] | rw [pIf_t (Int32.not_lt.mp h19)] | rw [pIf_f (Nat.not_lt.mpr h19)] | rw [pIf_f (Nat.not_le.mpr h19)] | rw [pIf_t (Nat.not_le.mp h19)] | rw [pIf_t (Nat.not_lt.mp h19)] | skip); exact ⟨rfl, rfl⟩⟩)
  ·
    refine aw_aload_n (i := 0) dX8_length_8 rfl rfl ?_
    refine aw_iconst (v := (-1)) dX8_length_9 (by decide) ?_
    refine aw_cVi ck_X8_142 (m_X8_no (k := 1) (by decide) (by decide)) sh_105 rfl (by decide) (by decide) rfl rfl (Nat.le_of_ble_eq_true rfl) dX8_length_10 ?_
    exact aw_iret rfl dX8_length_13 (by first | contradiction | exact ⟨_, rfl, by unfold S8_length; (first | rw [pIf_t h5] | rw [pIf_f h5] | rw [pIf_f (Int32.not_lt.mpr h5)] | rw [pIf_f (Int32.not_le.mpr h5)] | rw [pIf_t (Int32.not_le.mp h5)] | rw [pIf_t (Int32.not_lt.mp h5)] | rw [pIf_f (Nat.not_lt.mpr h5)] | rw [pIf_f (Nat.not_le.mpr h5)] | rw [pIf_t (Nat.not_le.mp h5)] | rw [pIf_t (Nat.not_lt.mp h5)] | skip); exact ⟨rfl, rfl⟩⟩)
def S8_joined (M : Mm) (n : Nat) (w x : Int32) (v : Int32) (M' : Mm) : Prop := pIf (¬ w < -1 ∧ ¬ M.1 105 1 ≤ w) (pIf (¬ x < 0 ∧ ¬ 200 < x) (wb8 n w x.toNatClampNeg M M' ∧ v = bcI (M'.1 105 51)) (v = -6 ∧ M' = nox M 6)) (v = -1 ∧ M' = nox M 1)
theorem m_X8_joined {l : Launch} {M : Mm} {w x : Int32} {n : Nat} (hg : g8 n M) {lc : Nat} (hlc : M.1 105 1 = nI lc) (hl6 : lc ≤ 6) : AMet l 6 yX8_joined cX8_joined 3 (some FieldType.int) [.ref 105, .int w, .int x] M (QI (S8_joined M n w x)) := by
  refine AMet.of (by decide) (by simp [aargs, Value.category]) ?_
  show AW l 6 yX8_joined cX8_joined 3 (some FieldType.int) 0 [some (.ref 105), some (.int w), some (.int x)] [] M _
  refine aw_aload_n (i := 0) dX8_joined_0 rfl rfl ?_
  refine aw_iload_n (i := 1) dX8_joined_1 rfl rfl ?_
  refine aw_cVi ck_X8_206 m_X8_isLaws sh_105 rfl (by decide) (by decide) rfl rfl (Nat.le_of_ble_eq_true rfl) dX8_joined_2 ?_
  refine aw_ifne_b (tgt := 14) dX8_joined_5 (by decide) (fun h5 => ?_) (fun h5 => ?_)
  ·
    refine aw_aload_n (i := 0) dX8_joined_14 rfl rfl ?_
    refine aw_iload_n (i := 2) dX8_joined_15 rfl rfl ?_
    refine aw_cVi ck_X8_281 m_X8_isTicks sh_105 rfl (by decide) (by decide) rfl rfl (Nat.le_of_ble_eq_true rfl) dX8_joined_16 ?_
    refine aw_ifne_b (tgt := 29) dX8_joined_19 (by decide) (fun h19 => ?_) (fun h19 => ?_)
    ·
      obtain ⟨m, hm, rfl⟩ := n0_200 h19
      have hw := lw8 hlc hl6 h5
      refine aw_aload_n (i := 0) dX8_joined_29 rfl rfl ?_
      refine aw_iload_n (i := 1) dX8_joined_30 rfl rfl ?_
      refine aw_iload_n (i := 2) dX8_joined_31 rfl rfl ?_
      refine aw_cVQ ck_X8_284 (m_X8_whole hg hw (by omega)) sh_105 rfl (by decide) (by decide) rfl rfl (Nat.le_of_ble_eq_true rfl) dX8_joined_32 (fun r M9 hq9 => ?_)
      obtain ⟨rfl, ht9⟩ := hq9
      refine aw_aload_n (i := 0) dX8_joined_35 rfl rfl ?_
      refine aw_cVv ck_X8_287 (m_X8_backAll (ev8_g (kep_g hg) ht9).1 hg.2.1) sh_105 rfl (by decide) (by decide) rfl rfl (Nat.le_of_ble_eq_true rfl) dX8_joined_36 ?_
      refine aw_aload_n (i := 0) dX8_joined_39 rfl rfl ?_
      refine aw_aload_n (i := 0) dX8_joined_40 rfl rfl ?_
      refine aw_getI gf_X8_268 sh_105 rfl dX8_joined_41 ?_
      refine aw_cVi ck_X8_253 m_X8_bits sh_105 rfl (by decide) (by decide) rfl rfl (Nat.le_of_ble_eq_true rfl) dX8_joined_44 ?_
      exact aw_iret rfl dX8_joined_47 ⟨_, rfl, by unfold S8_joined; rw [nI_clamp (show m < 2 ^ 31 from by omega)]; (first | rw [pIf_t h5] | rw [pIf_f h5] | rw [pIf_f (Int32.not_lt.mpr h5)] | rw [pIf_f (Int32.not_le.mpr h5)] | rw [pIf_t (Int32.not_le.mp h5)] | rw [pIf_t (Int32.not_lt.mp h5)] | rw [pIf_f (Nat.not_lt.mpr h5)] | rw [pIf_f (Nat.not_le.mpr h5)] | rw [pIf_t (Nat.not_le.mp h5)] | rw [pIf_t (Nat.not_lt.mp h5)] | skip); (first | rw [pIf_t h19] | rw [pIf_f h19] | rw [pIf_f (Int32.not_lt.mpr h19)] | rw [pIf_f (Int32.not_le.mpr h19)] | rw [pIf_t (Int32.not_le.mp h19)] | rw [pIf_t (Int32.not_lt.mp h19)] | rw [pIf_f (Nat.not_lt.mpr h19)] | rw [pIf_f (Nat.not_le.mpr h19)] | rw [pIf_t (Nat.not_le.mp h19)] | rw [pIf_t (Nat.not_lt.mp h19)] | skip); exact ⟨⟨M9, ht9, rfl⟩, rfl⟩⟩
    ·
      refine aw_aload_n (i := 0) dX8_joined_22 rfl rfl ?_
      refine aw_bipush (v := (-6)) dX8_joined_23 (by decide) ?_
      refine aw_cVi ck_X8_142 (m_X8_no (k := 6) (by decide) (by decide)) sh_105 rfl (by decide) (by decide) rfl rfl (Nat.le_of_ble_eq_true rfl) dX8_joined_25 ?_
      exact aw_iret rfl dX8_joined_28 (by first | contradiction | exact ⟨_, rfl, by unfold S8_joined; (first | rw [pIf_t h5] | rw [pIf_f h5] | rw [pIf_f (Int32.not_lt.mpr h5)] | rw [pIf_f (Int32.not_le.mpr h5)] | rw [pIf_t (Int32.not_le.mp h5)] | rw [pIf_t (Int32.not_lt.mp h5)] | rw [pIf_f (Nat.not_lt.mpr h5)] | rw [pIf_f (Nat.not_le.mpr h5)] | rw [pIf_t (Nat.not_le.mp h5)] | rw [pIf_t (Nat.not_lt.mp h5)] | skip); (first | rw [pIf_t h19] | rw [pIf_f h19] | rw [pIf_f (Int32.not_lt.mpr h19)] | rw [pIf_f (Int32.not_le.mpr h19)] | rw [pIf_t (Int32.not_le.mp h19)] | rw [pIf_t (Int32.not_lt.mp h19)] | rw [pIf_f (Nat.not_lt.mpr h19)] | rw [pIf_f (Nat.not_le.mpr h19)] | rw [pIf_t (Nat.not_le.mp h19)] | rw [pIf_t (Nat.not_lt.mp h19)] | skip); exact ⟨rfl, rfl⟩⟩)
  ·
    refine aw_aload_n (i := 0) dX8_joined_8 rfl rfl ?_
    refine aw_iconst (v := (-1)) dX8_joined_9 (by decide) ?_
    refine aw_cVi ck_X8_142 (m_X8_no (k := 1) (by decide) (by decide)) sh_105 rfl (by decide) (by decide) rfl rfl (Nat.le_of_ble_eq_true rfl) dX8_joined_10 ?_
    exact aw_iret rfl dX8_joined_13 (by first | contradiction | exact ⟨_, rfl, by unfold S8_joined; (first | rw [pIf_t h5] | rw [pIf_f h5] | rw [pIf_f (Int32.not_lt.mpr h5)] | rw [pIf_f (Int32.not_le.mpr h5)] | rw [pIf_t (Int32.not_le.mp h5)] | rw [pIf_t (Int32.not_lt.mp h5)] | rw [pIf_f (Nat.not_lt.mpr h5)] | rw [pIf_f (Nat.not_le.mpr h5)] | rw [pIf_t (Nat.not_le.mp h5)] | rw [pIf_t (Nat.not_lt.mp h5)] | skip); exact ⟨rfl, rfl⟩⟩)
theorem in_n {x : Int32} {m : Nat} (hm : m < 201) (h1 : ¬ x < 0) (h2 : x < nI m) : ∃ j, j < m ∧ x = nI j := by
  rcases pk_ix x (n := m) (by omega) with q | q | q
  · exact absurd q h1
  · exact absurd h2 (Int32.not_lt.mpr q)
  · exact q
def S8_tally (M : Mm) (n : Nat) (w x i : Int32) (v : Int32) (M' : Mm) : Prop := pIf (¬ w < -1 ∧ ¬ M.1 105 1 ≤ w) (pIf (¬ x < 0 ∧ ¬ 200 < x) (pIf (i < 0) (v = -5 ∧ M' = nox M 5) (pIf (i < x) (wb8 n w (i.toNatClampNeg + 1) M M' ∧ v = M'.1 137 i.toNatClampNeg) (v = -5 ∧ M' = nox M 5))) (v = -5 ∧ M' = nox M 5)) (v = -5 ∧ M' = nox M 5)
theorem m_X8_tally {l : Launch} {M : Mm} {w x i : Int32} {n : Nat} (hg : g8 n M) {lc : Nat} (hlc : M.1 105 1 = nI lc) (hl6 : lc ≤ 6) : AMet l 6 yX8_tally cX8_tally 4 (some FieldType.int) [.ref 105, .int w, .int x, .int i] M (QI (S8_tally M n w x i)) := by
  refine AMet.of (by decide) (by simp [aargs, Value.category]) ?_
  show AW l 6 yX8_tally cX8_tally 4 (some FieldType.int) 0 [some (.ref 105), some (.int w), some (.int x), some (.int i)] [] M _
  refine aw_aload_n (i := 0) dX8_tally_0 rfl rfl ?_
  refine aw_iload_n (i := 1) dX8_tally_1 rfl rfl ?_
  refine aw_cVi ck_X8_206 m_X8_isLaws sh_105 rfl (by decide) (by decide) rfl rfl (Nat.le_of_ble_eq_true rfl) dX8_tally_2 ?_
  refine aw_ifeq_b (tgt := 25) dX8_tally_5 (by decide) (fun h5 => ?_) (fun h5 => ?_)
  ·
    refine aw_aload_n (i := 0) dX8_tally_25 rfl rfl ?_
    refine aw_bipush (v := (-5)) dX8_tally_26 (by decide) ?_
    refine aw_cVi ck_X8_142 (m_X8_no (k := 5) (by decide) (by decide)) sh_105 rfl (by decide) (by decide) rfl rfl (Nat.le_of_ble_eq_true rfl) dX8_tally_28 ?_
    exact aw_iret rfl dX8_tally_31 (by first | contradiction | exact ⟨_, rfl, by unfold S8_tally; (first | rw [pIf_t h5] | rw [pIf_f h5] | rw [pIf_f (Int32.not_lt.mpr h5)] | rw [pIf_f (Int32.not_le.mpr h5)] | rw [pIf_t (Int32.not_le.mp h5)] | rw [pIf_t (Int32.not_lt.mp h5)] | rw [pIf_f (Nat.not_lt.mpr h5)] | rw [pIf_f (Nat.not_le.mpr h5)] | rw [pIf_t (Nat.not_le.mp h5)] | rw [pIf_t (Nat.not_lt.mp h5)] | skip); exact ⟨rfl, rfl⟩⟩)
  ·
    refine aw_aload_n (i := 0) dX8_tally_8 rfl rfl ?_
    refine aw_iload_n (i := 2) dX8_tally_9 rfl rfl ?_
    refine aw_cVi ck_X8_281 m_X8_isTicks sh_105 rfl (by decide) (by decide) rfl rfl (Nat.le_of_ble_eq_true rfl) dX8_tally_10 ?_
    refine aw_ifeq_b (tgt := 25) dX8_tally_13 (by decide) (fun h13 => ?_) (fun h13 => ?_)
    ·
      refine aw_aload_n (i := 0) dX8_tally_25 rfl rfl ?_
      refine aw_bipush (v := (-5)) dX8_tally_26 (by decide) ?_
      refine aw_cVi ck_X8_142 (m_X8_no (k := 5) (by decide) (by decide)) sh_105 rfl (by decide) (by decide) rfl rfl (Nat.le_of_ble_eq_true rfl) dX8_tally_28 ?_
      exact aw_iret rfl dX8_tally_31 (by first | contradiction | exact ⟨_, rfl, by unfold S8_tally; (first | rw [pIf_t h5] | rw [pIf_f h5] | rw [pIf_f (Int32.not_lt.mpr h5)] | rw [pIf_f (Int32.not_le.mpr h5)] | rw [pIf_t (Int32.not_le.mp h5)] | rw [pIf_t (Int32.not_lt.mp h5)] | rw [pIf_f (Nat.not_lt.mpr h5)] | rw [pIf_f (Nat.not_le.mpr h5)] | rw [pIf_t (Nat.not_le.mp h5)] | rw [pIf_t (Nat.not_lt.mp h5)] | skip); (first | rw [pIf_t h13] | rw [pIf_f h13] | rw [pIf_f (Int32.not_lt.mpr h13)] | rw [pIf_f (Int32.not_le.mpr h13)] | rw [pIf_t (Int32.not_le.mp h13)] | rw [pIf_t (Int32.not_lt.mp h13)] | rw [pIf_f (Nat.not_lt.mpr h13)] | rw [pIf_f (Nat.not_le.mpr h13)] | rw [pIf_t (Nat.not_le.mp h13)] | rw [pIf_t (Nat.not_lt.mp h13)] | skip); exact ⟨rfl, rfl⟩⟩)
    ·
      refine aw_iload_n (i := 3) dX8_tally_16 rfl rfl ?_
      refine aw_if_lt (tgt := 25) dX8_tally_17 (by decide) (fun h17 => ?_) (fun h17 => ?_)
      ·
        refine aw_aload_n (i := 0) dX8_tally_25 rfl rfl ?_
        refine aw_bipush (v := (-5)) dX8_tally_26 (by decide) ?_
        refine aw_cVi ck_X8_142 (m_X8_no (k := 5) (by decide) (by decide)) sh_105 rfl (by decide) (by decide) rfl rfl (Nat.le_of_ble_eq_true rfl) dX8_tally_28 ?_
        exact aw_iret rfl dX8_tally_31 (by first | contradiction | exact ⟨_, rfl, by unfold S8_tally; (first | rw [pIf_t h5] | rw [pIf_f h5] | rw [pIf_f (Int32.not_lt.mpr h5)] | rw [pIf_f (Int32.not_le.mpr h5)] | rw [pIf_t (Int32.not_le.mp h5)] | rw [pIf_t (Int32.not_lt.mp h5)] | rw [pIf_f (Nat.not_lt.mpr h5)] | rw [pIf_f (Nat.not_le.mpr h5)] | rw [pIf_t (Nat.not_le.mp h5)] | rw [pIf_t (Nat.not_lt.mp h5)] | skip); (first | rw [pIf_t h13] | rw [pIf_f h13] | rw [pIf_f (Int32.not_lt.mpr h13)] | rw [pIf_f (Int32.not_le.mpr h13)] | rw [pIf_t (Int32.not_le.mp h13)] | rw [pIf_t (Int32.not_lt.mp h13)] | rw [pIf_f (Nat.not_lt.mpr h13)] | rw [pIf_f (Nat.not_le.mpr h13)] | rw [pIf_t (Nat.not_le.mp h13)] | rw [pIf_t (Nat.not_lt.mp h13)] | skip); (first | rw [pIf_t h17] | rw [pIf_f h17] | rw [pIf_f (Int32.not_lt.mpr h17)] | rw [pIf_f (Int32.not_le.mpr h17)] | rw [pIf_t (Int32.not_le.mp h17)] | rw [pIf_t (Int32.not_lt.mp h17)] | rw [pIf_f (Nat.not_lt.mpr h17)] | rw [pIf_f (Nat.not_le.mpr h17)] | rw [pIf_t (Nat.not_le.mp h17)] | rw [pIf_t (Nat.not_lt.mp h17)] | skip); exact ⟨rfl, rfl⟩⟩)
      ·
        refine aw_iload_n (i := 3) dX8_tally_20 rfl rfl ?_
        refine aw_iload_n (i := 2) dX8_tally_21 rfl rfl ?_
        refine aw_icmp_lt (tgt := 32) dX8_tally_22 (by decide) (fun h22 => ?_) (fun h22 => ?_)
        ·
          obtain ⟨m, hm, rfl⟩ := n0_200 h13
          have hw := lw8 hlc hl6 h5
          obtain ⟨j, hj, rfl⟩ := in_n hm h17 h22
          refine aw_aload_n (i := 0) dX8_tally_32 rfl rfl ?_
          refine aw_iload_n (i := 1) dX8_tally_33 rfl rfl ?_
          refine aw_iload_n (i := 3) dX8_tally_34 rfl rfl ?_
          refine aw_iconst (v := 1) dX8_tally_35 (by decide) ?_
          refine aw_iadd dX8_tally_36 ?_
          refine aw_top ((nI_succ j).symm) ?_
          refine aw_cVQ ck_X8_284 (m_X8_whole hg hw (by omega)) sh_105 rfl (by decide) (by decide) rfl rfl (Nat.le_of_ble_eq_true rfl) dX8_tally_37 (fun r M9 hq9 => ?_)
          obtain ⟨rfl, ht9⟩ := hq9
          refine aw_aload_n (i := 0) dX8_tally_40 rfl rfl ?_
          refine aw_cVv ck_X8_287 (m_X8_backAll (ev8_g (kep_g hg) ht9).1 hg.2.1) sh_105 rfl (by decide) (by decide) rfl rfl (Nat.le_of_ble_eq_true rfl) dX8_tally_41 ?_
          refine aw_aload_n (i := 0) dX8_tally_44 rfl rfl ?_
          refine aw_getR gf_X8_117 sh_105 rfl dX8_tally_45 ?_
          refine aw_iload_n (i := 3) dX8_tally_48 rfl rfl ?_
          refine aw_ialdN sh_137 (by omega) (by omega) dX8_tally_49 ?_
          exact aw_iret rfl dX8_tally_50 ⟨_, rfl, by unfold S8_tally; rw [nI_clamp (show j < 2 ^ 31 from by omega)]; (first | rw [pIf_t h5] | rw [pIf_f h5] | rw [pIf_f (Int32.not_lt.mpr h5)] | rw [pIf_f (Int32.not_le.mpr h5)] | rw [pIf_t (Int32.not_le.mp h5)] | rw [pIf_t (Int32.not_lt.mp h5)] | rw [pIf_f (Nat.not_lt.mpr h5)] | rw [pIf_f (Nat.not_le.mpr h5)] | rw [pIf_t (Nat.not_le.mp h5)] | rw [pIf_t (Nat.not_lt.mp h5)] | skip); (first | rw [pIf_t h13] | rw [pIf_f h13] | rw [pIf_f (Int32.not_lt.mpr h13)] | rw [pIf_f (Int32.not_le.mpr h13)] | rw [pIf_t (Int32.not_le.mp h13)] | rw [pIf_t (Int32.not_lt.mp h13)] | rw [pIf_f (Nat.not_lt.mpr h13)] | rw [pIf_f (Nat.not_le.mpr h13)] | rw [pIf_t (Nat.not_le.mp h13)] | rw [pIf_t (Nat.not_lt.mp h13)] | skip); (first | rw [pIf_t h17] | rw [pIf_f h17] | rw [pIf_f (Int32.not_lt.mpr h17)] | rw [pIf_f (Int32.not_le.mpr h17)] | rw [pIf_t (Int32.not_le.mp h17)] | rw [pIf_t (Int32.not_lt.mp h17)] | rw [pIf_f (Nat.not_lt.mpr h17)] | rw [pIf_f (Nat.not_le.mpr h17)] | rw [pIf_t (Nat.not_le.mp h17)] | rw [pIf_t (Nat.not_lt.mp h17)] | skip); rw [pIf_t h22]; exact ⟨⟨M9, ht9, rfl⟩, rfl⟩⟩
        ·
          refine aw_aload_n (i := 0) dX8_tally_25 rfl rfl ?_
          refine aw_bipush (v := (-5)) dX8_tally_26 (by decide) ?_
          refine aw_cVi ck_X8_142 (m_X8_no (k := 5) (by decide) (by decide)) sh_105 rfl (by decide) (by decide) rfl rfl (Nat.le_of_ble_eq_true rfl) dX8_tally_28 ?_
          exact aw_iret rfl dX8_tally_31 (by first | contradiction | exact ⟨_, rfl, by unfold S8_tally; (first | rw [pIf_t h5] | rw [pIf_f h5] | rw [pIf_f (Int32.not_lt.mpr h5)] | rw [pIf_f (Int32.not_le.mpr h5)] | rw [pIf_t (Int32.not_le.mp h5)] | rw [pIf_t (Int32.not_lt.mp h5)] | rw [pIf_f (Nat.not_lt.mpr h5)] | rw [pIf_f (Nat.not_le.mpr h5)] | rw [pIf_t (Nat.not_le.mp h5)] | rw [pIf_t (Nat.not_lt.mp h5)] | skip); (first | rw [pIf_t h13] | rw [pIf_f h13] | rw [pIf_f (Int32.not_lt.mpr h13)] | rw [pIf_f (Int32.not_le.mpr h13)] | rw [pIf_t (Int32.not_le.mp h13)] | rw [pIf_t (Int32.not_lt.mp h13)] | rw [pIf_f (Nat.not_lt.mpr h13)] | rw [pIf_f (Nat.not_le.mpr h13)] | rw [pIf_t (Nat.not_le.mp h13)] | rw [pIf_t (Nat.not_lt.mp h13)] | skip); (first | rw [pIf_t h17] | rw [pIf_f h17] | rw [pIf_f (Int32.not_lt.mpr h17)] | rw [pIf_f (Int32.not_le.mpr h17)] | rw [pIf_t (Int32.not_le.mp h17)] | rw [pIf_t (Int32.not_lt.mp h17)] | rw [pIf_f (Nat.not_lt.mpr h17)] | rw [pIf_f (Nat.not_le.mpr h17)] | rw [pIf_t (Nat.not_le.mp h17)] | rw [pIf_t (Nat.not_lt.mp h17)] | skip); (first | rw [pIf_t h22] | rw [pIf_f h22] | rw [pIf_f (Int32.not_lt.mpr h22)] | rw [pIf_f (Int32.not_le.mpr h22)] | rw [pIf_t (Int32.not_le.mp h22)] | rw [pIf_t (Int32.not_lt.mp h22)] | rw [pIf_f (Nat.not_lt.mpr h22)] | rw [pIf_f (Nat.not_le.mpr h22)] | rw [pIf_t (Nat.not_le.mp h22)] | rw [pIf_t (Nat.not_lt.mp h22)] | skip); exact ⟨rfl, rfl⟩⟩)
noncomputable def gr0 (n p : Nat) (M : Mm) : Mm := mI (mI (mI (qui8 n (kepM n M)) 105 3 0) 113 p 1) 105 36 1
theorem gr0_g {n p : Nat} {M : Mm} (h : g8 n M) : g8 n (gr0 n p M) := g_105 (by decide) (g_row (by decide) (g_105 (by decide) ((kep_g h).of (congrFun (qui8_o (by decide)) 0) (qui8_o (by decide)) (qui8_o (by decide)) (qui8_o (by decide)))))
theorem gr0_5 {n p : Nat} {M : Mm} : (gr0 n p M).1 105 5 = M.1 105 5 := by
  unfold gr0
  rw [mI_self, upd_other (by decide), mI_other (by decide), mI_self, upd_other (by decide), qui8_o (by decide), kep_sc.2.2 5 (by decide)]
theorem qui_kp {n : Nat} {M X : Mm} (h : kp8 n M X) : kp8 n M (qui8 n X) := by
  unfold kp8
  rw [qui8_o (by decide), qui8_o (by decide), qui8_o (by decide), qui8_o (by decide), qui8_o (by decide)]
  exact h
theorem qui_sc {n : Nat} {M X : Mm} (h : sc8 M X) : sc8 M (qui8 n X) := by
  refine ⟨?_, fun k hk => (qui8_o (by omega)).trans (h.2.1 k hk), fun j hj => (congrFun (qui8_o (by decide)) j).trans (h.2.2 j hj)⟩
  unfold qui8
  exact h.1
def gw8 (n p : Nat) (M M' : Mm) : Prop := ∃ Y, ev8 n (M.1 105 5) 100 (gr0 n p M) Y ∧ M' = bakM n (mI Y 105 36 0)
theorem gw8_out {n p : Nat} {M M' : Mm} (h36 : M.1 105 36 = 0) (h : gw8 n p M M') : out8 n M M' := by
  obtain ⟨Y, he, rfl⟩ := h
  refine bak_out ((ev8_kp (M := M) ?_ he).m5 (by omega)) ((ev8_sc (M := M) ?_ he).m5 (by omega)) (by rw [mI_self, upd_self, h36])
  · exact (((qui_kp kp8_k).m5 (by omega)).mr (by omega)).m5 (by omega)
  · exact (((qui_sc kep_sc).m5 (by omega)).mr (by omega)).m5 (by omega)
def S8_grows (M : Mm) (n : Nat) (x : Int32) (v : Int32) (M' : Mm) : Prop := pIf (¬ x < 0 ∧ ¬ M.1 105 0 ≤ x) (gw8 n x.toNatClampNeg M M' ∧ v = bcI (M'.1 105 51) - 1) (v = -1 ∧ M' = nox M 1)
theorem m_X8_grows {l : Launch} {M : Mm} {x : Int32} {n : Nat} (hg : g8 n M) (hfo : okW (M.1 105 5)) : AMet l 5 yX8_grows cX8_grows 2 (some FieldType.int) [.ref 105, .int x] M (QI (S8_grows M n x)) := by
  refine AMet.of (by decide) (by simp [aargs, Value.category]) ?_
  show AW l 5 yX8_grows cX8_grows 2 (some FieldType.int) 0 [some (.ref 105), some (.int x)] [] M _
  refine aw_aload_n (i := 0) dX8_grows_0 rfl rfl ?_
  refine aw_iload_n (i := 1) dX8_grows_1 rfl rfl ?_
  refine aw_cVi ck_X8_146 m_X8_isPerson sh_105 rfl (by decide) (by decide) rfl rfl (Nat.le_of_ble_eq_true rfl) dX8_grows_2 ?_
  refine aw_ifne_b (tgt := 14) dX8_grows_5 (by decide) (fun h5 => ?_) (fun h5 => ?_)
  ·
    obtain ⟨p, hp, rfl⟩ := has8 hg.1 hg.2.1 h5
    have hg30 := hg.2.1
    refine aw_aload_n (i := 0) dX8_grows_14 rfl rfl ?_
    refine aw_cVv ck_X8_274 (m_X8_keepsAll hg.1 hg.2.1) sh_105 rfl (by decide) (by decide) rfl rfl (Nat.le_of_ble_eq_true rfl) dX8_grows_15 ?_
    refine aw_aload_n (i := 0) dX8_grows_18 rfl rfl ?_
    refine aw_cVv ck_X8_250 (m_X8_quiets (kep_g hg).1 hg.2.1) sh_105 rfl (by decide) (by decide) rfl rfl (Nat.le_of_ble_eq_true rfl) dX8_grows_19 ?_
    refine aw_aload_n (i := 0) dX8_grows_22 rfl rfl ?_
    refine aw_getR gf_X8_41 sh_105 rfl dX8_grows_23 ?_
    refine aw_iload_n (i := 1) dX8_grows_26 rfl rfl ?_
    refine aw_iconst (v := 1) dX8_grows_27 (by decide) ?_
    refine aw_iastN sh_113 (by omega) (by omega) dX8_grows_28 ?_
    refine aw_aload_n (i := 0) dX8_grows_29 rfl rfl ?_
    refine aw_iconst (v := 1) dX8_grows_30 (by decide) ?_
    refine aw_putZ pf_X8_219 sh_105 rfl (by simp) dX8_grows_31 ?_
    refine aw_aload_n (i := 0) dX8_grows_34 rfl rfl ?_
    refine aw_aload_n (i := 0) dX8_grows_35 rfl rfl ?_
    refine aw_getX gf_X8_13 sh_105 rfl gr0_5 dX8_grows_36 ?_
    refine aw_bipush (v := 100) dX8_grows_39 (by decide) ?_
    refine aw_top (show (100 : Int32) = nI 100 from rfl) ?_
    refine aw_cVQ ck_X8_277 (m_X8_evening (gr0_g hg) hfo (by omega)) sh_105 rfl (by decide) (by decide) rfl rfl (Nat.le_of_ble_eq_true rfl) dX8_grows_41 (fun r M9 hq9 => ?_)
    obtain ⟨rfl, ht9⟩ := hq9
    refine aw_aload_n (i := 0) dX8_grows_44 rfl rfl ?_
    refine aw_iconst (v := 0) dX8_grows_45 (by decide) ?_
    refine aw_putZ pf_X8_219 sh_105 rfl (by simp) dX8_grows_46 ?_
    refine aw_aload_n (i := 0) dX8_grows_49 rfl rfl ?_
    refine aw_cVv ck_X8_287 (m_X8_backAll (g_105 (by decide) (ev8_g (gr0_g hg) ht9)).1 hg.2.1) sh_105 rfl (by decide) (by decide) rfl rfl (Nat.le_of_ble_eq_true rfl) dX8_grows_50 ?_
    refine aw_aload_n (i := 0) dX8_grows_53 rfl rfl ?_
    refine aw_aload_n (i := 0) dX8_grows_54 rfl rfl ?_
    refine aw_getI gf_X8_268 sh_105 rfl dX8_grows_55 ?_
    refine aw_cVi ck_X8_253 m_X8_bits sh_105 rfl (by decide) (by decide) rfl rfl (Nat.le_of_ble_eq_true rfl) dX8_grows_58 ?_
    refine aw_iconst (v := 1) dX8_grows_61 (by decide) ?_
    refine aw_isub dX8_grows_62 ?_
    exact aw_iret rfl dX8_grows_63 ⟨_, rfl, by unfold S8_grows; rw [nI_clamp (show p < 2 ^ 31 from by omega)]; (first | rw [pIf_t h5] | rw [pIf_f h5] | rw [pIf_f (Int32.not_lt.mpr h5)] | rw [pIf_f (Int32.not_le.mpr h5)] | rw [pIf_t (Int32.not_le.mp h5)] | rw [pIf_t (Int32.not_lt.mp h5)] | rw [pIf_f (Nat.not_lt.mpr h5)] | rw [pIf_f (Nat.not_le.mpr h5)] | rw [pIf_t (Nat.not_le.mp h5)] | rw [pIf_t (Nat.not_lt.mp h5)] | skip); exact ⟨⟨M9, ht9, rfl⟩, rfl⟩⟩
  ·
    refine aw_aload_n (i := 0) dX8_grows_8 rfl rfl ?_
    refine aw_iconst (v := (-1)) dX8_grows_9 (by decide) ?_
    refine aw_cVi ck_X8_142 (m_X8_no (k := 1) (by decide) (by decide)) sh_105 rfl (by decide) (by decide) rfl rfl (Nat.le_of_ble_eq_true rfl) dX8_grows_10 ?_
    exact aw_iret rfl dX8_grows_13 (by first | contradiction | exact ⟨_, rfl, by unfold S8_grows; (first | rw [pIf_t h5] | rw [pIf_f h5] | rw [pIf_f (Int32.not_lt.mpr h5)] | rw [pIf_f (Int32.not_le.mpr h5)] | rw [pIf_t (Int32.not_le.mp h5)] | rw [pIf_t (Int32.not_lt.mp h5)] | rw [pIf_f (Nat.not_lt.mpr h5)] | rw [pIf_f (Nat.not_le.mpr h5)] | rw [pIf_t (Nat.not_le.mp h5)] | rw [pIf_t (Nat.not_lt.mp h5)] | skip); exact ⟨rfl, rfl⟩⟩)
noncomputable def ask8 (x : Int32) (X : Mm) : Mm := pIf (x = -1) X (mI (mI X 113 x.toNatClampNeg 1) 114 x.toNatClampNeg 0)
theorem ask8_o {x : Int32} {X : Mm} {k : Nat} (h : k ≠ 113 ∧ k ≠ 114) : (ask8 x X).1 k = X.1 k := by
  unfold ask8
  by_cases e : x = -1
  · rw [pIf_t e]
  · rw [pIf_f e, mI_other h.2, mI_other h.1]
theorem ask8_g {n : Nat} {x : Int32} {X : Mm} (h : g8 n X) : g8 n (ask8 x X) := h.of (congrFun (ask8_o (by decide)) 0) (ask8_o (by decide)) (ask8_o (by decide)) (ask8_o (by decide))
theorem ask8_kp {n : Nat} {x : Int32} {M X : Mm} (h : kp8 n M X) : kp8 n M (ask8 x X) := by
  unfold kp8
  rw [ask8_o (by decide), ask8_o (by decide), ask8_o (by decide), ask8_o (by decide), ask8_o (by decide)]
  exact h
theorem ask8_sc {x : Int32} {M X : Mm} (h : sc8 M X) : sc8 M (ask8 x X) := by
  refine ⟨?_, fun k hk => (ask8_o (by omega)).trans (h.2.1 k hk), fun j hj => (congrFun (ask8_o (by decide)) j).trans (h.2.2 j hj)⟩
  unfold ask8
  by_cases e : x = -1
  · rw [pIf_t e]; exact h.1
  · rw [pIf_f e]; exact h.1
noncomputable def as0 (n : Nat) (a b : Int32) (M : Mm) : Mm := ask8 b (ask8 a (kepM n M))
theorem as0_g {n : Nat} {a b : Int32} {M : Mm} (h : g8 n M) : g8 n (as0 n a b M) := ask8_g (ask8_g (kep_g h))
def aw8 (n : Nat) (a b : Int32) (M M' : Mm) : Prop := ∃ Y, ev8 n (M.1 105 5) 60 (as0 n a b M) Y ∧ M' = bakM n Y
theorem aw8_out {n : Nat} {a b : Int32} {M M' : Mm} (h : aw8 n a b M M') : out8 n M M' := by
  obtain ⟨Y, he, rfl⟩ := h
  exact bak_out (ev8_kp (ask8_kp (ask8_kp kp8_k)) he) (ev8_sc (ask8_sc (ask8_sc kep_sc)) he) ((ev8_36 he).trans (by unfold as0; rw [ask8_o (by decide), ask8_o (by decide), kep_36]))
theorem as0_5 {n : Nat} {a b : Int32} {M : Mm} : (as0 n a b M).1 105 5 = M.1 105 5 := by
  unfold as0
  rw [ask8_o (by decide), ask8_o (by decide), kep_sc.2.2 5 (by decide)]
def okA (n : Nat) (x : Int32) : Prop := x = -1 ∨ ∃ p, p < n ∧ x = nI p
theorem okA_p {n : Nat} {x : Int32} (h : okA n x) (h2 : ¬ x = -1) : ∃ p, p < n ∧ x = nI p := h.resolve_left h2
theorem ask8_n {X : Mm} : X = ask8 (-1) X := (pIf_t rfl).symm
theorem nI_m1 {p : Nat} (h : p < 30) : ¬ nI p = -1 := by
  have t : ∀ p, p < 30 → ¬ nI p = -1 := by decide +kernel
  exact t p h
theorem ask8_y {X : Mm} {p : Nat} (h : p < 30) : mI (mI X 113 p 1) 114 p 0 = ask8 (nI p) X := by
  unfold ask8
  rw [pIf_f (nI_m1 h), nI_clamp (by omega)]
def S8_asked (M : Mm) (n : Nat) (a b : Int32) (v : Int32) (M' : Mm) : Prop := aw8 n a b M M' ∧ v = bcI (M'.1 105 51)
theorem m_X8_asked {l : Launch} {M : Mm} {a b : Int32} {n : Nat} (hg : g8 n M) (hfo : okW (M.1 105 5)) (ha : okA n a) (hb : okA n b) : AMet l 5 yX8_asked cX8_asked 3 (some FieldType.int) [.ref 105, .int a, .int b] M (QI (S8_asked M n a b)) := by
  refine AMet.of (by decide) (by simp [aargs, Value.category]) ?_
  show AW l 5 yX8_asked cX8_asked 3 (some FieldType.int) 0 [some (.ref 105), some (.int a), some (.int b)] [] M _
  have hg30 := hg.2.1
  refine aw_aload_n (i := 0) dX8_asked_0 rfl rfl ?_
  refine aw_cVv ck_X8_274 (m_X8_keepsAll hg.1 hg.2.1) sh_105 rfl (by decide) (by decide) rfl rfl (Nat.le_of_ble_eq_true rfl) dX8_asked_1 ?_
  have J42 : AW l 5 yX8_asked cX8_asked 3 (some FieldType.int) 42 [some (.ref 105), some (.int a), some (.int b)] [] (as0 n a b M) (QI (S8_asked M n a b)) := by
    refine aw_aload_n (i := 0) dX8_asked_42 rfl rfl ?_
    refine aw_aload_n (i := 0) dX8_asked_43 rfl rfl ?_
    refine aw_getX gf_X8_13 sh_105 rfl as0_5 dX8_asked_44 ?_
    refine aw_bipush (v := 60) dX8_asked_47 (by decide) ?_
    refine aw_top (show (60 : Int32) = nI 60 from rfl) ?_
    refine aw_cVQ ck_X8_277 (m_X8_evening (as0_g hg) hfo (by omega)) sh_105 rfl (by decide) (by decide) rfl rfl (Nat.le_of_ble_eq_true rfl) dX8_asked_49 (fun r M9 hq9 => ?_)
    obtain ⟨rfl, ht9⟩ := hq9
    refine aw_aload_n (i := 0) dX8_asked_52 rfl rfl ?_
    refine aw_cVv ck_X8_287 (m_X8_backAll (ev8_g (as0_g hg) ht9).1 hg.2.1) sh_105 rfl (by decide) (by decide) rfl rfl (Nat.le_of_ble_eq_true rfl) dX8_asked_53 ?_
    refine aw_aload_n (i := 0) dX8_asked_56 rfl rfl ?_
    refine aw_aload_n (i := 0) dX8_asked_57 rfl rfl ?_
    refine aw_getI gf_X8_268 sh_105 rfl dX8_asked_58 ?_
    refine aw_cVi ck_X8_253 m_X8_bits sh_105 rfl (by decide) (by decide) rfl rfl (Nat.le_of_ble_eq_true rfl) dX8_asked_61 ?_
    exact aw_iret rfl dX8_asked_64 ⟨_, rfl, ⟨M9, ht9, rfl⟩, rfl⟩
  have J23 : AW l 5 yX8_asked cX8_asked 3 (some FieldType.int) 23 [some (.ref 105), some (.int a), some (.int b)] [] (ask8 a (kepM n M)) (QI (S8_asked M n a b)) := by
    refine aw_iload_n (i := 2) dX8_asked_23 rfl rfl ?_
    refine aw_iconst (v := (-1)) dX8_asked_24 (by decide) ?_
    refine aw_icmp_eq (tgt := 42) dX8_asked_25 (by decide) (fun h25 => ?_) (fun h25 => ?_)
    ·
      rw [h25] at J42 ⊢
      exact aw_mem (show _ = as0 n a (-1) M from ask8_n) J42
    ·
      obtain ⟨q, hq, rfl⟩ := okA_p hb h25
      refine aw_aload_n (i := 0) dX8_asked_28 rfl rfl ?_
      refine aw_getR gf_X8_41 sh_105 rfl dX8_asked_29 ?_
      refine aw_iload_n (i := 2) dX8_asked_32 rfl rfl ?_
      refine aw_iconst (v := 1) dX8_asked_33 (by decide) ?_
      refine aw_iastN sh_113 (by omega) (by omega) dX8_asked_34 ?_
      refine aw_aload_n (i := 0) dX8_asked_35 rfl rfl ?_
      refine aw_getR gf_X8_44 sh_105 rfl dX8_asked_36 ?_
      refine aw_iload_n (i := 2) dX8_asked_39 rfl rfl ?_
      refine aw_iconst (v := 0) dX8_asked_40 (by decide) ?_
      refine aw_iastN sh_114 (by omega) (by omega) dX8_asked_41 ?_
      exact aw_mem (show _ = as0 n a (nI q) M from ask8_y (by omega)) J42
  refine aw_iload_n (i := 1) dX8_asked_4 rfl rfl ?_
  refine aw_iconst (v := (-1)) dX8_asked_5 (by decide) ?_
  refine aw_icmp_eq (tgt := 23) dX8_asked_6 (by decide) (fun h6 => ?_) (fun h6 => ?_)
  ·
    rw [h6] at J23 ⊢
    exact aw_mem ask8_n J23
  ·
    obtain ⟨p, hp, rfl⟩ := okA_p ha h6
    refine aw_aload_n (i := 0) dX8_asked_9 rfl rfl ?_
    refine aw_getR gf_X8_41 sh_105 rfl dX8_asked_10 ?_
    refine aw_iload_n (i := 1) dX8_asked_13 rfl rfl ?_
    refine aw_iconst (v := 1) dX8_asked_14 (by decide) ?_
    refine aw_iastN sh_113 (by omega) (by omega) dX8_asked_15 ?_
    refine aw_aload_n (i := 0) dX8_asked_16 rfl rfl ?_
    refine aw_getR gf_X8_44 sh_105 rfl dX8_asked_17 ?_
    refine aw_iload_n (i := 1) dX8_asked_20 rfl rfl ?_
    refine aw_iconst (v := 0) dX8_asked_21 (by decide) ?_
    refine aw_iastN sh_114 (by omega) (by omega) dX8_asked_22 ?_
    exact aw_mem (ask8_y (by omega)) J23
