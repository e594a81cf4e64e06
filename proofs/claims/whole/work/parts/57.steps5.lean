section ST5
variable {n cnt mc : Nat} {A B A' B' : Mm}
theorem J.ofF (h : J n cnt mc A B) (hc : JC n A' B') (hb : JB cnt A' B') (hA : ∀ q, q ≠ 14 → q ≠ 78 → A'.1 q = A.1 q) (hA2 : A'.2 = A.2) (hB : ∀ q, q ≠ 105 → B'.1 q = B.1 q) (hB2 : B'.2 = B.2) (hf : ∀ j, ¬ (j = 4 ∨ j = 5) → B'.1 105 j = B.1 105 j) : J n cnt mc A' B' := by
  obtain ⟨a, b, c, d, e, f, g, i⟩ := h
  exact ⟨hc, hb, c.fr (fun q hq => hA q (by omega) (by omega)) (hB 117 (by omega)) (hf 2 (by omega)), d.fr (fun q hq => hA q (by omega) (by omega)) (fun k hk => by rw [hA2]) (fun q hq => hB q (by omega)) (by rw [hB2]), e.fr (fun q hq => hA q (by omega) (by omega)) (hB 106 (by omega)) (hf 6 (by omega)), f.fr (fun q hq => hA q (by omega) (by omega)) (hB 139 (by omega)) (hf 54 (by omega)), g.fr (congrFun (hA 0 (by omega) (by omega)) 13) (fun q hq => hA q (by omega) (by omega)) (hB 140 (by omega)) (fun j hj => hf j (by omega)), i.fr (hB 126 (by omega)) (hf 36 (by omega))⟩
theorem st_force (h : J n cnt mc A B) {x v w : Int32} (hc : S_force A x v A') (hm : S8_force B x w B') : v = w ∧ Jx A' B' := by
  unfold S_force at hc
  unfold S8_force at hm
  by_cases c1 : x = -1 ∨ (¬ x < 0 ∧ ¬ A.1 78 1 ≤ x)
  · rw [pIf_t c1] at hc
    rw [pIf_t (h.lw.mp c1)] at hm
    obtain ⟨rfl, rfl⟩ := hc
    obtain ⟨rfl, rfl⟩ := hm
    obtain ⟨g1, g2, g3, ⟨g4, g5, g6, g7⟩, g8⟩ := h.2.1
    refine ⟨g6, (h.ofF (h.1.fr (fun q hq => mI_other (by omega)) (fun t ht => by rw [mI_other (by omega)]; exact agr.rf) (fun j hj => by rw [mI_self, upd_other (by omega)])) ⟨?_, ?_, g3, ⟨fun k hk i hi => ?_, fun i hi => ?_, ?_, ?_⟩, fun i hi => ?_⟩ (fun q a b => mI_other b) rfl (fun q a => mI_other a) rfl (fun j hj => by rw [mI_self, upd_other (by omega)])).x⟩
    · rw [mI_self, upd_other (by decide)]; exact g1
    · rw [mI_self, upd_other (by decide)]; exact g2
    · show (mI A 78 2 x).1 (80 + (k + 1)) i = (mI B 105 5 x).1 119 (7 * k + i)
      rw [mI_other (by omega), mI_other (by decide)]; exact g4 k hk i hi
    · show (mI A 78 2 x).1 (80 + 0) i = lawsF i
      rw [mI_other (by decide)]; exact g5 i hi
    · rw [mI_self, upd_self, mI_self, upd_self]
    · rw [mI_self, upd_self]
      rcases c1 with q | q
      · exact Or.inl q
      · refine Or.inr (lawRow_lt g3 ?_)
        rw [← g1]
        exact q
    · rw [mI_other (by decide)]; exact g8 i hi
  · rw [pIf_f c1] at hc
    rw [pIf_f (fun z => c1 (h.lw.mpr z))] at hm
    obtain ⟨rfl, rfl⟩ := hc
    obtain ⟨rfl, rfl⟩ := hm
    exact ⟨by decide, (h.ref (k := 0) (by decide)).x⟩
theorem st_seed (h : J n cnt mc A B) {x v w : Int32} (hc : S_seed A x v A') (hm : S8_seed B x w B') : v = w ∧ Jx A' B' := by
  obtain ⟨rfl, rfl⟩ := hc
  obtain ⟨rfl, rfl⟩ := hm
  obtain ⟨g0, g1, g2, g3, f1, f2, f3, f4, f5, f6⟩ := h.1
  refine ⟨f2, (h.ofF ⟨?_, ?_, g2, g3.cg (fun t ht => ?_) (fun t ht => ?_), ?_, ?_, ?_, ?_, ?_, ?_⟩ (h.2.1.fr (fun q hq => mI_other (by omega)) (fun q hq => mI_other (by omega)) (fun j hj => by rw [mI_self, upd_other (by omega)])) (fun q a b => mI_other a) rfl (fun q a => mI_other a) rfl (fun j hj => by rw [mI_self, upd_other (by omega)])).x⟩
  · rw [mI_self, upd_other (by decide)]; exact g0
  · rw [mI_self, upd_other (by decide)]; exact g1
  · show agr n ((mI A 14 13 x).1 (16 + t)) (A.1 (16 + t))
    rw [mI_other (by omega)]; exact agr.rf
  · show agr n ((mI B 105 4 x).1 (107 + t)) (B.1 (107 + t))
    rw [mI_other (by omega)]; exact agr.rf
  · rw [mI_self, upd_other (by decide), mI_self, upd_other (by decide)]; exact f1
  · rw [mI_self, upd_self, mI_self, upd_self]
  · rw [mI_self, upd_other (by decide), mI_self, upd_other (by decide)]; exact f3
  · rw [mI_self, upd_other (by decide), mI_self, upd_other (by decide)]; exact f4
  · rw [mI_self, upd_other (by decide)]; exact f5
  · rw [mI_self, upd_other (by decide)]; exact f6
theorem st_step (h : J n cnt mc A B) : stpI A = pIf (B.1 105 8 = 0) 0 (100 * bcI (B.1 105 7) / B.1 105 8) := by
  obtain ⟨f1, f2, f3, f4, f5, c, hc, e⟩ := h.1.2.2.2.2
  unfold stpI
  rw [f3, f4, e]
  by_cases q : nI c = 0
  · rw [pIf_t q, pIf_t (by rw [q]; decide)]
  · rw [pIf_f q, pIf_f (fun z => q ?_)]
    have t : ∀ c, c ≤ 30 → nI c ≤ 0 → nI c = 0 := by decide +kernel
    exact t c hc z
theorem st_many (h : J n cnt mc A B) {x v w : Int32} (hc : S_many A n x v A') (hm : S8_many B n x w B') : v = w ∧ Jx A' B' := by
  unfold S_many at hc
  unfold S8_many at hm
  have row6 : ∀ j, j < n → A.1 (14 + 2 + 6) j = B.1 113 j := fun j hj => h.1.row (t := 6) (by omega) hj
  have row8 : ∀ j, j < n → A.1 (14 + 2 + 8) j = B.1 115 j := fun j hj => h.1.row (t := 8) (by omega) hj
  have e0 : (0 : Int32).toInt = 0 := by decide
  have e3 : (3 : Int32).toInt = 3 := by decide
  by_cases c0 : x = 0
  · rw [pIf_t c0] at hc
    subst c0
    rw [pIf_f (by decide), pIf_t (by decide), pIf_t rfl] at hm
    obtain ⟨rfl, rfl⟩ := hc
    obtain ⟨rfl, rfl⟩ := hm
    exact ⟨congrArg nI (cntN_cong (fun j hj => by rw [row6 j hj])), h.x⟩
  · rw [pIf_f c0] at hc
    by_cases c1 : x = 1
    · rw [pIf_t c1] at hc
      subst c1
      rw [pIf_f (by decide), pIf_t (by decide), pIf_f (by decide), pIf_t rfl] at hm
      obtain ⟨rfl, rfl⟩ := hc
      obtain ⟨rfl, rfl⟩ := hm
      exact ⟨congrArg bcI h.1.2.2.2.2.2.2.1, h.x⟩
    · rw [pIf_f c1] at hc
      by_cases c2 : x = 2
      · rw [pIf_t c2] at hc
        subst c2
        rw [pIf_f (by decide), pIf_t (by decide), pIf_f (by decide), pIf_f (by decide)] at hm
        obtain ⟨rfl, rfl⟩ := hc
        obtain ⟨rfl, rfl⟩ := hm
        refine ⟨congrArg nI (cntN_cong (fun j hj => ?_)), h.x⟩
        rw [row8 j hj]
        exact ⟨fun z => Or.inl ⟨rfl, z⟩, fun z => z.elim (fun q => q.2) (fun q => absurd rfl q.1)⟩
      · rw [pIf_f c2] at hc
        by_cases c3 : x = 3
        · rw [pIf_t c3] at hc
          subst c3
          rw [pIf_f (by decide), pIf_t (by decide), pIf_f (by decide), pIf_f (by decide)] at hm
          obtain ⟨rfl, rfl⟩ := hc
          obtain ⟨rfl, rfl⟩ := hm
          refine ⟨congrArg nI (cntN_cong (fun j hj => ?_)), h.x⟩
          rw [row6 j hj]
          exact ⟨fun z => Or.inr ⟨by decide, z⟩, fun z => z.elim (fun q => absurd q.1 (by decide)) (fun q => q.2)⟩
        · rw [pIf_f c3] at hc
          have bad : w = -5 ∧ B' = nox B 5 := by
            by_cases d1 : x < 0
            · rw [pIf_t d1] at hm; exact hm
            · rw [pIf_f d1, pIf_f (fun d2 => ?_)] at hm
              · exact hm
              · rw [i32_lt, e0] at d1
                rw [Int32.le_iff_toInt_le, e3] at d2
                rcases (show x.toInt = 0 ∨ x.toInt = 1 ∨ x.toInt = 2 ∨ x.toInt = 3 by omega) with q | q | q | q
                · exact c0 (i32_lit q 0 (by decide))
                · exact c1 (i32_lit q 1 (by decide))
                · exact c2 (i32_lit q 2 (by decide))
                · exact c3 (i32_lit q 3 (by decide))
          obtain ⟨rfl, rfl⟩ := hc
          obtain ⟨rfl, rfl⟩ := bad
          exact ⟨rfl, (h.ref (k := 4) (by decide)).x⟩
theorem st_heard (h : J n cnt mc A B) {x v w : Int32} (hc : S_heard A n x v A') (hm : S8_heard B n x w B') : v = w ∧ Jx A' B' := by
  unfold S_heard at hc
  unfold S8_heard at hm
  by_cases c1 : ¬ x < 0 ∧ ¬ A.1 14 11 ≤ x
  · rw [pIf_t c1] at hc
    rw [pIf_t (h.has.mp c1)] at hm
    obtain ⟨p, hp, rfl⟩ := h.hasn c1
    have hn := h.n30
    rw [nI_clamp (show p < 2 ^ 31 by omega)] at hc hm
    obtain ⟨hl, rfl⟩ := hc
    obtain ⟨rfl, rfl⟩ := hm
    exact ⟨(h.heard hp hl).1, (h.eq (lsM_eqA hl) eqB.rf).x⟩
  · rw [pIf_f c1] at hc
    rw [pIf_f (fun z => c1 (h.has.mpr z))] at hm
    obtain ⟨rfl, rfl⟩ := hc
    obtain ⟨rfl, rfl⟩ := hm
    exact ⟨rfl, (h.ref (k := 0) (by decide)).x⟩
theorem st_beside (h : J n cnt mc A B) {x v w : Int32} (hc : S_beside A n x v A') (hm : S8_beside B n x w B') : v = w ∧ Jx A' B' := by
  unfold S_beside at hc
  unfold S8_beside at hm
  by_cases c1 : ¬ x < 0 ∧ ¬ A.1 14 11 ≤ x
  · rw [pIf_t c1] at hc
    rw [pIf_t (h.has.mp c1)] at hm
    obtain ⟨p, hp, rfl⟩ := h.hasn c1
    have hn := h.n30
    rw [nI_clamp (show p < 2 ^ 31 by omega)] at hc hm
    obtain ⟨hl, rfl⟩ := hc
    obtain ⟨rfl, rfl⟩ := hm
    exact ⟨(h.heard hp hl).2, (h.eq (lsM_eqA hl) eqB.rf).x⟩
  · rw [pIf_f c1] at hc
    rw [pIf_f (fun z => c1 (h.has.mpr z))] at hm
    obtain ⟨rfl, rfl⟩ := hc
    obtain ⟨rfl, rfl⟩ := hm
    exact ⟨rfl, (h.ref (k := 0) (by decide)).x⟩
theorem st_law (h : J n cnt mc A B) {x i v w : Int32} (hc : S_law A cnt x i v A') (hm : S8_law B cnt x i w B') : v = w ∧ Jx A' B' := by
  unfold S_law at hc
  unfold S8_law at hm
  have bad : (v = -5 ∧ A' = rfx A 4) → (w = -5 ∧ B' = nox B 5) → v = w ∧ Jx A' B' := by
    rintro ⟨rfl, rfl⟩ ⟨rfl, rfl⟩
    exact ⟨rfl, (h.ref (k := 4) (by decide)).x⟩
  have e6 : (6 : Int32).toInt = 6 := by decide
  have e7 : (7 : Int32).toInt = 7 := by decide
  rw [h.ac] at hc
  rw [h.bc] at hm
  by_cases c1 : x < 0
  · rw [pIf_t c1] at hm
    rw [pIf_f (fun z => z.1 c1)] at hc
    exact bad hc hm
  · rw [pIf_f c1] at hm
    by_cases c2 : nI cnt ≤ x
    · rw [pIf_t c2] at hm
      rw [pIf_f (fun z => z.2 c2)] at hc
      exact bad hc hm
    · rw [pIf_f c2] at hm
      rw [pIf_t ⟨c1, c2⟩] at hc
      by_cases c3 : i < 0
      · rw [pIf_t c3] at hc hm
        exact bad hc hm
      · rw [pIf_f c3] at hc hm
        have e : i < 7 ↔ i ≤ 6 := by rw [i32_lt, e7, Int32.le_iff_toInt_le, e6]; omega
        by_cases c4 : i ≤ 6
        · rw [pIf_t c4] at hm
          rw [pIf_t (e.mpr c4)] at hc
          obtain ⟨q, hq, rfl⟩ := lt7 c3 c4
          obtain ⟨k, hk, rfl⟩ := lawRow_lt h.c6 ⟨c1, c2⟩
          have := h.c6
          unfold lawRow at hc
          rw [pIf_t ⟨c1, c2⟩, nI_clamp (show k < 2 ^ 31 by omega), nI_clamp (show q < 2 ^ 31 by omega)] at hc
          rw [nI_clamp (show k < 2 ^ 31 by omega), nI_clamp (show q < 2 ^ 31 by omega)] at hm
          obtain ⟨rfl, rfl⟩ := hc
          obtain ⟨rfl, rfl⟩ := hm
          exact ⟨h.2.1.2.2.2.1.1 k hk q hq, h.x⟩
        · rw [pIf_f c4] at hm
          rw [pIf_f (fun z => c4 (e.mp z))] at hc
          exact bad hc hm
/-! microphones -/
theorem st_micro (h : J n cnt mc A B) {s v w : Int32} (hc : S_micro A mc s v A') (hm : S8_micro B mc s w B') : v = w ∧ Jx A' B' := by
  unfold S_micro at hc
  unfold S8_micro at hm
  by_cases c1 : ¬ s < 0 ∧ ¬ 48 ≤ s
  · rw [pIf_t c1] at hc hm
    obtain ⟨u1, u2, u3, u4⟩ := h.2.2.1
    by_cases c2 : mc = 8
    · rw [pIf_t c2] at hm
      rw [pIf_f (by omega)] at hc
      obtain ⟨rfl, rfl⟩ := hc
      obtain ⟨rfl, rfl⟩ := hm
      exact ⟨rfl, (h.ref (k := 6) (by decide)).x⟩
    · rw [pIf_f c2] at hm
      rw [pIf_t (by omega)] at hc
      obtain ⟨rfl, rfl⟩ := hc
      obtain ⟨rfl, rfl⟩ := hm
      have oA : ∀ q, q ≠ 96 → q ≠ 97 → (mI (mI A 97 mc s) 96 1 (nI (mc + 1))).1 q = A.1 q := fun q a b => by rw [mI_other a, mI_other b]
      have oB : ∀ q, q ≠ 105 → q ≠ 117 → (mI (mI B 117 mc s) 105 2 (nI (mc + 1))).1 q = B.1 q := fun q a b => by rw [mI_other a, mI_other b]
      have oF : ∀ j, j ≠ 2 → (mI (mI B 117 mc s) 105 2 (nI (mc + 1))).1 105 j = B.1 105 j := fun j hj => by rw [mI_self, upd_other hj, mI_other (by decide)]
      obtain ⟨a, b, c, d, e, f, g, i⟩ := h
      refine ⟨rfl, n, cnt, mc + 1, a.fr (fun q hq => oA q (by omega) (by omega)) (fun t ht => by rw [oB _ (by omega) (by omega)]; exact agr.rf) (fun j hj => oF j (by omega)), b.fr (fun q hq => oA q (by omega) (by omega)) (fun q hq => oB q (by omega) (by omega)) (fun j hj => oF j (by omega)), ⟨?_, ?_, by omega, fun q hq => ?_⟩, d.fr (fun q hq => oA q (by omega) (by omega)) (fun k hk => rfl) (fun q hq => oB q (by omega) (by omega)) rfl, e.fr (fun q hq => oA q (by omega) (by omega)) (oB 106 (by omega) (by omega)) (oF 6 (by omega)), f.fr (fun q hq => oA q (by omega) (by omega)) (oB 139 (by omega) (by omega)) (oF 54 (by omega)), g.fr (congrFun (oA 0 (by omega) (by omega)) 13) (fun q hq => oA q (by omega) (by omega)) (oB 140 (by omega) (by omega)) (fun j hj => oF j (by omega)), i.fr (oB 126 (by omega) (by omega)) (oF 36 (by omega))⟩
      · rw [mI_self, upd_self]
      · rw [mI_self, upd_self]
      · rw [mI_other (show 97 ≠ 96 by decide), mI_self, mI_other (show 117 ≠ 105 by decide), mI_self]
        by_cases e2 : q = mc
        · subst e2
          rw [upd_self, upd_self]
          refine ⟨rfl, ?_⟩
          rcases pk_ix s (n := 48) (by decide) with r | r | r
          · exact absurd r c1.1
          · exact absurd r c1.2
          · exact r
        · rw [upd_other e2, upd_other e2]
          exact u4 q (by omega)
  · rw [pIf_f c1] at hc hm
    obtain ⟨rfl, rfl⟩ := hc
    obtain ⟨rfl, rfl⟩ := hm
    exact ⟨rfl, (h.ref (k := 0) (by decide)).x⟩
theorem far_sym (a b : Int32) (ha : ∃ s, s < 48 ∧ a = nI s) (hb : ∃ s, s < 48 ∧ b = nI s) : farI a b = farI b a := by
  obtain ⟨s, hs, rfl⟩ := ha
  obtain ⟨t, ht, rfl⟩ := hb
  have q : ∀ s, s < 48 → ∀ t, t < 48 → farI (nI s) (nI t) = farI (nI t) (nI s) := by decide +kernel
  exact q s hs t ht
theorem tk_eq (h : J n cnt mc A B) {m : Nat} (hm : m < mc) {g : Prop} : takenF n (A.1 (14 + 3)) (A.1 (14 + 11)) (A.1 14 14) (A.1 97 m) g n = sumI n (tkT B m g) := by
  obtain ⟨u1, u2, u3, u4⟩ := h.2.2.1
  unfold takenF
  refine sumI_cong (fun i hi => ?_)
  unfold tkT
  rw [show A.1 (14 + 3) i = B.1 108 i from h.1.row (t := 1) (by omega) hi, show A.1 (14 + 11) i = B.1 116 i from h.1.row (t := 9) (by omega) hi, h.1.2.2.2.2.2.2.1, (u4 m hm).1, far_sym _ _ (h.1.2.2.2.1.2.2.1 i hi) (u4 m hm).2]
theorem J.uh (h : J n cnt mc A B) {x : Int32} : (¬ x < 0 ∧ ¬ A.1 96 1 ≤ x) ↔ (¬ x < 0 ∧ ¬ B.1 105 2 ≤ x) := by rw [h.2.2.1.1, h.2.2.1.2.1]
theorem J.un (h : J n cnt mc A B) {x : Int32} (hx : ¬ x < 0 ∧ ¬ A.1 96 1 ≤ x) : ∃ m, m < mc ∧ x = nI m := by
  rw [h.2.2.1.1] at hx
  have := h.2.2.1.2.2.1
  rcases pk_ix x (n := mc) (by omega) with q | q | q
  · exact absurd q hx.1
  · exact absurd q hx.2
  · exact q
theorem st_sum (h : J n cnt mc A B) {x v w : Int32} (hc : S_sum A n x v A') (hm : S8_sum B n x w B') : v = w ∧ Jx A' B' := by
  unfold S_sum at hc
  unfold S8_sum at hm
  have bad : (v = -1 ∧ A' = rfx A 0) → (w = -1 ∧ B' = nox B 1) → v = w ∧ Jx A' B' := by
    rintro ⟨rfl, rfl⟩ ⟨rfl, rfl⟩
    exact ⟨rfl, (h.ref (k := 0) (by decide)).x⟩
  by_cases c1 : x < 0
  · rw [pIf_t c1] at hm
    rw [pIf_f (fun z => z.1 c1)] at hc
    exact bad hc hm
  · rw [pIf_f c1] at hm
    by_cases c2 : B.1 105 2 ≤ x
    · rw [pIf_t c2] at hm
      rw [pIf_f (fun z => (h.uh.mp z).2 c2)] at hc
      exact bad hc hm
    · rw [pIf_f c2] at hm
      have c3 := h.uh.mpr ⟨c1, c2⟩
      rw [pIf_t c3] at hc
      obtain ⟨m, hm9, rfl⟩ := h.un c3
      have := h.2.2.1.2.2.1
      rw [nI_clamp (show m < 2 ^ 31 by omega)] at hc hm
      obtain ⟨rfl, rfl⟩ := hc
      obtain ⟨rfl, rfl⟩ := hm
      exact ⟨tk_eq h hm9, h.x⟩
theorem st_gloved (h : J n cnt mc A B) {x v w : Int32} (hc : S_gloved A n x v A') (hm : S8_gloved B n x w B') : v = w ∧ Jx A' B' := by
  unfold S_gloved at hc
  unfold S8_gloved at hm
  have bad : (v = -1 ∧ A' = rfx A 0) → (w = -1 ∧ B' = nox B 1) → v = w ∧ Jx A' B' := by
    rintro ⟨rfl, rfl⟩ ⟨rfl, rfl⟩
    exact ⟨rfl, (h.ref (k := 0) (by decide)).x⟩
  by_cases c1 : x < 0
  · rw [pIf_t c1] at hm
    rw [pIf_f (fun z => z.1 c1)] at hc
    exact bad hc hm
  · rw [pIf_f c1] at hm
    by_cases c2 : B.1 105 2 ≤ x
    · rw [pIf_t c2] at hm
      rw [pIf_f (fun z => (h.uh.mp z).2 c2)] at hc
      exact bad hc hm
    · rw [pIf_f c2] at hm
      have c3 := h.uh.mpr ⟨c1, c2⟩
      rw [pIf_t c3] at hc
      obtain ⟨m, hm9, rfl⟩ := h.un c3
      have := h.2.2.1.2.2.1
      rw [nI_clamp (show m < 2 ^ 31 by omega)] at hc hm
      obtain ⟨rfl, rfl⟩ := hc
      obtain ⟨rfl, rfl⟩ := hm
      exact ⟨tk_eq h hm9, h.x⟩
theorem is_eq (h : J n cnt mc A B) {k j : Nat} (hk : k < 8) (h1 : B.1 120 k = 1) (hj : j < 100) : (elL A (nI k) (nI j)).toInt32 = is8 B k j := by
  rw [st_element h]
  unfold elL8 is8
  rw [pIf_t (shf_n hk), nI_clamp (show k < 2 ^ 31 by omega), pIf_t h1, pIf_f (fun q => by have := (nI_ltI (a := j) (b := 0) (by omega) (by omega)).mp q; omega)]
  by_cases c : B.1 122 k ≤ nI j
  · rw [pIf_t c, pIf_t c]; rfl
  · rw [pIf_f c, pIf_f c, nI_clamp (by omega)]
theorem first_eq {P Q : Nat → Prop} {m j j2 : Nat} (e : ∀ i, i < m → (P i ↔ Q i)) (h1 : j ≤ m) (h2 : j2 ≤ m) (a1 : ∀ i, i < j → P i) (a2 : ∀ i, i < j2 → Q i) (b1 : j < m → ¬ P j) (b2 : j2 < m → ¬ Q j2) : j = j2 := by
  rcases Nat.lt_trichotomy j j2 with g | g | g
  · exact absurd ((e j (by omega)).mpr (a2 j g)) (b1 (by omega))
  · exact g
  · exact absurd ((e j2 (by omega)).mp (a1 j2 g)) (b2 (by omega))
theorem st_judge (h : J n cnt mc A B) {s v w : Int32} (hc : S_judge A n mc s v A') (hm : S8_judge B n mc s w B') : v = w ∧ Jx A' B' := by
  unfold S_judge at hc
  unfold S8_judge at hm
  rw [h.rr] at hc
  by_cases c : wan8 B s = 0
  · rw [pIf_t c] at hc hm
    obtain ⟨k, hk, rfl⟩ := wan_k c
    obtain ⟨c1, c2, c3⟩ := wan_0 hk c
    have c4 := h.one hk c2 c3
    rw [nI_clamp (show k < 2 ^ 31 by omega)] at hm
    have m8 := h.2.2.1.2.2.1
    obtain ⟨rfl, j, j1, j2, j3⟩ := hc
    obtain ⟨rfl, i, i1, i2, i3⟩ := hm
    have e : ∀ q, q < mc → (jgT n A' q = (elL A' (nI k) (nI q)).toInt32 ↔ is8 B' k q = sumI n (tkT B' q False)) := fun q hq => by
      rw [is_eq h hk c4 (by omega)]
      unfold jgT
      rw [tk_eq h hq]
      exact ⟨fun z => z.symm, fun z => z.symm⟩
    have ej : j = i := first_eq e j1 i1 j2 i2 (fun g => by
      rcases j3 with q | q
      · exact q.2.1
      · omega) (fun g => by
      rcases i3 with q | q
      · exact q.2.1
      · omega)
    subst ej
    refine ⟨?_, h.x⟩
    rcases j3 with q | q
    · rcases i3 with r | r
      · rw [q.2.2, r.2.2]
      · omega
    · rcases i3 with r | r
      · omega
      · rw [q.2, r.2]
  · rw [pIf_f c] at hc hm
    obtain ⟨rfl, rfl⟩ := hc
    obtain ⟨rfl, rfl⟩ := hm
    exact ⟨rfl, (h.refT (wan_v c)).x⟩
end ST5
