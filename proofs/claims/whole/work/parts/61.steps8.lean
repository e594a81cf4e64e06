/-! steps: evenings -/
section ST8
variable {n cnt mc : Nat} {A B A' B' : Mm}
theorem kepM_o {k : Nat} {M : Mm} (h : k ≠ 105) (h2 : ¬ (133 ≤ k ∧ k ≤ 136)) : (kepM n M).1 k = M.1 k := by
  unfold kepM
  rw [mI_other h, mI_other h, mI_other h, mI_other h, kep_o (by omega)]
theorem kepM_f {j : Nat} {M : Mm} (h : ¬ (47 ≤ j ∧ j ≤ 50)) : (kepM n M).1 105 j = M.1 105 j := by
  unfold kepM
  rw [mI_self, upd_other (by omega), mI_self, upd_other (by omega), mI_self, upd_other (by omega), mI_self, upd_other (by omega), kep_o (by decide)]
theorem B8_o {k : Nat} {w : Int32} {M : Mm} (h : k ≠ 105) : (B8 n w M).1 k = M.1 k := by
  unfold B8
  rw [mI_other h, mI_other h, mI_other h]
theorem B8_f {j : Nat} {w : Int32} {M : Mm} (h : j ≠ 35) (h2 : j ≠ 51) : (B8 n w M).1 105 j = M.1 105 j := by
  unfold B8
  rw [mI_self, upd_other h2, mI_self, upd_other h2, mI_self, upd_other h]
theorem B8_35 {w : Int32} {M : Mm} : (B8 n w M).1 105 35 = w := by
  unfold B8
  rw [mI_self, upd_other (by decide), mI_self, upd_other (by decide), mI_self, upd_self]
theorem n200 {x : Int32} (h : ¬ x < 0 ∧ ¬ 200 < x) : ∃ m, m ≤ 200 ∧ x = nI m := by
  rcases pk_ix x (n := 201) (by omega) with q | q | ⟨j, q1, q2⟩
  · exact absurd q h.1
  · have e1 : (nI 201).toInt = 201 := by decide
    have e2 : (200 : Int32).toInt = 200 := by decide
    have h2 := h.2
    rw [Int32.le_iff_toInt_le, e1] at q
    rw [i32_lt, e2] at h2
    omega
  · exact ⟨j, by omega, q2⟩
theorem outE.eqA {v : Nat} (hv : v = 44 ∨ v = 61) (h : outE v A A') : eqA A A' := ⟨fun k hk => h.2 k (fun z => hk (by unfold sA; omega)), fun k hk => by rw [h.1]⟩
theorem lrL {cnt : Nat} {k : Int32} (hc6 : cnt ≤ 6) : 80 ≤ lawRow 78 cnt k ∧ lawRow 78 cnt k ≤ 86 := by
  obtain ⟨j, hj, e⟩ := lawRow_in (u := 78) (k := k) hc6
  omega
theorem bec_at {c t j : Nat} {M X : Mm} (h : becM c 14 M X) (ht : t < 10) (hj : j < 30) : X.1 (c + 2 + t) j = M.1 (16 + t) j := by
  rw [h.2.1 t ht]
  exact cpy_at hj
theorem J.gtT (h : J n cnt mc A B) {v : Nat} {w : Int32} {X : Mm} (hv : v = 44 ∨ v = 61) (hw : w = -1 ∨ ∃ k, k < cnt ∧ w = nI k) (hb : becM (v + 2) 14 A X) : tR (v + 2) n (lawRow 78 cnt w) 0 X (B8 n w (kepM n B)) := by
  have n30 := h.n30
  have l9 := lrL (k := w) h.c6
  refine h.tr1 hw (fun t ht j hj => bec_at hb ht (by omega)) (fun t ht => ?_) ?_ ?_ ?_ B8_35 ?_ ?_ ?_
  · rw [B8_o (by omega), kepM_o (by omega) (by omega)]; exact agr.rf
  · exact hb.1.2 _ (by omega)
  · rw [B8_o (by omega), kepM_o (by omega) (by omega)]
  · rw [B8_o (by omega), kepM_o (by omega) (by omega)]
  · rw [B8_f (by decide) (by decide), kepM_f (by omega)]; exact h.2.2.2.2.2.2.2.1
  · rw [B8_f (by decide) (by decide), kepM_f (by omega), hb.2.2 12 (by omega) (by omega)]; exact h.1.2.2.2.2.1
  · rw [B8_f (by decide) (by decide), kepM_f (by omega), hb.2.2 13 (by omega) (by omega)]; exact h.1.2.2.2.2.2.1
theorem outLr {v cnt : Nat} {w : Int32} (hv : v = 44 ∨ v = 61) (hc6 : cnt ≤ 6) : outL v (lawRow 78 cnt w) := by
  have l9 := lrL (k := w) hc6
  unfold outL
  omega
theorem J.gtE (h : J n cnt mc A B) {v m : Nat} {w : Int32} (hv : v = 44 ∨ v = 61) (hw : w = -1 ∨ ∃ k, k < cnt ∧ w = nI k) (h1 : gtQ v n cnt w m A A') (h2 : wb8 n w m B B') : A'.1 v 3 = B'.1 105 51 ∧ (∀ i, i < m → A'.1 (v + 1) i = B'.1 137 i) ∧ J n cnt mc A' B' := by
  obtain ⟨X, x1, x2⟩ := h1
  obtain ⟨Y, y1, y2⟩ := id h2
  obtain ⟨e1, e2⟩ := ev_eq h.n30 (outLr hv h.c6) (h.gtT hv hw x1) (Or.inr (by rw [B8_f (by decide) (by decide), kep_36]; exact h.2.2.2.2.2.2.2.1)) x2 y1
  refine ⟨?_, fun i hi => ?_, h.eq ((gtQ_I h.hn ⟨X, x1, x2⟩).1.eqA hv) (wb8_out h2).eq⟩
  · rw [y2, bak_51]; exact e1
  · rw [y2, bak_v (by decide)]; exact e2 i hi
theorem st_length {x y v w : Int32} (h : J n cnt mc A B) (hc : S_length A n cnt x y v A') (hm : S8_length B n x y w B') : v = w ∧ Jx A' B' := by
  unfold S_length at hc
  unfold S8_length at hm
  by_cases c1 : ¬ x < -1 ∧ ¬ B.1 105 1 ≤ x
  · rw [pIf_t (h.isl.mpr c1)] at hc
    rw [pIf_t c1] at hm
    by_cases c2 : ¬ y < 0 ∧ ¬ 200 < y
    · rw [pIf_t c2] at hc hm
      obtain ⟨m, hm9, rfl⟩ := n200 c2
      rw [nI_clamp (by omega)] at hc hm
      obtain ⟨a1, rfl⟩ := hc
      obtain ⟨b1, rfl⟩ := hm
      obtain ⟨e1, e2, e3⟩ := h.gtE (Or.inl rfl) (h.ok c1) a1 b1
      exact ⟨lenI_cg e2, e3.x⟩
    · rw [pIf_f c2] at hc hm
      obtain ⟨rfl, rfl⟩ := hc
      obtain ⟨rfl, rfl⟩ := hm
      exact ⟨rfl, (h.ref (k := 5) (by decide)).x⟩
  · rw [pIf_f (fun z => c1 (h.isl.mp z))] at hc
    rw [pIf_f c1] at hm
    obtain ⟨rfl, rfl⟩ := hc
    obtain ⟨rfl, rfl⟩ := hm
    exact ⟨rfl, (h.ref (k := 0) (by decide)).x⟩
theorem st_joined {x y v w : Int32} (h : J n cnt mc A B) (hc : S_joined A n cnt x y v A') (hm : S8_joined B n x y w B') : v = w ∧ Jx A' B' := by
  unfold S_joined at hc
  unfold S8_joined at hm
  by_cases c1 : ¬ x < -1 ∧ ¬ B.1 105 1 ≤ x
  · rw [pIf_t (h.isl.mpr c1)] at hc
    rw [pIf_t c1] at hm
    by_cases c2 : ¬ y < 0 ∧ ¬ 200 < y
    · rw [pIf_t c2] at hc hm
      obtain ⟨m, hm9, rfl⟩ := n200 c2
      rw [nI_clamp (by omega)] at hc hm
      obtain ⟨a1, rfl⟩ := hc
      obtain ⟨b1, rfl⟩ := hm
      obtain ⟨e1, e2, e3⟩ := h.gtE (Or.inl rfl) (h.ok c1) a1 b1
      exact ⟨by rw [e1], e3.x⟩
    · rw [pIf_f c2] at hc hm
      obtain ⟨rfl, rfl⟩ := hc
      obtain ⟨rfl, rfl⟩ := hm
      exact ⟨rfl, (h.ref (k := 5) (by decide)).x⟩
  · rw [pIf_f (fun z => c1 (h.isl.mp z))] at hc
    rw [pIf_f c1] at hm
    obtain ⟨rfl, rfl⟩ := hc
    obtain ⟨rfl, rfl⟩ := hm
    exact ⟨rfl, (h.ref (k := 0) (by decide)).x⟩
theorem st_tally {x y i v w : Int32} (h : J n cnt mc A B) (hc : S_tally A n cnt x y i v A') (hm : S8_tally B n x y i w B') : v = w ∧ Jx A' B' := by
  unfold S_tally at hc
  unfold S8_tally at hm
  have no : ∀ {v w : Int32} {A' B' : Mm}, (v = -5 ∧ A' = rfx A 4) → (w = -5 ∧ B' = nox B 5) → v = w ∧ Jx A' B' := fun a b => by
    obtain ⟨rfl, rfl⟩ := a
    obtain ⟨rfl, rfl⟩ := b
    exact ⟨rfl, (h.ref (k := 4) (by decide)).x⟩
  by_cases c1 : ¬ x < -1 ∧ ¬ B.1 105 1 ≤ x
  · rw [pIf_t (h.isl.mpr c1)] at hc
    rw [pIf_t c1] at hm
    by_cases c2 : ¬ y < 0 ∧ ¬ 200 < y
    · rw [pIf_t c2] at hc hm
      obtain ⟨m, hm9, rfl⟩ := n200 c2
      by_cases c3 : i < 0
      · rw [pIf_t c3] at hc hm
        exact no hc hm
      rw [pIf_f c3] at hc hm
      by_cases c4 : i < nI m
      · rw [pIf_t c4] at hc hm
        rcases pk_ix i (n := m) (by omega) with q | q | ⟨j, q1, q2⟩
        · exact absurd q c3
        · exact absurd c4 (Int32.not_lt.mpr q)
        subst q2
        rw [nI_clamp (by omega), nI_clamp (show j < 2 ^ 31 by omega)] at hc
        rw [nI_clamp (show j < 2 ^ 31 by omega)] at hm
        obtain ⟨a1, rfl⟩ := hc
        obtain ⟨b1, rfl⟩ := hm
        refine ⟨?_, (h.eq ((gtQ_I h.hn a1).1.eqA (Or.inl rfl)) (wb8_out b1).eq).x⟩
        obtain ⟨X, x1, x2⟩ := a1
        obtain ⟨Y, y1, y2⟩ := b1
        rw [y2, bak_v (by decide)]
        exact ev_tally (v := 44) h.n30 (outLr (Or.inl rfl) h.c6) (h.gtT (Or.inl rfl) (h.ok c1) x1) (Or.inl (by omega)) q1 x2 y1
      · rw [pIf_f c4] at hc hm
        exact no hc hm
    · rw [pIf_f c2] at hc hm
      exact no hc hm
  · rw [pIf_f (fun z => c1 (h.isl.mp z))] at hc
    rw [pIf_f c1] at hm
    exact no hc hm
theorem first_ne {m j k : Nat} {f g f' g' : Nat → Int32} {v w : Int32} (hf : ∀ i, i < m → f i = f' i) (hg : ∀ i, i < m → g i = g' i) (a1 : j ≤ m) (a2 : ∀ i, i < j → f i = g i) (a3 : (j < m ∧ ¬ f j = g j ∧ v = nI j) ∨ (j = m ∧ v = -1)) (b1 : k ≤ m) (b2 : ∀ i, i < k → f' i = g' i) (b3 : (k < m ∧ ¬ f' k = g' k ∧ w = nI k) ∨ (k = m ∧ w = -1)) : v = w := by
  have e : j = k := by
    rcases Nat.lt_trichotomy j k with q | q | q
    · rcases a3 with r | r
      · exact absurd ((hf j r.1).trans ((b2 j q).trans (hg j r.1).symm)) r.2.1
      · omega
    · exact q
    · rcases b3 with r | r
      · exact absurd ((hf k r.1).symm.trans ((a2 k q).trans (hg k r.1))) r.2.1
      · omega
  subst e
  rcases a3 with r | r
  · rcases b3 with s | s
    · rw [r.2.2, s.2.2]
    · omega
  · rcases b3 with s | s
    · omega
    · rw [r.2, s.2]
theorem st_part {x o y v w : Int32} (h : J n cnt mc A B) (hc : S_part A n cnt x o y v A') (hm : S8_part B n x o y w B') : v = w ∧ Jx A' B' := by
  unfold S_part at hc
  unfold S8_part at hm
  by_cases c1 : ¬ x < -1 ∧ ¬ B.1 105 1 ≤ x
  · rw [pIf_t (h.isl.mpr c1)] at hc
    rw [pIf_t c1] at hm
    by_cases c9 : ¬ o < -1 ∧ ¬ B.1 105 1 ≤ o
    · rw [pIf_t (h.isl.mpr c9)] at hc
      rw [pIf_t c9] at hm
      by_cases c2 : ¬ y < 0 ∧ ¬ 200 < y
      · rw [pIf_t c2] at hc hm
        obtain ⟨m, hm9, rfl⟩ := n200 c2
        rw [nI_clamp (by omega)] at hc hm
        obtain ⟨Y, j, a1, a2, a3, a4, a5⟩ := hc
        obtain ⟨Z, k, b1, b2, b3, b4, b5⟩ := hm
        obtain ⟨-, e2, e3⟩ := h.gtE (Or.inl rfl) (h.ok c1) a1 b1
        have e4 : J n cnt mc Y (oth8 m Z) := e3.eq eqA.rf ⟨rfl, fun k a b c => rI_other (by omega), fun k a b => by rw [show (oth8 m Z).1 k = Z.1 k from rI_other (by omega)]; exact agr.rf, fun j _ _ => congrFun (rI_other (by decide)) j⟩
        obtain ⟨-, f2, f3⟩ := e4.gtE (Or.inr rfl) (h.ok c9) a2 b2
        refine ⟨?_, f3.x⟩
        have g1 : ∀ i, i < m → A'.1 45 i = B'.1 138 i := fun i hi => by
          rw [(gtQ_I e3.hn a2).1.2 45 (by omega), e2 i hi]
          obtain ⟨Y9, y1, y2⟩ := b2
          rw [y2, bak_v (by decide), (eR8_fx m Y9 y1).2.1 138 (by unfold S8; omega), B8_o (by decide), kepM_o (by decide) (by decide)]
          exact ((congrFun (rI_self _ _ _) i).trans (upto_lt hi)).symm
        exact first_ne g1 f2 a3 a4 a5 b3 b4 b5
      · rw [pIf_f c2] at hc hm
        obtain ⟨rfl, rfl⟩ := hc
        obtain ⟨rfl, rfl⟩ := hm
        exact ⟨rfl, (h.ref (k := 5) (by decide)).x⟩
    · rw [pIf_f (fun z => c9 (h.isl.mp z))] at hc
      rw [pIf_f c9] at hm
      obtain ⟨rfl, rfl⟩ := hc
      obtain ⟨rfl, rfl⟩ := hm
      exact ⟨rfl, (h.ref (k := 0) (by decide)).x⟩
  · rw [pIf_f (fun z => c1 (h.isl.mp z))] at hc
    rw [pIf_f c1] at hm
    obtain ⟨rfl, rfl⟩ := hc
    obtain ⟨rfl, rfl⟩ := hm
    exact ⟨rfl, (h.ref (k := 0) (by decide)).x⟩
theorem fill_at {f : Nat → Int32} {N j : Nat} {x : Int32} (hj : j < N) : fillR f N x j = x := if_pos hj
theorem calm_row {c k j : Nat} {M : Mm} (hk : k = c + 8 ∨ k = c + 9 ∨ k = c + 10 ∨ k = c + 7) (hj : j < 30) : (calmM c M).1 k j = 0 := by
  unfold calmM
  rcases hk with rfl | rfl | rfl | rfl
  · show (mI (mI (mI (rI (rI (rI (rI M (c + 8) _) (c + 9) _) (c + 10) _) (c + 7) _) c 12 0) c 14 0) c 15 0).1 (c + 8) j = 0
    rw [mI_other (by omega), mI_other (by omega), mI_other (by omega), rI_other (by omega), rI_other (by omega), rI_other (by omega), rI_self]
    exact fill_at hj
  · show (mI (mI (mI (rI (rI (rI (rI M (c + 8) _) (c + 9) _) (c + 10) _) (c + 7) _) c 12 0) c 14 0) c 15 0).1 (c + 9) j = 0
    rw [mI_other (by omega), mI_other (by omega), mI_other (by omega), rI_other (by omega), rI_other (by omega), rI_self]
    exact fill_at hj
  · show (mI (mI (mI (rI (rI (rI (rI M (c + 8) _) (c + 9) _) (c + 10) _) (c + 7) _) c 12 0) c 14 0) c 15 0).1 (c + 10) j = 0
    rw [mI_other (by omega), mI_other (by omega), mI_other (by omega), rI_other (by omega), rI_self]
    exact fill_at hj
  · show (mI (mI (mI (rI (rI (rI (rI M (c + 8) _) (c + 9) _) (c + 10) _) (c + 7) _) c 12 0) c 14 0) c 15 0).1 (c + 7) j = 0
    rw [mI_other (by omega), mI_other (by omega), mI_other (by omega), rI_self]
    exact fill_at hj
theorem calm_12 {c : Nat} {M : Mm} : (calmM c M).1 c 12 = 0 := by
  unfold calmM
  rw [mI_self, upd_other (by decide), mI_self, upd_other (by decide), mI_self, upd_self]
theorem qui_row {n k j : Nat} {M : Mm} (hk : k = 113 ∨ k = 114) (hj : j < n) : (qui8 n M).1 k j = 0 := by
  unfold qui8
  rcases hk with rfl | rfl
  · rw [rI_other (by decide), rI_other (by decide), rI_other (by decide), rI_self]
    exact fill_at hj
  · rw [rI_other (by decide), rI_other (by decide), rI_self]
    exact fill_at hj
theorem st_grows {x v w : Int32} (h : J n cnt mc A B) (hc : S_grows A n cnt x v A') (hm : S8_grows B n x w B') : v = w ∧ Jx A' B' := by
  unfold S_grows at hc
  unfold S8_grows at hm
  have n30 := h.n30
  have l9 := lrL (k := B.1 105 5) h.c6
  by_cases c1 : ¬ x < 0 ∧ ¬ A.1 14 11 ≤ x
  · rw [pIf_t c1] at hc
    rw [pIf_t (h.has.mp c1)] at hm
    obtain ⟨p, hp, rfl⟩ := h.hasn c1
    rw [nI_clamp (by omega), h.ff] at hc
    rw [nI_clamp (by omega)] at hm
    obtain ⟨X, x1, x2, rfl⟩ := hc
    obtain ⟨b1, rfl⟩ := hm
    have h36 : B.1 105 36 = 0 := h.2.2.2.2.2.2.2.1
    have hT : tR 46 n (lawRow 78 cnt (B.1 105 5)) 0 (aloneM 46 p X) (B8 n (B.1 105 5) (gr0 n p B)) := by
      have oX : ∀ k, k ≠ 46 → k ≠ 52 → k ≠ 53 → k ≠ 54 → k ≠ 55 → k ≠ 56 → (aloneM 46 p X).1 k = X.1 k := fun k a b c d e f => alone_o (by omega)
      have oY : ∀ k, k ≠ 105 → ¬ (112 ≤ k ∧ k ≤ 115) → ¬ (133 ≤ k ∧ k ≤ 136) → (B8 n (B.1 105 5) (gr0 n p B)).1 k = B.1 k := fun k a b c => by
        unfold gr0
        rw [B8_o a, mI_other a, mI_other (by omega), mI_other a, qui8_o (by omega), kepM_o a c]
      have r13 : ∀ j, j < n → (B8 n (B.1 105 5) (gr0 n p B)).1 113 j = if j = p then 1 else 0 := fun j hj => by
        unfold gr0
        rw [B8_o (by decide), mI_other (by decide), mI_self]
        by_cases e : j = p
        · subst e; rw [upd_self, if_pos rfl]
        · rw [upd_other e, if_neg e, mI_other (by decide)]; exact qui_row (Or.inl rfl) hj
      have r14 : ∀ j, j < n → (B8 n (B.1 105 5) (gr0 n p B)).1 114 j = 0 := fun j hj => by
        unfold gr0
        rw [B8_o (by decide), mI_other (by decide), mI_other (by decide), mI_other (by decide)]
        exact qui_row (Or.inr rfl) hj
      refine h.tr0 h.wf (fun t ht j hj => ?_) (fun t ht => ?_) ?_ ?_ ?_ B8_35 (fun j hj => ?_) (fun j hj => ?_) ?_ ?_ (Or.inr ⟨?_, fun j hj => ?_, ?_⟩) (fun j hj => ?_)
      · rw [oX _ (by omega) (by omega) (by omega) (by omega) (by omega) (by omega)]; exact bec_at x1 (by omega) (by omega)
      · rw [oY _ (by omega) (by omega) (by omega)]; exact agr.rf
      · rw [oX _ (by omega) (by omega) (by omega) (by omega) (by omega) (by omega)]; exact x1.1.2 _ (by omega)
      · exact oY _ (by omega) (by omega) (by omega)
      · exact oY _ (by omega) (by omega) (by omega)
      · rw [r13 j hj]
        unfold aloneM
        rw [mI_other (by decide), mI_self]
        by_cases e : j = p
        · subst e; rw [upd_self, if_pos rfl]
        · rw [upd_other e, if_neg e, rI_other (by decide)]; exact calm_row (Or.inl rfl) (by omega)
      · rw [r14 j hj]
        unfold aloneM
        rw [mI_self]
        by_cases e : j = p
        · subst e; rw [upd_self]
        · rw [upd_other e, mI_other (by decide), rI_other (by decide)]; exact calm_row (Or.inr (Or.inl rfl)) (by omega)
      · unfold aloneM gr0
        rw [mI_other (by decide), mI_other (by decide), rI_other (by decide), calm_12, B8_f (by decide) (by decide), mI_self, upd_other (by decide), mI_other (by decide), mI_self, upd_self]
      · unfold aloneM gr0
        rw [mI_other (by decide), mI_other (by decide), rI_other (by decide), calm_n (by decide), B8_f (by decide) (by decide), mI_self, upd_other (by decide), mI_other (by decide), mI_self, upd_other (by decide), qui8_o (by decide), kepM_f (by decide), x1.2.2 13 (by omega) (by omega)]
        exact h.1.2.2.2.2.2.1
      · unfold gr0
        rw [B8_f (by decide) (by decide), mI_self, upd_self]
        decide
      · unfold aloneM
        rw [mI_other (by decide), mI_other (by decide), rI_self]
        exact fill_at (by omega)
      · unfold aloneM
        rw [mI_other (by decide), mI_other (by decide), rI_other (by decide), calm_12]
        rfl
      · rw [r13 j hj, r14 j hj]
        by_cases e : j = p
        · rw [if_pos e]; exact ⟨Or.inr (Or.inl rfl), fun _ => rfl⟩
        · rw [if_neg e]; exact ⟨Or.inl rfl, fun _ => rfl⟩
    have hn9 : (aloneM 46 p X).1 (44 + 2) 11 = nI n := alone_n.trans (bec_n (v := 44) h.hn x1)
    have oE := (evQ_I hn9 x2).1
    have hA : eqA A A' := ⟨fun k hk => by rw [oE.2 k (fun z => hk (by unfold sA; omega)), alone_o (by unfold sA at hk; omega), x1.1.2 k (fun z => hk (by unfold sA; omega))], fun k hk => by rw [oE.1]; exact congrFun x1.1.1 _⟩
    refine ⟨?_, (h.eq hA (gw8_out h36 b1).eq).x⟩
    obtain ⟨Y, y1, rfl⟩ := b1
    rw [(ev_eq (v := 44) n30 (outLr (Or.inl rfl) h.c6) hT (Or.inl (by omega)) x2 y1).1, bak_51, mI_self, upd_other (by decide)]
  · rw [pIf_f c1] at hc
    rw [pIf_f (fun z => c1 (h.has.mpr z))] at hm
    obtain ⟨rfl, rfl⟩ := hc
    obtain ⟨rfl, rfl⟩ := hm
    exact ⟨rfl, (h.ref (k := 0) (by decide)).x⟩
end ST8
