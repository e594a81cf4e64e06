section ST7
variable {n cnt mc : Nat} {A B A' B' : Mm}
theorem reP_o {q : Nat} (h : q ≠ 105) : (reP B).1 q = B.1 q := by
  unfold reP
  rw [mI_other h, mI_other h, mI_other h, mI_other h, mI_other h, mI_other h, mI_other h, mI_other h]
theorem reX_o {q : Nat} (h : ¬ (107 ≤ q ∧ q ≤ 119 ∧ q ≠ 118) ∧ q ≠ 105) : (reX B).1 q = B.1 q := by
  unfold reX
  rw [bk_o h.1 12 (by omega), reP_o h.2]
theorem re_o {q : Nat} (h : ¬ (107 ≤ q ∧ q ≤ 120 ∧ q ≠ 118) ∧ q ≠ 105) : (reM B).1 q = B.1 q := by
  unfold reM
  rw [rI_other (by omega), reX_o (by omega)]
theorem re_105 : (reM B).1 105 = (reP B).1 105 := by
  unfold reM
  rw [rI_other (by decide)]
  unfold reX
  rw [bk_o (by decide) 12 (by omega)]
theorem reX_105 : (reX B).1 105 = (reP B).1 105 := by
  unfold reX
  rw [bk_o (by decide) 12 (by omega)]
theorem reP_f {j : Nat} (hj : ¬ (j = 0 ∨ j = 1 ∨ j = 2 ∨ j = 3 ∨ j = 4 ∨ j = 5 ∨ j = 7 ∨ j = 8)) : (reP B).1 105 j = B.1 105 j := by
  unfold reP
  rw [mI_self, upd_other (by omega), mI_self, upd_other (by omega), mI_self, upd_other (by omega), mI_self, upd_other (by omega), mI_self, upd_other (by omega), mI_self, upd_other (by omega), mI_self, upd_other (by omega), mI_self, upd_other (by omega)]
theorem reP_v : (reP B).1 105 3 = B.1 105 55 ∧ (reP B).1 105 0 = B.1 105 56 ∧ (reP B).1 105 1 = B.1 105 57 ∧ (reP B).1 105 2 = B.1 105 58 ∧ (reP B).1 105 4 = B.1 105 59 ∧ (reP B).1 105 5 = B.1 105 60 ∧ (reP B).1 105 7 = B.1 105 61 ∧ (reP B).1 105 8 = B.1 105 62 := by
  unfold reP
  refine ⟨?_, ?_, ?_, ?_, ?_, ?_, ?_, ?_⟩
  · rw [mI_self, upd_other (by decide), mI_self, upd_other (by decide), mI_self, upd_other (by decide), mI_self, upd_other (by decide), mI_self, upd_other (by decide), mI_self, upd_other (by decide), mI_self, upd_other (by decide), mI_self, upd_self]
  · rw [mI_self, upd_other (by decide), mI_self, upd_other (by decide), mI_self, upd_other (by decide), mI_self, upd_other (by decide), mI_self, upd_other (by decide), mI_self, upd_other (by decide), mI_self, upd_self]
  · rw [mI_self, upd_other (by decide), mI_self, upd_other (by decide), mI_self, upd_other (by decide), mI_self, upd_other (by decide), mI_self, upd_other (by decide), mI_self, upd_self]
  · rw [mI_self, upd_other (by decide), mI_self, upd_other (by decide), mI_self, upd_other (by decide), mI_self, upd_other (by decide), mI_self, upd_self]
  · rw [mI_self, upd_other (by decide), mI_self, upd_other (by decide), mI_self, upd_other (by decide), mI_self, upd_self]
  · rw [mI_self, upd_other (by decide), mI_self, upd_other (by decide), mI_self, upd_self]
  · rw [mI_self, upd_other (by decide), mI_self, upd_self]
  · rw [mI_self, upd_self]
theorem re_k {t i : Nat} (ht : t < 12) (hi : i < kLn t) : (reM B).1 (kRw t) i = B.1 140 (kOf t + i) := by
  have hr := k_row t ht
  unfold reM
  rw [rI_other (by omega)]
  unfold reX
  rw [bk_at 12 (by omega) t ht i hi, reP_o (by decide)]
theorem re_120 {k : Nat} (hk : k < 8) : (reM B).1 120 k = pIf (B.1 120 k = 2 ∧ ¬ B.1 123 k < B.1 105 56) 0 (B.1 120 k) := by
  unfold reM
  rw [rI_self, upto_lt hk]
  unfold fg8
  rw [reX_o (by decide), reX_o (by decide), reX_105, reP_v.2.1]
theorem re_2 : (reM B).2 = B.2 := by
  unfold reM
  show (reX B).2 = _
  unfold reX
  rw [bk_2]
  rfl
theorem st_restore (h : J n cnt mc A B) {v w : Int32} (hc : S_restore A v A') (hm : S8_restore B w B') : v = w ∧ Jx A' B' := by
  unfold S_restore at hc
  unfold S8_restore at hm
  rcases h.2.2.2.2.2.2.1 with ⟨q1, q2⟩ | ⟨q1, q2, q3⟩
  · rw [pIf_t q1] at hc
    rw [pIf_t q2] at hm
    obtain ⟨rfl, rfl⟩ := hc
    obtain ⟨rfl, rfl⟩ := hm
    exact ⟨rfl, (h.ref (k := 5) (by decide)).x⟩
  · rw [pIf_f q1] at hc
    rw [pIf_f q2] at hm
    obtain ⟨M1, M2, M3, ⟨s1, r1, f1⟩, ⟨s2, r2, b1, b2⟩, e3, rfl, rfl⟩ := hc
    obtain ⟨rfl, rfl⟩ := hm
    obtain ⟨ni, ci, mi, a1, a2, a3, a4, a5, l1, l2, l3, ⟨l4, l5, l6, l7⟩, c1, c2, c3, c4⟩ := q3
    have o3 : ∀ q, ¬ (q = 14 ∨ (16 ≤ q ∧ q ≤ 25)) → ¬ (q = 78 ∨ (80 ≤ q ∧ q ≤ 86)) → q ≠ 96 → q ≠ 97 → M3.1 q = A.1 q := fun q a b c d => by
      rw [e3, mI_other c, rI_other (by omega), s2.2 q (by omega), s1.2 q (by omega)]
    have o14 : M3.1 14 = M1.1 14 := by rw [e3, mI_other (by decide), rI_other (by decide), s2.2 14 (by omega)]
    have o78 : M3.1 78 = M2.1 78 := by rw [e3, mI_other (by decide), rI_other (by decide)]
    have o96 : M3.1 96 1 = A.1 98 1 := by rw [e3, mI_self, upd_self, s2.2 98 (by omega), s1.2 98 (by omega)]
    have o97 : ∀ q, q < 8 → M3.1 97 q = A.1 99 q := fun q hq => by
      rw [e3, mI_other (by decide)]
      show (rI M2 97 _).1 97 q = _
      rw [rI_self, cpy_at hq, s2.2 99 (by omega), s1.2 99 (by omega)]
    have oT : ∀ t, t < 10 → ∀ j, j < 30 → M3.1 (16 + t) j = A.1 (31 + t) j := fun t ht j hj => by
      rw [e3, mI_other (by omega), rI_other (by omega), s2.2 (16 + t) (by omega)]
      show M1.1 (14 + 2 + t) j = _
      rw [r1 t ht, cpy_at hj]
    have oL : ∀ t, t < 7 → ∀ j, j < 7 → M3.1 (80 + t) j = A.1 (89 + t) j := fun t ht j hj => by
      rw [e3, mI_other (by omega), rI_other (by omega)]
      show M2.1 (78 + 2 + t) j = _
      rw [r2 t ht, cpy_at hj, s1.2 (87 + 2 + t) (by omega)]
    have m1_87 : M1.1 87 = A.1 87 := s1.2 87 (by omega)
    have o2 : M3.2 = A.2 := by rw [e3]; exact s2.1.trans s1.1
    have n14 : M3.1 14 11 = nI ni := by rw [o14, f1 11 (by omega) (by omega)]; exact a1
    have oZ : ∀ q, q ≠ 3 → (rI M3 3 (upto (M3.1 3) (fgN M3 (M3.1 14 11)) 8)).1 q = M3.1 q := fun q hq => rI_other hq
    have h3 : ∀ k, k < 8 → (rI M3 3 (upto (M3.1 3) (fgN M3 (M3.1 14 11)) 8)).1 3 k = pIf ((¬ A.1 3 k = -1 ∧ ¬ 100 ≤ A.1 3 k) ∧ ¬ A.1 3 k < nI ni) (-1) (A.1 3 k) := fun k hk => by
      rw [rI_self, upto_lt hk]
      unfold fgN
      rw [n14, o3 3 (by omega) (by omega) (by omega) (by omega)]
    have h2 : (rI M3 3 (upto (M3.1 3) (fgN M3 (M3.1 14 11)) 8)).2 = A.2 := o2
    generalize (rI M3 3 (upto (M3.1 3) (fgN M3 (M3.1 14 11)) 8)) = Z at *
    obtain ⟨a, b, c, d, e, f, g, i⟩ := h
    obtain ⟨v3, v0, v1, v2, v4, v5, v7, v8⟩ := reP_v (B := B)
    have hn30 := a.2.2.1
    obtain ⟨fd1, fd2, fd3, fd4, fd5, fd6⟩ := a5
    have oA : ∀ q, ¬ (q = 14 ∨ (16 ≤ q ∧ q ≤ 25)) → ¬ (q = 78 ∨ (80 ≤ q ∧ q ≤ 86)) → q ≠ 96 → q ≠ 97 → q ≠ 3 → Z.1 q = A.1 q := fun q a b c d e => by rw [oZ q e, o3 q a b c d]
    refine ⟨?_, ni, ci, mi, ⟨?_, ?_, a3, a4.cg (fun t ht j hj => ?_) (fun t ht j hj => ?_), ?_, ?_, ?_, ?_, ?_, ?_⟩, ⟨?_, ?_, l3, ⟨fun k hk i hi => ?_, fun i hi => ?_, ?_, ?_⟩, fun i hi => ?_⟩, ⟨?_, ?_, c3, fun q hq => ?_⟩, fun k hk => ⟨?_, ?_, ?_⟩, e.fr (fun q hq => oA q (by omega) (by omega) (by omega) (by omega) (by omega)) (re_o (by omega)) (by rw [re_105, reP_f (by omega)]), f.fr (fun q hq => oA q (by omega) (by omega) (by omega) (by omega) (by omega)) (re_o (by omega)) (by rw [re_105, reP_f (by omega)]), g.fr (congrFun (oA 0 (by omega) (by omega) (by omega) (by omega) (by omega)) 13) (fun q hq => oA q (by omega) (by omega) (by omega) (by omega) (by omega)) (re_o (by omega)) (fun j hj => by rw [re_105, reP_f (by omega)]), i.fr (re_o (by omega)) (by rw [re_105, reP_f (by omega)])⟩
    · rw [oZ 14 (by omega), o14, f1 12 (by omega) (by omega), re_105, v3]; exact fd1
    · rw [oZ 14 (by omega)]; exact n14
    · rw [re_105, v0]; exact a2
    · show Z.1 (16 + t) j = A.1 (31 + t) j
      rw [oZ _ (by omega), oT t ht j (by omega)]
    · show (reM B).1 (107 + t) j = B.1 140 (30 * t + j)
      obtain ⟨k1, k2, k3⟩ := k10 t ht
      rw [← k1, ← k3]
      exact re_k (by omega) (by omega)
    · rw [oZ 14 (by omega), o14, f1 12 (by omega) (by omega), re_105, v3]; exact fd1
    · rw [oZ 14 (by omega), o14, f1 13 (by omega) (by omega), re_105, v4]; exact fd2
    · rw [oZ 14 (by omega), o14, f1 14 (by omega) (by omega), re_105, v7]; exact fd3
    · rw [oZ 14 (by omega), o14, f1 15 (by omega) (by omega), re_105, v8]; exact fd4
    · rw [re_105, v3]; exact fd5
    · rw [re_105, v8]; exact fd6
    · rw [oZ 78 (by omega), o78, b1, m1_87]; exact l1
    · rw [re_105, v1]; exact l2
    · show Z.1 (80 + (k + 1)) i = (reM B).1 119 (7 * k + i)
      rw [oZ _ (by omega), oL (k + 1) (by omega) i hi, show (reM B).1 119 (7 * k + i) = B.1 140 (308 + (7 * k + i)) from re_k (t := 11) (by omega) (show 7 * k + i < 42 by omega)]
      exact l4 k hk i hi
    · show Z.1 (80 + 0) i = lawsF i
      rw [oZ _ (by omega), oL 0 (by omega) i hi]
      exact l5 i hi
    · rw [oZ 78 (by omega), o78, b2, m1_87, re_105, v5]; exact l6
    · rw [re_105, v5]; exact l7
    · rw [re_o (by omega)]; exact b.2.2.2.2 i hi
    · rw [oZ 96 (by omega), o96]; exact c1
    · rw [re_105, v2]; exact c2
    · rw [oZ 97 (by omega), o97 q (by omega), show (reM B).1 117 q = B.1 140 (300 + q) from re_k (t := 10) (by omega) (show q < 8 by omega)]
      exact c4 q hq
    · obtain ⟨⟨z, z1, z2, z3⟩, -⟩ := d k hk
      exact ⟨z, z1, by rw [oA 4 (by omega) (by omega) (by omega) (by omega) (by omega)]; exact z2, by rw [re_o (by omega)]; exact z3⟩
    · rw [h3 k hk, re_120 hk, re_o (show ¬ (107 ≤ 121 ∧ 121 ≤ 120 ∧ 121 ≠ 118) ∧ 121 ≠ 105 by omega), re_o (show ¬ (107 ≤ 123 ∧ 123 ≤ 120 ∧ 123 ≠ 118) ∧ 123 ≠ 105 by omega), a2]
      have t1 : ∀ t, t < 4 → (100 : Int32) ≤ nI (100 + t) := by decide +kernel
      have t2 : ∀ t, t < 100 → ¬ nI t = -1 ∧ ¬ 100 ≤ nI t := by decide +kernel
      rcases (d k hk).2.1 with q | ⟨e1, t, x1, x2, x3⟩ | ⟨e1, p, x1, x2, x3⟩
      · rw [q.1, q.2, pIf_f (fun z => z.1.1 rfl), pIf_f (fun z => absurd z.1 (by decide))]
        exact Or.inl ⟨rfl, rfl⟩
      · rw [e1, x3, pIf_f (fun z => z.1.2 (t1 t x1)), pIf_f (fun z => absurd z.1 (by decide))]
        exact Or.inr (Or.inl ⟨rfl, t, x1, x2, rfl⟩)
      · rw [e1, x2, x3]
        by_cases u : nI p < nI ni
        · rw [pIf_f (fun z => z.2 u), pIf_f (fun z => z.2 u)]
          exact Or.inr (Or.inr ⟨rfl, p, (nI_ltI (by omega) (by omega)).mp u, rfl, rfl⟩)
        · rw [pIf_t ⟨t2 p (by omega), u⟩, pIf_t ⟨rfl, u⟩]
          exact Or.inl ⟨rfl, rfl⟩
    · intro i hi
      rw [h2, re_2]
      exact (d k hk).2.2 i hi
end ST7
