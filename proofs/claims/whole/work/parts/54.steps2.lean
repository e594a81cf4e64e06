section ST2
variable {n cnt mc : Nat} {A B A' B' : Mm}
/-! copy -/
theorem part_iff {k z : Nat} {i m : Int32} (hk : k < 8) (hz : z ≤ 100) (h4 : A.1 4 k = nI z) (hr : ¬ A.1 3 k < 100) (hm : ¬ m < 0) : partP A (nI k) i m ↔ (¬ i < 0 ∧ ¬ nI z - m < i) := by
  have h0 : (0 : Int32).toInt = 0 := by decide
  have lm := m.toInt_lt
  have li := i.toInt_lt
  have gi := i.le_toInt
  rw [i32_lt, h0] at hm
  have es : (nI z - m).toInt = (z : Int) - m.toInt := by
    rw [Int32.toInt_sub, nI_toInt (by omega)]
    exact Int.bmod_eq_of_le (by omega) (by omega)
  have el : (i.toInt64 + m.toInt64).toInt = i.toInt + m.toInt := by
    rw [Int64.toInt_add, Int32.toInt_toInt64, Int32.toInt_toInt64]
    exact Int.bmod_eq_of_le (by omega) (by omega)
  have ez : ((nI z).toInt64).toInt = (z : Int) := by rw [Int32.toInt_toInt64, nI_toInt (by omega)]
  have key : ¬ 0 < lg_cmp (i.toInt64 + m.toInt64) (nI z).toInt64 ↔ i.toInt + m.toInt ≤ z := by
    rw [lg_cmp_gt, Int64.lt_iff_toInt_lt, el, ez]
    omega
  constructor
  · rintro ⟨j, a, b, c, d, e, f⟩
    have ej := nI_inj8 hk a b
    subst ej
    rw [h4] at f
    refine ⟨d, fun q => ?_⟩
    rw [i32_lt, es] at q
    have := key.mp f
    omega
  · rintro ⟨d, q⟩
    refine ⟨k, hk, rfl, hr, d, by rw [i32_lt, h0]; exact hm, ?_⟩
    rw [h4, key]
    rw [i32_lt, es] at q
    omega
theorem J.copy (h : J n cnt mc A B) {p q a b m : Nat} (hp : p < 8) (hq : q < 8) (ha : a + m ≤ 100) (hb : b + m ≤ 100) : J n cnt mc (rL A (6 + q) (va_cpy (A.2 (6 + p)) (A.2 (6 + q)) a b m)) (cp2 B p a q b m m) := by
  refine h.ofS (fun j hj => ?_) (fun _ _ _ => rfl) (fun _ _ => rfl)
  obtain ⟨p1, p4, p5⟩ := h.2.2.2.1 j hj
  refine ⟨p1, p4, fun i hi => ?_⟩
  have b4 : (cp2 B p a q b m m).2 124 = ovF (100 * q + b) m (cpG B p a) (B.2 124) := rL_self _ _ _
  rw [b4]
  by_cases e : j = q
  · subst e
    have a6 : (rL A (6 + j) (va_cpy (A.2 (6 + p)) (A.2 (6 + j)) a b m)).2 (6 + j) = va_cpy (A.2 (6 + p)) (A.2 (6 + j)) a b m := rL_self _ _ _
    rw [a6]
    unfold va_cpy ovF
    by_cases c : b ≤ i ∧ i < b + m
    · rw [if_pos c, pIf_t (by omega)]
      unfold cpG
      rw [show 100 * j + i - (100 * j + b) = i - b by omega, show 100 * p + a + (i - b) = 100 * p + (a + (i - b)) by omega]
      exact (h.2.2.2.1 p hp).2.2 (a + (i - b)) (by omega)
    · rw [if_neg c, pIf_f (by omega)]
      exact p5 i hi
  · have a6 : (rL A (6 + q) (va_cpy (A.2 (6 + p)) (A.2 (6 + q)) a b m)).2 (6 + j) = A.2 (6 + j) := rL_o (by omega)
    rw [a6]
    unfold ovF
    rw [pIf_f (by omega)]
    exact p5 i hi
theorem rr2_v {s t : Int32} {x : Int32} (e : rr2I A s t = x) {i j m v : Int32} (hc : S_copy A s t i j m v A') (hx : ¬ x = 0) : v = x ∧ A' = rfA A x := by
  unfold S_copy at hc
  rw [e, pIf_f hx] at hc
  exact hc
theorem st_copy (h : J n cnt mc A B) {s t i j m v w : Int32} (hc : S_copy A s t i j m v A') (hm : S8_copy B s t i j m w B') : v = w ∧ Jx A' B' := by
  unfold S8_copy at hm
  by_cases c1 : ¬ s < 0 ∧ ¬ 8 ≤ s
  · rw [pIf_t c1] at hm
    by_cases c2 : ¬ t < 0 ∧ ¬ 8 ≤ t
    · rw [pIf_t c2] at hm
      obtain ⟨k, hk, rfl⟩ := shf_k c1
      obtain ⟨k2, hk2, rfl⟩ := shf_k c2
      rw [nI_clamp (show k < 2 ^ 31 by omega), nI_clamp (show k2 < 2 ^ 31 by omega)] at hm
      have er : rr2I A (nI k) (nI k2) = pIf (perP A (nI k)) (-2) (pIf (perP A (nI k2)) (-2) (pIf (rowP A (nI k)) (pIf (rowP A (nI k2)) (pIf (A.1 3 k = A.1 3 k2) 0 (-2)) (-3)) (-3))) := by
        unfold rr2I
        rw [pIf_t c1, pIf_t c2, nI_clamp (show k < 2 ^ 31 by omega), nI_clamp (show k2 < 2 ^ 31 by omega)]
      by_cases p1 : B.1 120 k = 2
      · rw [pIf_t p1] at hm
        obtain ⟨rfl, rfl⟩ := rr2_v (er.trans (pIf_t ((h.per hk).mpr p1))) hc (by decide)
        obtain ⟨rfl, rfl⟩ := hm
        exact ⟨rfl, (h.refA (x := -2) (by decide)).x⟩
      · rw [pIf_f p1] at hm
        rw [pIf_f (fun z => p1 ((h.per hk).mp z))] at er
        by_cases p2 : B.1 120 k2 = 2
        · rw [pIf_t p2] at hm
          obtain ⟨rfl, rfl⟩ := rr2_v (er.trans (pIf_t ((h.per hk2).mpr p2))) hc (by decide)
          obtain ⟨rfl, rfl⟩ := hm
          exact ⟨rfl, (h.refA (x := -2) (by decide)).x⟩
        · rw [pIf_f p2] at hm
          rw [pIf_f (fun z => p2 ((h.per hk2).mp z))] at er
          by_cases q1 : B.1 120 k = 1
          · rw [pIf_t q1] at hm
            rw [pIf_t ((h.rw hk).mpr q1)] at er
            have n1 : ¬ B.1 120 k = 0 := by rw [q1]; decide
            by_cases q2 : B.1 120 k2 = 1
            · rw [pIf_t q2] at hm
              rw [pIf_t ((h.rw hk2).mpr q2)] at er
              have n2 : ¬ B.1 120 k2 = 0 := by rw [q2]; decide
              obtain ⟨t1, a1, a2, a3⟩ := h.srt hk q1
              obtain ⟨t2, b1, b2, b3⟩ := h.srt hk2 q2
              have es : A.1 3 k = A.1 3 k2 ↔ B.1 121 k = B.1 121 k2 := by
                rw [a2, a3, b2, b3]
                constructor
                · intro q; have := (nI_eq (by omega) (by omega)).mp q; rw [show t1 = t2 by omega]
                · intro q; have := (nI_eq (by omega) (by omega)).mp q; rw [this]
              by_cases q3 : B.1 121 k = B.1 121 k2
              · rw [pIf_t q3, pIf_f n1, pIf_f n2] at hm
                rw [pIf_t (es.mpr q3)] at er
                unfold S_copy at hc
                rw [pIf_t er] at hc
                obtain ⟨⟨z1, y1, y2, y3⟩, -⟩ := h.2.2.2.1 k hk
                obtain ⟨⟨z2, x1, x2, x3⟩, -⟩ := h.2.2.2.1 k2 hk2
                by_cases d1 : m < 0
                · rw [pIf_t d1] at hc hm
                  obtain ⟨rfl, rfl⟩ := hc
                  obtain ⟨rfl, rfl⟩ := hm
                  exact ⟨rfl, (h.ref (k := 3) (by decide)).x⟩
                · rw [pIf_f d1] at hc hm
                  have w1 := part_iff (i := i) hk y1 y2 ((h.h1 hk).mpr q1) d1
                  have w2 := part_iff (i := j) hk2 x1 x2 ((h.h1 hk2).mpr q2) d1
                  rw [y3, x3] at hm
                  have bad : (v = -5 ∧ A' = rfx A 4) → (w = -5 ∧ B' = nox B 5) → v = w ∧ Jx A' B' := by
                    rintro ⟨rfl, rfl⟩ ⟨rfl, rfl⟩
                    exact ⟨rfl, (h.ref (k := 4) (by decide)).x⟩
                  by_cases d2 : i < 0
                  · rw [pIf_t d2] at hm
                    rw [pIf_f (fun z => (w1.mp z).1 d2)] at hc
                    exact bad hc hm
                  · rw [pIf_f d2] at hm
                    by_cases d3 : j < 0
                    · rw [pIf_t d3] at hm
                      by_cases u : partP A (nI k) i m
                      · rw [pIf_t u, pIf_f (fun z => (w2.mp z).1 d3)] at hc
                        exact bad hc hm
                      · rw [pIf_f u] at hc
                        exact bad hc hm
                    · rw [pIf_f d3] at hm
                      by_cases d4 : nI z1 - m < i
                      · rw [pIf_t d4] at hm
                        rw [pIf_f (fun z => (w1.mp z).2 d4)] at hc
                        exact bad hc hm
                      · rw [pIf_f d4] at hm
                        have u1 := w1.mpr ⟨d2, d4⟩
                        rw [pIf_t u1] at hc
                        by_cases d5 : j ≤ nI z2 - m
                        · rw [pIf_t d5] at hm
                          have u2 := w2.mpr ⟨d3, Int32.not_lt.mpr d5⟩
                          rw [pIf_t u2] at hc
                          obtain ⟨k', z', a, m', hk', hz', hs', e1, rfl, rfl, hz4⟩ := partP_n h.sz u1
                          obtain ⟨k3, z3, b, m3, hk3, hz3, hs3, e3, rfl, e5, hz5⟩ := partP_n h.sz u2
                          have e6 : m' = m3 := by
                            have l1 : m' ≤ 100 := by omega
                            have l2 : m3 ≤ 100 := by omega
                            exact (nI_eq (by omega) (by omega)).mp e5
                          subst e6
                          rw [nI_clamp (show k < 2 ^ 31 by omega), nI_clamp (show k2 < 2 ^ 31 by omega), nI_clamp (show a < 2 ^ 31 by omega), nI_clamp (show b < 2 ^ 31 by omega), nI_clamp (show m' < 2 ^ 31 by omega)] at hc
                          rw [nI_clamp (show a < 2 ^ 31 by omega), nI_clamp (show b < 2 ^ 31 by omega), nI_clamp (show m' < 2 ^ 31 by omega)] at hm
                          obtain ⟨rfl, rfl⟩ := hc
                          obtain ⟨rfl, rfl⟩ := hm
                          exact ⟨rfl, (h.copy hk hk2 (by omega) (by omega)).x⟩
                        · rw [pIf_f d5] at hm
                          rw [pIf_f (fun z => d5 (Int32.not_lt.mp (w2.mp z).2))] at hc
                          exact bad hc hm
              · rw [pIf_f q3] at hm
                obtain ⟨rfl, rfl⟩ := rr2_v (er.trans (pIf_f (fun z => q3 (es.mp z)))) hc (by decide)
                obtain ⟨rfl, rfl⟩ := hm
                exact ⟨rfl, (h.refA (x := -2) (by decide)).x⟩
            · rw [pIf_f q2, pIf_f n1] at hm
              have n2 : B.1 120 k2 = 0 := by
                rcases h.hel k2 hk2 with q | q | q
                · exact q
                · exact absurd q q2
                · exact absurd q.1 p2
              rw [pIf_t n2] at hm
              obtain ⟨rfl, rfl⟩ := rr2_v (er.trans (pIf_f (fun z => q2 ((h.rw hk2).mp z)))) hc (by decide)
              obtain ⟨rfl, rfl⟩ := hm
              exact ⟨rfl, (h.refA (x := -3) (by decide)).x⟩
          · rw [pIf_f q1] at hm
            have n1 : B.1 120 k = 0 := by
              rcases h.hel k hk with q | q | q
              · exact q
              · exact absurd q q1
              · exact absurd q.1 p1
            rw [pIf_t n1] at hm
            obtain ⟨rfl, rfl⟩ := rr2_v (er.trans (pIf_f (fun z => q1 ((h.rw hk).mp z)))) hc (by decide)
            obtain ⟨rfl, rfl⟩ := hm
            exact ⟨rfl, (h.refA (x := -3) (by decide)).x⟩
    · rw [pIf_f c2] at hm
      have er : rr2I A s t = -1 := by
        unfold rr2I
        rw [pIf_t c1, pIf_f c2]
      obtain ⟨rfl, rfl⟩ := rr2_v er hc (by decide)
      obtain ⟨rfl, rfl⟩ := hm
      exact ⟨rfl, (h.refA (x := -1) (by decide)).x⟩
  · rw [pIf_f c1] at hm
    have er : rr2I A s t = -1 := by
      unfold rr2I
      rw [pIf_f c1]
    obtain ⟨rfl, rfl⟩ := rr2_v er hc (by decide)
    obtain ⟨rfl, rfl⟩ := hm
    exact ⟨rfl, (h.refA (x := -1) (by decide)).x⟩
/-! says -/
theorem undE (k : Nat) (a w : Int32) : undP (k + 1) a w ↔ (a = w ∨ (¬ a = -1 ∧ ¬ a = w ∧ undP k (aboveI a) w)) := by
  show ((a = -1 ∨ a = w) ∧ a = w) ∨ (¬ (a = -1 ∨ a = w) ∧ undP k (aboveI a) w) ↔ _
  constructor
  · rintro (q | ⟨q1, q2⟩)
    · exact Or.inl q.2
    · exact Or.inr ⟨fun z => q1 (Or.inl z), fun z => q1 (Or.inr z), q2⟩
  · rintro (q | ⟨q1, q2, q3⟩)
    · exact Or.inl ⟨Or.inr q, q⟩
    · exact Or.inr ⟨fun z => z.elim q1 q2, q3⟩
theorem und_eq {k w : Int32} (hk : k = 0 ∨ k = 1 ∨ k = 2 ∨ k = 3 ∨ k = 4 ∨ k = 5 ∨ k = 6) (hw : w = 0 ∨ w = 1 ∨ w = 2 ∨ w = 3 ∨ w = 4 ∨ w = 5 ∨ w = 6) : undP 4 k w ↔ (w = 0 ∨ w = k ∨ und8 k w) := by
  rw [undE, undE, undE, undE]
  show (k = w ∨ ¬ k = -1 ∧ ¬ k = w ∧ (aboveI k = w ∨ ¬ aboveI k = -1 ∧ ¬ aboveI k = w ∧ (aboveI (aboveI k) = w ∨ ¬ aboveI (aboveI k) = -1 ∧ ¬ aboveI (aboveI k) = w ∧ (aboveI (aboveI (aboveI k)) = w ∨ ¬ aboveI (aboveI (aboveI k)) = -1 ∧ ¬ aboveI (aboveI (aboveI k)) = w ∧ aboveI (aboveI (aboveI (aboveI k))) = w)))) ↔ (w = 0 ∨ w = k ∨ ((w = 1 ∧ k = 6) ∨ (w = 2 ∧ ¬ k < 3 ∧ ¬ 5 < k)))
  rcases hk with rfl | rfl | rfl | rfl | rfl | rfl | rfl <;> rcases hw with rfl | rfl | rfl | rfl | rfl | rfl | rfl <;> decide +kernel
theorem lsM_eqA {M' : Mm} (h : lsM 14 n A M') : eqA A M' := ⟨fun k hk => h.1.2 k (fun q => hk (by unfold sA; omega)), fun k hk => by rw [h.1.1]⟩
theorem J.heard (h : J n cnt mc A B) {p : Nat} (hp : p < n) {M' : Mm} (hl : lsM 14 n A M') : M'.1 26 p = hearF n (B.1 108) (B.1 113) p ∧ M'.1 27 p = nearF n (B.1 108) (B.1 113) p := by
  obtain ⟨e1, e2⟩ := hl.2 p hp
  have s3 : agr n (M'.1 (14 + 3)) (B.1 108) := fun j hj => by rw [hl.1.2 (14 + 3) (by omega)]; exact h.1.row (t := 1) (by omega) hj
  have s8 : agr n (M'.1 (14 + 8)) (B.1 113) := fun j hj => by rw [hl.1.2 (14 + 8) (by omega)]; exact h.1.row (t := 6) (by omega) hj
  exact ⟨e1.trans (hearF_cg s3 s8 hp), e2.trans (nearF_cg s3 s8 hp)⟩
theorem J.tk (h : J n cnt mc A B) {p : Nat} (hp : p < n) : A.1 23 p = pIf (B.1 113 p = 1) (B.1 114 p) 0 := by
  have e : A.1 23 p = B.1 114 p := h.1.row (t := 7) (by omega) hp
  rw [e]
  by_cases q : B.1 113 p = 1
  · rw [pIf_t q]
  · rw [pIf_f q]
    exact (h.1.2.2.2.1.2.2.2.2.2 p hp).2 q
theorem J.kd (h : J n cnt mc A B) {p : Nat} (hp : p < n) : ∃ k, k < 7 ∧ B.1 107 p = nI k := h.1.2.2.2.1.2.1 p hp
theorem word_eq (h : J n cnt mc A B) {p : Nat} {w v : Int32} (hp : p < n) (hw : w = 0 ∨ w = 1 ∨ w = 2 ∨ w = 3 ∨ w = 4 ∨ w = 5 ∨ w = 6) (hc : S_wordOf 14 n A p w v A') : v = wrd8 n B p w ∧ eqA A A' := by
  unfold S_wordOf at hc
  unfold wrd8
  rcases hw with rfl | rfl | rfl | rfl | rfl | rfl | rfl
  · rw [pIf_f (by decide), pIf_f (by decide)] at hc
    obtain ⟨rfl, rfl⟩ := hc
    rw [pIf_t rfl]
    exact ⟨(pIf_t rfl).trans (h.1.row (t := 2) (by omega) hp), eqA.rf⟩
  · rw [pIf_f (by decide), pIf_f (by decide)] at hc
    obtain ⟨rfl, rfl⟩ := hc
    rw [pIf_f (by decide), pIf_t (Or.inl rfl)]
    exact ⟨(pIf_f (by decide)).trans ((pIf_f (by decide)).trans ((pIf_f (by decide)).trans (h.1.row (t := 4) (by omega) hp))), eqA.rf⟩
  · rw [pIf_t rfl] at hc
    rw [pIf_f (by decide), pIf_f (by decide), pIf_t rfl]
    exact ⟨hc.2.trans (h.heard hp hc.1).1, lsM_eqA hc.1⟩
  · rw [pIf_f (by decide), pIf_t rfl] at hc
    rw [pIf_f (by decide), pIf_f (by decide), pIf_f (by decide), pIf_t rfl]
    exact ⟨hc.2.trans (h.heard hp hc.1).2, lsM_eqA hc.1⟩
  · rw [pIf_f (by decide), pIf_f (by decide)] at hc
    obtain ⟨rfl, rfl⟩ := hc
    rw [pIf_f (by decide), pIf_f (by decide), pIf_f (by decide), pIf_f (by decide), pIf_t rfl]
    exact ⟨(pIf_f (by decide)).trans ((pIf_t rfl).trans (h.1.row (t := 5) (by omega) hp)), eqA.rf⟩
  · rw [pIf_f (by decide), pIf_f (by decide)] at hc
    obtain ⟨rfl, rfl⟩ := hc
    rw [pIf_f (by decide), pIf_f (by decide), pIf_f (by decide), pIf_f (by decide), pIf_f (by decide)]
    exact ⟨(pIf_f (by decide)).trans ((pIf_f (by decide)).trans ((pIf_t rfl).trans (h.tk hp))), eqA.rf⟩
  · rw [pIf_f (by decide), pIf_f (by decide)] at hc
    obtain ⟨rfl, rfl⟩ := hc
    rw [pIf_f (by decide), pIf_t (Or.inr rfl)]
    exact ⟨(pIf_f (by decide)).trans ((pIf_f (by decide)).trans ((pIf_f (by decide)).trans (h.1.row (t := 4) (by omega) hp))), eqA.rf⟩
theorem lt7' {w : Int32} : (¬ w < 0 ∧ ¬ 7 ≤ w) ↔ (¬ w < 0 ∧ ¬ 6 < w) := by
  have e0 : (6 : Int32).toInt = 6 := by decide
  have e1 : (7 : Int32).toInt = 7 := by decide
  rw [i32_lt (a := 6), Int32.le_iff_toInt_le, e0, e1]
  exact ⟨fun q => ⟨q.1, by omega⟩, fun q => ⟨q.1, by omega⟩⟩
theorem st_says (h : J n cnt mc A B) {s x v w : Int32} (hc : S_says A n s x v A') (hm : S8_says B n s x w B') : v = w ∧ Jx A' B' := by
  unfold S_says at hc
  unfold S8_says at hm
  by_cases c1 : ¬ s < 0 ∧ ¬ 8 ≤ s
  · rw [pIf_t c1] at hc hm
    obtain ⟨k, hk, rfl⟩ := shf_k c1
    rw [nI_clamp (by omega)] at hc hm
    by_cases c2 : ¬ x < 0 ∧ ¬ 6 < x
    · rw [pIf_t (lt7'.mpr c2)] at hc
      rw [pIf_t c2] at hm
      have hx := k7 (lt7 c2.1 (Int32.not_lt.mp c2.2))
      have hn30 := h.n30
      have t1 : ∀ t, t < 200 → ¬ nI t = -1 ∧ ¬ nI t < 0 := by decide +kernel
      rcases (h.2.2.2.1 k hk).2.1 with q | ⟨e, t, a, b, c⟩ | ⟨e, p, a, b, c⟩
      · rw [q.1, pIf_f (by decide), pIf_t rfl] at hm
        rw [pIf_t q.2] at hc
        obtain ⟨rfl, rfl⟩ := hc
        obtain ⟨rfl, rfl⟩ := hm
        exact ⟨rfl, (h.ref (k := 2) (by decide)).x⟩
      · rw [e, pIf_t rfl] at hm
        rw [c, pIf_f (t1 _ (by omega)).1, pIf_f (fun z => z.2 (by rw [h.hn]; exact (nI_leI (by omega) (by omega)).mpr (by omega)))] at hc
        obtain ⟨rfl, rfl⟩ := hc
        obtain ⟨rfl, rfl⟩ := hm
        exact ⟨rfl, (h.ref (k := 1) (by decide)).x⟩
      · rw [e, pIf_f (by decide), pIf_f (by decide), b, nI_clamp (by omega)] at hm
        have hh : ¬ nI p < 0 ∧ ¬ A.1 14 11 ≤ nI p := ⟨(t1 p (by omega)).2, fun z => by rw [h.hn] at z; have := (nI_leI (by omega) (by omega)).mp z; omega⟩
        rw [c, pIf_f (t1 p (by omega)).1, pIf_t hh, nI_clamp (by omega), show A.1 16 p = B.1 107 p from h.1.row (t := 0) (by omega) a] at hc
        have eu := und_eq (k7 (h.kd a)) hx
        by_cases c3 : x = 0 ∨ x = B.1 107 p ∨ und8 (B.1 107 p) x
        · rw [pIf_t c3] at hm
          rw [pIf_t (eu.mpr c3)] at hc
          obtain ⟨e1, e2⟩ := word_eq h a hx hc
          obtain ⟨rfl, rfl⟩ := hm
          exact ⟨e1, (h.eq e2 eqB.rf).x⟩
        · rw [pIf_f c3] at hm
          rw [pIf_f (fun z => c3 (eu.mp z))] at hc
          obtain ⟨rfl, rfl⟩ := hc
          obtain ⟨rfl, rfl⟩ := hm
          exact ⟨rfl, (h.ref (k := 1) (by decide)).x⟩
    · rw [pIf_f (fun z => c2 (lt7'.mp z))] at hc
      rw [pIf_f c2] at hm
      obtain ⟨rfl, rfl⟩ := hc
      obtain ⟨rfl, rfl⟩ := hm
      exact ⟨rfl, (h.ref (k := 0) (by decide)).x⟩
  · rw [pIf_f c1] at hc hm
    obtain ⟨rfl, rfl⟩ := hc
    obtain ⟨rfl, rfl⟩ := hm
    exact ⟨rfl, (h.ref (k := 0) (by decide)).x⟩
end ST2
