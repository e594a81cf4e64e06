section ST4
variable {n cnt mc : Nat} {A B A' B' : Mm}
theorem has_n (h : J n cnt mc A B) {p : Nat} (hp : p < n) : ¬ nI p < 0 ∧ ¬ A.1 14 11 ≤ nI p := by
  have := h.n30
  refine ⟨fun q => ?_, fun q => ?_⟩
  · have := (nI_ltI (a := p) (b := 0) (by omega) (by omega)).mp q; omega
  · rw [h.hn] at q
    have := (nI_leI (a := n) (b := p) (by omega) (by omega)).mp q; omega
theorem st_personOf (h : J n cnt mc A B) {x t v w : Int32} (hc : S_personOf A x t v A') (hm : S8_personOf B x t w B') : v = w ∧ Jx A' B' := by
  unfold S_personOf at hc
  unfold S8_personOf at hm
  have e10 : (10 : Int32).toInt = 10 := by decide
  have e9 : (9 : Int32).toInt = 9 := by decide
  by_cases c1 : ¬ x < 0 ∧ ¬ A.1 14 11 ≤ x
  · rw [pIf_t c1] at hc
    rw [pIf_t (h.has.mp c1)] at hm
    by_cases c2 : t < 0
    · rw [pIf_t c2] at hc hm
      obtain ⟨rfl, rfl⟩ := hc
      obtain ⟨rfl, rfl⟩ := hm
      exact ⟨rfl, (h.ref (k := 4) (by decide)).x⟩
    · rw [pIf_f c2] at hc hm
      have e : t < 10 ↔ t ≤ 9 := by
        rw [i32_lt, e10, Int32.le_iff_toInt_le, e9]
        omega
      by_cases c3 : t ≤ 9
      · rw [pIf_t c3] at hm
        rw [pIf_t (e.mpr c3)] at hc
        obtain ⟨p, hp, rfl⟩ := h.hasn c1
        obtain ⟨q, hq, rfl⟩ : ∃ q, q < 10 ∧ t = nI q := by
          rcases pk_ix t (n := 10) (by decide) with q | q | q
          · exact absurd q c2
          · rw [Int32.le_iff_toInt_le, e9] at c3
            rw [Int32.le_iff_toInt_le, nI_toInt (by decide)] at q
            omega
          · exact q
        have hn := h.n30
        rw [nI_clamp (show q < 2 ^ 31 by omega), nI_clamp (show p < 2 ^ 31 by omega)] at hc
        rw [nI_clamp (show p < 2 ^ 31 by omega)] at hm
        obtain ⟨rfl, rfl⟩ := hc
        obtain ⟨rfl, rfl⟩ := hm
        refine ⟨?_, h.x⟩
        have row := h.1.row (t := q) hq hp
        have tk := h.tk hp
        unfold pof8
        rcases (show q = 0 ∨ q = 1 ∨ q = 2 ∨ q = 3 ∨ q = 4 ∨ q = 5 ∨ q = 6 ∨ q = 7 ∨ q = 8 ∨ q = 9 by omega) with rfl | rfl | rfl | rfl | rfl | rfl | rfl | rfl | rfl | rfl
        · rw [pIf_t (by decide)]; exact row
        · rw [pIf_f (by decide), pIf_t (by decide)]; exact row
        · rw [pIf_f (by decide), pIf_f (by decide), pIf_t (by decide)]; exact row
        · rw [pIf_f (by decide), pIf_f (by decide), pIf_f (by decide), pIf_t (by decide)]; exact row
        · rw [pIf_f (by decide), pIf_f (by decide), pIf_f (by decide), pIf_f (by decide), pIf_t (by decide)]; exact row
        · rw [pIf_f (by decide), pIf_f (by decide), pIf_f (by decide), pIf_f (by decide), pIf_f (by decide), pIf_t (by decide)]; exact row
        · rw [pIf_f (by decide), pIf_f (by decide), pIf_f (by decide), pIf_f (by decide), pIf_f (by decide), pIf_f (by decide), pIf_t (by decide)]; exact row
        · rw [pIf_f (by decide), pIf_f (by decide), pIf_f (by decide), pIf_f (by decide), pIf_f (by decide), pIf_f (by decide), pIf_f (by decide), pIf_t (by decide)]; exact tk
        · rw [pIf_f (by decide), pIf_f (by decide), pIf_f (by decide), pIf_f (by decide), pIf_f (by decide), pIf_f (by decide), pIf_f (by decide), pIf_f (by decide), pIf_t (by decide)]; exact row
        · rw [pIf_f (by decide), pIf_f (by decide), pIf_f (by decide), pIf_f (by decide), pIf_f (by decide), pIf_f (by decide), pIf_f (by decide), pIf_f (by decide), pIf_f (by decide)]; exact row
      · rw [pIf_f c3] at hm
        rw [pIf_f (fun z => c3 (e.mp z))] at hc
        obtain ⟨rfl, rfl⟩ := hc
        obtain ⟨rfl, rfl⟩ := hm
        exact ⟨rfl, (h.ref (k := 4) (by decide)).x⟩
  · rw [pIf_f c1] at hc
    rw [pIf_f (fun z => c1 (h.has.mpr z))] at hm
    obtain ⟨rfl, rfl⟩ := hc
    obtain ⟨rfl, rfl⟩ := hm
    exact ⟨rfl, (h.ref (k := 4) (by decide)).x⟩
theorem st_move (h : J n cnt mc A B) {x s v w : Int32} (hc : S_move A n x s v A') (hm : S8_move B n x s w B') : v = w ∧ Jx A' B' := by
  unfold S_move at hc
  unfold S8_move at hm
  by_cases c1 : ¬ x < 0 ∧ ¬ A.1 14 11 ≤ x
  · rw [pIf_t c1] at hc
    rw [pIf_t (h.has.mp c1)] at hm
    by_cases c2 : ¬ s < 0 ∧ ¬ 48 ≤ s
    · rw [pIf_t c2] at hc hm
      have e := (on_none (f := B.1 108) (s := s) h.n30)
      by_cases c3 : onI (B.1 108) s n = -1
      · rw [pIf_t c3] at hm
        have none := e.mp c3
        rw [pIf_f (fun z => none (h.on.mp z))] at hc
        obtain ⟨p, hp, rfl⟩ := h.hasn c1
        have hn := h.n30
        rw [nI_clamp (show p < 2 ^ 31 by omega)] at hc hm
        obtain ⟨rfl, rfl⟩ := hc
        obtain ⟨rfl, rfl⟩ := hm
        refine ⟨h.1.row (t := 1) (by omega) hp, (h.set (t := 1) (by omega) ?_).x⟩
        obtain ⟨gk, gs, gp, gd, gm⟩ := h.1.2.2.2.1.2
        have o : ∀ t, t ≠ 1 → (mI B (107 + 1) p s).1 (107 + t) = B.1 (107 + t) := fun t ht => mI_other (by omega)
        have o1 : ∀ q, (mI B (107 + 1) p s).1 (107 + 1) q = if q = p then s else B.1 108 q := fun q => by rw [mI_self]; rfl
        refine ⟨fun q hq => ?_, fun q hq => ?_, fun q hq => ?_, fun q r hq hr e => ?_, fun q hq => ?_⟩
        · show ∃ k, k < 7 ∧ (mI B (107 + 1) p s).1 (107 + 0) q = nI k
          rw [o 0 (by omega)]; exact gk q hq
        · show ∃ k, k < 48 ∧ (mI B (107 + 1) p s).1 (107 + 1) q = nI k
          rw [o1]
          by_cases e : q = p
          · rw [if_pos e]
            rcases pk_ix s (n := 48) (by decide) with r | r | r
            · exact absurd r c2.1
            · exact absurd r c2.2
            · exact r
          · rw [if_neg e]; exact gs q hq
        · show ∃ k, 1 ≤ k ∧ k ≤ 9 ∧ (mI B (107 + 1) p s).1 (107 + 3) q = nI k
          rw [o 3 (by omega)]; exact gp q hq
        · have e' : (mI B (107 + 1) p s).1 (107 + 1) q = (mI B (107 + 1) p s).1 (107 + 1) r := e
          rw [o1, o1] at e'
          by_cases e1 : q = p
          · by_cases e2 : r = p
            · omega
            · rw [if_pos e1, if_neg e2] at e'
              exact absurd ⟨r, hr, e'.symm⟩ none
          · by_cases e2 : r = p
            · rw [if_neg e1, if_pos e2] at e'
              exact absurd ⟨q, hq, e'⟩ none
            · rw [if_neg e1, if_neg e2] at e'
              exact gd q r hq hr e'
        · show ((mI B (107 + 1) p s).1 (107 + 6) q = 0 ∨ (mI B (107 + 1) p s).1 (107 + 6) q = 1 ∨ (mI B (107 + 1) p s).1 (107 + 6) q = 2) ∧ (¬ (mI B (107 + 1) p s).1 (107 + 6) q = 1 → (mI B (107 + 1) p s).1 (107 + 7) q = 0)
          rw [o 6 (by omega), o 7 (by omega)]; exact gm q hq
      · rw [pIf_f c3] at hm
        rw [pIf_t (Classical.byContradiction (fun z => c3 (e.mpr (fun q => z (h.on.mpr q)))))] at hc
        obtain ⟨rfl, rfl⟩ := hc
        obtain ⟨rfl, rfl⟩ := hm
        exact ⟨rfl, (h.ref (k := 5) (by decide)).x⟩
    · rw [pIf_f c2] at hc hm
      obtain ⟨rfl, rfl⟩ := hc
      obtain ⟨rfl, rfl⟩ := hm
      exact ⟨rfl, (h.ref (k := 0) (by decide)).x⟩
  · rw [pIf_f c1] at hc
    rw [pIf_f (fun z => c1 (h.has.mpr z))] at hm
    obtain ⟨rfl, rfl⟩ := hc
    obtain ⟨rfl, rfl⟩ := hm
    exact ⟨rfl, (h.ref (k := 0) (by decide)).x⟩
theorem ckpace (h : JC n A B) {p : Nat} {y : Int32} (hy : ∃ k, 1 ≤ k ∧ k ≤ 9 ∧ y = nI k) : CK n (fun s => (mI B (107 + 3) p y).1 (107 + s)) := by
  obtain ⟨gk, gs, gp, gd, gm⟩ := h.2.2.2.1.2
  have o : ∀ t, t ≠ 3 → (mI B (107 + 3) p y).1 (107 + t) = B.1 (107 + t) := fun t ht => mI_other (by omega)
  refine ⟨fun q hq => ?_, fun q hq => ?_, fun q hq => ?_, fun q r hq hr e => ?_, fun q hq => ?_⟩
  · show ∃ k, k < 7 ∧ (mI B (107 + 3) p y).1 (107 + 0) q = nI k
    rw [o 0 (by omega)]; exact gk q hq
  · show ∃ k, k < 48 ∧ (mI B (107 + 3) p y).1 (107 + 1) q = nI k
    rw [o 1 (by omega)]; exact gs q hq
  · show ∃ k, 1 ≤ k ∧ k ≤ 9 ∧ (mI B (107 + 3) p y).1 (107 + 3) q = nI k
    rw [mI_self]
    show ∃ k, 1 ≤ k ∧ k ≤ 9 ∧ (if q = p then y else B.1 (107 + 3) q) = nI k
    by_cases e : q = p
    · rw [if_pos e]; exact hy
    · rw [if_neg e]; exact gp q hq
  · have e' : (mI B (107 + 3) p y).1 (107 + 1) q = (mI B (107 + 3) p y).1 (107 + 1) r := e
    rw [o 1 (by omega)] at e'
    exact gd q r hq hr e'
  · show ((mI B (107 + 3) p y).1 (107 + 6) q = 0 ∨ (mI B (107 + 3) p y).1 (107 + 6) q = 1 ∨ (mI B (107 + 3) p y).1 (107 + 6) q = 2) ∧ (¬ (mI B (107 + 3) p y).1 (107 + 6) q = 1 → (mI B (107 + 3) p y).1 (107 + 7) q = 0)
    rw [o 6 (by omega), o 7 (by omega)]; exact gm q hq
theorem st_alter (h : J n cnt mc A B) {x t y v w : Int32} (hc : S_alter A x t y v A') (hm : S8_alter B x t y w B') : v = w ∧ Jx A' B' := by
  unfold S_alter at hc
  unfold S8_alter at hm
  have bad : (v = -6 ∧ A' = rfx A 5) → (w = -6 ∧ B' = nox B 6) → v = w ∧ Jx A' B' := by
    rintro ⟨rfl, rfl⟩ ⟨rfl, rfl⟩
    exact ⟨rfl, (h.ref (k := 5) (by decide)).x⟩
  by_cases c1 : ¬ x < 0 ∧ ¬ A.1 14 11 ≤ x
  · rw [pIf_t c1] at hc
    rw [pIf_t (h.has.mp c1)] at hm
    obtain ⟨p, hp, rfl⟩ := h.hasn c1
    have hn := h.n30
    rw [nI_clamp (show p < 2 ^ 31 by omega)] at hc hm
    by_cases c2 : t < 0
    · rw [pIf_t c2] at hc hm; exact bad hc hm
    · rw [pIf_f c2] at hc hm
      by_cases c3 : 3 < t
      · rw [pIf_t c3] at hc hm; exact bad hc hm
      · rw [pIf_f c3] at hc hm
        obtain ⟨pp, hp1, hp9, ep⟩ := h.1.2.2.2.1.2.2.2.1 p hp
        have ep' : B.1 110 p = nI pp := ep
        have ea : A.1 (14 + 5) p = nI pp := (h.1.row (t := 3) (by omega) hp).trans ep
        have e0 : (0 : Int32).toInt = 0 := by decide
        have e1 : (1 : Int32).toInt = 1 := by decide
        have e9 : (9 : Int32).toInt = 9 := by decide
        by_cases d0 : t = 0
        · rw [pIf_t d0] at hc hm
          by_cases c4 : y < 0
          · rw [pIf_t c4] at hc hm; exact bad hc hm
          · rw [pIf_f c4] at hc hm
            by_cases c5 : 99 < y
            · rw [pIf_t c5] at hc hm; exact bad hc hm
            · rw [pIf_f c5] at hc hm
              obtain ⟨rfl, rfl⟩ := hc
              obtain ⟨rfl, rfl⟩ := hm
              exact ⟨h.1.row (t := 2) (by omega) hp, (h.set (t := 2) (by omega) (CK.free h.1 (by omega))).x⟩
        · rw [pIf_f d0] at hc hm
          by_cases d1 : t = 1
          · rw [pIf_t d1] at hc hm
            by_cases c4 : y < 1
            · rw [pIf_t c4] at hc
              by_cases c40 : y < 0
              · rw [pIf_t c40] at hm; exact bad hc hm
              · rw [pIf_f c40, pIf_t c4] at hm; exact bad hc hm
            · rw [pIf_f c4] at hc
              have c40 : ¬ y < 0 := by rw [i32_lt, e1] at c4; rw [i32_lt, e0]; omega
              rw [pIf_f c40, pIf_f c4] at hm
              by_cases c5 : 9 < y
              · rw [pIf_t c5] at hc hm; exact bad hc hm
              · rw [pIf_f c5] at hc hm
                have hy : ∃ k, 1 ≤ k ∧ k ≤ 9 ∧ y = nI k := by
                  rcases pk_ix y (n := 10) (by decide) with q | q | ⟨q, q1, q2⟩
                  · exact absurd q c40
                  · rw [i32_lt, e9] at c5
                    rw [Int32.le_iff_toInt_le, nI_toInt (by decide)] at q
                    omega
                  · refine ⟨q, ?_, by omega, q2⟩
                    rw [i32_lt, e1, q2, nI_toInt (by omega)] at c4
                    omega
                have em := modI_p (v := (mI B 110 p y).1 112 p) hy
                have row5 : (mI A (16 + 3) p y).1 21 p = (mI B 110 p y).1 112 p := by
                  rw [mI_other (by decide), mI_other (by decide)]
                  exact h.1.row (t := 5) (by omega) hp
                rw [← em] at hm
                rw [row5] at hc
                obtain ⟨rfl, rfl⟩ := hc
                obtain ⟨rfl, rfl⟩ := hm
                have h1 := h.set (t := 3) (p := p) (x := y) (by omega) (ckpace h.1 hy)
                exact ⟨h.1.row (t := 3) (by omega) hp, (h1.set (t := 5) (by omega) (CK.free h1.1 (by omega))).x⟩
          · rw [pIf_f d1] at hc hm
            by_cases d2 : t = 2
            · rw [pIf_t d2] at hc hm
              by_cases c4 : y < 0
              · rw [pIf_t c4] at hc hm; exact bad hc hm
              · rw [pIf_f c4] at hc hm
                by_cases c5 : 99 < y
                · rw [pIf_t c5] at hc hm; exact bad hc hm
                · rw [pIf_f c5] at hc hm
                  obtain ⟨rfl, rfl⟩ := hc
                  obtain ⟨rfl, rfl⟩ := hm
                  exact ⟨h.1.row (t := 4) (by omega) hp, (h.set (t := 4) (by omega) (CK.free h.1 (by omega))).x⟩
            · rw [pIf_f d2] at hc hm
              by_cases c4 : y < 0
              · rw [pIf_t c4] at hc hm; exact bad hc hm
              · rw [pIf_f c4] at hc hm
                have el : A.1 (14 + 5) p - 1 < y ↔ ¬ y < B.1 110 p := by
                  rw [ea, ep']
                  have t1 : nI pp - 1 = nI (pp - 1) := by
                    have tt : ∀ k, k ≤ 9 → 1 ≤ k → nI k - 1 = nI (k - 1) := by decide +kernel
                    exact tt pp hp9 hp1
                  rw [t1, i32_lt, i32_lt, nI_toInt (by omega), nI_toInt (by omega)]
                  omega
                by_cases c5 : y < B.1 110 p
                · rw [pIf_t c5] at hm
                  rw [pIf_f (fun z => el.mp z c5)] at hc
                  obtain ⟨rfl, rfl⟩ := hc
                  obtain ⟨rfl, rfl⟩ := hm
                  exact ⟨h.1.row (t := 5) (by omega) hp, (h.set (t := 5) (by omega) (CK.free h.1 (by omega))).x⟩
                · rw [pIf_f c5] at hm
                  rw [pIf_t (el.mpr c5)] at hc
                  exact bad hc hm
  · rw [pIf_f c1] at hc
    rw [pIf_f (fun z => c1 (h.has.mpr z))] at hm
    obtain ⟨rfl, rfl⟩ := hc
    obtain ⟨rfl, rfl⟩ := hm
    exact ⟨rfl, (h.ref (k := 0) (by decide)).x⟩
theorem st_glove (h : J n cnt mc A B) {x : Int32} {g : Prop} {v w : Int32} (hc : S_glove A x g v A') (hm : S8_glove B x g w B') : v = w ∧ Jx A' B' := by
  unfold S_glove at hc
  unfold S8_glove at hm
  by_cases c1 : ¬ x < 0 ∧ ¬ A.1 14 11 ≤ x
  · rw [pIf_t c1] at hc
    rw [pIf_t (h.has.mp c1)] at hm
    obtain ⟨p, hp, rfl⟩ := h.hasn c1
    have hn := h.n30
    rw [nI_clamp (show p < 2 ^ 31 by omega)] at hc hm
    rw [show A.1 25 p = B.1 116 p from h.1.row (t := 9) (by omega) hp] at hc
    by_cases c2 : B.1 116 p = b01 g
    · rw [pIf_t c2] at hc hm
      obtain ⟨rfl, rfl⟩ := hc
      obtain ⟨rfl, rfl⟩ := hm
      exact ⟨rfl, h.x⟩
    · rw [pIf_f c2] at hc hm
      obtain ⟨rfl, rfl⟩ := hc
      obtain ⟨rfl, rfl⟩ := hm
      exact ⟨rfl, (h.set (t := 9) (by omega) (CK.free h.1 (by omega))).x⟩
  · rw [pIf_f c1] at hc
    rw [pIf_f (fun z => c1 (h.has.mpr z))] at hm
    obtain ⟨rfl, rfl⟩ := hc
    obtain ⟨rfl, rfl⟩ := hm
    exact ⟨rfl, (h.ref (k := 0) (by decide)).x⟩
theorem ckmood (h : JC n A B) {p : Nat} : CK n (fun s => (mI B (107 + 6) p 1).1 (107 + s)) := by
  obtain ⟨gk, gs, gp, gd, gm⟩ := h.2.2.2.1.2
  have o : ∀ t, t ≠ 6 → (mI B (107 + 6) p 1).1 (107 + t) = B.1 (107 + t) := fun t ht => mI_other (by omega)
  refine ⟨fun q hq => ?_, fun q hq => ?_, fun q hq => ?_, fun q r hq hr e => ?_, fun q hq => ?_⟩
  · show ∃ k, k < 7 ∧ (mI B (107 + 6) p 1).1 (107 + 0) q = nI k
    rw [o 0 (by omega)]; exact gk q hq
  · show ∃ k, k < 48 ∧ (mI B (107 + 6) p 1).1 (107 + 1) q = nI k
    rw [o 1 (by omega)]; exact gs q hq
  · show ∃ k, 1 ≤ k ∧ k ≤ 9 ∧ (mI B (107 + 6) p 1).1 (107 + 3) q = nI k
    rw [o 3 (by omega)]; exact gp q hq
  · have e' : (mI B (107 + 6) p 1).1 (107 + 1) q = (mI B (107 + 6) p 1).1 (107 + 1) r := e
    rw [o 1 (by omega)] at e'
    exact gd q r hq hr e'
  · show ((mI B (107 + 6) p 1).1 (107 + 6) q = 0 ∨ (mI B (107 + 6) p 1).1 (107 + 6) q = 1 ∨ (mI B (107 + 6) p 1).1 (107 + 6) q = 2) ∧ (¬ (mI B (107 + 6) p 1).1 (107 + 6) q = 1 → (mI B (107 + 6) p 1).1 (107 + 7) q = 0)
    rw [mI_self, o 7 (by omega)]
    show ((if q = p then (1 : Int32) else B.1 (107 + 6) q) = 0 ∨ (if q = p then (1 : Int32) else B.1 (107 + 6) q) = 1 ∨ (if q = p then (1 : Int32) else B.1 (107 + 6) q) = 2) ∧ (¬ (if q = p then (1 : Int32) else B.1 (107 + 6) q) = 1 → B.1 (107 + 7) q = 0)
    by_cases e : q = p
    · rw [if_pos e]; exact ⟨Or.inr (Or.inl rfl), fun z => absurd rfl z⟩
    · rw [if_neg e]; exact gm q hq
theorem cklong (h : JC n A B) {p : Nat} : CK n (fun s => (mI B (107 + 7) p 0).1 (107 + s)) := by
  obtain ⟨gk, gs, gp, gd, gm⟩ := h.2.2.2.1.2
  have o : ∀ t, t ≠ 7 → (mI B (107 + 7) p 0).1 (107 + t) = B.1 (107 + t) := fun t ht => mI_other (by omega)
  refine ⟨fun q hq => ?_, fun q hq => ?_, fun q hq => ?_, fun q r hq hr e => ?_, fun q hq => ?_⟩
  · show ∃ k, k < 7 ∧ (mI B (107 + 7) p 0).1 (107 + 0) q = nI k
    rw [o 0 (by omega)]; exact gk q hq
  · show ∃ k, k < 48 ∧ (mI B (107 + 7) p 0).1 (107 + 1) q = nI k
    rw [o 1 (by omega)]; exact gs q hq
  · show ∃ k, 1 ≤ k ∧ k ≤ 9 ∧ (mI B (107 + 7) p 0).1 (107 + 3) q = nI k
    rw [o 3 (by omega)]; exact gp q hq
  · have e' : (mI B (107 + 7) p 0).1 (107 + 1) q = (mI B (107 + 7) p 0).1 (107 + 1) r := e
    rw [o 1 (by omega)] at e'
    exact gd q r hq hr e'
  · show ((mI B (107 + 7) p 0).1 (107 + 6) q = 0 ∨ (mI B (107 + 7) p 0).1 (107 + 6) q = 1 ∨ (mI B (107 + 7) p 0).1 (107 + 6) q = 2) ∧ (¬ (mI B (107 + 7) p 0).1 (107 + 6) q = 1 → (mI B (107 + 7) p 0).1 (107 + 7) q = 0)
    rw [mI_self, o 6 (by omega)]
    refine ⟨(gm q hq).1, fun z => ?_⟩
    show (if q = p then (0 : Int32) else B.1 (107 + 7) q) = 0
    by_cases e : q = p
    · rw [if_pos e]
    · rw [if_neg e]; exact (gm q hq).2 z
theorem st_begin (h : J n cnt mc A B) {x v w : Int32} (hc : S_begin A x v A') (hm : S8_begin B x w B') : v = w ∧ Jx A' B' := by
  unfold S_begin at hc
  unfold S8_begin at hm
  by_cases c1 : ¬ x < 0 ∧ ¬ A.1 14 11 ≤ x
  · rw [pIf_t c1] at hc
    rw [pIf_t (h.has.mp c1)] at hm
    obtain ⟨p, hp, rfl⟩ := h.hasn c1
    have hn := h.n30
    rw [nI_clamp (show p < 2 ^ 31 by omega)] at hc hm
    rw [show A.1 22 p = B.1 113 p from h.1.row (t := 6) (by omega) hp] at hc
    by_cases c2 : B.1 113 p = 0
    · rw [pIf_t c2] at hc hm
      obtain ⟨rfl, rfl⟩ := hc
      obtain ⟨rfl, rfl⟩ := hm
      have h1 := h.set (t := 6) (p := p) (x := 1) (by omega) (ckmood h.1)
      exact ⟨rfl, (h1.set (t := 7) (by omega) (cklong h1.1)).x⟩
    · rw [pIf_f c2] at hc hm
      obtain ⟨rfl, rfl⟩ := hc
      obtain ⟨rfl, rfl⟩ := hm
      exact ⟨rfl, (h.ref (k := 5) (by decide)).x⟩
  · rw [pIf_f c1] at hc
    rw [pIf_f (fun z => c1 (h.has.mpr z))] at hm
    obtain ⟨rfl, rfl⟩ := hc
    obtain ⟨rfl, rfl⟩ := hm
    exact ⟨rfl, (h.ref (k := 0) (by decide)).x⟩
/-! hush -/
theorem cnt_not {P : Nat → Prop} : ∀ n, n ≤ 1000 → nI n - nI (cntN n P) = nI (cntN n (fun i => ¬ P i))
  | 0, _ => by
    show nI 0 - nI 0 = nI 0
    decide
  | n + 1, h => by
    have ih := cnt_not (P := P) n (by omega)
    by_cases q : P n
    · rw [cntN_t q, cntN_f (P := fun i => ¬ P i) (fun z => z q), ← ih, nI_succ, nI_succ]
      grind
    · rw [cntN_f q, cntN_t (P := fun i => ¬ P i) q, nI_succ, nI_succ, ← ih]
      grind
theorem st_hush (h : J n cnt mc A B) {v w : Int32} (hc : S_hush A n v A') (hm : w = nI (cntN n (fun i => ¬ B.1 113 i = 0)) ∧ B' = mI (mI (mI (qui8 n B) 105 3 0) 105 7 0) 105 8 0) : v = w ∧ Jx A' B' := by
  obtain ⟨rfl, rfl⟩ := hc
  obtain ⟨rfl, rfl⟩ := hm
  have hn := h.n30
  have row6 : ∀ j, j < n → A.1 (14 + 8) j = B.1 113 j := fun j hj => h.1.row (t := 6) (by omega) hj
  refine ⟨?_, ?_⟩
  · rw [cnt_not n (by omega)]
    exact congrArg nI (cntN_cong (fun j hj => by rw [row6 j hj]))
  have oA : ∀ q, q ≠ 14 → q ≠ 21 → q ≠ 22 → q ≠ 23 → q ≠ 24 → (calmM 14 A).1 q = A.1 q := fun q a b c d e => calm_o ⟨a, b, c, d, e⟩
  have oB : ∀ q, q ≠ 105 → q ≠ 112 → q ≠ 113 → q ≠ 114 → q ≠ 115 → (mI (mI (mI (qui8 n B) 105 3 0) 105 7 0) 105 8 0).1 q = B.1 q := fun q a b c d e => by rw [mI_other a, mI_other a, mI_other a, qui8_o ⟨b, c, d, e⟩]
  have oF : ∀ j, j ≠ 3 → j ≠ 7 → j ≠ 8 → (mI (mI (mI (qui8 n B) 105 3 0) 105 7 0) 105 8 0).1 105 j = B.1 105 j := fun j a b c => by rw [mI_self, upd_other c, mI_self, upd_other b, mI_self, upd_other a, qui8_o (by decide)]
  have z : ∀ t, (t = 5 ∨ t = 6 ∨ t = 7 ∨ t = 8) → ∀ j, j < 30 → (calmM 14 A).1 (16 + t) j = 0 := by
    intro t ht j hj
    unfold calmM
    rcases ht with rfl | rfl | rfl | rfl
    · show (mI (mI (mI _ 14 12 0) 14 14 0) 14 15 0).1 21 j = 0
      rw [mI_other (by decide), mI_other (by decide), mI_other (by decide), rI_self]
      exact if_pos hj
    · show (mI (mI (mI _ 14 12 0) 14 14 0) 14 15 0).1 22 j = 0
      rw [mI_other (by decide), mI_other (by decide), mI_other (by decide), rI_other (by decide), rI_other (by decide), rI_other (by decide), rI_self]
      exact if_pos hj
    · show (mI (mI (mI _ 14 12 0) 14 14 0) 14 15 0).1 23 j = 0
      rw [mI_other (by decide), mI_other (by decide), mI_other (by decide), rI_other (by decide), rI_other (by decide), rI_self]
      exact if_pos hj
    · show (mI (mI (mI _ 14 12 0) 14 14 0) 14 15 0).1 24 j = 0
      rw [mI_other (by decide), mI_other (by decide), mI_other (by decide), rI_other (by decide), rI_self]
      exact if_pos hj
  have zb : ∀ t, (t = 5 ∨ t = 6 ∨ t = 7 ∨ t = 8) → ∀ j, j < n → (mI (mI (mI (qui8 n B) 105 3 0) 105 7 0) 105 8 0).1 (107 + t) j = 0 := by
    intro t ht j hj
    rw [mI_other (by omega), mI_other (by omega), mI_other (by omega)]
    unfold qui8
    rcases ht with rfl | rfl | rfl | rfl
    · show (rI _ 112 _).1 112 j = 0
      rw [rI_self]
      exact if_pos hj
    · show (rI (rI (rI (rI B 113 _) 114 _) 115 _) 112 _).1 113 j = 0
      rw [rI_other (by decide), rI_other (by decide), rI_other (by decide), rI_self]
      exact if_pos hj
    · show (rI (rI (rI (rI B 113 _) 114 _) 115 _) 112 _).1 114 j = 0
      rw [rI_other (by decide), rI_other (by decide), rI_self]
      exact if_pos hj
    · show (rI (rI (rI (rI B 113 _) 114 _) 115 _) 112 _).1 115 j = 0
      rw [rI_other (by decide), rI_self]
      exact if_pos hj
  obtain ⟨g0, g1, g2, ⟨gr, gk, gs, gp, gd, gm⟩, f1, f2, f3, f4, f5, f6⟩ := h.1
  refine (h.ofC (A' := calmM 14 A) (B' := mI (mI (mI (qui8 n B) 105 3 0) 105 7 0) 105 8 0) (Nat.le_refl n) ⟨?_, ?_, hn, ⟨fun t ht j hj => ?_, fun q hq => ?_, fun q hq => ?_, fun q hq => ?_, fun p q hp hq e => ?_, fun q hq => ?_⟩, ?_, ?_, ?_, ?_, ?_, ?_⟩ (fun q a b => oA q a (by omega) (by omega) (by omega) (by omega)) rfl (fun q a b c => oB q a (by omega) (by omega) (by omega) (by omega)) rfl (fun j a b c => oF j (by omega) (by omega) (by omega))).x
  · rw [calm_n (by decide)]; exact g0
  · rw [oF 0 (by decide) (by decide) (by decide)]; exact g1
  · show (calmM 14 A).1 (16 + t) j = (mI (mI (mI (qui8 n B) 105 3 0) 105 7 0) 105 8 0).1 (107 + t) j
    by_cases q : t = 5 ∨ t = 6 ∨ t = 7 ∨ t = 8
    · rw [z t q j (by omega), zb t q j hj]
    · rw [oA _ (by omega) (by omega) (by omega) (by omega) (by omega), oB _ (by omega) (by omega) (by omega) (by omega) (by omega)]
      exact gr t ht j hj
  · show ∃ k, k < 7 ∧ (mI (mI (mI (qui8 n B) 105 3 0) 105 7 0) 105 8 0).1 (107 + 0) q = nI k
    rw [oB _ (by omega) (by omega) (by omega) (by omega) (by omega)]; exact gk q hq
  · show ∃ k, k < 48 ∧ (mI (mI (mI (qui8 n B) 105 3 0) 105 7 0) 105 8 0).1 (107 + 1) q = nI k
    rw [oB _ (by omega) (by omega) (by omega) (by omega) (by omega)]; exact gs q hq
  · show ∃ k, 1 ≤ k ∧ k ≤ 9 ∧ (mI (mI (mI (qui8 n B) 105 3 0) 105 7 0) 105 8 0).1 (107 + 3) q = nI k
    rw [oB _ (by omega) (by omega) (by omega) (by omega) (by omega)]; exact gp q hq
  · have e' : (mI (mI (mI (qui8 n B) 105 3 0) 105 7 0) 105 8 0).1 (107 + 1) p = (mI (mI (mI (qui8 n B) 105 3 0) 105 7 0) 105 8 0).1 (107 + 1) q := e
    rw [oB _ (by omega) (by omega) (by omega) (by omega) (by omega)] at e'
    exact gd p q hp hq e'
  · show ((mI (mI (mI (qui8 n B) 105 3 0) 105 7 0) 105 8 0).1 (107 + 6) q = 0 ∨ (mI (mI (mI (qui8 n B) 105 3 0) 105 7 0) 105 8 0).1 (107 + 6) q = 1 ∨ (mI (mI (mI (qui8 n B) 105 3 0) 105 7 0) 105 8 0).1 (107 + 6) q = 2) ∧ (¬ (mI (mI (mI (qui8 n B) 105 3 0) 105 7 0) 105 8 0).1 (107 + 6) q = 1 → (mI (mI (mI (qui8 n B) 105 3 0) 105 7 0) 105 8 0).1 (107 + 7) q = 0)
    exact ⟨Or.inl (zb 6 (by omega) q hq), fun _ => zb 7 (by omega) q hq⟩
  · unfold calmM
    rw [mI_self, upd_other (by decide), mI_self, upd_other (by decide), mI_self, upd_self, mI_self, upd_other (by decide), mI_self, upd_other (by decide), mI_self, upd_self]
  · rw [calm_n (by decide), oF 4 (by decide) (by decide) (by decide)]; exact f2
  · unfold calmM
    rw [mI_self, upd_other (by decide), mI_self, upd_self, mI_self, upd_other (by decide), mI_self, upd_self]
  · unfold calmM
    rw [mI_self, upd_self, mI_self, upd_self]
  · refine ⟨0, by omega, ?_⟩
    rw [mI_self, upd_other (by decide), mI_self, upd_other (by decide), mI_self, upd_self]
    rfl
  · refine ⟨0, by omega, ?_⟩
    rw [mI_self, upd_self]
    rfl
end ST4
