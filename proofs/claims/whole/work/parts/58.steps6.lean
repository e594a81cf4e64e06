section ST6
variable {n cnt mc : Nat} {A B A' B' : Mm}
/-! acts -/
theorem r8_eq (m pc x : Int32) : ∀ kk a : Nat, kk < 7 → a < 3 → actR kk a m pc x = r8 kk a m pc x := by
  intro kk a hk ha
  rcases (show kk = 0 ∨ kk = 1 ∨ kk = 2 ∨ kk = 3 ∨ kk = 4 ∨ kk = 5 ∨ kk = 6 by omega) with rfl | rfl | rfl | rfl | rfl | rfl | rfl <;> rcases (show a = 0 ∨ a = 1 ∨ a = 2 by omega) with rfl | rfl | rfl <;> rfl
theorem trs_o {k : Nat} (hk : k ≠ 103 ∧ k ≠ 104) : ∀ (T : List Int32) (r : Nat) (M : Mm), (trs r T M).1 k = M.1 k
  | [], _, _ => rfl
  | b :: T, r, M => (trs_o hk T (r + 1) (ntM b r M)).trans (by unfold ntM; rw [mI_other hk.1, mI_other hk.2])
theorem trs_2 : ∀ (T : List Int32) (r : Nat) (M : Mm), (trs r T M).2 = M.2
  | [], _, _ => rfl
  | b :: T, r, M => trs_2 T (r + 1) (ntM b r M)
theorem tr8_2 : ∀ (T : List Int32) (r : Nat) (M : Mm), (tr8 r T M).2 = M.2
  | [], _, _ => rfl
  | b :: T, r, M => tr8_2 T (r + 1) (bodM b r M)
theorem tr8_f {j : Nat} (hj : j ≠ 54) : ∀ (T : List Int32) (r : Nat) (M : Mm), (tr8 r T M).1 105 j = M.1 105 j
  | [], _, _ => rfl
  | b :: T, r, M => (tr8_f hj T (r + 1) (bodM b r M)).trans (by unfold bodM; rw [mI_self, upd_other hj, mI_other (by decide)])
theorem tr_eq : ∀ (T : List Int32) (r : Nat) (X Y : Mm), (∀ i, i < r → X.1 104 i = Y.1 139 i) → ∀ i, i < r + T.length → (trs r T X).1 104 i = (tr8 r T Y).1 139 i
  | [], r, X, Y, h, i, hi => h i hi
  | b :: T, r, X, Y, h, i, hi => by
    refine tr_eq T (r + 1) (ntM b r X) (bodM b r Y) (fun q hq => ?_) i (by rw [List.length_cons] at hi; omega)
    unfold ntM bodM
    rw [mI_other (show 104 ≠ 103 by decide), mI_self, mI_other (show 139 ≠ 105 by decide), mI_self]
    by_cases e : q = r
    · subst e; rw [upd_self, upd_self]
    · rw [upd_other e, upd_other e]; exact h q (by omega)
theorem J.ofA (h : J n cnt mc A B) (ha : JA A' B') (hA : ∀ q, q ≠ 103 → q ≠ 104 → A'.1 q = A.1 q) (hA2 : A'.2 = A.2) (hB : ∀ q, q ≠ 105 → q ≠ 139 → B'.1 q = B.1 q) (hB2 : B'.2 = B.2) (hf : ∀ j, j ≠ 54 → B'.1 105 j = B.1 105 j) : J n cnt mc A' B' := by
  obtain ⟨a, b, c, d, e, f, g, i⟩ := h
  exact ⟨a.fr (fun q hq => hA q (by omega) (by omega)) (fun t ht => by rw [hB _ (by omega) (by omega)]; exact agr.rf) (fun j hj => hf j (by omega)), b.fr (fun q hq => hA q (by omega) (by omega)) (fun q hq => hB q (by omega) (by omega)) (fun j hj => hf j (by omega)), c.fr (fun q hq => hA q (by omega) (by omega)) (hB 117 (by omega) (by omega)) (hf 2 (by omega)), d.fr (fun q hq => hA q (by omega) (by omega)) (fun k hk => by rw [hA2]) (fun q hq => hB q (by omega) (by omega)) (by rw [hB2]), e.fr (fun q hq => hA q (by omega) (by omega)) (hB 106 (by omega) (by omega)) (hf 6 (by omega)), ha, g.fr (congrFun (hA 0 (by omega) (by omega)) 13) (fun q hq => hA q (by omega) (by omega)) (hB 140 (by omega) (by omega)) (fun j hj => hf j (by omega)), i.fr (hB 126 (by omega) (by omega)) (hf 36 (by omega))⟩
theorem st_act (h : J n cnt mc A B) {x a y v w : Int32} (hc : S_act A x a y v A') (hm : S8_act B x a y w B') : v = w ∧ Jx A' B' := by
  unfold S_act at hc
  unfold S8_act at hm
  have a0 : (mI A 103 1 0).1 14 11 = A.1 14 11 := congrFun (mI_other (by decide)) 11
  have b0 : (mI B 105 54 0).1 105 0 = B.1 105 0 := by rw [mI_self, upd_other (by decide)]
  rw [a0] at hc
  rw [b0] at hm
  have clear0 : J n cnt mc (mI A 103 1 0) (mI B 105 54 0) := by
    refine h.ofA ⟨0, by omega, ?_, ?_, fun i hi => absurd hi (by omega)⟩ (fun q a b => mI_other a) rfl (fun q a b => mI_other a) rfl (fun j hj => by rw [mI_self, upd_other hj])
    · rw [mI_self, upd_self]; rfl
    · rw [mI_self, upd_self]; rfl
  have bad : (v = 0 ∧ A' = mI A 103 1 0) → (w = 0 ∧ B' = mI B 105 54 0) → v = w ∧ Jx A' B' := by
    rintro ⟨rfl, rfl⟩ ⟨rfl, rfl⟩
    exact ⟨rfl, clear0.x⟩
  have e2 : (2 : Int32).toInt = 2 := by decide
  have e3 : (3 : Int32).toInt = 3 := by decide
  by_cases c1 : ¬ x < 0 ∧ ¬ A.1 14 11 ≤ x
  · rw [pIf_t c1] at hc
    rw [pIf_t (h.has.mp c1)] at hm
    by_cases c2 : a < 0
    · rw [pIf_t c2] at hc hm; exact bad hc hm
    · rw [pIf_f c2] at hc hm
      have e : a < 3 ↔ a ≤ 2 := by rw [i32_lt, e3, Int32.le_iff_toInt_le, e2]; omega
      by_cases c3 : a ≤ 2
      · rw [pIf_t c3] at hm
        rw [pIf_t (e.mpr c3)] at hc
        obtain ⟨p, hp, rfl⟩ := h.hasn c1
        obtain ⟨t, ht, rfl⟩ : ∃ t, t < 3 ∧ a = nI t := by
          rcases z3 c2 c3 with rfl | rfl | rfl
          · exact ⟨0, by omega, rfl⟩
          · exact ⟨1, by omega, rfl⟩
          · exact ⟨2, by omega, rfl⟩
        have hn := h.n30
        obtain ⟨kk, hkk, ek⟩ := h.kd hp
        have ek16 : A.1 16 p = nI kk := (h.1.row (t := 0) (by omega) hp).trans ek
        have e19 : A.1 19 p = B.1 110 p := h.1.row (t := 3) (by omega) hp
        rw [nI_clamp (show p < 2 ^ 31 by omega), ek16, nI_clamp (show kk < 2 ^ 31 by omega), nI_clamp (show t < 2 ^ 31 by omega), e19, r8_eq _ _ _ kk t hkk ht] at hc
        rw [nI_clamp (show p < 2 ^ 31 by omega), ek, nI_clamp (show kk < 2 ^ 31 by omega), nI_clamp (show t < 2 ^ 31 by omega)] at hm
        have hlen := (cs_all (nI p) (B.1 110 p) y kk t hkk ht).2
        rw [r8_eq _ _ _ kk t hkk ht] at hlen
        generalize r8 kk t (nI p) (B.1 110 p) y = R at hc hm hlen
        obtain ⟨rfl, rfl⟩ := hc
        obtain ⟨rfl, rfl⟩ := hm
        refine ⟨rfl, (clear0.ofA (A' := trs 0 R.2 (perfM 14 p (mI A 103 1 0))) ⟨R.2.length, hlen, ?_, ?_, fun i hi => ?_⟩ (fun q a b => ?_) ((trs_2 _ _ _).trans rfl) (fun q a b => tr8_o ⟨a, b⟩ _ _ _) (tr8_2 _ _ _) (fun j hj => tr8_f hj _ _ _)).x⟩
        · have q := trs_1 R.2 0 (perfM 14 p (mI A 103 1 0)) (by unfold perfM; rw [mI_self, upd_other (by decide), mI_self, upd_other (by decide), mI_self, upd_other (by decide), mI_self, upd_self]; rfl)
          rw [Nat.zero_add] at q
          exact q
        · have q := tr8_r R.2 0 (mI B 105 54 0) (by rw [mI_self, upd_self]; rfl)
          rw [Nat.zero_add] at q
          exact q
        · exact tr_eq R.2 0 _ _ (fun q hq => absurd hq (by omega)) i (by omega)
        · rw [trs_o ⟨a, b⟩]
          unfold perfM
          rw [mI_other a, mI_other a, mI_other a]
      · rw [pIf_f c3] at hm
        rw [pIf_f (fun z => c3 (e.mp z))] at hc
        exact bad hc hm
  · rw [pIf_f c1] at hc
    rw [pIf_f (fun z => c1 (h.has.mpr z))] at hm
    exact bad hc hm
theorem st_trace (h : J n cnt mc A B) {x v w : Int32} (hc : S_trace A x v A') (hm : S8_trace B x w B') : v = w ∧ Jx A' B' := by
  unfold S_trace at hc
  unfold S8_trace at hm
  have none : (v = -1 ∧ A' = A) → (w = -1 ∧ B' = B) → v = w ∧ Jx A' B' := by
    rintro ⟨rfl, rfl⟩ ⟨rfl, rfl⟩
    exact ⟨rfl, h.x⟩
  obtain ⟨r, hr, r1, r2, r3⟩ := h.2.2.2.2.2.1
  by_cases c1 : x < 0
  · rw [pIf_t c1] at hc hm; exact none hc hm
  · rw [pIf_f c1] at hc hm
    by_cases c2 : x < 20
    · rw [pIf_t c2] at hc
      rw [pIf_f (Int32.not_le.mpr c2)] at hm
      rw [r1] at hc
      rw [r2] at hm
      by_cases c3 : x < nI r
      · rw [pIf_t c3] at hc
        rw [pIf_f (Int32.not_le.mpr c3)] at hm
        obtain ⟨q, hq, rfl⟩ : ∃ q, q < r ∧ x = nI q := by
          rcases pk_ix x (n := r) (by omega) with q | q | q
          · exact absurd q c1
          · exact absurd c3 (Int32.not_lt.mpr q)
          · exact q
        rw [nI_clamp (by omega)] at hc hm
        obtain ⟨rfl, rfl⟩ := hc
        obtain ⟨rfl, rfl⟩ := hm
        exact ⟨r3 q hq, h.x⟩
      · rw [pIf_f c3] at hc
        rw [pIf_t (Int32.not_lt.mp c3)] at hm
        exact none hc hm
    · rw [pIf_f c2] at hc
      rw [pIf_t (Int32.not_lt.mp c2)] at hm
      exact none hc hm
theorem st_status (h : J n cnt mc A B) {x v w : Int32} (hc : S_status A x v A') (hm : S8_status B x w B') : v = w ∧ Jx A' B' := by
  obtain ⟨rfl, rfl⟩ := hc
  obtain ⟨rfl, rfl⟩ := hm
  refine ⟨?_, h.x⟩
  obtain ⟨r, hr, r1, r2, r3⟩ := h.2.2.2.2.2.1
  have es : staI A' x = sta8 B' x := by
    unfold staI sta8
    rw [h.hn, h.bn, h.ac, h.bc, h.2.2.1.1, h.2.2.1.2.1, h.1.2.2.2.2.1, h.1.2.2.2.2.2.1, r1, r2]
  have e10 : (10 : Int32).toInt = 10 := by decide
  have e11 : (11 : Int32).toInt = 11 := by decide
  have e17 : (17 : Int32).toInt = 17 := by decide
  by_cases c1 : x < 11
  · rw [pIf_t c1, pIf_f (fun z => ?_)]
    · exact es
    · rw [i32_lt, e11] at c1
      rw [i32_lt, e10] at z
      omega
  · have c2 : 10 < x := by
      rw [i32_lt, e11] at c1
      rw [i32_lt, e10]
      omega
    rw [pIf_f c1, pIf_t c2]
    by_cases c3 : x ≤ 17
    · rw [pIf_t c3, pIf_t c3]
      obtain ⟨q, hq, rfl⟩ : ∃ q, q < 18 ∧ x = nI q := by
        rcases pk_ix x (n := 18) (by decide) with q | q | q
        · have e0 : (0 : Int32).toInt = 0 := by decide
          rw [i32_lt, e0] at q
          rw [i32_lt, e10] at c2
          omega
        · rw [Int32.le_iff_toInt_le, nI_toInt (by decide)] at q
          rw [Int32.le_iff_toInt_le, e17] at c3
          omega
        · exact q
      have hq2 : 11 ≤ q := by
        rw [i32_lt, e10, nI_toInt (by omega)] at c2
        omega
      have t : ∀ q, q < 18 → 11 ≤ q → (nI q - 10 - 1).toNatClampNeg = q - 11 ∧ (nI q - 10).toNatClampNeg = q - 11 + 1 := by decide +kernel
      rw [(t q hq hq2).1, (t q hq hq2).2]
      exact h.2.2.2.2.1.1 (q - 11) (by omega)
    · rw [pIf_f c3, pIf_f c3]
      exact es
/-! the image -/
theorem k_tab : ∀ t, t < 12 → ∀ s, s < 12 → t < s → kOf t + kLn t ≤ kOf s ∧ kRw t ≠ kRw s := by decide
theorem k_row : ∀ t, t < 12 → 107 ≤ kRw t ∧ kRw t ≤ 119 ∧ kRw t ≠ 118 := by decide
theorem kp_at {M : Mm} : ∀ T, T ≤ 12 → ∀ t, t < T → ∀ i, i < kLn t → kpR M T (kOf t + i) = M.1 (kRw t) i
  | 0, _, t, h, _, _ => absurd h (by omega)
  | S + 1, hS, t, ht, i, hi => by
    show ovI (kOf S) (kLn S) (M.1 (kRw S)) (kpR M S) (kOf t + i) = _
    unfold ovI
    by_cases e : t = S
    · subst e
      rw [pIf_t (by omega), show kOf t + i - kOf t = i by omega]
    · have := (k_tab t (by omega) S (by omega) (by omega)).1
      rw [pIf_f (by omega)]
      exact kp_at S (by omega) t (by omega) i hi
theorem bk_o {M : Mm} {k : Nat} (hk : ¬ (107 ≤ k ∧ k ≤ 119 ∧ k ≠ 118)) : ∀ T, T ≤ 12 → (bkM M T).1 k = M.1 k
  | 0, _ => rfl
  | S + 1, h => by
    have := k_row S (by omega)
    show (rI (bkM M S) (kRw S) _).1 k = _
    rw [rI_other (by omega)]
    exact bk_o hk S (by omega)
theorem bk_2 {M : Mm} : ∀ T, (bkM M T).2 = M.2
  | 0 => rfl
  | S + 1 => bk_2 S
theorem bk_at {M : Mm} : ∀ T, T ≤ 12 → ∀ t, t < T → ∀ i, i < kLn t → (bkM M T).1 (kRw t) i = M.1 140 (kOf t + i)
  | 0, _, t, h, _, _ => absurd h (by omega)
  | S + 1, hS, t, ht, i, hi => by
    show (rI (bkM M S) (kRw S) (upto ((bkM M S).1 (kRw S)) (fun i => (bkM M S).1 140 (kOf S + i)) (kLn S))).1 (kRw t) i = _
    by_cases e : t = S
    · subst e
      rw [rI_self, upto_lt hi, bk_o (by omega) t (by omega)]
    · rw [rI_other (k_tab t (by omega) S (by omega) (by omega)).2]
      exact bk_at S (by omega) t (by omega) i hi
theorem im_o {q : Nat} (h : q ≠ 105 ∧ q ≠ 140) : (imM B).1 q = B.1 q := by
  unfold imM
  rw [rI_other h.2]
  unfold imP
  rw [mI_other h.1, mI_other h.1, mI_other h.1, mI_other h.1, mI_other h.1, mI_other h.1, mI_other h.1, mI_other h.1]
theorem imP_o {q : Nat} (h : q ≠ 105) : (imP B).1 q = B.1 q := by
  unfold imP
  rw [mI_other h, mI_other h, mI_other h, mI_other h, mI_other h, mI_other h, mI_other h, mI_other h]
theorem im_f {j : Nat} (hj : ¬ (55 ≤ j ∧ j ≤ 62)) : (imM B).1 105 j = B.1 105 j := by
  unfold imM
  rw [rI_other (by decide)]
  unfold imP
  rw [mI_self, upd_other (by omega), mI_self, upd_other (by omega), mI_self, upd_other (by omega), mI_self, upd_other (by omega), mI_self, upd_other (by omega), mI_self, upd_other (by omega), mI_self, upd_other (by omega), mI_self, upd_other (by omega)]
theorem im_v : (imM B).1 105 55 = B.1 105 3 ∧ (imM B).1 105 56 = B.1 105 0 ∧ (imM B).1 105 57 = B.1 105 1 ∧ (imM B).1 105 58 = B.1 105 2 ∧ (imM B).1 105 59 = B.1 105 4 ∧ (imM B).1 105 60 = B.1 105 5 ∧ (imM B).1 105 61 = B.1 105 7 ∧ (imM B).1 105 62 = B.1 105 8 := by
  unfold imM
  rw [rI_other (show 105 ≠ 140 by decide)]
  unfold imP
  refine ⟨?_, ?_, ?_, ?_, ?_, ?_, ?_, ?_⟩
  · rw [mI_self, upd_other (by decide), mI_self, upd_other (by decide), mI_self, upd_other (by decide), mI_self, upd_other (by decide), mI_self, upd_other (by decide), mI_self, upd_other (by decide), mI_self, upd_other (by decide), mI_self, upd_self]
  · rw [mI_self, upd_other (by decide), mI_self, upd_other (by decide), mI_self, upd_other (by decide), mI_self, upd_other (by decide), mI_self, upd_other (by decide), mI_self, upd_other (by decide), mI_self, upd_self]
  · rw [mI_self, upd_other (by decide), mI_self, upd_other (by decide), mI_self, upd_other (by decide), mI_self, upd_other (by decide), mI_self, upd_other (by decide), mI_self, upd_self]
  · rw [mI_self, upd_other (by decide), mI_self, upd_other (by decide), mI_self, upd_other (by decide), mI_self, upd_other (by decide), mI_self, upd_self]
  · rw [mI_self, upd_other (by decide), mI_self, upd_other (by decide), mI_self, upd_other (by decide), mI_self, upd_self]
  · rw [mI_self, upd_other (by decide), mI_self, upd_other (by decide), mI_self, upd_self]
  · rw [mI_self, upd_other (by decide), mI_self, upd_self]
  · rw [mI_self, upd_self]
theorem im_k {t i : Nat} (ht : t < 12) (hi : i < kLn t) : (imM B).1 140 (kOf t + i) = B.1 (kRw t) i := by
  unfold imM
  rw [rI_self, kp_at 12 (by omega) t ht i hi, imP_o (by have := k_row t ht; omega)]
theorem k10 : ∀ t, t < 10 → kOf t = 30 * t ∧ kLn t = 30 ∧ kRw t = 107 + t := by decide
theorem cpy_at {f g : Nat → Int32} {N j : Nat} (hj : j < N) : va_cpy f g 0 0 N j = f j := by
  unfold va_cpy
  rw [if_pos (by omega)]
  congr 1
  omega
theorem st_image (h : J n cnt mc A B) {v : Int32} (hc : S_image A v A') : v = B.1 105 3 ∧ Jx A' (imM B) := by
  obtain ⟨M1, M2, ⟨s1, r1, f1⟩, ⟨s2, r2, b1, b2⟩, rfl, rfl⟩ := hc
  have oA : ∀ q, q ≠ 0 → ¬ (q = 29 ∨ (31 ≤ q ∧ q ≤ 40)) → ¬ (q = 87 ∨ (89 ≤ q ∧ q ≤ 95)) → q ≠ 98 → q ≠ 99 → (mI (mI (rI M2 (98 + 1) (va_cpy (M2.1 (96 + 1)) (M2.1 (98 + 1)) 0 0 8)) 98 1 (M2.1 96 1)) 0 13 1).1 q = A.1 q := fun q a b c d e => by
    rw [mI_other a, mI_other d, rI_other (by omega), s2.2 q (by omega), s1.2 q (by omega)]
  have o29 : (mI (mI (rI M2 (98 + 1) (va_cpy (M2.1 (96 + 1)) (M2.1 (98 + 1)) 0 0 8)) 98 1 (M2.1 96 1)) 0 13 1).1 29 = M1.1 29 := by rw [mI_other (by decide), mI_other (by decide), rI_other (by decide), s2.2 29 (by omega)]
  have o87 : (mI (mI (rI M2 (98 + 1) (va_cpy (M2.1 (96 + 1)) (M2.1 (98 + 1)) 0 0 8)) 98 1 (M2.1 96 1)) 0 13 1).1 87 = M2.1 87 := by rw [mI_other (by decide), mI_other (by decide), rI_other (by decide)]
  have o98 : (mI (mI (rI M2 (98 + 1) (va_cpy (M2.1 (96 + 1)) (M2.1 (98 + 1)) 0 0 8)) 98 1 (M2.1 96 1)) 0 13 1).1 98 1 = A.1 96 1 := by rw [mI_other (by decide), mI_self, upd_self, s2.2 96 (by omega), s1.2 96 (by omega)]
  have o99 : ∀ q, q < 8 → (mI (mI (rI M2 (98 + 1) (va_cpy (M2.1 (96 + 1)) (M2.1 (98 + 1)) 0 0 8)) 98 1 (M2.1 96 1)) 0 13 1).1 99 q = A.1 97 q := fun q hq => by
    rw [mI_other (by decide), mI_other (by decide)]
    show (rI M2 99 _).1 99 q = _
    rw [rI_self, cpy_at hq, s2.2 97 (by omega), s1.2 97 (by omega)]
  have oT : ∀ t, t < 10 → ∀ j, j < 30 → (mI (mI (rI M2 (98 + 1) (va_cpy (M2.1 (96 + 1)) (M2.1 (98 + 1)) 0 0 8)) 98 1 (M2.1 96 1)) 0 13 1).1 (31 + t) j = A.1 (16 + t) j := fun t ht j hj => by
    rw [mI_other (by omega), mI_other (by omega), rI_other (by omega), s2.2 (31 + t) (by omega)]
    show M1.1 (29 + 2 + t) j = _
    rw [r1 t ht, cpy_at hj]
  have oL : ∀ t, t < 7 → ∀ j, j < 7 → (mI (mI (rI M2 (98 + 1) (va_cpy (M2.1 (96 + 1)) (M2.1 (98 + 1)) 0 0 8)) 98 1 (M2.1 96 1)) 0 13 1).1 (89 + t) j = A.1 (80 + t) j := fun t ht j hj => by
    rw [mI_other (by omega), mI_other (by omega), rI_other (by omega)]
    show M2.1 (87 + 2 + t) j = _
    rw [r2 t ht, cpy_at hj, s1.2 (78 + 2 + t) (by omega)]
  have o09 : (mI (mI (rI M2 (98 + 1) (va_cpy (M2.1 (96 + 1)) (M2.1 (98 + 1)) 0 0 8)) 98 1 (M2.1 96 1)) 0 13 1).1 0 9 = A.1 0 9 := by
    rw [mI_self, upd_other (by decide), mI_other (by decide), rI_other (by decide), s2.2 0 (by omega), s1.2 0 (by omega)]
  have o013 : (mI (mI (rI M2 (98 + 1) (va_cpy (M2.1 (96 + 1)) (M2.1 (98 + 1)) 0 0 8)) 98 1 (M2.1 96 1)) 0 13 1).1 0 13 = 1 := by rw [mI_self, upd_self]
  have oA2 : (mI (mI (rI M2 (98 + 1) (va_cpy (M2.1 (96 + 1)) (M2.1 (98 + 1)) 0 0 8)) 98 1 (M2.1 96 1)) 0 13 1).2 = A.2 := s2.1.trans s1.1
  have m1_87 : M1.1 78 = A.1 78 := s1.2 78 (by omega)
  generalize hZ : (mI (mI (rI M2 (98 + 1) (va_cpy (M2.1 (96 + 1)) (M2.1 (98 + 1)) 0 0 8)) 98 1 (M2.1 96 1)) 0 13 1) = Z at *
  obtain ⟨a, b, c, d, e, f, g, i⟩ := h
  obtain ⟨i55, i56, i57, i58, i59, i60, i61, i62⟩ := im_v (B := B)
  obtain ⟨g0, g1, g2, ⟨gr, gck⟩, f2, f3, f4, f5, f6, f7⟩ := a
  refine ⟨by rw [oA 14 (by omega) (by omega) (by omega) (by omega) (by omega)]; exact f2, n, cnt, mc, JC.fr (A := A) (B := B) ⟨g0, g1, g2, ⟨gr, gck⟩, f2, f3, f4, f5, f6, f7⟩ (fun q hq => oA q (by omega) (by omega) (by omega) (by omega) (by omega)) (fun t ht => by rw [im_o (by omega)]; exact agr.rf) (fun j hj => im_f (by omega)), b.fr (fun q hq => oA q (by omega) (by omega) (by omega) (by omega) (by omega)) (fun q hq => im_o (by omega)) (fun j hj => im_f (by omega)), c.fr (fun q hq => oA q (by omega) (by omega) (by omega) (by omega) (by omega)) (im_o (by omega)) (im_f (by omega)), d.fr (fun q hq => oA q (by omega) (by omega) (by omega) (by omega) (by omega)) (fun k hk => by rw [oA2]) (fun q hq => im_o (by omega)) rfl, ⟨fun k hk => ?_, ?_⟩, f.fr (fun q hq => oA q (by omega) (by omega) (by omega) (by omega) (by omega)) (im_o (by omega)) (im_f (by omega)), Or.inr ⟨by rw [o013]; decide, ?_, ?_⟩, i.fr (im_o (by omega)) (im_f (by omega))⟩
  · rw [oA 1 (by omega) (by omega) (by omega) (by omega) (by omega), im_o (by omega)]; exact e.1 k hk
  · rw [o09, im_f (by omega)]; exact e.2
  · rw [i55]
    obtain ⟨k, hk, ek⟩ := f6
    rw [ek]
    have t : ∀ k, k ≤ 9999 → ¬ nI k = -1 := fun k hk q => by
      have := congrArg Int32.toInt q
      rw [nI_toInt (by omega), show (-1 : Int32).toInt = -1 from by decide] at this
      omega
    exact t k hk
  · obtain ⟨b0, b1', b3, ⟨b4, b5, b6, b7⟩, b8⟩ := b
    obtain ⟨c0, c1, c2, c3⟩ := c
    have gCD : CD n (fun t => A.1 (16 + t)) (fun t => B.1 (107 + t)) := ⟨gr, gck⟩
    refine ⟨n, cnt, mc, ?_, by rw [i56]; exact g1, g2, gCD.cg (fun t ht j hj => oT t ht j (by omega)) (fun t ht j hj => ?_), ⟨?_, ?_, ?_, ?_, ?_, ?_⟩, ?_, by rw [i57]; exact b1', b3, ⟨fun k hk i hi => ?_, fun i hi => ?_, ?_, ?_⟩, ?_, by rw [i58]; exact c1, c2, fun q hq => ?_⟩
    · rw [o29, f1 11 (by omega) (by omega)]; exact g0
    · show (imM B).1 140 (30 * t + j) = B.1 (107 + t) j
      obtain ⟨k1, k2, k3⟩ := k10 t ht
      rw [← k1, ← k3]
      exact im_k (by omega) (by omega)
    · rw [o29, f1 12 (by omega) (by omega), i55]; exact f2
    · rw [o29, f1 13 (by omega) (by omega), i59]; exact f3
    · rw [o29, f1 14 (by omega) (by omega), i61]; exact f4
    · rw [o29, f1 15 (by omega) (by omega), i62]; exact f5
    · rw [i55]; exact f6
    · rw [i62]; exact f7
    · rw [o87, b1, m1_87]; exact b0
    · show Z.1 (89 + (k + 1)) i = (imM B).1 140 (308 + (7 * k + i))
      rw [oL (k + 1) (by omega) i hi, show (imM B).1 140 (308 + (7 * k + i)) = B.1 119 (7 * k + i) from im_k (t := 11) (by omega) (show 7 * k + i < 42 by omega)]
      exact b4 k hk i hi
    · show Z.1 (89 + 0) i = lawsF i
      rw [oL 0 (by omega) i hi]
      exact b5 i hi
    · rw [o87, b2, m1_87, i60]; exact b6
    · rw [i60]; exact b7
    · rw [o98]; exact c0
    · show Z.1 99 q = (imM B).1 140 (300 + q) ∧ ∃ s, s < 48 ∧ (imM B).1 140 (300 + q) = nI s
      rw [o99 q (by omega), show (imM B).1 140 (300 + q) = B.1 117 q from im_k (t := 10) (by omega) (show q < 8 by omega)]
      exact c3 q hq
end ST6
