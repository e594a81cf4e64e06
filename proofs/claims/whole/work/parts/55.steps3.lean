section ST3
variable {n cnt mc : Nat} {A B A' B' : Mm}
/-! people come -/
theorem on_none {f : Nat → Int32} {s : Int32} {n : Nat} (hn : n ≤ 30) : onI f s n = -1 ↔ ¬ ∃ i, i < n ∧ f i = s := by
  unfold onI
  by_cases q : onN f s n < n
  · rw [pIf_t q]
    have e : f (onN f s n) = s := Classical.not_not.mp (whileN_stop (P := fun i => ¬ f i = s) n 0 (by unfold onN at q; omega))
    exact ⟨fun z => absurd z (nI_m1 (by omega)), fun z => absurd ⟨_, q, e⟩ z⟩
  · rw [pIf_f q]
    refine ⟨fun _ => ?_, fun _ => rfl⟩
    rintro ⟨i, hi, e⟩
    have hle := whileN_le (P := fun i => ¬ f i = s) n 0
    have := while_all (P := fun i => ¬ f i = s) n 0 i (by omega) (by unfold onN at q; omega)
    exact this e
theorem J.on (h : J n cnt mc A B) {s : Int32} : (∃ i, i < n ∧ A.1 (14 + 3) i = s) ↔ ∃ i, i < n ∧ B.1 108 i = s := ⟨fun ⟨i, a, b⟩ => ⟨i, a, (h.1.row (t := 1) (by omega) a).symm.trans b⟩, fun ⟨i, a, b⟩ => ⟨i, a, (h.1.row (t := 1) (by omega) a).trans b⟩⟩
theorem ok_eq (h : J n cnt mc A B) {k s l p a : Int32} : (okNew k s l p a ∧ ¬ (∃ i, i < n ∧ A.1 (14 + 3) i = s)) ↔ (((¬ k < 0 ∧ ¬ 6 < k) ∧ (¬ s < 0 ∧ ¬ 48 ≤ s)) ∧ ((¬ l < 0 ∧ ¬ 99 < l) ∧ (¬ p < 1 ∧ ¬ 9 < p) ∧ (¬ a < 0 ∧ ¬ 99 < a) ∧ onI (B.1 108) s n = -1)) := by
  unfold okNew
  rw [h.on, on_none h.n30, lt7']
  constructor
  · rintro ⟨⟨q1, q2, q3, q4, q5⟩, q6⟩
    exact ⟨⟨q1, q2⟩, q3, q4, q5, q6⟩
  · rintro ⟨⟨q1, q2⟩, q3, q4, q5, q6⟩
    exact ⟨⟨q1, q2, q3, q4, q5⟩, q6⟩
theorem com_r {k s l c a : Int32} : ∀ t, t < 10 → (comM n k s l c a B).1 (107 + t) = upd (B.1 (107 + t)) n (admV t k s l c a) := by
  intro t ht
  unfold comM
  rcases (show t = 0 ∨ t = 1 ∨ t = 2 ∨ t = 3 ∨ t = 4 ∨ t = 5 ∨ t = 6 ∨ t = 7 ∨ t = 8 ∨ t = 9 by omega) with rfl | rfl | rfl | rfl | rfl | rfl | rfl | rfl | rfl | rfl
  · rw [mI_other (by decide), mI_other (by decide), mI_other (by decide), mI_other (by decide), mI_other (by decide), mI_other (by decide), mI_other (by decide), mI_other (by decide), mI_other (by decide), mI_other (by decide)]; exact mI_self _ _ _ _
  · rw [mI_other (by decide), mI_other (by decide), mI_other (by decide), mI_other (by decide), mI_other (by decide), mI_other (by decide), mI_other (by decide), mI_other (by decide), mI_other (by decide)]; refine (mI_self _ _ _ _).trans ?_; rw [mI_other (by decide)]; rfl
  · rw [mI_other (by decide), mI_other (by decide), mI_other (by decide), mI_other (by decide), mI_other (by decide), mI_other (by decide), mI_other (by decide), mI_other (by decide)]; refine (mI_self _ _ _ _).trans ?_; rw [mI_other (by decide), mI_other (by decide)]; rfl
  · rw [mI_other (by decide), mI_other (by decide), mI_other (by decide), mI_other (by decide), mI_other (by decide), mI_other (by decide), mI_other (by decide)]; refine (mI_self _ _ _ _).trans ?_; rw [mI_other (by decide), mI_other (by decide), mI_other (by decide)]; rfl
  · rw [mI_other (by decide), mI_other (by decide), mI_other (by decide), mI_other (by decide), mI_other (by decide), mI_other (by decide)]; refine (mI_self _ _ _ _).trans ?_; rw [mI_other (by decide), mI_other (by decide), mI_other (by decide), mI_other (by decide)]; rfl
  · rw [mI_other (by decide), mI_other (by decide), mI_other (by decide), mI_other (by decide), mI_other (by decide)]; refine (mI_self _ _ _ _).trans ?_; rw [mI_other (by decide), mI_other (by decide), mI_other (by decide), mI_other (by decide), mI_other (by decide)]; rfl
  · rw [mI_other (by decide), mI_other (by decide), mI_other (by decide), mI_other (by decide)]; refine (mI_self _ _ _ _).trans ?_; rw [mI_other (by decide), mI_other (by decide), mI_other (by decide), mI_other (by decide), mI_other (by decide), mI_other (by decide)]; rfl
  · rw [mI_other (by decide), mI_other (by decide), mI_other (by decide)]; refine (mI_self _ _ _ _).trans ?_; rw [mI_other (by decide), mI_other (by decide), mI_other (by decide), mI_other (by decide), mI_other (by decide), mI_other (by decide), mI_other (by decide)]; rfl
  · rw [mI_other (by decide), mI_other (by decide)]; refine (mI_self _ _ _ _).trans ?_; rw [mI_other (by decide), mI_other (by decide), mI_other (by decide), mI_other (by decide), mI_other (by decide), mI_other (by decide), mI_other (by decide), mI_other (by decide)]; rfl
  · rw [mI_other (by decide)]; refine (mI_self _ _ _ _).trans ?_; rw [mI_other (by decide), mI_other (by decide), mI_other (by decide), mI_other (by decide), mI_other (by decide), mI_other (by decide), mI_other (by decide), mI_other (by decide), mI_other (by decide)]; rfl
theorem com_o {k s l c a : Int32} {q : Nat} (hq : q ≠ 105 ∧ ¬ (107 ≤ q ∧ q ≤ 116)) : (comM n k s l c a B).1 q = B.1 q := by
  unfold comM
  rw [mI_other hq.1, mI_other (by omega), mI_other (by omega), mI_other (by omega), mI_other (by omega), mI_other (by omega), mI_other (by omega), mI_other (by omega), mI_other (by omega), mI_other (by omega), mI_other (by omega)]
theorem com_f {k s l c a : Int32} {j : Nat} (hj : j ≠ 0) : (comM n k s l c a B).1 105 j = B.1 105 j := by
  unfold comM
  rw [mI_self, upd_other hj, mI_other (by decide), mI_other (by decide), mI_other (by decide), mI_other (by decide), mI_other (by decide), mI_other (by decide), mI_other (by decide), mI_other (by decide), mI_other (by decide), mI_other (by decide)]
theorem com_0 {k s l c a : Int32} : (comM n k s l c a B).1 105 0 = nI (n + 1) := by
  unfold comM
  rw [mI_self, upd_self]
theorem J.come (h : J n cnt mc A B) (hn : n < 30) {k s l c a : Int32} (ho : ((¬ k < 0 ∧ ¬ 6 < k) ∧ (¬ s < 0 ∧ ¬ 48 ≤ s)) ∧ ((¬ l < 0 ∧ ¬ 99 < l) ∧ (¬ c < 1 ∧ ¬ 9 < c) ∧ (¬ a < 0 ∧ ¬ 99 < a) ∧ onI (B.1 108) s n = -1)) (hq : admQ 14 n k s l c a A A') : J (n + 1) cnt mc A' (comM n k s l c a B) := by
  obtain ⟨hS, hf, h11, hr⟩ := hq
  obtain ⟨⟨k1, s1⟩, -, c1, -, o1⟩ := ho
  have e6 : (6 : Int32).toInt = 6 := by decide
  have e9 : (9 : Int32).toInt = 9 := by decide
  have e1 : (1 : Int32).toInt = 1 := by decide
  obtain ⟨kk, hkk, rfl⟩ : ∃ t, t < 7 ∧ k = nI t := lt7 k1.1 (Int32.not_lt.mp k1.2)
  obtain ⟨ss, hss, rfl⟩ : ∃ t, t < 48 ∧ s = nI t := by
    rcases pk_ix s (n := 48) (by decide) with q | q | q
    · exact absurd q s1.1
    · exact absurd q s1.2
    · exact q
  obtain ⟨cc, hcc, rfl⟩ : ∃ t, t < 10 ∧ c = nI t := by
    rcases pk_ix c (n := 10) (by decide) with q | q | q
    · refine absurd ?_ c1.1
      have e0 : (0 : Int32).toInt = 0 := by decide
      rw [i32_lt, e0] at q
      rw [i32_lt, e1]
      omega
    · have q2 := c1.2
      rw [i32_lt, e9] at q2
      rw [Int32.le_iff_toInt_le, nI_toInt (by decide)] at q
      omega
    · exact q
  have hc1 : 1 ≤ cc := by
    have q := c1.1
    rw [i32_lt, e1, nI_toInt (by omega)] at q
    omega
  have hnone := (on_none h.n30).mp o1
  obtain ⟨g0, g1, g2, ⟨gr, gk, gs, gp, gd, gm⟩, g5⟩ := h.1
  have row : ∀ t, t < 10 → (fun t => (comM n (nI kk) (nI ss) l (nI cc) a B).1 (107 + t)) t = upd (B.1 (107 + t)) n (admV t (nI kk) (nI ss) l (nI cc) a) := fun t ht => com_r t ht
  have hb : ∀ t, t < 10 → ∀ q, q < n + 1 → (comM n (nI kk) (nI ss) l (nI cc) a B).1 (107 + t) q = if q = n then admV t (nI kk) (nI ss) l (nI cc) a else B.1 (107 + t) q := fun t ht q hq => congrFun (com_r t ht) q
  refine h.ofC (by omega) ⟨h11, com_0, by omega, ⟨fun t ht j hj => ?_, fun q hq => ?_, fun q hq => ?_, fun q hq => ?_, fun p q hp hq e => ?_, fun q hq => ?_⟩, ?_⟩ (fun q q1 q2 => hS.2 q (by omega)) hS.1 (fun q q1 q2 q3 => com_o ⟨q1, q2⟩) rfl (fun j q1 q2 q3 => com_f (by omega))
  · show A'.1 (16 + t) j = (comM n (nI kk) (nI ss) l (nI cc) a B).1 (107 + t) j
    rw [com_r t ht, show A'.1 (16 + t) = _ from hr t ht]
    show (if j = n then _ else A.1 (16 + t) j) = (if j = n then _ else B.1 (107 + t) j)
    by_cases e : j = n
    · rw [if_pos e, if_pos e]
    · rw [if_neg e, if_neg e]
      exact gr t ht j (by omega)
  · show ∃ k, k < 7 ∧ (comM n (nI kk) (nI ss) l (nI cc) a B).1 (107 + 0) q = nI k
    rw [hb 0 (by omega) q hq]
    by_cases e : q = n
    · rw [if_pos e]; exact ⟨kk, hkk, rfl⟩
    · rw [if_neg e]; exact gk q (by omega)
  · show ∃ k, k < 48 ∧ (comM n (nI kk) (nI ss) l (nI cc) a B).1 (107 + 1) q = nI k
    rw [hb 1 (by omega) q hq]
    by_cases e : q = n
    · rw [if_pos e]; exact ⟨ss, hss, rfl⟩
    · rw [if_neg e]; exact gs q (by omega)
  · show ∃ k, 1 ≤ k ∧ k ≤ 9 ∧ (comM n (nI kk) (nI ss) l (nI cc) a B).1 (107 + 3) q = nI k
    rw [hb 3 (by omega) q hq]
    by_cases e : q = n
    · rw [if_pos e]; exact ⟨cc, hc1, by omega, rfl⟩
    · rw [if_neg e]; exact gp q (by omega)
  · have e' : (comM n (nI kk) (nI ss) l (nI cc) a B).1 (107 + 1) p = (comM n (nI kk) (nI ss) l (nI cc) a B).1 (107 + 1) q := e
    rw [hb 1 (by omega) p hp, hb 1 (by omega) q hq] at e'
    by_cases e1 : p = n
    · by_cases e2 : q = n
      · omega
      · rw [if_pos e1, if_neg e2] at e'
        exact absurd ⟨q, by omega, e'.symm⟩ hnone
    · by_cases e2 : q = n
      · rw [if_neg e1, if_pos e2] at e'
        exact absurd ⟨p, by omega, e'⟩ hnone
      · rw [if_neg e1, if_neg e2] at e'
        exact gd p q (by omega) (by omega) e'
  · show ((comM n (nI kk) (nI ss) l (nI cc) a B).1 (107 + 6) q = 0 ∨ (comM n (nI kk) (nI ss) l (nI cc) a B).1 (107 + 6) q = 1 ∨ (comM n (nI kk) (nI ss) l (nI cc) a B).1 (107 + 6) q = 2) ∧ (¬ (comM n (nI kk) (nI ss) l (nI cc) a B).1 (107 + 6) q = 1 → (comM n (nI kk) (nI ss) l (nI cc) a B).1 (107 + 7) q = 0)
    rw [hb 6 (by omega) q hq, hb 7 (by omega) q hq]
    by_cases e : q = n
    · rw [if_pos e, if_pos e]; exact ⟨Or.inl rfl, fun _ => rfl⟩
    · rw [if_neg e, if_neg e]; exact gm q (by omega)
  · rw [hf 12 (by decide), hf 13 (by decide), hf 14 (by decide), hf 15 (by decide), com_f (by decide), com_f (by decide), com_f (by decide), com_f (by decide)]
    exact g5
theorem st_person (h : J n cnt mc A B) {k s l c a v w : Int32} (hc : S_person A n k s l c a v A') (hm : S8_person B n k s l c a w B') : v = w ∧ Jx A' B' := by
  unfold S_person at hc
  unfold S8_person at hm
  have ho := ok_eq h (k := k) (s := s) (l := l) (p := c) (a := a)
  by_cases c1 : ¬ k < 0 ∧ ¬ 6 < k
  · rw [pIf_t (lt7'.mpr c1)] at hc
    by_cases c2 : ¬ s < 0 ∧ ¬ 48 ≤ s
    · rw [pIf_t c2] at hc
      rw [pIf_t ⟨c1, c2⟩] at hm
      by_cases c3 : (¬ l < 0 ∧ ¬ 99 < l) ∧ (¬ c < 1 ∧ ¬ 9 < c) ∧ (¬ a < 0 ∧ ¬ 99 < a) ∧ onI (B.1 108) s n = -1
      · rw [pIf_t c3] at hm
        rw [pIf_t (ho.mpr ⟨⟨c1, c2⟩, c3⟩)] at hc
        have := h.n30
        by_cases c4 : n = 30
        · rw [pIf_t c4] at hm
          rw [pIf_f (by omega)] at hc
          obtain ⟨rfl, rfl⟩ := hc
          obtain ⟨rfl, rfl⟩ := hm
          exact ⟨rfl, (h.ref (k := 6) (by decide)).x⟩
        · rw [pIf_f c4] at hm
          rw [pIf_t (by omega)] at hc
          obtain ⟨rfl, hq⟩ := hc
          obtain ⟨rfl, rfl⟩ := hm
          exact ⟨rfl, (h.come (by omega) ⟨⟨c1, c2⟩, c3⟩ hq).x⟩
      · rw [pIf_f c3] at hm
        rw [pIf_f (fun z => c3 (ho.mp z).2)] at hc
        obtain ⟨rfl, rfl⟩ := hc
        obtain ⟨rfl, rfl⟩ := hm
        exact ⟨rfl, (h.ref (k := 5) (by decide)).x⟩
    · rw [pIf_f c2] at hc
      rw [pIf_f (fun z => c2 z.2)] at hm
      obtain ⟨rfl, rfl⟩ := hc
      obtain ⟨rfl, rfl⟩ := hm
      exact ⟨rfl, (h.ref (k := 0) (by decide)).x⟩
  · rw [pIf_f (fun z => c1 (lt7'.mp z))] at hc
    rw [pIf_f (fun z => c1 z.1)] at hm
    obtain ⟨rfl, rfl⟩ := hc
    obtain ⟨rfl, rfl⟩ := hm
    exact ⟨rfl, (h.ref (k := 0) (by decide)).x⟩
/-! people by a row -/
theorem el_it (h : J n cnt mc A B) {k z b : Nat} (hk : k < 8) (h1 : B.1 120 k = 1) (hz : B.1 122 k = nI z) (hz1 : z ≤ 100) (hb : b < z) : (elL A (nI k) (nI b)).toInt32 = it8 B k b := by
  rw [st_element h]
  unfold elL8 it8
  rw [pIf_t (shf_n hk), nI_clamp (show k < 2 ^ 31 by omega), pIf_t h1, pIf_f (fun q => by have := (nI_ltI (a := b) (b := 0) (by omega) (by omega)).mp q; omega), pIf_f (fun q => by rw [hz] at q; have := (nI_leI (a := z) (b := b) (by omega) (by omega)).mp q; omega), nI_clamp (by omega)]
theorem pplI_pre {s : Int32} {a : Nat} {X : Mm} : ∀ j, pplI n s a j A X → ∀ i, i ≤ j → ∃ Z, pplI n s a i A Z ∧ (i < j → ∃ Z', S_admitFrom (n + i) Z s (nI (a + i * 5)) 1 Z')
  | 0, h, i, hi => by
    have e : i = 0 := by omega
    subst e
    exact ⟨X, h, fun q => absurd q (by omega)⟩
  | j + 1, ⟨Y, h1, h2⟩, i, hi => by
    by_cases e : i = j + 1
    · subst e
      exact ⟨X, ⟨Y, h1, h2⟩, fun q => absurd q (by omega)⟩
    · by_cases e2 : i = j
      · subst e2
        exact ⟨Y, h1, fun _ => ⟨X, h2⟩⟩
      · obtain ⟨Z, z1, z2⟩ := pplI_pre j h1 i (by omega)
        exact ⟨Z, z1, fun _ => z2 (by omega)⟩
theorem ppl8_pre {k a : Nat} {X : Mm} : ∀ j, ppl8 n k a j B X → ∀ i, i ≤ j → ∃ Z, ppl8 n k a i B Z ∧ (i < j → adm8P (n + i) Z k (a + i * 5))
  | 0, h, i, hi => by
    have e : i = 0 := by omega
    subst e
    exact ⟨X, h, fun q => absurd q (by omega)⟩
  | j + 1, ⟨Y, h1, h2, h3⟩, i, hi => by
    by_cases e : i = j + 1
    · subst e
      exact ⟨X, ⟨Y, h1, h2, h3⟩, fun q => absurd q (by omega)⟩
    · by_cases e2 : i = j
      · subst e2
        exact ⟨Y, h1, fun _ => h2⟩
      · obtain ⟨Z, z1, z2⟩ := ppl8_pre j h1 i (by omega)
        exact ⟨Z, z1, fun _ => z2 (by omega)⟩
theorem com8_sh {k b : Nat} {q : Nat} (hq : q ≠ 105 ∧ ¬ (107 ≤ q ∧ q ≤ 116)) : (com8 n B k b).1 q = B.1 q := com_o hq
/-- one that may come, by the row -/
theorem adm_eq (h : J n cnt mc A B) {k z b : Nat} (hk : k < 8) (h1 : B.1 120 k = 1) (hz : B.1 122 k = nI z) (hz1 : z ≤ 100) (hb : b + 5 ≤ z) {v : Int32} (hc : S_admitFrom n A (nI k) (nI b) v A') : (v = 1 ∧ adm8P n B k b ∧ J (n + 1) cnt mc A' (com8 n B k b)) ∨ (v = 0 ∧ ¬ adm8P n B k b ∧ A' = A) := by
  unfold S_admitFrom at hc
  have e0 := el_it h hk h1 hz hz1 (b := b) (by omega)
  have e1 := el_it h hk h1 hz hz1 (b := b + 1) (by omega)
  have e2 := el_it h hk h1 hz hz1 (b := b + 2) (by omega)
  have e3 := el_it h hk h1 hz hz1 (b := b + 3) (by omega)
  have e4 := el_it h hk h1 hz hz1 (b := b + 4) (by omega)
  rw [nI_a1, nI_a2, nI_a3, nI_a4, e0, e1, e2, e3, e4] at hc
  have ho := ok_eq h (k := it8 B k b) (s := it8 B k (b + 1)) (l := it8 B k (b + 2)) (p := it8 B k (b + 3)) (a := it8 B k (b + 4))
  have hn := h.n30
  by_cases c1 : n < 30
  · rw [pIf_t c1] at hc
    by_cases c2 : okNew (it8 B k b) (it8 B k (b + 1)) (it8 B k (b + 2)) (it8 B k (b + 3)) (it8 B k (b + 4)) ∧ ¬ ∃ j, j < n ∧ A.1 (14 + 3) j = it8 B k (b + 1)
    · rw [pIf_t c2] at hc
      have q := ho.mp c2
      exact Or.inl ⟨hc.1, ⟨by omega, q.1, q.2⟩, h.come c1 q hc.2⟩
    · rw [pIf_f c2] at hc
      exact Or.inr ⟨hc.1, fun q => c2 (ho.mpr ⟨q.2.1, q.2.2⟩), hc.2⟩
  · rw [pIf_f c1] at hc
    exact Or.inr ⟨hc.1, fun q => q.1 (by omega), hc.2⟩
theorem ppl_J (h : J n cnt mc A B) {k z a : Nat} (hk : k < 8) (h1 : B.1 120 k = 1) (hz : B.1 122 k = nI z) (hz1 : z ≤ 100) : ∀ j X Y, a + j * 5 ≤ z → pplI n (nI k) a j A X → ppl8 n k a j B Y → J (n + j) cnt mc X Y ∧ Y.1 120 = B.1 120 ∧ Y.1 122 = B.1 122
  | 0, X, Y, _, hX, hY => by
    have e1 : X = A := hX
    have e2 : Y = B := hY
    subst e1 e2
    exact ⟨h, rfl, rfl⟩
  | j + 1, X, Y, hj, ⟨X0, x1, x2⟩, ⟨Y0, y1, y2, y3⟩ => by
    obtain ⟨g, g1, g2⟩ := ppl_J h hk h1 hz hz1 j X0 Y0 (by omega) x1 y1
    rcases adm_eq g hk (by rw [g1]; exact h1) (by rw [g2]; exact hz) hz1 (b := a + j * 5) (by omega) x2 with ⟨-, -, q⟩ | ⟨q, -⟩
    · subst y3
      exact ⟨q, by rw [com8_sh (by decide)]; exact g1, by rw [com8_sh (by decide)]; exact g2⟩
    · exact absurd q (by decide)
theorem st_people (h : J n cnt mc A B) {s i m v w : Int32} (hc : S_people A n s i m v A') (hm : S8_people B n s i m w B') : v = w ∧ Jx A' B' := by
  unfold S_people at hc
  unfold S8_people at hm
  rw [h.rr] at hc
  by_cases c : wan8 B s = 0
  · rw [pIf_t c] at hc hm
    obtain ⟨k, hk, rfl⟩ := wan_k c
    obtain ⟨c1, c2, c3⟩ := wan_0 hk c
    have c4 := h.one hk c2 c3
    rw [nI_clamp (show k < 2 ^ 31 by omega)] at hm
    obtain ⟨⟨z, y1, y2, y3⟩, -⟩ := h.2.2.2.1 k hk
    by_cases d1 : m < 0
    · rw [pIf_t d1] at hc hm
      obtain ⟨rfl, rfl⟩ := hc
      obtain ⟨rfl, rfl⟩ := hm
      exact ⟨rfl, (h.ref (k := 3) (by decide)).x⟩
    · rw [pIf_f d1] at hc hm
      have w1 := part_iff (i := i) hk y1 y2 ((h.h1 hk).mpr c4) d1
      rw [y3] at hm
      by_cases d2 : i < 0
      · rw [pIf_t d2] at hm
        rw [pIf_f (fun z => (w1.mp z).1 d2)] at hc
        obtain ⟨rfl, rfl⟩ := hc
        obtain ⟨rfl, rfl⟩ := hm
        exact ⟨rfl, (h.ref (k := 4) (by decide)).x⟩
      · rw [pIf_f d2] at hm
        by_cases d3 : i ≤ nI z - m
        · rw [pIf_t d3] at hm
          have u := w1.mpr ⟨d2, Int32.not_lt.mpr d3⟩
          rw [pIf_t u] at hc
          by_cases d4 : m - m / 5 * 5 = 0
          · rw [pIf_t d4] at hc hm
            obtain ⟨k', z', a, m', hk', hz', hs', e1, rfl, rfl, hz4⟩ := partP_n h.sz u
            have ek := (nI_eq (a := k) (b := k') (by omega) (by omega)).mp e1
            subst ek
            have ez := (nI_eq (a := z) (b := z') (by omega) (by omega)).mp (y2.symm.trans hz4)
            subst ez
            rw [nI_clamp (show a < 2 ^ 31 by omega), nI_clamp (show m' < 2 ^ 31 by omega)] at hc hm
            obtain ⟨j, X, x1, rfl, x3, x4⟩ := hc
            obtain ⟨j2, q1, q2, rfl, q4⟩ := hm
            have lim : ∀ i, i ≤ m' / 5 → a + i * 5 ≤ z := fun i hi => by omega
            have ej : j = j2 := by
              rcases Nat.lt_trichotomy j j2 with g | g | g
              · exfalso
                obtain ⟨Z, z1, z2⟩ := ppl8_pre j2 q2 j (by omega)
                obtain ⟨g1, g2, g3⟩ := ppl_J h hk c4 y3 y1 j X Z (lim j (by omega)) x1 z1
                rcases x4 with ⟨r1, r2⟩ | ⟨r1, r2⟩
                · omega
                · rcases adm_eq g1 hk (by rw [g2]; exact c4) (by rw [g3]; exact y3) y1 (b := a + j * 5) (by have := lim (j + 1) (by omega); omega) r2 with ⟨q, -⟩ | ⟨-, q, -⟩
                  · exact absurd q (by decide)
                  · exact q (z2 g)
              · exact g
              · exfalso
                obtain ⟨Z, z1, z2⟩ := pplI_pre j x1 j2 (by omega)
                obtain ⟨g1, g2, g3⟩ := ppl_J h hk c4 y3 y1 j2 Z B' (lim j2 (by omega)) z1 q2
                obtain ⟨Z', z3⟩ := z2 g
                rcases q4 with r | r
                · omega
                · rcases adm_eq g1 hk (by rw [g2]; exact c4) (by rw [g3]; exact y3) y1 (b := a + j2 * 5) (by have := lim (j2 + 1) (by omega); omega) z3 with ⟨-, q, -⟩ | ⟨q, -⟩
                  · exact r q
                  · exact absurd q (by decide)
            subst ej
            obtain ⟨g1, g2, g3⟩ := ppl_J h hk c4 y3 y1 j X B' (lim j (by omega)) x1 q2
            refine ⟨rfl, ?_⟩
            rcases x4 with ⟨-, rfl⟩ | ⟨r1, r2⟩
            · exact g1.x
            · rcases adm_eq g1 hk (by rw [g2]; exact c4) (by rw [g3]; exact y3) y1 (b := a + j * 5) (by have := lim (j + 1) (by omega); omega) r2 with ⟨q, -⟩ | ⟨-, -, rfl⟩
              · exact absurd q (by decide)
              · exact g1.x
          · rw [pIf_f d4] at hc hm
            obtain ⟨rfl, rfl⟩ := hc
            obtain ⟨rfl, rfl⟩ := hm
            exact ⟨rfl, (h.ref (k := 5) (by decide)).x⟩
        · rw [pIf_f d3] at hm
          rw [pIf_f (fun z => d3 (Int32.not_lt.mp (w1.mp z).2))] at hc
          obtain ⟨rfl, rfl⟩ := hc
          obtain ⟨rfl, rfl⟩ := hm
          exact ⟨rfl, (h.ref (k := 4) (by decide)).x⟩
  · rw [pIf_f c] at hc hm
    obtain ⟨rfl, rfl⟩ := hc
    obtain ⟨rfl, rfl⟩ := hm
    exact ⟨rfl, (h.refA (wan_v c)).x⟩
end ST3
