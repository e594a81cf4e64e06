/-! the calls, one beside the other -/
def CK (n : Nat) (b : Nat → Nat → Int32) : Prop := (∀ q, q < n → ∃ k, k < 7 ∧ b 0 q = nI k) ∧ (∀ q, q < n → ∃ s, s < 48 ∧ b 1 q = nI s) ∧ (∀ q, q < n → ∃ k, 1 ≤ k ∧ k ≤ 9 ∧ b 3 q = nI k) ∧ (∀ p q, p < n → q < n → b 1 p = b 1 q → p = q) ∧ ∀ q, q < n → (b 6 q = 0 ∨ b 6 q = 1 ∨ b 6 q = 2) ∧ (¬ b 6 q = 1 → b 7 q = 0)
theorem CK.cg {n : Nat} {b b' : Nat → Nat → Int32} (h : CK n b) (hb : ∀ t, t = 0 ∨ t = 1 ∨ t = 3 ∨ t = 6 ∨ t = 7 → agr n (b' t) (b t)) : CK n b' := by
  obtain ⟨h2, h3, h4, h5, h6⟩ := h
  refine ⟨fun q hq => ?_, fun q hq => ?_, fun q hq => ?_, fun p q hp hq e => ?_, fun q hq => ?_⟩
  · rw [hb 0 (by omega) q hq]; exact h2 q hq
  · rw [hb 1 (by omega) q hq]; exact h3 q hq
  · rw [hb 3 (by omega) q hq]; exact h4 q hq
  · rw [hb 1 (by omega) q hq, hb 1 (by omega) p hp] at e; exact h5 p q hp hq e
  · rw [hb 6 (by omega) q hq, hb 7 (by omega) q hq]; exact h6 q hq
section ST
variable {n cnt mc : Nat} {A B A' B' : Mm}
theorem J.ofS (h : J n cnt mc A B) (hs : JS n A' B') (hA : ∀ q, q ≠ 3 → q ≠ 4 → A'.1 q = A.1 q) (hB : ∀ q, ¬ (120 ≤ q ∧ q ≤ 123) → B'.1 q = B.1 q) : J n cnt mc A' B' := by
  obtain ⟨a, b, c, d, e, f, g, i⟩ := h
  exact ⟨a.fr (fun q hq => hA q (by omega) (by omega)) (fun t ht => by rw [hB _ (by omega)]; exact agr.rf) (fun j hj => congrFun (hB 105 (by omega)) j), b.fr (fun q hq => hA q (by omega) (by omega)) (fun q hq => hB q (by omega)) (fun j hj => congrFun (hB 105 (by omega)) j), c.fr (fun q hq => hA q (by omega) (by omega)) (hB 117 (by omega)) (congrFun (hB 105 (by omega)) 2), hs, e.fr (fun q hq => hA q (by omega) (by omega)) (hB 106 (by omega)) (congrFun (hB 105 (by omega)) 6), f.fr (fun q hq => hA q (by omega) (by omega)) (hB 139 (by omega)) (congrFun (hB 105 (by omega)) 54), g.fr (congrFun (hA 0 (by omega) (by omega)) 13) (fun q hq => hA q (by omega) (by omega)) (hB 140 (by omega)) (fun j hj => congrFun (hB 105 (by omega)) j), i.fr (hB 126 (by omega)) (congrFun (hB 105 (by omega)) 36)⟩
theorem HD.mono {n n' : Nat} {x e s p : Int32} (hle : n ≤ n') (h : HD n x e s p) : HD n' x e s p := h.imp id (fun q => q.imp id (fun ⟨a, j, b, c, d⟩ => ⟨a, j, by omega, c, d⟩))
theorem JS.mono {n n' : Nat} (hle : n ≤ n') (h : JS n A B) : JS n' A B := fun k hk => ⟨(h k hk).1, (h k hk).2.1.mono hle, (h k hk).2.2⟩
theorem J.ofC {n' : Nat} (h : J n cnt mc A B) (hle : n ≤ n') (hc : JC n' A' B') (hA : ∀ q, q ≠ 14 → ¬ (16 ≤ q ∧ q ≤ 28) → A'.1 q = A.1 q) (hA2 : A'.2 = A.2) (hB : ∀ q, q ≠ 105 → ¬ (107 ≤ q ∧ q ≤ 116) → ¬ (128 ≤ q ∧ q ≤ 138) → B'.1 q = B.1 q) (hB2 : B'.2 = B.2) (hf : ∀ j, ¬ (j = 0 ∨ j = 3 ∨ j = 4 ∨ j = 7 ∨ j = 8) → ¬ (31 ≤ j ∧ j ≤ 35) → ¬ (47 ≤ j ∧ j ≤ 51) → B'.1 105 j = B.1 105 j) : J n' cnt mc A' B' := by
  obtain ⟨a, b, c, d, e, f, g, i⟩ := h
  exact ⟨hc, b.fr (fun q hq => hA q (by omega) (by omega)) (fun q hq => hB q (by omega) (by omega) (by omega)) (fun j hj => hf j (by omega) (by omega) (by omega)), c.fr (fun q hq => hA q (by omega) (by omega)) (hB 117 (by omega) (by omega) (by omega)) (hf 2 (by omega) (by omega) (by omega)), (d.fr (fun q hq => hA q (by omega) (by omega)) (fun k hk => by rw [hA2]) (fun q hq => hB q (by omega) (by omega) (by omega)) (by rw [hB2])).mono hle, e.fr (fun q hq => hA q (by omega) (by omega)) (hB 106 (by omega) (by omega) (by omega)) (hf 6 (by omega) (by omega) (by omega)), f.fr (fun q hq => hA q (by omega) (by omega)) (hB 139 (by omega) (by omega) (by omega)) (hf 54 (by omega) (by omega) (by omega)), g.fr (congrFun (hA 0 (by omega) (by omega)) 13) (fun q hq => hA q (by omega) (by omega)) (hB 140 (by omega) (by omega) (by omega)) (fun j hj => hf j (by omega) (by omega) (by omega)), i.fr (hB 126 (by omega) (by omega) (by omega)) (hf 36 (by omega) (by omega) (by omega))⟩
/-- one trait of one person -/
theorem JC.set (h : JC n A B) {t p : Nat} {x : Int32} (ht : t < 10) (hk : CK n (fun s => (mI B (107 + t) p x).1 (107 + s))) : JC n (mI A (16 + t) p x) (mI B (107 + t) p x) := by
  obtain ⟨h1, h2, h3, h4, h5⟩ := h
  have oA : (mI A (16 + t) p x).1 14 = A.1 14 := mI_other (by omega)
  have oB : (mI B (107 + t) p x).1 105 = B.1 105 := mI_other (by omega)
  refine ⟨by rw [oA]; exact h1, by rw [oB]; exact h2, h3, ⟨fun s hs j hj => ?_, hk⟩, by rw [oA, oB]; exact h5⟩
  show (mI A (16 + t) p x).1 (16 + s) j = (mI B (107 + t) p x).1 (107 + s) j
  by_cases e : s = t
  · subst e
    rw [mI_self, mI_self]
    show (if j = p then x else A.1 (16 + s) j) = (if j = p then x else B.1 (107 + s) j)
    rw [show A.1 (16 + s) j = B.1 (107 + s) j from h4.1 s hs j hj]
  · rw [mI_other (by omega), mI_other (by omega)]
    exact h4.1 s hs j hj
theorem CK.free (h : JC n A B) {t p : Nat} {x : Int32} (ht : t = 2 ∨ t = 4 ∨ t = 5 ∨ t = 8 ∨ t = 9) : CK n (fun s => (mI B (107 + t) p x).1 (107 + s)) := CK.cg (b := fun s => B.1 (107 + s)) h.2.2.2.1.2 (fun s hs => by
  show agr n ((mI B (107 + t) p x).1 (107 + s)) (B.1 (107 + s))
  rw [mI_other (by omega)]
  exact agr.rf)
theorem J.set (h : J n cnt mc A B) {t p : Nat} {x : Int32} (ht : t < 10) (hk : CK n (fun s => (mI B (107 + t) p x).1 (107 + s))) : J n cnt mc (mI A (16 + t) p x) (mI B (107 + t) p x) :=
  h.ofC (Nat.le_refl n) (h.1.set ht hk) (fun q a b => mI_other (by omega)) rfl (fun q a b c => mI_other (by omega)) rfl (fun j a b c => congrFun (mI_other (by omega)) j)
theorem J.has (h : J n cnt mc A B) {x : Int32} : (¬ x < 0 ∧ ¬ A.1 14 11 ≤ x) ↔ (¬ x < 0 ∧ ¬ B.1 105 0 ≤ x) := by rw [h.hn, h.bn]
theorem J.hasn (h : J n cnt mc A B) {x : Int32} (hx : ¬ x < 0 ∧ ¬ A.1 14 11 ≤ x) : ∃ p, p < n ∧ x = nI p := hasC h.hn h.n30 hx
theorem J.lw (h : J n cnt mc A B) {w : Int32} : (w = -1 ∨ (¬ w < 0 ∧ ¬ A.1 78 1 ≤ w)) ↔ (¬ w < -1 ∧ ¬ B.1 105 1 ≤ w) := by
  rw [h.ac, h.bc]
  have := h.c6
  have e1 : (-1 : Int32).toInt = -1 := by decide
  have e0 : (0 : Int32).toInt = 0 := by decide
  have ec := nI_toInt (n := cnt) (by omega)
  constructor
  · rintro (rfl | ⟨a, b⟩)
    · refine ⟨by decide, fun z => ?_⟩
      rw [Int32.le_iff_toInt_le, ec, e1] at z
      omega
    · refine ⟨fun z => a ?_, b⟩
      rw [i32_lt, e1] at z
      rw [i32_lt, e0]
      omega
  · rintro ⟨a, b⟩
    by_cases z : w < 0
    · refine Or.inl (i32_lit (n := -1) ?_ (-1) (by decide))
      rw [i32_lt, e1] at a
      rw [i32_lt, e0] at z
      omega
    · exact Or.inr ⟨z, b⟩
theorem J.row (h : J n cnt mc A B) {k : Nat} {o m : Int32} (hk : k < 8) (h1 : ¬ o < 0) (h2 : ¬ 3 < o) (h3 : ¬ m < 0) (h4 : ¬ 100 < m) : J n cnt mc (putRowM k o m A) (rowM8 k o m B) := by
  have e0 : (0 : Int32).toInt = 0 := by decide
  have e3 : (3 : Int32).toInt = 3 := by decide
  have e100 : (100 : Int32).toInt = 100 := by decide
  obtain ⟨t, ht, rfl⟩ : ∃ t, t < 4 ∧ o = nI t := by
    rcases pk_ix o (n := 4) (by decide) with q | q | q
    · exact absurd q h1
    · rw [i32_lt, e3] at h2; rw [Int32.le_iff_toInt_le, nI_toInt (by decide)] at q; omega
    · exact q
  obtain ⟨z, hz, rfl⟩ : ∃ z, z < 101 ∧ m = nI z := by
    rcases pk_ix m (n := 101) (by decide) with q | q | q
    · exact absurd q h3
    · rw [i32_lt, e100] at h4; rw [Int32.le_iff_toInt_le, nI_toInt (by decide)] at q; omega
    · exact q
  refine h.ofS (fun j hj => ?_) (fun q a b => ?_) (fun q a => ?_)
  · obtain ⟨⟨z0, p1, p2, p3⟩, p4, p5⟩ := h.2.2.2.1 j hj
    have a3 : (putRowM k (nI t) (nI z) A).1 3 = upd (A.1 3) k (100 + nI t) := by show (mI (mI A 3 k (100 + nI t)) 4 k (nI z)).1 3 = _; rw [mI_other (by decide), mI_self]
    have a4 : (putRowM k (nI t) (nI z) A).1 4 = upd (A.1 4) k (nI z) := by show (mI (mI A 3 k (100 + nI t)) 4 k (nI z)).1 4 = _; rw [mI_self, mI_other (by decide)]
    have b0 : (rowM8 k (nI t) (nI z) B).1 120 = upd (B.1 120) k 1 := by show (mI (mI (mI B 120 k 1) 121 k (nI t)) 122 k (nI z)).1 120 = _; rw [mI_other (by decide), mI_other (by decide), mI_self]
    have b1 : (rowM8 k (nI t) (nI z) B).1 121 = upd (B.1 121) k (nI t) := by show (mI (mI (mI B 120 k 1) 121 k (nI t)) 122 k (nI z)).1 121 = _; rw [mI_other (by decide), mI_self, mI_other (by decide)]
    have b2 : (rowM8 k (nI t) (nI z) B).1 122 = upd (B.1 122) k (nI z) := by show (mI (mI (mI B 120 k 1) 121 k (nI t)) 122 k (nI z)).1 122 = _; rw [mI_self, mI_other (by decide), mI_other (by decide)]
    have b3 : (rowM8 k (nI t) (nI z) B).1 123 = B.1 123 := by show (mI (mI (mI B 120 k 1) 121 k (nI t)) 122 k (nI z)).1 123 = _; rw [mI_other (by decide), mI_other (by decide), mI_other (by decide)]
    have b4 : (rowM8 k (nI t) (nI z) B).2 124 = czF k 100 (B.2 124) := rL_self _ _ _
    rw [a3, a4, b0, b1, b2, b3, b4]
    by_cases e : j = k
    · subst e
      have a6 : (putRowM j (nI t) (nI z) A).2 (6 + j) = fillL (A.2 (6 + j)) 100 0 := rL_self _ _ _
      rw [a6, upd_self, upd_self, upd_self, upd_self, upd_self]
      refine ⟨⟨z, by omega, rfl, rfl⟩, Or.inr (Or.inl ⟨rfl, t, ht, rfl, nI_add 100 t⟩), fun i hi => ?_⟩
      have e1 : fillL (A.2 (6 + j)) 100 0 i = 0 := if_pos hi
      rw [e1]
      exact (pIf_t ⟨by omega, by omega⟩).symm
    · have a6 : (putRowM k (nI t) (nI z) A).2 (6 + j) = A.2 (6 + j) := rL_o (by omega)
      rw [a6, upd_other e, upd_other e, upd_other e, upd_other e, upd_other e]
      refine ⟨⟨z0, p1, p2, p3⟩, p4, fun i hi => (p5 i hi).trans (pIf_f ?_).symm⟩
      omega
  · show (mI (mI A 3 k (100 + nI t)) 4 k (nI z)).1 q = _
    rw [mI_other b, mI_other a]
  · show (mI (mI (mI B 120 k 1) 121 k (nI t)) 122 k (nI z)).1 q = _
    rw [mI_other (by omega), mI_other (by omega), mI_other (by omega)]
theorem st_row {n cnt mc : Nat} {A A' B B' : Mm} (h : J n cnt mc A B) {s o m : Int32} {v w : Int32} (hc : S_row A s o m v A') (hm : S8_row B s o m w B') : v = w ∧ Jx A' B' := by
  unfold S_row at hc
  unfold S8_row at hm
  by_cases c1 : ¬ s < 0 ∧ ¬ 8 ≤ s
  · rw [pIf_t c1] at hc
    rw [pIf_t c1] at hm
    by_cases c2 : m < 0
    · rw [pIf_t c2] at hc
      rw [pIf_t c2] at hm
      obtain ⟨rfl, rfl⟩ := hc
      obtain ⟨rfl, rfl⟩ := hm
      exact ⟨by decide, (h.ref (k := 3) (by decide)).x⟩
    · rw [pIf_f c2] at hc
      rw [pIf_f c2] at hm
      by_cases c3 : o < 0
      · rw [pIf_t c3] at hc
        rw [pIf_t c3] at hm
        obtain ⟨rfl, rfl⟩ := hc
        obtain ⟨rfl, rfl⟩ := hm
        exact ⟨by decide, (h.ref (k := 5) (by decide)).x⟩
      · rw [pIf_f c3] at hc
        rw [pIf_f c3] at hm
        by_cases c4 : 3 < o
        · rw [pIf_t c4] at hc
          rw [pIf_t c4] at hm
          obtain ⟨rfl, rfl⟩ := hc
          obtain ⟨rfl, rfl⟩ := hm
          exact ⟨by decide, (h.ref (k := 5) (by decide)).x⟩
        · rw [pIf_f c4] at hc
          rw [pIf_f c4] at hm
          by_cases c5 : 100 < m
          · rw [pIf_t c5] at hc
            rw [pIf_t c5] at hm
            obtain ⟨rfl, rfl⟩ := hc
            obtain ⟨rfl, rfl⟩ := hm
            exact ⟨by decide, (h.ref (k := 6) (by decide)).x⟩
          · rw [pIf_f c5] at hc
            rw [pIf_f c5] at hm
            obtain ⟨rfl, rfl⟩ := hc
            obtain ⟨rfl, rfl⟩ := hm
            obtain ⟨k, hk, rfl⟩ := shf_k c1
            rw [nI_clamp (by omega)]
            exact ⟨rfl, (h.row hk c3 c4 c2 c5).x⟩
  · rw [pIf_f c1] at hc
    rw [pIf_f c1] at hm
    obtain ⟨rfl, rfl⟩ := hc
    obtain ⟨rfl, rfl⟩ := hm
    exact ⟨by decide, (h.ref (k := 0) (by decide)).x⟩
theorem wan_0 {B : Mm} {k : Nat} (hk : k < 8) (h : wan8 B (nI k) = 0) : (¬ nI k < 0 ∧ ¬ (8 : Int32) ≤ nI k) ∧ ¬ B.1 120 k = 2 ∧ ¬ B.1 120 k = 0 := by
  have c := shf_n hk
  refine ⟨c, ?_⟩
  unfold wan8 at h
  rw [pIf_t c, nI_clamp (by omega)] at h
  by_cases p : B.1 120 k = 2
  · rw [pIf_t p] at h; exact absurd h (by decide)
  · rw [pIf_f p] at h
    refine ⟨p, fun r => ?_⟩
    rw [pIf_t r] at h
    exact absurd h (by decide)
theorem J.one (h : J n cnt mc A B) {k : Nat} (hk : k < 8) (h2 : ¬ B.1 120 k = 2) (h0 : ¬ B.1 120 k = 0) : B.1 120 k = 1 := by
  rcases h.hel k hk with q | q | q
  · exact absurd q h0
  · exact q
  · exact absurd q.1 h2
theorem cut_eq (t : Int32) (x : Int64) : cutL t x = cut8 t x := by
  unfold cutL cut8
  by_cases h0 : t = 0
  · rw [if_pos h0, pIf_t h0]
  · rw [if_neg h0, pIf_f h0]
    by_cases h1 : t = 1
    · rw [if_pos h1, pIf_t h1]
    · rw [if_neg h1, pIf_f h1]
      by_cases h2 : t = 2
      · rw [if_pos h2, pIf_t h2]
      · rw [if_neg h2, pIf_f h2]
theorem J.srt (h : J n cnt mc A B) {k : Nat} (hk : k < 8) (h1 : B.1 120 k = 1) : ∃ t, t < 4 ∧ B.1 121 k = nI t ∧ A.1 3 k = nI (100 + t) := by
  rcases (h.2.2.2.1 k hk).2.1 with q | q | q
  · rw [q.1] at h1; exact absurd h1 (by decide)
  · exact q.2
  · rw [q.1] at h1; exact absurd h1 (by decide)
theorem J.cell (h : J n cnt mc A B) {k j : Nat} {x : Int64} (hk : k < 8) (hj : j < 100) : J n cnt mc (mL A (6 + k) j x) (mL B 124 (100 * k + j) x) := by
  refine h.ofS (fun i hi => ?_) (fun q a b => rfl) (fun q a => rfl)
  obtain ⟨p1, p4, p5⟩ := h.2.2.2.1 i hi
  refine ⟨p1, p4, fun q hq => ?_⟩
  have b4 : (mL B 124 (100 * k + j) x).2 124 = vp_updL (B.2 124) (100 * k + j) x := rL_self _ _ _
  rw [b4]
  by_cases e : i = k
  · subst e
    have a6 : (mL A (6 + i) j x).2 (6 + i) = vp_updL (A.2 (6 + i)) j x := rL_self _ _ _
    rw [a6]
    show (if q = j then x else A.2 (6 + i) q) = (if 100 * i + q = 100 * i + j then x else B.2 124 (100 * i + q))
    by_cases e2 : q = j
    · rw [if_pos e2, if_pos (by omega)]
    · rw [if_neg e2, if_neg (by omega)]
      exact p5 q hq
  · have a6 : (mL A (6 + k) j x).2 (6 + i) = A.2 (6 + i) := rL_o (by omega)
    rw [a6]
    show _ = (if 100 * i + q = 100 * k + j then x else B.2 124 (100 * i + q))
    rw [if_neg (by omega)]
    exact p5 q hq
theorem i32_ge {a b : Int32} (h : ¬ a < b) : b ≤ a := Int32.not_lt.mp h
theorem set8_w {s i : Int32} {x : Int64} {w : Int32} (c : ¬ wan8 B s = 0) (hm : S8_set B s i x w B') : w = wan8 B s ∧ B' = noxA B (wan8 B s) := by
  unfold S8_set at hm
  unfold wan8 at c ⊢
  by_cases c1 : ¬ s < 0 ∧ ¬ 8 ≤ s
  · rw [pIf_t c1] at hm c ⊢
    by_cases c2 : B.1 120 s.toNatClampNeg = 2
    · rw [pIf_t c2] at hm ⊢; exact hm
    · rw [pIf_f c2] at hm c ⊢
      by_cases c3 : B.1 120 s.toNatClampNeg = 0
      · rw [pIf_t c3] at hm ⊢; exact hm
      · rw [pIf_f c3] at c; exact absurd rfl c
  · rw [pIf_f c1] at hm ⊢; exact hm
theorem st_set {n cnt mc : Nat} {A A' B B' : Mm} (h : J n cnt mc A B) {s i : Int32} {x : Int64} {v w : Int32} (hc : S_set A s i x v A') (hm : S8_set B s i x w B') : v = w ∧ Jx A' B' := by
  unfold S_set at hc
  rw [h.rr] at hc
  by_cases c : wan8 B s = 0
  · rw [pIf_t c] at hc
    unfold S8_set at hm
    obtain ⟨k, hk, rfl⟩ := wan_k c
    obtain ⟨c1, c2, c3⟩ := wan_0 hk c
    have c4 := h.one hk c2 c3
    have he := h.el hk (i := i)
    rw [nI_clamp (by omega), pIf_t c1, pIf_f c2, pIf_f c3] at hm
    rw [nI_clamp (show k < 2 ^ 31 by omega)] at hc
    by_cases d1 : i < 0
    · rw [pIf_t d1] at hm
      rw [pIf_f (fun z => (he.mp z).2.1 d1)] at hc
      obtain ⟨rfl, rfl⟩ := hc
      obtain ⟨rfl, rfl⟩ := hm
      exact ⟨rfl, (h.ref (k := 4) (by decide)).x⟩
    · rw [pIf_f d1] at hm
      by_cases d2 : i < B.1 122 k
      · rw [pIf_t d2] at hm
        have q := he.mpr ⟨c4, d1, Int32.not_le.mpr d2⟩
        rw [pIf_t q] at hc
        obtain ⟨k', j, hk', hj, e1, rfl⟩ := elP_n h.sz q
        rw [nI_clamp (show j < 2 ^ 31 by omega)] at hc hm
        obtain ⟨t, ht, t1, t2⟩ := h.srt hk c4
        have et : A.1 3 k - 100 = B.1 121 k := by rw [t1, t2, ← nI_add]; show nI 100 + nI t - nI 100 = nI t; grind
        rw [et, cut_eq] at hc
        obtain ⟨rfl, rfl⟩ := hc
        obtain ⟨rfl, rfl⟩ := hm
        exact ⟨rfl, (h.cell hk hj).x⟩
      · rw [pIf_f d2] at hm
        rw [pIf_f (fun z => d2 (Int32.not_le.mp (he.mp z).2.2))] at hc
        obtain ⟨rfl, rfl⟩ := hc
        obtain ⟨rfl, rfl⟩ := hm
        exact ⟨rfl, (h.ref (k := 4) (by decide)).x⟩
  · rw [pIf_f c] at hc
    obtain ⟨rfl, rfl⟩ := set8_w c hm
    obtain ⟨rfl, rfl⟩ := hc
    exact ⟨rfl, (h.refA (wan_v c)).x⟩
theorem st_element (h : J n cnt mc A B) {s i : Int32} : elL A s i = elL8 B s i := by
  unfold elL elL8
  by_cases c1 : ¬ s < 0 ∧ ¬ 8 ≤ s
  · rw [pIf_t c1]
    obtain ⟨k, hk, rfl⟩ := shf_k c1
    have he := h.el hk (i := i)
    rw [nI_clamp (by omega)]
    by_cases c2 : B.1 120 k = 1
    · rw [pIf_t c2]
      by_cases c3 : i < 0
      · rw [pIf_t c3, pIf_f (fun z => (he.mp z).2.1 c3)]
      · rw [pIf_f c3]
        by_cases c4 : B.1 122 k ≤ i
        · rw [pIf_t c4, pIf_f (fun z => (he.mp z).2.2 c4)]
        · have q := he.mpr ⟨c2, c3, c4⟩
          rw [pIf_f c4, pIf_t q]
          obtain ⟨k', j, hk', hj, e1, rfl⟩ := elP_n h.sz q
          rw [nI_clamp (show j < 2 ^ 31 by omega)]
          exact (h.2.2.2.1 k hk).2.2 j hj
    · rw [pIf_f c2, pIf_f (fun z => c2 (he.mp z).1)]
  · rw [pIf_f c1, pIf_f ?_]
    rintro ⟨k, hk, rfl, -⟩
    exact c1 (shf_n hk)
theorem J.hold (h : J n cnt mc A B) {k : Nat} {x e p : Int32} (hk : k < 8) (hd : HD n x e (B.1 121 k) p) : J n cnt mc (mI A 3 k x) (mI (mI B 120 k e) 123 k p) := by
  refine h.ofS (fun j hj => ?_) (fun q a b => mI_other a) (fun q a => (mI_other (by omega)).trans (mI_other (by omega)))
  obtain ⟨⟨z0, p1, p2, p3⟩, p4, p5⟩ := h.2.2.2.1 j hj
  have b0 : (mI (mI B 120 k e) 123 k p).1 120 = upd (B.1 120) k e := (mI_other (by decide)).trans (mI_self _ _ _ _)
  have b1 : (mI (mI B 120 k e) 123 k p).1 121 = B.1 121 := (mI_other (by decide)).trans (mI_other (by decide))
  have b2 : (mI (mI B 120 k e) 123 k p).1 122 = B.1 122 := (mI_other (by decide)).trans (mI_other (by decide))
  have b3 : (mI (mI B 120 k e) 123 k p).1 123 = upd (B.1 123) k p := (mI_self _ _ _ _).trans (by rw [mI_other (by decide)])
  rw [b0, b1, b2, b3, mI_self, mI_other (show 4 ≠ 3 by decide)]
  refine ⟨⟨z0, p1, p2, p3⟩, ?_, p5⟩
  by_cases e9 : j = k
  · subst e9
    rw [upd_self, upd_self, upd_self]
    exact hd
  · rw [upd_other e9, upd_other e9, upd_other e9]
    exact p4
theorem st_show {n cnt mc : Nat} {A A' B B' : Mm} (h : J n cnt mc A B) {s x : Int32} {v w : Int32} (hc : S_show A s x v A') (hm : S8_show B s x w B') : v = w ∧ Jx A' B' := by
  unfold S_show at hc
  unfold S8_show at hm
  by_cases c1 : ¬ s < 0 ∧ ¬ 8 ≤ s
  · rw [pIf_t c1] at hc
    rw [pIf_t c1] at hm
    obtain ⟨k, hk, rfl⟩ := shf_k c1
    rw [nI_clamp (by omega)] at hc hm
    by_cases c2 : x = -1
    · rw [pIf_t c2] at hc
      rw [pIf_t c2] at hm
      obtain ⟨rfl, rfl⟩ := hc
      obtain ⟨rfl, rfl⟩ := hm
      subst c2
      exact ⟨rfl, (h.hold hk (Or.inl ⟨rfl, rfl⟩)).x⟩
    · rw [pIf_f c2] at hc
      rw [pIf_f c2] at hm
      by_cases c3 : ¬ x < 0 ∧ ¬ A.1 14 11 ≤ x
      · rw [pIf_t c3] at hc
        rw [pIf_t (h.has.mp c3)] at hm
        obtain ⟨rfl, rfl⟩ := hc
        obtain ⟨rfl, rfl⟩ := hm
        obtain ⟨p, hp, rfl⟩ := h.hasn c3
        exact ⟨rfl, (h.hold hk (Or.inr (Or.inr ⟨rfl, p, hp, rfl, rfl⟩))).x⟩
      · rw [pIf_f c3] at hc
        rw [pIf_f (fun z => c3 (h.has.mpr z))] at hm
        obtain ⟨rfl, rfl⟩ := hc
        obtain ⟨rfl, rfl⟩ := hm
        exact ⟨by decide, (h.ref (k := 0) (by decide)).x⟩
  · rw [pIf_f c1] at hc
    rw [pIf_f c1] at hm
    obtain ⟨rfl, rfl⟩ := hc
    obtain ⟨rfl, rfl⟩ := hm
    exact ⟨by decide, (h.ref (k := 0) (by decide)).x⟩
theorem st_holds {n cnt mc : Nat} {A A' B B' : Mm} (h : J n cnt mc A B) {s : Int32} {v w : Int32} (hc : S_holds A s v A') (hm : S8_holds B s w B') : v = w ∧ Jx A' B' := by
  unfold S_holds at hc
  unfold S8_holds at hm
  obtain ⟨rfl, rfl⟩ := hm
  by_cases c1 : ¬ s < 0 ∧ ¬ 8 ≤ s
  · rw [pIf_t c1] at hc ⊢
    obtain ⟨rfl, rfl⟩ := hc
    obtain ⟨k, hk, rfl⟩ := shf_k c1
    rw [nI_clamp (by omega)]
    refine ⟨?_, h.x⟩
    rcases (h.2.2.2.1 k hk).2.1 with q | ⟨e, t, a, b, c⟩ | ⟨e, p, a, b, c⟩
    · rw [pIf_t q.1]; exact q.2
    · rw [e, pIf_f (by decide), pIf_t rfl, b, c]; exact (nI_add 100 t).symm
    · rw [e, pIf_f (by decide), pIf_f (by decide), b, c]
  · rw [pIf_f c1] at hc ⊢
    obtain ⟨rfl, rfl⟩ := hc
    exact ⟨rfl, h.x⟩
end ST
