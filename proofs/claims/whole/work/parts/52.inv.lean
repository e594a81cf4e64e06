/-! what holds between the class's places (of A) and the model's (of B) -/
def CD (n : Nat) (a b : Nat → Nat → Int32) : Prop := (∀ t, t < 10 → agr n (a t) (b t)) ∧ (∀ q, q < n → ∃ k, k < 7 ∧ b 0 q = nI k) ∧ (∀ q, q < n → ∃ s, s < 48 ∧ b 1 q = nI s) ∧ (∀ q, q < n → ∃ k, 1 ≤ k ∧ k ≤ 9 ∧ b 3 q = nI k) ∧ (∀ p q, p < n → q < n → b 1 p = b 1 q → p = q) ∧ ∀ q, q < n → (b 6 q = 0 ∨ b 6 q = 1 ∨ b 6 q = 2) ∧ (¬ b 6 q = 1 → b 7 q = 0)
theorem CD.cg {n : Nat} {a b a' b' : Nat → Nat → Int32} (h : CD n a b) (ha : ∀ t, t < 10 → agr n (a' t) (a t)) (hb : ∀ t, t < 10 → agr n (b' t) (b t)) : CD n a' b' := by
  obtain ⟨h1, h2, h3, h4, h5, h6⟩ := h
  refine ⟨fun t ht => ((ha t ht).tr (h1 t ht)).tr (hb t ht).sy, fun q hq => ?_, fun q hq => ?_, fun q hq => ?_, fun p q hp hq e => ?_, fun q hq => ?_⟩
  · rw [hb 0 (by omega) q hq]; exact h2 q hq
  · rw [hb 1 (by omega) q hq]; exact h3 q hq
  · rw [hb 3 (by omega) q hq]; exact h4 q hq
  · rw [hb 1 (by omega) q hq, hb 1 (by omega) p hp] at e; exact h5 p q hp hq e
  · rw [hb 6 (by omega) q hq, hb 7 (by omega) q hq]; exact h6 q hq
def FD (x2 x3 x4 x5 y3 y4 y7 y8 : Int32) : Prop := x2 = y3 ∧ x3 = y4 ∧ x4 = y7 ∧ x5 = y8 ∧ (∃ k, k ≤ 9999 ∧ y3 = nI k) ∧ ∃ c, c ≤ 30 ∧ y8 = nI c
def JC (n : Nat) (A B : Mm) : Prop := A.1 14 11 = nI n ∧ B.1 105 0 = nI n ∧ n ≤ 30 ∧ CD n (fun t => A.1 (16 + t)) (fun t => B.1 (107 + t)) ∧ FD (A.1 14 12) (A.1 14 13) (A.1 14 14) (A.1 14 15) (B.1 105 3) (B.1 105 4) (B.1 105 7) (B.1 105 8)
theorem JC.g {n : Nat} {A B : Mm} (h : JC n A B) : g8 n B := ⟨h.2.1, h.2.2.1, h.2.2.2.1.2.2.1, h.2.2.2.1.2.1, h.2.2.2.1.2.2.2.1, h.2.2.2.1.2.2.2.2.1⟩
theorem JC.row {n t j : Nat} {A B : Mm} (h : JC n A B) (ht : t < 10) (hj : j < n) : A.1 (16 + t) j = B.1 (107 + t) j := h.2.2.2.1.1 t ht j hj
def LD (cnt : Nat) (a : Nat → Nat → Int32) (b : Nat → Int32) (fa fb : Int32) : Prop := (∀ k, k < cnt → ∀ i, i < 7 → a (k + 1) i = b (7 * k + i)) ∧ (∀ i, i < 7 → a 0 i = lawsF i) ∧ fa = fb ∧ (fb = -1 ∨ ∃ k, k < cnt ∧ fb = nI k)
def JB (cnt : Nat) (A B : Mm) : Prop := A.1 78 1 = nI cnt ∧ B.1 105 1 = nI cnt ∧ cnt ≤ 6 ∧ LD cnt (fun k => A.1 (80 + k)) (B.1 119) (A.1 78 2) (B.1 105 5) ∧ ∀ i, i < 7 → B.1 118 i = lawsF i
def UD (mc : Nat) (a b : Nat → Int32) : Prop := ∀ q, q < mc → a q = b q ∧ ∃ s, s < 48 ∧ b q = nI s
def JU (mc : Nat) (A B : Mm) : Prop := A.1 96 1 = nI mc ∧ B.1 105 2 = nI mc ∧ mc ≤ 8 ∧ UD mc (A.1 97) (B.1 117)
def HD (n : Nat) (h e s p : Int32) : Prop := (e = 0 ∧ h = -1) ∨ (e = 1 ∧ ∃ t, t < 4 ∧ s = nI t ∧ h = nI (100 + t)) ∨ (e = 2 ∧ ∃ q, q < n ∧ p = nI q ∧ h = nI q)
def JS (n : Nat) (A B : Mm) : Prop := ∀ k, k < 8 → (∃ z, z ≤ 100 ∧ A.1 4 k = nI z ∧ B.1 122 k = nI z) ∧ HD n (A.1 3 k) (B.1 120 k) (B.1 121 k) (B.1 123 k) ∧ ∀ i, i < 100 → A.2 (6 + k) i = B.2 124 (100 * k + i)
def JR (A B : Mm) : Prop := (∀ k, k < 7 → A.1 1 k = B.1 106 (k + 1)) ∧ A.1 0 9 = B.1 105 6
def JA (A B : Mm) : Prop := ∃ r, r ≤ 20 ∧ A.1 103 1 = nI r ∧ B.1 105 54 = nI r ∧ ∀ i, i < r → A.1 104 i = B.1 139 i
def IM (A B : Mm) : Prop := ∃ ni ci mi, A.1 29 11 = nI ni ∧ B.1 105 56 = nI ni ∧ ni ≤ 30 ∧ CD ni (fun t => A.1 (31 + t)) (fun t j => B.1 140 (30 * t + j)) ∧ FD (A.1 29 12) (A.1 29 13) (A.1 29 14) (A.1 29 15) (B.1 105 55) (B.1 105 59) (B.1 105 61) (B.1 105 62) ∧ A.1 87 1 = nI ci ∧ B.1 105 57 = nI ci ∧ ci ≤ 6 ∧ LD ci (fun k => A.1 (89 + k)) (fun i => B.1 140 (308 + i)) (A.1 87 2) (B.1 105 60) ∧ A.1 98 1 = nI mi ∧ B.1 105 58 = nI mi ∧ mi ≤ 8 ∧ UD mi (A.1 99) (fun q => B.1 140 (300 + q))
def JI (A B : Mm) : Prop := (A.1 0 13 = 0 ∧ B.1 105 55 = -1) ∨ (¬ A.1 0 13 = 0 ∧ ¬ B.1 105 55 = -1 ∧ IM A B)
def JW (B : Mm) : Prop := B.1 105 36 = 0 ∧ ∀ j, j < 43 → B.1 126 j = wdF j
def J (n cnt mc : Nat) (A B : Mm) : Prop := JC n A B ∧ JB cnt A B ∧ JU mc A B ∧ JS n A B ∧ JR A B ∧ JA A B ∧ JI A B ∧ JW B
def Jx (A B : Mm) : Prop := ∃ n cnt mc, J n cnt mc A B
section JF
variable {n cnt mc : Nat} {A B A' B' : Mm}
theorem JC.fr (h : JC n A B) (hA : ∀ q, q = 14 ∨ (16 ≤ q ∧ q ≤ 25) → A'.1 q = A.1 q) (hB : ∀ t, t < 10 → agr n (B'.1 (107 + t)) (B.1 (107 + t))) (hf : ∀ j, j = 0 ∨ j = 3 ∨ j = 4 ∨ j = 7 ∨ j = 8 → B'.1 105 j = B.1 105 j) : JC n A' B' := by
  obtain ⟨h1, h2, h3, h4, h5⟩ := h
  refine ⟨?_, ?_, h3, h4.cg (fun t ht => ?_) hB, ?_⟩
  · rw [hA 14 (by omega)]; exact h1
  · rw [hf 0 (by omega)]; exact h2
  · show agr n (A'.1 (16 + t)) (A.1 (16 + t))
    rw [hA (16 + t) (by omega)]
    exact agr.rf
  · rw [hA 14 (by omega), hf 3 (by omega), hf 4 (by omega), hf 7 (by omega), hf 8 (by omega)]; exact h5
theorem JB.fr (h : JB cnt A B) (hA : ∀ q, q = 78 ∨ (80 ≤ q ∧ q ≤ 86) → A'.1 q = A.1 q) (hB : ∀ q, q = 118 ∨ q = 119 → B'.1 q = B.1 q) (hf : ∀ j, j = 1 ∨ j = 5 → B'.1 105 j = B.1 105 j) : JB cnt A' B' := by
  obtain ⟨h1, h2, h3, ⟨h4, h5, h6⟩, h7⟩ := h
  unfold JB LD
  rw [hA 78 (by omega), hf 1 (by omega), hf 5 (by omega), hB 118 (by omega), hB 119 (by omega)]
  refine ⟨h1, h2, h3, ⟨fun k hk i hi => ?_, fun i hi => ?_, h6⟩, h7⟩
  · show A'.1 (80 + (k + 1)) i = _
    rw [hA (80 + (k + 1)) (by omega)]
    exact h4 k hk i hi
  · show A'.1 80 i = _
    rw [hA 80 (by omega)]
    exact h5 i hi
theorem JU.fr (h : JU mc A B) (hA : ∀ q, q = 96 ∨ q = 97 → A'.1 q = A.1 q) (hB : B'.1 117 = B.1 117) (hf : B'.1 105 2 = B.1 105 2) : JU mc A' B' := by
  unfold JU
  rw [hA 96 (by omega), hA 97 (by omega), hB, hf]
  exact h
theorem JS.fr (h : JS n A B) (hA : ∀ q, q = 3 ∨ q = 4 → A'.1 q = A.1 q) (hA2 : ∀ k, k < 8 → A'.2 (6 + k) = A.2 (6 + k)) (hB : ∀ q, 120 ≤ q ∧ q ≤ 123 → B'.1 q = B.1 q) (hB2 : B'.2 124 = B.2 124) : JS n A' B' := fun k hk => by
  rw [hA 3 (by omega), hA 4 (by omega), hA2 k hk, hB 120 (by omega), hB 121 (by omega), hB 122 (by omega), hB 123 (by omega), hB2]
  exact h k hk
theorem JR.fr (h : JR A B) (hA : ∀ q, q = 0 ∨ q = 1 → A'.1 q = A.1 q) (hB : B'.1 106 = B.1 106) (hf : B'.1 105 6 = B.1 105 6) : JR A' B' := by
  unfold JR
  rw [hA 0 (by omega), hA 1 (by omega), hB, hf]
  exact h
theorem JA.fr (h : JA A B) (hA : ∀ q, q = 103 ∨ q = 104 → A'.1 q = A.1 q) (hB : B'.1 139 = B.1 139) (hf : B'.1 105 54 = B.1 105 54) : JA A' B' := by
  unfold JA
  rw [hA 103 (by omega), hA 104 (by omega), hB, hf]
  exact h
theorem JI.fr (h : JI A B) (h0 : A'.1 0 13 = A.1 0 13) (hA : ∀ q, (29 ≤ q ∧ q ≤ 40) ∨ q = 87 ∨ (89 ≤ q ∧ q ≤ 95) ∨ q = 98 ∨ q = 99 → A'.1 q = A.1 q) (hB : B'.1 140 = B.1 140) (hf : ∀ j, 55 ≤ j ∧ j ≤ 62 → B'.1 105 j = B.1 105 j) : JI A' B' := by
  unfold JI at h ⊢
  rw [h0, hf 55 (by omega)]
  refine h.imp id (fun ⟨q1, q2, q3⟩ => ⟨q1, q2, ?_⟩)
  obtain ⟨ni, ci, mi, a1, a2, a3, a4, a5, b1, b2, b3, ⟨b4, b5, b6⟩, c1, c2, c3, c4⟩ := q3
  refine ⟨ni, ci, mi, ?_, ?_, a3, a4.cg (fun t ht => ?_) (fun t ht => ?_), ?_, ?_, ?_, b3, ⟨fun k hk i hi => ?_, fun i hi => ?_, ?_⟩, ?_, ?_, c3, ?_⟩
  · rw [hA 29 (by omega)]; exact a1
  · rw [hf 56 (by omega)]; exact a2
  · show agr ni (A'.1 (31 + t)) (A.1 (31 + t))
    rw [hA (31 + t) (by omega)]
    exact agr.rf
  · show agr ni (fun j => B'.1 140 (30 * t + j)) (fun j => B.1 140 (30 * t + j))
    rw [hB]
    exact agr.rf
  · rw [hA 29 (by omega), hf 55 (by omega), hf 59 (by omega), hf 61 (by omega), hf 62 (by omega)]; exact a5
  · rw [hA 87 (by omega)]; exact b1
  · rw [hf 57 (by omega)]; exact b2
  · show A'.1 (89 + (k + 1)) i = B'.1 140 (308 + (7 * k + i))
    rw [hA (89 + (k + 1)) (by omega), hB]
    exact b4 k hk i hi
  · show A'.1 89 i = _
    rw [hA 89 (by omega)]
    exact b5 i hi
  · rw [hA 87 (by omega), hf 60 (by omega)]; exact b6
  · rw [hA 98 (by omega)]; exact c1
  · rw [hf 58 (by omega)]; exact c2
  · rw [hA 99 (by omega), hB]; exact c4
theorem JW.fr (h : JW B) (hB : B'.1 126 = B.1 126) (hf : B'.1 105 36 = B.1 105 36) : JW B' := by
  unfold JW
  rw [hB, hf]
  exact h
/-- scratch of the class, and all that isn't its own -/
def sA (k : Nat) : Prop := (26 ≤ k ∧ k ≤ 28) ∨ (41 ≤ k ∧ k ≤ 77) ∨ (100 ≤ k ∧ k ≤ 102) ∨ 105 ≤ k
def eqA (A A' : Mm) : Prop := (∀ k, ¬ sA k → A'.1 k = A.1 k) ∧ ∀ k, k < 8 → A'.2 (6 + k) = A.2 (6 + k)
def eqB (n : Nat) (B B' : Mm) : Prop := B'.2 124 = B.2 124 ∧ (∀ k, 105 < k → ¬ (112 ≤ k ∧ k ≤ 115) → ¬ (127 ≤ k ∧ k ≤ 138) → B'.1 k = B.1 k) ∧ (∀ k, 112 ≤ k → k ≤ 115 → agr n (B'.1 k) (B.1 k)) ∧ ∀ j, ¬ (31 ≤ j ∧ j ≤ 35) → ¬ (47 ≤ j ∧ j ≤ 51) → B'.1 105 j = B.1 105 j
theorem eqA.rf : eqA A A := ⟨fun _ _ => rfl, fun _ _ => rfl⟩
theorem eqB.rf : eqB n B B := ⟨rfl, fun _ _ _ _ => rfl, fun _ _ _ => agr.rf, fun _ _ _ => rfl⟩
theorem eqB.row (h : eqB n B B') {t : Nat} (ht : t < 10) : agr n (B'.1 (107 + t)) (B.1 (107 + t)) := by
  by_cases q : 112 ≤ 107 + t ∧ 107 + t ≤ 115
  · exact h.2.2.1 _ q.1 q.2
  · rw [h.2.1 (107 + t) (by omega) q (by omega)]
    exact agr.rf
theorem J.eq (h : J n cnt mc A B) (hA : eqA A A') (hB : eqB n B B') : J n cnt mc A' B' := by
  obtain ⟨a, b, c, d, e, f, g, i⟩ := h
  have oA : ∀ q, ¬ sA q → A'.1 q = A.1 q := hA.1
  have oB : ∀ q, 105 < q → ¬ (112 ≤ q ∧ q ≤ 115) → ¬ (127 ≤ q ∧ q ≤ 138) → B'.1 q = B.1 q := hB.2.1
  have oF : ∀ j, ¬ (31 ≤ j ∧ j ≤ 35) → ¬ (47 ≤ j ∧ j ≤ 51) → B'.1 105 j = B.1 105 j := hB.2.2.2
  refine ⟨a.fr (fun q hq => oA q (by unfold sA; omega)) (fun t ht => hB.row ht) (fun j hj => oF j (by omega) (by omega)), b.fr (fun q hq => oA q (by unfold sA; omega)) (fun q hq => oB q (by omega) (by omega) (by omega)) (fun j hj => oF j (by omega) (by omega)), c.fr (fun q hq => oA q (by unfold sA; omega)) (oB 117 (by omega) (by omega) (by omega)) (oF 2 (by omega) (by omega)), d.fr (fun q hq => oA q (by unfold sA; omega)) hA.2 (fun q hq => oB q (by omega) (by omega) (by omega)) hB.1, e.fr (fun q hq => oA q (by unfold sA; omega)) (oB 106 (by omega) (by omega) (by omega)) (oF 6 (by omega) (by omega)), f.fr (fun q hq => oA q (by unfold sA; omega)) (oB 139 (by omega) (by omega) (by omega)) (oF 54 (by omega) (by omega)), g.fr (congrFun (oA 0 (by unfold sA; omega)) 13) (fun q hq => oA q (by unfold sA; omega)) (oB 140 (by omega) (by omega) (by omega)) (fun j hj => oF j (by omega) (by omega)), i.fr (oB 126 (by omega) (by omega) (by omega)) (oF 36 (by omega) (by omega))⟩
theorem out8.eq (h : out8 n B B') : eqB n B B' := ⟨by rw [h.1], fun k a b c => h.2.1 k (by omega), fun k a b j hj => h.2.2.1 k j a b hj, fun j a b => h.2.2.2 j (by omega)⟩
theorem eqB.of_same (h1 : ∀ k, 105 ≤ k → B'.1 k = B.1 k) (h2 : ∀ k, 105 ≤ k → B'.2 k = B.2 k) : eqB n B B' := ⟨h2 124 (by omega), fun k a _ _ => h1 k (by omega), fun k a _ => by rw [h1 k (by omega)]; exact agr.rf, fun j _ _ => congrFun (h1 105 (by omega)) j⟩
theorem eqA.of_same (h1 : ∀ k, k < 105 → A'.1 k = A.1 k) (h2 : ∀ k, k < 105 → A'.2 k = A.2 k) : eqA A A' := ⟨fun k hk => h1 k (by unfold sA at hk; omega), fun k hk => h2 _ (by omega)⟩
/-! a refusal -/
theorem JR.ref (h : JR A B) {k : Nat} (hk : k < 7) : JR (rfx A k) (nox B (k + 1)) := by
  refine ⟨fun j hj => ?_, ?_⟩
  · unfold rfx nox
    rw [mI_self, mI_self]
    by_cases e : j = k
    · subst e
      rw [upd_self, upd_self, h.1 j hj]
    · rw [upd_other e, upd_other (by omega)]
      exact h.1 j hj
  · unfold rfx nox
    rw [mI_other (by decide), mI_other (by decide)]
    exact h.2
theorem J.ref (h : J n cnt mc A B) {k : Nat} (hk : k < 7) : J n cnt mc (rfx A k) (nox B (k + 1)) := by
  obtain ⟨a, b, c, d, e, f, g, i⟩ := h
  have oA : ∀ q, q ≠ 1 → (rfx A k).1 q = A.1 q := fun q hq => mI_other hq
  have oB : ∀ q, q ≠ 106 → (nox B (k + 1)).1 q = B.1 q := fun q hq => mI_other hq
  refine ⟨a.fr (fun q hq => oA q (by omega)) (fun t ht => by rw [oB _ (by omega)]; exact agr.rf) (fun j hj => congrFun (oB 105 (by omega)) j), b.fr (fun q hq => oA q (by omega)) (fun q hq => oB q (by omega)) (fun j hj => congrFun (oB 105 (by omega)) j), c.fr (fun q hq => oA q (by omega)) (oB 117 (by omega)) (congrFun (oB 105 (by omega)) 2), d.fr (fun q hq => oA q (by omega)) (fun k hk => rfl) (fun q hq => oB q (by omega)) rfl, e.ref hk, f.fr (fun q hq => oA q (by omega)) (oB 139 (by omega)) (congrFun (oB 105 (by omega)) 54), g.fr (congrFun (oA 0 (by omega)) 13) (fun q hq => oA q (by omega)) (oB 140 (by omega)) (fun j hj => congrFun (oB 105 (by omega)) j), i.fr (oB 126 (by omega)) (congrFun (oB 105 (by omega)) 36)⟩
theorem J.x (h : J n cnt mc A B) : Jx A B := ⟨n, cnt, mc, h⟩
theorem J.hn (h : J n cnt mc A B) : A.1 14 11 = nI n := h.1.1
theorem J.bn (h : J n cnt mc A B) : B.1 105 0 = nI n := h.1.2.1
theorem J.n30 (h : J n cnt mc A B) : n ≤ 30 := h.1.2.2.1
theorem J.ac (h : J n cnt mc A B) : A.1 78 1 = nI cnt := h.2.1.1
theorem J.bc (h : J n cnt mc A B) : B.1 105 1 = nI cnt := h.2.1.2.1
theorem J.c6 (h : J n cnt mc A B) : cnt ≤ 6 := h.2.1.2.2.1
theorem J.sz (h : J n cnt mc A B) : sizOK A := fun k hk => by
  obtain ⟨⟨z, h1, h2, -⟩, -⟩ := h.2.2.2.1 k hk
  exact ⟨z, h1, h2⟩
theorem J.sz8 (h : J n cnt mc A B) : siz8 B := fun k hk => by
  obtain ⟨⟨z, h1, -, h2⟩, -⟩ := h.2.2.2.1 k hk
  exact ⟨z, h1, h2⟩
theorem J.fo (h : J n cnt mc A B) : okW (B.1 105 5) := h.2.1.2.2.2.1.2.2.2.imp id (fun ⟨k, a, b⟩ => ⟨k, by have := h.c6; omega, b⟩)
theorem J.hel (h : J n cnt mc A B) : hel8 n B := fun k hk => by
  rcases (h.2.2.2.1 k hk).2.1 with q | q | q
  · exact Or.inl q.1
  · exact Or.inr (Or.inl q.1)
  · obtain ⟨e, p, a, b, c⟩ := q
    exact Or.inr (Or.inr ⟨e, p, a, b⟩)
/-! shelves -/
theorem J.h0 (h : J n cnt mc A B) {k : Nat} (hk : k < 8) : A.1 3 k = -1 ↔ B.1 120 k = 0 := by
  have t1 : ∀ t, t < 200 → ¬ nI t = -1 := by decide +kernel
  have := h.n30
  rcases (h.2.2.2.1 k hk).2.1 with q | ⟨e, t, a, b, c⟩ | ⟨e, p, a, b, c⟩
  · exact ⟨fun _ => q.1, fun _ => q.2⟩
  · exact ⟨fun z => absurd (c.symm.trans z) (t1 _ (by omega)), fun z => by rw [e] at z; exact absurd z (by decide)⟩
  · exact ⟨fun z => absurd (c.symm.trans z) (t1 _ (by omega)), fun z => by rw [e] at z; exact absurd z (by decide)⟩
theorem J.h1 (h : J n cnt mc A B) {k : Nat} (hk : k < 8) : ¬ A.1 3 k < 100 ↔ B.1 120 k = 1 := by
  have t1 : ∀ t, t < 100 → nI t < 100 := by decide +kernel
  have t2 : ∀ t, t < 4 → ¬ nI (100 + t) < 100 := by decide +kernel
  have := h.n30
  rcases (h.2.2.2.1 k hk).2.1 with q | ⟨e, t, a, b, c⟩ | ⟨e, p, a, b, c⟩
  · rw [q.1, q.2]; decide
  · rw [c]; exact ⟨fun _ => e, fun _ => t2 t a⟩
  · rw [c]; exact ⟨fun z => absurd (t1 p (by omega)) z, fun z => by rw [e] at z; exact absurd z (by decide)⟩
theorem J.h2 (h : J n cnt mc A B) {k : Nat} (hk : k < 8) : (¬ A.1 3 k = -1 ∧ ¬ 100 ≤ A.1 3 k) ↔ B.1 120 k = 2 := by
  have t1 : ∀ t, t < 100 → ¬ nI t = -1 ∧ ¬ 100 ≤ nI t := by decide +kernel
  have t2 : ∀ t, t < 4 → (100 : Int32) ≤ nI (100 + t) := by decide +kernel
  have := h.n30
  rcases (h.2.2.2.1 k hk).2.1 with q | ⟨e, t, a, b, c⟩ | ⟨e, p, a, b, c⟩
  · rw [q.1, q.2]; decide
  · rw [c]; exact ⟨fun z => absurd (t2 t a) z.2, fun z => by rw [e] at z; exact absurd z (by decide)⟩
  · rw [c]; exact ⟨fun z => e, fun _ => t1 p (by omega)⟩
theorem perP_k {k : Nat} (hk : k < 8) : perP A (nI k) ↔ (¬ A.1 3 k = -1 ∧ ¬ 100 ≤ A.1 3 k) := ⟨fun ⟨j, a, b, c⟩ => by rw [nI_inj8 hk a b]; exact c, fun c => ⟨k, hk, rfl, c⟩⟩
theorem rowP_k {k : Nat} (hk : k < 8) : rowP A (nI k) ↔ ¬ A.1 3 k < 100 := ⟨fun ⟨j, a, b, c⟩ => by rw [nI_inj8 hk a b]; exact c, fun c => ⟨k, hk, rfl, c⟩⟩
theorem J.per (h : J n cnt mc A B) {k : Nat} (hk : k < 8) : perP A (nI k) ↔ B.1 120 k = 2 := (perP_k hk).trans (h.h2 hk)
theorem J.rw (h : J n cnt mc A B) {k : Nat} (hk : k < 8) : rowP A (nI k) ↔ B.1 120 k = 1 := (rowP_k hk).trans (h.h1 hk)
theorem J.el (h : J n cnt mc A B) {k : Nat} {i : Int32} (hk : k < 8) : elP A (nI k) i ↔ B.1 120 k = 1 ∧ ¬ i < 0 ∧ ¬ B.1 122 k ≤ i := by
  obtain ⟨⟨z, -, z2, z3⟩, -⟩ := h.2.2.2.1 k hk
  rw [z3, ← h.h1 hk, ← z2]
  exact ⟨fun ⟨j, a, b, c⟩ => by rw [nI_inj8 hk a b]; exact c, fun c => ⟨k, hk, rfl, c⟩⟩
theorem J.rr (h : J n cnt mc A B) {s : Int32} : rrI A s = wan8 B s := by
  unfold rrI wan8
  by_cases c : ¬ s < 0 ∧ ¬ 8 ≤ s
  · rw [pIf_t c, pIf_t c]
    obtain ⟨k, hk, rfl⟩ := shf_k c
    rw [nI_clamp (by omega)]
    by_cases p : B.1 120 k = 2
    · rw [pIf_t p, pIf_t ((h.per hk).mpr p)]
    · rw [pIf_f p, pIf_f (fun z => p ((h.per hk).mp z))]
      by_cases r : B.1 120 k = 0
      · rw [pIf_t r, pIf_f (fun z => by rw [(h.rw hk).mp z] at r; exact absurd r (by decide))]
      · rw [pIf_f r, pIf_t ((h.rw hk).mpr ?_)]
        rcases h.hel k hk with q | q | q
        · exact absurd q r
        · exact q
        · exact absurd q.1 p
  · rw [pIf_f c, pIf_f c]
theorem wan_v {B : Mm} {s : Int32} (h : ¬ wan8 B s = 0) : wan8 B s = -1 ∨ wan8 B s = -2 ∨ wan8 B s = -3 := by
  unfold wan8 at h ⊢
  by_cases c : ¬ s < 0 ∧ ¬ 8 ≤ s
  · rw [pIf_t c] at h ⊢
    by_cases p : B.1 120 s.toNatClampNeg = 2
    · rw [pIf_t p]; exact Or.inr (Or.inl rfl)
    · rw [pIf_f p] at h ⊢
      by_cases r : B.1 120 s.toNatClampNeg = 0
      · rw [pIf_t r]; exact Or.inr (Or.inr rfl)
      · rw [pIf_f r] at h; exact absurd rfl h
  · rw [pIf_f c]; exact Or.inl rfl
theorem J.refA (h : J n cnt mc A B) {x : Int32} (hx : x = -1 ∨ x = -2 ∨ x = -3) : J n cnt mc (rfA A x) (noxA B x) := by
  rcases hx with rfl | rfl | rfl
  · rw [rfA_k (k := 0) (by decide) (by decide)]; exact h.ref (k := 0) (by decide)
  · rw [rfA_k (k := 1) (by decide) (by decide)]; exact h.ref (k := 1) (by decide)
  · rw [rfA_k (k := 2) (by decide) (by decide)]; exact h.ref (k := 2) (by decide)
theorem J.refT (h : J n cnt mc A B) {x : Int32} (hx : x = -1 ∨ x = -2 ∨ x = -3) : J n cnt mc (rfA A (x - 10)) (noxA B x) := by
  rcases hx with rfl | rfl | rfl
  · rw [rfA_k (k := 0) (by decide) (by decide)]; exact h.ref (k := 0) (by decide)
  · rw [rfA_k (k := 1) (by decide) (by decide)]; exact h.ref (k := 1) (by decide)
  · rw [rfA_k (k := 2) (by decide) (by decide)]; exact h.ref (k := 2) (by decide)
end JF
