/-- who turns in a tick of the model -/
def tn8 (n : Nat) (M : Mm) (i : Nat) : Prop := (M.1 113 i = 0 ∧ wb8P (M.1 105 36 = 0) (M.1 107 i) (M.1 105 3) (M.1 111 i) (hearF n (M.1 108) (M.1 113) i) (nearF n (M.1 108) (M.1 113) i) (M.1 109 i) (rulI M)) ∨ (M.1 113 i = 1 ∧ wsP (M.1 107 i) (M.1 114 i) (M.1 109 i) (hearF n (M.1 108) (M.1 113) i) (nearF n (M.1 108) (M.1 113) i) (M.1 107 i = 5 ∧ ¬ rulI M 3 ≤ drawV (sdF (M.1 107) (M.1 113) (M.1 105 4) i) 10) (rulI M))
noncomputable def nm8 (n : Nat) (M : Mm) : Nat → Int32 := nmF (tn8 n M) (M.1 113)
noncomputable def nt8 (n : Nat) (M : Mm) (j : Nat) : Int32 := pIf (M.1 113 j = 1 ∧ nm8 n M j = 1) (M.1 114 j + 1) 0
noncomputable def sd8 (n : Nat) (M : Mm) : Int32 := sdF (M.1 107) (M.1 113) (M.1 105 4) n
def hi8 (n : Nat) (M : Mm) (j : Nat) : Prop := nm8 n M j = 1 ∧ modI (M.1 105 3 + M.1 112 j) (M.1 110 j) = 0
noncomputable def cl8 (n : Nat) (M : Mm) : Int32 := nI (cntN n (fun q => nm8 n M q = 1))
def phP8 (n : Nat) (M : Mm) (j : Nat) : Prop := M.1 107 j = 4 ∧ nm8 n M j = 1 ∧ (bitsI n (hi8 n M) >>> (nI j &&& 31)) &&& 1 = 0 ∧ ¬ 2 * nI (cntN n (hi8 n M)) ≤ cl8 n M
noncomputable def ph8 (n : Nat) (M : Mm) (j : Nat) : Int32 := pIf (phP8 n M j) (modI (M.1 112 j + 1) (M.1 110 j)) (M.1 112 j)
def thN (n : Nat) (seat stands : Nat → Int32) (s : Int32) (i : Nat) : Prop := ¬ s - s / 8 * 8 + (nI i - 1) < 0 ∧ ¬ 7 < s - s / 8 * 8 + (nI i - 1) ∧ ∃ q, q < n ∧ seat q = s - 8 + (nI i - 1) ∧ stands q = 1
noncomputable def cbN (n : Nat) (seat stands : Nat → Int32) (s : Int32) : Nat → Int32
  | 0 => 0
  | i + 1 => pIf (thN n seat stands s i) (cbN n seat stands s i + 1) (cbN n seat stands s i)
def rsP (n : Nat) (M : Mm) (p : Nat) : Prop := (nm8 n M p = 1 ∧ ¬ M.1 109 p < rulI M 6) ∨ (¬ M.1 108 p < 8 ∧ ¬ cbN n (M.1 108) (M.1 115) (M.1 108 p) 3 ≤ 0 ∧ ¬ cbN n (M.1 108) (M.1 115) (M.1 108 p) 3 < rulI M 5)
noncomputable def rs8 (n : Nat) (M : Mm) (j : Nat) : Int32 := pIf (rsP n M j) 1 (M.1 115 j)
def S8 (k : Nat) : Prop := k = 105 ∨ (112 ≤ k ∧ k ≤ 115) ∨ (128 ≤ k ∧ k ≤ 132)
/-- the model's rows in a tick -/
def TK (n : Nat) (M X : Mm) (sv h7 h8 : Int32) (f2 f3 f4 f5 : Nat → Int32) : Prop :=
  Same S8 M X ∧ (∀ j, j ≠ 4 → j ≠ 7 → j ≠ 8 → X.1 105 j = M.1 105 j) ∧ X.1 105 4 = sv ∧ X.1 105 7 = h7 ∧ X.1 105 8 = h8 ∧ ∀ j, j < n → X.1 112 j = f2 j ∧ X.1 113 j = f3 j ∧ X.1 114 j = f4 j ∧ X.1 115 j = f5 j
section TKS
variable {n : Nat} {M X : Mm} {sv h7 h8 : Int32} {f2 f3 f4 f5 : Nat → Int32}
theorem TK.om (h : TK n M X sv h7 h8 f2 f3 f4 f5) {k j : Nat} {v : Int32} (hk : 128 ≤ k ∧ k ≤ 132) : TK n M (mI X k j v) sv h7 h8 f2 f3 f4 f5 := by
  obtain ⟨a, b, c, e, f, g⟩ := h
  have o5 : (mI X k j v).1 105 = X.1 105 := mI_other (by omega)
  refine ⟨a.mI (Or.inr (Or.inr hk)), by rw [o5]; exact b, by rw [o5]; exact c, by rw [o5]; exact e, by rw [o5]; exact f, fun q hq => ?_⟩
  rw [mI_other (show 112 ≠ k by omega), mI_other (show 113 ≠ k by omega), mI_other (show 114 ≠ k by omega), mI_other (show 115 ≠ k by omega)]
  exact g q hq
theorem TK.or (h : TK n M X sv h7 h8 f2 f3 f4 f5) {k : Nat} {r : Nat → Int32} (hk : 128 ≤ k ∧ k ≤ 132) : TK n M (rI X k r) sv h7 h8 f2 f3 f4 f5 := by
  obtain ⟨a, b, c, e, f, g⟩ := h
  have o5 : (rI X k r).1 105 = X.1 105 := rI_other (by omega)
  refine ⟨a.rI (Or.inr (Or.inr hk)), by rw [o5]; exact b, by rw [o5]; exact c, by rw [o5]; exact e, by rw [o5]; exact f, fun q hq => ?_⟩
  rw [rI_other (show 112 ≠ k by omega), rI_other (show 113 ≠ k by omega), rI_other (show 114 ≠ k by omega), rI_other (show 115 ≠ k by omega)]
  exact g q hq
theorem TK.fld (h : TK n M X sv h7 h8 f2 f3 f4 f5) {v : Int32} {sv' h7' h8' : Int32} {t : Nat} (ht : t = 4 ∨ t = 7 ∨ t = 8) (e4 : sv' = if t = 4 then v else sv) (e7 : h7' = if t = 7 then v else h7) (e8 : h8' = if t = 8 then v else h8) : TK n M (mI X 105 t v) sv' h7' h8' f2 f3 f4 f5 := by
  obtain ⟨a, b, c, e, f, g⟩ := h
  refine ⟨a.mI (Or.inl rfl), fun j q1 q2 q3 => ?_, ?_, ?_, ?_, fun q hq => ?_⟩
  · rw [mI_self, upd_other (by omega)]
    exact b j q1 q2 q3
  · rw [mI_self, e4]
    by_cases q : t = 4
    · subst q; rw [if_pos rfl, upd_self]
    · rw [if_neg q, upd_other (fun z => q z.symm)]; exact c
  · rw [mI_self, e7]
    by_cases q : t = 7
    · subst q; rw [if_pos rfl, upd_self]
    · rw [if_neg q, upd_other (fun z => q z.symm)]; exact e
  · rw [mI_self, e8]
    by_cases q : t = 8
    · subst q; rw [if_pos rfl, upd_self]
    · rw [if_neg q, upd_other (fun z => q z.symm)]; exact f
  · rw [mI_other (by decide), mI_other (by decide), mI_other (by decide), mI_other (by decide)]
    exact g q hq
theorem TK.row (h : TK n M X sv h7 h8 f2 f3 f4 f5) {k i : Nat} {v : Int32} {g2 g3 g4 g5 : Nat → Int32} (hk : 112 ≤ k ∧ k ≤ 115) (e2 : ∀ j, j < n → g2 j = if k = 112 then upd f2 i v j else f2 j) (e3 : ∀ j, j < n → g3 j = if k = 113 then upd f3 i v j else f3 j) (e4 : ∀ j, j < n → g4 j = if k = 114 then upd f4 i v j else f4 j) (e5 : ∀ j, j < n → g5 j = if k = 115 then upd f5 i v j else f5 j) : TK n M (mI X k i v) sv h7 h8 g2 g3 g4 g5 := by
  obtain ⟨a, b, c, e, f, g⟩ := h
  have o5 : (mI X k i v).1 105 = X.1 105 := mI_other (by omega)
  have key : ∀ (t : Nat) (fr gr : Nat → Int32), (∀ j, j < n → X.1 t j = fr j) → (∀ j, j < n → gr j = if k = t then upd fr i v j else fr j) → ∀ j, j < n → (mI X k i v).1 t j = gr j := by
    intro t fr gr p1 p2 j hj
    rw [p2 j hj]
    by_cases q : k = t
    · subst q
      rw [if_pos rfl, mI_self]
      show (if j = i then v else X.1 k j) = (if j = i then v else fr j)
      rw [p1 j hj]
    · rw [if_neg q, mI_other (fun z => q z.symm)]
      exact p1 j hj
  exact ⟨a.mI (Or.inr (Or.inl hk)), by rw [o5]; exact b, by rw [o5]; exact c, by rw [o5]; exact e, by rw [o5]; exact f, fun j hj => ⟨key 112 f2 g2 (fun q hq => (g q hq).1) e2 j hj, key 113 f3 g3 (fun q hq => (g q hq).2.1) e3 j hj, key 114 f4 g4 (fun q hq => (g q hq).2.2.1) e4 j hj, key 115 f5 g5 (fun q hq => (g q hq).2.2.2) e5 j hj⟩⟩
theorem TK.cg (h : TK n M X sv h7 h8 f2 f3 f4 f5) {g2 g3 g4 g5 : Nat → Int32} (hg : ∀ j, j < n → g2 j = f2 j ∧ g3 j = f3 j ∧ g4 j = f4 j ∧ g5 j = f5 j) : TK n M X sv h7 h8 g2 g3 g4 g5 := by
  obtain ⟨a, b, c, e, f, g⟩ := h
  refine ⟨a, b, c, e, f, fun j hj => ?_⟩
  obtain ⟨p1, p2, p3, p4⟩ := hg j hj
  rw [p1, p2, p3, p4]
  exact g j hj
theorem TK.cn (h : TK n M X sv h7 h8 f2 f3 f4 f5) (hn : M.1 105 0 = nI n) : X.1 105 0 = nI n := (h.2.1 0 (by decide) (by decide) (by decide)).trans hn
theorem TK.k (h : TK n M X sv h7 h8 f2 f3 f4 f5) {k : Nat} (hk : ¬ S8 k) : X.1 k = M.1 k := h.1.2 k hk
theorem TK.L (h : TK n M X sv h7 h8 f2 f3 f4 f5) : sL8 M X := ⟨h.k (by unfold S8; omega), h.k (by unfold S8; omega), h.2.1 35 (by decide) (by decide) (by decide)⟩
theorem TK.st (h : TK n M X sv h7 h8 f2 f3 f4 f5) (hst : ∀ q, q < n → ∃ s, s < 48 ∧ M.1 108 q = nI s) : ∀ q, q < n → ∃ s, s < 48 ∧ X.1 108 q = nI s := fun q hq => by rw [h.k (k := 108) (by unfold S8; omega)]; exact hst q hq
theorem TK.kd (h : TK n M X sv h7 h8 f2 f3 f4 f5) (hkd : ∀ q, q < n → ∃ k, k < 7 ∧ M.1 107 q = nI k) : ∀ q, q < n → ∃ k, k < 7 ∧ X.1 107 q = nI k := fun q hq => by rw [h.k (k := 107) (by unfold S8; omega)]; exact hkd q hq
theorem TK.hear (h : TK n M X sv h7 h8 f2 f3 f4 f5) {p : Nat} : hearF n (X.1 108) (X.1 113) p = hearF n (M.1 108) f3 p := by
  rw [h.k (k := 108) (by unfold S8; omega)]
  exact hearF_cong (fun o ho => (h.2.2.2.2.2 o ho).2.1)
theorem TK.near (h : TK n M X sv h7 h8 f2 f3 f4 f5) {p : Nat} : nearF n (X.1 108) (X.1 113) p = nearF n (M.1 108) f3 p := by
  rw [h.k (k := 108) (by unfold S8; omega)]
  exact nearF_cong (fun o ho => (h.2.2.2.2.2 o ho).2.1)
end TKS
noncomputable def hd8 (n : Nat) (M : Mm) (j : Nat) : Int32 := pIf (M.1 113 j = 2) 0 (hearF n (M.1 108) (M.1 113) j)
def hr8 (n i : Nat) (M X : Mm) : Prop := ∀ j, j < i → X.1 128 j = hd8 n M j ∧ X.1 129 j = nearF n (M.1 108) (M.1 113) j ∧ X.1 131 j = M.1 115 j
def K1 (n i : Nat) (M X : Mm) : Prop := TK n M X (M.1 105 4) (M.1 105 7) (M.1 105 8) (M.1 112) (M.1 113) (M.1 114) (M.1 115) ∧ hr8 n i M X
theorem K1_0 {n : Nat} {M : Mm} : K1 n 0 M M := ⟨⟨Same.rf, fun _ _ _ _ => rfl, rfl, rfl, rfl, fun _ _ => ⟨rfl, rfl, rfl, rfl⟩⟩, fun j hj => absurd hj (by omega)⟩
theorem K1_s {n i : Nat} {M X : Mm} {v w u : Int32} (h : K1 n i M X) (hv : v = hd8 n M i) (hw : w = nearF n (M.1 108) (M.1 113) i) (hu : u = M.1 115 i) : K1 n (i + 1) M (mI (mI (mI X 128 i v) 129 i w) 131 i u) := by
  refine ⟨((h.1.om (by omega)).om (by omega)).om (by omega), fun j hj => ?_⟩
  rw [mI_other (show 128 ≠ 131 by decide), mI_other (show 128 ≠ 129 by decide), mI_self, mI_other (show 129 ≠ 131 by decide), mI_self, mI_other (show 129 ≠ 128 by decide), mI_self, mI_other (show 131 ≠ 129 by decide), mI_other (show 131 ≠ 128 by decide)]
  by_cases e : j = i
  · subst e
    rw [upd_self, upd_self, upd_self]
    exact ⟨hv, hw, hu⟩
  · rw [upd_other e, upd_other e, upd_other e]
    exact h.2 j (by omega)
def K2 (n i : Nat) (M X : Mm) : Prop := TK n M X (sdF (M.1 107) (M.1 113) (M.1 105 4) i) (M.1 105 7) (M.1 105 8) (M.1 112) (M.1 113) (M.1 114) (M.1 115) ∧ hr8 n n M X ∧ ∀ j, j < i → X.1 130 j = nm8 n M j
theorem K2_0 {n : Nat} {M X : Mm} (h : K1 n n M X) : K2 n 0 M X := ⟨h.1, h.2, fun j hj => absurd hj (by omega)⟩
theorem K2_g {n i : Nat} {M X Y : Mm} {v : Int32} (h : K2 n i M X) (h2 : Y.2 = X.2) (hk : ∀ k, k ≠ 105 → k ≠ 130 → Y.1 k = X.1 k) (h5 : ∀ j, j ≠ 4 → Y.1 105 j = X.1 105 j) (h4 : Y.1 105 4 = pIf (M.1 113 i = 1 ∧ M.1 107 i = 5) (nxtS (X.1 105 4)) (X.1 105 4)) (hx : Y.1 130 = upd (X.1 130) i v) (hv : v = nm8 n M i) : K2 n (i + 1) M Y := by
  obtain ⟨⟨a, b, c, e, f, g⟩, hr, hx0⟩ := h
  refine ⟨⟨⟨h2.trans a.1, fun k q => ?_⟩, fun j q1 q2 q3 => (h5 j q1).trans (b j q1 q2 q3), ?_, (h5 7 (by decide)).trans e, (h5 8 (by decide)).trans f, fun j hj => ?_⟩, fun j hj => ?_, fun j hj => ?_⟩
  · rw [hk k (fun z => q (Or.inl z)) (fun z => q (Or.inr (Or.inr (by omega))))]
    exact a.2 k q
  · rw [h4, c]
    rfl
  · rw [hk 112 (by decide) (by decide), hk 113 (by decide) (by decide), hk 114 (by decide) (by decide), hk 115 (by decide) (by decide)]
    exact g j hj
  · rw [hk 128 (by decide) (by decide), hk 129 (by decide) (by decide), hk 131 (by decide) (by decide)]
    exact hr j hj
  · rw [hx]
    by_cases q : j = i
    · subst q; rw [upd_self]; exact hv
    · rw [upd_other q]; exact hx0 j (by omega)
theorem K2_A {n i : Nat} {M X : Mm} (h : K2 n i M X) (hi : i < n) (ht : ¬ tn8 n M i) (h1 : ¬ M.1 113 i = 1) : K2 n (i + 1) M (mI X 130 i (X.1 113 i)) :=
  K2_g h rfl (fun k _ q => mI_other q) (fun j _ => congrFun (mI_other (by decide)) j) ((congrFun (mI_other (by decide)) 4).trans (pIf_f (fun z => h1 z.1)).symm) (mI_self _ _ _ _) ((h.1.2.2.2.2.2 i hi).2.1.trans (pIf_f ht).symm)
theorem K2_D {n i : Nat} {M X : Mm} {v : Int32} (h : K2 n i M X) (ht : tn8 n M i) (h0 : M.1 113 i = 0) : K2 n (i + 1) M (mI (mI X 130 i v) 130 i 1) := by
  refine K2_g h rfl (fun k _ q => (mI_other q).trans (mI_other q)) (fun j _ => (congrFun (mI_other (by decide)) j).trans (congrFun (mI_other (by decide)) j)) ?_ (by rw [mI_self, mI_self, upd_upd]) ?_
  · rw [mI_other (by decide), mI_other (by decide), pIf_f (fun z => by rw [h0] at z; exact absurd z.1 (by decide))]
  · unfold nm8 nmF
    rw [pIf_t ht, pIf_t h0]
theorem K2_5 {n i : Nat} {M X : Mm} {v : Int32} (h : K2 n i M X) (h1 : M.1 113 i = 1) : (dr8 (mI X 130 i v) ((mI X 130 i v).1 107 i = 5)).1 105 4 = pIf (M.1 113 i = 1 ∧ M.1 107 i = 5) (nxtS (X.1 105 4)) (X.1 105 4) := by
  have e7 : (mI X 130 i v).1 107 i = M.1 107 i := (congrFun (mI_other (by decide)) i).trans (congrFun (h.1.k (k := 107) (by unfold S8; omega)) i)
  rw [dr8_4, e7, mI_other (show 105 ≠ 130 by decide)]
  by_cases q : M.1 107 i = 5
  · rw [pIf_t q, pIf_t ⟨h1, q⟩]
  · rw [pIf_f q, pIf_f (fun z => q z.2)]
theorem K2_B {n i : Nat} {M X : Mm} (h : K2 n i M X) (hi : i < n) (ht : ¬ tn8 n M i) (h1 : M.1 113 i = 1) : K2 n (i + 1) M (dr8 (mI X 130 i (X.1 113 i)) ((mI X 130 i (X.1 113 i)).1 107 i = 5)) :=
  K2_g h (dr8_2.trans rfl) (fun k q1 q2 => (dr8_o q1).trans (mI_other q2)) (fun j q => (dr8_j q).trans (congrFun (mI_other (by decide)) j)) (K2_5 h h1) ((dr8_o (by decide)).trans (mI_self _ _ _ _)) ((h.1.2.2.2.2.2 i hi).2.1.trans (pIf_f ht).symm)
theorem K2_C {n i : Nat} {M X : Mm} {v : Int32} (h : K2 n i M X) (ht : tn8 n M i) (h1 : M.1 113 i = 1) : K2 n (i + 1) M (mI (dr8 (mI X 130 i v) ((mI X 130 i v).1 107 i = 5)) 130 i 2) := by
  refine K2_g h (dr8_2.trans rfl) (fun k q1 q2 => (mI_other q2).trans ((dr8_o q1).trans (mI_other q2))) (fun j q => (congrFun (mI_other (by decide)) j).trans ((dr8_j q).trans (congrFun (mI_other (by decide)) j))) ((congrFun (mI_other (by decide)) 4).trans (K2_5 h h1)) (by rw [mI_self, dr8_o (by decide), mI_self, upd_upd]) ?_
  unfold nm8 nmF
  rw [pIf_t ht, pIf_f (by rw [h1]; decide)]
theorem K2_b {n i : Nat} {M X : Mm} {v : Int32} (h : K2 n i M X) (hi : i < n) (h0 : M.1 113 i = 0) : wb8P ((mI X 130 i v).1 105 36 = 0) ((mI X 130 i v).1 107 i) ((mI X 130 i v).1 105 3) ((mI X 130 i v).1 111 i) ((mI X 130 i v).1 128 i) ((mI X 130 i v).1 129 i) ((mI X 130 i v).1 109 i) (rulI (mI X 130 i v)) ↔ tn8 n M i := by
  obtain ⟨r1, r2, -⟩ := h.2.1 i hi
  have eL : rulI (mI X 130 i v) = rulI M := funext (fun q => rul_s ((h.1.om (v := v) (j := i) (by omega : 128 ≤ 130 ∧ 130 ≤ 132)).L) q)
  rw [eL, mI_other (show 105 ≠ 130 by decide), mI_other (show 107 ≠ 130 by decide), mI_other (show 111 ≠ 130 by decide), mI_other (show 128 ≠ 130 by decide), mI_other (show 129 ≠ 130 by decide), mI_other (show 109 ≠ 130 by decide), h.1.2.1 36 (by decide) (by decide) (by decide), h.1.2.1 3 (by decide) (by decide) (by decide), h.1.k (k := 107) (by unfold S8; omega), h.1.k (k := 111) (by unfold S8; omega), h.1.k (k := 109) (by unfold S8; omega), r1, r2, hd8, pIf_f (by rw [h0]; decide)]
  unfold tn8
  constructor
  · exact fun q => Or.inl ⟨h0, q⟩
  · rintro (q | q)
    · exact q.2
    · rw [h0] at q; exact absurd q.1 (by decide)
theorem K2_w {n i : Nat} {M X : Mm} {v : Int32} (h : K2 n i M X) (hi : i < n) (h1 : M.1 113 i = 1) : wsP ((mI X 130 i v).1 107 i) ((mI X 130 i v).1 114 i) ((mI X 130 i v).1 109 i) ((mI X 130 i v).1 128 i) ((mI X 130 i v).1 129 i) ((mI X 130 i v).1 107 i = 5 ∧ ¬ rulI (mI X 130 i v) 3 ≤ drawV ((mI X 130 i v).1 105 4) 10) (rulI (mI X 130 i v)) ↔ tn8 n M i := by
  obtain ⟨r1, r2, -⟩ := h.2.1 i hi
  have eL : rulI (mI X 130 i v) = rulI M := funext (fun q => rul_s ((h.1.om (v := v) (j := i) (by omega : 128 ≤ 130 ∧ 130 ≤ 132)).L) q)
  rw [eL, mI_other (show 105 ≠ 130 by decide), mI_other (show 107 ≠ 130 by decide), mI_other (show 114 ≠ 130 by decide), mI_other (show 128 ≠ 130 by decide), mI_other (show 129 ≠ 130 by decide), mI_other (show 109 ≠ 130 by decide), h.1.2.2.1, h.1.k (k := 107) (by unfold S8; omega), (h.1.2.2.2.2.2 i hi).2.2.1, h.1.k (k := 109) (by unfold S8; omega), r1, r2, hd8, pIf_f (by rw [h1]; decide)]
  unfold tn8
  constructor
  · exact fun q => Or.inr ⟨h1, q⟩
  · rintro (q | q)
    · rw [h1] at q; exact absurd q.1 (by decide)
    · exact q.2
def K3 (n i : Nat) (M X : Mm) : Prop := TK n M X (sd8 n M) (M.1 105 7) (M.1 105 8) (M.1 112) (upto (M.1 113) (nm8 n M) i) (upto (M.1 114) (nt8 n M) i) (M.1 115) ∧ ∀ j, j < n → X.1 130 j = nm8 n M j ∧ X.1 131 j = M.1 115 j
theorem K3_0 {n : Nat} {M X : Mm} (h : K2 n n M X) : K3 n 0 M X := ⟨h.1.cg (fun j _ => ⟨rfl, by rw [upto_0], by rw [upto_0], rfl⟩), fun j hj => ⟨h.2.2 j hj, (h.2.1 j hj).2.2⟩⟩
theorem K3_s {n i : Nat} {M X : Mm} {v w : Int32} (h : K3 n i M X) (hv : v = nt8 n M i) (hw : w = nm8 n M i) : K3 n (i + 1) M (mI (mI X 114 i v) 113 i w) := by
  refine ⟨(h.1.row (k := 114) (g2 := M.1 112) (g3 := upto (M.1 113) (nm8 n M) i) (g4 := upto (M.1 114) (nt8 n M) (i + 1)) (g5 := M.1 115) (by omega) (fun j _ => (if_neg (by decide)).symm) (fun j _ => (if_neg (by decide)).symm) (fun j _ => by rw [if_pos rfl, upto_s hv]) (fun j _ => (if_neg (by decide)).symm)).row (k := 113) (by omega) (fun j _ => (if_neg (by decide)).symm) (fun j _ => by rw [if_pos rfl, upto_s hw]) (fun j _ => (if_neg (by decide)).symm) (fun j _ => (if_neg (by decide)).symm), fun j hj => ?_⟩
  rw [mI_other (by decide), mI_other (by decide), mI_other (by decide), mI_other (by decide)]
  exact h.2 j hj
def K4 (n i : Nat) (M X : Mm) : Prop := TK n M X (sd8 n M) (bitsI i (hi8 n M)) (cl8 n M) (M.1 112) (nm8 n M) (nt8 n M) (M.1 115) ∧ ∀ j, j < n → X.1 131 j = M.1 115 j
theorem upto_lt {f g : Nat → Int32} {m j : Nat} (h : j < m) : upto f g m j = g j := pIf_t h
theorem K4_0 {n : Nat} {M X : Mm} (h : K3 n n M X) : K4 n 0 M (mI (mI X 105 7 0) 105 8 (nI (cntN n (fun q => (mI X 105 7 0).1 113 q = 1)))) := by
  have ec : cl8 n M = nI (cntN n (fun q => (mI X 105 7 0).1 113 q = 1)) := congrArg nI (cntN_cong (fun q hq => by rw [mI_other (by decide), (h.1.2.2.2.2.2 q hq).2.1, upto_lt hq]))
  refine ⟨((h.1.fld (t := 7) (sv' := sd8 n M) (h7' := 0) (h8' := M.1 105 8) (by omega) (if_neg (by decide)).symm (if_pos rfl).symm (if_neg (by decide)).symm).fld (t := 8) (by omega) (if_neg (by decide)).symm (if_neg (by decide)).symm (ec.trans (if_pos rfl).symm)).cg (fun j hj => ⟨rfl, (upto_lt hj).symm, (upto_lt hj).symm, rfl⟩), fun j hj => ?_⟩
  rw [mI_other (by decide), mI_other (by decide)]
  exact (h.2 j hj).2
theorem K4_t {n i : Nat} {M X : Mm} (h : K4 n i M X) (hh : hi8 n M i) : K4 n (i + 1) M (mI X 105 7 (X.1 105 7 ||| (1 <<< (nI i &&& 31)))) := by
  refine ⟨h.1.fld (t := 7) (by omega) (if_neg (by decide)).symm ?_ (if_neg (by decide)).symm, fun j hj => ?_⟩
  · rw [if_pos rfl, bitsI_t hh, h.1.2.2.2.1]
  · rw [mI_other (by decide)]
    exact h.2 j hj
theorem K4_f {n i : Nat} {M X : Mm} (h : K4 n i M X) (hh : ¬ hi8 n M i) : K4 n (i + 1) M X := by
  unfold K4
  rw [bitsI_f hh]
  exact h
def K5 (n i : Nat) (M X : Mm) : Prop := TK n M X (sd8 n M) (bitsI n (hi8 n M)) (cl8 n M) (upto (M.1 112) (ph8 n M) i) (nm8 n M) (nt8 n M) (M.1 115) ∧ ∀ j, j < n → X.1 131 j = M.1 115 j
theorem K5_0 {n : Nat} {M X : Mm} (h : K4 n n M X) : K5 n 0 M X := ⟨h.1.cg (fun j _ => ⟨by rw [upto_0], rfl, rfl, rfl⟩), h.2⟩
theorem K5_t {n i : Nat} {M X : Mm} {v : Int32} (h : K5 n i M X) (hv : v = ph8 n M i) : K5 n (i + 1) M (mI X 112 i v) := by
  refine ⟨h.1.row (k := 112) (by omega) (fun j _ => by rw [if_pos rfl, upto_s hv]) (fun j _ => (if_neg (by decide)).symm) (fun j _ => (if_neg (by decide)).symm) (fun j _ => (if_neg (by decide)).symm), fun j hj => ?_⟩
  rw [mI_other (by decide)]
  exact h.2 j hj
theorem K5_f {n i : Nat} {M X : Mm} (h : K5 n i M X) (hc : ¬ phP8 n M i) : K5 n (i + 1) M X := by
  unfold K5
  rw [← upto_e (f := M.1 112) (g := ph8 n M) (m := i) (pIf_f hc).symm]
  exact h
def ow (n i : Nat) (M X : Mm) : Prop := ∀ s, s < 48 → (X.1 132 s = -1 ∧ ∀ q, q < i → ¬ M.1 108 q = nI s) ∨ ∃ q, q < i ∧ X.1 132 s = nI q ∧ M.1 108 q = nI s
def K7 (n i : Nat) (M X : Mm) : Prop := TK n M X (sd8 n M) (bitsI n (hi8 n M)) (cl8 n M) (ph8 n M) (nm8 n M) (nt8 n M) (M.1 115) ∧ (∀ j, j < n → X.1 131 j = M.1 115 j) ∧ ow n i M X
theorem K7_0 {n : Nat} {M X : Mm} (h : K5 n n M X) : K7 n 0 M (rI X 132 (fillR (X.1 132) 48 (-1))) := by
  refine ⟨(h.1.or (by omega)).cg (fun j hj => ⟨(upto_lt hj).symm, rfl, rfl, rfl⟩), fun j hj => ?_, fun s hs => Or.inl ⟨?_, fun q hq => absurd hq (by omega)⟩⟩
  · rw [rI_other (by decide)]
    exact h.2 j hj
  · rw [rI_self]
    exact if_pos hs
theorem K7_s {n i s : Nat} {M X : Mm} (h : K7 n i M X) (hs : s < 48) (es : M.1 108 i = nI s) : K7 n (i + 1) M (mI X 132 s (nI i)) := by
  refine ⟨h.1.om (by omega), fun j hj => ?_, fun t ht => ?_⟩
  · rw [mI_other (by decide)]
    exact h.2.1 j hj
  · rw [mI_self]
    by_cases e : t = s
    · subst e
      rw [upd_self]
      exact Or.inr ⟨i, by omega, rfl, es⟩
    · rw [upd_other e]
      rcases h.2.2 t ht with ⟨q1, q2⟩ | ⟨q, q1, q2, q3⟩
      · refine Or.inl ⟨q1, fun q hq z => ?_⟩
        by_cases e2 : q = i
        · subst e2
          rw [es] at z
          exact e ((nI_eq (by omega) (by omega)).mp z).symm
        · exact q2 q (by omega) z
      · exact Or.inr ⟨q, by omega, q2, q3⟩
def K8 (n i : Nat) (M X : Mm) : Prop := TK n M X (sd8 n M) (bitsI n (hi8 n M)) (cl8 n M) (ph8 n M) (nm8 n M) (nt8 n M) (upto (M.1 115) (rs8 n M) i) ∧ (∀ j, j < n → X.1 131 j = M.1 115 j) ∧ ow n n M X
theorem K8_0 {n : Nat} {M X : Mm} (h : K7 n n M X) : K8 n 0 M X := ⟨h.1.cg (fun j _ => ⟨rfl, rfl, rfl, by rw [upto_0]⟩), h.2.1, h.2.2⟩
theorem own_t {k i : Nat} (hk : k < 48) (h8 : ¬ nI k < 8) (hi : i < 3) (hc : ¬ nI k - nI k / 8 * 8 + (nI i - 1) < 0) : ∃ t, t < 48 ∧ nI k - 8 + (nI i - 1) = nI t := by
  obtain ⟨j, q1, q2⟩ := vp_in_of (own_v hk h8 hi hc) (by decide)
  exact ⟨j, q1, q2⟩
/-- the seat ahead, by its owner and by who sits there -/
theorem th_N {n : Nat} {M X : Mm} {k i : Nat} (hn30 : n ≤ 30) (hw : ow n n M X) (h31 : ∀ j, j < n → X.1 131 j = M.1 115 j) (hdis : ∀ p q, p < n → q < n → M.1 108 p = M.1 108 q → p = q) (hk : k < 48) (h8 : ¬ nI k < 8) (hi : i < 3) : th8 X (nI k) i ↔ thN n (M.1 108) (M.1 115) (nI k) i := by
  unfold th8 thN
  refine and_congr_right (fun hc => and_congr_right (fun _ => ?_))
  obtain ⟨t, ht, et⟩ := own_t hk h8 hi hc
  have eo : ow8 X (nI k) i = X.1 132 t := by unfold ow8; rw [et, nI_clamp (by omega)]
  rw [eo, et]
  rcases hw t ht with ⟨q1, q2⟩ | ⟨q, q1, q2, q3⟩
  · constructor
    · exact fun z => absurd q1 z.1
    · exact fun ⟨q, a, b, _⟩ => absurd b (q2 q a)
  · rw [q2, nI_clamp (by omega), h31 q q1]
    constructor
    · exact fun z => ⟨q, q1, q3, z.2⟩
    · rintro ⟨q', a, b, c⟩
      have e := hdis q' q a q1 (b.trans q3.symm)
      subst e
      refine ⟨fun z => ?_, c⟩
      have tb : ∀ x, x < 30 → ¬ nI x = -1 := by decide +kernel
      exact tb q' (by omega) z
theorem cb_N {n : Nat} {M X : Mm} {k : Nat} (hn30 : n ≤ 30) (hw : ow n n M X) (h31 : ∀ j, j < n → X.1 131 j = M.1 115 j) (hdis : ∀ p q, p < n → q < n → M.1 108 p = M.1 108 q → p = q) (hk : k < 48) (h8 : ¬ nI k < 8) : ∀ i, i ≤ 3 → cb8 X (nI k) i = cbN n (M.1 108) (M.1 115) (nI k) i
  | 0, _ => rfl
  | i + 1, hi => by
    have ih := cb_N hn30 hw h31 hdis hk h8 i (by omega)
    have e := th_N hn30 hw h31 hdis hk h8 (i := i) (by omega)
    show pIf _ _ _ = pIf _ _ _
    by_cases q : th8 X (nI k) i
    · rw [pIf_t q, pIf_t (e.mp q), ih]
    · rw [pIf_f q, pIf_f (fun z => q (e.mpr z)), ih]
theorem K8_r {n i : Nat} {M X : Mm} (h : K8 n i M X) (hi : i < n) (hn30 : n ≤ 30) (hst : ∀ q, q < n → ∃ s, s < 48 ∧ M.1 108 q = nI s) (hdis : ∀ p q, p < n → q < n → M.1 108 p = M.1 108 q → p = q) : ris8 X i ↔ rsP n M i := by
  obtain ⟨k, hk, ek⟩ := hst i hi
  unfold ris8 rsP
  rw [(h.1.2.2.2.2.2 i hi).2.1, h.1.k (k := 109) (by unfold S8; omega), h.1.k (k := 108) (by unfold S8; omega), rul_s h.1.L 6, rul_s h.1.L 5, ek]
  refine or_congr Iff.rfl (and_congr_right (fun h8 => ?_))
  rw [cb_N hn30 h.2.2 h.2.1 hdis hk h8 3 (by omega)]
theorem K8_t {n i : Nat} {M X : Mm} (h : K8 n i M X) (hr : rsP n M i) : K8 n (i + 1) M (mI X 115 i 1) := by
  refine ⟨h.1.row (k := 115) (by omega) (fun j _ => (if_neg (by decide)).symm) (fun j _ => (if_neg (by decide)).symm) (fun j _ => (if_neg (by decide)).symm) (fun j _ => by rw [if_pos rfl, upto_s (f := M.1 115) (g := rs8 n M) (m := i) (pIf_t hr).symm]), fun j hj => ?_, fun s hs => ?_⟩
  · rw [mI_other (by decide)]
    exact h.2.1 j hj
  · rw [mI_other (by decide)]
    exact h.2.2 s hs
theorem K8_f {n i : Nat} {M X : Mm} (h : K8 n i M X) (hr : ¬ rsP n M i) : K8 n (i + 1) M X := by
  unfold K8
  rw [← upto_e (f := M.1 115) (g := rs8 n M) (m := i) (pIf_f hr).symm]
  exact h
theorem ow_O {n : Nat} {M X : Mm} (hn30 : n ≤ 30) (h : ow n n M X) : ∀ s, s < 48 → X.1 132 s = -1 ∨ ∃ q, q < 30 ∧ X.1 132 s = nI q := fun s hs => (h s hs).imp (fun z => z.1) (fun ⟨q, a, b, _⟩ => ⟨q, by omega, b⟩)
/-- behind a tick of the model -/
def tk8 (n : Nat) (M M' : Mm) : Prop := ∃ Z, TK n M Z (sd8 n M) (bitsI n (hi8 n M)) (cl8 n M) (ph8 n M) (nm8 n M) (nt8 n M) (rs8 n M) ∧ M' = mI Z 105 3 (M.1 105 3 + 1)
theorem tk8_e {n : Nat} {M X : Mm} (h : K8 n n M X) : tk8 n M (mI X 105 3 (M.1 105 3 + 1)) := ⟨X, h.1.cg (fun j hj => ⟨rfl, rfl, rfl, (upto_lt hj).symm⟩), rfl⟩
theorem modI_p {x v : Int32} (h : ∃ k, 1 ≤ k ∧ k ≤ 9 ∧ x = nI k) : modI v x = v - v / x * x := by
  obtain ⟨k, h1, h2, rfl⟩ := h
  unfold modI
  have t : ∀ k, k ≤ 9 → 1 ≤ k → ¬ nI k ≤ 0 := by decide +kernel
  rw [if_neg (t k h2 h1)]
theorem pc_n {x : Int32} (h : ∃ k, 1 ≤ k ∧ k ≤ 9 ∧ x = nI k) : ¬ x = 0 := by
  obtain ⟨k, h1, h2, rfl⟩ := h
  have t : ∀ k, k ≤ 9 → 1 ≤ k → ¬ nI k = 0 := by decide +kernel
  exact t k h2 h1
set_option maxHeartbeats 9000000 in
theorem m_X8_tick {l : Launch} {M : Mm} {n : Nat} (hn : M.1 105 0 = nI n) (hn30 : n ≤ 30) (hb : byOK M) (hst : ∀ q, q < n → ∃ s, s < 48 ∧ M.1 108 q = nI s) (hkd : ∀ q, q < n → ∃ k, k < 7 ∧ M.1 107 q = nI k) (hpc : ∀ q, q < n → ∃ k, 1 ≤ k ∧ k ≤ 9 ∧ M.1 110 q = nI k) (hdis : ∀ p q, p < n → q < n → M.1 108 p = M.1 108 q → p = q) : AMet l 3 yX8_tick cX8_tick 3 none [.ref 105] M (QN (tk8 n M)) := by
  refine AMet.of (by decide) (by simp [aargs, Value.category]) ?_
  show AW l 3 yX8_tick cX8_tick 3 none 0 [some (.ref 105), none, none] [] M _
  refine aw_iconst (v := 0) dX8_tick_0 (by decide) ?_
  refine aw_istore_n (i := 1) dX8_tick_1 rfl (by decide) ?_
  have lp2 : ∀ k9 i (X : Mm), i + k9 = n → K1 n i M X → AW l 3 yX8_tick cX8_tick 3 none 2 [some (.ref 105), some (.int (nI i)), none] [] X (QN (tk8 n M)) := by
    intro k9
    induction k9 using Nat.strongRecOn with
    | _ k9 ih =>
    intro i X hk9 hX
    have c0 : X.1 105 0 = nI n := hX.1.cn hn
    refine aw_iload_n (i := 1) dX8_tick_2 rfl rfl ?_
    refine aw_aload_n (i := 0) dX8_tick_3 rfl rfl ?_
    refine aw_getN (n := n) gf_X8_132 sh_105 rfl c0 dX8_tick_4 ?_
    refine aw_icmp_geN (tgt := 64) (by omega) (by omega) dX8_tick_7 (by decide) (fun h7 => ?_) (fun h7 => ?_)
    ·
      refine aw_iconst (v := 0) dX8_tick_64 (by decide) ?_
      refine aw_istore_n (i := 1) dX8_tick_65 rfl (by decide) ?_
      have lp66 : ∀ k9 i (X : Mm), i + k9 = n → K2 n i M X → AW l 3 yX8_tick cX8_tick 3 none 66 [some (.ref 105), some (.int (nI i)), none] [] X (QN (tk8 n M)) := by
        intro k9
        induction k9 using Nat.strongRecOn with
        | _ k9 ih =>
        intro i X hk9 hX
        have c0 : X.1 105 0 = nI n := hX.1.cn hn
        refine aw_iload_n (i := 1) dX8_tick_66 rfl rfl ?_
        refine aw_aload_n (i := 0) dX8_tick_67 rfl rfl ?_
        refine aw_getN (n := n) gf_X8_132 sh_105 rfl c0 dX8_tick_68 ?_
        refine aw_icmp_geN (tgt := 144) (by omega) (by omega) dX8_tick_71 (by decide) (fun h71 => ?_) (fun h71 => ?_)
        ·
          refine aw_iconst (v := 0) dX8_tick_144 (by decide) ?_
          refine aw_istore_n (i := 1) dX8_tick_145 rfl (by decide) ?_
          have lp146 : ∀ k9 i (X : Mm), i + k9 = n → K3 n i M X → AW l 3 yX8_tick cX8_tick 3 none 146 [some (.ref 105), some (.int (nI i)), none] [] X (QN (tk8 n M)) := by
            intro k9
            induction k9 using Nat.strongRecOn with
            | _ k9 ih =>
            intro i X hk9 hX
            have c0 : X.1 105 0 = nI n := hX.1.cn hn
            refine aw_iload_n (i := 1) dX8_tick_146 rfl rfl ?_
            refine aw_aload_n (i := 0) dX8_tick_147 rfl rfl ?_
            refine aw_getN (n := n) gf_X8_132 sh_105 rfl c0 dX8_tick_148 ?_
            refine aw_icmp_geN (tgt := 210) (by omega) (by omega) dX8_tick_151 (by decide) (fun h151 => ?_) (fun h151 => ?_)
            ·
              refine aw_aload_n (i := 0) dX8_tick_210 rfl rfl ?_
              refine aw_iconst (v := 0) dX8_tick_211 (by decide) ?_
              refine aw_putI pf_X8_235 sh_105 rfl dX8_tick_212 ?_
              refine aw_aload_n (i := 0) dX8_tick_215 rfl rfl ?_
              refine aw_aload_n (i := 0) dX8_tick_216 rfl rfl ?_
              refine aw_cVi ck_X8_238 (m_X8_clapping ((congrFun (mI_self _ _ _ _) _).trans ((upd_other (by decide)).trans c0)) hn30) sh_105 rfl (by decide) (by decide) rfl rfl (Nat.le_of_ble_eq_true rfl) dX8_tick_217 ?_
              refine aw_putI pf_X8_241 sh_105 rfl dX8_tick_220 ?_
              refine aw_iconst (v := 0) dX8_tick_223 (by decide) ?_
              refine aw_istore_n (i := 1) dX8_tick_224 rfl (by decide) ?_
              refine aw_iconst (v := 0) dX8_tick_225 (by decide) ?_
              refine aw_istore_n (i := 2) dX8_tick_226 rfl (by decide) ?_
              have lp227 : ∀ k9 i (X : Mm), i + k9 = n → K4 n i M X → AW l 3 yX8_tick cX8_tick 3 none 227 [some (.ref 105), some (.int (nI (cntN i (hi8 n M)))), some (.int (nI i))] [] X (QN (tk8 n M)) := by
                intro k9
                induction k9 using Nat.strongRecOn with
                | _ k9 ih =>
                intro i X hk9 hX
                have c0 : X.1 105 0 = nI n := hX.1.cn hn
                refine aw_iload_n (i := 2) dX8_tick_227 rfl rfl ?_
                refine aw_aload_n (i := 0) dX8_tick_228 rfl rfl ?_
                refine aw_getN (n := n) gf_X8_132 sh_105 rfl c0 dX8_tick_229 ?_
                refine aw_icmp_geN (tgt := 287) (by omega) (by omega) dX8_tick_232 (by decide) (fun h232 => ?_) (fun h232 => ?_)
                ·
                  refine aw_iconst (v := 0) dX8_tick_287 (by decide) ?_
                  refine aw_istore_n (i := 2) dX8_tick_288 rfl (by decide) ?_
                  have lp289 : ∀ k9 i (X : Mm), i + k9 = n → K5 n i M X → AW l 3 yX8_tick cX8_tick 3 none 289 [some (.ref 105), some (.int (nI (cntN n (hi8 n M)))), some (.int (nI i))] [] X (QN (tk8 n M)) := by
                    intro k9
                    induction k9 using Nat.strongRecOn with
                    | _ k9 ih =>
                    intro i X hk9 hX
                    have c0 : X.1 105 0 = nI n := hX.1.cn hn
                    refine aw_iload_n (i := 2) dX8_tick_289 rfl rfl ?_
                    refine aw_aload_n (i := 0) dX8_tick_290 rfl rfl ?_
                    refine aw_getN (n := n) gf_X8_132 sh_105 rfl c0 dX8_tick_291 ?_
                    refine aw_icmp_geN (tgt := 365) (by omega) (by omega) dX8_tick_294 (by decide) (fun h294 => ?_) (fun h294 => ?_)
                    ·
                      refine aw_iconst (v := 0) dX8_tick_365 (by decide) ?_
                      refine aw_istore_n (i := 2) dX8_tick_366 rfl (by decide) ?_
                      have lp367 : ∀ k6 e, e + k6 = 48 → AW l 3 yX8_tick cX8_tick 3 none 367 [some (.ref 105), some (.int (nI (cntN n (hi8 n M)))), some (.int (nI e))] [] (rI X 132 (fillR (X.1 132) e (-1))) (QN (tk8 n M)) := by
                        intro k6
                        induction k6 using Nat.strongRecOn with
                        | _ k6 ih6 =>
                        intro e hk6
                        refine aw_iload_n (i := 2) dX8_tick_367 rfl rfl ?_
                        refine aw_bipush (v := 48) dX8_tick_368 (by decide) ?_
                        refine aw_top (show (48 : Int32) = nI 48 from rfl) ?_
                        refine aw_icmp_geN (tgt := 386) (by omega) (by omega) dX8_tick_370 (by decide) (fun h370 => ?_) (fun h370 => ?_)
                        ·
                          refine aw_iconst (v := 0) dX8_tick_386 (by decide) ?_
                          refine aw_istore_n (i := 2) dX8_tick_387 rfl (by decide) ?_
                          have lp388 : ∀ k9 i (X : Mm), i + k9 = n → K7 n i M X → AW l 3 yX8_tick cX8_tick 3 none 388 [some (.ref 105), some (.int (nI (cntN n (hi8 n M)))), some (.int (nI i))] [] X (QN (tk8 n M)) := by
                            intro k9
                            induction k9 using Nat.strongRecOn with
                            | _ k9 ih =>
                            intro i X hk9 hX
                            have c0 : X.1 105 0 = nI n := hX.1.cn hn
                            refine aw_iload_n (i := 2) dX8_tick_388 rfl rfl ?_
                            refine aw_aload_n (i := 0) dX8_tick_389 rfl rfl ?_
                            refine aw_getN (n := n) gf_X8_132 sh_105 rfl c0 dX8_tick_390 ?_
                            refine aw_icmp_geN (tgt := 414) (by omega) (by omega) dX8_tick_393 (by decide) (fun h393 => ?_) (fun h393 => ?_)
                            ·
                              refine aw_iconst (v := 0) dX8_tick_414 (by decide) ?_
                              refine aw_istore_n (i := 2) dX8_tick_415 rfl (by decide) ?_
                              have lp416 : ∀ k9 i (X : Mm), i + k9 = n → K8 n i M X → AW l 3 yX8_tick cX8_tick 3 none 416 [some (.ref 105), some (.int (nI (cntN n (hi8 n M)))), some (.int (nI i))] [] X (QN (tk8 n M)) := by
                                intro k9
                                induction k9 using Nat.strongRecOn with
                                | _ k9 ih =>
                                intro i X hk9 hX
                                have c0 : X.1 105 0 = nI n := hX.1.cn hn
                                refine aw_iload_n (i := 2) dX8_tick_416 rfl rfl ?_
                                refine aw_aload_n (i := 0) dX8_tick_417 rfl rfl ?_
                                refine aw_getN (n := n) gf_X8_132 sh_105 rfl c0 dX8_tick_418 ?_
                                refine aw_icmp_geN (tgt := 445) (by omega) (by omega) dX8_tick_421 (by decide) (fun h421 => ?_) (fun h421 => ?_)
                                ·
                                  refine aw_aload_n (i := 0) dX8_tick_445 rfl rfl ?_
                                  refine aw_dup dX8_tick_446 rfl ?_
                                  refine aw_getX gf_X8_223 sh_105 rfl (hX.1.2.1 3 (by decide) (by decide) (by decide)) dX8_tick_447 ?_
                                  refine aw_iconst (v := 1) dX8_tick_450 (by decide) ?_
                                  refine aw_iadd dX8_tick_451 ?_
                                  refine aw_putI pf_X8_223 sh_105 rfl dX8_tick_452 ?_
                                  exact aw_vret rfl dX8_tick_455 ⟨rfl, by rw [show i = n from by omega] at hX; exact tk8_e hX⟩
                                ·
                                  refine aw_aload_n (i := 0) dX8_tick_424 rfl rfl ?_
                                  refine aw_iload_n (i := 2) dX8_tick_425 rfl rfl ?_
                                  refine aw_cVi ck_X8_244 (m_X8_isRising (by_s hX.1.L hb) (by omega) ((hX.1.st hst) i (by omega)) (ow_O hn30 hX.2.2)) sh_105 rfl (by decide) (by decide) rfl rfl (Nat.le_of_ble_eq_true rfl) dX8_tick_426 ?_
                                  refine aw_ifeq_b (tgt := 439) dX8_tick_429 (by decide) (fun h429 => ?_) (fun h429 => ?_)
                                  ·
                                    refine aw_iincN (i := 2) dX8_tick_439 rfl (by decide) ?_
                                    refine aw_goto (tgt := 416) dX8_tick_442 (by decide) ?_
                                    refine aw_loc (la := [some (.ref 105), some (.int (nI (cntN n (hi8 n M)))), some (.int (nI (i + 1)))]) ⟨rfl, rfl, rfl, trivial⟩ ?_
                                    have hr9 := K8_r hX (by omega) hn30 hst hdis
                                    first
                                      | exact ih (k9 - 1) (by omega) (i + 1) _ (by omega) (K8_t hX (hr9.mp h429))
                                      | exact ih (k9 - 1) (by omega) (i + 1) _ (by omega) (K8_f hX (fun z => h429 (hr9.mpr z)))
                                  ·
                                    refine aw_aload_n (i := 0) dX8_tick_432 rfl rfl ?_
                                    refine aw_getR gf_X8_47 sh_105 rfl dX8_tick_433 ?_
                                    refine aw_iload_n (i := 2) dX8_tick_436 rfl rfl ?_
                                    refine aw_iconst (v := 1) dX8_tick_437 (by decide) ?_
                                    refine aw_iastN sh_115 (by omega) (by omega) dX8_tick_438 ?_
                                    refine aw_iincN (i := 2) dX8_tick_439 rfl (by decide) ?_
                                    refine aw_goto (tgt := 416) dX8_tick_442 (by decide) ?_
                                    refine aw_loc (la := [some (.ref 105), some (.int (nI (cntN n (hi8 n M)))), some (.int (nI (i + 1)))]) ⟨rfl, rfl, rfl, trivial⟩ ?_
                                    have hr9 := K8_r hX (by omega) hn30 hst hdis
                                    first
                                      | exact ih (k9 - 1) (by omega) (i + 1) _ (by omega) (K8_t hX (hr9.mp h429))
                                      | exact ih (k9 - 1) (by omega) (i + 1) _ (by omega) (K8_f hX (fun z => h429 (hr9.mpr z)))
                              rw [show i = n from by omega] at hX
                              refine aw_loc (la := [some (.ref 105), some (.int (nI (cntN n (hi8 n M)))), some (.int (nI 0))]) ⟨rfl, rfl, rfl, trivial⟩ ?_
                              exact lp416 n 0 X (by omega) (K8_0 hX)
                            ·
                              obtain ⟨s, hs, es⟩ := hst i (by omega)
                              have es9 : X.1 108 i = nI s := (congrFun (hX.1.k (k := 108) (by unfold S8; omega)) i).trans es
                              refine aw_aload_n (i := 0) dX8_tick_396 rfl rfl ?_
                              refine aw_getR gf_X8_102 sh_105 rfl dX8_tick_397 ?_
                              refine aw_aload_n (i := 0) dX8_tick_400 rfl rfl ?_
                              refine aw_getR gf_X8_26 sh_105 rfl dX8_tick_401 ?_
                              refine aw_iload_n (i := 2) dX8_tick_404 rfl rfl ?_
                              refine aw_ialdX sh_108 (by omega) (by decide) es9 dX8_tick_405 ?_
                              refine aw_iload_n (i := 2) dX8_tick_406 rfl rfl ?_
                              refine aw_iastN sh_132 (by omega) (by omega) dX8_tick_407 ?_
                              refine aw_iincN (i := 2) dX8_tick_408 rfl (by decide) ?_
                              refine aw_goto (tgt := 388) dX8_tick_411 (by decide) ?_
                              refine aw_loc (la := [some (.ref 105), some (.int (nI (cntN n (hi8 n M)))), some (.int (nI (i + 1)))]) ⟨rfl, rfl, rfl, trivial⟩ ?_
                              exact ih (k9 - 1) (by omega) (i + 1) _ (by omega) (K7_s hX hs es)
                          rw [show i = n from by omega] at hX
                          rw [show e = 48 from by omega]
                          refine aw_loc (la := [some (.ref 105), some (.int (nI (cntN n (hi8 n M)))), some (.int (nI 0))]) ⟨rfl, rfl, rfl, trivial⟩ ?_
                          exact lp388 n 0 _ (by omega) (K7_0 hX)
                        ·
                          refine aw_aload_n (i := 0) dX8_tick_373 rfl rfl ?_
                          refine aw_getR gf_X8_102 sh_105 rfl dX8_tick_374 ?_
                          refine aw_iload_n (i := 2) dX8_tick_377 rfl rfl ?_
                          refine aw_iconst (v := (-1)) dX8_tick_378 (by decide) ?_
                          refine aw_iastN sh_132 (by omega) (by omega) dX8_tick_379 ?_
                          refine aw_iincN (i := 2) dX8_tick_380 rfl (by decide) ?_
                          refine aw_goto (tgt := 367) dX8_tick_383 (by decide) ?_
                          refine aw_mem (M' := rI X 132 (fillR (X.1 132) (e + 1) (-1))) (by rw [mI_rI, rI_self, rI_rI, fillR_succ]) ?_
                          refine aw_loc (la := [some (.ref 105), some (.int (nI (cntN n (hi8 n M)))), some (.int (nI (e + 1)))]) ⟨rfl, rfl, rfl, trivial⟩ ?_
                          exact ih6 (k6 - 1) (by omega) (e + 1) (by omega)
                      rw [show i = n from by omega] at hX
                      refine aw_mem (M' := rI X 132 (fillR (X.1 132) 0 (-1))) (by rw [fillR_0]; exact (rI_id X 132).symm) ?_
                      refine aw_loc (la := [some (.ref 105), some (.int (nI (cntN n (hi8 n M)))), some (.int (nI 0))]) ⟨rfl, rfl, rfl, trivial⟩ ?_
                      exact lp367 48 0 (by omega)
                    ·
                      obtain ⟨g2, g3, g4, g5⟩ := hX.1.2.2.2.2.2 i (by omega)
                      rw [upto_at (Nat.le_refl i)] at g2
                      refine aw_aload_n (i := 0) dX8_tick_297 rfl rfl ?_
                      refine aw_getR gf_X8_23 sh_105 rfl dX8_tick_298 ?_
                      refine aw_iload_n (i := 2) dX8_tick_301 rfl rfl ?_
                      refine aw_ialdX sh_107 (by omega) (by decide) (congrFun (hX.1.k (k := 107) (by unfold S8; omega)) i) dX8_tick_302 ?_
                      refine aw_iconst (v := 4) dX8_tick_303 (by decide) ?_
                      refine aw_icmp_ne (tgt := 359) dX8_tick_304 (by decide) (fun h304 => ?_) (fun h304 => ?_)
                      ·
                        refine aw_iincN (i := 2) dX8_tick_359 rfl (by decide) ?_
                        refine aw_goto (tgt := 289) dX8_tick_362 (by decide) ?_
                        refine aw_loc (la := [some (.ref 105), some (.int (nI (cntN n (hi8 n M)))), some (.int (nI (i + 1)))]) ⟨rfl, rfl, rfl, trivial⟩ ?_
                        exact ih (k9 - 1) (by omega) (i + 1) _ (by omega) (K5_f hX (fun z => by first | exact h304 z.1 | exact h314 z.2.1 | exact h325 z.2.2.1 | exact z.2.2.2 h335))
                      ·
                        refine aw_aload_n (i := 0) dX8_tick_307 rfl rfl ?_
                        refine aw_getR gf_X8_41 sh_105 rfl dX8_tick_308 ?_
                        refine aw_iload_n (i := 2) dX8_tick_311 rfl rfl ?_
                        refine aw_ialdX sh_113 (by omega) (by decide) g3 dX8_tick_312 ?_
                        refine aw_iconst (v := 1) dX8_tick_313 (by decide) ?_
                        refine aw_icmp_ne (tgt := 359) dX8_tick_314 (by decide) (fun h314 => ?_) (fun h314 => ?_)
                        ·
                          refine aw_iincN (i := 2) dX8_tick_359 rfl (by decide) ?_
                          refine aw_goto (tgt := 289) dX8_tick_362 (by decide) ?_
                          refine aw_loc (la := [some (.ref 105), some (.int (nI (cntN n (hi8 n M)))), some (.int (nI (i + 1)))]) ⟨rfl, rfl, rfl, trivial⟩ ?_
                          exact ih (k9 - 1) (by omega) (i + 1) _ (by omega) (K5_f hX (fun z => by first | exact h304 z.1 | exact h314 z.2.1 | exact h325 z.2.2.1 | exact z.2.2.2 h335))
                        ·
                          refine aw_aload_n (i := 0) dX8_tick_317 rfl rfl ?_
                          refine aw_getX gf_X8_235 sh_105 rfl hX.1.2.2.2.1 dX8_tick_318 ?_
                          refine aw_iload_n (i := 2) dX8_tick_321 rfl rfl ?_
                          refine aw_ishr dX8_tick_322 ?_
                          refine aw_iconst (v := 1) dX8_tick_323 (by decide) ?_
                          refine aw_iand dX8_tick_324 ?_
                          refine aw_if_ne (tgt := 359) dX8_tick_325 (by decide) (fun h325 => ?_) (fun h325 => ?_)
                          ·
                            refine aw_iincN (i := 2) dX8_tick_359 rfl (by decide) ?_
                            refine aw_goto (tgt := 289) dX8_tick_362 (by decide) ?_
                            refine aw_loc (la := [some (.ref 105), some (.int (nI (cntN n (hi8 n M)))), some (.int (nI (i + 1)))]) ⟨rfl, rfl, rfl, trivial⟩ ?_
                            exact ih (k9 - 1) (by omega) (i + 1) _ (by omega) (K5_f hX (fun z => by first | exact h304 z.1 | exact h314 z.2.1 | exact h325 z.2.2.1 | exact z.2.2.2 h335))
                          ·
                            refine aw_iconst (v := 2) dX8_tick_328 (by decide) ?_
                            refine aw_iload_n (i := 1) dX8_tick_329 rfl rfl ?_
                            refine aw_imul dX8_tick_330 ?_
                            refine aw_aload_n (i := 0) dX8_tick_331 rfl rfl ?_
                            refine aw_getX gf_X8_241 sh_105 rfl hX.1.2.2.2.2.1 dX8_tick_332 ?_
                            refine aw_icmp_le (tgt := 359) dX8_tick_335 (by decide) (fun h335 => ?_) (fun h335 => ?_)
                            ·
                              refine aw_iincN (i := 2) dX8_tick_359 rfl (by decide) ?_
                              refine aw_goto (tgt := 289) dX8_tick_362 (by decide) ?_
                              refine aw_loc (la := [some (.ref 105), some (.int (nI (cntN n (hi8 n M)))), some (.int (nI (i + 1)))]) ⟨rfl, rfl, rfl, trivial⟩ ?_
                              exact ih (k9 - 1) (by omega) (i + 1) _ (by omega) (K5_f hX (fun z => by first | exact h304 z.1 | exact h314 z.2.1 | exact h325 z.2.2.1 | exact z.2.2.2 h335))
                            ·
                              refine aw_aload_n (i := 0) dX8_tick_338 rfl rfl ?_
                              refine aw_getR gf_X8_38 sh_105 rfl dX8_tick_339 ?_
                              refine aw_iload_n (i := 2) dX8_tick_342 rfl rfl ?_
                              refine aw_aload_n (i := 0) dX8_tick_343 rfl rfl ?_
                              refine aw_getR gf_X8_38 sh_105 rfl dX8_tick_344 ?_
                              refine aw_iload_n (i := 2) dX8_tick_347 rfl rfl ?_
                              refine aw_ialdX sh_112 (by omega) (by decide) g2 dX8_tick_348 ?_
                              refine aw_iconst (v := 1) dX8_tick_349 (by decide) ?_
                              refine aw_iadd dX8_tick_350 ?_
                              refine aw_aload_n (i := 0) dX8_tick_351 rfl rfl ?_
                              refine aw_getR gf_X8_32 sh_105 rfl dX8_tick_352 ?_
                              refine aw_iload_n (i := 2) dX8_tick_355 rfl rfl ?_
                              refine aw_ialdX sh_110 (by omega) (by decide) (congrFun (hX.1.k (k := 110) (by unfold S8; omega)) i) dX8_tick_356 ?_
                              refine aw_irem dX8_tick_357 (pc_n (hpc i (by omega))) ?_
                              refine aw_iastN sh_112 (by omega) (by omega) dX8_tick_358 ?_
                              refine aw_iincN (i := 2) dX8_tick_359 rfl (by decide) ?_
                              refine aw_goto (tgt := 289) dX8_tick_362 (by decide) ?_
                              refine aw_loc (la := [some (.ref 105), some (.int (nI (cntN n (hi8 n M)))), some (.int (nI (i + 1)))]) ⟨rfl, rfl, rfl, trivial⟩ ?_
                              exact ih (k9 - 1) (by omega) (i + 1) _ (by omega) (K5_t hX (((modI_p (hpc i (by omega))).symm).trans (pIf_t (show phP8 n M i from ⟨h304, h314, h325, h335⟩)).symm))
                  rw [show i = n from by omega] at hX
                  refine aw_loc (la := [some (.ref 105), some (.int (nI (cntN n (hi8 n M)))), some (.int (nI 0))]) ⟨rfl, by rw [show i = n from by omega]; rfl, rfl, trivial⟩ ?_
                  exact lp289 n 0 X (by omega) (K5_0 hX)
                ·
                  obtain ⟨g2, g3, g4, g5⟩ := hX.1.2.2.2.2.2 i (by omega)
                  refine aw_aload_n (i := 0) dX8_tick_235 rfl rfl ?_
                  refine aw_getR gf_X8_41 sh_105 rfl dX8_tick_236 ?_
                  refine aw_iload_n (i := 2) dX8_tick_239 rfl rfl ?_
                  refine aw_ialdX sh_113 (by omega) (by decide) g3 dX8_tick_240 ?_
                  refine aw_iconst (v := 1) dX8_tick_241 (by decide) ?_
                  refine aw_icmp_ne (tgt := 281) dX8_tick_242 (by decide) (fun h242 => ?_) (fun h242 => ?_)
                  ·
                    refine aw_iincN (i := 2) dX8_tick_281 rfl (by decide) ?_
                    refine aw_goto (tgt := 227) dX8_tick_284 (by decide) ?_
                    have hh : ¬ hi8 n M i := fun z => by first | exact h242 z.1 | exact h263 ((modI_p (hpc i (by omega))).symm.trans z.2)
                    refine aw_loc (la := [some (.ref 105), some (.int (nI (cntN (i + 1) (hi8 n M)))), some (.int (nI (i + 1)))]) ⟨rfl, congrArg (fun z => some (Value.int z)) (nI_cnt_f hh), rfl, trivial⟩ (ih (k9 - 1) (by omega) (i + 1) _ (by omega) (K4_f hX hh))
                  ·
                    refine aw_aload_n (i := 0) dX8_tick_245 rfl rfl ?_
                    refine aw_getX gf_X8_223 sh_105 rfl (hX.1.2.1 3 (by decide) (by decide) (by decide)) dX8_tick_246 ?_
                    refine aw_aload_n (i := 0) dX8_tick_249 rfl rfl ?_
                    refine aw_getR gf_X8_38 sh_105 rfl dX8_tick_250 ?_
                    refine aw_iload_n (i := 2) dX8_tick_253 rfl rfl ?_
                    refine aw_ialdX sh_112 (by omega) (by decide) g2 dX8_tick_254 ?_
                    refine aw_iadd dX8_tick_255 ?_
                    refine aw_aload_n (i := 0) dX8_tick_256 rfl rfl ?_
                    refine aw_getR gf_X8_32 sh_105 rfl dX8_tick_257 ?_
                    refine aw_iload_n (i := 2) dX8_tick_260 rfl rfl ?_
                    refine aw_ialdX sh_110 (by omega) (by decide) (congrFun (hX.1.k (k := 110) (by unfold S8; omega)) i) dX8_tick_261 ?_
                    refine aw_irem dX8_tick_262 (pc_n (hpc i (by omega))) ?_
                    refine aw_if_ne (tgt := 281) dX8_tick_263 (by decide) (fun h263 => ?_) (fun h263 => ?_)
                    ·
                      refine aw_iincN (i := 2) dX8_tick_281 rfl (by decide) ?_
                      refine aw_goto (tgt := 227) dX8_tick_284 (by decide) ?_
                      have hh : ¬ hi8 n M i := fun z => by first | exact h242 z.1 | exact h263 ((modI_p (hpc i (by omega))).symm.trans z.2)
                      refine aw_loc (la := [some (.ref 105), some (.int (nI (cntN (i + 1) (hi8 n M)))), some (.int (nI (i + 1)))]) ⟨rfl, congrArg (fun z => some (Value.int z)) (nI_cnt_f hh), rfl, trivial⟩ (ih (k9 - 1) (by omega) (i + 1) _ (by omega) (K4_f hX hh))
                    ·
                      refine aw_aload_n (i := 0) dX8_tick_266 rfl rfl ?_
                      refine aw_dup dX8_tick_267 rfl ?_
                      refine aw_getI gf_X8_235 sh_105 rfl dX8_tick_268 ?_
                      refine aw_iconst (v := 1) dX8_tick_271 (by decide) ?_
                      refine aw_iload_n (i := 2) dX8_tick_272 rfl rfl ?_
                      refine aw_ishl dX8_tick_273 ?_
                      refine aw_ior dX8_tick_274 ?_
                      refine aw_putI pf_X8_235 sh_105 rfl dX8_tick_275 ?_
                      refine aw_iinc1 (i := 1) dX8_tick_278 rfl (by decide) ?_
                      refine aw_iincN (i := 2) dX8_tick_281 rfl (by decide) ?_
                      refine aw_goto (tgt := 227) dX8_tick_284 (by decide) ?_
                      have hh : hi8 n M i := ⟨h242, (modI_p (hpc i (by omega))).trans h263⟩
                      refine aw_loc (la := [some (.ref 105), some (.int (nI (cntN (i + 1) (hi8 n M)))), some (.int (nI (i + 1)))]) ⟨rfl, congrArg (fun z => some (Value.int z)) (nI_cnt_t hh), rfl, trivial⟩ (ih (k9 - 1) (by omega) (i + 1) _ (by omega) (K4_t hX hh))
              rw [show i = n from by omega] at hX
              refine aw_loc (la := [some (.ref 105), some (.int (nI (cntN 0 (hi8 n M)))), some (.int (nI 0))]) ⟨rfl, rfl, rfl, trivial⟩ ?_
              exact lp227 n 0 _ (by omega) (K4_0 hX)
            ·
              obtain ⟨g2, g3, g4, g5⟩ := hX.1.2.2.2.2.2 i (by omega)
              have gx := (hX.2 i (by omega)).1
              rw [upto_at (Nat.le_refl i)] at g3 g4
              refine aw_aload_n (i := 0) dX8_tick_154 rfl rfl ?_
              refine aw_getR gf_X8_44 sh_105 rfl dX8_tick_155 ?_
              refine aw_iload_n (i := 1) dX8_tick_158 rfl rfl ?_
              refine aw_aload_n (i := 0) dX8_tick_159 rfl rfl ?_
              refine aw_getR gf_X8_41 sh_105 rfl dX8_tick_160 ?_
              refine aw_iload_n (i := 1) dX8_tick_163 rfl rfl ?_
              refine aw_ialdN sh_113 (by omega) (by omega) dX8_tick_164 ?_
              refine aw_iconst (v := 1) dX8_tick_165 (by decide) ?_
              refine aw_icmp_ne (tgt := 190) dX8_tick_166 (by decide) (fun h166 => ?_) (fun h166 => ?_)
              ·
                refine aw_iconst (v := 0) dX8_tick_190 (by decide) ?_
                refine aw_iastN sh_114 (by omega) (by omega) dX8_tick_191 ?_
                refine aw_aload_n (i := 0) dX8_tick_192 rfl rfl ?_
                refine aw_getR gf_X8_41 sh_105 rfl dX8_tick_193 ?_
                refine aw_iload_n (i := 1) dX8_tick_196 rfl rfl ?_
                refine aw_aload_n (i := 0) dX8_tick_197 rfl rfl ?_
                refine aw_getR gf_X8_96 sh_105 rfl dX8_tick_198 ?_
                refine aw_iload_n (i := 1) dX8_tick_201 rfl rfl ?_
                refine aw_ialdN sh_130 (by omega) (by omega) dX8_tick_202 ?_
                refine aw_iastN sh_113 (by omega) (by omega) dX8_tick_203 ?_
                refine aw_iincN (i := 1) dX8_tick_204 rfl (by decide) ?_
                refine aw_goto (tgt := 146) dX8_tick_207 (by decide) ?_
                refine aw_loc (la := [some (.ref 105), some (.int (nI (i + 1))), none]) ⟨rfl, rfl, trivial⟩ ?_
                exact ih (k9 - 1) (by omega) (i + 1) _ (by omega) (K3_s hX (by first | exact (pIf_f (fun z => h166 (g3.trans z.1))).symm | exact (pIf_f (fun z => h176 (gx.trans z.2))).symm | (rw [g4]; exact (pIf_t ⟨g3.symm.trans h166, gx.symm.trans h176⟩).symm)) ((congrFun (mI_other (by decide)) i).trans gx))
              ·
                refine aw_aload_n (i := 0) dX8_tick_169 rfl rfl ?_
                refine aw_getR gf_X8_96 sh_105 rfl dX8_tick_170 ?_
                refine aw_iload_n (i := 1) dX8_tick_173 rfl rfl ?_
                refine aw_ialdN sh_130 (by omega) (by omega) dX8_tick_174 ?_
                refine aw_iconst (v := 1) dX8_tick_175 (by decide) ?_
                refine aw_icmp_ne (tgt := 190) dX8_tick_176 (by decide) (fun h176 => ?_) (fun h176 => ?_)
                ·
                  refine aw_iconst (v := 0) dX8_tick_190 (by decide) ?_
                  refine aw_iastN sh_114 (by omega) (by omega) dX8_tick_191 ?_
                  refine aw_aload_n (i := 0) dX8_tick_192 rfl rfl ?_
                  refine aw_getR gf_X8_41 sh_105 rfl dX8_tick_193 ?_
                  refine aw_iload_n (i := 1) dX8_tick_196 rfl rfl ?_
                  refine aw_aload_n (i := 0) dX8_tick_197 rfl rfl ?_
                  refine aw_getR gf_X8_96 sh_105 rfl dX8_tick_198 ?_
                  refine aw_iload_n (i := 1) dX8_tick_201 rfl rfl ?_
                  refine aw_ialdN sh_130 (by omega) (by omega) dX8_tick_202 ?_
                  refine aw_iastN sh_113 (by omega) (by omega) dX8_tick_203 ?_
                  refine aw_iincN (i := 1) dX8_tick_204 rfl (by decide) ?_
                  refine aw_goto (tgt := 146) dX8_tick_207 (by decide) ?_
                  refine aw_loc (la := [some (.ref 105), some (.int (nI (i + 1))), none]) ⟨rfl, rfl, trivial⟩ ?_
                  exact ih (k9 - 1) (by omega) (i + 1) _ (by omega) (K3_s hX (by first | exact (pIf_f (fun z => h166 (g3.trans z.1))).symm | exact (pIf_f (fun z => h176 (gx.trans z.2))).symm | (rw [g4]; exact (pIf_t ⟨g3.symm.trans h166, gx.symm.trans h176⟩).symm)) ((congrFun (mI_other (by decide)) i).trans gx))
                ·
                  refine aw_aload_n (i := 0) dX8_tick_179 rfl rfl ?_
                  refine aw_getR gf_X8_44 sh_105 rfl dX8_tick_180 ?_
                  refine aw_iload_n (i := 1) dX8_tick_183 rfl rfl ?_
                  refine aw_ialdN sh_114 (by omega) (by omega) dX8_tick_184 ?_
                  refine aw_iconst (v := 1) dX8_tick_185 (by decide) ?_
                  refine aw_iadd dX8_tick_186 ?_
                  refine aw_goto (tgt := 191) dX8_tick_187 (by decide) ?_
                  refine aw_iastN sh_114 (by omega) (by omega) dX8_tick_191 ?_
                  refine aw_aload_n (i := 0) dX8_tick_192 rfl rfl ?_
                  refine aw_getR gf_X8_41 sh_105 rfl dX8_tick_193 ?_
                  refine aw_iload_n (i := 1) dX8_tick_196 rfl rfl ?_
                  refine aw_aload_n (i := 0) dX8_tick_197 rfl rfl ?_
                  refine aw_getR gf_X8_96 sh_105 rfl dX8_tick_198 ?_
                  refine aw_iload_n (i := 1) dX8_tick_201 rfl rfl ?_
                  refine aw_ialdN sh_130 (by omega) (by omega) dX8_tick_202 ?_
                  refine aw_iastN sh_113 (by omega) (by omega) dX8_tick_203 ?_
                  refine aw_iincN (i := 1) dX8_tick_204 rfl (by decide) ?_
                  refine aw_goto (tgt := 146) dX8_tick_207 (by decide) ?_
                  refine aw_loc (la := [some (.ref 105), some (.int (nI (i + 1))), none]) ⟨rfl, rfl, trivial⟩ ?_
                  exact ih (k9 - 1) (by omega) (i + 1) _ (by omega) (K3_s hX (by first | exact (pIf_f (fun z => h166 (g3.trans z.1))).symm | exact (pIf_f (fun z => h176 (gx.trans z.2))).symm | (rw [g4]; exact (pIf_t ⟨g3.symm.trans h166, gx.symm.trans h176⟩).symm)) ((congrFun (mI_other (by decide)) i).trans gx))
          rw [show i = n from by omega] at hX
          refine aw_loc (la := [some (.ref 105), some (.int (nI 0)), none]) ⟨rfl, rfl, trivial⟩ ?_
          exact lp146 n 0 X (by omega) (K3_0 hX)
        ·
          obtain ⟨g2, g3, g4, g5⟩ := hX.1.2.2.2.2.2 i (by omega)
          refine aw_aload_n (i := 0) dX8_tick_74 rfl rfl ?_
          refine aw_getR gf_X8_96 sh_105 rfl dX8_tick_75 ?_
          refine aw_iload_n (i := 1) dX8_tick_78 rfl rfl ?_
          refine aw_aload_n (i := 0) dX8_tick_79 rfl rfl ?_
          refine aw_getR gf_X8_41 sh_105 rfl dX8_tick_80 ?_
          refine aw_iload_n (i := 1) dX8_tick_83 rfl rfl ?_
          refine aw_ialdN sh_113 (by omega) (by omega) dX8_tick_84 ?_
          refine aw_iastN sh_130 (by omega) (by omega) dX8_tick_85 ?_
          refine aw_aload_n (i := 0) dX8_tick_86 rfl rfl ?_
          refine aw_getR gf_X8_41 sh_105 rfl dX8_tick_87 ?_
          refine aw_iload_n (i := 1) dX8_tick_90 rfl rfl ?_
          refine aw_ialdX sh_113 (by omega) (by decide) (congrFun (mI_other (by decide)) _) dX8_tick_91 ?_
          refine aw_if_ne (tgt := 113) dX8_tick_92 (by decide) (fun h92 => ?_) (fun h92 => ?_)
          ·
            refine aw_aload_n (i := 0) dX8_tick_113 rfl rfl ?_
            refine aw_getR gf_X8_41 sh_105 rfl dX8_tick_114 ?_
            refine aw_iload_n (i := 1) dX8_tick_117 rfl rfl ?_
            refine aw_ialdX sh_113 (by omega) (by decide) (congrFun (mI_other (by decide)) _) dX8_tick_118 ?_
            refine aw_iconst (v := 1) dX8_tick_119 (by decide) ?_
            refine aw_icmp_ne (tgt := 138) dX8_tick_120 (by decide) (fun h120 => ?_) (fun h120 => ?_)
            ·
              refine aw_iincN (i := 1) dX8_tick_138 rfl (by decide) ?_
              refine aw_goto (tgt := 66) dX8_tick_141 (by decide) ?_
              refine aw_loc (la := [some (.ref 105), some (.int (nI (i + 1))), none]) ⟨rfl, rfl, trivial⟩ ?_
              exact ih (k9 - 1) (by omega) (i + 1) _ (by omega) (K2_A hX (by omega) (fun z => z.elim (fun q => h92 (g3.trans q.1)) (fun q => h120 (g3.trans q.1))) (fun z => h120 (g3.trans z)))
            ·
              refine aw_aload_n (i := 0) dX8_tick_123 rfl rfl ?_
              refine aw_iload_n (i := 1) dX8_tick_124 rfl rfl ?_
              refine aw_cVi ck_X8_232 (m_X8_stops (by_s (hX.1.om (by omega)).L hb) (by omega) ((hX.1.om (by omega)).kd hkd i (by omega))) sh_105 rfl (by decide) (by decide) rfl rfl (Nat.le_of_ble_eq_true rfl) dX8_tick_125 ?_
              refine aw_ifeq_b (tgt := 138) dX8_tick_128 (by decide) (fun h128 => ?_) (fun h128 => ?_)
              ·
                refine aw_iincN (i := 1) dX8_tick_138 rfl (by decide) ?_
                refine aw_goto (tgt := 66) dX8_tick_141 (by decide) ?_
                refine aw_loc (la := [some (.ref 105), some (.int (nI (i + 1))), none]) ⟨rfl, rfl, trivial⟩ ?_
                first
                  | exact ih (k9 - 1) (by omega) (i + 1) _ (by omega) (K2_B hX (by omega) (fun z => h128 ((K2_w hX (by omega) (g3.symm.trans h120)).mpr z)) (g3.symm.trans h120))
                  | exact ih (k9 - 1) (by omega) (i + 1) _ (by omega) (K2_C hX ((K2_w hX (by omega) (g3.symm.trans h120)).mp h128) (g3.symm.trans h120))
              ·
                refine aw_aload_n (i := 0) dX8_tick_131 rfl rfl ?_
                refine aw_getR gf_X8_96 sh_105 rfl dX8_tick_132 ?_
                refine aw_iload_n (i := 1) dX8_tick_135 rfl rfl ?_
                refine aw_iconst (v := 2) dX8_tick_136 (by decide) ?_
                refine aw_iastN sh_130 (by omega) (by omega) dX8_tick_137 ?_
                refine aw_iincN (i := 1) dX8_tick_138 rfl (by decide) ?_
                refine aw_goto (tgt := 66) dX8_tick_141 (by decide) ?_
                refine aw_loc (la := [some (.ref 105), some (.int (nI (i + 1))), none]) ⟨rfl, rfl, trivial⟩ ?_
                first
                  | exact ih (k9 - 1) (by omega) (i + 1) _ (by omega) (K2_B hX (by omega) (fun z => h128 ((K2_w hX (by omega) (g3.symm.trans h120)).mpr z)) (g3.symm.trans h120))
                  | exact ih (k9 - 1) (by omega) (i + 1) _ (by omega) (K2_C hX ((K2_w hX (by omega) (g3.symm.trans h120)).mp h128) (g3.symm.trans h120))
          ·
            refine aw_aload_n (i := 0) dX8_tick_95 rfl rfl ?_
            refine aw_iload_n (i := 1) dX8_tick_96 rfl rfl ?_
            refine aw_cVi ck_X8_229 (m_X8_begins (by_s (hX.1.om (by omega)).L hb) (by omega)) sh_105 rfl (by decide) (by decide) rfl rfl (Nat.le_of_ble_eq_true rfl) dX8_tick_97 ?_
            refine aw_ifeq_b (tgt := 113) dX8_tick_100 (by decide) (fun h100 => ?_) (fun h100 => ?_)
            ·
              refine aw_aload_n (i := 0) dX8_tick_113 rfl rfl ?_
              refine aw_getR gf_X8_41 sh_105 rfl dX8_tick_114 ?_
              refine aw_iload_n (i := 1) dX8_tick_117 rfl rfl ?_
              refine aw_ialdX sh_113 (by omega) (by decide) (congrFun (mI_other (by decide)) _) dX8_tick_118 ?_
              refine aw_iconst (v := 1) dX8_tick_119 (by decide) ?_
              refine aw_icmp_ne (tgt := 138) dX8_tick_120 (by decide) (fun h120 => ?_) (fun h120 => ?_)
              ·
                refine aw_iincN (i := 1) dX8_tick_138 rfl (by decide) ?_
                refine aw_goto (tgt := 66) dX8_tick_141 (by decide) ?_
                refine aw_loc (la := [some (.ref 105), some (.int (nI (i + 1))), none]) ⟨rfl, rfl, trivial⟩ ?_
                exact ih (k9 - 1) (by omega) (i + 1) _ (by omega) (K2_A hX (by omega) (fun z => h100 ((K2_b hX (by omega) (g3.symm.trans h92)).mpr z)) (fun z => h120 (g3.trans z)))
              ·
                refine aw_aload_n (i := 0) dX8_tick_123 rfl rfl ?_
                refine aw_iload_n (i := 1) dX8_tick_124 rfl rfl ?_
                refine aw_cVi ck_X8_232 (m_X8_stops (by_s (hX.1.om (by omega)).L hb) (by omega) ((hX.1.om (by omega)).kd hkd i (by omega))) sh_105 rfl (by decide) (by decide) rfl rfl (Nat.le_of_ble_eq_true rfl) dX8_tick_125 ?_
                refine aw_ifeq_b (tgt := 138) dX8_tick_128 (by decide) (fun h128 => ?_) (fun h128 => ?_)
                ·
                  refine aw_iincN (i := 1) dX8_tick_138 rfl (by decide) ?_
                  refine aw_goto (tgt := 66) dX8_tick_141 (by decide) ?_
                  exact absurd (h92.symm.trans h120) (by decide)
                ·
                  refine aw_aload_n (i := 0) dX8_tick_131 rfl rfl ?_
                  refine aw_getR gf_X8_96 sh_105 rfl dX8_tick_132 ?_
                  refine aw_iload_n (i := 1) dX8_tick_135 rfl rfl ?_
                  refine aw_iconst (v := 2) dX8_tick_136 (by decide) ?_
                  refine aw_iastN sh_130 (by omega) (by omega) dX8_tick_137 ?_
                  refine aw_iincN (i := 1) dX8_tick_138 rfl (by decide) ?_
                  refine aw_goto (tgt := 66) dX8_tick_141 (by decide) ?_
                  exact absurd (h92.symm.trans h120) (by decide)
            ·
              refine aw_aload_n (i := 0) dX8_tick_103 rfl rfl ?_
              refine aw_getR gf_X8_96 sh_105 rfl dX8_tick_104 ?_
              refine aw_iload_n (i := 1) dX8_tick_107 rfl rfl ?_
              refine aw_iconst (v := 1) dX8_tick_108 (by decide) ?_
              refine aw_iastN sh_130 (by omega) (by omega) dX8_tick_109 ?_
              refine aw_goto (tgt := 138) dX8_tick_110 (by decide) ?_
              refine aw_iincN (i := 1) dX8_tick_138 rfl (by decide) ?_
              refine aw_goto (tgt := 66) dX8_tick_141 (by decide) ?_
              refine aw_loc (la := [some (.ref 105), some (.int (nI (i + 1))), none]) ⟨rfl, rfl, trivial⟩ ?_
              exact ih (k9 - 1) (by omega) (i + 1) _ (by omega) (K2_D hX ((K2_b hX (by omega) (g3.symm.trans h92)).mp h100) (g3.symm.trans h92))
      rw [show i = n from by omega] at hX
      refine aw_loc (la := [some (.ref 105), some (.int (nI 0)), none]) ⟨rfl, rfl, trivial⟩ ?_
      exact lp66 n 0 X (by omega) (K2_0 hX)
    ·
      obtain ⟨g2, g3, g4, g5⟩ := hX.1.2.2.2.2.2 i (by omega)
      refine aw_aload_n (i := 0) dX8_tick_10 rfl rfl ?_
      refine aw_getR gf_X8_90 sh_105 rfl dX8_tick_11 ?_
      refine aw_iload_n (i := 1) dX8_tick_14 rfl rfl ?_
      refine aw_aload_n (i := 0) dX8_tick_15 rfl rfl ?_
      refine aw_getR gf_X8_41 sh_105 rfl dX8_tick_16 ?_
      refine aw_iload_n (i := 1) dX8_tick_19 rfl rfl ?_
      refine aw_ialdN sh_113 (by omega) (by omega) dX8_tick_20 ?_
      refine aw_iconst (v := 2) dX8_tick_21 (by decide) ?_
      refine aw_icmp_ne (tgt := 29) dX8_tick_22 (by decide) (fun h22 => ?_) (fun h22 => ?_)
      ·
        refine aw_aload_n (i := 0) dX8_tick_29 rfl rfl ?_
        refine aw_iload_n (i := 1) dX8_tick_30 rfl rfl ?_
        refine aw_cVi ck_X8_149 (m_X8_heardBy c0 hn30 (hX.1.st hst) (by omega)) sh_105 rfl (by decide) (by decide) rfl rfl (Nat.le_of_ble_eq_true rfl) dX8_tick_31 ?_
        refine aw_iastN sh_128 (by omega) (by omega) dX8_tick_34 ?_
        refine aw_aload_n (i := 0) dX8_tick_35 rfl rfl ?_
        refine aw_getR gf_X8_93 sh_105 rfl dX8_tick_36 ?_
        refine aw_iload_n (i := 1) dX8_tick_39 rfl rfl ?_
        refine aw_aload_n (i := 0) dX8_tick_40 rfl rfl ?_
        refine aw_iload_n (i := 1) dX8_tick_41 rfl rfl ?_
        refine aw_cVi ck_X8_152 (m_X8_besideOf ((congrFun (mI_other (by decide)) 0).trans c0) hn30 (by omega)) sh_105 rfl (by decide) (by decide) rfl rfl (Nat.le_of_ble_eq_true rfl) dX8_tick_42 ?_
        refine aw_iastN sh_129 (by omega) (by omega) dX8_tick_45 ?_
        refine aw_aload_n (i := 0) dX8_tick_46 rfl rfl ?_
        refine aw_getR gf_X8_99 sh_105 rfl dX8_tick_47 ?_
        refine aw_iload_n (i := 1) dX8_tick_50 rfl rfl ?_
        refine aw_aload_n (i := 0) dX8_tick_51 rfl rfl ?_
        refine aw_getR gf_X8_47 sh_105 rfl dX8_tick_52 ?_
        refine aw_iload_n (i := 1) dX8_tick_55 rfl rfl ?_
        refine aw_ialdN sh_115 (by omega) (by omega) dX8_tick_56 ?_
        refine aw_iastN sh_131 (by omega) (by omega) dX8_tick_57 ?_
        refine aw_iincN (i := 1) dX8_tick_58 rfl (by decide) ?_
        refine aw_goto (tgt := 2) dX8_tick_61 (by decide) ?_
        refine aw_loc (la := [some (.ref 105), some (.int (nI (i + 1))), none]) ⟨rfl, rfl, trivial⟩ ?_
        exact ih (k9 - 1) (by omega) (i + 1) _ (by omega) (K1_s hX (by rw [hX.1.hear]; exact (pIf_f (fun z => h22 (g3.trans z))).symm) ((hX.1.om (by omega)).near) (by rw [mI_other (by decide), mI_other (by decide)]; exact g5))
      ·
        refine aw_iconst (v := 0) dX8_tick_25 (by decide) ?_
        refine aw_goto (tgt := 34) dX8_tick_26 (by decide) ?_
        refine aw_iastN sh_128 (by omega) (by omega) dX8_tick_34 ?_
        refine aw_aload_n (i := 0) dX8_tick_35 rfl rfl ?_
        refine aw_getR gf_X8_93 sh_105 rfl dX8_tick_36 ?_
        refine aw_iload_n (i := 1) dX8_tick_39 rfl rfl ?_
        refine aw_aload_n (i := 0) dX8_tick_40 rfl rfl ?_
        refine aw_iload_n (i := 1) dX8_tick_41 rfl rfl ?_
        refine aw_cVi ck_X8_152 (m_X8_besideOf ((congrFun (mI_other (by decide)) 0).trans c0) hn30 (by omega)) sh_105 rfl (by decide) (by decide) rfl rfl (Nat.le_of_ble_eq_true rfl) dX8_tick_42 ?_
        refine aw_iastN sh_129 (by omega) (by omega) dX8_tick_45 ?_
        refine aw_aload_n (i := 0) dX8_tick_46 rfl rfl ?_
        refine aw_getR gf_X8_99 sh_105 rfl dX8_tick_47 ?_
        refine aw_iload_n (i := 1) dX8_tick_50 rfl rfl ?_
        refine aw_aload_n (i := 0) dX8_tick_51 rfl rfl ?_
        refine aw_getR gf_X8_47 sh_105 rfl dX8_tick_52 ?_
        refine aw_iload_n (i := 1) dX8_tick_55 rfl rfl ?_
        refine aw_ialdN sh_115 (by omega) (by omega) dX8_tick_56 ?_
        refine aw_iastN sh_131 (by omega) (by omega) dX8_tick_57 ?_
        refine aw_iincN (i := 1) dX8_tick_58 rfl (by decide) ?_
        refine aw_goto (tgt := 2) dX8_tick_61 (by decide) ?_
        refine aw_loc (la := [some (.ref 105), some (.int (nI (i + 1))), none]) ⟨rfl, rfl, trivial⟩ ?_
        exact ih (k9 - 1) (by omega) (i + 1) _ (by omega) (K1_s hX (pIf_t (g3.symm.trans h22)).symm ((hX.1.om (by omega)).near) (by rw [mI_other (by decide), mI_other (by decide)]; exact g5))
  refine aw_loc (la := [some (.ref 105), some (.int (nI 0)), none]) ⟨rfl, rfl, trivial⟩ ?_
  exact lp2 n 0 M (by omega) K1_0
