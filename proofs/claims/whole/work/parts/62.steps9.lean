/-! steps: front, fit, spread, few -/
section ST9
variable {n cnt mc : Nat} {A B A' B' : Mm}
theorem fR.b {c n L b : Nat} {X Y Y' : Mm} (h : fR c n L b X Y) (h1 : ∀ q, 107 ≤ q → q ≤ 115 → Y'.1 q = Y.1 q) (h2 : ∀ j, j = 3 ∨ j = 4 ∨ j = 36 → Y'.1 105 j = Y.1 105 j) (hL : sL8 Y Y') : fR c n L b X Y' := by
  refine ⟨h.1.b (fun q hq => h1 q (by omega) (by omega)) h2 hL, ?_, ?_, ?_⟩
  · rw [h1 110 (by omega) (by omega)]; exact h.2.1
  · rw [h1 112 (by omega) (by omega)]; exact h.2.2.1
  · rw [h1 115 (by omega) (by omega)]; exact h.2.2.2
theorem fre_run {n L : Nat} {M0 Y0 : Mm} (hn : n ≤ 30) (hst : ∀ q, q < n → ∃ s, s < 48 ∧ Y0.1 108 q = nI s) (hL : L ≠ 46 ∧ ¬ (46 + 2 ≤ L ∧ L ≤ 46 + 14)) (h : fR 46 n L 0 M0 Y0) : ∀ k X' Y', itR k (tickQ 46 n L) M0 X' → eR8 n k Y0 Y' → k ≤ 100 → fR 46 n L k X' Y'
  | 0, X', Y', h1, h2, _ => by
    have e1 : X' = M0 := h1
    have e2 : Y' = Y0 := h2
    subst e1 e2
    exact h
  | k + 1, X', Y', ⟨X, a1, a2⟩, ⟨Y, b1, b2⟩, hk => by
    have i1 := fre_run hn hst hL h k X Y a1 b1 (by omega)
    have f := eR8_fx k Y b1
    have hs : ∀ q, q < n → ∃ s, s < 48 ∧ Y.1 108 q = nI s := fun q hq => by rw [f.2.1 108 (by unfold S8; omega)]; exact hst q hq
    obtain ⟨Y1, y1, rfl⟩ := b2
    refine (tick_f i1 (Or.inl (by omega)) hn hs hL a2 y1).1.b (fun q p1 p2 => ?_) (fun j hj => ?_) ⟨?_, ?_, ?_⟩
    · rw [mI_other (by omega), mI_other (by omega)]
    · rw [mI_self, upd_other (by omega), mI_other (by decide)]
    · rw [mI_other (by decide), mI_other (by decide)]
    · rw [mI_other (by decide), mI_other (by decide)]
    · rw [mI_self, upd_other (by decide), mI_other (by decide)]
theorem d48 : ∀ s, s < 48 → nI s / 8 = nI (s / 8) ∧ s / 8 < 6 := by decide +kernel
theorem mn6 : ∀ q, q < 6 → minI 6 (nI q) = nI q ∧ ∀ r, r < 6 → (nI q < nI r → minI (nI r) (nI q) = nI q) ∧ (¬ nI q < nI r → minI (nI r) (nI q) = nI r) ∧ ¬ nI r = -1 := by decide +kernel
theorem lst_eq {s s' d d' : Nat → Int32} (h1 : agr n s s') (h2 : agr n d d') (hst : ∀ q, q < n → ∃ k, k < 48 ∧ s' q = nI k) : ∀ i, i ≤ n → (lsr s d i = 6 ∧ lst8 s' d' i = -1) ∨ ∃ r, r < 6 ∧ lsr s d i = nI r ∧ lst8 s' d' i = nI r
  | 0, _ => Or.inl ⟨rfl, rfl⟩
  | i + 1, hi => by
    have ih := lst_eq h1 h2 hst i (by omega)
    obtain ⟨k, hk, ek⟩ := hst i (by omega)
    obtain ⟨e8, q6⟩ := d48 k hk
    obtain ⟨m1, m2⟩ := mn6 (k / 8) q6
    show (pIf _ _ _ = _ ∧ pIf _ _ _ = _) ∨ ∃ r, r < 6 ∧ pIf _ _ _ = nI r ∧ pIf _ _ _ = nI r
    rw [h1 i (by omega), h2 i (by omega), ek, e8]
    by_cases c : d' i = 1
    · rw [pIf_t c]
      rcases ih with ⟨a, b⟩ | ⟨r, hr, a, b⟩
      · rw [a, b, pIf_t ⟨c, Or.inl rfl⟩, m1]
        exact Or.inr ⟨_, q6, rfl, rfl⟩
      · obtain ⟨t1, t2, t3⟩ := m2 r hr
        rw [a, b]
        by_cases z : nI (k / 8) < nI r
        · rw [pIf_t ⟨c, Or.inr z⟩, t1 z]
          exact Or.inr ⟨_, q6, rfl, rfl⟩
        · rw [pIf_f (fun y => y.2.elim t3 z), t2 z]
          exact Or.inr ⟨_, hr, rfl, rfl⟩
    · rw [pIf_f c, pIf_f (fun z => c z.1)]
      exact ih
theorem ff6 : ∀ r, r < 6 → ¬ (6 : Int32) ≤ nI r := by decide +kernel
theorem st_front {x v w : Int32} (h : J n cnt mc A B) (hc : S_front A n cnt x v A') (hm : S8_front B n x w B') : v = w ∧ Jx A' B' := by
  unfold S_front at hc
  unfold S8_front at hm
  have n30 := h.n30
  have l9 := lrL (k := x) h.c6
  by_cases c1 : ¬ x < -1 ∧ ¬ B.1 105 1 ≤ x
  · rw [pIf_t (h.isl.mpr c1)] at hc
    rw [pIf_t c1] at hm
    obtain ⟨X, M0, a1, a2, a3, rfl⟩ := hc
    obtain ⟨Y, b1, rfl, rfl⟩ := hm
    have hn9 := bec_n (v := 44) h.hn a1
    have oI := itR_I (lsM_I hn9 a2) 60 A' a3
    have m0 : ∀ q, q ≠ 58 → q ≠ 59 → M0.1 q = X.1 q := fun q p1 p2 => a2.1.2 q (by omega)
    have hT := (h.gtT (v := 44) (Or.inl rfl) (h.ok c1) a1).a (X' := M0) (fun q hq => m0 q (by omega) (by omega))
    have hF : fR 46 n (lawRow 78 cnt x) 0 M0 (B8 n x (kepM n B)) := by
      refine ⟨hT, ?_, ?_, ?_⟩
      · rw [m0 _ (by decide) (by decide), B8_o (by decide), kepM_o (by decide) (by decide)]
        exact fun j hj => (bec_at a1 (t := 3) (by omega) (by omega)).trans (h.1.row (t := 3) (by omega) hj)
      · rw [m0 _ (by decide) (by decide), B8_o (by decide), kepM_o (by decide) (by decide)]
        exact fun j hj => (bec_at a1 (t := 5) (by omega) (by omega)).trans (h.1.row (t := 5) (by omega) hj)
      · rw [m0 _ (by decide) (by decide), B8_o (by decide), kepM_o (by decide) (by decide)]
        exact fun j hj => (bec_at a1 (t := 8) (by omega) (by omega)).trans (h.1.row (t := 8) (by omega) hj)
    have hst : ∀ q, q < n → ∃ s, s < 48 ∧ (B8 n x (kepM n B)).1 108 q = nI s := by
      rw [B8_o (by decide), kepM_o (by decide) (by decide)]
      exact h.1.g.2.2.1
    have f := fre_run n30 hst (by omega) hF 60 A' Y a3 b1 (by omega)
    have f8 := eR8_fx 60 Y b1
    have e := lst_eq f.1.2.1 f.2.2.2 (fun q hq => by rw [f8.2.1 108 (by unfold S8; omega)]; exact hst q hq) n (Nat.le_refl n)
    have hA : eqA A A' := ⟨fun k hk => by rw [oI.1.2 k (fun z => hk (by unfold sA; omega)), a1.1.2 k (fun z => hk (by unfold sA; omega))], fun k hk => by rw [oI.1.1, a1.1.1]⟩
    refine ⟨?_, (h.eq hA (wb8_out ⟨Y, b1, rfl⟩).eq).x⟩
    rcases e with ⟨e1, e2⟩ | ⟨r, hr, e1, e2⟩
    · show (if 6 ≤ lsr (A'.1 (46 + 3)) (A'.1 (46 + 10)) n then (-1 : Int32) else lsr (A'.1 (46 + 3)) (A'.1 (46 + 10)) n) = _
      rw [e1, e2]
      rfl
    · show (if 6 ≤ lsr (A'.1 (46 + 3)) (A'.1 (46 + 10)) n then (-1 : Int32) else lsr (A'.1 (46 + 3)) (A'.1 (46 + 10)) n) = _
      rw [e1, e2, if_neg (ff6 r hr)]
  · rw [pIf_f (fun z => c1 (h.isl.mp z))] at hc
    rw [pIf_f c1] at hm
    obtain ⟨rfl, rfl⟩ := hc
    obtain ⟨rfl, rfl⟩ := hm
    exact ⟨rfl, (h.ref (k := 0) (by decide)).x⟩
/-! what is meant: it depends on the class's crowd alone -/
theorem J.lws2 (h : J n cnt mc A B) {B9 : Mm} (h9 : J n cnt mc A B9) {w : Int32} {Y Z : Mm} (hw : w = -1 ∨ ∃ k, k < cnt ∧ w = nI k) (y8 : Y.1 118 = B.1 118) (y9 : Y.1 119 = B.1 119) (y35 : Y.1 105 35 = w) (z8 : Z.1 118 = B9.1 118) (z9 : Z.1 119 = B9.1 119) (z35 : Z.1 105 35 = w) : agr 7 (rulI Y) (rulI Z) := (h.lws hw y8 y9 y35).sy.tr (h9.lws hw z8 z9 z35)
theorem J.two (h : J n cnt mc A B) {B9 : Mm} (h9 : J n cnt mc A B9) {t : Nat} (ht : t < 10) : agr n (B.1 (107 + t)) (B9.1 (107 + t)) := fun j hj => (h.1.row ht hj).symm.trans (h9.1.row ht hj)
theorem J.q0 (h : J n cnt mc A B) {B9 : Mm} (h9 : J n cnt mc A B9) {w : Int32} (hw : w = -1 ∨ ∃ k, k < cnt ∧ w = nI k) {Y Z : Mm} (hY : ∀ k, k ≠ 105 → k ≠ 113 → k ≠ 114 → ¬ (133 ≤ k ∧ k ≤ 136) → Y.1 k = B.1 k) (hZ : ∀ k, k ≠ 105 → k ≠ 113 → k ≠ 114 → ¬ (133 ≤ k ∧ k ≤ 136) → Z.1 k = B9.1 k) (r3 : agr n (Y.1 113) (Z.1 113)) (r4 : agr n (Y.1 114) (Z.1 114)) (e3 : Y.1 105 3 = Z.1 105 3) (e4 : Y.1 105 4 = Z.1 105 4) (e6 : Y.1 105 36 = Z.1 105 36) : qR n (B8 n w Y) (B8 n w Z) := by
  refine ⟨?_, ?_, ?_, ?_, ?_, ?_, ?_, ?_, ?_, ?_⟩
  · rw [B8_o (by decide), B8_o (by decide), hY _ (by decide) (by decide) (by decide) (by decide), hZ _ (by decide) (by decide) (by decide) (by decide)]; exact h.two h9 (t := 0) (by omega)
  · rw [B8_o (by decide), B8_o (by decide), hY _ (by decide) (by decide) (by decide) (by decide), hZ _ (by decide) (by decide) (by decide) (by decide)]; exact h.two h9 (t := 1) (by omega)
  · rw [B8_o (by decide), B8_o (by decide), hY _ (by decide) (by decide) (by decide) (by decide), hZ _ (by decide) (by decide) (by decide) (by decide)]; exact h.two h9 (t := 2) (by omega)
  · rw [B8_o (by decide), B8_o (by decide), hY _ (by decide) (by decide) (by decide) (by decide), hZ _ (by decide) (by decide) (by decide) (by decide)]; exact h.two h9 (t := 4) (by omega)
  · rw [B8_o (by decide), B8_o (by decide)]; exact r3
  · rw [B8_o (by decide), B8_o (by decide)]; exact r4
  · rw [B8_f (by decide) (by decide), B8_f (by decide) (by decide)]; exact e3
  · rw [B8_f (by decide) (by decide), B8_f (by decide) (by decide)]; exact e4
  · rw [B8_f (by decide) (by decide), B8_f (by decide) (by decide)]; exact e6
  · refine h.lws2 h9 hw ?_ ?_ B8_35 ?_ ?_ B8_35
    · rw [B8_o (by decide), hY _ (by decide) (by decide) (by decide) (by decide)]
    · rw [B8_o (by decide), hY _ (by decide) (by decide) (by decide) (by decide)]
    · rw [B8_o (by decide), hZ _ (by decide) (by decide) (by decide) (by decide)]
    · rw [B8_o (by decide), hZ _ (by decide) (by decide) (by decide) (by decide)]
theorem J.e3 (h : J n cnt mc A B) : A.1 14 12 = B.1 105 3 := h.1.2.2.2.2.1
theorem J.e4 (h : J n cnt mc A B) : A.1 14 13 = B.1 105 4 := h.1.2.2.2.2.2.1
theorem J.e36 (h : J n cnt mc A B) : B.1 105 36 = 0 := h.2.2.2.2.2.2.2.1
/-! fit -/
noncomputable def tlN (n : Nat) (w : Int32) (m : Nat) (B : Mm) : Nat → Int32 := (evF n w m (kepM n B)).1 137
def TC (n m : Nat) (s : Int32) (B : Mm) (l7 : Nat) : Prop := ∀ i, i < m → tlN n (nI l7) m B i = (elL8 B s (nI i)).toInt32
def TM (n m k : Nat) (B : Mm) (l7 : Nat) : Prop := ∀ i, i < m → it8 B k i = tlN n (nI l7) m B i
theorem J.tc (h : J n cnt mc A B) {m : Nat} {s : Int32} {l7 : Nat} {X Y : Mm} (hl : l7 < cnt) (hX : outE 44 A X) (hY : gtQ 44 n cnt (nI l7) m X Y) : told Y s m ↔ TC n m s B l7 := by
  have hJ : J n cnt mc X B := h.eq (hX.eqA (Or.inl rfl)) eqB.rf
  have hw : wb8 n (nI l7) m B (bakM n (evF n (nI l7) m (kepM n B))) := ⟨_, ev8_F _ _ _ _, rfl⟩
  obtain ⟨-, e2, e3⟩ := hJ.gtE (Or.inl rfl) (Or.inr ⟨l7, hl, rfl⟩) hY hw
  have o := wb8_out hw
  have e : ∀ i, elL8 (bakM n (evF n (nI l7) m (kepM n B))) s (nI i) = elL8 B s (nI i) := fun i => by
    unfold elL8
    rw [o.1, o.2.1 120 (by omega), o.2.1 122 (by omega)]
  have d : ∀ i, i < m → Y.1 45 i = tlN n (nI l7) m B i := fun i hi => (e2 i hi).trans (bak_v (by decide))
  unfold told TC
  refine forall_congr' (fun i => ?_)
  refine ⟨fun z hi => ?_, fun z hi => ?_⟩
  · rw [← d i hi, z hi, st_element e3, e]
  · rw [d i hi, z hi, st_element e3, e]
end ST9
