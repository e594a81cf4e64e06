/-! steps: few -/
section ST11
variable {n cnt mc : Nat} {A B A' B' : Mm}
noncomputable def aE (n : Nat) (B : Mm) (a b : Int32) : Int32 := bcI ((evF n (B.1 105 5) 60 (as0 n a b B)).1 105 51)
def cE (n : Nat) (A B : Mm) (m a b : Int32) : Prop := ¬ mbaV A a = 0 ∧ ¬ mbaV A b = 0 ∧ ¬ aE n B a b < m
theorem as0_o {a b : Int32} {k : Nat} {M : Mm} (h : k ≠ 105) (h3 : k ≠ 113) (h4 : k ≠ 114) (h2 : ¬ (133 ≤ k ∧ k ≤ 136)) : (as0 n a b M).1 k = M.1 k := by
  unfold as0
  rw [ask8_o ⟨h3, h4⟩, ask8_o ⟨h3, h4⟩, kepM_o h h2]
theorem as0_f {a b : Int32} {j : Nat} {M : Mm} (h2 : ¬ (47 ≤ j ∧ j ≤ 50)) : (as0 n a b M).1 105 j = M.1 105 j := by
  unfold as0
  rw [ask8_o (by decide), ask8_o (by decide), kepM_f h2]
/-- asking: the same of both -/
theorem ask_r {a : Int32} {X Y : Mm} (h8 : agr n (X.1 54) (Y.1 113)) (h9 : agr n (X.1 55) (Y.1 114)) : agr n ((askM a X).1 54) ((ask8 a Y).1 113) ∧ agr n ((askM a X).1 55) ((ask8 a Y).1 114) := by
  unfold askM ask8
  by_cases e : a = -1
  · rw [pIf_t e, pIf_t e]; exact ⟨h8, h9⟩
  · rw [pIf_f e, pIf_f e, mI_other (show 54 ≠ 46 + 9 by decide), mI_other (show 113 ≠ 114 by decide), show (46 + 8) = 54 from rfl, show (46 + 9) = 55 from rfl, mI_self, mI_self, mI_self, mI_self, mI_other (show 55 ≠ 54 by decide), mI_other (show 114 ≠ 113 by decide)]
    refine ⟨fun j hj => ?_, fun j hj => ?_⟩
    · by_cases q : j = a.toNatClampNeg
      · subst q; rw [upd_self, upd_self]
      · rw [upd_other q, upd_other q]; exact h8 j hj
    · by_cases q : j = a.toNatClampNeg
      · subst q; rw [upd_self, upd_self]
      · rw [upd_other q, upd_other q]; exact h9 j hj
theorem ask_8 {a b : Int32} {X Y : Mm} (h8 : agr n (X.1 113) (Y.1 113)) (h9 : agr n (X.1 114) (Y.1 114)) : agr n ((ask8 a X).1 113) ((ask8 a Y).1 113) ∧ agr n ((ask8 a X).1 114) ((ask8 a Y).1 114) := by
  unfold ask8
  by_cases e : a = -1
  · rw [pIf_t e, pIf_t e]; exact ⟨h8, h9⟩
  · rw [pIf_f e, pIf_f e, mI_other (show 113 ≠ 114 by decide), mI_other (show 113 ≠ 114 by decide), mI_self, mI_self, mI_self, mI_self, mI_other (show 114 ≠ 113 by decide), mI_other (show 114 ≠ 113 by decide)]
    refine ⟨fun j hj => ?_, fun j hj => ?_⟩
    · by_cases q : j = a.toNatClampNeg
      · subst q; rw [upd_self, upd_self]
      · rw [upd_other q, upd_other q]; exact h8 j hj
    · by_cases q : j = a.toNatClampNeg
      · subst q; rw [upd_self, upd_self]
      · rw [upd_other q, upd_other q]; exact h9 j hj
theorem ask_md {a : Int32} {Y : Mm} (h : mdR n Y) : mdR n (ask8 a Y) := by
  unfold ask8
  by_cases e : a = -1
  · rw [pIf_t e]; exact h
  · rw [pIf_f e]
    intro j hj
    rw [mI_other (show 113 ≠ 114 by decide), mI_self, mI_self, mI_other (show 114 ≠ 113 by decide)]
    by_cases q : j = a.toNatClampNeg
    · subst q; rw [upd_self, upd_self]; exact ⟨Or.inr (Or.inl rfl), fun z => absurd rfl z⟩
    · rw [upd_other q, upd_other q]; exact h j hj
theorem J.ast (h : J n cnt mc A B) {a b : Int32} {X : Mm} (hb : becM 46 14 A X) : tR 46 n (lawRow 78 cnt (B.1 105 5)) 0 (askM b (askM a X)) (B8 n (B.1 105 5) (as0 n a b B)) := by
  have n30 := h.n30
  have l9 := lrL (k := B.1 105 5) h.c6
  have oX : ∀ k, k ≠ 54 → k ≠ 55 → (askM b (askM a X)).1 k = X.1 k := fun k p q => by rw [askM_o ⟨p, q⟩, askM_o ⟨p, q⟩]
  have s8 : agr n (X.1 54) ((kepM n B).1 113) := by
    rw [kepM_o (by decide) (by decide)]
    exact fun j hj => (bec_at hb (t := 6) (by omega) (by omega)).trans (h.1.row (t := 6) (by omega) hj)
  have s9 : agr n (X.1 55) ((kepM n B).1 114) := by
    rw [kepM_o (by decide) (by decide)]
    exact fun j hj => (bec_at hb (t := 7) (by omega) (by omega)).trans (h.1.row (t := 7) (by omega) hj)
  obtain ⟨p8, p9⟩ := ask_r (a := a) s8 s9
  obtain ⟨q8, q9⟩ := ask_r (a := b) p8 p9
  refine h.tr0 h.wf (fun t ht j hj => ?_) (fun t ht => ?_) ?_ ?_ ?_ B8_35 ?_ ?_ ?_ ?_ (Or.inl ⟨?_, ?_⟩) ?_
  · rw [oX _ (by omega) (by omega)]; exact bec_at hb (by omega) (by omega)
  · rw [B8_o (by omega), as0_o (by omega) (by omega) (by omega) (by omega)]; exact agr.rf
  · rw [oX _ (by omega) (by omega)]; exact hb.1.2 _ (by omega)
  · rw [B8_o (by omega), as0_o (by omega) (by omega) (by omega) (by omega)]
  · rw [B8_o (by omega), as0_o (by omega) (by omega) (by omega) (by omega)]
  · rw [B8_o (by decide)]; exact q8
  · rw [B8_o (by decide)]; exact q9
  · rw [B8_f (by decide) (by decide), as0_f (by decide), oX _ (by omega) (by omega), hb.2.2 12 (by omega) (by omega)]; exact h.e3
  · rw [B8_f (by decide) (by decide), as0_f (by decide), oX _ (by omega) (by omega), hb.2.2 13 (by omega) (by omega)]; exact h.e4
  · rw [B8_f (by decide) (by decide), as0_f (by decide)]; exact h.e36
  · rw [B8_o (by decide), as0_o (by decide) (by decide) (by decide) (by decide), oX _ (by omega) (by omega)]
    exact fun j hj => (bec_at hb (t := 4) (by omega) (by omega)).trans (h.1.row (t := 4) (by omega) hj)
  · unfold mdR
    rw [B8_o (by decide), B8_o (by decide)]
    refine ask_md (ask_md ?_)
    unfold mdR
    rw [kepM_o (by decide) (by decide), kepM_o (by decide) (by decide)]
    exact h.md
theorem mba_o {X : Mm} (h : outE 44 A X) (a : Int32) : mbaV X a = mbaV A a := by
  unfold mbaV
  rw [h.2 14 (by omega), h.2 22 (by omega)]
theorem J.aE_le (h : J n cnt mc A B) {a b : Int32} : ∃ k, k ≤ n ∧ aE n B a b = nI k := met_le h.n30 (ev8_F _ _ _ _)
theorem J.fec (h : J n cnt mc A B) {a b m v : Int32} {X X' : Mm} (hX : outE 44 A X) (hY : S_areEnough X n cnt a b m v X') : v = b01 (cE n A B m a b) ∧ outE 44 A X' := by
  have hJ : J n cnt mc X B := h.eq (hX.eqA (Or.inl rfl)) eqB.rf
  obtain ⟨k, hk, ek⟩ := h.aE_le (a := a) (b := b)
  have n30 := h.n30
  unfold S_areEnough at hY
  rw [mba_o hX, mba_o hX] at hY
  by_cases c0 : nI n < m
  · rw [pIf_t c0] at hY
    obtain ⟨rfl, rfl⟩ := hY
    refine ⟨(b01_f (fun z => z.2.2 ?_)).symm, hX⟩
    rw [ek]
    rw [i32_lt, nI_toInt (by omega)] at c0 ⊢
    omega
  rw [pIf_f c0] at hY
  by_cases c1 : mbaV A a = 0
  · rw [pIf_t c1] at hY
    obtain ⟨rfl, rfl⟩ := hY
    exact ⟨(b01_f (fun z => z.1 c1)).symm, hX⟩
  rw [pIf_f c1] at hY
  by_cases c2 : mbaV A b = 0
  · rw [pIf_t c2] at hY
    obtain ⟨rfl, rfl⟩ := hY
    exact ⟨(b01_f (fun z => z.2.1 c2)).symm, hX⟩
  rw [pIf_f c2] at hY
  obtain ⟨Z, z1, z2, rfl⟩ := hY
  rw [hJ.ff] at z2
  have hn9 : (askM b (askM a Z)).1 (44 + 2) 11 = nI n := by
    rw [askM_o (by decide), askM_o (by decide)]
    exact bec_n (v := 44) hJ.hn z1
  have oE := (evQ_I hn9 z2).1
  have e := (ev_eq (v := 44) n30 (outLr (Or.inl rfl) h.c6) (hJ.ast z1) (Or.inl (by omega)) z2 (ev8_F _ _ _ _)).1
  have ez : bcI (X'.1 44 3) = aE n B a b := by rw [e]; rfl
  refine ⟨?_, ?_⟩
  · rw [ez]
    by_cases q : aE n B a b < m
    · rw [b01_f (fun z => z q), b01_f (fun z => z.2.2 q)]
    · rw [b01_t q, b01_t ⟨c1, c2, q⟩]
  · refine hX.tr ⟨oE.1.trans ?_, fun j hj => (oE.2 j hj).trans ?_⟩
    · refine Eq.trans ?_ z1.1.1
      unfold askM
      by_cases q1 : b = -1
      · rw [pIf_t q1]
        by_cases q2 : a = -1
        · rw [pIf_t q2]
        · rw [pIf_f q2]; rfl
      · rw [pIf_f q1]
        by_cases q2 : a = -1
        · rw [pIf_t q2]; rfl
        · rw [pIf_f q2]; rfl
    · rw [askM_o (by omega), askM_o (by omega)]
      exact z1.1.2 j (by omega)
theorem J.feq (h : J n cnt mc A B) {B9 : Mm} (h9 : J n cnt mc A B9) {a b : Int32} : qR n (B8 n (B.1 105 5) (as0 n a b B)) (B8 n (B.1 105 5) (as0 n a b B9)) := by
  have r : agr n ((as0 n a b B).1 113) ((as0 n a b B9).1 113) ∧ agr n ((as0 n a b B).1 114) ((as0 n a b B9).1 114) := by
    have s8 : agr n ((kepM n B).1 113) ((kepM n B9).1 113) := by
      rw [kepM_o (by decide) (by decide), kepM_o (by decide) (by decide)]; exact h.two h9 (t := 6) (by omega)
    have s9 : agr n ((kepM n B).1 114) ((kepM n B9).1 114) := by
      rw [kepM_o (by decide) (by decide), kepM_o (by decide) (by decide)]; exact h.two h9 (t := 7) (by omega)
    obtain ⟨p8, p9⟩ := ask_8 (a := a) (b := a) s8 s9
    exact ask_8 (a := b) (b := b) p8 p9
  refine h.q0 h9 h.wf (fun k p q s t => as0_o p q s t) (fun k p q s t => as0_o p q s t) r.1 r.2 ?_ ?_ ?_
  · rw [as0_f (by decide), as0_f (by decide), ← h.e3, ← h9.e3]
  · rw [as0_f (by decide), as0_f (by decide), ← h.e4, ← h9.e4]
  · rw [as0_f (by decide), as0_f (by decide), h.e36, h9.e36]
theorem J.fem (h : J n cnt mc A B) {a b v : Int32} {X X' : Mm} (hX : out8 n B X) (hY : S8_asked X n a b v X') : v = aE n B a b ∧ out8 n B X' := by
  have hJ := h.o8 hX
  obtain ⟨y1, rfl⟩ := hY
  refine ⟨?_, hX.tr (aw8_out y1)⟩
  obtain ⟨Y, y1, rfl⟩ := y1
  rw [bak_51]
  have q := hJ.feq h (a := a) (b := b)
  have e5 : X.1 105 5 = B.1 105 5 := hX.2.2.2 5 (by decide)
  rw [e5] at q y1
  rw [(qev_run q y1 (ev8_F _ _ _ _)).1]
  rfl
theorem J.ae2 (h : J n cnt mc A B) {B9 : Mm} (h9 : J n cnt mc A B9) (a b : Int32) : aE n B a b = aE n B9 a b := by
  unfold aE
  have e5 : B9.1 105 5 = B.1 105 5 := by rw [← h.ff, ← h9.ff]
  rw [e5, (qev_run (h.feq h9) (ev8_F _ _ _ _) (ev8_F _ _ _ _)).1]
theorem ask_1 (a : Int32) (M : Mm) : as0 n (-1) a M = as0 n a (-1) M := by
  unfold as0
  rw [← ask8_n, ← ask8_n]
theorem J.mba (h : J n cnt mc A B) {p : Nat} (hp : p < n) : ¬ mbaV A (nI p) = 0 ↔ B.1 113 p = 0 := by
  have n30 := h.n30
  unfold mbaV
  rw [pIf_f (nI_m1 (by omega)), pIf_t (by rw [h.hn]; exact nI_ix hp (by omega)), nI_clamp (by omega), show A.1 22 p = B.1 113 p from h.1.row (t := 6) (by omega) hp]
  by_cases q : B.1 113 p = 0
  · rw [pIf_t q]; exact ⟨fun _ => q, fun _ => by decide⟩
  · rw [pIf_f q]; exact ⟨fun z => absurd rfl z, fun z => absurd z q⟩
theorem mba_1 : ¬ mbaV A (-1) = 0 := by
  unfold mbaV
  rw [pIf_t rfl]
  decide
theorem st_few {x v w : Int32} {E : Int32 → Int32 → Prop} {F : Int32 → Int32 → Int32} (h : J n cnt mc A B) (h0 : E (-1) (-1) ↔ ¬ F (-1) (-1) < x) (h1 : ∀ a, a < n → (E (-1) (nI a) ↔ fP1 B F x a)) (h2 : ∀ a b, a < n → b < n → (E (nI a) (nI b) ↔ fP2 B F x a b)) (hc : S_few E n A x v A') (hm : S8_few F n B x w B') : v = w ∧ Jx A' B' := by
  unfold S_few at hc
  unfold S8_few at hm
  by_cases c1 : x < 1
  · rw [pIf_t c1] at hc hm
    obtain ⟨rfl, rfl⟩ := hc
    obtain ⟨rfl, rfl⟩ := hm
    exact ⟨rfl, (h.ref (k := 5) (by decide)).x⟩
  rw [pIf_f c1] at hc hm
  by_cases c2 : 30 < x
  · rw [pIf_t c2] at hc hm
    obtain ⟨rfl, rfl⟩ := hc
    obtain ⟨rfl, rfl⟩ := hm
    exact ⟨rfl, (h.ref (k := 5) (by decide)).x⟩
  rw [pIf_f c2] at hc hm
  obtain ⟨X, a1, hc⟩ := hc
  obtain ⟨Y, b1, hm⟩ := hm
  have hJ : J n cnt mc X Y := h.eq (a1.eqA (Or.inl rfl)) b1.eq
  rcases hc with ⟨p1, rfl, rfl⟩ | ⟨p1, hc⟩
  · rcases hm with ⟨q1, rfl, rfl⟩ | ⟨q1, hm⟩
    · exact ⟨rfl, hJ.x⟩
    · exact absurd q1 (h0.mp p1)
  · rcases hm with ⟨q1, rfl, rfl⟩ | ⟨q1, hm⟩
    · exact absurd (h0.mpr q1) p1
    · rcases hc with ⟨a, an, a2, a3, rfl, rfl⟩ | ⟨p2, hc⟩
      · rcases hm with ⟨b, bn, b2, b3, rfl, rfl⟩ | ⟨q2, hm⟩
        · have e : a = b := by
            rcases Nat.lt_trichotomy a b with z | z | z
            · exact absurd ((h1 a an).mp a3) (b2 a z)
            · exact z
            · exact absurd ((h1 b bn).mpr b3) (a2 b z)
          subst e
          exact ⟨rfl, hJ.x⟩
        · exact absurd ((h1 a an).mp a3) (q2 a an)
      · rcases hm with ⟨b, bn, b2, b3, rfl, rfl⟩ | ⟨q2, hm⟩
        · exact absurd ((h1 b bn).mpr b3) (p2 b bn)
        · rcases hc with ⟨b, a, k1, bn, ab, a2, a3, a4, rfl, rfl⟩ | ⟨p3, rfl, rfl⟩
          · rcases hm with ⟨d, c, dn, cd, b2, b3, b4, rfl, rfl⟩ | ⟨q3, rfl, rfl⟩
            · have e : b = d := by
                rcases Nat.lt_trichotomy b d with z | z | z
                · exact absurd ((h2 a b (by omega) bn).mp a4) (b2 b a z ab)
                · exact z
                · exact absurd ((h2 c d (by omega) dn).mpr b4) (a2 d c z cd)
              subst e
              have e : a = c := by
                rcases Nat.lt_trichotomy a c with z | z | z
                · exact absurd ((h2 a b (by omega) bn).mp a4) (b3 a z)
                · exact z
                · exact absurd ((h2 c b (by omega) bn).mpr b4) (a3 c z)
              subst e
              exact ⟨rfl, hJ.x⟩
            · exact absurd ((h2 a b (by omega) bn).mp a4) (q3 b a bn ab)
          · rcases hm with ⟨d, c, dn, cd, b2, b3, b4, rfl, rfl⟩ | ⟨q3, rfl, rfl⟩
            · exact absurd ((h2 c d (by omega) dn).mpr b4) (p3 d c dn cd)
            · exact ⟨rfl, (hJ.ref (k := 4) (by decide)).x⟩
/-- the three conditions, as both mean them -/
theorem J.few (h : J n cnt mc A B) {B9 : Mm} (h9 : J n cnt mc A B9) {x : Int32} : (cE n A B9 x (-1) (-1) ↔ ¬ aE n B (-1) (-1) < x) ∧ (∀ a, a < n → (cE n A B9 x (-1) (nI a) ↔ fP1 B (aE n B) x a)) ∧ ∀ a b, a < n → b < n → (cE n A B9 x (nI a) (nI b) ↔ fP2 B (aE n B) x a b) := by
  unfold cE fP1 fP2
  refine ⟨?_, fun a ha => ?_, fun a b ha hb => ?_⟩
  · rw [h9.ae2 h]
    exact ⟨fun z => z.2.2, fun z => ⟨mba_1, mba_1, z⟩⟩
  · rw [h9.ae2 h, show aE n B (-1) (nI a) = aE n B (nI a) (-1) by unfold aE; rw [ask_1]]
    exact ⟨fun z => ⟨(h.mba ha).mp z.2.1, z.2.2⟩, fun z => ⟨mba_1, (h.mba ha).mpr z.1, z.2⟩⟩
  · rw [h9.ae2 h]
    exact ⟨fun z => ⟨(h.mba ha).mp z.1, (h.mba hb).mp z.2.1, z.2.2⟩, fun z => ⟨(h.mba ha).mpr z.1, (h.mba hb).mpr z.2.1, z.2.2⟩⟩
end ST11
