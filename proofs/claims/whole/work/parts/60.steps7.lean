/-! steps: ticks and evenings -/
section ST7
variable {n cnt mc : Nat} {A B A' B' : Mm}
theorem J.ok (h : J n cnt mc A B) {w : Int32} (hw : ¬ w < -1 ∧ ¬ B.1 105 1 ≤ w) : w = -1 ∨ ∃ k, k < cnt ∧ w = nI k := by
  rw [h.bc] at hw
  have := h.c6
  rcases pk_ix w (n := cnt) (by omega) with q | q | ⟨j, q1, q2⟩
  · refine Or.inl ?_
    have h1 := hw.1
    have e1 : (-1 : Int32).toInt = -1 := by decide
    have e0 : (0 : Int32).toInt = 0 := by decide
    rw [i32_lt, e1] at h1
    rw [i32_lt, e0] at q
    exact i32_lit (show w.toInt = -1 by omega) (-1) (by decide)
  · exact absurd q hw.2
  · exact Or.inr ⟨j, by omega, q2⟩
theorem J.isl (h : J n cnt mc A B) {w : Int32} : (w = -1 ∨ (¬ w < 0 ∧ ¬ A.1 78 1 ≤ w)) ↔ (¬ w < -1 ∧ ¬ B.1 105 1 ≤ w) := by
  have e1 : (-1 : Int32).toInt = -1 := by decide
  have e0 : (0 : Int32).toInt = 0 := by decide
  have ec := nI_toInt (n := cnt) (by have := h.c6; omega)
  rw [h.ac, h.bc, i32_lt, i32_lt, Int32.le_iff_toInt_le, e1, e0, ec]
  constructor
  · rintro (q | q)
    · subst q; rw [e1]; omega
    · omega
  · intro q
    by_cases z : w.toInt = -1
    · exact Or.inl (i32_lit z (-1) (by decide))
    · exact Or.inr (by omega)
theorem nI_ix {k c : Nat} (hk : k < c) (hc : c ≤ 1000) : ¬ nI k < 0 ∧ ¬ nI c ≤ nI k := by
  have e0 : (0 : Int32).toInt = 0 := by decide
  have ek := nI_toInt (n := k) (by omega)
  have ec := nI_toInt (n := c) (by omega)
  rw [i32_lt, Int32.le_iff_toInt_le, e0, ek, ec]
  omega
theorem row_1 {cnt : Nat} : lawRow 78 cnt (-1) = 80 := pIf_f (fun z => z.1 (by decide))
theorem row_k {cnt k : Nat} (hc : cnt ≤ 6) (hk : k < cnt) : lawRow 78 cnt (nI k) = 80 + (k + 1) := by
  unfold lawRow
  rw [pIf_t (nI_ix hk (by omega)), nI_clamp (by omega)]
/-- the laws that are meant -/
theorem J.lws (h : J n cnt mc A B) {w : Int32} {Y : Mm} (hw : w = -1 ∨ ∃ k, k < cnt ∧ w = nI k) (h8 : Y.1 118 = B.1 118) (h9 : Y.1 119 = B.1 119) (h35 : Y.1 105 35 = w) : agr 7 (A.1 (lawRow 78 cnt w)) (rulI Y) := by
  intro i hi
  unfold rulI
  rw [h35, h8, h9]
  obtain ⟨-, -, c6, ⟨l1, l2, -⟩, l5⟩ := h.2.1
  rcases hw with rfl | ⟨k, hk, rfl⟩
  · rw [row_1, pIf_t rfl, l5 i hi]
    exact l2 i hi
  · rw [row_k c6 hk, pIf_f (by have t : ∀ k, k < 6 → ¬ nI k = -1 := by decide +kernel
                               exact t k (by omega)), nI_clamp (by omega)]
    exact l1 k hk i hi
theorem J.wf (h : J n cnt mc A B) : B.1 105 5 = -1 ∨ ∃ k, k < cnt ∧ B.1 105 5 = nI k := h.2.1.2.2.2.1.2.2.2
theorem J.ff (h : J n cnt mc A B) : A.1 78 2 = B.1 105 5 := h.2.1.2.2.2.1.2.2.1
theorem J.tr0 (h : J n cnt mc A B) {c b : Nat} {w : Int32} {X Y : Mm} (hw : w = -1 ∨ ∃ k, k < cnt ∧ w = nI k) (hX : ∀ t, t < 3 → agr n (X.1 (c + 2 + t)) (A.1 (16 + t))) (hY : ∀ t, t < 3 → agr n (Y.1 (107 + t)) (B.1 (107 + t))) (hL : X.1 (lawRow 78 cnt w) = A.1 (lawRow 78 cnt w)) (h8 : Y.1 118 = B.1 118) (h9 : Y.1 119 = B.1 119) (h35 : Y.1 105 35 = w) (r8 : agr n (X.1 (c + 8)) (Y.1 113)) (r9 : agr n (X.1 (c + 9)) (Y.1 114)) (e3 : X.1 c 12 = Y.1 105 3) (e4 : X.1 c 13 = Y.1 105 4) (ha : atR c n b X Y) (hm : mdR n Y) : tR c n (lawRow 78 cnt w) b X Y := by
  have g : ∀ t, t < 3 → agr n (X.1 (c + 2 + t)) (Y.1 (107 + t)) := fun t ht => ((hX t ht).tr (fun j hj => h.1.row (by omega) hj)).tr (hY t ht).sy
  refine ⟨g 0 (by omega), g 1 (by omega), g 2 (by omega), r8, r9, e3, e4, ?_, ha, hm⟩
  rw [hL]
  exact h.lws hw h8 h9 h35
theorem J.md (h : J n cnt mc A B) : mdR n B := h.1.2.2.2.1.2.2.2.2.2
/-- the crowd as it is, beside the model as it is -/
theorem J.tr1 (h : J n cnt mc A B) {c : Nat} {w : Int32} {X Y : Mm} (hw : w = -1 ∨ ∃ k, k < cnt ∧ w = nI k) (hX : ∀ t, t < 10 → agr n (X.1 (c + 2 + t)) (A.1 (16 + t))) (hY : ∀ t, t < 10 → agr n (Y.1 (107 + t)) (B.1 (107 + t))) (hL : X.1 (lawRow 78 cnt w) = A.1 (lawRow 78 cnt w)) (h8 : Y.1 118 = B.1 118) (h9 : Y.1 119 = B.1 119) (h35 : Y.1 105 35 = w) (h36 : Y.1 105 36 = 0) (e3 : X.1 c 12 = Y.1 105 3) (e4 : X.1 c 13 = Y.1 105 4) : tR c n (lawRow 78 cnt w) 0 X Y := by
  have g : ∀ t, t < 10 → agr n (X.1 (c + 2 + t)) (Y.1 (107 + t)) := fun t ht => ((hX t ht).tr (fun j hj => h.1.row (by omega) hj)).tr (hY t ht).sy
  refine h.tr0 hw (fun t ht => hX t (by omega)) (fun t ht => hY t (by omega)) hL h8 h9 h35 (g 6 (by omega)) (g 7 (by omega)) e3 e4 (Or.inl ⟨h36, g 4 (by omega)⟩) (fun j hj => ?_)
  have a6 := hY 6 (by omega) j hj
  have a7 := hY 7 (by omega) j hj
  have a6' : Y.1 113 j = B.1 113 j := a6
  have a7' : Y.1 114 j = B.1 114 j := a7
  rw [a6', a7']
  exact h.md j hj
/-! a tick -/
theorem fit_run {n L : Nat} {M0 Y0 : Mm} (hn : n ≤ 30) (hst : ∀ q, q < n → ∃ s, s < 48 ∧ Y0.1 108 q = nI s) (hL : L ≠ 14 ∧ ¬ (14 + 2 ≤ L ∧ L ≤ 14 + 14)) (h : fR 14 n L 0 M0 Y0) : ∀ k X' Y', itR k (tickQ 14 n L) M0 X' → itR k (tk8 n) Y0 Y' → k ≤ 100 → fR 14 n L k X' Y' ∧ Y'.1 105 3 = Y0.1 105 3 + nI k ∧ (0 < k → X'.1 14 14 = Y'.1 105 7 ∧ X'.1 14 15 = Y'.1 105 8 ∧ ∃ c, c ≤ 30 ∧ Y'.1 105 8 = nI c)
  | 0, X', Y', h1, h2, _ => by
    have e1 : X' = M0 := h1
    have e2 : Y' = Y0 := h2
    subst e1 e2
    exact ⟨h, by rw [show nI 0 = 0 from rfl, Int32.add_zero], fun z => absurd z (by omega)⟩
  | k + 1, X', Y', ⟨X, a1, a2⟩, ⟨Y, b1, b2⟩, hk => by
    obtain ⟨i1, i2, -⟩ := fit_run hn hst hL h k X Y a1 b1 (by omega)
    have f := itR_fx k Y b1
    have hs : ∀ q, q < n → ∃ s, s < 48 ∧ Y.1 108 q = nI s := fun q hq => by rw [f.2.1 108 (by unfold S8; omega)]; exact hst q hq
    obtain ⟨t1, t2, t3⟩ := tick_f i1 (Or.inl (by omega)) hn hs hL a2 b2
    obtain ⟨k3, -, -, k8, -⟩ := tk8_v b2
    refine ⟨t1, by rw [k3, i2, Int32.add_assoc, nI_succ], fun _ => ⟨t2, t3, ?_⟩⟩
    rw [k8]
    exact ⟨_, Nat.le_trans (cntN_le _ _) hn, rfl⟩
theorem st_tick {x v w : Int32} (h : J n cnt mc A B) (hc : S_tick A n cnt x v A') (hm : S8_tick B n x w B') : v = w ∧ Jx A' B' := by
  have en : A.1 14 12 = B.1 105 3 := h.1.2.2.2.2.1
  unfold S_tick at hc
  unfold S8_tick at hm
  by_cases c1 : x < 1
  · rw [pIf_t c1] at hc hm
    obtain ⟨rfl, rfl⟩ := hc
    obtain ⟨rfl, rfl⟩ := hm
    exact ⟨rfl, (h.ref (k := 5) (by decide)).x⟩
  rw [pIf_f c1] at hc hm
  by_cases c2 : 100 < x
  · rw [pIf_t c2] at hc hm
    obtain ⟨rfl, rfl⟩ := hc
    obtain ⟨rfl, rfl⟩ := hm
    exact ⟨rfl, (h.ref (k := 5) (by decide)).x⟩
  rw [pIf_f c2] at hc hm
  rw [en] at hc
  by_cases c3 : 9999 < B.1 105 3 + x
  · rw [pIf_t c3] at hc hm
    obtain ⟨rfl, rfl⟩ := hc
    obtain ⟨rfl, rfl⟩ := hm
    exact ⟨rfl, (h.ref (k := 5) (by decide)).x⟩
  rw [pIf_f c3] at hc hm
  obtain ⟨M0, hl, hi, rfl⟩ := hc
  obtain ⟨h8, rfl⟩ := hm
  obtain ⟨m, hm1, rfl⟩ := n1_100 c1 c2
  have hm0 : 0 < m := by
    rcases Nat.eq_zero_or_pos m with z | z
    · subst z; exact absurd (show nI 0 < 1 by decide) c1
    · exact z
  rw [nI_clamp (by omega)] at hi h8
  have n30 := h.n30
  have c6 := h.c6
  have hL := lr_out (k := A.1 78 2) c6
  have lrs : ¬ (lawRow 78 cnt (A.1 78 2) = 26 ∨ lawRow 78 cnt (A.1 78 2) = 27) := by omega
  rw [h.ff] at hL lrs hi
  have m0 : ∀ q, q ≠ 26 → q ≠ 27 → M0.1 q = A.1 q := fun q a b => hl.1.2 q (by omega)
  have hT : tR 14 n (lawRow 78 cnt (B.1 105 5)) 0 M0 (mI B 105 35 (B.1 105 5)) := by
    refine h.tr1 h.wf (fun t ht => ?_) (fun t ht => ?_) ?_ (mI_other (by decide)) (mI_other (by decide)) (by rw [mI_self, upd_self]) ?_ ?_ ?_
    · rw [m0 (14 + 2 + t) (by omega) (by omega)]; exact agr.rf
    · rw [mI_other (by omega)]; exact agr.rf
    · exact m0 _ (by omega) (by omega)
    · rw [mI_self, upd_other (by decide)]; exact h.2.2.2.2.2.2.2.1
    · rw [m0 14 (by omega) (by omega), mI_self, upd_other (by decide)]; exact en
    · rw [m0 14 (by omega) (by omega), mI_self, upd_other (by decide)]; exact h.1.2.2.2.2.2.1
  have hF : fR 14 n (lawRow 78 cnt (B.1 105 5)) 0 M0 (mI B 105 35 (B.1 105 5)) := by
    refine ⟨hT, ?_, ?_, ?_⟩
    · rw [m0 _ (by omega) (by omega), mI_other (by decide)]; exact fun j hj => h.1.row (t := 3) (by omega) hj
    · rw [m0 _ (by omega) (by omega), mI_other (by decide)]; exact fun j hj => h.1.row (t := 5) (by omega) hj
    · rw [m0 _ (by omega) (by omega), mI_other (by decide)]; exact fun j hj => h.1.row (t := 8) (by omega) hj
  obtain ⟨⟨hT9, f5, f7, f10⟩, f3, fl⟩ := fit_run n30 (by rw [mI_other (by decide)]; exact h.1.g.2.2.1) (by omega) hF m A' B' hi h8 (by omega)
  obtain ⟨l14, l15, lc⟩ := fl hm0
  obtain ⟨p2, p3, p4, p8, p9, pw, ps, pL, pa, pm⟩ := hT9
  have fx := itR_fx m B' h8
  have oI := itR_I (lsM_I h.hn hl) m A' hi
  have o8 : ∀ q, q ≠ 105 → ¬ S8 q → q ≠ 137 → B'.1 q = B.1 q := fun q a b c => (fx.2.1 q (fun z => z.elim b c)).trans (mI_other a)
  have o36 : B'.1 105 36 = 0 := by
    rw [fx.2.2 36 (by decide) (by decide) (by decide) (by decide) (by decide), mI_self, upd_other (by decide)]
    exact h.2.2.2.2.2.2.2.1
  have hat : agr n (A'.1 (14 + 6)) (B'.1 111) := by
    rcases pa with q | q
    · exact q.2
    · exact absurd o36 q.1
  have hgl : agr n (A'.1 25) (B'.1 116) := by
    rw [oI.1.2 25 (by omega), o8 116 (by decide) (by unfold S8; omega) (by decide)]
    exact fun j hj => h.1.row (t := 9) (by omega) hj
  have hJC : JC n A' B' := by
    refine ⟨oI.2.1, ?_, n30, ⟨fun t ht => ?_, ?_, ?_, ?_, ?_, ?_⟩, pw, ps, l14, l15, ?_, lc⟩
    · rw [fx.2.2 0 (by decide) (by decide) (by decide) (by decide) (by decide), mI_self, upd_other (by decide)]; exact h.bn
    · rcases (show t = 0 ∨ t = 1 ∨ t = 2 ∨ t = 3 ∨ t = 4 ∨ t = 5 ∨ t = 6 ∨ t = 7 ∨ t = 8 ∨ t = 9 by omega) with rfl | rfl | rfl | rfl | rfl | rfl | rfl | rfl | rfl | rfl
      · exact p2
      · exact p3
      · exact p4
      · exact f5
      · exact hat
      · exact f7
      · exact p8
      · exact p9
      · exact f10
      · exact hgl
    · show ∀ q, q < n → ∃ k, k < 7 ∧ B'.1 107 q = nI k
      rw [o8 107 (by decide) (by unfold S8; omega) (by decide)]; exact h.1.2.2.2.1.2.1
    · show ∀ q, q < n → ∃ s, s < 48 ∧ B'.1 108 q = nI s
      rw [o8 108 (by decide) (by unfold S8; omega) (by decide)]; exact h.1.2.2.2.1.2.2.1
    · show ∀ q, q < n → ∃ k, 1 ≤ k ∧ k ≤ 9 ∧ B'.1 110 q = nI k
      rw [o8 110 (by decide) (by unfold S8; omega) (by decide)]; exact h.1.2.2.2.1.2.2.2.1
    · show ∀ p q, p < n → q < n → B'.1 108 p = B'.1 108 q → p = q
      rw [o8 108 (by decide) (by unfold S8; omega) (by decide)]; exact h.1.2.2.2.1.2.2.2.2.1
    · exact pm
    · obtain ⟨k, hk, ek⟩ := h.1.2.2.2.2.2.2.2.2.1
      refine ⟨k + m, ?_, ?_⟩
      · rw [ek, nI_add] at c3
        by_cases z : k + m ≤ 9999
        · exact z
        · exact absurd ((nI_ltI (a := 9999) (b := k + m) (by omega) (by omega)).mpr (by omega)) c3
      · rw [f3, mI_self, upd_other (by decide), ek, nI_add]
  refine ⟨congrArg nI (cntN_cong (fun j hj => by rw [show A'.1 (14 + 2 + 6) j = B'.1 113 j from p8 j hj])), (h.ofC (Nat.le_refl n) hJC (fun q a b => oI.1.2 q (by omega)) oI.1.1 (fun q a b c => o8 q a (by unfold S8; omega) (by omega)) fx.1 (fun j a b c => ?_)).x⟩
  rw [fx.2.2 j (by omega) (by omega) (by omega) (by omega) (by omega), mI_self, upd_other (by omega)]
end ST7
