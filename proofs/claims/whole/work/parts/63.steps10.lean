/-! steps: fit, spread, few -/
section ST10
variable {n cnt mc : Nat} {A B A' B' : Mm}
theorem J.tl (h : J n cnt mc A B) {B9 : Mm} (h9 : J n cnt mc A B9) {w : Int32} {m : Nat} (hw : w = -1 ∨ ∃ k, k < cnt ∧ w = nI k) : ∀ i, i < m → tlN n w m B i = tlN n w m B9 i := by
  refine (qev_run (h.q0 h9 hw (fun k a b c d => kepM_o a d) (fun k a b c d => kepM_o a d) ?_ ?_ ?_ ?_ ?_) (ev8_F n w m _) (ev8_F n w m _)).2
  · rw [kepM_o (by decide) (by decide), kepM_o (by decide) (by decide)]; exact h.two h9 (t := 6) (by omega)
  · rw [kepM_o (by decide) (by decide), kepM_o (by decide) (by decide)]; exact h.two h9 (t := 7) (by omega)
  · rw [kepM_f (by decide), kepM_f (by decide), ← h.e3, ← h9.e3]
  · rw [kepM_f (by decide), kepM_f (by decide), ← h.e4, ← h9.e4]
  · rw [kepM_f (by decide), kepM_f (by decide), h.e36, h9.e36]
theorem J.o8 (h : J n cnt mc A B) {X : Mm} (o : out8 n B X) : J n cnt mc A X := h.eq eqA.rf o.eq
theorem wb8_tl {m i : Nat} {w : Int32} {X X' : Mm} {cnt mc : Nat} {A : Mm} (h : J n cnt mc A X) (hw : w = -1 ∨ ∃ k, k < cnt ∧ w = nI k) (hq : wb8 n w m X X') (hi : i < m) : X'.1 137 i = tlN n w m X i := by
  obtain ⟨Y, y1, rfl⟩ := hq
  rw [bak_v (by decide)]
  refine (qev_run (h.q0 h hw (fun k a b c d => kepM_o a d) (fun k a b c d => kepM_o a d) agr.rf agr.rf rfl rfl rfl) y1 (ev8_F n w m _)).2 i hi
theorem J.tm (h : J n cnt mc A B) {m k l7 : Nat} {X X' : Mm} (hl : l7 < cnt) (hX : out8 n B X) (hY : wb8 n (nI l7) m X X') : told8 X' k m ↔ TM n m k B l7 := by
  have hw : nI l7 = -1 ∨ ∃ k, k < cnt ∧ nI l7 = nI k := Or.inr ⟨l7, hl, rfl⟩
  have hJ := h.o8 hX
  have o := wb8_out hY
  unfold told8 TM
  refine forall_congr' (fun i => ?_)
  have e : it8 X' k i = it8 B k i := by
    unfold it8
    rw [o.1, hX.1]
  refine ⟨fun z hi => ?_, fun z hi => ?_⟩
  · rw [← hJ.tl h hw i hi, ← wb8_tl hJ hw hY hi, ← e]; exact z hi
  · rw [wb8_tl hJ hw hY hi, hJ.tl h hw i hi, e]; exact z hi
theorem J.ptp (h : J n cnt mc A B) {k : Nat} {x : Int32} (hk : k < 8) (h1 : B.1 120 k = 1) (hx : ¬ x < 0) : partP A (nI k) 0 x ↔ x ≤ B.1 122 k := by
  obtain ⟨⟨z, z1, z2, z3⟩, -⟩ := h.2.2.2.1 k hk
  have h0 : (0 : Int32).toInt = 0 := by decide
  have lx := x.toInt_lt
  have hx9 := hx
  rw [i32_lt, h0] at hx
  have es : (nI z - x).toInt = (z : Int) - x.toInt := by
    rw [Int32.toInt_sub, nI_toInt (by omega)]
    exact Int.bmod_eq_of_le (by omega) (by omega)
  rw [part_iff hk z1 z2 ((h.h1 hk).mpr h1) hx9, z3, i32_lt, i32_lt, h0, es, Int32.le_iff_toInt_le, nI_toInt (by omega)]
  omega
theorem J.onk (h : J n cnt mc A B) {s : Int32} (hs : wan8 B s = 0) : ∃ k, k < 8 ∧ s = nI k ∧ B.1 120 k = 1 := by
  by_cases c : ¬ s < 0 ∧ ¬ 8 ≤ s
  · obtain ⟨k, hk, rfl⟩ := shf_k c
    obtain ⟨-, a, b⟩ := wan_0 hk hs
    exact ⟨k, hk, rfl, h.one hk a b⟩
  · unfold wan8 at hs
    rw [pIf_f c] at hs
    exact absurd hs (by decide)
theorem st_fit {s x v w : Int32} {T T9 : Nat → Prop} (h : J n cnt mc A B) (hT : ∀ l7, l7 < cnt → wan8 B s = 0 → ¬ x < 0 → x ≤ B.1 122 s.toNatClampNeg → (T l7 ↔ T9 l7)) (hc : S_fit T n cnt A s x v A') (hm : S8_fit T9 n cnt B s x w B') : v = w ∧ Jx A' B' := by
  unfold S_fit at hc
  unfold S8_fit at hm
  rw [h.rr] at hc
  by_cases c1 : wan8 B s = 0
  · rw [pIf_t c1] at hc hm
    obtain ⟨k, hk, rfl, h1⟩ := h.onk c1
    rw [nI_clamp (by omega)] at hm hT
    by_cases c2 : x < 0
    · rw [pIf_t c2] at hc hm
      obtain ⟨rfl, rfl⟩ := hc
      obtain ⟨rfl, rfl⟩ := hm
      exact ⟨rfl, (h.ref (k := 3) (by decide)).x⟩
    rw [pIf_f c2] at hc hm
    by_cases c3 : x ≤ B.1 122 k
    · rw [pIf_t ((h.ptp hk h1 c2).mpr c3)] at hc
      rw [pIf_t c3] at hm
      obtain ⟨a1, rfl⟩ := hc
      obtain ⟨b1, rfl⟩ := hm
      exact ⟨bitsI_cong (fun l7 hl => hT l7 hl c1 c2 c3), (h.eq (a1.eqA (Or.inl rfl)) b1.eq).x⟩
    · rw [pIf_f (fun z => c3 ((h.ptp hk h1 c2).mp z))] at hc
      rw [pIf_f c3] at hm
      obtain ⟨rfl, rfl⟩ := hc
      obtain ⟨rfl, rfl⟩ := hm
      exact ⟨rfl, (h.ref (k := 4) (by decide)).x⟩
  · rw [pIf_f c1] at hc hm
    obtain ⟨rfl, rfl⟩ := hc
    obtain ⟨rfl, rfl⟩ := hm
    exact ⟨rfl, (h.refA (wan_v c1)).x⟩
/-- what both mean by fitting is the same -/
theorem J.TT (h : J n cnt mc A B) {B9 : Mm} (h9 : J n cnt mc A B9) {s x : Int32} {l7 : Nat} (hl : l7 < cnt) (c1 : wan8 B s = 0) (c2 : ¬ x < 0) (c3 : x ≤ B.1 122 s.toNatClampNeg) : TC n x.toNatClampNeg s B9 l7 ↔ TM n x.toNatClampNeg s.toNatClampNeg B l7 := by
  obtain ⟨k, hk, rfl, h1⟩ := h.onk c1
  rw [nI_clamp (by omega)] at c3 ⊢
  obtain ⟨m, hm, rfl⟩ := fit_n h.sz8 hk c2 c3
  obtain ⟨⟨z, z1, z2, z3⟩, -⟩ := h.2.2.2.1 k hk
  rw [nI_clamp (by omega)]
  have hmz : m ≤ z := by
    rw [z3] at c3
    exact (nI_leI (by omega) (by omega)).mp c3
  have hw : nI l7 = -1 ∨ ∃ k, k < cnt ∧ nI l7 = nI k := Or.inr ⟨l7, hl, rfl⟩
  unfold TC TM
  refine forall_congr' (fun i => ?_)
  have e : i < m → (elL8 B9 (nI k) (nI i)).toInt32 = it8 B k i := fun hi => by
    rw [← st_element h9, st_element h]
    unfold elL8 it8
    have ix := nI_ix (k := i) (c := z) (by omega) (by omega)
    rw [pIf_t (shf_n hk), nI_clamp (by omega), pIf_t h1, pIf_f ix.1, pIf_f (by rw [z3]; exact ix.2), nI_clamp (by omega)]
  refine ⟨fun q hi => ?_, fun q hi => ?_⟩
  · rw [← e hi, ← q hi]; exact h.tl h9 hw i hi |>.symm
  · rw [e hi, q hi]; exact h9.tl h hw i hi
/-! spread -/
noncomputable def lnM (n : Nat) (B : Mm) (i : Nat) : Int32 := lenI ((evF n (B.1 105 5) 100 (sp0 n i B)).1 137) 100
theorem sp0_o {i k : Nat} {M : Mm} (h : k ≠ 105) (h2 : ¬ (133 ≤ k ∧ k ≤ 136)) : (sp0 n i M).1 k = M.1 k := by
  unfold sp0
  rw [mI_other h, kepM_o h h2]
theorem sp0_f {i j : Nat} {M : Mm} (h : j ≠ 4) (h2 : ¬ (47 ≤ j ∧ j ≤ 50)) : (sp0 n i M).1 105 j = M.1 105 j := by
  unfold sp0
  rw [mI_self, upd_other h, kepM_f h2]
theorem sp0_4 {i : Nat} {M : Mm} : (sp0 n i M).1 105 4 = M.1 105 4 + nI i := by
  unfold sp0
  rw [mI_self, upd_self, kepM_f (by decide)]
theorem J.spt (h : J n cnt mc A B) {i : Nat} {Z : Mm} (hb : becM 46 14 A Z) : tR 46 n (lawRow 78 cnt (B.1 105 5)) 0 (mI Z 46 13 (Z.1 14 13 + nI i)) (B8 n (B.1 105 5) (sp0 n i B)) := by
  have n30 := h.n30
  have l9 := lrL (k := B.1 105 5) h.c6
  refine h.tr1 h.wf (fun t ht j hj => ?_) (fun t ht => ?_) ?_ ?_ ?_ B8_35 ?_ ?_ ?_
  · rw [mI_other (by omega)]; exact bec_at hb ht (by omega)
  · rw [B8_o (by omega), sp0_o (by omega) (by omega)]; exact agr.rf
  · rw [mI_other (by omega)]; exact hb.1.2 _ (by omega)
  · rw [B8_o (by omega), sp0_o (by omega) (by omega)]
  · rw [B8_o (by omega), sp0_o (by omega) (by omega)]
  · rw [B8_f (by decide) (by decide), sp0_f (by omega) (by omega)]; exact h.e36
  · rw [B8_f (by decide) (by decide), sp0_f (by omega) (by omega), mI_self, upd_other (by decide), hb.2.2 12 (by omega) (by omega)]; exact h.e3
  · rw [B8_f (by decide) (by decide), sp0_4, mI_self, upd_self, hb.1.2 14 (by omega)]; exact congrArg (· + nI i) h.e4
theorem J.lnc (h : J n cnt mc A B) {i : Nat} {X Y : Mm} (hX : outE 44 A X) (hY : spQ n (lawRow 78 cnt (A.1 78 2)) i X Y) : lenI (Y.1 (44 + 1)) 100 = lnM n B i := by
  have hJ : J n cnt mc X B := h.eq (hX.eqA (Or.inl rfl)) eqB.rf
  rw [h.ff] at hY
  obtain ⟨Z, z1, z2⟩ := hY
  exact lenI_cg (ev_eq (v := 44) h.n30 (outLr (Or.inl rfl) h.c6) (hJ.spt z1) (Or.inl (by omega)) z2 (ev8_F _ _ _ _)).2
theorem J.lnq (h : J n cnt mc A B) {B9 : Mm} (h9 : J n cnt mc A B9) {i : Nat} : qR n (B8 n (B.1 105 5) (sp0 n i B)) (B8 n (B.1 105 5) (sp0 n i B9)) := by
  refine h.q0 h9 h.wf (fun k a b c d => sp0_o a d) (fun k a b c d => sp0_o a d) ?_ ?_ ?_ ?_ ?_
  · rw [sp0_o (by decide) (by decide), sp0_o (by decide) (by decide)]; exact h.two h9 (t := 6) (by omega)
  · rw [sp0_o (by decide) (by decide), sp0_o (by decide) (by decide)]; exact h.two h9 (t := 7) (by omega)
  · rw [sp0_f (by decide) (by decide), sp0_f (by decide) (by decide), ← h.e3, ← h9.e3]
  · rw [sp0_4, sp0_4, ← h.e4, ← h9.e4]
  · rw [sp0_f (by decide) (by decide), sp0_f (by decide) (by decide), h.e36, h9.e36]
theorem J.lnm (h : J n cnt mc A B) {i : Nat} {X X' : Mm} (hX : out8 n B X) (hY : sp8 n i X X') : lenI (X'.1 137) 100 = lnM n B i := by
  have hJ := h.o8 hX
  obtain ⟨Y, y1, rfl⟩ := hY
  refine lenI_cg (fun j hj => ?_)
  rw [bak_v (by decide)]
  have q := hJ.lnq h (i := i)
  have e5 : X.1 105 5 = B.1 105 5 := hX.2.2.2 5 (by decide)
  rw [e5] at q y1
  exact (qev_run q y1 (ev8_F _ _ _ _)).2 j hj
theorem J.ln2 (h : J n cnt mc A B) {B9 : Mm} (h9 : J n cnt mc A B9) (i : Nat) : lnM n B i = lnM n B9 i := by
  unfold lnM
  have e5 : B9.1 105 5 = B.1 105 5 := by rw [← h.ff, ← h9.ff]
  rw [e5]
  exact lenI_cg (qev_run (h.lnq h9) (ev8_F _ _ _ _) (ev8_F _ _ _ _)).2
theorem whileN_ge {P : Nat → Prop} : ∀ (k a : Nat), a ≤ whileN P k a
  | 0, a => Nat.le_refl _
  | k + 1, a => by
    by_cases h : P a
    · rw [show whileN P (k + 1) a = whileN P k (a + 1) from pIf_t h]
      have := whileN_ge (P := P) k (a + 1)
      omega
    · rw [whileN_f h]; omega
theorem len_in (t : Nat → Int32) (m : Nat) : ∃ d, d ≤ m ∧ lenI t m = nI d := by
  have h1 := len1_le t m
  have h2 : len1 t m ≤ len2 t m := whileN_ge _ _
  have h3 : len2 t m ≤ m := by
    have := whileN_le (P := fun a => a < m ∧ ¬ t a ≤ 0) (m - len1 t m) (len1 t m)
    unfold len2
    omega
  refine ⟨len2 t m - len1 t m, by omega, ?_⟩
  unfold lenI
  have e : len2 t m = (len2 t m - len1 t m) + len1 t m := by omega
  rw [e, ← nI_add, Nat.add_sub_cancel, Int32.add_sub_cancel]
theorem mm_eq {ln : Nat → Int32} (hl : ∀ i, ∃ d, d ≤ 100 ∧ ln i = nI d) : ∀ i, mxF ln (i + 1) = mx8 ln (i + 1) ∧ mnF ln (i + 1) = mn8 ln (i + 1)
  | 0 => by
    obtain ⟨d, hd, e⟩ := hl 0
    have t : ∀ d, d ≤ 100 → (if (0 : Int32) < nI d then nI d else 0) = nI d ∧ (if nI d < (100 : Int32) then nI d else 100) = nI d := by decide +kernel
    obtain ⟨t1, t2⟩ := t d hd
    show (if (0 : Int32) < ln 0 then ln 0 else 0) = pIf _ _ _ ∧ (if ln 0 < (100 : Int32) then ln 0 else 100) = pIf _ _ _
    rw [pIf_t (Or.inl rfl), pIf_t (Or.inl rfl), e, t1, t2]
    exact ⟨rfl, rfl⟩
  | i + 1 => by
    obtain ⟨h1, h2⟩ := mm_eq hl i
    show (if mxF ln (i + 1) < ln (i + 1) then ln (i + 1) else mxF ln (i + 1)) = pIf (i + 1 = 0 ∨ mx8 ln (i + 1) < ln (i + 1)) (ln (i + 1)) (mx8 ln (i + 1)) ∧ (if ln (i + 1) < mnF ln (i + 1) then ln (i + 1) else mnF ln (i + 1)) = pIf (i + 1 = 0 ∨ ln (i + 1) < mn8 ln (i + 1)) (ln (i + 1)) (mn8 ln (i + 1))
    rw [h1, h2]
    constructor
    · by_cases c : mx8 ln (i + 1) < ln (i + 1)
      · rw [if_pos c, pIf_t (Or.inr c)]
      · rw [if_neg c, pIf_f (fun z => z.elim (fun y => by omega) c)]
    · by_cases c : ln (i + 1) < mn8 ln (i + 1)
      · rw [if_pos c, pIf_t (Or.inr c)]
      · rw [if_neg c, pIf_f (fun z => z.elim (fun y => by omega) c)]
theorem st_spread {x v w : Int32} {ln l9 : Nat → Int32} (h : J n cnt mc A B) (hl : ∀ i, ln i = l9 i) (hd : ∀ i, ∃ d, d ≤ 100 ∧ ln i = nI d) (hc : S_spread ln n cnt A x v A') (hm : S8_spread l9 n B x w B') : v = w ∧ Jx A' B' := by
  have e9 : ln = l9 := funext hl
  subst e9
  unfold S_spread at hc
  unfold S8_spread at hm
  by_cases c1 : x < 1
  · rw [pIf_t c1] at hc hm
    obtain ⟨rfl, rfl⟩ := hc
    obtain ⟨rfl, rfl⟩ := hm
    exact ⟨rfl, (h.ref (k := 5) (by decide)).x⟩
  rw [pIf_f c1] at hc hm
  by_cases c2 : 20 < x
  · rw [pIf_t c2] at hc hm
    obtain ⟨rfl, rfl⟩ := hc
    obtain ⟨rfl, rfl⟩ := hm
    exact ⟨rfl, (h.ref (k := 5) (by decide)).x⟩
  rw [pIf_f c2] at hc hm
  obtain ⟨m, hm9, rfl⟩ := n1_20 c1 (Int32.not_lt.mp c2)
  rw [nI_clamp (by omega)] at hc hm
  obtain ⟨a1, rfl⟩ := hc
  obtain ⟨b1, rfl⟩ := hm
  refine ⟨?_, (h.eq (a1.eqA (Or.inl rfl)) b1.eq).x⟩
  match m, hm9 with
  | 0, _ => exact absurd (show nI 0 < 1 by decide) c1
  | m + 1, _ => rw [(mm_eq hd m).1, (mm_eq hd m).2]
end ST10
