/-! steps: the laws -/
section ST12
variable {n cnt mc : Nat} {A B A' B' : Mm}
theorem whileN_is {P : Nat → Prop} {k m : Nat} (h1 : ∀ j, j < m → P j) (h2 : m ≤ k) (h3 : m = k ∨ ¬ P m) : whileN P k 0 = m := by
  have hl := whileN_le (P := P) k 0
  rcases Nat.lt_trichotomy (whileN P k 0) m with q | q | q
  · exact absurd (h1 _ q) (whileN_stop k 0 (by omega))
  · exact q
  · have := while_all k 0 m (by omega) q
    rcases h3 with r | r
    · omega
    · exact absurd this r
theorem wd_rel : ∀ w, w < 7 → wl w = chL w + 1 ∧ wdF (wst w + chL w) = 32 ∧ ∀ j, j < chL w → wdF (wst w + j) = chF w j := by decide +kernel
theorem pfx0 : ∀ a, a < 7 → ∀ b, b < 7 → (∀ j, j < 5 → (j < chL a ∧ j < chL b → chF a j = chF b j)) → a = b := by decide +kernel
theorem pfx (a : Nat) (ha : a < 7) (b : Nat) (hb : b < 7) (h : ¬ a = b) : ¬ ∀ j, j < 5 → j < chL a → j < chL b → chF a j = chF b j := fun q => h (pfx0 a ha b hb (fun j j5 jj => q j j5 jj.1 jj.2))
section WORDS
variable {g : Nat → Int32} {z p : Nat}
theorem nx_shift {a : Nat} {c : Int32} : nxP g z (p + a) 0 c ↔ nxP g z p a c := Iff.rfl
theorem alk_full {i : Nat} (h : alk g z p i = chL i) : ∀ j, j < chL i → nxP g z p j (chF i j) := fun j hj => while_all (P := fun j => nxP g z p j (chF i j)) (chL i) 0 j (by omega) (by unfold alk at h; omega)
theorem alk_all {i : Nat} : ∀ j, j < alk g z p i → nxP g z p j (chF i j) := fun j hj => while_all (P := fun j => nxP g z p j (chF i j)) (chL i) 0 j (by omega) (by unfold alk at hj; omega)
theorem alk_lt {i : Nat} (hi : i < 7) (h : ¬ alk g z p i = chL i) : alk8 g z p i = alk g z p i := by
  obtain ⟨e1, e2, e3⟩ := wd_rel i hi
  have hl := alk_le g z p i
  refine whileN_is (fun j hj => ?_) (by omega) (Or.inr (fun q => ?_))
  · obtain ⟨a, b⟩ := alk_all j hj
    exact ⟨a, by rw [b, e3 j (by omega)]⟩
  · have := whileN_stop (P := fun j => nxP g z p j (chF i j)) (chL i) 0 (by unfold alk at hl h; omega)
    exact this ⟨q.1, q.2.trans (e3 _ (by omega))⟩
theorem alk_y {i : Nat} (hi : i < 7) (h : alk g z p i = chL i) (hb : nxP g z p (chL i) 32) : alk8 g z p i = wl i := by
  obtain ⟨e1, e2, e3⟩ := wd_rel i hi
  refine whileN_is (fun j hj => ?_) (Nat.le_refl _) (Or.inl rfl)
  by_cases e : j = chL i
  · subst e; exact ⟨hb.1, by rw [hb.2, e2]⟩
  · obtain ⟨a, b⟩ := alk_full h j (by omega)
    exact ⟨a, by rw [b, e3 j (by omega)]⟩
theorem alk_n {i : Nat} (hi : i < 7) (h : alk g z p i = chL i) (hb : ¬ nxP g z p (chL i) 32) : alk8 g z p i = chL i := by
  obtain ⟨e1, e2, e3⟩ := wd_rel i hi
  refine whileN_is (fun j hj => ?_) (by omega) (Or.inr (fun q => hb ⟨q.1, by rw [q.2, e2]⟩))
  obtain ⟨a, b⟩ := alk_full h j hj
  exact ⟨a, by rw [b, e3 j hj]⟩
theorem alk8_full {i : Nat} (hi : i < 7) (h : alk8 g z p i = wl i) : alk g z p i = chL i ∧ nxP g z p (chL i) 32 := by
  obtain ⟨e1, e2, e3⟩ := wd_rel i hi
  have hl := alk_le g z p i
  by_cases q : alk g z p i = chL i
  · refine ⟨q, ?_⟩
    by_cases r : nxP g z p (chL i) 32
    · exact r
    · rw [alk_n hi q r] at h; omega
  · rw [alk_lt hi q] at h; omega
theorem alk_uni {a b : Nat} (ha : a < 7) (hb : b < 7) (h1 : alk g z p a = chL a) (h2 : chL a ≤ alk g z p b) : a = b := by
  by_cases e : a = b
  · exact e
  · refine absurd (fun j _ j1 j2 => ?_) (pfx a ha b hb e)
    exact (alk_full h1 j j1).2.symm.trans (alk_all (g := g) (z := z) (p := p) (i := b) j (by omega)).2
theorem nm_f (h : nmI g z p < 7) : alk g z p (nmI g z p) = chL (nmI g z p) := by
  have := whileN_stop (P := fun i => ¬ alk g z p i = chL i) 7 0 (by unfold nmI at h; omega)
  exact Classical.not_not.mp this
theorem nm_b : ∀ j, j < nmI g z p → ¬ alk g z p j = chL j := fun j hj => while_all 7 0 j (by omega) hj
theorem nw_b : ∀ j, j < nw8 g z p → ¬ alk8 g z p j = wl j := fun j hj => while_all 7 0 j (by omega) hj
theorem rn_1 (h : nmI g z p < 7) : rnP g z p = p + chL (nmI g z p) := by
  unfold rnP
  rw [pIf_t h, nm_f h]
/-- the name with its blank -/
theorem nw_y (h : nmI g z p < 7) (hb : nxP g z (rnP g z p) 0 32) : nw8 g z p = nmI g z p := by
  rw [rn_1 h] at hb
  have y := alk_y h (nm_f h) hb
  have l1 := nw8_le g z p
  rcases Nat.lt_trichotomy (nw8 g z p) (nmI g z p) with q | q | q
  · have f := nw8_f (f := g) (z := z) (p := p) (by omega)
    exact absurd (alk8_full (by omega) f).1 (nm_b _ q)
  · exact q
  · exact absurd y (nw_b _ q)
theorem nw_n (h : ¬ (nmI g z p < 7 ∧ nxP g z (rnP g z p) 0 32)) : ¬ nw8 g z p < 7 := by
  intro q
  have f := nw8_f (f := g) (z := z) (p := p) q
  obtain ⟨a1, a2⟩ := alk8_full q f
  have hm : nmI g z p ≤ nw8 g z p := by
    rcases Nat.lt_or_ge (nw8 g z p) (nmI g z p) with r | r
    · exact absurd a1 (nm_b _ r)
    · exact r
  have h7 : nmI g z p < 7 := by omega
  have e : nw8 g z p = nmI g z p := by
    rcases Nat.le_total (chL (nw8 g z p)) (chL (nmI g z p)) with r | r
    · exact alk_uni q h7 a1 (by rw [nm_f h7]; exact r)
    · exact (alk_uni h7 q (nm_f h7) (by rw [a1]; exact r)).symm
  rw [e] at a2
  exact h ⟨h7, by rw [rn_1 h7]; exact a2⟩
theorem nw_iff : nw8 g z p < 7 ↔ (nmI g z p < 7 ∧ nxP g z (rnP g z p) 0 32) := by
  by_cases c : nmI g z p < 7 ∧ nxP g z (rnP g z p) 0 32
  · exact ⟨fun _ => c, fun _ => by rw [nw_y c.1 c.2]; exact c.1⟩
  · exact ⟨fun q => absurd q (nw_n c), fun q => absurd q c⟩
theorem p18_y (h : nmI g z p < 7) (hb : nxP g z (rnP g z p) 0 32) : p18 g z p = rnP g z p + 1 := by
  unfold p18
  rw [nw_y h hb, (wd_rel _ h).1, rn_1 h]
  omega
theorem mxN_cg {u v : Nat → Nat} : ∀ k, (∀ i, i < k → u i = v i) → mxN u k = mxN v k
  | 0, _ => rfl
  | k + 1, h => by
    show max _ _ = max _ _
    rw [mxN_cg k (fun i hi => h i (by omega)), h k (by omega)]
theorem mxN_ge {u : Nat → Nat} {i : Nat} : ∀ k, i < k → u i ≤ mxN u k
  | 0, h => absurd h (by omega)
  | k + 1, h => by
    show u i ≤ max (mxN u k) (u k)
    by_cases e : i = k
    · subst e; omega
    · have := mxN_ge (u := u) k (show i < k by omega)
      omega
theorem mx_y (h : ¬ (nmI g z p < 7 ∧ nxP g z (rnP g z p) 0 32)) : p + mxN (alk8 g z p) 7 = rnP g z p := by
  by_cases c : nmI g z p < 7
  · have hb : ¬ nxP g z p (chL (nmI g z p)) 32 := fun q => h ⟨c, by rw [rn_1 c]; exact q⟩
    have e0 := alk_n c (nm_f c) hb
    rw [rn_1 c]
    refine congrArg (p + ·) (Nat.le_antisymm (mxN_le 7 (fun i hi => ?_)) (by have := mxN_ge (u := alk8 g z p) 7 c; omega))
    by_cases e : i = nmI g z p
    · subst e; omega
    · have hlt : alk g z p i < chL (nmI g z p) := by
        rcases Nat.lt_or_ge (alk g z p i) (chL (nmI g z p)) with r | r
        · exact r
        · exact absurd (alk_uni c hi (nm_f c) r).symm e
      by_cases q : alk g z p i = chL i
      · exact absurd (alk_uni hi c q (by rw [nm_f c]; omega)) e
      · rw [alk_lt hi q]; omega
  · unfold rnP
    rw [pIf_f c]
    refine congrArg (p + ·) (mxN_cg 7 (fun i hi => alk_lt hi (nm_b i (by omega))))
theorem ok_iff : ok8 g z p ↔ ok1 g z p := by
  unfold ok8 ok1
  by_cases c : nmI g z p < 7 ∧ nxP g z (rnP g z p) 0 32
  · rw [p18_y c.1 c.2]
    exact ⟨fun q => ⟨c.1, c.2, q.2⟩, fun q => ⟨nw_iff.mpr c, q.2.2⟩⟩
  · exact ⟨fun q => absurd (nw_iff.mp q.1) c, fun q => absurd ⟨q.1, q.2.1⟩ c⟩
theorem pl_eq (h : ok1 g z p) : pl8 g z p = oneP g z p := by
  have c : nmI g z p < 7 ∧ nxP g z (rnP g z p) 0 32 := ⟨h.1, h.2.1⟩
  unfold pl8 oneP
  rw [pIf_t (nw_iff.mpr c), pIf_t c, p18_y c.1 c.2, pIf_t h.2.2]
theorem wr_eq (h : ¬ ok1 g z p) : wr8 g z p = nI (oneP g z p) := by
  unfold wr8 oneP
  by_cases c : nmI g z p < 7 ∧ nxP g z (rnP g z p) 0 32
  · rw [pIf_t (nw_iff.mpr c), pIf_t c, p18_y c.1 c.2, pIf_f (fun q => h ⟨c.1, c.2, q⟩)]
  · rw [pIf_f (nw_n c), pIf_f c, mx_y c]
theorem vl_eq (h : ok1 g z p) : vl8 g z p = oneV g z p := by
  unfold vl8 oneV
  rw [p18_y h.1 h.2.1, show rnP g z p + 1 + 1 = rnP g z p + 2 from rfl]
  by_cases c : dgP g z (rnP g z p + 2)
  · rw [pIf_t c, pIf_t c]; grind
  · rw [pIf_f c, pIf_f c]
theorem tl_eq {N T : Nat → Int32} (hN : agr 7 N T) : agr 7 (oneN g z N p) (tl8 g z T p) := by
  unfold oneN tl8
  by_cases c : ok1 g z p
  · rw [pIf_t c, pIf_t (ok_iff.mpr c), nw_y c.1 c.2.1, vl_eq c]
    intro j hj
    by_cases e : j = nmI g z p
    · rw [e, upd_self, upd_self]
    · rw [upd_other e, upd_other e]; exact hN j hj
  · rw [pIf_f c, pIf_f (fun q => c (ok_iff.mp q))]; exact hN
/-- the reading of the class beside the model's -/
def rdR (z : Nat) (σ : LSt) (τ : LSt8) : Prop := (σ.1 ↔ τ.1) ∧ agr 7 σ.2.1 τ.2.1 ∧ (σ.1 → σ.2.2 = τ.2.2.1) ∧ (¬ σ.1 → nI σ.2.2 = τ.2.2.2) ∧ σ.2.2 ≤ z
theorem rd_one {N T : Nat → Int32} (hp : p ≤ z) (hN : agr 7 N T) : rdR z (ok1 g z p, oneN g z N p, oneP g z p) (ok8 g z p, tl8 g z T p, pl8 g z p, wr8 g z p) := ⟨ok_iff.symm, tl_eq hN, fun h => (pl_eq h).symm, fun h => (wr_eq h).symm, (oneP_le hp).2⟩
theorem rd_run {g : Nat → Int32} {z : Nat} : ∀ k σ τ, rdR z σ τ → rdR z (rdF g z k σ) (rdL8 g z k τ)
  | 0, σ, τ, h => h
  | k + 1, σ, τ, h => by
    show rdR z (pIf _ _ _) (pIf _ _ _)
    obtain ⟨h1, h2, h3, h4, h5⟩ := id h
    by_cases c : σ.1 ∧ σ.2.2 < z
    · have e := h3 c.1
      rw [pIf_t c, pIf_t ⟨h1.mp c.1, by rw [← e]; exact c.2⟩]
      refine rd_run k _ _ ?_
      unfold stpL stp8
      rw [← e]
      by_cases q : g σ.2.2 = 59
      · rw [pIf_t q, pIf_t (show nxP g z σ.2.2 0 59 from ⟨c.2, q⟩)]
        exact rd_one (by omega) h2
      · rw [pIf_f q, pIf_f (show ¬ nxP g z σ.2.2 0 59 from fun r => q r.2)]
        exact ⟨Iff.rfl, h2, fun r => absurd r id, fun _ => rfl, h5⟩
    · rw [pIf_f c, pIf_f (fun q => c ⟨h1.mpr q.1, by rw [h3 (h1.mpr q.1)]; exact q.2⟩)]
      exact h
end WORDS
/-! the same signs -/
section SIGNS
variable {f g : Nat → Int32} {z : Nat}
theorem nx_cg (h : agr z f g) (p a : Nat) (c : Int32) : nxP f z p a c = nxP g z p a c := by
  unfold nxP
  refine propext (and_congr_right (fun q => ?_))
  rw [h _ q]
theorem dg_cg (h : agr z f g) (p : Nat) : dgP f z p = dgP g z p := by
  unfold dgP
  refine propext (and_congr_right (fun q => ?_))
  rw [h _ q]
theorem alk_cg (h : agr z f g) (p : Nat) : alk f z p = alk g z p := funext fun i => whileN_cg (fun j => by rw [nx_cg h]) _ _
theorem nmI_cg (h : agr z f g) (p : Nat) : nmI f z p = nmI g z p := by unfold nmI; rw [alk_cg h]
theorem rnP_cg (h : agr z f g) (p : Nat) : rnP f z p = rnP g z p := by unfold rnP; rw [nmI_cg h, alk_cg h]
theorem ok1_cg (h : agr z f g) (p : Nat) : ok1 f z p = ok1 g z p := by unfold ok1; rw [nmI_cg h, rnP_cg h, nx_cg h, dg_cg h]
theorem oneP_cg (h : agr z f g) (p : Nat) : oneP f z p = oneP g z p := by unfold oneP; rw [nmI_cg h, rnP_cg h, nx_cg h, dg_cg h, dg_cg h]
theorem oneV_cg (h : agr z f g) {p : Nat} (ho : ok1 g z p) : oneV f z p = oneV g z p := by
  unfold oneV
  rw [rnP_cg h, dg_cg h, h _ ho.2.2.1]
  by_cases c : dgP g z (rnP g z p + 2)
  · rw [pIf_t c, pIf_t c, h _ c.1]
  · rw [pIf_f c, pIf_f c]
theorem oneN_cg (h : agr z f g) (N : Nat → Int32) (p : Nat) : oneN f z N p = oneN g z N p := by
  unfold oneN
  rw [ok1_cg h]
  by_cases c : ok1 g z p
  · rw [pIf_t c, pIf_t c, nmI_cg h, oneV_cg h c]
  · rw [pIf_f c, pIf_f c]
theorem stpL_cg (h : agr z f g) (σ : LSt) : stpL f z σ = stpL g z σ := by unfold stpL; rw [nx_cg h, ok1_cg h, oneN_cg h, oneP_cg h]
theorem rdF_cg (h : agr z f g) : ∀ k σ, rdF f z k σ = rdF g z k σ
  | 0, σ => rfl
  | k + 1, σ => by
    show pIf _ _ _ = pIf _ _ _
    rw [stpL_cg h, rdF_cg h k]
theorem lawR_cg (h : agr z f g) (N : Nat → Int32) : lawR f z N = lawR g z N := by unfold lawR; rw [rdF_cg h, ok1_cg h, oneN_cg h, oneP_cg h]
end SIGNS
theorem J.rdr (h : J n cnt mc A B) {k : Nat} (hk : k < 8) : rdR 100 (lwR A k) (lwF8 B k) ∧ (¬ (lwR A k).1 → nI (lwR A k).2.2 = (lwF8 B k).2.2.2) := by
  obtain ⟨⟨z, z1, z2, z3⟩, -, zl⟩ := h.2.2.2.1 k hk
  have e : rdR z (lwR A k) (lwF8 B k) := by
    unfold lwR lwF8
    rw [z2, z3, nI_clamp (by omega)]
    have hs : agr z (signF A k z) (sgF B k) := fun j hj => by
      unfold signF sgF
      rw [upto_lt hj, zl j (by omega)]
    rw [lawR_cg hs]
    refine rd_run _ _ _ (rd_one (by omega) (fun i hi => ?_))
    unfold law0
    rw [cpy_at hi, upto_lt hi, h.2.1.2.2.2.2 i hi]
  exact ⟨⟨e.1, e.2.1, e.2.2.1, e.2.2.2.1, by have := e.2.2.2.2; omega⟩, e.2.2.2.1⟩
theorem J.fau (h : J n cnt mc A B) (hA : ∀ q, q ≠ 0 → q ≠ 100 → q ≠ 101 → q ≠ 102 → A'.1 q = A.1 q) (hA0 : ∀ j, j ≠ 9 → A'.1 0 j = A.1 0 j) (hA2 : A'.2 = A.2) (hB : ∀ q, q ≠ 105 → q ≠ 127 → B'.1 q = B.1 q) (hf : ∀ j, ¬ (31 ≤ j ∧ j ≤ 35) → j ≠ 6 → B'.1 105 j = B.1 105 j) (hB2 : B'.2 = B.2) (e9 : A'.1 0 9 = B'.1 105 6) : J n cnt mc A' B' := by
  obtain ⟨a, b, c, d, e, f, g, i⟩ := h
  refine ⟨a.fr (fun q hq => hA q (by omega) (by omega) (by omega) (by omega)) (fun t ht => by rw [hB _ (by omega) (by omega)]; exact agr.rf) (fun j hj => hf j (by omega) (by omega)), b.fr (fun q hq => hA q (by omega) (by omega) (by omega) (by omega)) (fun q hq => hB q (by omega) (by omega)) (fun j hj => hf j (by omega) (by omega)), c.fr (fun q hq => hA q (by omega) (by omega) (by omega) (by omega)) (hB 117 (by omega) (by omega)) (hf 2 (by omega) (by omega)), d.fr (fun q hq => hA q (by omega) (by omega) (by omega) (by omega)) (fun k hk => by rw [hA2]) (fun q hq => hB q (by omega) (by omega)) (by rw [hB2]), ⟨fun k hk => ?_, e9⟩, f.fr (fun q hq => hA q (by omega) (by omega) (by omega) (by omega)) (hB 139 (by omega) (by omega)) (hf 54 (by omega) (by omega)), g.fr (hA0 13 (by omega)) (fun q hq => hA q (by omega) (by omega) (by omega) (by omega)) (hB 140 (by omega) (by omega)) (fun j hj => hf j (by omega) (by omega)), i.fr (hB 126 (by omega) (by omega)) (hf 36 (by omega) (by omega))⟩
  rw [hA 1 (by omega) (by omega) (by omega) (by omega), hB 106 (by omega) (by omega)]
  exact e.1 k hk
theorem J.add (h : J n cnt mc A B) (h6 : cnt < 6) (hA : ∀ q, q ≠ 78 → q ≠ 80 + (cnt + 1) → A'.1 q = A.1 q) (hA1 : A'.1 78 1 = nI (cnt + 1)) (hA3 : A'.1 78 2 = A.1 78 2) (hA2 : A'.2 = A.2) (hB : ∀ q, q ≠ 105 → q ≠ 119 → B'.1 q = B.1 q) (hB1 : B'.1 105 1 = nI (cnt + 1)) (hf : ∀ j, j ≠ 1 → B'.1 105 j = B.1 105 j) (hB2 : B'.2 = B.2) (h9 : ∀ j, j < 7 * cnt → B'.1 119 j = B.1 119 j) (hN : ∀ i, i < 7 → A'.1 (80 + (cnt + 1)) i = B'.1 119 (7 * cnt + i)) : J n (cnt + 1) mc A' B' := by
  obtain ⟨a, ⟨b1, b2, b3, ⟨b4, b5, b6, b7⟩, b8⟩, c, d, e, f, g, i⟩ := h
  refine ⟨a.fr (fun q hq => hA q (by omega) (by omega)) (fun t ht => by rw [hB _ (by omega) (by omega)]; exact agr.rf) (fun j hj => hf j (by omega)), ⟨hA1, hB1, by omega, ⟨fun k hk j hj => ?_, fun j hj => ?_, ?_, ?_⟩, ?_⟩, c.fr (fun q hq => hA q (by omega) (by omega)) (hB 117 (by omega) (by omega)) (hf 2 (by omega)), d.fr (fun q hq => hA q (by omega) (by omega)) (fun k hk => by rw [hA2]) (fun q hq => hB q (by omega) (by omega)) (by rw [hB2]), e.fr (fun q hq => hA q (by omega) (by omega)) (hB 106 (by omega) (by omega)) (hf 6 (by omega)), f.fr (fun q hq => hA q (by omega) (by omega)) (hB 139 (by omega) (by omega)) (hf 54 (by omega)), g.fr (congrFun (hA 0 (by omega) (by omega)) 13) (fun q hq => hA q (by omega) (by omega)) (hB 140 (by omega) (by omega)) (fun j hj => hf j (by omega)), i.fr (hB 126 (by omega) (by omega)) (hf 36 (by omega))⟩
  · show A'.1 (80 + (k + 1)) j = B'.1 119 (7 * k + j)
    by_cases q : k = cnt
    · subst q; exact hN j hj
    · rw [hA _ (by omega) (by omega), h9 _ (by omega)]
      exact b4 k (by omega) j hj
  · show A'.1 80 j = _
    rw [hA 80 (by omega) (by omega)]
    exact b5 j hj
  · rw [hA3, hf 5 (by omega)]; exact b6
  · rw [hf 5 (by omega)]
    exact b7.imp id (fun ⟨k, q1, q2⟩ => ⟨k, by omega, q2⟩)
  · rw [hB 118 (by omega) (by omega)]; exact b8
theorem lwM_0 {k j : Nat} (h : j ≠ 9) : (lwM A k).1 0 j = A.1 0 j := by
  unfold lwM rdM rdB plM
  rw [mI_self, upd_other h, rI_other (by decide), mI_other (by decide), mI_other (by decide), rI_other (by decide), rI_other (by decide)]
theorem lwM_9 {k : Nat} : (lwM A k).1 0 9 = lwX A k := by
  unfold lwM
  rw [mI_self, upd_self]
theorem lwM_1 {k i : Nat} : (lwM A k).1 101 i = (lwR A k).2.1 i := by
  unfold lwM rdM
  rw [mI_other (by decide), rI_self]
theorem lwX8_o {k q : Nat} (h : q ≠ 105) (h2 : q ≠ 127) : (lwX8 B k).1 q = B.1 q := by
  unfold lwX8
  rw [cn8_o ⟨h, h2⟩, lB8_o h]
theorem lwX8_f {k j : Nat} (h : ¬ (31 ≤ j ∧ j ≤ 35)) (h2 : j ≠ 6) : (lwX8 B k).1 105 j = B.1 105 j := by
  unfold lwX8
  rw [cn8_f (by omega), lB8_f (by omega)]
theorem lwX8_6 {k : Nat} : (lwX8 B k).1 105 6 = -1 := by
  unfold lwX8
  rw [cn8_f (by decide)]
  unfold lB8
  rw [mI_self, upd_self]
theorem J.lw1 (h : J n cnt mc A B) {k : Nat} {Y : Mm} (hY : ∀ q, q ≠ 105 → q ≠ 127 → Y.1 q = B.1 q) (hf : ∀ j, ¬ (31 ≤ j ∧ j ≤ 35) → j ≠ 6 → Y.1 105 j = B.1 105 j) (h2 : Y.2 = B.2) (e : Y.1 105 6 = lwX A k) : J n cnt mc (lwM A k) Y :=
  h.fau (fun q a b c d => lwM_o ⟨a, b, c, d⟩) (fun j hj => lwM_0 hj) rfl hY hf h2 (lwM_9.trans e.symm)
theorem ov_in {b q i : Nat} {G f : Nat → Int32} (hi : i < q) : ovI b q G f (b + i) = G i := by
  unfold ovI
  rw [pIf_t ⟨by omega, by omega⟩, show b + i - b = i by omega]
theorem ov_lt {b q j : Nat} {G f : Nat → Int32} (hj : j < b) : ovI b q G f j = f j := pIf_f (by omega)
theorem st_laws {s v w : Int32} (h : J n cnt mc A B) (hc : S_laws A cnt s v A') (hm : S8_laws B cnt s w B') : v = w ∧ Jx A' B' := by
  unfold S_laws at hc
  unfold S8_laws at hm
  rw [h.rr] at hc
  by_cases c1 : wan8 B s = 0
  · rw [pIf_t c1] at hc hm
    obtain ⟨k, hk, rfl, h1⟩ := h.onk c1
    rw [nI_clamp (by omega)] at hc hm
    obtain ⟨⟨r1, r2, r3, r4, r5⟩, -⟩ := h.rdr hk
    have c6 := h.c6
    by_cases c2 : (lwR A k).1
    · have ex : lwX A k = -1 := pIf_t c2
      rw [pIf_t ex] at hc
      rw [pIf_t (r1.mp c2)] at hm
      have hJ : J n cnt mc (lwM A k) (lwX8 B k) := h.lw1 (fun q a b => lwX8_o a b) (fun j a b => lwX8_f a b) rfl (lwX8_6.trans ex.symm)
      by_cases c3 : cnt < 6
      · rw [pIf_t c3] at hc
        rw [pIf_f (by omega)] at hm
        obtain ⟨rfl, rfl⟩ := hc
        obtain ⟨rfl, rfl⟩ := hm
        refine ⟨rfl, (J.add (A' := bookAdd 78 cnt 101 (lwM A k)) (B' := mI (rI (lwX8 B k) 119 (ovI (7 * cnt) 7 ((lwX8 B k).1 127) ((lwX8 B k).1 119))) 105 1 (nI (cnt + 1))) hJ c3 (fun q a b => ?_) ?_ ?_ rfl (fun q a b => ?_) ?_ (fun j hj => ?_) rfl (fun j hj => ?_) (fun i hi => ?_)).x⟩
        · unfold bookAdd
          rw [mI_other a, rI_other b]
        · unfold bookAdd
          rw [mI_self, upd_self]
        · unfold bookAdd
          rw [mI_self, upd_other (by decide), rI_other (by omega)]
        · rw [mI_other a, rI_other b]
        · rw [mI_self, upd_self]
        · rw [mI_self, upd_other hj, rI_other (by decide)]
        · rw [mI_other (by decide), rI_self]
          exact ov_lt hj
        · unfold bookAdd
          rw [mI_other (by omega), mI_other (by decide), rI_self, show 78 + 2 + (cnt + 1) = 80 + (cnt + 1) from rfl, rI_self, cpy_at hi, lwM_1, ov_in hi]
          show _ = (cn8 _ _ _ _).1 127 i
          rw [cn8_127]
          exact r2 i hi
      · rw [pIf_f c3] at hc
        rw [pIf_t (by omega)] at hm
        obtain ⟨rfl, rfl⟩ := hc
        obtain ⟨rfl, rfl⟩ := hm
        exact ⟨rfl, (hJ.ref (k := 6) (by decide)).x⟩
    · have ex : lwX A k = nI (lwR A k).2.2 := pIf_f c2
      rw [pIf_f (by rw [ex]; have t : ∀ p, p ≤ 100 → ¬ nI p = -1 := by decide +kernel
                    exact t _ r5)] at hc
      rw [pIf_f (fun z => c2 (r1.mpr z))] at hm
      obtain ⟨rfl, rfl⟩ := hc
      obtain ⟨rfl, rfl⟩ := hm
      refine ⟨rfl, (J.ref (k := 5) (h.lw1 (Y := mI (lwX8 B k) 105 6 (lwF8 B k).2.2.2) (fun q a b => ?_) (fun j a b => ?_) rfl ?_) (by decide)).x⟩
      · rw [mI_other a]; exact lwX8_o a b
      · rw [mI_self, upd_other b]; exact lwX8_f a b
      · rw [mI_self, upd_self, ex, r4 c2]
  · rw [pIf_f c1] at hc hm
    obtain ⟨rfl, rfl⟩ := hc
    obtain ⟨rfl, rfl⟩ := hm
    exact ⟨rfl, (h.refA (wan_v c1)).x⟩
end ST12
