/-! a tick of the class beside a tick of the model -/
theorem wb_tb (n : Nat) : (lN n).toBitVec = BitVec.ofNat 64 n := rfl
theorem wb_inj {a b : Int64} (h : a.toBitVec = b.toBitVec) : a = b := Int64.toBitVec_inj.mp h
theorem wb_tn {n : Nat} (h : n < 2 ^ 64) : (lN n).toBitVec.toNat = n := by rw [wb_tb, BitVec.toNat_ofNat, Nat.mod_eq_of_lt h]
theorem wb_c : ∀ k, k < 64 → ((nI k).toInt64 &&& 63) = lN k := by decide +kernel
theorem wb_sm : ∀ k, k < 64 → (BitVec.ofNat 64 k).smod 64 = BitVec.ofNat 64 k := by decide +kernel
theorem wb_lt2 {a b : Nat} (h : a < b) : 2 ^ a < 2 ^ b := Nat.pow_lt_pow_right (by decide) h
theorem wb_shl (n : Nat) {k : Nat} (hk : k < 64) : lN n <<< ((nI k).toInt64 &&& 63) = lN (n * 2 ^ k) := by
  rw [wb_c k hk]
  apply wb_inj
  rw [Int64.toBitVec_shiftLeft, wb_tb, wb_tb, wb_tb, wb_sm k hk]
  apply BitVec.eq_of_toNat_eq
  rw [BitVec.shiftLeft_eq', BitVec.toNat_shiftLeft, BitVec.toNat_ofNat, BitVec.toNat_ofNat, BitVec.toNat_ofNat, Nat.mod_eq_of_lt (show k < 2 ^ 64 by omega), Nat.shiftLeft_eq, Nat.mul_mod, Nat.mod_mod, ← Nat.mul_mod]
theorem wb_and {a b : Nat} (ha : a < 2 ^ 64) (hb : b < 2 ^ 64) : lN a &&& lN b = lN (a &&& b) := by
  apply wb_inj
  rw [Int64.toBitVec_and, wb_tb, wb_tb, wb_tb]
  apply BitVec.eq_of_toNat_eq
  rw [BitVec.toNat_and, BitVec.toNat_ofNat, BitVec.toNat_ofNat, BitVec.toNat_ofNat, Nat.mod_eq_of_lt ha, Nat.mod_eq_of_lt hb, Nat.mod_eq_of_lt (Nat.and_lt_two_pow _ hb)]
theorem wb_or {a b : Nat} (ha : a < 2 ^ 64) (hb : b < 2 ^ 64) : lN a ||| lN b = lN (a ||| b) := by
  apply wb_inj
  rw [Int64.toBitVec_or, wb_tb, wb_tb, wb_tb]
  apply BitVec.eq_of_toNat_eq
  rw [BitVec.toNat_or, BitVec.toNat_ofNat, BitVec.toNat_ofNat, BitVec.toNat_ofNat, Nat.mod_eq_of_lt ha, Nat.mod_eq_of_lt hb, Nat.mod_eq_of_lt (Nat.or_lt_two_pow ha hb)]
theorem wb_mask {n k : Nat} (hn : n < 2 ^ 64) (hk : k < 64) : lN n &&& lN (2 ^ k - 1) = lN (n % 2 ^ k) := by
  rw [wb_and hn (by have := wb_lt2 hk; omega), Nat.and_two_pow_sub_one_eq_mod]
theorem wb_a1 {n : Nat} (hn : n < 2 ^ 64) : lN n &&& 1 = lN (n % 2) := wb_mask (k := 1) hn (by decide)
theorem pf_lI {a : Nat} (h : a < 2 ^ 63) : (lN a).toInt = (a : Int) := lg_ofNat_toInt h
theorem pf_shr {a d : Nat} {D : Int64} (hD : (D.toBitVec.smod 64).toNat = d) (h : a < 2 ^ 62) : lN a >>> D = lN (a / 2 ^ d) := by
  have hd : a / 2 ^ d ≤ a := Nat.div_le_self _ _
  apply Int64.toInt_inj.mp
  have e : (lN a >>> D).toInt = (lN a).toInt >>> d := by
    rw [← hD]
    exact BitVec.toInt_sshiftRight ..
  rw [e, Int.shiftRight_eq_div_pow, pf_lI (by omega), pf_lI (by omega)]
  rfl
/-- rows that agree on the people there are -/
def agr (n : Nat) (f g : Nat → Int32) : Prop := ∀ j, j < n → f j = g j
theorem agr.rf {n : Nat} {f : Nat → Int32} : agr n f f := fun _ _ => rfl
theorem agr.sy {n : Nat} {f g : Nat → Int32} (h : agr n f g) : agr n g f := fun j hj => (h j hj).symm
theorem agr.tr {n : Nat} {f g k : Nat → Int32} (h : agr n f g) (h2 : agr n g k) : agr n f k := fun j hj => (h j hj).trans (h2 j hj)
theorem hearF_cg {n p : Nat} {s s' m m' : Nat → Int32} (hs : agr n s s') (hm : agr n m m') (hp : p < n) : hearF n s m p = hearF n s' m' p := sumI_cong (fun o ho => by
  have e : wgt s p o = wgt s' p o := by unfold wgt; rw [hs p hp, hs o ho]
  rw [e, hm o ho])
theorem nearF_cg {n p : Nat} {s s' m m' : Nat → Int32} (hs : agr n s s') (hm : agr n m m') (hp : p < n) : nearF n s m p = nearF n s' m' p := sumI_cong (fun o ho => by rw [hs p hp, hs o ho, hm o ho])
theorem sdF_cg {n : Nat} {k k' m m' : Nat → Int32} (hk : agr n k k') (hm : agr n m m') (s0 : Int32) : ∀ i, i ≤ n → sdF k m s0 i = sdF k' m' s0 i
  | 0, _ => rfl
  | i + 1, h => by
    show pIf _ _ _ = pIf _ _ _
    rw [sdF_cg hk hm s0 i (by omega), hk i (by omega), hm i (by omega)]
theorem wbP_W {k w a o q l : Int32} {W W' : Nat → Int32} (h : agr 7 W W') : wbP k w a o q l W = wbP k w a o q l W' := by
  unfold wbP
  rw [h 0 (by omega), h 1 (by omega), h 4 (by omega)]
theorem wb8P_W {na : Prop} {k w a o q l : Int32} {W W' : Nat → Int32} (h : agr 7 W W') : wb8P na k w a o q l W = wb8P na k w a o q l W' := by
  unfold wb8P
  rw [h 0 (by omega), h 1 (by omega), h 4 (by omega)]
theorem wsP_W {k t l o q : Int32} {ti : Prop} {W W' : Nat → Int32} (h : agr 7 W W') : wsP k t l o q ti W = wsP k t l o q ti W' := by
  unfold wsP
  rw [h 1 (by omega), h 2 (by omega), h 4 (by omega)]
/-- how AT counts: as it is, or not at all -/
def atR (c n b : Nat) (X Y : Mm) : Prop := (Y.1 105 36 = 0 ∧ agr n (X.1 (c + 6)) (Y.1 111)) ∨ (¬ Y.1 105 36 = 0 ∧ (∀ j, j < n → X.1 (c + 6) j = 10000) ∧ X.1 c 12 = nI b)
def mdR (n : Nat) (Y : Mm) : Prop := ∀ j, j < n → (Y.1 113 j = 0 ∨ Y.1 113 j = 1 ∨ Y.1 113 j = 2) ∧ (¬ Y.1 113 j = 1 → Y.1 114 j = 0)
/-- a crowd of the class beside the model: what turns need -/
def tR (c n L b : Nat) (X Y : Mm) : Prop := agr n (X.1 (c + 2)) (Y.1 107) ∧ agr n (X.1 (c + 3)) (Y.1 108) ∧ agr n (X.1 (c + 4)) (Y.1 109) ∧ agr n (X.1 (c + 8)) (Y.1 113) ∧ agr n (X.1 (c + 9)) (Y.1 114) ∧ X.1 c 12 = Y.1 105 3 ∧ X.1 c 13 = Y.1 105 4 ∧ agr 7 (X.1 L) (rulI Y) ∧ atR c n b X Y ∧ mdR n Y
theorem wb_q {c n b j : Nat} {X Y : Mm} {kd o k lk : Int32} {W : Nat → Int32} (ha : atR c n b X Y) (hw : X.1 c 12 = Y.1 105 3) (hb : b < 10000 ∨ Y.1 105 36 = 0) (hj : j < n) : wbP kd (Y.1 105 3) (X.1 (c + 6) j) o k lk W ↔ wb8P (Y.1 105 36 = 0) kd (Y.1 105 3) (Y.1 111 j) o k lk W := by
  rcases ha with ⟨h36, h6⟩ | ⟨h36, h6, hn⟩
  · have t : (Y.1 105 36 = 0) = True := eq_true h36
    rw [h6 j hj, t]
    unfold wbP wb8P
    simp only [true_and]
  · have hb := hb.resolve_right h36
    have e : Y.1 105 3 < 10000 := by rw [← hw, hn]; exact (nI_ltI (a := b) (b := 10000) (by omega) (by omega)).mpr hb
    have t : (Y.1 105 36 = 0) = False := eq_false h36
    rw [h6 j hj, t]
    unfold wbP wb8P
    simp only [e, not_true_eq_false, false_and, false_or]
theorem tn_eq {c n L b j : Nat} {X Y : Mm} (h : tR c n L b X Y) (hb : b < 10000 ∨ Y.1 105 36 = 0) (hj : j < n) : tnC c n L X j ↔ tn8 n Y j := by
  obtain ⟨h2, h3, h4, h8, h9, hw, hs, hL, ha, hm⟩ := h
  unfold tnC tnP tn8
  rw [hearF_cg h3 h8 hj, nearF_cg h3 h8 hj, h8 j hj, sdF_cg h2 h8 _ j (by omega), hs, h2 j hj, h4 j hj, h9 j hj, wbP_W hL, wsP_W hL, hL 3 (by omega)]
  refine or_congr (and_congr_right fun _ => ?_) Iff.rfl
  have e := wb_q (kd := Y.1 107 j) (o := hearF n (Y.1 108) (Y.1 113) j) (k := nearF n (Y.1 108) (Y.1 113) j) (lk := Y.1 109 j) (W := rulI Y) ha hw hb hj
  rw [hw]
  exact e
theorem nm_eq {c n L b j : Nat} {X Y : Mm} (h : tR c n L b X Y) (hb : b < 10000 ∨ Y.1 105 36 = 0) (hj : j < n) : nmF (tnC c n L X) (X.1 (c + 8)) j = nm8 n Y j := by
  have e := tn_eq h hb hj
  unfold nm8 nmF
  rw [h.2.2.2.1 j hj]
  by_cases q : tn8 n Y j
  · rw [pIf_t (e.mpr q), pIf_t q]
  · rw [pIf_f (fun z => q (e.mp z)), pIf_f q]
theorem nm8_d (n : Nat) (Y : Mm) (j : Nat) : nm8 n Y j = pIf (tn8 n Y j) (pIf (Y.1 113 j = 0) 1 2) (Y.1 113 j) := rfl
theorem nt_eq {c n L b j : Nat} {X Y : Mm} (h : tR c n L b X Y) (hb : b < 10000 ∨ Y.1 105 36 = 0) (hj : j < n) : ntF (tnC c n L X) (X.1 (c + 8)) (X.1 (c + 9)) j = nt8 n Y j := by
  have e := tn_eq h hb hj
  obtain ⟨h2, h3, h4, h8, h9, hw, hs, hL, ha, hm⟩ := h
  unfold ntF nt8
  by_cases q : tn8 n Y j
  · rw [pIf_t (e.mpr q)]
    refine (pIf_f (fun z => ?_)).symm
    have z2 := z.2
    rw [nm8_d, pIf_t q, pIf_f (by rw [z.1]; decide)] at z2
    exact absurd z2 (by decide)
  · rw [pIf_f (fun z => q (e.mp z)), h8 j hj, h9 j hj]
    by_cases r : Y.1 113 j = 1
    · rw [pIf_t r, pIf_t ⟨r, by rw [nm8_d, pIf_f q]; exact r⟩]
    · rw [pIf_f r, pIf_f (fun z => r z.1)]
      exact (hm j hj).2 r
theorem nm8_md {n j : Nat} {Y : Mm} (hm : mdR n Y) (hj : j < n) : (nm8 n Y j = 0 ∨ nm8 n Y j = 1 ∨ nm8 n Y j = 2) ∧ (¬ nm8 n Y j = 1 → nt8 n Y j = 0) := by
  refine ⟨?_, fun q => pIf_f (fun z => q z.2)⟩
  rw [nm8_d]
  by_cases q : tn8 n Y j
  · rw [pIf_t q]
    by_cases r : Y.1 113 j = 0
    · rw [pIf_t r]; exact Or.inr (Or.inl rfl)
    · rw [pIf_f r]; exact Or.inr (Or.inr rfl)
  · rw [pIf_f q]
    exact (hm j hj).1
/-- what a tick of the model makes -/
theorem tk8_v {n : Nat} {Y Y1 : Mm} (h : tk8 n Y Y1) : Y1.1 105 3 = Y.1 105 3 + 1 ∧ Y1.1 105 4 = sd8 n Y ∧ Y1.1 105 7 = bitsI n (hi8 n Y) ∧ Y1.1 105 8 = cl8 n Y ∧ (∀ j, j < n → Y1.1 112 j = ph8 n Y j ∧ Y1.1 113 j = nm8 n Y j ∧ Y1.1 114 j = nt8 n Y j ∧ Y1.1 115 j = rs8 n Y j) ∧ Y1.1 105 51 = Y.1 105 51 ∧ Y1.1 137 = Y.1 137 := by
  obtain ⟨Z, ⟨hS, hf, h4, h7, h8, hr⟩, rfl⟩ := h
  refine ⟨by rw [mI_self, upd_self], ?_, ?_, ?_, fun j hj => ?_, ?_, ?_⟩
  · rw [mI_self, upd_other (by decide)]; exact h4
  · rw [mI_self, upd_other (by decide)]; exact h7
  · rw [mI_self, upd_other (by decide)]; exact h8
  · rw [mI_other (by decide), mI_other (by decide), mI_other (by decide), mI_other (by decide)]; exact hr j hj
  · rw [mI_self, upd_other (by decide)]; exact hf 51 (by decide) (by decide) (by decide)
  · rw [mI_other (by decide)]; exact hS.2 137 (by unfold S8; omega)
theorem turn_t {c n L b : Nat} {X X1 Y Y1 : Mm} (h : tR c n L b X Y) (hb : b < 10000 ∨ Y.1 105 36 = 0) (hL : L ≠ c ∧ ¬ (c + 2 ≤ L ∧ L ≤ c + 14)) (ht : turnQ c n L X X1) (hk : tk8 n Y Y1) : tR c n L (b + 1) (mI X1 c 12 (X1.1 c 12 + 1)) Y1 := by
  have hnm := fun j hj => nm_eq h hb (j := j) hj
  have hnt := fun j hj => nt_eq h hb (j := j) hj
  obtain ⟨h2, h3, h4, h8, h9, hw, hs, hLw, ha, hm⟩ := h
  obtain ⟨tS, tj, t13, -, tr, -⟩ := ht
  obtain ⟨k3, k4, -, -, kr, -, -⟩ := tk8_v hk
  have fX := tk8_fx hk
  have o : ∀ q, q ≠ c → (mI X1 c 12 (X1.1 c 12 + 1)).1 q = X1.1 q := fun q hq => mI_other hq
  have e12 : (mI X1 c 12 (X1.1 c 12 + 1)).1 c 12 = X.1 c 12 + 1 := by rw [mI_self, upd_self, tj 12 (by decide)]
  refine ⟨?_, ?_, ?_, fun j hj => ?_, fun j hj => ?_, ?_, ?_, ?_, ?_, fun j hj => ?_⟩
  · rw [o _ (by omega), tS.2 _ (by omega), fX.2.1 107 (by unfold S8; omega)]; exact h2
  · rw [o _ (by omega), tS.2 _ (by omega), fX.2.1 108 (by unfold S8; omega)]; exact h3
  · rw [o _ (by omega), tS.2 _ (by omega), fX.2.1 109 (by unfold S8; omega)]; exact h4
  · rw [o _ (by omega), (tr j hj).1, if_pos hj, (kr j hj).2.1]; exact hnm j hj
  · rw [o _ (by omega), (tr j hj).2, if_pos hj, (kr j hj).2.2.1]; exact hnt j hj
  · rw [e12, k3, hw]
  · rw [mI_self, upd_other (by decide), t13, k4, hs]
    exact sdF_cg h2 h8 _ n (Nat.le_refl n)
  · rw [o L hL.1, tS.2 L (by omega)]
    intro i hi
    rw [rul_s fX.L i]
    exact hLw i hi
  · unfold atR
    rw [fX.2.2 36 (by decide) (by decide) (by decide) (by decide) (by decide), fX.2.1 111 (by unfold S8; omega), o _ (by omega), tS.2 (c + 6) (by omega), e12]
    exact ha.imp id (fun q => ⟨q.1, q.2.1, by rw [q.2.2, nI_succ]⟩)
  · rw [(kr j hj).2.1, (kr j hj).2.2.1]
    exact nm8_md hm hj
theorem bits_eq {c n L b : Nat} {X Y : Mm} (h : tR c n L b X Y) (hb : b < 10000 ∨ Y.1 105 36 = 0) : bitsI n (fun j => nmF (tnC c n L X) (X.1 (c + 8)) j = 1) = bitsI n (fun j => nm8 n Y j = 1) := bitsI_cong (fun j hj => by rw [nm_eq h hb hj])
theorem cl_eq {n : Nat} {Y : Mm} (hn : n ≤ 30) : bcI (bitsI n (fun j => nm8 n Y j = 1)) = cl8 n Y := bcI_bits (by omega)
/-! who stood, as bits -/
noncomputable def stN (seat stands : Nat → Int32) : Nat → Nat
  | 0 => 0
  | i + 1 => pIf (stands i = 1) (stN seat stands i ||| 2 ^ (seat i).toNatClampNeg) (stN seat stands i)
theorem stN_ok {n : Nat} {seat stands : Nat → Int32} (hst : ∀ q, q < n → ∃ s, s < 48 ∧ seat q = nI s) : ∀ i, i ≤ n → stF seat stands i = lN (stN seat stands i) ∧ stN seat stands i < 2 ^ 48 ∧ ∀ t, t < 48 → ((stN seat stands i).testBit t = true ↔ ∃ q, q < i ∧ seat q = nI t ∧ stands q = 1)
  | 0, _ => ⟨rfl, by show 0 < _; decide, fun t _ => ⟨fun q => by rw [show stN seat stands 0 = 0 from rfl, Nat.zero_testBit] at q; exact absurd q (by decide), fun ⟨q, a, _⟩ => absurd a (by omega)⟩⟩
  | i + 1, h => by
    obtain ⟨ih1, ih2, ih3⟩ := stN_ok hst i (by omega)
    obtain ⟨s, hs, es⟩ := hst i (by omega)
    by_cases q : stands i = 1
    · have e1 : stF seat stands (i + 1) = stF seat stands i ||| (1 <<< ((seat i).toInt64 &&& 63)) := pIf_t q
      have e2 : stN seat stands (i + 1) = stN seat stands i ||| 2 ^ s := by
        show pIf _ _ _ = _
        rw [pIf_t q, es, nI_clamp (by omega)]
      have p48 : 2 ^ s < 2 ^ 48 := wb_lt2 hs
      rw [e1, e2, ih1, es, show (1 : Int64) = lN 1 from rfl, wb_shl 1 (by omega), Nat.one_mul, wb_or (by omega) (by omega)]
      refine ⟨rfl, Nat.or_lt_two_pow ih2 p48, fun t ht => ?_⟩
      rw [Nat.testBit_or, Bool.or_eq_true, ih3 t ht, Nat.testBit_two_pow, decide_eq_true_iff]
      constructor
      · rintro (⟨z, a, b, c⟩ | z)
        · exact ⟨z, by omega, b, c⟩
        · exact ⟨i, by omega, by rw [es, z], q⟩
      · rintro ⟨z, a, b, c⟩
        by_cases e : z = i
        · subst e
          rw [es] at b
          exact Or.inr ((nI_eq (by omega) (by omega)).mp b)
        · exact Or.inl ⟨z, by omega, b, c⟩
    · have e1 : stF seat stands (i + 1) = stF seat stands i := pIf_f q
      have e2 : stN seat stands (i + 1) = stN seat stands i := pIf_f q
      rw [e1, e2]
      refine ⟨ih1, ih2, fun t ht => (ih3 t ht).trans ⟨fun ⟨z, a, b, c⟩ => ⟨z, by omega, b, c⟩, fun ⟨z, a, b, c⟩ => ?_⟩⟩
      by_cases e : z = i
      · subst e; exact absurd c q
      · exact ⟨z, by omega, b, c⟩
theorem th_eq {n k i : Nat} {seat stands : Nat → Int32} (hst : ∀ q, q < n → ∃ s, s < 48 ∧ seat q = nI s) (hk : k < 48) (h8 : ¬ nI k < 8) (hi : i < 3) : thP (nI k) (stF seat stands n) i ↔ thN n seat stands (nI k) i := by
  unfold thP thN
  refine and_congr_right (fun hc => and_congr ?_ ?_)
  · have t : ∀ k, k < 48 → ∀ i, i < 3 → ((8 : Int32) ≤ nI k - nI k / 8 * 8 + (nI i - 1) ↔ 7 < nI k - nI k / 8 * 8 + (nI i - 1)) := by decide +kernel
    exact not_congr (t k hk i hi)
  · obtain ⟨t, ht, et⟩ := own_t hk h8 hi hc
    obtain ⟨e1, e2, e3⟩ := stN_ok (stands := stands) hst n (Nat.le_refl n)
    have sm : ((lN t).toBitVec.smod 64).toNat = t := by rw [wb_tb, wb_sm t (by omega), BitVec.toNat_ofNat, Nat.mod_eq_of_lt (by omega)]
    have hd : stN seat stands n / 2 ^ t < 2 ^ 64 := Nat.lt_of_le_of_lt (Nat.div_le_self _ _) (by omega)
    rw [et, e1, wb_c t (by omega), pf_shr sm (by omega), wb_a1 hd, ← e3 t ht, Nat.testBit_eq_decide_div_mod_eq, decide_eq_true_iff]
    rcases Nat.mod_two_eq_zero_or_one (stN seat stands n / 2 ^ t) with r | r
    · rw [r]; decide
    · rw [r]; decide
theorem cbF_eq {n k : Nat} {seat stands : Nat → Int32} (hst : ∀ q, q < n → ∃ s, s < 48 ∧ seat q = nI s) (hk : k < 48) (h8 : ¬ nI k < 8) : ∀ i, i ≤ 3 → cbF (nI k) (stF seat stands n) i = cbN n seat stands (nI k) i
  | 0, _ => rfl
  | i + 1, h => by
    have ih := cbF_eq (stands := stands) hst hk h8 i (by omega)
    have e := th_eq (stands := stands) hst hk h8 (i := i) (by omega)
    show pIf _ _ _ = pIf _ _ _
    by_cases q : thP (nI k) (stF seat stands n) i
    · rw [pIf_t q, pIf_t (e.mp q), ih]
    · rw [pIf_f q, pIf_f (fun z => q (e.mpr z)), ih]
theorem cbN_le {n : Nat} {seat stands : Nat → Int32} {s : Int32} : ∀ i, i ≤ 3 → ∃ k, k ≤ i ∧ cbN n seat stands s i = nI k
  | 0, _ => ⟨0, by omega, rfl⟩
  | i + 1, h => by
    obtain ⟨k, h1, h2⟩ := cbN_le (n := n) (seat := seat) (stands := stands) (s := s) i (by omega)
    by_cases q : thN n seat stands s i
    · exact ⟨k + 1, by omega, by show pIf _ _ _ = _; rw [pIf_t q, h2, nI_succ]⟩
    · exact ⟨k, by omega, by show pIf _ _ _ = _; rw [pIf_f q, h2]⟩
theorem max_eq {k : Nat} {w : Int32} (hk : k ≤ 3) : ¬ nI k < maxI 1 w ↔ ¬ nI k ≤ 0 ∧ ¬ nI k < w := by
  have e0 : (0 : Int32).toInt = 0 := by decide
  have e1 : (1 : Int32).toInt = 1 := by decide
  have ek := nI_toInt (n := k) (by omega)
  unfold maxI
  by_cases q : (1 : Int32) < w
  · rw [if_pos q]
    rw [i32_lt, e1] at q
    rw [i32_lt, Int32.le_iff_toInt_le, e0]
    omega
  · rw [if_neg q]
    rw [i32_lt, e1] at q
    rw [i32_lt, Int32.le_iff_toInt_le, i32_lt, e0, e1]
    omega
theorem ri_eq {n p k : Nat} {seat likes mood stands W : Nat → Int32} (hst : ∀ q, q < n → ∃ s, s < 48 ∧ seat q = nI s) (hk : k < 48) (ek : seat p = nI k) : riP n seat likes mood stands W p ↔ (mood p = 1 ∧ ¬ likes p < W 6) ∨ (¬ seat p < 8 ∧ ¬ cbN n seat stands (seat p) 3 ≤ 0 ∧ ¬ cbN n seat stands (seat p) 3 < W 5) := by
  unfold riP
  refine or_congr Iff.rfl ?_
  rw [ek]
  by_cases h8 : nI k < 8
  · rw [if_pos h8]
    have := max_eq (k := 0) (w := W 5) (by omega)
    exact ⟨fun z => absurd (this.mp z).1 (by decide), fun z => absurd h8 z.1⟩
  · rw [if_neg h8, cbF_eq hst hk h8 3 (by omega)]
    obtain ⟨j, h1, h2⟩ := cbN_le (n := n) (seat := seat) (stands := stands) (s := nI k) 3 (by omega)
    rw [h2, max_eq h1]
    exact ⟨fun z => ⟨h8, z⟩, fun z => z.2⟩
theorem thN_cg {n i : Nat} {s s' d d' : Nat → Int32} {x : Int32} (hs : agr n s s') (hd : agr n d d') : thN n s d x i ↔ thN n s' d' x i := by
  unfold thN
  refine and_congr_right (fun _ => and_congr_right (fun _ => ⟨fun ⟨q, a, b, c⟩ => ⟨q, a, (hs q a).symm.trans b, (hd q a).symm.trans c⟩, fun ⟨q, a, b, c⟩ => ⟨q, a, (hs q a).trans b, (hd q a).trans c⟩⟩))
theorem cbN_cg {n : Nat} {s s' d d' : Nat → Int32} {x : Int32} (hs : agr n s s') (hd : agr n d d') : ∀ i, cbN n s d x i = cbN n s' d' x i
  | 0 => rfl
  | i + 1 => by
    show pIf _ _ _ = pIf _ _ _
    rw [cbN_cg hs hd i]
    by_cases q : thN n s d x i
    · rw [pIf_t q, pIf_t ((thN_cg hs hd).mp q)]
    · rw [pIf_f q, pIf_f (fun z => q ((thN_cg hs hd).mpr z))]
/-- a crowd beside the model: what ticks need -/
def fR (c n L b : Nat) (X Y : Mm) : Prop := tR c n L b X Y ∧ agr n (X.1 (c + 5)) (Y.1 110) ∧ agr n (X.1 (c + 7)) (Y.1 112) ∧ agr n (X.1 (c + 10)) (Y.1 115)
theorem hi_eq {c n L b : Nat} {X M1 Y : Mm} (h : fR c n L b X Y) (hb : b < 10000 ∨ Y.1 105 36 = 0) (ht : turnQ c n L X M1) : hitsF c n M1 = bitsI n (hi8 n Y) := by
  refine bitsI_cong (fun j hj => ?_)
  obtain ⟨tS, tj, -, -, tr, -⟩ := ht
  unfold hitP hi8
  rw [(tr j hj).1, if_pos hj, nm_eq h.1 hb hj, tj 12 (by decide), tS.2 (c + 7) (by omega), tS.2 (c + 5) (by omega), h.2.1 j hj, h.2.2.1 j hj, h.1.2.2.2.2.2.1]
theorem tick_f {c n L b : Nat} {X X' Y Y1 : Mm} (h : fR c n L b X Y) (hb : b < 10000 ∨ Y.1 105 36 = 0) (hn : n ≤ 30) (hst : ∀ q, q < n → ∃ s, s < 48 ∧ Y.1 108 q = nI s) (hL : L ≠ c ∧ ¬ (c + 2 ≤ L ∧ L ≤ c + 14)) (ht : tickQ c n L X X') (hk : tk8 n Y Y1) : fR c n L (b + 1) X' Y1 ∧ X'.1 c 14 = Y1.1 105 7 ∧ X'.1 c 15 = Y1.1 105 8 := by
  obtain ⟨M1, tq, rfl⟩ := ht
  have hT := turn_t h.1 hb hL tq hk
  have hh := hi_eq h hb tq
  have hbt := bits_eq h.1 hb
  obtain ⟨k3, k4, k7, k8, kr, -, -⟩ := tk8_v hk
  have fX := tk8_fx hk
  have hnm := fun j hj => nm_eq h.1 hb (j := j) hj
  obtain ⟨tS, tj, t13, -, tr, -⟩ := tq
  rw [hbt]
  generalize hC : bitsI n (fun j => nm8 n Y j = 1) = C
  have eC : bcI C = cl8 n Y := by rw [← hC]; exact cl_eq hn
  have eB : ∀ q, q ≠ c → q ≠ c + 7 → q ≠ c + 10 → (mI (riseM c n L (beatM c n C M1)) c 12 ((riseM c n L (beatM c n C M1)).1 c 12 + 1)).1 q = M1.1 q := fun q h1 h2 h3 => by rw [mI_other h1, riseM_o h3, beatM_o h1 h2]
  have e7 : (mI (riseM c n L (beatM c n C M1)) c 12 ((riseM c n L (beatM c n C M1)).1 c 12 + 1)).1 (c + 7) = (beatM c n C M1).1 (c + 7) := by rw [mI_other (by omega), riseM_o (by omega)]
  have e10 : (mI (riseM c n L (beatM c n C M1)) c 12 ((riseM c n L (beatM c n C M1)).1 c 12 + 1)).1 (c + 10) = (riseM c n L (beatM c n C M1)).1 (c + 10) := by rw [mI_other (by omega)]
  have ec : ∀ j, j ≠ 12 → (mI (riseM c n L (beatM c n C M1)) c 12 ((riseM c n L (beatM c n C M1)).1 c 12 + 1)).1 c j = (beatM c n C M1).1 c j := fun j hj => by rw [mI_self, upd_other hj, riseM_o (by omega)]
  have e12 : (mI (riseM c n L (beatM c n C M1)) c 12 ((riseM c n L (beatM c n C M1)).1 c 12 + 1)).1 c 12 = (mI M1 c 12 (M1.1 c 12 + 1)).1 c 12 := by rw [mI_self, upd_self, mI_self, upd_self, riseM_o (by omega), beatM_c (by decide)]
  have em : ∀ q, q ≠ c → (mI M1 c 12 (M1.1 c 12 + 1)).1 q = M1.1 q := fun q hq => mI_other hq
  have b14 : (beatM c n C M1).1 c 14 = bitsI n (hi8 n Y) := by
    unfold beatM
    by_cases q : bcI C < 2 * bcI (hitsF c n M1)
    · rw [pIf_t q, rI_other (by omega), beat1, mI_self, upd_other (by decide), mI_self, upd_self, hh]
    · rw [pIf_f q, beat1, mI_self, upd_other (by decide), mI_self, upd_self, hh]
  have b15 : (beatM c n C M1).1 c 15 = cl8 n Y := by
    unfold beatM
    by_cases q : bcI C < 2 * bcI (hitsF c n M1)
    · rw [pIf_t q, rI_other (by omega), beat1, mI_self, upd_self, eC]
    · rw [pIf_f q, beat1, mI_self, upd_self, eC]
  refine ⟨⟨?_, ?_, fun j hj => ?_, fun j hj => ?_⟩, ?_, ?_⟩
  · obtain ⟨p2, p3, p4, p8, p9, pw, ps, pL, pa, pm⟩ := hT
    have o13 : (mI (riseM c n L (beatM c n C M1)) c 12 ((riseM c n L (beatM c n C M1)).1 c 12 + 1)).1 c 13 = (mI M1 c 12 (M1.1 c 12 + 1)).1 c 13 := by rw [ec 13 (by decide), beatM_c (by decide), mI_self, upd_other (by decide)]
    refine ⟨?_, ?_, ?_, ?_, ?_, by rw [e12]; exact pw, by rw [o13]; exact ps, ?_, ?_, pm⟩
    · rw [eB _ (by omega) (by omega) (by omega), ← em (c + 2) (by omega)]; exact p2
    · rw [eB _ (by omega) (by omega) (by omega), ← em (c + 3) (by omega)]; exact p3
    · rw [eB _ (by omega) (by omega) (by omega), ← em (c + 4) (by omega)]; exact p4
    · rw [eB _ (by omega) (by omega) (by omega), ← em (c + 8) (by omega)]; exact p8
    · rw [eB _ (by omega) (by omega) (by omega), ← em (c + 9) (by omega)]; exact p9
    · rw [eB L hL.1 (by omega) (by omega), ← em L hL.1]; exact pL
    · unfold atR at pa ⊢
      rw [eB _ (by omega) (by omega) (by omega), ← em (c + 6) (by omega), e12]
      exact pa
  · rw [eB _ (by omega) (by omega) (by omega), tS.2 (c + 5) (by omega), fX.2.1 110 (by unfold S8; omega)]
    exact h.2.1
  · rw [e7, (kr j hj).1]
    have m7 : M1.1 (c + 7) j = Y.1 112 j := by rw [tS.2 (c + 7) (by omega)]; exact h.2.2.1 j hj
    unfold beatM ph8
    rw [hh, eC, bcI_bits (P := hi8 n Y) (by omega)]
    by_cases q : cl8 n Y < 2 * nI (cntN n (hi8 n Y))
    · rw [pIf_t q, rI_self, upto_lt hj]
      unfold phN
      rw [(tr j hj).1, if_pos hj, hnm j hj, m7, tS.2 (c + 5) (by omega), h.2.1 j hj, tS.2 (c + 2) (by omega), h.1.1 j hj]
      by_cases r : phP8 n Y j
      · rw [pIf_t r, pIf_t ⟨r.2.1, r.2.2.1, r.1⟩]
      · rw [pIf_f r, pIf_f (fun z => r ⟨z.2.2, z.1, z.2.1, Int32.not_le.mpr q⟩)]
    · rw [pIf_f q, pIf_f (fun z => q (Int32.not_le.mp z.2.2.2)), beat1_o (by omega)]
      exact m7
  · rw [e10, (kr j hj).2.2.2]
    unfold riseM rs8
    rw [rI_self, upto_lt hj]
    unfold riN
    have b3 : (beatM c n C M1).1 (c + 3) = X.1 (c + 3) := by rw [beatM_o (by omega) (by omega), tS.2 (c + 3) (by omega)]
    have b4 : (beatM c n C M1).1 (c + 4) = X.1 (c + 4) := by rw [beatM_o (by omega) (by omega), tS.2 (c + 4) (by omega)]
    have b10 : (beatM c n C M1).1 (c + 10) = X.1 (c + 10) := by rw [beatM_o (by omega) (by omega), tS.2 (c + 10) (by omega)]
    have bL : (beatM c n C M1).1 L = X.1 L := by rw [beatM_o hL.1 (by omega), tS.2 L (by omega)]
    have b8 : (beatM c n C M1).1 (c + 8) j = nm8 n Y j := by rw [beatM_o (by omega) (by omega), (tr j hj).1, if_pos hj, hnm j hj]
    obtain ⟨k, hk9, ek⟩ := hst j hj
    have hstX : ∀ q, q < n → ∃ s, s < 48 ∧ X.1 (c + 3) q = nI s := fun q hq => by rw [h.1.2.1 q hq]; exact hst q hq
    have e := ri_eq (n := n) (p := j) (k := k) (seat := (beatM c n C M1).1 (c + 3)) (likes := (beatM c n C M1).1 (c + 4)) (mood := (beatM c n C M1).1 (c + 8)) (stands := (beatM c n C M1).1 (c + 10)) (W := (beatM c n C M1).1 L) (by rw [b3]; exact hstX) hk9 (by rw [b3, h.1.2.1 j hj]; exact ek)
    rw [b8, b3, b4, b10, bL, h.1.2.2.1 j hj, h.1.2.2.2.2.2.2.2.1 6 (by omega), h.1.2.2.2.2.2.2.2.1 5 (by omega), h.1.2.1 j hj, cbN_cg h.1.2.1 h.2.2.2 3] at e
    rw [b3, b4, b10, bL]
    have e9 : riP n (X.1 (c + 3)) (X.1 (c + 4)) ((beatM c n C M1).1 (c + 8)) (X.1 (c + 10)) (X.1 L) j ↔ rsP n Y j := e
    by_cases r : rsP n Y j
    · rw [pIf_t r, pIf_t (e9.mpr r)]
    · rw [pIf_f r, pIf_f (fun z => r (e9.mp z))]
      exact h.2.2.2 j hj
  · rw [ec 14 (by decide), b14, k7]
  · rw [ec 15 (by decide), b15, k8]
