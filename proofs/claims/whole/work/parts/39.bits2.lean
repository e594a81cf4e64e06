/-- how many bits, by halves -/
def popN : Nat → Nat → Nat
  | 0, _ => 0
  | k + 1, n => n % 2 + popN k (n / 2)
def uN32 (x : Int32) : Nat := x.toBitVec.toNat
theorem uN32_lt (x : Int32) : uN32 x < 2 ^ 32 := x.toBitVec.isLt
theorem uN32_inj {x y : Int32} (h : uN32 x = uN32 y) : x = y := Int32.toBitVec_inj.mp (BitVec.eq_of_toNat_eq h)
theorem uN32_nI {k : Nat} (h : k < 2 ^ 32) : uN32 (nI k) = k := by
  show (BitVec.ofNat 32 k).toNat = k
  rw [BitVec.toNat_ofNat, Nat.mod_eq_of_lt h]
theorem land_k (k a b r s : Nat) (hr : r < 2 ^ k) (hs : s < 2 ^ k) : (2 ^ k * a + r) &&& (2 ^ k * b + s) = 2 ^ k * (a &&& b) + (r &&& s) := by
  apply Nat.eq_of_testBit_eq
  intro i
  rw [Nat.testBit_and, Nat.testBit_two_pow_mul_add a hr, Nat.testBit_two_pow_mul_add b hs, Nat.testBit_two_pow_mul_add _ (Nat.lt_of_le_of_lt Nat.and_le_left hr)]
  by_cases h : i < k
  · rw [if_pos h, if_pos h, if_pos h, Nat.testBit_and]
  · rw [if_neg h, if_neg h, if_neg h, Nat.testBit_and]
theorem popN_pred : ∀ k n, 0 < n → n < 2 ^ k → popN k (n &&& (n - 1)) + 1 = popN k n
  | 0, n, h1, h2 => absurd h2 (by rw [Nat.pow_zero]; omega)
  | k + 1, n, h1, h2 => by
    have hq : n / 2 < 2 ^ k := by rw [Nat.pow_succ] at h2; omega
    rcases Nat.mod_two_eq_zero_or_one n with r | r
    · have e2 : n &&& (n - 1) = 2 * ((n / 2) &&& (n / 2 - 1)) := by
        have := land_k 1 (n / 2) (n / 2 - 1) 0 1 (by omega) (by omega)
        rw [show 2 ^ 1 * (n / 2) + 0 = n by omega, show 2 ^ 1 * (n / 2 - 1) + 1 = n - 1 by omega] at this
        rw [this, Nat.zero_and]
        rfl
      have ih := popN_pred k (n / 2) (by omega) hq
      show (n &&& (n - 1)) % 2 + popN k ((n &&& (n - 1)) / 2) + 1 = n % 2 + popN k (n / 2)
      rw [e2, Nat.mul_mod_right, Nat.mul_div_cancel_left _ (by omega), r]
      omega
    · have e2 : n &&& (n - 1) = 2 * (n / 2) := by
        have := land_k 1 (n / 2) (n / 2) 1 0 (by omega) (by omega)
        rw [show 2 ^ 1 * (n / 2) + 1 = n by omega, show 2 ^ 1 * (n / 2) + 0 = n - 1 by omega, Nat.and_self, Nat.and_zero] at this
        rw [this]
        rfl
      show (n &&& (n - 1)) % 2 + popN k ((n &&& (n - 1)) / 2) + 1 = n % 2 + popN k (n / 2)
      rw [e2, Nat.mul_mod_right, Nat.mul_div_cancel_left _ (by omega), r]
      omega
theorem popN_add : ∀ k j n, popN (k + j) n = popN k (n % 2 ^ k) + popN j (n / 2 ^ k)
  | 0, j, n => by
    rw [Nat.zero_add, Nat.pow_zero, Nat.div_one]
    show popN j n = 0 + popN j n
    rw [Nat.zero_add]
  | k + 1, j, n => by
    rw [show k + 1 + j = (k + j) + 1 by omega]
    show n % 2 + popN (k + j) (n / 2) = (n % 2 ^ (k + 1)) % 2 + popN k ((n % 2 ^ (k + 1)) / 2) + popN j (n / 2 ^ (k + 1))
    rw [popN_add k j (n / 2), Nat.pow_succ, Nat.mul_comm (2 ^ k) 2, Nat.mod_mul, Nat.div_div_eq_div_mul]
    rw [show (n % 2 + 2 * (n / 2 % 2 ^ k)) % 2 = n % 2 by omega, show (n % 2 + 2 * (n / 2 % 2 ^ k)) / 2 = n / 2 % 2 ^ k by omega]
    omega
def q4 (a b c e : Nat) : Nat := 2 ^ 8 * (2 ^ 8 * (2 ^ 8 * e + c) + b) + a
theorem land4 {a b c e m : Nat} (ha : a < 256) (hb : b < 256) (hc : c < 256) (hm : m < 256) (he : e < 256) : q4 a b c e &&& q4 m m m m = q4 (a &&& m) (b &&& m) (c &&& m) (e &&& m) := by
  unfold q4
  rw [land_k 8 _ _ a m ha hm, land_k 8 _ _ b m hb hm, land_k 8 _ _ c m hc hm]
def t1 (b : Nat) : Nat := b - ((b / 2) &&& 85)
def t2 (c : Nat) : Nat := (c &&& 51) + ((c / 4) &&& 51)
def t3 (x : Nat) : Nat := (x + x / 16) &&& 15
theorem tab1 : ∀ b, b < 256 → ∀ y, y < 2 → (b / 2 + 128 * y) &&& 85 = (b / 2) &&& 85 ∧ ((b / 2) &&& 85) ≤ b ∧ t1 b < 256 := by decide +kernel
theorem tab2 : ∀ c, c < 256 → ∀ y, y < 4 → (c / 4 + 64 * y) &&& 51 = (c / 4) &&& 51 ∧ t2 c < 256 := by decide +kernel
theorem tab3 : ∀ b, b < 256 → t2 (t1 b) ≤ 68 ∧ t2 (t1 b) % 16 ≤ 4 ∧ t3 (t2 (t1 b)) = popN 8 b ∧ popN 8 b ≤ 8 := by decide +kernel
theorem tab4 : ∀ x, x < 69 → ∀ y, y < 5 → (x + x / 16 + 16 * y) &&& 15 = t3 x := by decide +kernel
theorem st1 {a b c e : Nat} (ha : a < 256) (hb : b < 256) (hc : c < 256) (he : e < 256) : q4 a b c e - ((q4 a b c e / 2) &&& 1431655765) = q4 (t1 a) (t1 b) (t1 c) (t1 e) := by
  have h1 : q4 a b c e / 2 = q4 (a / 2 + 128 * (b % 2)) (b / 2 + 128 * (c % 2)) (c / 2 + 128 * (e % 2)) (e / 2 + 128 * 0) := by unfold q4; omega
  rw [h1, show (1431655765 : Nat) = q4 85 85 85 85 from rfl, land4 (by omega) (by omega) (by omega) (by omega) (by omega)]
  obtain ⟨p1, p2, -⟩ := tab1 a ha (b % 2) (by omega)
  obtain ⟨p3, p4, -⟩ := tab1 b hb (c % 2) (by omega)
  obtain ⟨p5, p6, -⟩ := tab1 c hc (e % 2) (by omega)
  obtain ⟨p7, p8, -⟩ := tab1 e he 0 (by omega)
  rw [p1, p3, p5, p7]
  unfold q4 t1
  omega
theorem st2 {a b c e : Nat} (ha : a < 256) (hb : b < 256) (hc : c < 256) (he : e < 256) : (q4 a b c e &&& 858993459) + ((q4 a b c e / 4) &&& 858993459) = q4 (t2 a) (t2 b) (t2 c) (t2 e) := by
  have h1 : q4 a b c e / 4 = q4 (a / 4 + 64 * (b % 4)) (b / 4 + 64 * (c % 4)) (c / 4 + 64 * (e % 4)) (e / 4 + 64 * 0) := by unfold q4; omega
  rw [h1, show (858993459 : Nat) = q4 51 51 51 51 from rfl, land4 ha hb hc (by omega) he, land4 (by omega) (by omega) (by omega) (by omega) (by omega)]
  rw [(tab2 a ha (b % 4) (by omega)).1, (tab2 b hb (c % 4) (by omega)).1, (tab2 c hc (e % 4) (by omega)).1, (tab2 e he 0 (by omega)).1]
  unfold q4 t2
  omega
theorem st3 {a b c e : Nat} (ha : a < 69) (hb : b < 69) (hc : c < 69) (he : e < 69) (hb4 : b % 16 ≤ 4) (hc4 : c % 16 ≤ 4) (he4 : e % 16 ≤ 4) : (q4 a b c e + q4 a b c e / 16) &&& 252645135 = q4 (t3 a) (t3 b) (t3 c) (t3 e) ∧ q4 a b c e + q4 a b c e / 16 < 2 ^ 32 := by
  have h1 : q4 a b c e + q4 a b c e / 16 = q4 (a + a / 16 + 16 * (b % 16)) (b + b / 16 + 16 * (c % 16)) (c + c / 16 + 16 * (e % 16)) (e + e / 16 + 16 * 0) := by unfold q4; omega
  refine ⟨?_, ?_⟩
  · rw [h1, show (252645135 : Nat) = q4 15 15 15 15 from rfl, land4 (by omega) (by omega) (by omega) (by omega) (by omega)]
    rw [tab4 a ha (b % 16) (by omega), tab4 b hb (c % 16) (by omega), tab4 c hc (e % 16) (by omega), tab4 e he 0 (by omega)]
  · unfold q4; omega
theorem sub32 (x y : Int32) (h : uN32 y ≤ uN32 x) : uN32 (x - y) = uN32 x - uN32 y := by
  have h1 := uN32_lt x
  have h2 := uN32_lt y
  unfold uN32 at h h1 h2 ⊢
  show (x.toBitVec - y.toBitVec).toNat = _
  rw [BitVec.toNat_sub]
  omega
theorem add32 (x y : Int32) (h : uN32 x + uN32 y < 2 ^ 32) : uN32 (x + y) = uN32 x + uN32 y := by
  unfold uN32 at h ⊢
  show (x.toBitVec + y.toBitVec).toNat = _
  rw [BitVec.toNat_add, Nat.mod_eq_of_lt h]
theorem and32 (x y : Int32) : uN32 (x &&& y) = uN32 x &&& uN32 y := by
  unfold uN32
  rw [Int32.toBitVec_and, BitVec.toNat_and]
theorem ush32 (n : Nat) (hn : n < 32) (x : Int32) : uN32 ((x.toUInt32 >>> ((nI n).toUInt32 &&& Int32.toUInt32 31)).toInt32) = uN32 x / 2 ^ n := by
  apply Nat.eq_of_testBit_eq
  intro i
  rw [Nat.testBit_div_two_pow, Nat.add_comm]
  exact b_ushr n hn x i
theorem u1_32 (x : Int32) : uN32 ((x.toUInt32 >>> ((1 : Int32).toUInt32 &&& Int32.toUInt32 31)).toInt32) = uN32 x / 2 := ush32 1 (by omega) x
theorem u2_32 (x : Int32) : uN32 ((x.toUInt32 >>> ((2 : Int32).toUInt32 &&& Int32.toUInt32 31)).toInt32) = uN32 x / 4 := ush32 2 (by omega) x
theorem u4_32 (x : Int32) : uN32 ((x.toUInt32 >>> ((4 : Int32).toUInt32 &&& Int32.toUInt32 31)).toInt32) = uN32 x / 16 := ush32 4 (by omega) x
theorem u8_32 (x : Int32) : uN32 ((x.toUInt32 >>> ((8 : Int32).toUInt32 &&& Int32.toUInt32 31)).toInt32) = uN32 x / 256 := ush32 8 (by omega) x
theorem u16_32 (x : Int32) : uN32 ((x.toUInt32 >>> ((16 : Int32).toUInt32 &&& Int32.toUInt32 31)).toInt32) = uN32 x / 65536 := ush32 16 (by omega) x
theorem bcI_pop (x : Int32) : bcI x = nI (popN 32 (uN32 x)) := by
  have hx := uN32_lt x
  obtain ⟨a, b, c, e, ha, hb, hc, he, hX⟩ : ∃ a b c e, a < 256 ∧ b < 256 ∧ c < 256 ∧ e < 256 ∧ uN32 x = q4 a b c e :=
    ⟨uN32 x % 256, uN32 x / 256 % 256, uN32 x / 65536 % 256, uN32 x / 16777216, by omega, by omega, by omega, by omega, by unfold q4; omega⟩
  have e1 : uN32 (bc1 x) = q4 (t1 a) (t1 b) (t1 c) (t1 e) := by
    unfold bc1
    have ea : uN32 (((x).toUInt32 >>> ((1 : Int32).toUInt32 &&& Int32.toUInt32 31)).toInt32 &&& 1431655765) = (q4 a b c e / 2) &&& 1431655765 := by rw [and32, u1_32, hX]; rfl
    rw [sub32 _ _ (by rw [ea, hX]; exact Nat.le_trans Nat.and_le_left (Nat.div_le_self _ _)), ea, hX]
    exact st1 ha hb hc he
  have k1 := (tab1 a ha 0 (by omega)).2.2
  have k2 := (tab1 b hb 0 (by omega)).2.2
  have k3 := (tab1 c hc 0 (by omega)).2.2
  have k4 := (tab1 e he 0 (by omega)).2.2
  have e2 : uN32 (bc2 (bc1 x)) = q4 (t2 (t1 a)) (t2 (t1 b)) (t2 (t1 c)) (t2 (t1 e)) := by
    unfold bc2
    have s := st2 k1 k2 k3 k4
    have ea : uN32 (bc1 x &&& 858993459) = q4 (t1 a) (t1 b) (t1 c) (t1 e) &&& 858993459 := by rw [and32, e1]; rfl
    have eb : uN32 (((bc1 x).toUInt32 >>> ((2 : Int32).toUInt32 &&& Int32.toUInt32 31)).toInt32 &&& 858993459) = (q4 (t1 a) (t1 b) (t1 c) (t1 e) / 4) &&& 858993459 := by rw [and32, u2_32, e1]; rfl
    have m1 := (tab2 _ k1 0 (by omega)).2
    have m2 := (tab2 _ k2 0 (by omega)).2
    have m3 := (tab2 _ k3 0 (by omega)).2
    have m4 := (tab2 _ k4 0 (by omega)).2
    rw [add32 _ _ (by rw [ea, eb, s]; unfold q4; omega), ea, eb, s]
  obtain ⟨a1, a2, a3, a4⟩ := tab3 a ha
  obtain ⟨b1, b2, b3, b4⟩ := tab3 b hb
  obtain ⟨c1, c2, c3, c4⟩ := tab3 c hc
  obtain ⟨f1, f2, f3, f4⟩ := tab3 e he
  have e3 : uN32 (bc3 (bc2 (bc1 x))) = q4 (popN 8 a) (popN 8 b) (popN 8 c) (popN 8 e) := by
    unfold bc3
    obtain ⟨s1, s2⟩ := st3 (a := t2 (t1 a)) (b := t2 (t1 b)) (c := t2 (t1 c)) (e := t2 (t1 e)) (by omega) (by omega) (by omega) (by omega) b2 c2 f2
    rw [and32, add32 _ _ (by rw [u4_32, e2]; exact s2), u4_32, e2]
    show (_ &&& 252645135) = _
    rw [s1, a3, b3, c3, f3]
  have e4 : uN32 (bc4 (bc3 (bc2 (bc1 x)))) = q4 (popN 8 a) (popN 8 b) (popN 8 c) (popN 8 e) + q4 (popN 8 a) (popN 8 b) (popN 8 c) (popN 8 e) / 256 := by
    unfold bc4
    rw [add32 _ _ (by rw [u8_32, e3]; unfold q4; omega), u8_32, e3]
  have e5 : uN32 (bcI x) = popN 8 a + popN 8 b + popN 8 c + popN 8 e := by
    unfold bcI bc5
    rw [and32, add32 _ _ (by rw [u16_32, e4]; unfold q4; omega), u16_32, e4]
    show (_ &&& (2 ^ 6 - 1)) = _
    rw [Nat.and_two_pow_sub_one_eq_mod]
    generalize popN 8 a = pa at a4 ⊢
    generalize popN 8 b = pb at b4 ⊢
    generalize popN 8 c = pc at c4 ⊢
    generalize popN 8 e = pe at f4 ⊢
    have y1 : q4 pa pb pc pe + q4 pa pb pc pe / 256 = (pa + pb) + 256 * (pb + pc) + 65536 * (pc + pe) + 16777216 * pe := by unfold q4; omega
    rw [y1]
    have y2 : ((pa + pb) + 256 * (pb + pc) + 65536 * (pc + pe) + 16777216 * pe) / 65536 = pc + pe + 256 * pe := by omega
    rw [y2]
    clear y1 y2 e1 e2 e3 e4 a3 b3 c3 f3
    omega
  refine uN32_inj ?_
  have ep : popN 32 (uN32 x) = popN 8 a + popN 8 b + popN 8 c + popN 8 e := by
    rw [show (32 : Nat) = 8 + (8 + (8 + 8)) from rfl, popN_add, popN_add, popN_add, hX]
    rw [show q4 a b c e % 2 ^ 8 = a by unfold q4; omega, show q4 a b c e / 2 ^ 8 % 2 ^ 8 = b by unfold q4; omega, show q4 a b c e / 2 ^ 8 / 2 ^ 8 % 2 ^ 8 = c by unfold q4; omega, show q4 a b c e / 2 ^ 8 / 2 ^ 8 / 2 ^ 8 = e by unfold q4; omega]
    omega
  rw [e5, uN32_nI (by rw [ep]; omega), ep]
theorem pop_step (x : Int32) (h : ¬ x = 0) : popN 32 (uN32 (x &&& (x - 1))) + 1 = popN 32 (uN32 x) := by
  have h0 : 0 < uN32 x := Nat.pos_of_ne_zero (fun e => h (uN32_inj (e.trans (show 0 = uN32 0 from rfl))))
  rw [and32, sub32 x 1 (by show 1 ≤ uN32 x; omega)]
  exact popN_pred 32 (uN32 x) h0 (uN32_lt x)
theorem cntN_front (P : Nat → Prop) : ∀ k, cntN (k + 1) P = @ite _ (P 0) (Classical.propDecidable _) 1 0 + cntN k (fun i => P (i + 1))
  | 0 => by
    show 0 + _ = _ + 0
    rw [Nat.zero_add, Nat.add_zero]
  | k + 1 => by
    show cntN (k + 1) P + _ = _ + (cntN k (fun i => P (i + 1)) + _)
    rw [cntN_front P k, Nat.add_assoc]
theorem pop_cnt : ∀ k n, popN k n = cntN k (fun i => n.testBit i = true)
  | 0, n => rfl
  | k + 1, n => by
    rw [cntN_front]
    show n % 2 + popN k (n / 2) = _
    rw [pop_cnt k (n / 2)]
    have e : (fun i => n.testBit (i + 1) = true) = (fun i => (n / 2).testBit i = true) := by
      funext i
      rw [Nat.testBit_succ]
    rw [e]
    congr 1
    rw [Nat.testBit_zero]
    rcases Nat.mod_two_eq_zero_or_one n with r | r
    · rw [r, if_neg (by decide)]
    · rw [r, if_pos (by decide)]
theorem bt_1 : ∀ i, i < 32 → (bt 1 i = true ↔ i = 0) := by decide +kernel
theorem bt_bits {P : Nat → Prop} {i : Nat} (hi : i < 32) : ∀ n, n ≤ 32 → (bt (bitsI n P) i = true ↔ (i < n ∧ P i))
  | 0, _ => by
    show bt 0 i = true ↔ _
    rw [b_0]
    exact ⟨fun q => absurd q (by decide), fun q => absurd q.1 (by omega)⟩
  | n + 1, hn => by
    have ih := bt_bits (P := P) hi n (by omega)
    by_cases hp : P n
    · rw [bitsI_t hp, b_or, b_shl n (by omega) 1 hi, Bool.or_eq_true, ih, Bool.and_eq_true, decide_eq_true_iff, bt_1 (i - n) (by omega)]
      constructor
      · rintro (q | q)
        · exact ⟨by omega, q.2⟩
        · have e : i = n := by omega
          subst e
          exact ⟨by omega, hp⟩
      · rintro ⟨q1, q2⟩
        by_cases e : i = n
        · exact Or.inr ⟨by omega, by omega⟩
        · exact Or.inl ⟨by omega, q2⟩
    · rw [bitsI_f hp, ih]
      constructor
      · rintro ⟨q1, q2⟩
        exact ⟨by omega, q2⟩
      · rintro ⟨q1, q2⟩
        by_cases e : i = n
        · subst e; exact absurd q2 hp
        · exact ⟨by omega, q2⟩
theorem cntN_cut {P : Nat → Prop} {n : Nat} : ∀ k, cntN (n + k) (fun i => i < n ∧ P i) = cntN n P
  | 0 => cntN_cong (fun i hi => ⟨fun q => q.2, fun q => ⟨hi, q⟩⟩)
  | k + 1 => by
    rw [show n + (k + 1) = (n + k) + 1 by omega, cntN_f (fun q => absurd q.1 (by omega))]
    exact cntN_cut k
theorem bcI_bits {P : Nat → Prop} {n : Nat} (hn : n ≤ 32) : bcI (bitsI n P) = nI (cntN n P) := by
  rw [bcI_pop, pop_cnt, ← cntN_cut (P := P) (n := n) (32 - n), show n + (32 - n) = 32 by omega]
  exact congrArg nI (cntN_cong (fun i hi => bt_bits hi n hn))
theorem m_X8_bits {l : Launch} {M : Mm} {x : Int32} : AMet l 1 yX8_bits cX8_bits 4 (some FieldType.int) [.ref 105, .int x] M (QE (some (.int (bcI x))) M) := by
  refine AMet.of (by decide) (by simp [aargs, Value.category]) ?_
  show AW l 1 yX8_bits cX8_bits 4 (some FieldType.int) 0 [some (.ref 105), some (.int x), none, none] [] M _
  refine aw_iconst (v := 0) dX8_bits_0 (by decide) ?_
  refine aw_istore_n (i := 2) dX8_bits_1 rfl (by decide) ?_
  refine aw_iload_n (i := 1) dX8_bits_2 rfl rfl ?_
  refine aw_istore_n (i := 3) dX8_bits_3 rfl (by decide) ?_
  have lp4 : ∀ w (z : Int32) (c : Nat), popN 32 (uN32 z) = w → c + w = popN 32 (uN32 x) → AW l 1 yX8_bits cX8_bits 4 (some FieldType.int) 4 [some (.ref 105), some (.int x), some (.int (nI c)), some (.int z)] [] M (QE (some (.int (bcI x))) M) := by
    intro w
    induction w using Nat.strongRecOn with
    | _ w ih =>
    intro z c hz hc
    refine aw_iload_n (i := 3) dX8_bits_4 rfl rfl ?_
    refine aw_if_eq (tgt := 20) dX8_bits_5 (by decide) (fun h5 => ?_) (fun h5 => ?_)
    ·
      refine aw_iload_n (i := 2) dX8_bits_20 rfl rfl ?_
      exact aw_iret rfl dX8_bits_21 ⟨by subst h5; have e8 : popN 32 (uN32 0) = 0 := (by decide +kernel); rw [bcI_pop, show c = popN 32 (uN32 x) by omega], rfl⟩
    ·
      refine aw_iincN (i := 2) dX8_bits_8 rfl (by decide) ?_
      refine aw_iload_n (i := 3) dX8_bits_11 rfl rfl ?_
      refine aw_iload_n (i := 3) dX8_bits_12 rfl rfl ?_
      refine aw_iconst (v := 1) dX8_bits_13 (by decide) ?_
      refine aw_isub dX8_bits_14 ?_
      refine aw_iand dX8_bits_15 ?_
      refine aw_istore_n (i := 3) dX8_bits_16 rfl (by decide) ?_
      refine aw_goto (tgt := 4) dX8_bits_17 (by decide) ?_
      have hs9 := pop_step z h5
      refine aw_loc (la := [some (.ref 105), some (.int x), some (.int (nI (c + 1))), some (.int (z &&& (z - 1)))]) ⟨rfl, rfl, rfl, rfl, trivial⟩ ?_
      exact ih (w - 1) (by omega) (z &&& (z - 1)) (c + 1) (by omega) (by omega)
  refine aw_loc (la := [some (.ref 105), some (.int x), some (.int (nI 0)), some (.int x)]) ⟨rfl, rfl, rfl, rfl, trivial⟩ ?_
  exact lp4 (popN 32 (uN32 x)) x 0 rfl (by omega)
theorem m_X8_step {l : Launch} {M : Mm} : AMet l 2 yX8_step cX8_step 1 (some FieldType.int) [.ref 105] M (QE (some (.int (pIf (M.1 105 8 = 0) 0 (100 * bcI (M.1 105 7) / M.1 105 8)))) M) := by
  refine AMet.of (by decide) (by simp [aargs, Value.category]) ?_
  show AW l 2 yX8_step cX8_step 1 (some FieldType.int) 0 [some (.ref 105)] [] M _
  refine aw_aload_n (i := 0) dX8_step_0 rfl rfl ?_
  refine aw_getI gf_X8_241 sh_105 rfl dX8_step_1 ?_
  refine aw_if_ne (tgt := 11) dX8_step_4 (by decide) (fun h4 => ?_) (fun h4 => ?_)
  ·
    refine aw_bipush (v := 100) dX8_step_11 (by decide) ?_
    refine aw_aload_n (i := 0) dX8_step_13 rfl rfl ?_
    refine aw_aload_n (i := 0) dX8_step_14 rfl rfl ?_
    refine aw_getI gf_X8_235 sh_105 rfl dX8_step_15 ?_
    refine aw_cVi ck_X8_253 m_X8_bits sh_105 rfl (by decide) (by decide) rfl rfl (Nat.le_of_ble_eq_true rfl) dX8_step_18 ?_
    refine aw_imul dX8_step_21 ?_
    refine aw_aload_n (i := 0) dX8_step_22 rfl rfl ?_
    refine aw_getI gf_X8_241 sh_105 rfl dX8_step_23 ?_
    refine aw_idiv dX8_step_26 h4 ?_
    exact aw_iret rfl dX8_step_27 ⟨by rw [pIf_f h4], rfl⟩
  ·
    refine aw_iconst (v := 0) dX8_step_7 (by decide) ?_
    refine aw_goto (tgt := 27) dX8_step_8 (by decide) ?_
    exact aw_iret rfl dX8_step_27 ⟨by rw [pIf_t h4], rfl⟩
theorem m_X8_lengthOf {l : Launch} {M : Mm} {m : Nat} (hm : m ≤ 200) : AMet l 1 yX8_lengthOf cX8_lengthOf 4 (some FieldType.int) [.ref 105, .int (nI m)] M (QE (some (.int (lenI (M.1 137) m))) M) := by
  refine AMet.of (by decide) (by simp [aargs, Value.category]) ?_
  show AW l 1 yX8_lengthOf cX8_lengthOf 4 (some FieldType.int) 0 [some (.ref 105), some (.int (nI m)), none, none] [] M _
  refine aw_iconst (v := 0) dX8_lengthOf_0 (by decide) ?_
  refine aw_istore_n (i := 2) dX8_lengthOf_1 rfl (by decide) ?_
  have lp2 : ∀ k i, i + k = m → AW l 1 yX8_lengthOf cX8_lengthOf 4 (some FieldType.int) 22 [some (.ref 105), some (.int (nI m)), some (.int (nI (whileN (fun a => a < m ∧ M.1 137 a = 0) k i))), none] [] M (QE (some (.int (lenI (M.1 137) m))) M) → AW l 1 yX8_lengthOf cX8_lengthOf 4 (some FieldType.int) 2 [some (.ref 105), some (.int (nI m)), some (.int (nI i)), none] [] M (QE (some (.int (lenI (M.1 137) m))) M) := by
    intro k
    induction k using Nat.strongRecOn with
    | _ k ih =>
    intro i hk9 hK
    refine aw_iload_n (i := 2) dX8_lengthOf_2 rfl rfl ?_
    refine aw_iload_n (i := 1) dX8_lengthOf_3 rfl rfl ?_
    refine aw_icmp_geN (tgt := 22) (by omega) (by omega) dX8_lengthOf_4 (by decide) (fun h4 => ?_) (fun h4 => ?_)
    ·
      rw [whileN_f (P := (fun a => a < m ∧ M.1 137 a = 0)) (fun q => by first | exact absurd q.1 (by omega) | exact absurd q.2 (by assumption))] at hK
      exact hK
    ·
      refine aw_aload_n (i := 0) dX8_lengthOf_7 rfl rfl ?_
      refine aw_getR gf_X8_117 sh_105 rfl dX8_lengthOf_8 ?_
      refine aw_iload_n (i := 2) dX8_lengthOf_11 rfl rfl ?_
      refine aw_ialdN sh_137 (by omega) (by omega) dX8_lengthOf_12 ?_
      refine aw_if_ne (tgt := 22) dX8_lengthOf_13 (by decide) (fun h13 => ?_) (fun h13 => ?_)
      ·
        rw [whileN_f (P := (fun a => a < m ∧ M.1 137 a = 0)) (fun q => by first | exact absurd q.1 (by omega) | exact absurd q.2 (by assumption))] at hK
        exact hK
      ·
        refine aw_iincN (i := 2) dX8_lengthOf_16 rfl (by decide) ?_
        refine aw_goto (tgt := 2) dX8_lengthOf_19 (by decide) ?_
        refine ih (k - 1) (by omega) (i + 1) (by omega) ?_
        rw [whileN_t (P := (fun a => a < m ∧ M.1 137 a = 0)) ⟨by assumption, by assumption⟩ (by omega)]
        exact hK
  refine aw_loc (la := [some (.ref 105), some (.int (nI m)), some (.int (nI 0)), none]) ⟨rfl, rfl, rfl, trivial⟩ ?_
  refine lp2 m 0 (by omega) ?_
  show AW l 1 yX8_lengthOf cX8_lengthOf 4 (some FieldType.int) 22 [some (.ref 105), some (.int (nI m)), some (.int (nI (len1 (M.1 137) m))), none] [] M (QE (some (.int (lenI (M.1 137) m))) M)
  have hl1 := len1_le (M.1 137) m
  generalize hf : (len1 (M.1 137) m) = f at hl1 ⊢
  refine aw_iload_n (i := 2) dX8_lengthOf_22 rfl rfl ?_
  refine aw_istore_n (i := 3) dX8_lengthOf_23 rfl (by decide) ?_
  refine aw_loc (la := [some (.ref 105), some (.int (nI m)), some (.int (nI f)), some (.int (nI f))]) ⟨rfl, rfl, rfl, rfl, trivial⟩ ?_
  have lp24 : ∀ k i, i + k = m → AW l 1 yX8_lengthOf cX8_lengthOf 4 (some FieldType.int) 44 [some (.ref 105), some (.int (nI m)), some (.int (nI f)), some (.int (nI (whileN (fun a => a < m ∧ ¬ M.1 137 a ≤ 0) k i)))] [] M (QE (some (.int (lenI (M.1 137) m))) M) → AW l 1 yX8_lengthOf cX8_lengthOf 4 (some FieldType.int) 24 [some (.ref 105), some (.int (nI m)), some (.int (nI f)), some (.int (nI i))] [] M (QE (some (.int (lenI (M.1 137) m))) M) := by
    intro k
    induction k using Nat.strongRecOn with
    | _ k ih =>
    intro i hk9 hK
    refine aw_iload_n (i := 3) dX8_lengthOf_24 rfl rfl ?_
    refine aw_iload_n (i := 1) dX8_lengthOf_25 rfl rfl ?_
    refine aw_icmp_geN (tgt := 44) (by omega) (by omega) dX8_lengthOf_26 (by decide) (fun h26 => ?_) (fun h26 => ?_)
    ·
      rw [whileN_f (P := (fun a => a < m ∧ ¬ M.1 137 a ≤ 0)) (fun q => by first | exact absurd q.1 (by omega) | exact absurd (by assumption) q.2)] at hK
      exact hK
    ·
      refine aw_aload_n (i := 0) dX8_lengthOf_29 rfl rfl ?_
      refine aw_getR gf_X8_117 sh_105 rfl dX8_lengthOf_30 ?_
      refine aw_iload_n (i := 3) dX8_lengthOf_33 rfl rfl ?_
      refine aw_ialdN sh_137 (by omega) (by omega) dX8_lengthOf_34 ?_
      refine aw_if_le (tgt := 44) dX8_lengthOf_35 (by decide) (fun h35 => ?_) (fun h35 => ?_)
      ·
        rw [whileN_f (P := (fun a => a < m ∧ ¬ M.1 137 a ≤ 0)) (fun q => by first | exact absurd q.1 (by omega) | exact absurd (by assumption) q.2)] at hK
        exact hK
      ·
        refine aw_iincN (i := 3) dX8_lengthOf_38 rfl (by decide) ?_
        refine aw_goto (tgt := 24) dX8_lengthOf_41 (by decide) ?_
        refine ih (k - 1) (by omega) (i + 1) (by omega) ?_
        rw [whileN_t (P := (fun a => a < m ∧ ¬ M.1 137 a ≤ 0)) ⟨by assumption, by assumption⟩ (by omega)]
        exact hK
  refine lp24 (m - f) f (by omega) ?_
  refine aw_iload_n (i := 3) dX8_lengthOf_44 rfl rfl ?_
  refine aw_iload_n (i := 2) dX8_lengthOf_45 rfl rfl ?_
  refine aw_isub dX8_lengthOf_46 ?_
  exact aw_iret rfl dX8_lengthOf_47 ⟨by unfold lenI len2; rw [hf], rfl⟩
