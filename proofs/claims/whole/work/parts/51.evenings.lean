/-! an evening of the class beside an evening of the model -/
theorem tR.a {c n L b : Nat} {X X' Y : Mm} (h : tR c n L b X Y) (h1 : ∀ q, q = c ∨ (c + 2 ≤ q ∧ q ≤ c + 9) ∨ q = L → X'.1 q = X.1 q) : tR c n L b X' Y := by
  unfold tR atR at h ⊢
  rw [h1 (c + 2) (by omega), h1 (c + 3) (by omega), h1 (c + 4) (by omega), h1 (c + 6) (by omega), h1 (c + 8) (by omega), h1 (c + 9) (by omega), h1 c (by omega), h1 L (by omega)]
  exact h
theorem tR.b {c n L b : Nat} {X Y Y' : Mm} (h : tR c n L b X Y) (h1 : ∀ q, q = 107 ∨ q = 108 ∨ q = 109 ∨ q = 111 ∨ q = 113 ∨ q = 114 → Y'.1 q = Y.1 q) (h2 : ∀ j, j = 3 ∨ j = 4 ∨ j = 36 → Y'.1 105 j = Y.1 105 j) (hL : sL8 Y Y') : tR c n L b X Y' := by
  unfold tR atR mdR at h ⊢
  rw [h1 107 (by omega), h1 108 (by omega), h1 109 (by omega), h1 111 (by omega), h1 113 (by omega), h1 114 (by omega), h2 3 (by omega), h2 4 (by omega), h2 36 (by omega), show rulI Y' = rulI Y from funext (rul_s hL)]
  exact h
def eR (v n L b k : Nat) (X Y : Mm) : Prop := tR (v + 2) n L (b + k) X Y ∧ X.1 v 3 = Y.1 105 51 ∧ ∀ i, i < k → X.1 (v + 1) i = Y.1 137 i
/-- the laws lie outside an evening -/
def outL (v L : Nat) : Prop := ¬ (v ≤ L ∧ L ≤ v + 16)
theorem eS_s {v n L b k : Nat} {X X' Y Y' : Mm} (h : eR v n L b k X Y) (hb : b + k < 10000 ∨ Y.1 105 36 = 0) (hn : n ≤ 30) (hL : outL v L) (hs : evS v n L k X X') (he : eS8 n k Y Y') : eR v n L b (k + 1) X' Y' := by
  obtain ⟨hT, hj, ht⟩ := h
  unfold outL at hL
  obtain ⟨X1, tq, rfl⟩ := hs
  obtain ⟨Y1, hk, rfl⟩ := he
  have hT1 := turn_t hT hb (by omega) tq hk
  have hbt := bits_eq hT hb
  obtain ⟨k3, k4, k7, k8, kr, k51, k137⟩ := tk8_v hk
  obtain ⟨tS, tj, -⟩ := tq
  rw [hbt, cl_eq hn]
  refine ⟨?_, ?_, fun i hi => ?_⟩
  · refine (hT1.a (X' := _) (fun q hq => ?_)).b (fun q hq => ?_) (fun j hj => ?_) ⟨?_, ?_, ?_⟩
    · rw [mI_other (by omega), mI_other (by omega)]
    · rw [mI_other (by omega), mI_other (by omega)]
    · rw [mI_self, upd_other (by omega), mI_other (by decide)]
    · rw [mI_other (by decide), mI_other (by decide)]
    · rw [mI_other (by decide), mI_other (by decide)]
    · rw [mI_self, upd_other (by decide), mI_other (by decide)]
  · rw [mI_other (by omega), mI_self, upd_self, mI_other (by omega), tS.2 v (by omega), hj, mI_self, upd_self, mI_other (by decide), k51]
    refine congrArg (Y.1 105 51 ||| ·) (bitsI_cong (fun j hj9 => ?_))
    rw [mI_other (by decide), (kr j hj9).2.1]
  · rw [mI_self, mI_other (show 137 ≠ 105 by decide), mI_self]
    by_cases e : i = k
    · subst e
      rw [upd_self, upd_self, k8]
    · rw [upd_other e, upd_other e, mI_other (by omega), mI_other (by omega), tS.2 (v + 1) (by omega), k137]
      exact ht i (by omega)
theorem ev_run {v n L b : Nat} {M1 B : Mm} (hn : n ≤ 30) (hL : outL v L) (h0 : eR v n L b 0 M1 B) : ∀ k X' Y', evR v n L k M1 X' → eR8 n k B Y' → (b + k ≤ 10000 ∨ B.1 105 36 = 0) → eR v n L b k X' Y'
  | 0, X', Y', h1, h2, _ => by
    have e1 : X' = M1 := h1
    have e2 : Y' = B := h2
    subst e1 e2
    exact h0
  | k + 1, X', Y', ⟨X, a1, a2⟩, ⟨Y, b1, b2⟩, hb => eS_s (ev_run hn hL h0 k X Y a1 b1 (hb.imp (fun q => by omega) id)) (hb.imp (fun q => by omega) (fun q => ((eR8_fx k Y b1).2.2 36 (by decide) (by decide) (by decide) (by decide) (by decide)).trans q)) hn hL a2 b2
theorem or0l (x : Int32) : (0 : Int32) ||| x = x := Int32.zero_or
theorem B8_51 {n : Nat} {w : Int32} {N : Mm} : (B8 n w N).1 105 51 = bitsI n (fun q => (B8 n w N).1 113 q = 1) := by
  unfold B8
  rw [mI_self, upd_self, mI_self, upd_self, or0l]
  refine bitsI_cong (fun q _ => ?_)
  repeat rw [mI_other (show 113 ≠ 105 by decide)]
theorem ev_eq {v n L b m : Nat} {w : Int32} {M M9 N Y : Mm} (hn : n ≤ 30) (hL : outL v L) (hT : tR (v + 2) n L b M (B8 n w N)) (hb : b + m ≤ 10000 ∨ (B8 n w N).1 105 36 = 0) (h1 : evQ v n L m M M9) (h2 : ev8 n w m N Y) : M9.1 v 3 = Y.1 105 51 ∧ ∀ i, i < m → M9.1 (v + 1) i = Y.1 137 i := by
  obtain ⟨M1, hl, hr⟩ := h1
  have hL' := hL
  unfold outL at hL'
  have h0 : eR v n L b 0 M1 (B8 n w N) := by
    refine ⟨hT.a (fun q hq => ?_), ?_, fun i hi => absurd hi (by omega)⟩
    · rw [hl.1.2 q (by omega)]
      unfold ev0
      rw [mI_other (by omega), mI_other (by omega)]
    · rw [hl.1.2 v (by omega), B8_51]
      unfold ev0
      rw [mI_self, upd_self]
      exact bitsI_cong (fun j hj => by rw [← hT.2.2.2.1 j hj])
  exact (ev_run hn hL h0 m M9 Y hr h2 hb).2
theorem whileN_cg {P Q : Nat → Prop} (h : ∀ a, P a ↔ Q a) : ∀ k a, whileN P k a = whileN Q k a
  | 0, _ => rfl
  | k + 1, a => by
    show pIf _ _ _ = pIf _ _ _
    rw [whileN_cg h k (a + 1)]
    by_cases q : P a
    · rw [pIf_t q, pIf_t ((h a).mp q)]
    · rw [pIf_f q, pIf_f (fun z => q ((h a).mpr z))]
theorem lenI_cg {t t' : Nat → Int32} {m : Nat} (h : ∀ i, i < m → t i = t' i) : lenI t m = lenI t' m := by
  have e1 : len1 t m = len1 t' m := whileN_cg (fun a => and_congr_right (fun ha => by rw [h a ha])) m 0
  have e2 : len2 t m = len2 t' m := by
    unfold len2
    rw [e1]
    exact whileN_cg (fun a => and_congr_right (fun ha => by rw [h a ha])) _ _
  unfold lenI
  rw [e1, e2]
theorem evR_pre {v n L : Nat} {M : Mm} : ∀ m X', evR v n L m M X' → ∀ i, i < m → ∃ X, evR v n L (i + 1) M X ∧ X'.1 (v + 1) i = X.1 (v + 1) i
  | 0, _, _, i, hi => absurd hi (by omega)
  | m + 1, X', ⟨X, h1, h2⟩, i, hi => by
    by_cases e : i = m
    · subst e
      exact ⟨X', ⟨X, h1, h2⟩, rfl⟩
    · obtain ⟨Z, z1, z2⟩ := evR_pre m X h1 i (by omega)
      refine ⟨Z, z1, ?_⟩
      obtain ⟨X1, ⟨tS, -⟩, rfl⟩ := h2
      rw [mI_self, upd_other e, mI_other (by omega), mI_other (by omega), tS.2 (v + 1) (by omega)]
      exact z2
/-- the first ticks of a long evening are those of a short one -/
theorem ev_tally {v n L b m i : Nat} {w : Int32} {M M9 N Y : Mm} (hn : n ≤ 30) (hL : outL v L) (hT : tR (v + 2) n L b M (B8 n w N)) (hb : b + (i + 1) ≤ 10000 ∨ (B8 n w N).1 105 36 = 0) (hi : i < m) (h1 : evQ v n L m M M9) (h2 : ev8 n w (i + 1) N Y) : M9.1 (v + 1) i = Y.1 137 i := by
  obtain ⟨M1, hl, hr⟩ := h1
  obtain ⟨X, x1, x2⟩ := evR_pre m M9 hr i hi
  rw [x2]
  have hl2 : lsM (v + 2) n (ev0 v n (i + 1) M) (mI M1 v 2 (nI (i + 1))) → True := fun _ => trivial
  have hL' := hL
  unfold outL at hL'
  have h0 : eR v n L b 0 M1 (B8 n w N) := by
    refine ⟨hT.a (fun q hq => ?_), ?_, fun i hi => absurd hi (by omega)⟩
    · rw [hl.1.2 q (by omega)]
      unfold ev0
      rw [mI_other (by omega), mI_other (by omega)]
    · rw [hl.1.2 v (by omega), B8_51]
      unfold ev0
      rw [mI_self, upd_self]
      exact bitsI_cong (fun j hj => by rw [← hT.2.2.2.1 j hj])
  exact (ev_run hn hL h0 (i + 1) X Y x1 h2 hb).2.2 i (by omega)
/-! who met -/
theorem bits_or {n : Nat} {P Q : Nat → Prop} (hn : n ≤ 32) : bitsI n P ||| bitsI n Q = bitsI n (fun i => P i ∨ Q i) := by
  refine b_ext (fun i hi => ?_)
  rw [b_or, Bool.eq_iff_iff, Bool.or_eq_true, bt_bits hi n hn, bt_bits hi n hn, bt_bits hi n hn]
  constructor
  · rintro (q | q)
    · exact ⟨q.1, Or.inl q.2⟩
    · exact ⟨q.1, Or.inr q.2⟩
  · rintro ⟨q, r | r⟩
    · exact Or.inl ⟨q, r⟩
    · exact Or.inr ⟨q, r⟩
theorem met_bits {n : Nat} {B : Mm} (hn : n ≤ 32) (h0 : ∃ P, B.1 105 51 = bitsI n P) : ∀ k Y, eR8 n k B Y → ∃ P, Y.1 105 51 = bitsI n P
  | 0, Y, h => by
    have e : Y = B := h
    subst e
    exact h0
  | k + 1, Y, ⟨X, h1, h2⟩ => by
    obtain ⟨P, hP⟩ := met_bits hn h0 k X h1
    obtain ⟨X1, hk, rfl⟩ := h2
    obtain ⟨-, -, -, -, -, k51, -⟩ := tk8_v hk
    rw [mI_self, upd_self, mI_other (by decide), k51, hP, bits_or hn]
    exact ⟨_, rfl⟩
theorem met_le {n m : Nat} {w : Int32} {N Y : Mm} (hn : n ≤ 30) (h : ev8 n w m N Y) : ∃ k, k ≤ n ∧ bcI (Y.1 105 51) = nI k := by
  obtain ⟨P, hP⟩ := met_bits (by omega) ⟨_, B8_51⟩ m Y h
  exact ⟨cntN n P, cntN_le n P, by rw [hP, bcI_bits (by omega)]⟩
/-! the evening that is meant -/
noncomputable def tkF (n : Nat) (M : Mm) : Mm := mI (rI (rI (rI (rI (mI (mI (mI M 105 4 (sd8 n M)) 105 7 (bitsI n (hi8 n M))) 105 8 (cl8 n M)) 112 (ph8 n M)) 113 (nm8 n M)) 114 (nt8 n M)) 115 (rs8 n M)) 105 3 (M.1 105 3 + 1)
theorem tkF_ok (n : Nat) (M : Mm) : tk8 n M (tkF n M) := by
  refine ⟨_, ⟨((((((Same.rf.mI (Or.inl rfl)).mI (Or.inl rfl)).mI (Or.inl rfl)).rI (Or.inr (Or.inl (by omega)))).rI (Or.inr (Or.inl (by omega)))).rI (Or.inr (Or.inl (by omega)))).rI (Or.inr (Or.inl (by omega))), fun j h4 h7 h8 => ?_, ?_, ?_, ?_, fun j hj => ⟨?_, ?_, ?_, ?_⟩⟩, rfl⟩
  · rw [rI_other (by decide), rI_other (by decide), rI_other (by decide), rI_other (by decide), mI_self, upd_other h8, mI_self, upd_other h7, mI_self, upd_other h4]
  · rw [rI_other (by decide), rI_other (by decide), rI_other (by decide), rI_other (by decide), mI_self, upd_other (by decide), mI_self, upd_other (by decide), mI_self, upd_self]
  · rw [rI_other (by decide), rI_other (by decide), rI_other (by decide), rI_other (by decide), mI_self, upd_other (by decide), mI_self, upd_self]
  · rw [rI_other (by decide), rI_other (by decide), rI_other (by decide), rI_other (by decide), mI_self, upd_self]
  · rw [rI_other (by decide), rI_other (by decide), rI_other (by decide), rI_self]
  · rw [rI_other (by decide), rI_other (by decide), rI_self]
  · rw [rI_other (by decide), rI_self]
  · rw [rI_self]
noncomputable def eF8 (n : Nat) : Nat → Mm → Mm
  | 0, M => M
  | k + 1, M => mI (mI (tkF n (eF8 n k M)) 137 k ((tkF n (eF8 n k M)).1 105 8)) 105 51 ((mI (tkF n (eF8 n k M)) 137 k ((tkF n (eF8 n k M)).1 105 8)).1 105 51 ||| bitsI n (fun q => (mI (tkF n (eF8 n k M)) 137 k ((tkF n (eF8 n k M)).1 105 8)).1 113 q = 1))
theorem eR8_F (n : Nat) (M : Mm) : ∀ k, eR8 n k M (eF8 n k M)
  | 0 => rfl
  | k + 1 => ⟨_, eR8_F n M k, _, tkF_ok n _, rfl⟩
noncomputable def evF (n : Nat) (w : Int32) (m : Nat) (M : Mm) : Mm := eF8 n m (B8 n w M)
theorem ev8_F (n : Nat) (w : Int32) (m : Nat) (M : Mm) : ev8 n w m M (evF n w m M) := eR8_F n _ m
/-- two memories with the same people of the model -/
def qR (n : Nat) (Y Z : Mm) : Prop := agr n (Y.1 107) (Z.1 107) ∧ agr n (Y.1 108) (Z.1 108) ∧ agr n (Y.1 109) (Z.1 109) ∧ agr n (Y.1 111) (Z.1 111) ∧ agr n (Y.1 113) (Z.1 113) ∧ agr n (Y.1 114) (Z.1 114) ∧ Y.1 105 3 = Z.1 105 3 ∧ Y.1 105 4 = Z.1 105 4 ∧ Y.1 105 36 = Z.1 105 36 ∧ agr 7 (rulI Y) (rulI Z)
theorem q_tn {n j : Nat} {Y Z : Mm} (h : qR n Y Z) (hj : j < n) : tn8 n Y j ↔ tn8 n Z j := by
  obtain ⟨h7, h8, h9, h11, h13, h14, hw, hs, h36, hL⟩ := h
  unfold tn8
  rw [hearF_cg h8 h13 hj, nearF_cg h8 h13 hj, h13 j hj, sdF_cg h7 h13 _ j (by omega), hs, h7 j hj, h9 j hj, h14 j hj, h11 j hj, wb8P_W hL, wsP_W hL, hL 3 (by omega), hw, h36]
theorem q_nm {n j : Nat} {Y Z : Mm} (h : qR n Y Z) (hj : j < n) : nm8 n Y j = nm8 n Z j := by
  rw [nm8_d, nm8_d, h.2.2.2.2.1 j hj]
  by_cases q : tn8 n Y j
  · rw [pIf_t q, pIf_t ((q_tn h hj).mp q)]
  · rw [pIf_f q, pIf_f (fun z => q ((q_tn h hj).mpr z))]
theorem q_step {n : Nat} {Y Z Y1 Z1 : Mm} (h : qR n Y Z) (hy : tk8 n Y Y1) (hz : tk8 n Z Z1) : qR n Y1 Z1 ∧ Y1.1 105 8 = Z1.1 105 8 := by
  have hn := fun j hj => q_nm h (j := j) hj
  obtain ⟨h7, h8, h9, h11, h13, h14, hw, hs, h36, hL⟩ := h
  obtain ⟨y3, y4, y7, y8, yr, -, -⟩ := tk8_v hy
  obtain ⟨z3, z4, z7, z8, zr, -, -⟩ := tk8_v hz
  have fy := tk8_fx hy
  have fz := tk8_fx hz
  have o : ∀ q, q = 107 ∨ q = 108 ∨ q = 109 ∨ q = 111 → ¬ (S8 q ∨ q = 137) := fun q hq => by unfold S8; omega
  refine ⟨⟨?_, ?_, ?_, ?_, fun j hj => ?_, fun j hj => ?_, ?_, ?_, ?_, fun i hi => ?_⟩, ?_⟩
  · rw [fy.2.1 107 (o _ (by omega)), fz.2.1 107 (o _ (by omega))]; exact h7
  · rw [fy.2.1 108 (o _ (by omega)), fz.2.1 108 (o _ (by omega))]; exact h8
  · rw [fy.2.1 109 (o _ (by omega)), fz.2.1 109 (o _ (by omega))]; exact h9
  · rw [fy.2.1 111 (o _ (by omega)), fz.2.1 111 (o _ (by omega))]; exact h11
  · rw [(yr j hj).2.1, (zr j hj).2.1]; exact hn j hj
  · rw [(yr j hj).2.2.1, (zr j hj).2.2.1]
    unfold nt8
    rw [hn j hj, h13 j hj, h14 j hj]
  · rw [y3, z3, hw]
  · rw [y4, z4]
    unfold sd8
    rw [hs]
    exact sdF_cg h7 h13 _ n (Nat.le_refl n)
  · rw [fy.2.2 36 (by decide) (by decide) (by decide) (by decide) (by decide), fz.2.2 36 (by decide) (by decide) (by decide) (by decide) (by decide)]; exact h36
  · rw [rul_s fy.L, rul_s fz.L]; exact hL i hi
  · rw [y8, z8]
    exact congrArg nI (cntN_cong (fun j hj => by rw [hn j hj]))
theorem qR.b {n : Nat} {Y Z Y' Z' : Mm} (h : qR n Y Z) (hy : ∀ q, q = 107 ∨ q = 108 ∨ q = 109 ∨ q = 111 ∨ q = 113 ∨ q = 114 → Y'.1 q = Y.1 q) (hy2 : ∀ j, j = 3 ∨ j = 4 ∨ j = 36 → Y'.1 105 j = Y.1 105 j) (hyL : sL8 Y Y') (hz : ∀ q, q = 107 ∨ q = 108 ∨ q = 109 ∨ q = 111 ∨ q = 113 ∨ q = 114 → Z'.1 q = Z.1 q) (hz2 : ∀ j, j = 3 ∨ j = 4 ∨ j = 36 → Z'.1 105 j = Z.1 105 j) (hzL : sL8 Z Z') : qR n Y' Z' := by
  unfold qR at h ⊢
  rw [hy 107 (by omega), hy 108 (by omega), hy 109 (by omega), hy 111 (by omega), hy 113 (by omega), hy 114 (by omega), hy2 3 (by omega), hy2 4 (by omega), hy2 36 (by omega), show rulI Y' = rulI Y from funext (rul_s hyL), hz 107 (by omega), hz 108 (by omega), hz 109 (by omega), hz 111 (by omega), hz 113 (by omega), hz 114 (by omega), hz2 3 (by omega), hz2 4 (by omega), hz2 36 (by omega), show rulI Z' = rulI Z from funext (rul_s hzL)]
  exact h
theorem qe_run {n : Nat} {Y Z : Mm} (h : qR n Y Z) (h51 : Y.1 105 51 = Z.1 105 51) : ∀ k Y' Z', eR8 n k Y Y' → eR8 n k Z Z' → qR n Y' Z' ∧ Y'.1 105 51 = Z'.1 105 51 ∧ ∀ i, i < k → Y'.1 137 i = Z'.1 137 i
  | 0, Y', Z', h1, h2 => by
    have e1 : Y' = Y := h1
    have e2 : Z' = Z := h2
    subst e1 e2
    exact ⟨h, h51, fun i hi => absurd hi (by omega)⟩
  | k + 1, Y', Z', ⟨Y0, a1, a2⟩, ⟨Z0, b1, b2⟩ => by
    obtain ⟨q1, q2, q3⟩ := qe_run h h51 k Y0 Z0 a1 b1
    obtain ⟨Y1, hy, rfl⟩ := a2
    obtain ⟨Z1, hz, rfl⟩ := b2
    obtain ⟨s1, s2⟩ := q_step q1 hy hz
    obtain ⟨-, -, -, -, yr, y51, y137⟩ := tk8_v hy
    obtain ⟨-, -, -, -, zr, z51, z137⟩ := tk8_v hz
    refine ⟨s1.b (fun q hq => ?_) (fun j hj => ?_) ⟨?_, ?_, ?_⟩ (fun q hq => ?_) (fun j hj => ?_) ⟨?_, ?_, ?_⟩, ?_, fun i hi => ?_⟩
    · rw [mI_other (by omega), mI_other (by omega)]
    · rw [mI_self, upd_other (by omega), mI_other (by decide)]
    · rw [mI_other (by decide), mI_other (by decide)]
    · rw [mI_other (by decide), mI_other (by decide)]
    · rw [mI_self, upd_other (by decide), mI_other (by decide)]
    · rw [mI_other (by omega), mI_other (by omega)]
    · rw [mI_self, upd_other (by omega), mI_other (by decide)]
    · rw [mI_other (by decide), mI_other (by decide)]
    · rw [mI_other (by decide), mI_other (by decide)]
    · rw [mI_self, upd_other (by decide), mI_other (by decide)]
    · rw [mI_self, upd_self, mI_self, upd_self, mI_other (show 105 ≠ 137 by decide), mI_other (show 105 ≠ 137 by decide), y51, z51, q2]
      refine congrArg (Z0.1 105 51 ||| ·) (bitsI_cong (fun j hj => ?_))
      rw [mI_other (by decide), mI_other (by decide), s1.2.2.2.2.1 j hj]
    · rw [mI_other (show 137 ≠ 105 by decide), mI_other (show 137 ≠ 105 by decide), mI_self, mI_self]
      by_cases e : i = k
      · subst e; rw [upd_self, upd_self, s2]
      · rw [upd_other e, upd_other e, y137, z137]
        exact q3 i (by omega)
theorem qev_run {n m : Nat} {w : Int32} {Y Z Y' Z' : Mm} (h : qR n (B8 n w Y) (B8 n w Z)) (h1 : ev8 n w m Y Y') (h2 : ev8 n w m Z Z') : Y'.1 105 51 = Z'.1 105 51 ∧ ∀ i, i < m → Y'.1 137 i = Z'.1 137 i :=
  (qe_run h (by rw [B8_51, B8_51]; exact bitsI_cong (fun j hj => by rw [h.2.2.2.2.1 j hj])) m Y' Z' h1 h2).2
