def noxA (M : Mm) (a : Int32) : Mm := nox M (-a).toNatClampNeg
def nkOK (a : Int32) : Prop := ∃ k, k < 8 ∧ -a = nI k
theorem m_X8_noA {l : Launch} {M : Mm} {a : Int32} (h : nkOK a) : AMet l 1 yX8_no cX8_no 2 (some FieldType.int) [.ref 105, .int a] M (QE (some (.int a)) (noxA M a)) := by
  obtain ⟨k, hk, e⟩ := h
  unfold noxA
  rw [e, nI_clamp (by omega)]
  exact m_X8_no e hk
theorem m_X8_noTenA {l : Launch} {M : Mm} {a : Int32} (h : nkOK a) : AMet l 1 yX8_noTen cX8_noTen 2 (some FieldType.int) [.ref 105, .int a] M (QE (some (.int (a - 10))) (noxA M a)) := by
  obtain ⟨k, hk, e⟩ := h
  unfold noxA
  rw [e, nI_clamp (by omega)]
  exact m_X8_noTen e hk
theorem wan_ok {M : Mm} {s : Int32} (h : ¬ wan8 M s = 0) : nkOK (wan8 M s) := by
  revert h
  unfold wan8
  by_cases h1 : ¬ s < 0 ∧ ¬ 8 ≤ s
  · rw [pIf_t h1]
    by_cases h2 : M.1 120 s.toNatClampNeg = 2
    · rw [pIf_t h2]; exact fun _ => ⟨2, by decide, by decide⟩
    · rw [pIf_f h2]
      by_cases h3 : M.1 120 s.toNatClampNeg = 0
      · rw [pIf_t h3]; exact fun _ => ⟨3, by decide, by decide⟩
      · rw [pIf_f h3]; exact fun q => absurd rfl q
  · rw [pIf_f h1]; exact fun _ => ⟨1, by decide, by decide⟩
theorem wan_k {M : Mm} {s : Int32} (h : wan8 M s = 0) : ∃ k, k < 8 ∧ s = nI k := by
  unfold wan8 at h
  by_cases h1 : ¬ s < 0 ∧ ¬ 8 ≤ s
  · exact shf_k h1
  · rw [pIf_f h1] at h
    exact absurd h (by decide)
noncomputable def is8 (M : Mm) (k j : Nat) : Int32 := pIf (M.1 122 k ≤ nI j) 0 (M.2 124 (100 * k + j)).toInt32
def it8 (M : Mm) (k b : Nat) : Int32 := (M.2 124 (100 * k + b)).toInt32
theorem nI_a1 (n : Nat) : nI n + 1 = nI (n + 1) := nI_add n 1
theorem nI_a2 (n : Nat) : nI n + 2 = nI (n + 2) := nI_add n 2
theorem nI_a3 (n : Nat) : nI n + 3 = nI (n + 3) := nI_add n 3
theorem nI_a4 (n : Nat) : nI n + 4 = nI (n + 4) := nI_add n 4
def S8_judge (M : Mm) (n mc : Nat) (s : Int32) (v : Int32) (M' : Mm) : Prop := pIf (wan8 M s = 0) (M' = M ∧ ∃ j, j ≤ mc ∧ (∀ i, i < j → is8 M s.toNatClampNeg i = sumI n (tkT M i False)) ∧ ((j < mc ∧ ¬ is8 M s.toNatClampNeg j = sumI n (tkT M j False) ∧ v = nI j) ∨ (j = mc ∧ v = -1))) (v = wan8 M s - 10 ∧ M' = noxA M (wan8 M s))
theorem m_X8_judge {l : Launch} {M : Mm} {s : Int32} {n : Nat} (hn : M.1 105 0 = nI n) (hn30 : n ≤ 30) (hst : ∀ q, q < n → ∃ s, s < 48 ∧ M.1 108 q = nI s) {mc : Nat} (hmc : M.1 105 2 = nI mc) (hm8 : mc ≤ 8) (hms : ∀ q, q < mc → ∃ s, s < 48 ∧ M.1 117 q = nI s) : AMet l 3 yX8_judge cX8_judge 5 (some FieldType.int) [.ref 105, .int s] M (QI (S8_judge M n mc s)) := by
  refine AMet.of (by decide) (by simp [aargs, Value.category]) ?_
  show AW l 3 yX8_judge cX8_judge 5 (some FieldType.int) 0 [some (.ref 105), some (.int s), none, none, none] [] M _
  refine aw_aload_n (i := 0) dX8_judge_0 rfl rfl ?_
  refine aw_iload_n (i := 1) dX8_judge_1 rfl rfl ?_
  refine aw_cVi ck_X8_173 m_X8_wants sh_105 rfl (by decide) (by decide) rfl rfl (Nat.le_of_ble_eq_true rfl) dX8_judge_2 ?_
  refine aw_istore_n (i := 2) dX8_judge_5 rfl (by decide) ?_
  refine aw_iload_n (i := 2) dX8_judge_6 rfl rfl ?_
  refine aw_if_eq (tgt := 16) dX8_judge_7 (by decide) (fun h7 => ?_) (fun h7 => ?_)
  ·
    obtain ⟨k, hk, rfl⟩ := wan_k h7
    refine aw_iconst (v := 0) dX8_judge_16 (by decide) ?_
    refine aw_istore_n (i := 3) dX8_judge_17 rfl (by decide) ?_
    have lp18 : ∀ k9 j, j + k9 = mc → (∀ i, i < j → is8 M k i = sumI n (tkT M i False)) → AW l 3 yX8_judge cX8_judge 5 (some FieldType.int) 18 [some (.ref 105), some (.int (nI k)), none, some (.int (nI j)), none] [] M (QI (S8_judge M n mc (nI k))) := by
      intro k9
      induction k9 using Nat.strongRecOn with
      | _ k9 ih =>
      intro j hk9 hall
      refine aw_iload_n (i := 3) dX8_judge_18 rfl rfl ?_
      refine aw_aload_n (i := 0) dX8_judge_19 rfl rfl ?_
      refine aw_getN (n := mc) gf_X8_296 sh_105 rfl hmc dX8_judge_20 ?_
      refine aw_icmp_geN (tgt := 67) (by omega) (by omega) dX8_judge_23 (by decide) (fun h23 => ?_) (fun h23 => ?_)
      ·
        refine aw_iconst (v := (-1)) dX8_judge_67 (by decide) ?_
        exact aw_iret rfl dX8_judge_68 ⟨_, rfl, by unfold S8_judge; rw [nI_clamp (show k < 2 ^ 31 from by omega)]; (first | rw [pIf_t h7] | rw [pIf_f h7] | rw [pIf_f (Int32.not_lt.mpr h7)] | rw [pIf_f (Int32.not_le.mpr h7)] | rw [pIf_t (Int32.not_le.mp h7)] | rw [pIf_t (Int32.not_lt.mp h7)] | rw [pIf_f (Nat.not_lt.mpr h7)] | rw [pIf_f (Nat.not_le.mpr h7)] | rw [pIf_t (Nat.not_le.mp h7)] | rw [pIf_t (Nat.not_lt.mp h7)] | skip); exact ⟨rfl, j, by omega, hall, Or.inr ⟨by omega, rfl⟩⟩⟩
      ·
        refine aw_iload_n (i := 3) dX8_judge_26 rfl rfl ?_
        refine aw_aload_n (i := 0) dX8_judge_27 rfl rfl ?_
        refine aw_getR gf_X8_68 sh_105 rfl dX8_judge_28 ?_
        refine aw_iload_n (i := 1) dX8_judge_31 rfl rfl ?_
        refine aw_ialdN sh_122 (by omega) (by omega) dX8_judge_32 ?_
        refine aw_icmp_ge (tgt := 45) dX8_judge_33 (by decide) (fun h33 => ?_) (fun h33 => ?_)
        ·
          refine aw_iconst (v := 0) dX8_judge_45 (by decide) ?_
          refine aw_top (z := is8 M k j) (by unfold is8; first | rw [pIf_t h33] | rw [pIf_f h33]) ?_
          refine aw_istore (i := 4) dX8_judge_46 (by decide) ?_
          refine aw_iload (i := 4) dX8_judge_48 rfl ?_
          refine aw_aload_n (i := 0) dX8_judge_50 rfl rfl ?_
          refine aw_iload_n (i := 3) dX8_judge_51 rfl rfl ?_
          refine aw_iconst (v := 0) dX8_judge_52 (by decide) ?_
          refine aw_top (z := b01 False) (by rw [b01_f id]) ?_
          refine aw_cVi ck_X8_299 (m_X8_takes hn hn30 hst (by omega) (hms j (by omega))) sh_105 rfl (by decide) (by decide) rfl rfl (Nat.le_of_ble_eq_true rfl) dX8_judge_53 ?_
          refine aw_icmp_eq (tgt := 61) dX8_judge_56 (by decide) (fun h56 => ?_) (fun h56 => ?_)
          ·
            refine aw_iincN (i := 3) dX8_judge_61 rfl (by decide) ?_
            refine aw_goto (tgt := 18) dX8_judge_64 (by decide) ?_
            refine aw_loc (la := [some (.ref 105), some (.int (nI k)), none, some (.int (nI (j + 1))), none]) ⟨rfl, rfl, rfl, trivial⟩ ?_
            exact ih (k9 - 1) (by omega) (j + 1) (by omega) (fun i hi => by
              by_cases e : i = j
              · subst e; exact h56
              · exact hall i (by omega))
          ·
            refine aw_iload_n (i := 3) dX8_judge_59 rfl rfl ?_
            exact aw_iret rfl dX8_judge_60 ⟨_, rfl, by unfold S8_judge; rw [nI_clamp (show k < 2 ^ 31 from by omega)]; (first | rw [pIf_t h7] | rw [pIf_f h7] | rw [pIf_f (Int32.not_lt.mpr h7)] | rw [pIf_f (Int32.not_le.mpr h7)] | rw [pIf_t (Int32.not_le.mp h7)] | rw [pIf_t (Int32.not_lt.mp h7)] | rw [pIf_f (Nat.not_lt.mpr h7)] | rw [pIf_f (Nat.not_le.mpr h7)] | rw [pIf_t (Nat.not_le.mp h7)] | rw [pIf_t (Nat.not_lt.mp h7)] | skip); exact ⟨rfl, j, by omega, hall, Or.inl ⟨by omega, h56, rfl⟩⟩⟩
        ·
          refine aw_aload_n (i := 0) dX8_judge_36 rfl rfl ?_
          refine aw_iload_n (i := 1) dX8_judge_37 rfl rfl ?_
          refine aw_iload_n (i := 3) dX8_judge_38 rfl rfl ?_
          refine aw_cVi ck_X8_176 (m_X8_intAt hk (by omega)) sh_105 rfl (by decide) (by decide) rfl rfl (Nat.le_of_ble_eq_true rfl) dX8_judge_39 ?_
          refine aw_goto (tgt := 46) dX8_judge_42 (by decide) ?_
          refine aw_top (z := is8 M k j) (by unfold is8; first | rw [pIf_t h33] | rw [pIf_f h33]) ?_
          refine aw_istore (i := 4) dX8_judge_46 (by decide) ?_
          refine aw_iload (i := 4) dX8_judge_48 rfl ?_
          refine aw_aload_n (i := 0) dX8_judge_50 rfl rfl ?_
          refine aw_iload_n (i := 3) dX8_judge_51 rfl rfl ?_
          refine aw_iconst (v := 0) dX8_judge_52 (by decide) ?_
          refine aw_top (z := b01 False) (by rw [b01_f id]) ?_
          refine aw_cVi ck_X8_299 (m_X8_takes hn hn30 hst (by omega) (hms j (by omega))) sh_105 rfl (by decide) (by decide) rfl rfl (Nat.le_of_ble_eq_true rfl) dX8_judge_53 ?_
          refine aw_icmp_eq (tgt := 61) dX8_judge_56 (by decide) (fun h56 => ?_) (fun h56 => ?_)
          ·
            refine aw_iincN (i := 3) dX8_judge_61 rfl (by decide) ?_
            refine aw_goto (tgt := 18) dX8_judge_64 (by decide) ?_
            refine aw_loc (la := [some (.ref 105), some (.int (nI k)), none, some (.int (nI (j + 1))), none]) ⟨rfl, rfl, rfl, trivial⟩ ?_
            exact ih (k9 - 1) (by omega) (j + 1) (by omega) (fun i hi => by
              by_cases e : i = j
              · subst e; exact h56
              · exact hall i (by omega))
          ·
            refine aw_iload_n (i := 3) dX8_judge_59 rfl rfl ?_
            exact aw_iret rfl dX8_judge_60 ⟨_, rfl, by unfold S8_judge; rw [nI_clamp (show k < 2 ^ 31 from by omega)]; (first | rw [pIf_t h7] | rw [pIf_f h7] | rw [pIf_f (Int32.not_lt.mpr h7)] | rw [pIf_f (Int32.not_le.mpr h7)] | rw [pIf_t (Int32.not_le.mp h7)] | rw [pIf_t (Int32.not_lt.mp h7)] | rw [pIf_f (Nat.not_lt.mpr h7)] | rw [pIf_f (Nat.not_le.mpr h7)] | rw [pIf_t (Nat.not_le.mp h7)] | rw [pIf_t (Nat.not_lt.mp h7)] | skip); exact ⟨rfl, j, by omega, hall, Or.inl ⟨by omega, h56, rfl⟩⟩⟩
    refine aw_loc (la := [some (.ref 105), some (.int (nI k)), none, some (.int (nI 0)), none]) ⟨rfl, rfl, rfl, trivial⟩ ?_
    exact lp18 mc 0 (by omega) (fun i hi => absurd hi (by omega))
  ·
    have hno := wan_ok h7
    refine aw_aload_n (i := 0) dX8_judge_10 rfl rfl ?_
    refine aw_iload_n (i := 2) dX8_judge_11 rfl rfl ?_
    refine aw_cVi ck_X8_209 (m_X8_noTenA hno) sh_105 rfl (by decide) (by decide) rfl rfl (Nat.le_of_ble_eq_true rfl) dX8_judge_12 ?_
    exact aw_iret rfl dX8_judge_15 (by first | contradiction | exact ⟨_, rfl, by unfold S8_judge; (first | rw [pIf_t h7] | rw [pIf_f h7] | rw [pIf_f (Int32.not_lt.mpr h7)] | rw [pIf_f (Int32.not_le.mpr h7)] | rw [pIf_t (Int32.not_le.mp h7)] | rw [pIf_t (Int32.not_lt.mp h7)] | rw [pIf_f (Nat.not_lt.mpr h7)] | rw [pIf_f (Nat.not_le.mpr h7)] | rw [pIf_t (Nat.not_le.mp h7)] | rw [pIf_t (Nat.not_lt.mp h7)] | skip); exact ⟨rfl, rfl⟩⟩)
def adm8P (n : Nat) (X : Mm) (k b : Nat) : Prop := ¬ n = 30 ∧ ((¬ it8 X k b < 0 ∧ ¬ 6 < it8 X k b) ∧ (¬ it8 X k (b + 1) < 0 ∧ ¬ 48 ≤ it8 X k (b + 1))) ∧ ((¬ it8 X k (b + 2) < 0 ∧ ¬ 99 < it8 X k (b + 2)) ∧ (¬ it8 X k (b + 3) < 1 ∧ ¬ 9 < it8 X k (b + 3)) ∧ (¬ it8 X k (b + 4) < 0 ∧ ¬ 99 < it8 X k (b + 4)) ∧ onI (X.1 108) (it8 X k (b + 1)) n = -1)
def com8 (n : Nat) (X : Mm) (k b : Nat) : Mm := comM n (it8 X k b) (it8 X k (b + 1)) (it8 X k (b + 2)) (it8 X k (b + 3)) (it8 X k (b + 4)) X
def ppl8 (n k a : Nat) : Nat → Mm → Mm → Prop
  | 0, M, M' => M' = M
  | j + 1, M, M' => ∃ X, ppl8 n k a j M X ∧ adm8P (n + j) X k (a + j * 5) ∧ M' = com8 (n + j) X k (a + j * 5)
theorem ppl8_cnt {n k a : Nat} {M : Mm} (hn : M.1 105 0 = nI n) (hn30 : n ≤ 30) : ∀ j M', ppl8 n k a j M M' → n + j ≤ 30 ∧ M'.1 105 0 = nI (n + j)
  | 0, M', h => by
    have e : M' = M := h
    subst e
    exact ⟨hn30, hn⟩
  | j + 1, M', ⟨X, h1, h2, h3⟩ => by
    obtain ⟨q1, q2⟩ := ppl8_cnt hn hn30 j X h1
    have h4 := h2.1
    refine ⟨by omega, ?_⟩
    subst h3
    unfold com8 comM
    rw [mI_self, upd_self]
    rfl
theorem m5 {m : Nat} (h : m ≤ 100) (h1 : nI m - nI m / 5 * 5 = 0) : m = m / 5 * 5 := by
  have t : ∀ m, m ≤ 100 → nI m - nI m / 5 * 5 = 0 → m = m / 5 * 5 := by decide +kernel
  exact t m h h1
theorem part8 {M : Mm} {k : Nat} {i m : Int32} (hz : siz8 M) (hk : k < 8) (h1 : ¬ m < 0) (h2 : ¬ i < 0) (h3 : i ≤ M.1 122 k - m) : ∃ z a b, z ≤ 100 ∧ a + b ≤ z ∧ i = nI a ∧ m = nI b ∧ M.1 122 k = nI z := by
  obtain ⟨z, hz1, hz2⟩ := hz k hk
  rw [hz2] at h3
  have h0 : (0 : Int32).toInt = 0 := by decide
  have i1 : ∀ x : Int32, ¬ x < 0 → ∃ a, a < 2 ^ 31 ∧ x = nI a := fun x hx => ⟨x.toNatClampNeg, by have := x.toInt_lt; rw [i32_lt, h0] at hx; show x.toInt.toNat < _; omega, Int32.toInt_inj.mp (by rw [nI_toInt (by have := x.toInt_lt; show x.toInt.toNat < _; omega)]; rw [i32_lt, h0] at hx; show x.toInt = (x.toInt.toNat : Int); omega)⟩
  obtain ⟨a, ha, rfl⟩ := i1 i h2
  obtain ⟨b, hb, rfl⟩ := i1 m h1
  refine ⟨z, a, b, hz1, ?_, rfl, rfl, hz2⟩
  rw [Int32.le_iff_toInt_le, Int32.toInt_sub, nI_toInt ha, nI_toInt hb, nI_toInt (by omega), Int.bmod_eq_of_le (by omega) (by omega)] at h3
  omega
def S8_people (M : Mm) (n : Nat) (s i m9 : Int32) (v : Int32) (M' : Mm) : Prop := pIf (wan8 M s = 0) (pIf (m9 < 0) (v = -4 ∧ M' = nox M 4) (pIf (i < 0) (v = -5 ∧ M' = nox M 5) (pIf (i ≤ M.1 122 s.toNatClampNeg - m9) (pIf (m9 - m9 / 5 * 5 = 0) (∃ j, j ≤ m9.toNatClampNeg / 5 ∧ ppl8 n s.toNatClampNeg i.toNatClampNeg j M M' ∧ v = nI j ∧ (j = m9.toNatClampNeg / 5 ∨ ¬ adm8P (n + j) M' s.toNatClampNeg (i.toNatClampNeg + j * 5))) (v = -6 ∧ M' = nox M 6)) (v = -5 ∧ M' = nox M 5)))) (v = wan8 M s ∧ M' = noxA M (wan8 M s))
theorem m_X8_people {l : Launch} {M : Mm} {s i m9 : Int32} (hz : siz8 M) {n : Nat} (hn : M.1 105 0 = nI n) (hn30 : n ≤ 30) : AMet l 3 yX8_people cX8_people 9 (some FieldType.int) [.ref 105, .int s, .int i, .int m9] M (QI (S8_people M n s i m9)) := by
  refine AMet.of (by decide) (by simp [aargs, Value.category]) ?_
  show AW l 3 yX8_people cX8_people 9 (some FieldType.int) 0 [some (.ref 105), some (.int s), some (.int i), some (.int m9), none, none, none, none, none] [] M _
  refine aw_aload_n (i := 0) dX8_people_0 rfl rfl ?_
  refine aw_iload_n (i := 1) dX8_people_1 rfl rfl ?_
  refine aw_cVi ck_X8_173 m_X8_wants sh_105 rfl (by decide) (by decide) rfl rfl (Nat.le_of_ble_eq_true rfl) dX8_people_2 ?_
  refine aw_istore (i := 4) dX8_people_5 (by decide) ?_
  refine aw_iload (i := 4) dX8_people_7 rfl ?_
  refine aw_if_eq (tgt := 19) dX8_people_9 (by decide) (fun h9 => ?_) (fun h9 => ?_)
  ·
    obtain ⟨k, hk, rfl⟩ := wan_k h9
    refine aw_iload_n (i := 3) dX8_people_19 rfl rfl ?_
    refine aw_if_ge (tgt := 30) dX8_people_20 (by decide) (fun h20 => ?_) (fun h20 => ?_)
    ·
      refine aw_iload_n (i := 2) dX8_people_30 rfl rfl ?_
      refine aw_if_lt (tgt := 46) dX8_people_31 (by decide) (fun h31 => ?_) (fun h31 => ?_)
      ·
        refine aw_aload_n (i := 0) dX8_people_46 rfl rfl ?_
        refine aw_bipush (v := (-5)) dX8_people_47 (by decide) ?_
        refine aw_cVi ck_X8_142 (m_X8_no (k := 5) (by decide) (by decide)) sh_105 rfl (by decide) (by decide) rfl rfl (Nat.le_of_ble_eq_true rfl) dX8_people_49 ?_
        exact aw_iret rfl dX8_people_52 ⟨_, rfl, by unfold S8_people; (try rw [nI_clamp (show k < 2 ^ 31 from by omega)]); (first | rw [pIf_t h9] | rw [pIf_f h9] | rw [pIf_f (Int32.not_lt.mpr h9)] | rw [pIf_f (Int32.not_le.mpr h9)] | rw [pIf_t (Int32.not_le.mp h9)] | rw [pIf_t (Int32.not_lt.mp h9)] | rw [pIf_f (Nat.not_lt.mpr h9)] | rw [pIf_f (Nat.not_le.mpr h9)] | rw [pIf_t (Nat.not_le.mp h9)] | rw [pIf_t (Nat.not_lt.mp h9)] | skip); (first | rw [pIf_t h20] | rw [pIf_f h20] | rw [pIf_f (Int32.not_lt.mpr h20)] | rw [pIf_f (Int32.not_le.mpr h20)] | rw [pIf_t (Int32.not_le.mp h20)] | rw [pIf_t (Int32.not_lt.mp h20)] | rw [pIf_f (Nat.not_lt.mpr h20)] | rw [pIf_f (Nat.not_le.mpr h20)] | rw [pIf_t (Nat.not_le.mp h20)] | rw [pIf_t (Nat.not_lt.mp h20)] | skip); (first | rw [pIf_t h31] | rw [pIf_f h31] | rw [pIf_f (Int32.not_lt.mpr h31)] | rw [pIf_f (Int32.not_le.mpr h31)] | rw [pIf_t (Int32.not_le.mp h31)] | rw [pIf_t (Int32.not_lt.mp h31)] | rw [pIf_f (Nat.not_lt.mpr h31)] | rw [pIf_f (Nat.not_le.mpr h31)] | rw [pIf_t (Nat.not_le.mp h31)] | rw [pIf_t (Nat.not_lt.mp h31)] | skip); exact ⟨rfl, rfl⟩⟩
      ·
        refine aw_iload_n (i := 2) dX8_people_34 rfl rfl ?_
        refine aw_aload_n (i := 0) dX8_people_35 rfl rfl ?_
        refine aw_getR gf_X8_68 sh_105 rfl dX8_people_36 ?_
        refine aw_iload_n (i := 1) dX8_people_39 rfl rfl ?_
        refine aw_ialdN sh_122 (by omega) (by omega) dX8_people_40 ?_
        refine aw_iload_n (i := 3) dX8_people_41 rfl rfl ?_
        refine aw_isub dX8_people_42 ?_
        refine aw_icmp_le (tgt := 53) dX8_people_43 (by decide) (fun h43 => ?_) (fun h43 => ?_)
        ·
          obtain ⟨z, a, m, hz1, hz2, rfl, rfl, hz3⟩ := part8 hz hk (Int32.not_lt.mpr h20) h31 h43
          refine aw_iload_n (i := 3) dX8_people_53 rfl rfl ?_
          refine aw_iconst (v := 5) dX8_people_54 (by decide) ?_
          refine aw_irem dX8_people_55 (by decide) ?_
          refine aw_if_eq (tgt := 66) dX8_people_56 (by decide) (fun h56 => ?_) (fun h56 => ?_)
          ·
            have hm5 : m = m / 5 * 5 := m5 (by omega) h56
            refine aw_iconst (v := 0) dX8_people_66 (by decide) ?_
            refine aw_istore (i := 5) dX8_people_67 (by decide) ?_
            refine aw_iload_n (i := 2) dX8_people_69 rfl rfl ?_
            refine aw_istore (i := 6) dX8_people_70 (by decide) ?_
            have lp72 : ∀ k9 j X, j + k9 = m / 5 → ppl8 n k a j M X → AW l 3 yX8_people cX8_people 9 (some FieldType.int) 72 [some (.ref 105), some (.int (nI k)), some (.int (nI a)), some (.int (nI m)), none, some (.int (nI j)), some (.int (nI (a + j * 5))), none, none] [] X (QI (S8_people M n (nI k) (nI a) (nI m))) := by
              intro k9
              induction k9 using Nat.strongRecOn with
              | _ k9 ih =>
              intro j X hk9 hX
              obtain ⟨c1, c2⟩ := ppl8_cnt hn hn30 j X hX
              refine aw_iload (i := 6) dX8_people_72 rfl ?_
              refine aw_iload_n (i := 2) dX8_people_74 rfl rfl ?_
              refine aw_iload_n (i := 3) dX8_people_75 rfl rfl ?_
              refine aw_iadd dX8_people_76 ?_
              refine aw_top (nI_add a m) ?_
              refine aw_icmp_geN (tgt := 203) (by omega) (by omega) dX8_people_77 (by decide) (fun h77 => ?_) (fun h77 => ?_)
              ·
                refine aw_iload (i := 5) dX8_people_203 rfl ?_
                exact aw_iret rfl dX8_people_205 ⟨_, rfl, by unfold S8_people; rw [nI_clamp (show k < 2 ^ 31 from by omega), nI_clamp (show a < 2 ^ 31 from by omega), nI_clamp (show m < 2 ^ 31 from by omega)]; (first | rw [pIf_t h9] | rw [pIf_f h9] | rw [pIf_f (Int32.not_lt.mpr h9)] | rw [pIf_f (Int32.not_le.mpr h9)] | rw [pIf_t (Int32.not_le.mp h9)] | rw [pIf_t (Int32.not_lt.mp h9)] | rw [pIf_f (Nat.not_lt.mpr h9)] | rw [pIf_f (Nat.not_le.mpr h9)] | rw [pIf_t (Nat.not_le.mp h9)] | rw [pIf_t (Nat.not_lt.mp h9)] | skip); (first | rw [pIf_t h20] | rw [pIf_f h20] | rw [pIf_f (Int32.not_lt.mpr h20)] | rw [pIf_f (Int32.not_le.mpr h20)] | rw [pIf_t (Int32.not_le.mp h20)] | rw [pIf_t (Int32.not_lt.mp h20)] | rw [pIf_f (Nat.not_lt.mpr h20)] | rw [pIf_f (Nat.not_le.mpr h20)] | rw [pIf_t (Nat.not_le.mp h20)] | rw [pIf_t (Nat.not_lt.mp h20)] | skip); (first | rw [pIf_t h31] | rw [pIf_f h31] | rw [pIf_f (Int32.not_lt.mpr h31)] | rw [pIf_f (Int32.not_le.mpr h31)] | rw [pIf_t (Int32.not_le.mp h31)] | rw [pIf_t (Int32.not_lt.mp h31)] | rw [pIf_f (Nat.not_lt.mpr h31)] | rw [pIf_f (Nat.not_le.mpr h31)] | rw [pIf_t (Nat.not_le.mp h31)] | rw [pIf_t (Nat.not_lt.mp h31)] | skip); (first | rw [pIf_t h43] | rw [pIf_f h43] | rw [pIf_f (Int32.not_lt.mpr h43)] | rw [pIf_f (Int32.not_le.mpr h43)] | rw [pIf_t (Int32.not_le.mp h43)] | rw [pIf_t (Int32.not_lt.mp h43)] | rw [pIf_f (Nat.not_lt.mpr h43)] | rw [pIf_f (Nat.not_le.mpr h43)] | rw [pIf_t (Nat.not_le.mp h43)] | rw [pIf_t (Nat.not_lt.mp h43)] | skip); (first | rw [pIf_t h56] | rw [pIf_f h56] | rw [pIf_f (Int32.not_lt.mpr h56)] | rw [pIf_f (Int32.not_le.mpr h56)] | rw [pIf_t (Int32.not_le.mp h56)] | rw [pIf_t (Int32.not_lt.mp h56)] | rw [pIf_f (Nat.not_lt.mpr h56)] | rw [pIf_f (Nat.not_le.mpr h56)] | rw [pIf_t (Nat.not_le.mp h56)] | rw [pIf_t (Nat.not_lt.mp h56)] | skip); exact ⟨j, by omega, hX, rfl, Or.inl (by omega)⟩⟩
              ·
                have hj5 : j < m / 5 := by omega
                refine aw_aload_n (i := 0) dX8_people_80 rfl rfl ?_
                refine aw_iload_n (i := 1) dX8_people_81 rfl rfl ?_
                refine aw_iload (i := 6) dX8_people_82 rfl ?_
                refine aw_cVi ck_X8_176 (m_X8_intAt hk (by omega)) sh_105 rfl (by decide) (by decide) rfl rfl (Nat.le_of_ble_eq_true rfl) dX8_people_84 ?_
                refine aw_istore (i := 7) dX8_people_87 (by decide) ?_
                refine aw_aload_n (i := 0) dX8_people_89 rfl rfl ?_
                refine aw_iload_n (i := 1) dX8_people_90 rfl rfl ?_
                refine aw_iload (i := 6) dX8_people_91 rfl ?_
                refine aw_iconst (v := 1) dX8_people_93 (by decide) ?_
                refine aw_iadd dX8_people_94 ?_
                refine aw_top (nI_a1 (a + j * 5)) ?_
                refine aw_cVi ck_X8_176 (m_X8_intAt hk (by omega)) sh_105 rfl (by decide) (by decide) rfl rfl (Nat.le_of_ble_eq_true rfl) dX8_people_95 ?_
                refine aw_istore (i := 8) dX8_people_98 (by decide) ?_
                refine aw_aload_n (i := 0) dX8_people_100 rfl rfl ?_
                refine aw_getN (n := (n + j)) gf_X8_132 sh_105 rfl c2 dX8_people_101 ?_
                refine aw_bipush (v := 30) dX8_people_104 (by decide) ?_
                refine aw_top (show (30 : Int32) = nI 30 from rfl) ?_
                refine aw_icmp_eqN (tgt := 156) (by omega) (by omega) dX8_people_106 (by decide) (fun h106 => ?_) (fun h106 => ?_)
                ·
                  refine aw_iload (i := 5) dX8_people_156 rfl ?_
                  exact aw_iret rfl dX8_people_158 ⟨_, rfl, by unfold S8_people; rw [nI_clamp (show k < 2 ^ 31 from by omega), nI_clamp (show a < 2 ^ 31 from by omega), nI_clamp (show m < 2 ^ 31 from by omega)]; (first | rw [pIf_t h9] | rw [pIf_f h9] | rw [pIf_f (Int32.not_lt.mpr h9)] | rw [pIf_f (Int32.not_le.mpr h9)] | rw [pIf_t (Int32.not_le.mp h9)] | rw [pIf_t (Int32.not_lt.mp h9)] | rw [pIf_f (Nat.not_lt.mpr h9)] | rw [pIf_f (Nat.not_le.mpr h9)] | rw [pIf_t (Nat.not_le.mp h9)] | rw [pIf_t (Nat.not_lt.mp h9)] | skip); (first | rw [pIf_t h20] | rw [pIf_f h20] | rw [pIf_f (Int32.not_lt.mpr h20)] | rw [pIf_f (Int32.not_le.mpr h20)] | rw [pIf_t (Int32.not_le.mp h20)] | rw [pIf_t (Int32.not_lt.mp h20)] | rw [pIf_f (Nat.not_lt.mpr h20)] | rw [pIf_f (Nat.not_le.mpr h20)] | rw [pIf_t (Nat.not_le.mp h20)] | rw [pIf_t (Nat.not_lt.mp h20)] | skip); (first | rw [pIf_t h31] | rw [pIf_f h31] | rw [pIf_f (Int32.not_lt.mpr h31)] | rw [pIf_f (Int32.not_le.mpr h31)] | rw [pIf_t (Int32.not_le.mp h31)] | rw [pIf_t (Int32.not_lt.mp h31)] | rw [pIf_f (Nat.not_lt.mpr h31)] | rw [pIf_f (Nat.not_le.mpr h31)] | rw [pIf_t (Nat.not_le.mp h31)] | rw [pIf_t (Nat.not_lt.mp h31)] | skip); (first | rw [pIf_t h43] | rw [pIf_f h43] | rw [pIf_f (Int32.not_lt.mpr h43)] | rw [pIf_f (Int32.not_le.mpr h43)] | rw [pIf_t (Int32.not_le.mp h43)] | rw [pIf_t (Int32.not_lt.mp h43)] | rw [pIf_f (Nat.not_lt.mpr h43)] | rw [pIf_f (Nat.not_le.mpr h43)] | rw [pIf_t (Nat.not_le.mp h43)] | rw [pIf_t (Nat.not_lt.mp h43)] | skip); (first | rw [pIf_t h56] | rw [pIf_f h56] | rw [pIf_f (Int32.not_lt.mpr h56)] | rw [pIf_f (Int32.not_le.mpr h56)] | rw [pIf_t (Int32.not_le.mp h56)] | rw [pIf_t (Int32.not_lt.mp h56)] | rw [pIf_f (Nat.not_lt.mpr h56)] | rw [pIf_f (Nat.not_le.mpr h56)] | rw [pIf_t (Nat.not_le.mp h56)] | rw [pIf_t (Nat.not_lt.mp h56)] | skip); exact ⟨j, by omega, hX, rfl, Or.inr (fun q => by first | exact h153 q.2.2 | exact h117 q.2.1 | exact q.1 h106)⟩⟩
                ·
                  refine aw_aload_n (i := 0) dX8_people_109 rfl rfl ?_
                  refine aw_iload (i := 7) dX8_people_110 rfl ?_
                  refine aw_iload (i := 8) dX8_people_112 rfl ?_
                  refine aw_cVi ck_X8_161 m_X8_isOne sh_105 rfl (by decide) (by decide) rfl rfl (Nat.le_of_ble_eq_true rfl) dX8_people_114 ?_
                  refine aw_ifeq_b (tgt := 156) dX8_people_117 (by decide) (fun h117 => ?_) (fun h117 => ?_)
                  ·
                    refine aw_iload (i := 5) dX8_people_156 rfl ?_
                    exact aw_iret rfl dX8_people_158 ⟨_, rfl, by unfold S8_people; rw [nI_clamp (show k < 2 ^ 31 from by omega), nI_clamp (show a < 2 ^ 31 from by omega), nI_clamp (show m < 2 ^ 31 from by omega)]; (first | rw [pIf_t h9] | rw [pIf_f h9] | rw [pIf_f (Int32.not_lt.mpr h9)] | rw [pIf_f (Int32.not_le.mpr h9)] | rw [pIf_t (Int32.not_le.mp h9)] | rw [pIf_t (Int32.not_lt.mp h9)] | rw [pIf_f (Nat.not_lt.mpr h9)] | rw [pIf_f (Nat.not_le.mpr h9)] | rw [pIf_t (Nat.not_le.mp h9)] | rw [pIf_t (Nat.not_lt.mp h9)] | skip); (first | rw [pIf_t h20] | rw [pIf_f h20] | rw [pIf_f (Int32.not_lt.mpr h20)] | rw [pIf_f (Int32.not_le.mpr h20)] | rw [pIf_t (Int32.not_le.mp h20)] | rw [pIf_t (Int32.not_lt.mp h20)] | rw [pIf_f (Nat.not_lt.mpr h20)] | rw [pIf_f (Nat.not_le.mpr h20)] | rw [pIf_t (Nat.not_le.mp h20)] | rw [pIf_t (Nat.not_lt.mp h20)] | skip); (first | rw [pIf_t h31] | rw [pIf_f h31] | rw [pIf_f (Int32.not_lt.mpr h31)] | rw [pIf_f (Int32.not_le.mpr h31)] | rw [pIf_t (Int32.not_le.mp h31)] | rw [pIf_t (Int32.not_lt.mp h31)] | rw [pIf_f (Nat.not_lt.mpr h31)] | rw [pIf_f (Nat.not_le.mpr h31)] | rw [pIf_t (Nat.not_le.mp h31)] | rw [pIf_t (Nat.not_lt.mp h31)] | skip); (first | rw [pIf_t h43] | rw [pIf_f h43] | rw [pIf_f (Int32.not_lt.mpr h43)] | rw [pIf_f (Int32.not_le.mpr h43)] | rw [pIf_t (Int32.not_le.mp h43)] | rw [pIf_t (Int32.not_lt.mp h43)] | rw [pIf_f (Nat.not_lt.mpr h43)] | rw [pIf_f (Nat.not_le.mpr h43)] | rw [pIf_t (Nat.not_le.mp h43)] | rw [pIf_t (Nat.not_lt.mp h43)] | skip); (first | rw [pIf_t h56] | rw [pIf_f h56] | rw [pIf_f (Int32.not_lt.mpr h56)] | rw [pIf_f (Int32.not_le.mpr h56)] | rw [pIf_t (Int32.not_le.mp h56)] | rw [pIf_t (Int32.not_lt.mp h56)] | rw [pIf_f (Nat.not_lt.mpr h56)] | rw [pIf_f (Nat.not_le.mpr h56)] | rw [pIf_t (Nat.not_le.mp h56)] | rw [pIf_t (Nat.not_lt.mp h56)] | skip); exact ⟨j, by omega, hX, rfl, Or.inr (fun q => by first | exact h153 q.2.2 | exact h117 q.2.1 | exact q.1 h106)⟩⟩
                  ·
                    refine aw_aload_n (i := 0) dX8_people_120 rfl rfl ?_
                    refine aw_iload (i := 8) dX8_people_121 rfl ?_
                    refine aw_aload_n (i := 0) dX8_people_123 rfl rfl ?_
                    refine aw_iload_n (i := 1) dX8_people_124 rfl rfl ?_
                    refine aw_iload (i := 6) dX8_people_125 rfl ?_
                    refine aw_iconst (v := 2) dX8_people_127 (by decide) ?_
                    refine aw_iadd dX8_people_128 ?_
                    refine aw_top (nI_a2 (a + j * 5)) ?_
                    refine aw_cVi ck_X8_176 (m_X8_intAt hk (by omega)) sh_105 rfl (by decide) (by decide) rfl rfl (Nat.le_of_ble_eq_true rfl) dX8_people_129 ?_
                    refine aw_aload_n (i := 0) dX8_people_132 rfl rfl ?_
                    refine aw_iload_n (i := 1) dX8_people_133 rfl rfl ?_
                    refine aw_iload (i := 6) dX8_people_134 rfl ?_
                    refine aw_iconst (v := 3) dX8_people_136 (by decide) ?_
                    refine aw_iadd dX8_people_137 ?_
                    refine aw_top (nI_a3 (a + j * 5)) ?_
                    refine aw_cVi ck_X8_176 (m_X8_intAt hk (by omega)) sh_105 rfl (by decide) (by decide) rfl rfl (Nat.le_of_ble_eq_true rfl) dX8_people_138 ?_
                    refine aw_aload_n (i := 0) dX8_people_141 rfl rfl ?_
                    refine aw_iload_n (i := 1) dX8_people_142 rfl rfl ?_
                    refine aw_iload (i := 6) dX8_people_143 rfl ?_
                    refine aw_iconst (v := 4) dX8_people_145 (by decide) ?_
                    refine aw_iadd dX8_people_146 ?_
                    refine aw_top (nI_a4 (a + j * 5)) ?_
                    refine aw_cVi ck_X8_176 (m_X8_intAt hk (by omega)) sh_105 rfl (by decide) (by decide) rfl rfl (Nat.le_of_ble_eq_true rfl) dX8_people_147 ?_
                    refine aw_cVi ck_X8_165 (m_X8_isSo c2 (by omega)) sh_105 rfl (by decide) (by decide) rfl rfl (Nat.le_of_ble_eq_true rfl) dX8_people_150 ?_
                    refine aw_ifne_b (tgt := 159) dX8_people_153 (by decide) (fun h153 => ?_) (fun h153 => ?_)
                    ·
                      refine aw_aload_n (i := 0) dX8_people_159 rfl rfl ?_
                      refine aw_iload (i := 7) dX8_people_160 rfl ?_
                      refine aw_iload (i := 8) dX8_people_162 rfl ?_
                      refine aw_aload_n (i := 0) dX8_people_164 rfl rfl ?_
                      refine aw_iload_n (i := 1) dX8_people_165 rfl rfl ?_
                      refine aw_iload (i := 6) dX8_people_166 rfl ?_
                      refine aw_iconst (v := 2) dX8_people_168 (by decide) ?_
                      refine aw_iadd dX8_people_169 ?_
                      refine aw_top (nI_a2 (a + j * 5)) ?_
                      refine aw_cVi ck_X8_176 (m_X8_intAt hk (by omega)) sh_105 rfl (by decide) (by decide) rfl rfl (Nat.le_of_ble_eq_true rfl) dX8_people_170 ?_
                      refine aw_aload_n (i := 0) dX8_people_173 rfl rfl ?_
                      refine aw_iload_n (i := 1) dX8_people_174 rfl rfl ?_
                      refine aw_iload (i := 6) dX8_people_175 rfl ?_
                      refine aw_iconst (v := 3) dX8_people_177 (by decide) ?_
                      refine aw_iadd dX8_people_178 ?_
                      refine aw_top (nI_a3 (a + j * 5)) ?_
                      refine aw_cVi ck_X8_176 (m_X8_intAt hk (by omega)) sh_105 rfl (by decide) (by decide) rfl rfl (Nat.le_of_ble_eq_true rfl) dX8_people_179 ?_
                      refine aw_aload_n (i := 0) dX8_people_182 rfl rfl ?_
                      refine aw_iload_n (i := 1) dX8_people_183 rfl rfl ?_
                      refine aw_iload (i := 6) dX8_people_184 rfl ?_
                      refine aw_iconst (v := 4) dX8_people_186 (by decide) ?_
                      refine aw_iadd dX8_people_187 ?_
                      refine aw_top (nI_a4 (a + j * 5)) ?_
                      refine aw_cVi ck_X8_176 (m_X8_intAt hk (by omega)) sh_105 rfl (by decide) (by decide) rfl rfl (Nat.le_of_ble_eq_true rfl) dX8_people_188 ?_
                      refine aw_cVv ck_X8_169 (m_X8_comes c2 (by omega)) sh_105 rfl (by decide) (by decide) rfl rfl (Nat.le_of_ble_eq_true rfl) dX8_people_191 ?_
                      refine aw_iincN (i := 5) dX8_people_194 rfl (by decide) ?_
                      refine aw_iincN5 (i := 6) dX8_people_197 rfl (by decide) ?_
                      refine aw_goto (tgt := 72) dX8_people_200 (by decide) ?_
                      refine aw_loc (la := [some (.ref 105), some (.int (nI k)), some (.int (nI a)), some (.int (nI m)), none, some (.int (nI (j + 1))), some (.int (nI (a + (j + 1) * 5))), none, none]) ⟨rfl, rfl, rfl, rfl, rfl, congrArg (fun q => some (Value.int (nI q))) (show a + j * 5 + 5 = a + (j + 1) * 5 from by omega), trivial⟩ ?_
                      exact ih (k9 - 1) (by omega) (j + 1) _ (by omega) ⟨X, hX, ⟨h106, h117, h153⟩, rfl⟩
                    ·
                      refine aw_iload (i := 5) dX8_people_156 rfl ?_
                      exact aw_iret rfl dX8_people_158 ⟨_, rfl, by unfold S8_people; rw [nI_clamp (show k < 2 ^ 31 from by omega), nI_clamp (show a < 2 ^ 31 from by omega), nI_clamp (show m < 2 ^ 31 from by omega)]; (first | rw [pIf_t h9] | rw [pIf_f h9] | rw [pIf_f (Int32.not_lt.mpr h9)] | rw [pIf_f (Int32.not_le.mpr h9)] | rw [pIf_t (Int32.not_le.mp h9)] | rw [pIf_t (Int32.not_lt.mp h9)] | rw [pIf_f (Nat.not_lt.mpr h9)] | rw [pIf_f (Nat.not_le.mpr h9)] | rw [pIf_t (Nat.not_le.mp h9)] | rw [pIf_t (Nat.not_lt.mp h9)] | skip); (first | rw [pIf_t h20] | rw [pIf_f h20] | rw [pIf_f (Int32.not_lt.mpr h20)] | rw [pIf_f (Int32.not_le.mpr h20)] | rw [pIf_t (Int32.not_le.mp h20)] | rw [pIf_t (Int32.not_lt.mp h20)] | rw [pIf_f (Nat.not_lt.mpr h20)] | rw [pIf_f (Nat.not_le.mpr h20)] | rw [pIf_t (Nat.not_le.mp h20)] | rw [pIf_t (Nat.not_lt.mp h20)] | skip); (first | rw [pIf_t h31] | rw [pIf_f h31] | rw [pIf_f (Int32.not_lt.mpr h31)] | rw [pIf_f (Int32.not_le.mpr h31)] | rw [pIf_t (Int32.not_le.mp h31)] | rw [pIf_t (Int32.not_lt.mp h31)] | rw [pIf_f (Nat.not_lt.mpr h31)] | rw [pIf_f (Nat.not_le.mpr h31)] | rw [pIf_t (Nat.not_le.mp h31)] | rw [pIf_t (Nat.not_lt.mp h31)] | skip); (first | rw [pIf_t h43] | rw [pIf_f h43] | rw [pIf_f (Int32.not_lt.mpr h43)] | rw [pIf_f (Int32.not_le.mpr h43)] | rw [pIf_t (Int32.not_le.mp h43)] | rw [pIf_t (Int32.not_lt.mp h43)] | rw [pIf_f (Nat.not_lt.mpr h43)] | rw [pIf_f (Nat.not_le.mpr h43)] | rw [pIf_t (Nat.not_le.mp h43)] | rw [pIf_t (Nat.not_lt.mp h43)] | skip); (first | rw [pIf_t h56] | rw [pIf_f h56] | rw [pIf_f (Int32.not_lt.mpr h56)] | rw [pIf_f (Int32.not_le.mpr h56)] | rw [pIf_t (Int32.not_le.mp h56)] | rw [pIf_t (Int32.not_lt.mp h56)] | rw [pIf_f (Nat.not_lt.mpr h56)] | rw [pIf_f (Nat.not_le.mpr h56)] | rw [pIf_t (Nat.not_le.mp h56)] | rw [pIf_t (Nat.not_lt.mp h56)] | skip); exact ⟨j, by omega, hX, rfl, Or.inr (fun q => by first | exact h153 q.2.2 | exact h117 q.2.1 | exact q.1 h106)⟩⟩
            refine aw_loc (la := [some (.ref 105), some (.int (nI k)), some (.int (nI a)), some (.int (nI m)), none, some (.int (nI 0)), some (.int (nI (a + 0 * 5))), none, none]) ⟨rfl, rfl, rfl, rfl, rfl, rfl, trivial⟩ ?_
            exact lp72 (m / 5) 0 M (by omega) rfl
          ·
            refine aw_aload_n (i := 0) dX8_people_59 rfl rfl ?_
            refine aw_bipush (v := (-6)) dX8_people_60 (by decide) ?_
            refine aw_cVi ck_X8_142 (m_X8_no (k := 6) (by decide) (by decide)) sh_105 rfl (by decide) (by decide) rfl rfl (Nat.le_of_ble_eq_true rfl) dX8_people_62 ?_
            exact aw_iret rfl dX8_people_65 ⟨_, rfl, by unfold S8_people; (try rw [nI_clamp (show k < 2 ^ 31 from by omega)]); (first | rw [pIf_t h9] | rw [pIf_f h9] | rw [pIf_f (Int32.not_lt.mpr h9)] | rw [pIf_f (Int32.not_le.mpr h9)] | rw [pIf_t (Int32.not_le.mp h9)] | rw [pIf_t (Int32.not_lt.mp h9)] | rw [pIf_f (Nat.not_lt.mpr h9)] | rw [pIf_f (Nat.not_le.mpr h9)] | rw [pIf_t (Nat.not_le.mp h9)] | rw [pIf_t (Nat.not_lt.mp h9)] | skip); (first | rw [pIf_t h20] | rw [pIf_f h20] | rw [pIf_f (Int32.not_lt.mpr h20)] | rw [pIf_f (Int32.not_le.mpr h20)] | rw [pIf_t (Int32.not_le.mp h20)] | rw [pIf_t (Int32.not_lt.mp h20)] | rw [pIf_f (Nat.not_lt.mpr h20)] | rw [pIf_f (Nat.not_le.mpr h20)] | rw [pIf_t (Nat.not_le.mp h20)] | rw [pIf_t (Nat.not_lt.mp h20)] | skip); (first | rw [pIf_t h31] | rw [pIf_f h31] | rw [pIf_f (Int32.not_lt.mpr h31)] | rw [pIf_f (Int32.not_le.mpr h31)] | rw [pIf_t (Int32.not_le.mp h31)] | rw [pIf_t (Int32.not_lt.mp h31)] | rw [pIf_f (Nat.not_lt.mpr h31)] | rw [pIf_f (Nat.not_le.mpr h31)] | rw [pIf_t (Nat.not_le.mp h31)] | rw [pIf_t (Nat.not_lt.mp h31)] | skip); (first | rw [pIf_t h43] | rw [pIf_f h43] | rw [pIf_f (Int32.not_lt.mpr h43)] | rw [pIf_f (Int32.not_le.mpr h43)] | rw [pIf_t (Int32.not_le.mp h43)] | rw [pIf_t (Int32.not_lt.mp h43)] | rw [pIf_f (Nat.not_lt.mpr h43)] | rw [pIf_f (Nat.not_le.mpr h43)] | rw [pIf_t (Nat.not_le.mp h43)] | rw [pIf_t (Nat.not_lt.mp h43)] | skip); (first | rw [pIf_t h56] | rw [pIf_f h56] | rw [pIf_f (Int32.not_lt.mpr h56)] | rw [pIf_f (Int32.not_le.mpr h56)] | rw [pIf_t (Int32.not_le.mp h56)] | rw [pIf_t (Int32.not_lt.mp h56)] | rw [pIf_f (Nat.not_lt.mpr h56)] | rw [pIf_f (Nat.not_le.mpr h56)] | rw [pIf_t (Nat.not_le.mp h56)] | rw [pIf_t (Nat.not_lt.mp h56)] | skip); exact ⟨rfl, rfl⟩⟩
        ·
          refine aw_aload_n (i := 0) dX8_people_46 rfl rfl ?_
          refine aw_bipush (v := (-5)) dX8_people_47 (by decide) ?_
          refine aw_cVi ck_X8_142 (m_X8_no (k := 5) (by decide) (by decide)) sh_105 rfl (by decide) (by decide) rfl rfl (Nat.le_of_ble_eq_true rfl) dX8_people_49 ?_
          exact aw_iret rfl dX8_people_52 ⟨_, rfl, by unfold S8_people; (try rw [nI_clamp (show k < 2 ^ 31 from by omega)]); (first | rw [pIf_t h9] | rw [pIf_f h9] | rw [pIf_f (Int32.not_lt.mpr h9)] | rw [pIf_f (Int32.not_le.mpr h9)] | rw [pIf_t (Int32.not_le.mp h9)] | rw [pIf_t (Int32.not_lt.mp h9)] | rw [pIf_f (Nat.not_lt.mpr h9)] | rw [pIf_f (Nat.not_le.mpr h9)] | rw [pIf_t (Nat.not_le.mp h9)] | rw [pIf_t (Nat.not_lt.mp h9)] | skip); (first | rw [pIf_t h20] | rw [pIf_f h20] | rw [pIf_f (Int32.not_lt.mpr h20)] | rw [pIf_f (Int32.not_le.mpr h20)] | rw [pIf_t (Int32.not_le.mp h20)] | rw [pIf_t (Int32.not_lt.mp h20)] | rw [pIf_f (Nat.not_lt.mpr h20)] | rw [pIf_f (Nat.not_le.mpr h20)] | rw [pIf_t (Nat.not_le.mp h20)] | rw [pIf_t (Nat.not_lt.mp h20)] | skip); (first | rw [pIf_t h31] | rw [pIf_f h31] | rw [pIf_f (Int32.not_lt.mpr h31)] | rw [pIf_f (Int32.not_le.mpr h31)] | rw [pIf_t (Int32.not_le.mp h31)] | rw [pIf_t (Int32.not_lt.mp h31)] | rw [pIf_f (Nat.not_lt.mpr h31)] | rw [pIf_f (Nat.not_le.mpr h31)] | rw [pIf_t (Nat.not_le.mp h31)] | rw [pIf_t (Nat.not_lt.mp h31)] | skip); (first | rw [pIf_t h43] | rw [pIf_f h43] | rw [pIf_f (Int32.not_lt.mpr h43)] | rw [pIf_f (Int32.not_le.mpr h43)] | rw [pIf_t (Int32.not_le.mp h43)] | rw [pIf_t (Int32.not_lt.mp h43)] | rw [pIf_f (Nat.not_lt.mpr h43)] | rw [pIf_f (Nat.not_le.mpr h43)] | rw [pIf_t (Nat.not_le.mp h43)] | rw [pIf_t (Nat.not_lt.mp h43)] | skip); exact ⟨rfl, rfl⟩⟩
    ·
      refine aw_aload_n (i := 0) dX8_people_23 rfl rfl ?_
      refine aw_bipush (v := (-4)) dX8_people_24 (by decide) ?_
      refine aw_cVi ck_X8_142 (m_X8_no (k := 4) (by decide) (by decide)) sh_105 rfl (by decide) (by decide) rfl rfl (Nat.le_of_ble_eq_true rfl) dX8_people_26 ?_
      exact aw_iret rfl dX8_people_29 ⟨_, rfl, by unfold S8_people; (try rw [nI_clamp (show k < 2 ^ 31 from by omega)]); (first | rw [pIf_t h9] | rw [pIf_f h9] | rw [pIf_f (Int32.not_lt.mpr h9)] | rw [pIf_f (Int32.not_le.mpr h9)] | rw [pIf_t (Int32.not_le.mp h9)] | rw [pIf_t (Int32.not_lt.mp h9)] | rw [pIf_f (Nat.not_lt.mpr h9)] | rw [pIf_f (Nat.not_le.mpr h9)] | rw [pIf_t (Nat.not_le.mp h9)] | rw [pIf_t (Nat.not_lt.mp h9)] | skip); (first | rw [pIf_t h20] | rw [pIf_f h20] | rw [pIf_f (Int32.not_lt.mpr h20)] | rw [pIf_f (Int32.not_le.mpr h20)] | rw [pIf_t (Int32.not_le.mp h20)] | rw [pIf_t (Int32.not_lt.mp h20)] | rw [pIf_f (Nat.not_lt.mpr h20)] | rw [pIf_f (Nat.not_le.mpr h20)] | rw [pIf_t (Nat.not_le.mp h20)] | rw [pIf_t (Nat.not_lt.mp h20)] | skip); exact ⟨rfl, rfl⟩⟩
  ·
    have hno := wan_ok h9
    refine aw_aload_n (i := 0) dX8_people_12 rfl rfl ?_
    refine aw_iload (i := 4) dX8_people_13 rfl ?_
    refine aw_cVi ck_X8_142 (m_X8_noA hno) sh_105 rfl (by decide) (by decide) rfl rfl (Nat.le_of_ble_eq_true rfl) dX8_people_15 ?_
    exact aw_iret rfl dX8_people_18 ⟨_, rfl, by unfold S8_people; (try rw [nI_clamp (show k < 2 ^ 31 from by omega)]); (first | rw [pIf_t h9] | rw [pIf_f h9] | rw [pIf_f (Int32.not_lt.mpr h9)] | rw [pIf_f (Int32.not_le.mpr h9)] | rw [pIf_t (Int32.not_le.mp h9)] | rw [pIf_t (Int32.not_lt.mp h9)] | rw [pIf_f (Nat.not_lt.mpr h9)] | rw [pIf_f (Nat.not_le.mpr h9)] | rw [pIf_t (Nat.not_le.mp h9)] | rw [pIf_t (Nat.not_lt.mp h9)] | skip); exact ⟨rfl, rfl⟩⟩
