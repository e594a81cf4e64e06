/-- one of a kind, at a seat, so made may come -/
def okNew (k s l p a : Int32) : Prop := (¬ k < 0 ∧ ¬ 7 ≤ k) ∧ (¬ s < 0 ∧ ¬ 48 ≤ s) ∧ (¬ l < 0 ∧ ¬ 99 < l) ∧ (¬ p < 1 ∧ ¬ 9 < p) ∧ (¬ a < 0 ∧ ¬ 99 < a)
def admV (j : Nat) (k s l p a : Int32) : Int32 := match j with
  | 0 => k
  | 1 => s
  | 2 => l
  | 3 => p
  | 4 => a
  | _ => 0
/-- behind the taking in of one -/
def admQ (c n : Nat) (k s l p a : Int32) (M M' : Mm) : Prop := Same (fun q => q = c ∨ (c + 2 ≤ q ∧ q < c + 12)) M M' ∧ (∀ j, j ≠ 11 → M'.1 c j = M.1 c j) ∧ M'.1 c 11 = nI (n + 1) ∧ ∀ t, t < 10 → M'.1 (c + 2 + t) = upd (M.1 (c + 2 + t)) n (admV t k s l p a)
theorem m_X1_mayCome {l : Launch} {M : Mm} {c : Nat} {k s lk pc at9 : Int32} (hc : isC c) {n : Nat} (hn : M.1 c 11 = nI n) (hn30 : n ≤ 30) : AMet l 2 yX1_mayCome cX1_mayCome 6 (some FieldType.boolean) [.ref c, .int k, .int s, .int lk, .int pc, .int at9] M (QE (some (.int (b01 (okNew k s lk pc at9 ∧ ¬ (∃ i, i < n ∧ M.1 (c + 3) i = s))))) M) := by
  refine AMet.of (by decide) (by simp [aargs, Value.category]) ?_
  show AW l 2 yX1_mayCome cX1_mayCome 6 (some FieldType.boolean) 0 [some (.ref c), some (.int k), some (.int s), some (.int lk), some (.int pc), some (.int at9)] [] M _
  refine aw_iload_n (i := 1) dX1_mayCome_0 rfl rfl ?_
  refine aw_cSi ck_X1_79 m_X7_isKind (by decide) (by decide) rfl rfl (Nat.le_of_ble_eq_true rfl) dX1_mayCome_1 ?_
  refine aw_ifeq_b (tgt := 58) dX1_mayCome_4 (by decide) (fun h4 => ?_) (fun h4 => ?_)
  ·
    refine aw_iconst (v := 0) dX1_mayCome_58 (by decide) ?_
    exact aw_zret rfl (by simp) dX1_mayCome_59 ⟨by rw [b01_f (by unfold okNew; intro q; first | exact absurd q.1.1 (by assumption) | exact absurd q.1.2.1 (by assumption) | exact absurd q.1.2.2.1 (by assumption) | exact absurd q.1.2.2.2.1 (by assumption) | exact absurd q.1.2.2.2.2 (by assumption) | exact absurd (by assumption) q.2)], rfl⟩
  ·
    refine aw_iload_n (i := 2) dX1_mayCome_7 rfl rfl ?_
    refine aw_cSi ck_X1_83 m_X7_isSeat (by decide) (by decide) rfl rfl (Nat.le_of_ble_eq_true rfl) dX1_mayCome_8 ?_
    refine aw_ifeq_b (tgt := 58) dX1_mayCome_11 (by decide) (fun h11 => ?_) (fun h11 => ?_)
    ·
      refine aw_iconst (v := 0) dX1_mayCome_58 (by decide) ?_
      exact aw_zret rfl (by simp) dX1_mayCome_59 ⟨by rw [b01_f (by unfold okNew; intro q; first | exact absurd q.1.1 (by assumption) | exact absurd q.1.2.1 (by assumption) | exact absurd q.1.2.2.1 (by assumption) | exact absurd q.1.2.2.2.1 (by assumption) | exact absurd q.1.2.2.2.2 (by assumption) | exact absurd (by assumption) q.2)], rfl⟩
    ·
      refine aw_iload_n (i := 3) dX1_mayCome_14 rfl rfl ?_
      refine aw_iconst (v := 0) dX1_mayCome_15 (by decide) ?_
      refine aw_bipush (v := 99) dX1_mayCome_16 (by decide) ?_
      refine aw_cSi ck_X1_86 m_X7_isWithin (by decide) (by decide) rfl rfl (Nat.le_of_ble_eq_true rfl) dX1_mayCome_18 ?_
      refine aw_ifeq_b (tgt := 58) dX1_mayCome_21 (by decide) (fun h21 => ?_) (fun h21 => ?_)
      ·
        refine aw_iconst (v := 0) dX1_mayCome_58 (by decide) ?_
        exact aw_zret rfl (by simp) dX1_mayCome_59 ⟨by rw [b01_f (by unfold okNew; intro q; first | exact absurd q.1.1 (by assumption) | exact absurd q.1.2.1 (by assumption) | exact absurd q.1.2.2.1 (by assumption) | exact absurd q.1.2.2.2.1 (by assumption) | exact absurd q.1.2.2.2.2 (by assumption) | exact absurd (by assumption) q.2)], rfl⟩
      ·
        refine aw_iload (i := 4) dX1_mayCome_24 rfl ?_
        refine aw_iconst (v := 1) dX1_mayCome_26 (by decide) ?_
        refine aw_bipush (v := 9) dX1_mayCome_27 (by decide) ?_
        refine aw_cSi ck_X1_86 m_X7_isWithin (by decide) (by decide) rfl rfl (Nat.le_of_ble_eq_true rfl) dX1_mayCome_29 ?_
        refine aw_ifeq_b (tgt := 58) dX1_mayCome_32 (by decide) (fun h32 => ?_) (fun h32 => ?_)
        ·
          refine aw_iconst (v := 0) dX1_mayCome_58 (by decide) ?_
          exact aw_zret rfl (by simp) dX1_mayCome_59 ⟨by rw [b01_f (by unfold okNew; intro q; first | exact absurd q.1.1 (by assumption) | exact absurd q.1.2.1 (by assumption) | exact absurd q.1.2.2.1 (by assumption) | exact absurd q.1.2.2.2.1 (by assumption) | exact absurd q.1.2.2.2.2 (by assumption) | exact absurd (by assumption) q.2)], rfl⟩
        ·
          refine aw_iload (i := 5) dX1_mayCome_35 rfl ?_
          refine aw_iconst (v := 0) dX1_mayCome_37 (by decide) ?_
          refine aw_bipush (v := 99) dX1_mayCome_38 (by decide) ?_
          refine aw_cSi ck_X1_86 m_X7_isWithin (by decide) (by decide) rfl rfl (Nat.le_of_ble_eq_true rfl) dX1_mayCome_40 ?_
          refine aw_ifeq_b (tgt := 58) dX1_mayCome_43 (by decide) (fun h43 => ?_) (fun h43 => ?_)
          ·
            refine aw_iconst (v := 0) dX1_mayCome_58 (by decide) ?_
            exact aw_zret rfl (by simp) dX1_mayCome_59 ⟨by rw [b01_f (by unfold okNew; intro q; first | exact absurd q.1.1 (by assumption) | exact absurd q.1.2.1 (by assumption) | exact absurd q.1.2.2.1 (by assumption) | exact absurd q.1.2.2.2.1 (by assumption) | exact absurd q.1.2.2.2.2 (by assumption) | exact absurd (by assumption) q.2)], rfl⟩
          ·
            refine aw_aload_n (i := 0) dX1_mayCome_46 rfl rfl ?_
            refine aw_iload_n (i := 2) dX1_mayCome_47 rfl rfl ?_
            refine aw_cVi ck_X1_90 (m_X1_isTaken hc hn hn30) (shC hc) rfl (by decide) (by decide) rfl rfl (Nat.le_of_ble_eq_true rfl) dX1_mayCome_48 ?_
            refine aw_ifne_b (tgt := 58) dX1_mayCome_51 (by decide) (fun h51 => ?_) (fun h51 => ?_)
            ·
              refine aw_iconst (v := 0) dX1_mayCome_58 (by decide) ?_
              exact aw_zret rfl (by simp) dX1_mayCome_59 ⟨by rw [b01_f (by unfold okNew; intro q; first | exact absurd q.1.1 (by assumption) | exact absurd q.1.2.1 (by assumption) | exact absurd q.1.2.2.1 (by assumption) | exact absurd q.1.2.2.2.1 (by assumption) | exact absurd q.1.2.2.2.2 (by assumption) | exact absurd (by assumption) q.2)], rfl⟩
            ·
              refine aw_iconst (v := 1) dX1_mayCome_54 (by decide) ?_
              refine aw_goto (tgt := 59) dX1_mayCome_55 (by decide) ?_
              exact aw_zret rfl (by simp) dX1_mayCome_59 ⟨by rw [b01_t (by unfold okNew; exact ⟨⟨by assumption, by assumption, by assumption, by assumption, by assumption⟩, by assumption⟩)], rfl⟩
/-- the first i traits of number n are 0 -/
def adm0 (c n i : Nat) (M M' : Mm) : Prop := Same (fun q => c + 2 ≤ q ∧ q < c + 12) M M' ∧ ∀ t, t < 10 → M'.1 (c + 2 + t) = if t < i then upd (M.1 (c + 2 + t)) n 0 else M.1 (c + 2 + t)
theorem adm0_step {c n i : Nat} {M M' : Mm} (h : adm0 c n i M M') (hi : i < 10) : adm0 c n (i + 1) M (mI M' (c + 2 + i) n 0) := by
  refine ⟨h.1.mI (by constructor <;> omega), fun t ht => ?_⟩
  by_cases e : t = i
  · subst e
    rw [mI_self, h.2 t ht, if_neg (by omega), if_pos (by omega)]
  · rw [mI_other (by omega), h.2 t ht]
    by_cases q : t < i
    · rw [if_pos q, if_pos (by omega)]
    · rw [if_neg q, if_neg (by omega)]
theorem adm0_end {c n : Nat} {M M' : Mm} {k s l p a : Int32} (h : adm0 c n 10 M M') : admQ c n k s l p a M (mI (mI (mI (mI (mI (mI M' (c + 2) n k) (c + 3) n s) (c + 4) n l) (c + 5) n p) (c + 6) n a) c 11 (nI (n + 1))) := by
  refine ⟨?_, fun j hj => ?_, ?_, fun t ht => ?_⟩
  · refine (((((((h.1.mono (fun k q => Or.inr q)).mI ?_).mI ?_).mI ?_).mI ?_).mI ?_).mI ?_)
    · exact Or.inr ⟨by omega, by omega⟩
    · exact Or.inr ⟨by omega, by omega⟩
    · exact Or.inr ⟨by omega, by omega⟩
    · exact Or.inr ⟨by omega, by omega⟩
    · exact Or.inr ⟨by omega, by omega⟩
    · exact Or.inl rfl
  · rw [mI_self, upd_other hj, mI_other (by omega), mI_other (by omega), mI_other (by omega), mI_other (by omega), mI_other (by omega), h.1.2 c (by omega)]
  · rw [mI_self, upd_self]
  · have e := h.2 t ht
    rw [if_pos ht] at e
    rw [mI_other (by omega)]
    match t, ht with
    | 0, _ => rw [show c + 2 + 0 = c + 2 from rfl, mI_other (by omega), mI_other (by omega), mI_other (by omega), mI_other (by omega), mI_self]; rw [show c + 2 + 0 = c + 2 from rfl] at e; rw [e, upd_upd]; rfl
    | 1, _ => rw [show c + 2 + 1 = c + 3 from rfl, mI_other (by omega), mI_other (by omega), mI_other (by omega), mI_self, mI_other (by omega)]; rw [show c + 2 + 1 = c + 3 from rfl] at e; rw [e, upd_upd]; rfl
    | 2, _ => rw [show c + 2 + 2 = c + 4 from rfl, mI_other (by omega), mI_other (by omega), mI_self, mI_other (by omega), mI_other (by omega)]; rw [show c + 2 + 2 = c + 4 from rfl] at e; rw [e, upd_upd]; rfl
    | 3, _ => rw [show c + 2 + 3 = c + 5 from rfl, mI_other (by omega), mI_self, mI_other (by omega), mI_other (by omega), mI_other (by omega)]; rw [show c + 2 + 3 = c + 5 from rfl] at e; rw [e, upd_upd]; rfl
    | 4, _ => rw [show c + 2 + 4 = c + 6 from rfl, mI_self, mI_other (by omega), mI_other (by omega), mI_other (by omega), mI_other (by omega)]; rw [show c + 2 + 4 = c + 6 from rfl] at e; rw [e, upd_upd]; rfl
    | 5, _ | 6, _ | 7, _ | 8, _ | 9, _ => rw [mI_other (by omega), mI_other (by omega), mI_other (by omega), mI_other (by omega), mI_other (by omega)]; exact e
theorem m_X1_admit {l : Launch} {M : Mm} {c : Nat} {k s lk pc at9 : Int32} (hc : isC c) {n : Nat} (hn : M.1 c 11 = nI n) (hn30 : n < 30) : AMet l 2 yX1_admit cX1_admit 7 (some FieldType.int) [.ref c, .int k, .int s, .int lk, .int pc, .int at9] M (fun r M9 => r = some (.int (nI n)) ∧ admQ c n k s lk pc at9 M M9) := by
  refine AMet.of (by decide) (by simp [aargs, Value.category]) ?_
  show AW l 2 yX1_admit cX1_admit 7 (some FieldType.int) 0 [some (.ref c), some (.int k), some (.int s), some (.int lk), some (.int pc), some (.int at9), none] [] M _
  refine aw_aload_n (i := 0) dX1_admit_0 rfl rfl ?_
  refine aw_getN (n := n) gf_X1_47 (shC hc) rfl (by first | exact hn | exact eC | (repeat (rw [mI_other (by omega)])); exact eC) dX1_admit_1 ?_
  refine aw_bipush (v := 30) dX1_admit_4 (by decide) ?_
  refine aw_top (show (30 : Int32) = nI 30 from rfl) ?_
  refine aw_icmp_ltN (tgt := 11) (by omega) (by omega) dX1_admit_6 (by decide) (fun h6 => ?_) (fun h6 => ?_)
  ·
    refine aw_iconst (v := 0) dX1_admit_11 (by decide) ?_
    refine aw_istore (i := 6) dX1_admit_12 (by decide) ?_
    have lp14 : ∀ k9 i, i + k9 = 10 → ∀ M' : Mm, adm0 c n i M M' → AW l 2 yX1_admit cX1_admit 7 (some FieldType.int) 14 [some (.ref c), some (.int k), some (.int s), some (.int lk), some (.int pc), some (.int at9), some (.int (nI i))] [] M' (fun r M9 => r = some (.int (nI n)) ∧ admQ c n k s lk pc at9 M M9) := by
      intro k9
      induction k9 using Nat.strongRecOn with
      | _ k9 ih =>
      intro i hk M' hQ
      have eC : M'.1 c 11 = nI n := by rw [hQ.1.2 c (by omega)]; exact hn
      refine aw_iload (i := 6) dX1_admit_14 rfl ?_
      refine aw_bipush (v := 10) dX1_admit_16 (by decide) ?_
      refine aw_top (show (10 : Int32) = nI 10 from rfl) ?_
      refine aw_icmp_geN (tgt := 40) (by omega) (by omega) dX1_admit_18 (by decide) (fun h18 => ?_) (fun h18 => ?_)
      ·
        refine aw_aload_n (i := 0) dX1_admit_40 rfl rfl ?_
        refine aw_getR gf_X1_16 (shC hc) rfl dX1_admit_41 ?_
        refine aw_aload_n (i := 0) dX1_admit_44 rfl rfl ?_
        refine aw_getN (n := n) gf_X1_47 (shC hc) rfl (by first | exact hn | exact eC | (repeat (rw [mI_other (by omega)])); exact eC) dX1_admit_45 ?_
        refine aw_iload_n (i := 1) dX1_admit_48 rfl rfl ?_
        refine aw_iastN (shC_2 hc) (by omega) (by omega) dX1_admit_49 ?_
        refine aw_aload_n (i := 0) dX1_admit_50 rfl rfl ?_
        refine aw_getR gf_X1_20 (shC hc) rfl dX1_admit_51 ?_
        refine aw_aload_n (i := 0) dX1_admit_54 rfl rfl ?_
        refine aw_getN (n := n) gf_X1_47 (shC hc) rfl (by first | exact hn | exact eC | (repeat (rw [mI_other (by omega)])); exact eC) dX1_admit_55 ?_
        refine aw_iload_n (i := 2) dX1_admit_58 rfl rfl ?_
        refine aw_iastN (shC_3 hc) (by omega) (by omega) dX1_admit_59 ?_
        refine aw_aload_n (i := 0) dX1_admit_60 rfl rfl ?_
        refine aw_getR gf_X1_23 (shC hc) rfl dX1_admit_61 ?_
        refine aw_aload_n (i := 0) dX1_admit_64 rfl rfl ?_
        refine aw_getN (n := n) gf_X1_47 (shC hc) rfl (by first | exact hn | exact eC | (repeat (rw [mI_other (by omega)])); exact eC) dX1_admit_65 ?_
        refine aw_iload_n (i := 3) dX1_admit_68 rfl rfl ?_
        refine aw_iastN (shC_4 hc) (by omega) (by omega) dX1_admit_69 ?_
        refine aw_aload_n (i := 0) dX1_admit_70 rfl rfl ?_
        refine aw_getR gf_X1_26 (shC hc) rfl dX1_admit_71 ?_
        refine aw_aload_n (i := 0) dX1_admit_74 rfl rfl ?_
        refine aw_getN (n := n) gf_X1_47 (shC hc) rfl (by first | exact hn | exact eC | (repeat (rw [mI_other (by omega)])); exact eC) dX1_admit_75 ?_
        refine aw_iload (i := 4) dX1_admit_78 rfl ?_
        refine aw_iastN (shC_5 hc) (by omega) (by omega) dX1_admit_80 ?_
        refine aw_aload_n (i := 0) dX1_admit_81 rfl rfl ?_
        refine aw_getR gf_X1_29 (shC hc) rfl dX1_admit_82 ?_
        refine aw_aload_n (i := 0) dX1_admit_85 rfl rfl ?_
        refine aw_getN (n := n) gf_X1_47 (shC hc) rfl (by first | exact hn | exact eC | (repeat (rw [mI_other (by omega)])); exact eC) dX1_admit_86 ?_
        refine aw_iload (i := 5) dX1_admit_89 rfl ?_
        refine aw_iastN (shC_6 hc) (by omega) (by omega) dX1_admit_91 ?_
        refine aw_aload_n (i := 0) dX1_admit_92 rfl rfl ?_
        refine aw_dup dX1_admit_93 rfl ?_
        refine aw_getN (n := n) gf_X1_47 (shC hc) rfl (by first | exact hn | exact eC | (repeat (rw [mI_other (by omega)])); exact eC) dX1_admit_94 ?_
        refine aw_iconst (v := 1) dX1_admit_97 (by decide) ?_
        refine aw_iadd dX1_admit_98 ?_
        refine aw_top ((nI_succ n).symm) ?_
        refine aw_putI pf_X1_47 (shC hc) rfl dX1_admit_99 ?_
        refine aw_aload_n (i := 0) dX1_admit_102 rfl rfl ?_
        refine aw_getN (n := (n + 1)) gf_X1_47 (shC hc) rfl (by rw [mI_self, upd_self]) dX1_admit_103 ?_
        refine aw_iconst (v := 1) dX1_admit_106 (by decide) ?_
        refine aw_isub dX1_admit_107 ?_
        refine aw_top (nI_pred n) ?_
        exact aw_iret rfl dX1_admit_108 ⟨rfl, by rw [show i = 10 by omega] at hQ; exact adm0_end hQ⟩
      ·
        refine aw_aload_n (i := 0) dX1_admit_21 rfl rfl ?_
        refine aw_getR gf_X1_11 (shC hc) rfl dX1_admit_22 ?_
        refine aw_iload (i := 6) dX1_admit_25 rfl ?_
        refine aw_aaldN (t := 0) (shC_1 hc) (by decide) (by omega) (by decide) dX1_admit_27 ?_
        refine aw_aload_n (i := 0) dX1_admit_28 rfl rfl ?_
        refine aw_getN (n := n) gf_X1_47 (shC hc) rfl (by first | exact hn | exact eC | (repeat (rw [mI_other (by omega)])); exact eC) dX1_admit_29 ?_
        refine aw_iconst (v := 0) dX1_admit_32 (by decide) ?_
        refine aw_iastN (shC_r hc i (by omega)) (by omega) (by omega) dX1_admit_33 ?_
        refine aw_iincN (i := 6) dX1_admit_34 rfl (by decide) ?_
        refine aw_goto (tgt := 14) dX1_admit_37 (by decide) ?_
        exact ih (k9 - 1) (by omega) (i + 1) (by omega) _ (adm0_step hQ (by omega))
    refine aw_loc (la := [some (.ref c), some (.int k), some (.int s), some (.int lk), some (.int pc), some (.int at9), some (.int (nI 0))]) ⟨rfl, rfl, rfl, rfl, rfl, rfl, rfl, trivial⟩ ?_
    exact lp14 10 0 (by omega) M ⟨Same.rf, fun t ht => by rw [if_neg (by omega)]⟩
  ·
    exact absurd h6 (by omega)
theorem m_X1_mostOf {l : Launch} {M : Mm} {c p : Nat} {t : Int32} (hc : isC c) (hp : p < 30) (ht : t = 2 ∨ t = 3 ∨ t = 4 ∨ t = 5) : AMet l 1 yX1_mostOf cX1_mostOf 3 (some FieldType.int) [.ref c, .int (nI p), .int t] M (QE (some (.int (if t = 3 then 9 else if t = 5 then M.1 (c + 5) p - 1 else 99))) M) := by
  refine AMet.of (by decide) (by simp [aargs, Value.category]) ?_
  show AW l 1 yX1_mostOf cX1_mostOf 3 (some FieldType.int) 0 [some (.ref c), some (.int (nI p)), some (.int t)] [] M _
  refine aw_iload_n (i := 2) dX1_mostOf_0 rfl rfl ?_
  rcases ht with rfl | rfl | rfl | rfl
  ·
    refine aw_lookup (off := 39) (tgt := 40) dX1_mostOf_1 (by decide) (by decide) (by decide) ?_
    refine aw_bipush (v := 99) dX1_mostOf_40 (by decide) ?_
    exact aw_iret rfl dX1_mostOf_42 ⟨rfl, rfl⟩
  ·
    refine aw_lookup (off := 27) (tgt := 28) dX1_mostOf_1 (by decide) (by decide) (by decide) ?_
    refine aw_bipush (v := 9) dX1_mostOf_28 (by decide) ?_
    exact aw_iret rfl dX1_mostOf_30 ⟨rfl, rfl⟩
  ·
    refine aw_lookup (off := 39) (tgt := 40) dX1_mostOf_1 (by decide) (by decide) (by decide) ?_
    refine aw_bipush (v := 99) dX1_mostOf_40 (by decide) ?_
    exact aw_iret rfl dX1_mostOf_42 ⟨rfl, rfl⟩
  ·
    refine aw_lookup (off := 30) (tgt := 31) dX1_mostOf_1 (by decide) (by decide) (by decide) ?_
    refine aw_aload_n (i := 0) dX1_mostOf_31 rfl rfl ?_
    refine aw_getR gf_X1_26 (shC hc) rfl dX1_mostOf_32 ?_
    refine aw_iload_n (i := 1) dX1_mostOf_35 rfl rfl ?_
    refine aw_ialdN (shC_5 hc) (by omega) (by omega) dX1_mostOf_36 ?_
    refine aw_iconst (v := 1) dX1_mostOf_37 (by decide) ?_
    refine aw_isub dX1_mostOf_38 ?_
    exact aw_iret rfl dX1_mostOf_39 ⟨rfl, rfl⟩
def nxtS (s : Int32) : Int32 := s * 1103515245 + 12345
def drawV (s n : Int32) : Int32 := modI (((nxtS s).toUInt32 >>> ((16 : Int32).toUInt32 &&& Int32.toUInt32 31)).toInt32) n
theorem m_X1_draw {l : Launch} {M : Mm} {c : Nat} {v : Int32} (hc : isC c) : AMet l 2 yX1_draw cX1_draw 2 (some FieldType.int) [.ref c, .int v] M (QE (some (.int (modI (((nxtS (M.1 c 13)).toUInt32 >>> ((16 : Int32).toUInt32 &&& Int32.toUInt32 31)).toInt32) v))) (mI M c 13 (nxtS (M.1 c 13)))) := by
  refine AMet.of (by decide) (by simp [aargs, Value.category]) ?_
  show AW l 2 yX1_draw cX1_draw 2 (some FieldType.int) 0 [some (.ref c), some (.int v)] [] M _
  refine aw_aload_n (i := 0) dX1_draw_0 rfl rfl ?_
  refine aw_aload_n (i := 0) dX1_draw_1 rfl rfl ?_
  refine aw_getI gf_X1_54 (shC hc) rfl dX1_draw_2 ?_
  refine aw_ldc (v := 1103515245) (List.mem_append_right _ (List.mem_of_getElem? (i := 636) (by decide +kernel))) dX1_draw_5 ?_
  refine aw_imul dX1_draw_7 ?_
  refine aw_sipush (v := 12345) dX1_draw_8 (by decide) ?_
  refine aw_iadd dX1_draw_11 ?_
  refine aw_putI pf_X1_54 (shC hc) rfl dX1_draw_12 ?_
  refine aw_aload_n (i := 0) dX1_draw_15 rfl rfl ?_
  refine aw_getX gf_X1_54 (shC hc) rfl (by rw [mI_self, upd_self]) dX1_draw_16 ?_
  refine aw_bipush (v := 16) dX1_draw_19 (by decide) ?_
  refine aw_iushr dX1_draw_21 ?_
  refine aw_iload_n (i := 1) dX1_draw_22 rfl rfl ?_
  refine aw_cSi ck_X1_153 m_X7_modulo (by decide) (by decide) rfl rfl (Nat.le_of_ble_eq_true rfl) dX1_draw_23 ?_
  exact aw_iret rfl dX1_draw_26 ⟨rfl, rfl⟩
/-- by HEARD one is caught -/
def caughtP (loud likes w : Int32) : Prop := ¬ loud ≤ 0 ∧ ¬ loud + likes / 10 < w
def wbP (kind now at9 loud close likes : Int32) (W : Nat → Int32) : Prop :=
  if kind = 1 then ¬ now < at9 else if kind = 2 ∨ kind = 4 then caughtP loud likes (W 0) else if kind = 3 then caughtP loud likes (W 0) ∨ (¬ close ≤ 0 ∧ ¬ close < W 1) else if kind = 5 then caughtP loud likes (W 0) ∧ ¬ likes < W 4 else if kind = 6 then ¬ now < at9 ∨ ¬ loud ≤ 0 else False
def wsP (kind ticks likes loud close : Int32) (tired : Prop) (W : Nat → Int32) : Prop :=
  if kind = 1 then ¬ ticks ≤ likes ∨ (loud = 0 ∧ ¬ ticks < 5) else if kind = 2 ∨ kind = 4 then ¬ ticks ≤ likes ∨ ¬ W 2 ≤ loud else if kind = 3 then (¬ ticks ≤ likes ∨ ¬ W 2 ≤ loud) ∧ ¬ W 1 ≤ close else if kind = 5 then (¬ ticks ≤ likes ∨ ¬ W 2 ≤ loud) ∨ tired else if kind = 6 then ¬ ticks < W 4 else ¬ ticks ≤ likes
theorem m_X1_isCaught {l : Launch} {M : Mm} {c p L : Nat} (hc : isC c) (hp : p < 30) (hL : shp[L]? = some (.inr (0, 7, 0))) : AMet l 1 yX1_isCaught cX1_isCaught 3 (some FieldType.boolean) [.ref c, .int (nI p), .ref L] M (QE (some (.int (b01 (caughtP (M.1 (c + 12) p) (M.1 (c + 4) p) (M.1 L 0))))) M) := by
  refine AMet.of (by decide) (by simp [aargs, Value.category]) ?_
  show AW l 1 yX1_isCaught cX1_isCaught 3 (some FieldType.boolean) 0 [some (.ref c), some (.int (nI p)), some (.ref L)] [] M _
  refine aw_aload_n (i := 0) dX1_isCaught_0 rfl rfl ?_
  refine aw_getR gf_X1_63 (shC hc) rfl dX1_isCaught_1 ?_
  refine aw_iload_n (i := 1) dX1_isCaught_4 rfl rfl ?_
  refine aw_ialdN (shC_12 hc) (by omega) (by omega) dX1_isCaught_5 ?_
  refine aw_if_le (tgt := 35) dX1_isCaught_6 (by decide) (fun h6 => ?_) (fun h6 => ?_)
  ·
    refine aw_iconst (v := 0) dX1_isCaught_35 (by decide) ?_
    exact aw_zret rfl (by simp) dX1_isCaught_36 ⟨by rw [b01_f (fun q => q.1 h6)], rfl⟩
  ·
    refine aw_aload_n (i := 0) dX1_isCaught_9 rfl rfl ?_
    refine aw_getR gf_X1_63 (shC hc) rfl dX1_isCaught_10 ?_
    refine aw_iload_n (i := 1) dX1_isCaught_13 rfl rfl ?_
    refine aw_ialdN (shC_12 hc) (by omega) (by omega) dX1_isCaught_14 ?_
    refine aw_aload_n (i := 0) dX1_isCaught_15 rfl rfl ?_
    refine aw_getR gf_X1_23 (shC hc) rfl dX1_isCaught_16 ?_
    refine aw_iload_n (i := 1) dX1_isCaught_19 rfl rfl ?_
    refine aw_ialdN (shC_4 hc) (by omega) (by omega) dX1_isCaught_20 ?_
    refine aw_bipush (v := 10) dX1_isCaught_21 (by decide) ?_
    refine aw_idiv dX1_isCaught_23 (by decide) ?_
    refine aw_iadd dX1_isCaught_24 ?_
    refine aw_aload_n (i := 2) dX1_isCaught_25 rfl rfl ?_
    refine aw_iconst (v := 0) dX1_isCaught_26 (by decide) ?_
    refine aw_top (show (0 : Int32) = nI 0 from rfl) ?_
    refine aw_ialdN hL (by omega) (by omega) dX1_isCaught_27 ?_
    refine aw_icmp_lt (tgt := 35) dX1_isCaught_28 (by decide) (fun h28 => ?_) (fun h28 => ?_)
    ·
      refine aw_iconst (v := 0) dX1_isCaught_35 (by decide) ?_
      exact aw_zret rfl (by simp) dX1_isCaught_36 ⟨by rw [b01_f (fun q => q.2 h28)], rfl⟩
    ·
      refine aw_iconst (v := 1) dX1_isCaught_31 (by decide) ?_
      refine aw_goto (tgt := 36) dX1_isCaught_32 (by decide) ?_
      exact aw_zret rfl (by simp) dX1_isCaught_36 ⟨by rw [b01_t ⟨h6, h28⟩], rfl⟩
theorem m_X1_wouldBegin {l : Launch} {M : Mm} {c p L : Nat} (hc : isC c) (hp : p < 30) (hL : shp[L]? = some (.inr (0, 7, 0))) : AMet l 2 yX1_wouldBegin cX1_wouldBegin 3 (some FieldType.boolean) [.ref c, .int (nI p), .ref L] M (QE (some (.int (b01 (wbP (M.1 (c + 2) p) (M.1 c 12) (M.1 (c + 6) p) (M.1 (c + 12) p) (M.1 (c + 13) p) (M.1 (c + 4) p) (M.1 L))))) M) := by
  refine AMet.of (by decide) (by simp [aargs, Value.category]) ?_
  show AW l 2 yX1_wouldBegin cX1_wouldBegin 3 (some FieldType.boolean) 0 [some (.ref c), some (.int (nI p)), some (.ref L)] [] M _
  refine aw_aload_n (i := 0) dX1_wouldBegin_0 rfl rfl ?_
  refine aw_getR gf_X1_16 (shC hc) rfl dX1_wouldBegin_1 ?_
  refine aw_iload_n (i := 1) dX1_wouldBegin_4 rfl rfl ?_
  refine aw_ialdN (shC_2 hc) (by omega) (by omega) dX1_wouldBegin_5 ?_
  generalize hk9 : M.1 (c + 2) p = k9
  rcases sw16 k9 with rfl | rfl | rfl | rfl | rfl | rfl | hz9
  ·
    refine aw_tableIn (off := 38) (tgt := 44) dX1_wouldBegin_6 (by decide) (by decide) (by decide) (by decide) ?_
    refine aw_aload_n (i := 0) dX1_wouldBegin_44 rfl rfl ?_
    refine aw_getI gf_X1_51 (shC hc) rfl dX1_wouldBegin_45 ?_
    refine aw_aload_n (i := 0) dX1_wouldBegin_48 rfl rfl ?_
    refine aw_getR gf_X1_29 (shC hc) rfl dX1_wouldBegin_49 ?_
    refine aw_iload_n (i := 1) dX1_wouldBegin_52 rfl rfl ?_
    refine aw_ialdN (shC_6 hc) (by omega) (by omega) dX1_wouldBegin_53 ?_
    refine aw_ternC_lt (tgt := 61) (j := 62) (v := 1) (w := 0) dX1_wouldBegin_54 (by decide) dX1_wouldBegin_57 (by decide) dX1_wouldBegin_58 (by decide) dX1_wouldBegin_61 (by decide) rfl ?_
    refine aw_top t01a ?_
    exact aw_zret rfl b01_ok dX1_wouldBegin_62 ⟨congrArg (fun z => some (Value.int z)) (b01_c (by simp [wbP, hk9])), rfl⟩
  ·
    refine aw_tableIn (off := 57) (tgt := 63) dX1_wouldBegin_6 (by decide) (by decide) (by decide) (by decide) ?_
    refine aw_aload_n (i := 0) dX1_wouldBegin_63 rfl rfl ?_
    refine aw_iload_n (i := 1) dX1_wouldBegin_64 rfl rfl ?_
    refine aw_aload_n (i := 2) dX1_wouldBegin_65 rfl rfl ?_
    refine aw_cVi ck_X1_146 (m_X1_isCaught hc (by omega) hL) (shC hc) rfl (by decide) (by decide) rfl rfl (Nat.le_of_ble_eq_true rfl) dX1_wouldBegin_66 ?_
    exact aw_zret rfl b01_ok dX1_wouldBegin_69 ⟨congrArg (fun z => some (Value.int z)) (b01_c (by simp [wbP, hk9])), rfl⟩
  ·
    refine aw_tableIn (off := 64) (tgt := 70) dX1_wouldBegin_6 (by decide) (by decide) (by decide) (by decide) ?_
    refine aw_aload_n (i := 0) dX1_wouldBegin_70 rfl rfl ?_
    refine aw_iload_n (i := 1) dX1_wouldBegin_71 rfl rfl ?_
    refine aw_aload_n (i := 2) dX1_wouldBegin_72 rfl rfl ?_
    refine aw_cVi ck_X1_146 (m_X1_isCaught hc (by omega) hL) (shC hc) rfl (by decide) (by decide) rfl rfl (Nat.le_of_ble_eq_true rfl) dX1_wouldBegin_73 ?_
    refine aw_ifne_b (tgt := 100) dX1_wouldBegin_76 (by decide) (fun h76 => ?_) (fun h76 => ?_)
    ·
      refine aw_iconst (v := 1) dX1_wouldBegin_100 (by decide) ?_
      refine aw_goto (tgt := 105) dX1_wouldBegin_101 (by decide) ?_
      exact aw_zret rfl (by simp) dX1_wouldBegin_105 ⟨by rw [b01_t (by simp [wbP, hk9, h76])], rfl⟩
    ·
      refine aw_aload_n (i := 0) dX1_wouldBegin_79 rfl rfl ?_
      refine aw_getR gf_X1_66 (shC hc) rfl dX1_wouldBegin_80 ?_
      refine aw_iload_n (i := 1) dX1_wouldBegin_83 rfl rfl ?_
      refine aw_ialdN (shC_13 hc) (by omega) (by omega) dX1_wouldBegin_84 ?_
      refine aw_if_le (tgt := 104) dX1_wouldBegin_85 (by decide) (fun h85 => ?_) (fun h85 => ?_)
      ·
        refine aw_iconst (v := 0) dX1_wouldBegin_104 (by decide) ?_
        exact aw_zret rfl (by simp) dX1_wouldBegin_105 ⟨by rw [b01_f (by simp [wbP, hk9, h76, h85])], rfl⟩
      ·
        refine aw_aload_n (i := 0) dX1_wouldBegin_88 rfl rfl ?_
        refine aw_getR gf_X1_66 (shC hc) rfl dX1_wouldBegin_89 ?_
        refine aw_iload_n (i := 1) dX1_wouldBegin_92 rfl rfl ?_
        refine aw_ialdN (shC_13 hc) (by omega) (by omega) dX1_wouldBegin_93 ?_
        refine aw_aload_n (i := 2) dX1_wouldBegin_94 rfl rfl ?_
        refine aw_iconst (v := 1) dX1_wouldBegin_95 (by decide) ?_
        refine aw_top (show (1 : Int32) = nI 1 from rfl) ?_
        refine aw_ialdN hL (by omega) (by omega) dX1_wouldBegin_96 ?_
        refine aw_icmp_lt (tgt := 104) dX1_wouldBegin_97 (by decide) (fun h97 => ?_) (fun h97 => ?_)
        ·
          refine aw_iconst (v := 0) dX1_wouldBegin_104 (by decide) ?_
          exact aw_zret rfl (by simp) dX1_wouldBegin_105 ⟨by rw [b01_f (by simp [wbP, hk9, h76, h85, h97])], rfl⟩
        ·
          refine aw_iconst (v := 1) dX1_wouldBegin_100 (by decide) ?_
          refine aw_goto (tgt := 105) dX1_wouldBegin_101 (by decide) ?_
          exact aw_zret rfl (by simp) dX1_wouldBegin_105 ⟨by rw [b01_t (by simp [wbP, hk9, h76, h85, h97])], rfl⟩
  ·
    refine aw_tableIn (off := 57) (tgt := 63) dX1_wouldBegin_6 (by decide) (by decide) (by decide) (by decide) ?_
    refine aw_aload_n (i := 0) dX1_wouldBegin_63 rfl rfl ?_
    refine aw_iload_n (i := 1) dX1_wouldBegin_64 rfl rfl ?_
    refine aw_aload_n (i := 2) dX1_wouldBegin_65 rfl rfl ?_
    refine aw_cVi ck_X1_146 (m_X1_isCaught hc (by omega) hL) (shC hc) rfl (by decide) (by decide) rfl rfl (Nat.le_of_ble_eq_true rfl) dX1_wouldBegin_66 ?_
    exact aw_zret rfl b01_ok dX1_wouldBegin_69 ⟨congrArg (fun z => some (Value.int z)) (b01_c (by simp [wbP, hk9])), rfl⟩
  ·
    refine aw_tableIn (off := 100) (tgt := 106) dX1_wouldBegin_6 (by decide) (by decide) (by decide) (by decide) ?_
    refine aw_aload_n (i := 0) dX1_wouldBegin_106 rfl rfl ?_
    refine aw_iload_n (i := 1) dX1_wouldBegin_107 rfl rfl ?_
    refine aw_aload_n (i := 2) dX1_wouldBegin_108 rfl rfl ?_
    refine aw_cVi ck_X1_146 (m_X1_isCaught hc (by omega) hL) (shC hc) rfl (by decide) (by decide) rfl rfl (Nat.le_of_ble_eq_true rfl) dX1_wouldBegin_109 ?_
    refine aw_ifeq_b (tgt := 131) dX1_wouldBegin_112 (by decide) (fun h112 => ?_) (fun h112 => ?_)
    ·
      refine aw_iconst (v := 0) dX1_wouldBegin_131 (by decide) ?_
      exact aw_zret rfl (by simp) dX1_wouldBegin_132 ⟨by rw [b01_f (by simp [wbP, hk9, h112])], rfl⟩
    ·
      refine aw_aload_n (i := 0) dX1_wouldBegin_115 rfl rfl ?_
      refine aw_getR gf_X1_23 (shC hc) rfl dX1_wouldBegin_116 ?_
      refine aw_iload_n (i := 1) dX1_wouldBegin_119 rfl rfl ?_
      refine aw_ialdN (shC_4 hc) (by omega) (by omega) dX1_wouldBegin_120 ?_
      refine aw_aload_n (i := 2) dX1_wouldBegin_121 rfl rfl ?_
      refine aw_iconst (v := 4) dX1_wouldBegin_122 (by decide) ?_
      refine aw_top (show (4 : Int32) = nI 4 from rfl) ?_
      refine aw_ialdN hL (by omega) (by omega) dX1_wouldBegin_123 ?_
      refine aw_icmp_lt (tgt := 131) dX1_wouldBegin_124 (by decide) (fun h124 => ?_) (fun h124 => ?_)
      ·
        refine aw_iconst (v := 0) dX1_wouldBegin_131 (by decide) ?_
        exact aw_zret rfl (by simp) dX1_wouldBegin_132 ⟨by rw [b01_f (by simp [wbP, hk9, h112, h124])], rfl⟩
      ·
        refine aw_iconst (v := 1) dX1_wouldBegin_127 (by decide) ?_
        refine aw_goto (tgt := 132) dX1_wouldBegin_128 (by decide) ?_
        exact aw_zret rfl (by simp) dX1_wouldBegin_132 ⟨by rw [b01_t (by simp [wbP, hk9, h112, h124])], rfl⟩
  ·
    refine aw_tableIn (off := 127) (tgt := 133) dX1_wouldBegin_6 (by decide) (by decide) (by decide) (by decide) ?_
    refine aw_aload_n (i := 0) dX1_wouldBegin_133 rfl rfl ?_
    refine aw_getI gf_X1_51 (shC hc) rfl dX1_wouldBegin_134 ?_
    refine aw_aload_n (i := 0) dX1_wouldBegin_137 rfl rfl ?_
    refine aw_getR gf_X1_29 (shC hc) rfl dX1_wouldBegin_138 ?_
    refine aw_iload_n (i := 1) dX1_wouldBegin_141 rfl rfl ?_
    refine aw_ialdN (shC_6 hc) (by omega) (by omega) dX1_wouldBegin_142 ?_
    refine aw_icmp_ge (tgt := 155) dX1_wouldBegin_143 (by decide) (fun h143 => ?_) (fun h143 => ?_)
    ·
      refine aw_iconst (v := 1) dX1_wouldBegin_155 (by decide) ?_
      refine aw_goto (tgt := 160) dX1_wouldBegin_156 (by decide) ?_
      exact aw_zret rfl (by simp) dX1_wouldBegin_160 ⟨by rw [b01_t (by simp [wbP, hk9, h143])], rfl⟩
    ·
      refine aw_aload_n (i := 0) dX1_wouldBegin_146 rfl rfl ?_
      refine aw_getR gf_X1_63 (shC hc) rfl dX1_wouldBegin_147 ?_
      refine aw_iload_n (i := 1) dX1_wouldBegin_150 rfl rfl ?_
      refine aw_ialdN (shC_12 hc) (by omega) (by omega) dX1_wouldBegin_151 ?_
      refine aw_tern_le (tgt := 159) (j := 160) (v := 1) (w := 0) dX1_wouldBegin_152 (by decide) dX1_wouldBegin_155 (by decide) dX1_wouldBegin_156 (by decide) dX1_wouldBegin_159 (by decide) rfl ?_
      refine aw_top t01a ?_
      exact aw_zret rfl b01_ok dX1_wouldBegin_160 ⟨congrArg (fun z => some (Value.int z)) (b01_c (by simp [wbP, hk9, h143])), rfl⟩
  · have hn9 := no16 hz9
    refine aw_tableOut (tgt := 161) dX1_wouldBegin_6 hz9 (by decide) ?_
    refine aw_iconst (v := 0) dX1_wouldBegin_161 (by decide) ?_
    exact aw_zret rfl (by simp) dX1_wouldBegin_162 ⟨by rw [b01_f (by simp [wbP, hn9, hk9])], rfl⟩
