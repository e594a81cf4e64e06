def fP1 (M : Mm) (E : Int32 → Int32 → Int32) (m : Int32) (a : Nat) : Prop := M.1 113 a = 0 ∧ ¬ E (nI a) (-1) < m
def fP2 (M : Mm) (E : Int32 → Int32 → Int32) (m : Int32) (a b : Nat) : Prop := M.1 113 a = 0 ∧ M.1 113 b = 0 ∧ ¬ E (nI a) (nI b) < m
theorem okA_n {n a : Nat} (h : a < n) : okA n (nI a) := Or.inr ⟨a, h, rfl⟩
def S8_few (E : Int32 → Int32 → Int32) (n : Nat) (M : Mm) (m : Int32) (v : Int32) (M' : Mm) : Prop := pIf (m < 1) (v = -6 ∧ M' = nox M 6) (pIf (30 < m) (v = -6 ∧ M' = nox M 6) (∃ X, out8 n M X ∧ ((¬ E (-1) (-1) < m ∧ v = 0 ∧ M' = X) ∨ (E (-1) (-1) < m ∧ ((∃ a, a < n ∧ (∀ i, i < a → ¬ fP1 M E m i) ∧ fP1 M E m a ∧ v = (1 : Int32) <<< (nI a &&& 31) ∧ M' = X) ∨ ((∀ i, i < n → ¬ fP1 M E m i) ∧ ((∃ b a, b < n ∧ a < b ∧ (∀ b' a', b' < b → a' < b' → ¬ fP2 M E m a' b') ∧ (∀ a', a' < a → ¬ fP2 M E m a' b) ∧ fP2 M E m a b ∧ v = ((1 : Int32) <<< (nI a &&& 31)) ||| ((1 : Int32) <<< (nI b &&& 31)) ∧ M' = X) ∨ ((∀ b a, b < n → a < b → ¬ fP2 M E m a b) ∧ v = -5 ∧ M' = nox X 5))))))))
theorem m_X8_few {l : Launch} {M : Mm} {m : Int32} {E : Int32 → Int32 → Int32} {n : Nat} (hg : g8 n M) (hfo : okW (M.1 105 5)) (hE : ∀ a b X v X', okA n a → okA n b → out8 n M X → S8_asked X n a b v X' → v = E a b ∧ out8 n M X') : AMet l 6 yX8_few cX8_few 4 (some FieldType.int) [.ref 105, .int m] M (QI (S8_few E n M m)) := by
  refine AMet.of (by decide) (by simp [aargs, Value.category]) ?_
  show AW l 6 yX8_few cX8_few 4 (some FieldType.int) 0 [some (.ref 105), some (.int m), none, none] [] M _
  have hg30 := hg.2.1
  refine aw_iload_n (i := 1) dX8_few_0 rfl rfl ?_
  refine aw_iconst (v := 1) dX8_few_1 (by decide) ?_
  refine aw_icmp_lt (tgt := 11) dX8_few_2 (by decide) (fun h2 => ?_) (fun h2 => ?_)
  ·
    refine aw_aload_n (i := 0) dX8_few_11 rfl rfl ?_
    refine aw_bipush (v := (-6)) dX8_few_12 (by decide) ?_
    refine aw_cVi ck_X8_142 (m_X8_no (k := 6) (by decide) (by decide)) sh_105 rfl (by decide) (by decide) rfl rfl (Nat.le_of_ble_eq_true rfl) dX8_few_14 ?_
    exact aw_iret rfl dX8_few_17 (by first | contradiction | exact ⟨_, rfl, by unfold S8_few; (first | rw [pIf_t h2] | rw [pIf_f h2] | rw [pIf_f (Int32.not_lt.mpr h2)] | rw [pIf_f (Int32.not_le.mpr h2)] | rw [pIf_t (Int32.not_le.mp h2)] | rw [pIf_t (Int32.not_lt.mp h2)] | rw [pIf_f (Nat.not_lt.mpr h2)] | rw [pIf_f (Nat.not_le.mpr h2)] | rw [pIf_t (Nat.not_le.mp h2)] | rw [pIf_t (Nat.not_lt.mp h2)] | skip); exact ⟨rfl, rfl⟩⟩)
  ·
    refine aw_iload_n (i := 1) dX8_few_5 rfl rfl ?_
    refine aw_bipush (v := 30) dX8_few_6 (by decide) ?_
    refine aw_icmp_le (tgt := 18) dX8_few_8 (by decide) (fun h8 => ?_) (fun h8 => ?_)
    ·
      refine aw_aload_n (i := 0) dX8_few_18 rfl rfl ?_
      refine aw_iconst (v := (-1)) dX8_few_19 (by decide) ?_
      refine aw_iconst (v := (-1)) dX8_few_20 (by decide) ?_
      refine aw_cVQ ck_X8_293 (m_X8_asked hg hfo (Or.inl rfl) (Or.inl rfl)) sh_105 rfl (by decide) (by decide) rfl rfl (Nat.le_of_ble_eq_true rfl) dX8_few_21 (fun r M9 hq9 => ?_)
      obtain ⟨v9, rfl, hS9⟩ := hq9
      obtain ⟨rfl, hO1⟩ := hE _ _ _ _ _ (Or.inl rfl) (Or.inl rfl) out8.rf hS9
      refine aw_pc rfl ?_
      refine aw_iload_n (i := 1) dX8_few_24 rfl rfl ?_
      refine aw_icmp_lt (tgt := 30) dX8_few_25 (by decide) (fun h25 => ?_) (fun h25 => ?_)
      ·
        refine aw_iconst (v := 0) dX8_few_30 (by decide) ?_
        refine aw_istore_n (i := 2) dX8_few_31 rfl (by decide) ?_
        have lp32 : ∀ k9 a X, a + k9 = n → out8 n M X → (∀ i, i < a → ¬ fP1 M E m i) → AW l 6 yX8_few cX8_few 4 (some FieldType.int) 32 [some (.ref 105), some (.int m), some (.int (nI a)), none] [] X (QI (S8_few E n M m)) := by
          intro k9
          induction k9 using Nat.strongRecOn with
          | _ k9 ih =>
          intro a X hk9 hX hall
          refine aw_iload_n (i := 2) dX8_few_32 rfl rfl ?_
          refine aw_aload_n (i := 0) dX8_few_33 rfl rfl ?_
          refine aw_getN (n := n) gf_X8_132 sh_105 rfl ((hX.2.2.2 0 (by decide)).trans hg.1) dX8_few_34 ?_
          refine aw_icmp_geN (tgt := 69) (by omega) (by omega) dX8_few_37 (by decide) (fun h37 => ?_) (fun h37 => ?_)
          ·
            refine aw_iconst (v := 0) dX8_few_69 (by decide) ?_
            refine aw_istore_n (i := 2) dX8_few_70 rfl (by decide) ?_
            have lp71 : ∀ k8 b Y, b + k8 = n → out8 n M Y → (∀ b' a', b' < b → a' < b' → ¬ fP2 M E m a' b') → AW l 6 yX8_few cX8_few 4 (some FieldType.int) 71 [some (.ref 105), some (.int m), some (.int (nI b)), none] [] Y (QI (S8_few E n M m)) := by
              intro k8
              induction k8 using Nat.strongRecOn with
              | _ k8 ih8 =>
              intro b Y hk8 hY hall2
              refine aw_iload_n (i := 2) dX8_few_71 rfl rfl ?_
              refine aw_aload_n (i := 0) dX8_few_72 rfl rfl ?_
              refine aw_getN (n := n) gf_X8_132 sh_105 rfl ((hY.2.2.2 0 (by decide)).trans hg.1) dX8_few_73 ?_
              refine aw_icmp_geN (tgt := 134) (by omega) (by omega) dX8_few_76 (by decide) (fun h76 => ?_) (fun h76 => ?_)
              ·
                refine aw_aload_n (i := 0) dX8_few_134 rfl rfl ?_
                refine aw_bipush (v := (-5)) dX8_few_135 (by decide) ?_
                refine aw_cVi ck_X8_142 (m_X8_no (k := 5) (by decide) (by decide)) sh_105 rfl (by decide) (by decide) rfl rfl (Nat.le_of_ble_eq_true rfl) dX8_few_137 ?_
                exact aw_iret rfl dX8_few_140 ⟨_, rfl, by unfold S8_few; (first | rw [pIf_t h2] | rw [pIf_f h2] | rw [pIf_f (Int32.not_lt.mpr h2)] | rw [pIf_f (Int32.not_le.mpr h2)] | rw [pIf_t (Int32.not_le.mp h2)] | rw [pIf_t (Int32.not_lt.mp h2)] | rw [pIf_f (Nat.not_lt.mpr h2)] | rw [pIf_f (Nat.not_le.mpr h2)] | rw [pIf_t (Nat.not_le.mp h2)] | rw [pIf_t (Nat.not_lt.mp h2)] | skip); (first | rw [pIf_t h8] | rw [pIf_f h8] | rw [pIf_f (Int32.not_lt.mpr h8)] | rw [pIf_f (Int32.not_le.mpr h8)] | rw [pIf_t (Int32.not_le.mp h8)] | rw [pIf_t (Int32.not_lt.mp h8)] | rw [pIf_f (Nat.not_lt.mpr h8)] | rw [pIf_f (Nat.not_le.mpr h8)] | rw [pIf_t (Nat.not_le.mp h8)] | rw [pIf_t (Nat.not_lt.mp h8)] | skip); exact ⟨_, hY, Or.inr ⟨h25, Or.inr ⟨fun i hi => hall i (by omega), Or.inr ⟨fun b' a' h1 h3 => hall2 b' a' (by omega) h3, rfl, rfl⟩⟩⟩⟩⟩
              ·
                refine aw_iconst (v := 0) dX8_few_79 (by decide) ?_
                refine aw_istore_n (i := 3) dX8_few_80 rfl (by decide) ?_
                have lp81 : ∀ k7 a9 Z, a9 + k7 = b → out8 n M Z → (∀ a', a' < a9 → ¬ fP2 M E m a' b) → AW l 6 yX8_few cX8_few 4 (some FieldType.int) 81 [some (.ref 105), some (.int m), some (.int (nI b)), some (.int (nI a9))] [] Z (QI (S8_few E n M m)) := by
                  intro k7
                  induction k7 using Nat.strongRecOn with
                  | _ k7 ih7 =>
                  intro a9 Z hk7 hZ hall3
                  refine aw_iload_n (i := 3) dX8_few_81 rfl rfl ?_
                  refine aw_iload_n (i := 2) dX8_few_82 rfl rfl ?_
                  refine aw_icmp_geN (tgt := 128) (by omega) (by omega) dX8_few_83 (by decide) (fun h83 => ?_) (fun h83 => ?_)
                  ·
                    refine aw_iincN (i := 2) dX8_few_128 rfl (by decide) ?_
                    refine aw_goto (tgt := 71) dX8_few_131 (by decide) ?_
                    refine aw_loc (la := [some (.ref 105), some (.int m), some (.int (nI (b + 1))), none]) ⟨rfl, rfl, rfl, trivial⟩ ?_
                    exact ih8 (k8 - 1) (by omega) (b + 1) _ (by omega) hZ (fun b' a' h1 h3 => by
                      by_cases e : b' = b
                      · subst e; exact hall3 a' (by omega)
                      · exact hall2 b' a' (by omega) h3)
                  ·
                    refine aw_aload_n (i := 0) dX8_few_86 rfl rfl ?_
                    refine aw_getR gf_X8_41 sh_105 rfl dX8_few_87 ?_
                    refine aw_iload_n (i := 3) dX8_few_90 rfl rfl ?_
                    refine aw_ialdX sh_113 (by omega) (by decide) (hZ.2.2.1 113 a9 (by omega) (by omega) (by omega)) dX8_few_91 ?_
                    refine aw_if_ne (tgt := 122) dX8_few_92 (by decide) (fun h92 => ?_) (fun h92 => ?_)
                    ·
                      refine aw_iincN (i := 3) dX8_few_122 rfl (by decide) ?_
                      refine aw_goto (tgt := 81) dX8_few_125 (by decide) ?_
                      refine aw_loc (la := [some (.ref 105), some (.int m), some (.int (nI b)), some (.int (nI (a9 + 1)))]) ⟨rfl, rfl, rfl, rfl, trivial⟩ ?_
                      exact ih7 (k7 - 1) (by omega) (a9 + 1) _ (by omega) hZ (fun a' h3 => by
                        by_cases e : a' = a9
                        · subst e; exact (fun z => h92 z.1)
                        · exact hall3 a' (by omega))
                    ·
                      refine aw_aload_n (i := 0) dX8_few_95 rfl rfl ?_
                      refine aw_getR gf_X8_41 sh_105 rfl dX8_few_96 ?_
                      refine aw_iload_n (i := 2) dX8_few_99 rfl rfl ?_
                      refine aw_ialdX sh_113 (by omega) (by decide) (hZ.2.2.1 113 b (by omega) (by omega) (by omega)) dX8_few_100 ?_
                      refine aw_if_ne (tgt := 122) dX8_few_101 (by decide) (fun h101 => ?_) (fun h101 => ?_)
                      ·
                        refine aw_iincN (i := 3) dX8_few_122 rfl (by decide) ?_
                        refine aw_goto (tgt := 81) dX8_few_125 (by decide) ?_
                        refine aw_loc (la := [some (.ref 105), some (.int m), some (.int (nI b)), some (.int (nI (a9 + 1)))]) ⟨rfl, rfl, rfl, rfl, trivial⟩ ?_
                        exact ih7 (k7 - 1) (by omega) (a9 + 1) _ (by omega) hZ (fun a' h3 => by
                          by_cases e : a' = a9
                          · subst e; exact (fun z => h101 z.2.1)
                          · exact hall3 a' (by omega))
                      ·
                        refine aw_aload_n (i := 0) dX8_few_104 rfl rfl ?_
                        refine aw_iload_n (i := 3) dX8_few_105 rfl rfl ?_
                        refine aw_iload_n (i := 2) dX8_few_106 rfl rfl ?_
                        refine aw_cVQ ck_X8_293 (m_X8_asked (hZ.g hg) (by rw [hZ.2.2.2 5 (by decide)]; exact hfo) (okA_n (by omega)) (okA_n (by omega))) sh_105 rfl (by decide) (by decide) rfl rfl (Nat.le_of_ble_eq_true rfl) dX8_few_107 (fun r M9 hq9 => ?_)
                        obtain ⟨v9, rfl, hS9⟩ := hq9
                        obtain ⟨rfl, hO3⟩ := hE _ _ _ _ _ (okA_n (by omega)) (okA_n (by omega)) hZ hS9
                        refine aw_pc rfl ?_
                        refine aw_iload_n (i := 1) dX8_few_110 rfl rfl ?_
                        refine aw_icmp_lt (tgt := 122) dX8_few_111 (by decide) (fun h111 => ?_) (fun h111 => ?_)
                        ·
                          refine aw_iincN (i := 3) dX8_few_122 rfl (by decide) ?_
                          refine aw_goto (tgt := 81) dX8_few_125 (by decide) ?_
                          refine aw_loc (la := [some (.ref 105), some (.int m), some (.int (nI b)), some (.int (nI (a9 + 1)))]) ⟨rfl, rfl, rfl, rfl, trivial⟩ ?_
                          exact ih7 (k7 - 1) (by omega) (a9 + 1) _ (by omega) hO3 (fun a' h3 => by
                            by_cases e : a' = a9
                            · subst e; exact (fun z => z.2.2 h111)
                            · exact hall3 a' (by omega))
                        ·
                          refine aw_iconst (v := 1) dX8_few_114 (by decide) ?_
                          refine aw_iload_n (i := 3) dX8_few_115 rfl rfl ?_
                          refine aw_ishl dX8_few_116 ?_
                          refine aw_iconst (v := 1) dX8_few_117 (by decide) ?_
                          refine aw_iload_n (i := 2) dX8_few_118 rfl rfl ?_
                          refine aw_ishl dX8_few_119 ?_
                          refine aw_ior dX8_few_120 ?_
                          exact aw_iret rfl dX8_few_121 ⟨_, rfl, by unfold S8_few; (first | rw [pIf_t h2] | rw [pIf_f h2] | rw [pIf_f (Int32.not_lt.mpr h2)] | rw [pIf_f (Int32.not_le.mpr h2)] | rw [pIf_t (Int32.not_le.mp h2)] | rw [pIf_t (Int32.not_lt.mp h2)] | rw [pIf_f (Nat.not_lt.mpr h2)] | rw [pIf_f (Nat.not_le.mpr h2)] | rw [pIf_t (Nat.not_le.mp h2)] | rw [pIf_t (Nat.not_lt.mp h2)] | skip); (first | rw [pIf_t h8] | rw [pIf_f h8] | rw [pIf_f (Int32.not_lt.mpr h8)] | rw [pIf_f (Int32.not_le.mpr h8)] | rw [pIf_t (Int32.not_le.mp h8)] | rw [pIf_t (Int32.not_lt.mp h8)] | rw [pIf_f (Nat.not_lt.mpr h8)] | rw [pIf_f (Nat.not_le.mpr h8)] | rw [pIf_t (Nat.not_le.mp h8)] | rw [pIf_t (Nat.not_lt.mp h8)] | skip); exact ⟨_, hO3, Or.inr ⟨h25, Or.inr ⟨fun i hi => hall i (by omega), Or.inl ⟨b, a9, by omega, by omega, hall2, hall3, ⟨h92, h101, h111⟩, rfl, rfl⟩⟩⟩⟩⟩
                refine aw_loc (la := [some (.ref 105), some (.int m), some (.int (nI b)), some (.int (nI 0))]) ⟨rfl, rfl, rfl, rfl, trivial⟩ ?_
                exact lp81 b 0 _ (by omega) hY (fun a' h3 => absurd h3 (by omega))
            refine aw_loc (la := [some (.ref 105), some (.int m), some (.int (nI 0)), none]) ⟨rfl, rfl, rfl, trivial⟩ ?_
            exact lp71 n 0 _ (by omega) hX (fun b' a' h1 h3 => absurd h1 (by omega))
          ·
            refine aw_aload_n (i := 0) dX8_few_40 rfl rfl ?_
            refine aw_getR gf_X8_41 sh_105 rfl dX8_few_41 ?_
            refine aw_iload_n (i := 2) dX8_few_44 rfl rfl ?_
            refine aw_ialdX sh_113 (by omega) (by decide) (hX.2.2.1 113 a (by omega) (by omega) (by omega)) dX8_few_45 ?_
            refine aw_if_ne (tgt := 63) dX8_few_46 (by decide) (fun h46 => ?_) (fun h46 => ?_)
            ·
              refine aw_iincN (i := 2) dX8_few_63 rfl (by decide) ?_
              refine aw_goto (tgt := 32) dX8_few_66 (by decide) ?_
              refine aw_loc (la := [some (.ref 105), some (.int m), some (.int (nI (a + 1))), none]) ⟨rfl, rfl, rfl, trivial⟩ ?_
              exact ih (k9 - 1) (by omega) (a + 1) _ (by omega) hX (fun i hi => by
                by_cases e : i = a
                · subst e; exact (fun z => h46 z.1)
                · exact hall i (by omega))
            ·
              refine aw_aload_n (i := 0) dX8_few_49 rfl rfl ?_
              refine aw_iload_n (i := 2) dX8_few_50 rfl rfl ?_
              refine aw_iconst (v := (-1)) dX8_few_51 (by decide) ?_
              refine aw_cVQ ck_X8_293 (m_X8_asked (hX.g hg) (by rw [hX.2.2.2 5 (by decide)]; exact hfo) (okA_n (by omega)) (Or.inl rfl)) sh_105 rfl (by decide) (by decide) rfl rfl (Nat.le_of_ble_eq_true rfl) dX8_few_52 (fun r M9 hq9 => ?_)
              obtain ⟨v9, rfl, hS9⟩ := hq9
              obtain ⟨rfl, hO2⟩ := hE _ _ _ _ _ (okA_n (by omega)) (Or.inl rfl) hX hS9
              refine aw_pc rfl ?_
              refine aw_iload_n (i := 1) dX8_few_55 rfl rfl ?_
              refine aw_icmp_lt (tgt := 63) dX8_few_56 (by decide) (fun h56 => ?_) (fun h56 => ?_)
              ·
                refine aw_iincN (i := 2) dX8_few_63 rfl (by decide) ?_
                refine aw_goto (tgt := 32) dX8_few_66 (by decide) ?_
                refine aw_loc (la := [some (.ref 105), some (.int m), some (.int (nI (a + 1))), none]) ⟨rfl, rfl, rfl, trivial⟩ ?_
                exact ih (k9 - 1) (by omega) (a + 1) _ (by omega) hO2 (fun i hi => by
                  by_cases e : i = a
                  · subst e; exact (fun z => z.2 h56)
                  · exact hall i (by omega))
              ·
                refine aw_iconst (v := 1) dX8_few_59 (by decide) ?_
                refine aw_iload_n (i := 2) dX8_few_60 rfl rfl ?_
                refine aw_ishl dX8_few_61 ?_
                exact aw_iret rfl dX8_few_62 ⟨_, rfl, by unfold S8_few; (first | rw [pIf_t h2] | rw [pIf_f h2] | rw [pIf_f (Int32.not_lt.mpr h2)] | rw [pIf_f (Int32.not_le.mpr h2)] | rw [pIf_t (Int32.not_le.mp h2)] | rw [pIf_t (Int32.not_lt.mp h2)] | rw [pIf_f (Nat.not_lt.mpr h2)] | rw [pIf_f (Nat.not_le.mpr h2)] | rw [pIf_t (Nat.not_le.mp h2)] | rw [pIf_t (Nat.not_lt.mp h2)] | skip); (first | rw [pIf_t h8] | rw [pIf_f h8] | rw [pIf_f (Int32.not_lt.mpr h8)] | rw [pIf_f (Int32.not_le.mpr h8)] | rw [pIf_t (Int32.not_le.mp h8)] | rw [pIf_t (Int32.not_lt.mp h8)] | rw [pIf_f (Nat.not_lt.mpr h8)] | rw [pIf_f (Nat.not_le.mpr h8)] | rw [pIf_t (Nat.not_le.mp h8)] | rw [pIf_t (Nat.not_lt.mp h8)] | skip); exact ⟨_, hO2, Or.inr ⟨h25, Or.inl ⟨a, by omega, hall, ⟨h46, h56⟩, rfl, rfl⟩⟩⟩⟩
        refine aw_loc (la := [some (.ref 105), some (.int m), some (.int (nI 0)), none]) ⟨rfl, rfl, rfl, trivial⟩ ?_
        exact lp32 n 0 _ (by omega) hO1 (fun i hi => absurd hi (by omega))
      ·
        refine aw_iconst (v := 0) dX8_few_28 (by decide) ?_
        exact aw_iret rfl dX8_few_29 ⟨_, rfl, by unfold S8_few; (first | rw [pIf_t h2] | rw [pIf_f h2] | rw [pIf_f (Int32.not_lt.mpr h2)] | rw [pIf_f (Int32.not_le.mpr h2)] | rw [pIf_t (Int32.not_le.mp h2)] | rw [pIf_t (Int32.not_lt.mp h2)] | rw [pIf_f (Nat.not_lt.mpr h2)] | rw [pIf_f (Nat.not_le.mpr h2)] | rw [pIf_t (Nat.not_le.mp h2)] | rw [pIf_t (Nat.not_lt.mp h2)] | skip); (first | rw [pIf_t h8] | rw [pIf_f h8] | rw [pIf_f (Int32.not_lt.mpr h8)] | rw [pIf_f (Int32.not_le.mpr h8)] | rw [pIf_t (Int32.not_le.mp h8)] | rw [pIf_t (Int32.not_lt.mp h8)] | rw [pIf_f (Nat.not_lt.mpr h8)] | rw [pIf_f (Nat.not_le.mpr h8)] | rw [pIf_t (Nat.not_le.mp h8)] | rw [pIf_t (Nat.not_lt.mp h8)] | skip); exact ⟨_, hO1, Or.inl ⟨h25, rfl, rfl⟩⟩⟩
    ·
      refine aw_aload_n (i := 0) dX8_few_11 rfl rfl ?_
      refine aw_bipush (v := (-6)) dX8_few_12 (by decide) ?_
      refine aw_cVi ck_X8_142 (m_X8_no (k := 6) (by decide) (by decide)) sh_105 rfl (by decide) (by decide) rfl rfl (Nat.le_of_ble_eq_true rfl) dX8_few_14 ?_
      exact aw_iret rfl dX8_few_17 (by first | contradiction | exact ⟨_, rfl, by unfold S8_few; (first | rw [pIf_t h2] | rw [pIf_f h2] | rw [pIf_f (Int32.not_lt.mpr h2)] | rw [pIf_f (Int32.not_le.mpr h2)] | rw [pIf_t (Int32.not_le.mp h2)] | rw [pIf_t (Int32.not_lt.mp h2)] | rw [pIf_f (Nat.not_lt.mpr h2)] | rw [pIf_f (Nat.not_le.mpr h2)] | rw [pIf_t (Nat.not_le.mp h2)] | rw [pIf_t (Nat.not_lt.mp h2)] | skip); (first | rw [pIf_t h8] | rw [pIf_f h8] | rw [pIf_f (Int32.not_lt.mpr h8)] | rw [pIf_f (Int32.not_le.mpr h8)] | rw [pIf_t (Int32.not_le.mp h8)] | rw [pIf_t (Int32.not_lt.mp h8)] | rw [pIf_f (Nat.not_lt.mpr h8)] | rw [pIf_f (Nat.not_le.mpr h8)] | rw [pIf_t (Nat.not_le.mp h8)] | rw [pIf_t (Nat.not_lt.mp h8)] | skip); exact ⟨rfl, rfl⟩⟩)
noncomputable def lst8 (seat stands : Nat → Int32) : Nat → Int32
  | 0 => -1
  | i + 1 => pIf (stands i = 1 ∧ (lst8 seat stands i = -1 ∨ seat i / 8 < lst8 seat stands i)) (seat i / 8) (lst8 seat stands i)
theorem lst8_t {seat stands : Nat → Int32} {i : Nat} (h : stands i = 1 ∧ (lst8 seat stands i = -1 ∨ seat i / 8 < lst8 seat stands i)) : seat i / 8 = lst8 seat stands (i + 1) := (pIf_t h).symm
theorem lst8_f {seat stands : Nat → Int32} {i : Nat} (h : ¬ (stands i = 1 ∧ (lst8 seat stands i = -1 ∨ seat i / 8 < lst8 seat stands i))) : lst8 seat stands i = lst8 seat stands (i + 1) := (pIf_f h).symm
def S8_front (M : Mm) (n : Nat) (w : Int32) (v : Int32) (M' : Mm) : Prop := pIf (¬ w < -1 ∧ ¬ M.1 105 1 ≤ w) (∃ Y, ev8 n w 60 (kepM n M) Y ∧ M' = bakM n Y ∧ v = lst8 (Y.1 108) (Y.1 115) n) (v = -1 - 10 ∧ M' = nox M 1)
theorem m_X8_front {l : Launch} {M : Mm} {w : Int32} {n : Nat} (hg : g8 n M) {lc : Nat} (hlc : M.1 105 1 = nI lc) (hl6 : lc ≤ 6) : AMet l 6 yX8_front cX8_front 4 (some FieldType.int) [.ref 105, .int w] M (QI (S8_front M n w)) := by
  refine AMet.of (by decide) (by simp [aargs, Value.category]) ?_
  show AW l 6 yX8_front cX8_front 4 (some FieldType.int) 0 [some (.ref 105), some (.int w), none, none] [] M _
  have hg30 := hg.2.1
  refine aw_aload_n (i := 0) dX8_front_0 rfl rfl ?_
  refine aw_iload_n (i := 1) dX8_front_1 rfl rfl ?_
  refine aw_cVi ck_X8_206 m_X8_isLaws sh_105 rfl (by decide) (by decide) rfl rfl (Nat.le_of_ble_eq_true rfl) dX8_front_2 ?_
  refine aw_ifne_b (tgt := 14) dX8_front_5 (by decide) (fun h5 => ?_) (fun h5 => ?_)
  ·
    have hw := lw8 hlc hl6 h5
    refine aw_aload_n (i := 0) dX8_front_14 rfl rfl ?_
    refine aw_iload_n (i := 1) dX8_front_15 rfl rfl ?_
    refine aw_bipush (v := 60) dX8_front_16 (by decide) ?_
    refine aw_top (show (60 : Int32) = nI 60 from rfl) ?_
    refine aw_cVQ ck_X8_284 (m_X8_whole hg hw (by omega)) sh_105 rfl (by decide) (by decide) rfl rfl (Nat.le_of_ble_eq_true rfl) dX8_front_18 (fun r M9 hq9 => ?_)
    obtain ⟨rfl, ht9⟩ := hq9
    have gY := ev8_g (kep_g hg) ht9
    refine aw_iconst (v := (-1)) dX8_front_21 (by decide) ?_
    refine aw_istore_n (i := 2) dX8_front_22 rfl (by decide) ?_
    refine aw_iconst (v := 0) dX8_front_23 (by decide) ?_
    refine aw_istore_n (i := 3) dX8_front_24 rfl (by decide) ?_
    have lp25 : ∀ k9 i, i + k9 = n → AW l 6 yX8_front cX8_front 4 (some FieldType.int) 25 [some (.ref 105), some (.int w), some (.int (lst8 (M9.1 108) (M9.1 115) i)), some (.int (nI i))] [] M9 (QI (S8_front M n w)) := by
      intro k9
      induction k9 using Nat.strongRecOn with
      | _ k9 ih =>
      intro i hk9
      refine aw_iload_n (i := 3) dX8_front_25 rfl rfl ?_
      refine aw_aload_n (i := 0) dX8_front_26 rfl rfl ?_
      refine aw_getN (n := n) gf_X8_132 sh_105 rfl gY.1 dX8_front_27 ?_
      refine aw_icmp_geN (tgt := 77) (by omega) (by omega) dX8_front_30 (by decide) (fun h30 => ?_) (fun h30 => ?_)
      ·
        refine aw_aload_n (i := 0) dX8_front_77 rfl rfl ?_
        refine aw_cVv ck_X8_287 (m_X8_backAll gY.1 hg.2.1) sh_105 rfl (by decide) (by decide) rfl rfl (Nat.le_of_ble_eq_true rfl) dX8_front_78 ?_
        refine aw_iload_n (i := 2) dX8_front_81 rfl rfl ?_
        exact aw_iret rfl dX8_front_82 ⟨_, rfl, by unfold S8_front; (first | rw [pIf_t h5] | rw [pIf_f h5] | rw [pIf_f (Int32.not_lt.mpr h5)] | rw [pIf_f (Int32.not_le.mpr h5)] | rw [pIf_t (Int32.not_le.mp h5)] | rw [pIf_t (Int32.not_lt.mp h5)] | rw [pIf_f (Nat.not_lt.mpr h5)] | rw [pIf_f (Nat.not_le.mpr h5)] | rw [pIf_t (Nat.not_le.mp h5)] | rw [pIf_t (Nat.not_lt.mp h5)] | skip); exact ⟨M9, ht9, rfl, by rw [show i = n from by omega]⟩⟩
      ·
        refine aw_aload_n (i := 0) dX8_front_33 rfl rfl ?_
        refine aw_getR gf_X8_47 sh_105 rfl dX8_front_34 ?_
        refine aw_iload_n (i := 3) dX8_front_37 rfl rfl ?_
        refine aw_ialdN sh_115 (by omega) (by omega) dX8_front_38 ?_
        refine aw_iconst (v := 1) dX8_front_39 (by decide) ?_
        refine aw_icmp_ne (tgt := 71) dX8_front_40 (by decide) (fun h40 => ?_) (fun h40 => ?_)
        ·
          refine aw_iincN (i := 3) dX8_front_71 rfl (by decide) ?_
          refine aw_goto (tgt := 25) dX8_front_74 (by decide) ?_
          refine aw_loc (la := [some (.ref 105), some (.int w), some (.int (lst8 (M9.1 108) (M9.1 115) (i + 1))), some (.int (nI (i + 1)))]) ⟨rfl, rfl, congrArg (fun z => some (Value.int z)) (lst8_f (fun z => by first | exact h40 z.1 | exact z.2.elim h45 (fun q => absurd h58 (Int32.not_le.mpr q)))), rfl, trivial⟩ (ih (k9 - 1) (by omega) (i + 1) (by omega))
        ·
          refine aw_iload_n (i := 2) dX8_front_43 rfl rfl ?_
          refine aw_iconst (v := (-1)) dX8_front_44 (by decide) ?_
          refine aw_icmp_eq (tgt := 61) dX8_front_45 (by decide) (fun h45 => ?_) (fun h45 => ?_)
          ·
            refine aw_aload_n (i := 0) dX8_front_61 rfl rfl ?_
            refine aw_getR gf_X8_26 sh_105 rfl dX8_front_62 ?_
            refine aw_iload_n (i := 3) dX8_front_65 rfl rfl ?_
            refine aw_ialdN sh_108 (by omega) (by omega) dX8_front_66 ?_
            refine aw_bipush (v := 8) dX8_front_67 (by decide) ?_
            refine aw_idiv dX8_front_69 (by decide) ?_
            refine aw_istore_n (i := 2) dX8_front_70 rfl (by decide) ?_
            refine aw_iincN (i := 3) dX8_front_71 rfl (by decide) ?_
            refine aw_goto (tgt := 25) dX8_front_74 (by decide) ?_
            refine aw_loc (la := [some (.ref 105), some (.int w), some (.int (lst8 (M9.1 108) (M9.1 115) (i + 1))), some (.int (nI (i + 1)))]) ⟨rfl, rfl, congrArg (fun z => some (Value.int z)) (lst8_t ⟨h40, by first | exact Or.inl h45 | exact Or.inr (Int32.not_le.mp h58)⟩), rfl, trivial⟩ (ih (k9 - 1) (by omega) (i + 1) (by omega))
          ·
            refine aw_aload_n (i := 0) dX8_front_48 rfl rfl ?_
            refine aw_getR gf_X8_26 sh_105 rfl dX8_front_49 ?_
            refine aw_iload_n (i := 3) dX8_front_52 rfl rfl ?_
            refine aw_ialdN sh_108 (by omega) (by omega) dX8_front_53 ?_
            refine aw_bipush (v := 8) dX8_front_54 (by decide) ?_
            refine aw_idiv dX8_front_56 (by decide) ?_
            refine aw_iload_n (i := 2) dX8_front_57 rfl rfl ?_
            refine aw_icmp_ge (tgt := 71) dX8_front_58 (by decide) (fun h58 => ?_) (fun h58 => ?_)
            ·
              refine aw_iincN (i := 3) dX8_front_71 rfl (by decide) ?_
              refine aw_goto (tgt := 25) dX8_front_74 (by decide) ?_
              refine aw_loc (la := [some (.ref 105), some (.int w), some (.int (lst8 (M9.1 108) (M9.1 115) (i + 1))), some (.int (nI (i + 1)))]) ⟨rfl, rfl, congrArg (fun z => some (Value.int z)) (lst8_f (fun z => by first | exact h40 z.1 | exact z.2.elim h45 (fun q => absurd h58 (Int32.not_le.mpr q)))), rfl, trivial⟩ (ih (k9 - 1) (by omega) (i + 1) (by omega))
            ·
              refine aw_aload_n (i := 0) dX8_front_61 rfl rfl ?_
              refine aw_getR gf_X8_26 sh_105 rfl dX8_front_62 ?_
              refine aw_iload_n (i := 3) dX8_front_65 rfl rfl ?_
              refine aw_ialdN sh_108 (by omega) (by omega) dX8_front_66 ?_
              refine aw_bipush (v := 8) dX8_front_67 (by decide) ?_
              refine aw_idiv dX8_front_69 (by decide) ?_
              refine aw_istore_n (i := 2) dX8_front_70 rfl (by decide) ?_
              refine aw_iincN (i := 3) dX8_front_71 rfl (by decide) ?_
              refine aw_goto (tgt := 25) dX8_front_74 (by decide) ?_
              refine aw_loc (la := [some (.ref 105), some (.int w), some (.int (lst8 (M9.1 108) (M9.1 115) (i + 1))), some (.int (nI (i + 1)))]) ⟨rfl, rfl, congrArg (fun z => some (Value.int z)) (lst8_t ⟨h40, by first | exact Or.inl h45 | exact Or.inr (Int32.not_le.mp h58)⟩), rfl, trivial⟩ (ih (k9 - 1) (by omega) (i + 1) (by omega))
    refine aw_loc (la := [some (.ref 105), some (.int w), some (.int (lst8 (M9.1 108) (M9.1 115) 0)), some (.int (nI 0))]) ⟨rfl, rfl, rfl, rfl, trivial⟩ ?_
    exact lp25 n 0 (by omega)
  ·
    refine aw_aload_n (i := 0) dX8_front_8 rfl rfl ?_
    refine aw_iconst (v := (-1)) dX8_front_9 (by decide) ?_
    refine aw_cVi ck_X8_209 (m_X8_noTen (k := 1) (by decide) (by decide)) sh_105 rfl (by decide) (by decide) rfl rfl (Nat.le_of_ble_eq_true rfl) dX8_front_10 ?_
    exact aw_iret rfl dX8_front_13 (by first | contradiction | exact ⟨_, rfl, by unfold S8_front; (first | rw [pIf_t h5] | rw [pIf_f h5] | rw [pIf_f (Int32.not_lt.mpr h5)] | rw [pIf_f (Int32.not_le.mpr h5)] | rw [pIf_t (Int32.not_le.mp h5)] | rw [pIf_t (Int32.not_lt.mp h5)] | rw [pIf_f (Nat.not_lt.mpr h5)] | rw [pIf_f (Nat.not_le.mpr h5)] | rw [pIf_t (Nat.not_le.mp h5)] | rw [pIf_t (Nat.not_lt.mp h5)] | skip); exact ⟨rfl, rfl⟩⟩)
def told8 (X : Mm) (k m : Nat) : Prop := ∀ i, i < m → it8 X k i = X.1 137 i
def S8_fit (T : Nat → Prop) (n lc : Nat) (M : Mm) (s x : Int32) (v : Int32) (M' : Mm) : Prop := pIf (wan8 M s = 0) (pIf (x < 0) (v = -4 ∧ M' = nox M 4) (pIf (x ≤ M.1 122 s.toNatClampNeg) (out8 n M M' ∧ v = bitsI lc T) (v = -5 ∧ M' = nox M 5))) (v = wan8 M s ∧ M' = noxA M (wan8 M s))
theorem fit_n {M : Mm} {k : Nat} {x : Int32} (hz : siz8 M) (hk : k < 8) (h1 : ¬ x < 0) (h2 : x ≤ M.1 122 k) : ∃ m, m < 101 ∧ x = nI m := by
  obtain ⟨z, hz1, hz2⟩ := hz k hk
  rw [hz2] at h2
  rcases pk_ix x (n := 101) (by omega) with q | q | q
  · exact absurd q h1
  · rw [Int32.le_iff_toInt_le, nI_toInt (by omega)] at q h2
    omega
  · exact q
theorem m_X8_fit {l : Launch} {M : Mm} {s x : Int32} {T : Nat → Prop} (hz : siz8 M) {n : Nat} (hg : g8 n M) {lc : Nat} (hlc : M.1 105 1 = nI lc) (hl6 : lc ≤ 6) (hT : ∀ l7 X X', l7 < lc → out8 n M X → wb8 n (nI l7) x.toNatClampNeg X X' → (told8 X' s.toNatClampNeg x.toNatClampNeg ↔ T l7)) : AMet l 6 yX8_fit cX8_fit 8 (some FieldType.int) [.ref 105, .int s, .int x] M (QI (S8_fit T n lc M s x)) := by
  refine AMet.of (by decide) (by simp [aargs, Value.category]) ?_
  show AW l 6 yX8_fit cX8_fit 8 (some FieldType.int) 0 [some (.ref 105), some (.int s), some (.int x), none, none, none, none, none] [] M _
  have hg30 := hg.2.1
  refine aw_aload_n (i := 0) dX8_fit_0 rfl rfl ?_
  refine aw_iload_n (i := 1) dX8_fit_1 rfl rfl ?_
  refine aw_cVi ck_X8_173 m_X8_wants sh_105 rfl (by decide) (by decide) rfl rfl (Nat.le_of_ble_eq_true rfl) dX8_fit_2 ?_
  refine aw_istore_n (i := 3) dX8_fit_5 rfl (by decide) ?_
  refine aw_iload_n (i := 3) dX8_fit_6 rfl rfl ?_
  refine aw_if_eq (tgt := 16) dX8_fit_7 (by decide) (fun h7 => ?_) (fun h7 => ?_)
  ·
    obtain ⟨k, hk, rfl⟩ := wan_k h7
    refine aw_iload_n (i := 2) dX8_fit_16 rfl rfl ?_
    refine aw_if_ge (tgt := 27) dX8_fit_17 (by decide) (fun h17 => ?_) (fun h17 => ?_)
    ·
      refine aw_iload_n (i := 2) dX8_fit_27 rfl rfl ?_
      refine aw_aload_n (i := 0) dX8_fit_28 rfl rfl ?_
      refine aw_getR gf_X8_68 sh_105 rfl dX8_fit_29 ?_
      refine aw_iload_n (i := 1) dX8_fit_32 rfl rfl ?_
      refine aw_ialdN sh_122 (by omega) (by omega) dX8_fit_33 ?_
      refine aw_icmp_le (tgt := 44) dX8_fit_34 (by decide) (fun h34 => ?_) (fun h34 => ?_)
      ·
        obtain ⟨m, hm, rfl⟩ := fit_n hz hk (Int32.not_lt.mpr h17) h34
        rw [nI_clamp (show m < 2 ^ 31 from by omega), nI_clamp (show k < 2 ^ 31 from by omega)] at hT
        refine aw_iconst (v := 0) dX8_fit_44 (by decide) ?_
        refine aw_istore (i := 4) dX8_fit_45 (by decide) ?_
        refine aw_iconst (v := 0) dX8_fit_47 (by decide) ?_
        refine aw_istore (i := 5) dX8_fit_48 (by decide) ?_
        have lp50 : ∀ k9 l7 X, l7 + k9 = lc → out8 n M X → AW l 6 yX8_fit cX8_fit 8 (some FieldType.int) 50 [some (.ref 105), some (.int (nI k)), some (.int (nI m)), none, some (.int (bitsI l7 T)), some (.int (nI l7)), none, none] [] X (QI (S8_fit T n lc M (nI k) (nI m))) := by
          intro k9
          induction k9 using Nat.strongRecOn with
          | _ k9 ih =>
          intro l7 X hk9 hX
          refine aw_iload (i := 5) dX8_fit_50 rfl ?_
          refine aw_aload_n (i := 0) dX8_fit_52 rfl rfl ?_
          refine aw_getN (n := lc) gf_X8_135 sh_105 rfl ((hX.2.2.2 1 (by decide)).trans hlc) dX8_fit_53 ?_
          refine aw_icmp_geN (tgt := 137) (by omega) (by omega) dX8_fit_56 (by decide) (fun h56 => ?_) (fun h56 => ?_)
          ·
            refine aw_iload (i := 4) dX8_fit_137 rfl ?_
            exact aw_iret rfl dX8_fit_139 ⟨_, rfl, by unfold S8_fit; rw [nI_clamp (show k < 2 ^ 31 from by omega)]; (first | rw [pIf_t h7] | rw [pIf_f h7] | rw [pIf_f (Int32.not_lt.mpr h7)] | rw [pIf_f (Int32.not_le.mpr h7)] | rw [pIf_t (Int32.not_le.mp h7)] | rw [pIf_t (Int32.not_lt.mp h7)] | rw [pIf_f (Nat.not_lt.mpr h7)] | rw [pIf_f (Nat.not_le.mpr h7)] | rw [pIf_t (Nat.not_le.mp h7)] | rw [pIf_t (Nat.not_lt.mp h7)] | skip); (first | rw [pIf_t h17] | rw [pIf_f h17] | rw [pIf_f (Int32.not_lt.mpr h17)] | rw [pIf_f (Int32.not_le.mpr h17)] | rw [pIf_t (Int32.not_le.mp h17)] | rw [pIf_t (Int32.not_lt.mp h17)] | rw [pIf_f (Nat.not_lt.mpr h17)] | rw [pIf_f (Nat.not_le.mpr h17)] | rw [pIf_t (Nat.not_le.mp h17)] | rw [pIf_t (Nat.not_lt.mp h17)] | skip); (first | rw [pIf_t h34] | rw [pIf_f h34] | rw [pIf_f (Int32.not_lt.mpr h34)] | rw [pIf_f (Int32.not_le.mpr h34)] | rw [pIf_t (Int32.not_le.mp h34)] | rw [pIf_t (Int32.not_lt.mp h34)] | rw [pIf_f (Nat.not_lt.mpr h34)] | rw [pIf_f (Nat.not_le.mpr h34)] | rw [pIf_t (Nat.not_le.mp h34)] | rw [pIf_t (Nat.not_lt.mp h34)] | skip); exact ⟨hX, by rw [show l7 = lc by omega]⟩⟩
          ·
            refine aw_aload_n (i := 0) dX8_fit_59 rfl rfl ?_
            refine aw_iload (i := 5) dX8_fit_60 rfl ?_
            refine aw_iload_n (i := 2) dX8_fit_62 rfl rfl ?_
            refine aw_cVQ ck_X8_284 (m_X8_whole (hX.g hg) (Or.inr ⟨l7, by omega, rfl⟩) (by omega)) sh_105 rfl (by decide) (by decide) rfl rfl (Nat.le_of_ble_eq_true rfl) dX8_fit_63 (fun r M9 hq9 => ?_)
            obtain ⟨rfl, ht9⟩ := hq9
            have hY := hX.tr (wb8_out ⟨M9, ht9, rfl⟩)
            have hTl := hT l7 X (bakM n M9) (by omega) hX ⟨M9, ht9, rfl⟩
            refine aw_aload_n (i := 0) dX8_fit_66 rfl rfl ?_
            refine aw_cVv ck_X8_287 (m_X8_backAll (ev8_g (kep_g (hX.g hg)) ht9).1 hg.2.1) sh_105 rfl (by decide) (by decide) rfl rfl (Nat.le_of_ble_eq_true rfl) dX8_fit_67 ?_
            have J117 : AW l 6 yX8_fit cX8_fit 8 (some FieldType.int) 117 [some (.ref 105), some (.int (nI k)), some (.int (nI m)), none, some (.int (bitsI l7 T)), some (.int (nI l7)), some (.int (b01 (told8 (bakM n M9) k m))), none] [] (bakM n M9) (QI (S8_fit T n lc M (nI k) (nI m))) := by
              refine aw_iload (i := 6) dX8_fit_117 rfl ?_
              refine aw_ifeq_b (tgt := 131) dX8_fit_119 (by decide) (fun h119 => ?_) (fun h119 => ?_)
              ·
                refine aw_iincN (i := 5) dX8_fit_131 rfl (by decide) ?_
                refine aw_goto (tgt := 50) dX8_fit_134 (by decide) ?_
                refine aw_loc (la := [some (.ref 105), some (.int (nI k)), some (.int (nI m)), none, some (.int (bitsI (l7 + 1) T)), some (.int (nI (l7 + 1))), none, none]) ⟨rfl, rfl, rfl, congrArg (fun z => some (Value.int z)) (bitsI_f (fun q => h119 (hTl.mpr q))).symm, rfl, trivial⟩ ?_
                exact ih (k9 - 1) (by omega) (l7 + 1) _ (by omega) hY
              ·
                refine aw_iload (i := 4) dX8_fit_122 rfl ?_
                refine aw_iconst (v := 1) dX8_fit_124 (by decide) ?_
                refine aw_iload (i := 5) dX8_fit_125 rfl ?_
                refine aw_ishl dX8_fit_127 ?_
                refine aw_ior dX8_fit_128 ?_
                refine aw_istore (i := 4) dX8_fit_129 (by decide) ?_
                refine aw_iincN (i := 5) dX8_fit_131 rfl (by decide) ?_
                refine aw_goto (tgt := 50) dX8_fit_134 (by decide) ?_
                refine aw_loc (la := [some (.ref 105), some (.int (nI k)), some (.int (nI m)), none, some (.int (bitsI (l7 + 1) T)), some (.int (nI (l7 + 1))), none, none]) ⟨rfl, rfl, rfl, congrArg (fun z => some (Value.int z)) (bitsI_t (hTl.mp h119)).symm, rfl, trivial⟩ ?_
                exact ih (k9 - 1) (by omega) (l7 + 1) _ (by omega) hY
            refine aw_iconst (v := 1) dX8_fit_70 (by decide) ?_
            refine aw_istore (i := 6) dX8_fit_71 (by decide) ?_
            refine aw_iconst (v := 0) dX8_fit_73 (by decide) ?_
            refine aw_istore (i := 7) dX8_fit_74 (by decide) ?_
            have lp76 : ∀ k8 i, i + k8 = m → AW l 6 yX8_fit cX8_fit 8 (some FieldType.int) 76 [some (.ref 105), some (.int (nI k)), some (.int (nI m)), none, some (.int (bitsI l7 T)), some (.int (nI l7)), some (.int (b01 (∀ q, q < i → it8 (bakM n M9) k q = (bakM n M9).1 137 q))), some (.int (nI i))] [] (bakM n M9) (QI (S8_fit T n lc M (nI k) (nI m))) := by
              intro k8
              induction k8 using Nat.strongRecOn with
              | _ k8 ih8 =>
              intro i hk8
              refine aw_iload (i := 7) dX8_fit_76 rfl ?_
              refine aw_iload_n (i := 2) dX8_fit_78 rfl rfl ?_
              refine aw_icmp_geN (tgt := 117) (by omega) (by omega) dX8_fit_79 (by decide) (fun h79 => ?_) (fun h79 => ?_)
              ·
                refine aw_loc (la := [some (.ref 105), some (.int (nI k)), some (.int (nI m)), none, some (.int (bitsI l7 T)), some (.int (nI l7)), some (.int (b01 (told8 (bakM n M9) k m))), none]) ⟨rfl, rfl, rfl, rfl, rfl, congrArg (fun z => some (Value.int z)) (b01_c ⟨fun q j hj => q j (by omega), fun q j hj => q j (by omega)⟩), trivial⟩ J117
              ·
                refine aw_iload (i := 6) dX8_fit_82 rfl ?_
                refine aw_ifeq_b (tgt := 117) dX8_fit_84 (by decide) (fun h84 => ?_) (fun h84 => ?_)
                ·
                  refine aw_loc (la := [some (.ref 105), some (.int (nI k)), some (.int (nI m)), none, some (.int (bitsI l7 T)), some (.int (nI l7)), some (.int (b01 (told8 (bakM n M9) k m))), none]) ⟨rfl, rfl, rfl, rfl, rfl, congrArg (fun z => some (Value.int z)) (b01_c ⟨fun q => absurd q h84, fun q => absurd (fun j hj => q j (by omega)) h84⟩), trivial⟩ J117
                ·
                  refine aw_aload_n (i := 0) dX8_fit_87 rfl rfl ?_
                  refine aw_iload_n (i := 1) dX8_fit_88 rfl rfl ?_
                  refine aw_iload (i := 7) dX8_fit_89 rfl ?_
                  refine aw_cVi ck_X8_176 (m_X8_intAt hk (by omega)) sh_105 rfl (by decide) (by decide) rfl rfl (Nat.le_of_ble_eq_true rfl) dX8_fit_91 ?_
                  refine aw_aload_n (i := 0) dX8_fit_94 rfl rfl ?_
                  refine aw_getR gf_X8_117 sh_105 rfl dX8_fit_95 ?_
                  refine aw_iload (i := 7) dX8_fit_98 rfl ?_
                  refine aw_ialdN sh_137 (by omega) (by omega) dX8_fit_100 ?_
                  refine aw_ternC_ne (tgt := 108) (j := 109) (v := 1) (w := 0) dX8_fit_101 (by decide) dX8_fit_104 (by decide) dX8_fit_105 (by decide) dX8_fit_108 (by decide) rfl ?_
                  refine aw_top t01a ?_
                  refine aw_istore (i := 6) dX8_fit_109 (by decide) ?_
                  refine aw_iincN (i := 7) dX8_fit_111 rfl (by decide) ?_
                  refine aw_goto (tgt := 76) dX8_fit_114 (by decide) ?_
                  refine aw_loc (la := [some (.ref 105), some (.int (nI k)), some (.int (nI m)), none, some (.int (bitsI l7 T)), some (.int (nI l7)), some (.int (b01 (∀ q, q < (i + 1) → it8 (bakM n M9) k q = (bakM n M9).1 137 q))), some (.int (nI (i + 1)))]) ⟨rfl, rfl, rfl, rfl, rfl, congrArg (fun z => some (Value.int z)) (b01_c ⟨fun z q hq => by
                    by_cases e : q = i
                    · subst e; exact Classical.not_not.mp z
                    · exact h84 q (by omega), fun z w => w (z i (by omega))⟩), rfl, trivial⟩ ?_
                  exact ih8 (k8 - 1) (by omega) (i + 1) (by omega)
            refine aw_loc (la := [some (.ref 105), some (.int (nI k)), some (.int (nI m)), none, some (.int (bitsI l7 T)), some (.int (nI l7)), some (.int (b01 (∀ q, q < 0 → it8 (bakM n M9) k q = (bakM n M9).1 137 q))), some (.int (nI 0))]) ⟨rfl, rfl, rfl, rfl, rfl, congrArg (fun z => some (Value.int z)) (b01_t (fun q hq => absurd hq (by omega))).symm, rfl, trivial⟩ ?_
            exact lp76 m 0 (by omega)
        refine aw_loc (la := [some (.ref 105), some (.int (nI k)), some (.int (nI m)), none, some (.int (bitsI 0 T)), some (.int (nI 0)), none, none]) ⟨rfl, rfl, rfl, rfl, rfl, trivial⟩ ?_
        exact lp50 lc 0 M (by omega) out8.rf
      ·
        refine aw_aload_n (i := 0) dX8_fit_37 rfl rfl ?_
        refine aw_bipush (v := (-5)) dX8_fit_38 (by decide) ?_
        refine aw_cVi ck_X8_142 (m_X8_no (k := 5) (by decide) (by decide)) sh_105 rfl (by decide) (by decide) rfl rfl (Nat.le_of_ble_eq_true rfl) dX8_fit_40 ?_
        exact aw_iret rfl dX8_fit_43 ⟨_, rfl, by unfold S8_fit; (try rw [nI_clamp (show k < 2 ^ 31 from by omega)]); (first | rw [pIf_t h7] | rw [pIf_f h7] | rw [pIf_f (Int32.not_lt.mpr h7)] | rw [pIf_f (Int32.not_le.mpr h7)] | rw [pIf_t (Int32.not_le.mp h7)] | rw [pIf_t (Int32.not_lt.mp h7)] | rw [pIf_f (Nat.not_lt.mpr h7)] | rw [pIf_f (Nat.not_le.mpr h7)] | rw [pIf_t (Nat.not_le.mp h7)] | rw [pIf_t (Nat.not_lt.mp h7)] | skip); (first | rw [pIf_t h17] | rw [pIf_f h17] | rw [pIf_f (Int32.not_lt.mpr h17)] | rw [pIf_f (Int32.not_le.mpr h17)] | rw [pIf_t (Int32.not_le.mp h17)] | rw [pIf_t (Int32.not_lt.mp h17)] | rw [pIf_f (Nat.not_lt.mpr h17)] | rw [pIf_f (Nat.not_le.mpr h17)] | rw [pIf_t (Nat.not_le.mp h17)] | rw [pIf_t (Nat.not_lt.mp h17)] | skip); (first | rw [pIf_t h34] | rw [pIf_f h34] | rw [pIf_f (Int32.not_lt.mpr h34)] | rw [pIf_f (Int32.not_le.mpr h34)] | rw [pIf_t (Int32.not_le.mp h34)] | rw [pIf_t (Int32.not_lt.mp h34)] | rw [pIf_f (Nat.not_lt.mpr h34)] | rw [pIf_f (Nat.not_le.mpr h34)] | rw [pIf_t (Nat.not_le.mp h34)] | rw [pIf_t (Nat.not_lt.mp h34)] | skip); exact ⟨rfl, rfl⟩⟩
    ·
      refine aw_aload_n (i := 0) dX8_fit_20 rfl rfl ?_
      refine aw_bipush (v := (-4)) dX8_fit_21 (by decide) ?_
      refine aw_cVi ck_X8_142 (m_X8_no (k := 4) (by decide) (by decide)) sh_105 rfl (by decide) (by decide) rfl rfl (Nat.le_of_ble_eq_true rfl) dX8_fit_23 ?_
      exact aw_iret rfl dX8_fit_26 ⟨_, rfl, by unfold S8_fit; (try rw [nI_clamp (show k < 2 ^ 31 from by omega)]); (first | rw [pIf_t h7] | rw [pIf_f h7] | rw [pIf_f (Int32.not_lt.mpr h7)] | rw [pIf_f (Int32.not_le.mpr h7)] | rw [pIf_t (Int32.not_le.mp h7)] | rw [pIf_t (Int32.not_lt.mp h7)] | rw [pIf_f (Nat.not_lt.mpr h7)] | rw [pIf_f (Nat.not_le.mpr h7)] | rw [pIf_t (Nat.not_le.mp h7)] | rw [pIf_t (Nat.not_lt.mp h7)] | skip); (first | rw [pIf_t h17] | rw [pIf_f h17] | rw [pIf_f (Int32.not_lt.mpr h17)] | rw [pIf_f (Int32.not_le.mpr h17)] | rw [pIf_t (Int32.not_le.mp h17)] | rw [pIf_t (Int32.not_lt.mp h17)] | rw [pIf_f (Nat.not_lt.mpr h17)] | rw [pIf_f (Nat.not_le.mpr h17)] | rw [pIf_t (Nat.not_le.mp h17)] | rw [pIf_t (Nat.not_lt.mp h17)] | skip); exact ⟨rfl, rfl⟩⟩
  ·
    have hno := wan_ok h7
    refine aw_aload_n (i := 0) dX8_fit_10 rfl rfl ?_
    refine aw_iload_n (i := 3) dX8_fit_11 rfl rfl ?_
    refine aw_cVi ck_X8_142 (m_X8_noA hno) sh_105 rfl (by decide) (by decide) rfl rfl (Nat.le_of_ble_eq_true rfl) dX8_fit_12 ?_
    exact aw_iret rfl dX8_fit_15 ⟨_, rfl, by unfold S8_fit; (try rw [nI_clamp (show k < 2 ^ 31 from by omega)]); (first | rw [pIf_t h7] | rw [pIf_f h7] | rw [pIf_f (Int32.not_lt.mpr h7)] | rw [pIf_f (Int32.not_le.mpr h7)] | rw [pIf_t (Int32.not_le.mp h7)] | rw [pIf_t (Int32.not_lt.mp h7)] | rw [pIf_f (Nat.not_lt.mpr h7)] | rw [pIf_f (Nat.not_le.mpr h7)] | rw [pIf_t (Nat.not_le.mp h7)] | rw [pIf_t (Nat.not_lt.mp h7)] | skip); exact ⟨rfl, rfl⟩⟩
noncomputable def oth8 (m : Nat) (Y : Mm) : Mm := rI Y 138 (upto (Y.1 138) (Y.1 137) m)
theorem oth8_g {n m : Nat} {Y : Mm} (h : g8 n Y) : g8 n (oth8 m Y) := h.of (congrFun (rI_other (by decide)) 0) (rI_other (by decide)) (rI_other (by decide)) (rI_other (by decide))
theorem oth8_out {n m : Nat} {M Y : Mm} (h : out8 n M Y) : out8 n M (oth8 m Y) := h.tr ⟨rfl, fun k hk => rI_other (by omega), fun k j a b c => congrFun (rI_other (by omega)) j, fun j hj => congrFun (rI_other (by decide)) j⟩
def S8_part (M : Mm) (n : Nat) (w o x : Int32) (v : Int32) (M' : Mm) : Prop := pIf (¬ w < -1 ∧ ¬ M.1 105 1 ≤ w) (pIf (¬ o < -1 ∧ ¬ M.1 105 1 ≤ o) (pIf (¬ x < 0 ∧ ¬ 200 < x) (∃ Y j, wb8 n w x.toNatClampNeg M Y ∧ wb8 n o x.toNatClampNeg (oth8 x.toNatClampNeg Y) M' ∧ j ≤ x.toNatClampNeg ∧ (∀ i, i < j → M'.1 138 i = M'.1 137 i) ∧ ((j < x.toNatClampNeg ∧ ¬ M'.1 138 j = M'.1 137 j ∧ v = nI j) ∨ (j = x.toNatClampNeg ∧ v = -1))) (v = -6 - 10 ∧ M' = nox M 6)) (v = -1 - 10 ∧ M' = nox M 1)) (v = -1 - 10 ∧ M' = nox M 1)
theorem m_X8_part {l : Launch} {M : Mm} {w o x : Int32} {n : Nat} (hg : g8 n M) {lc : Nat} (hlc : M.1 105 1 = nI lc) (hl6 : lc ≤ 6) : AMet l 6 yX8_part cX8_part 5 (some FieldType.int) [.ref 105, .int w, .int o, .int x] M (QI (S8_part M n w o x)) := by
  refine AMet.of (by decide) (by simp [aargs, Value.category]) ?_
  show AW l 6 yX8_part cX8_part 5 (some FieldType.int) 0 [some (.ref 105), some (.int w), some (.int o), some (.int x), none] [] M _
  have hg30 := hg.2.1
  refine aw_aload_n (i := 0) dX8_part_0 rfl rfl ?_
  refine aw_iload_n (i := 1) dX8_part_1 rfl rfl ?_
  refine aw_cVi ck_X8_206 m_X8_isLaws sh_105 rfl (by decide) (by decide) rfl rfl (Nat.le_of_ble_eq_true rfl) dX8_part_2 ?_
  refine aw_ifeq_b (tgt := 16) dX8_part_5 (by decide) (fun h5 => ?_) (fun h5 => ?_)
  ·
    refine aw_aload_n (i := 0) dX8_part_16 rfl rfl ?_
    refine aw_iconst (v := (-1)) dX8_part_17 (by decide) ?_
    refine aw_cVi ck_X8_209 (m_X8_noTen (k := 1) (by decide) (by decide)) sh_105 rfl (by decide) (by decide) rfl rfl (Nat.le_of_ble_eq_true rfl) dX8_part_18 ?_
    exact aw_iret rfl dX8_part_21 (by first | contradiction | exact ⟨_, rfl, by unfold S8_part; (first | rw [pIf_t h5] | rw [pIf_f h5] | rw [pIf_f (Int32.not_lt.mpr h5)] | rw [pIf_f (Int32.not_le.mpr h5)] | rw [pIf_t (Int32.not_le.mp h5)] | rw [pIf_t (Int32.not_lt.mp h5)] | rw [pIf_f (Nat.not_lt.mpr h5)] | rw [pIf_f (Nat.not_le.mpr h5)] | rw [pIf_t (Nat.not_le.mp h5)] | rw [pIf_t (Nat.not_lt.mp h5)] | skip); exact ⟨rfl, rfl⟩⟩)
  ·
    refine aw_aload_n (i := 0) dX8_part_8 rfl rfl ?_
    refine aw_iload_n (i := 2) dX8_part_9 rfl rfl ?_
    refine aw_cVi ck_X8_206 m_X8_isLaws sh_105 rfl (by decide) (by decide) rfl rfl (Nat.le_of_ble_eq_true rfl) dX8_part_10 ?_
    refine aw_ifne_b (tgt := 22) dX8_part_13 (by decide) (fun h13 => ?_) (fun h13 => ?_)
    ·
      refine aw_aload_n (i := 0) dX8_part_22 rfl rfl ?_
      refine aw_iload_n (i := 3) dX8_part_23 rfl rfl ?_
      refine aw_cVi ck_X8_281 m_X8_isTicks sh_105 rfl (by decide) (by decide) rfl rfl (Nat.le_of_ble_eq_true rfl) dX8_part_24 ?_
      refine aw_ifne_b (tgt := 37) dX8_part_27 (by decide) (fun h27 => ?_) (fun h27 => ?_)
      ·
        obtain ⟨m, hm, rfl⟩ := n0_200 h27
        have hw := lw8 hlc hl6 h5
        have ho := lw8 hlc hl6 h13
        refine aw_aload_n (i := 0) dX8_part_37 rfl rfl ?_
        refine aw_iload_n (i := 1) dX8_part_38 rfl rfl ?_
        refine aw_iload_n (i := 3) dX8_part_39 rfl rfl ?_
        refine aw_cVQ ck_X8_284 (m_X8_whole hg hw (by omega)) sh_105 rfl (by decide) (by decide) rfl rfl (Nat.le_of_ble_eq_true rfl) dX8_part_40 (fun r Y1 hq9 => ?_)
        obtain ⟨rfl, ht1⟩ := hq9
        have gY := ev8_g (kep_g hg) ht1
        refine aw_aload_n (i := 0) dX8_part_43 rfl rfl ?_
        refine aw_cVv ck_X8_287 (m_X8_backAll gY.1 hg.2.1) sh_105 rfl (by decide) (by decide) rfl rfl (Nat.le_of_ble_eq_true rfl) dX8_part_44 ?_
        refine aw_iconst (v := 0) dX8_part_47 (by decide) ?_
        refine aw_istore (i := 4) dX8_part_48 (by decide) ?_
        have lp50 : ∀ k9 i, i + k9 = m → AW l 6 yX8_part cX8_part 5 (some FieldType.int) 50 [some (.ref 105), some (.int w), some (.int o), some (.int (nI m)), some (.int (nI i))] [] (rI (bakM n Y1) 138 (upto ((bakM n Y1).1 138) ((bakM n Y1).1 137) i)) (QI (S8_part M n w o (nI m))) := by
          intro k9
          induction k9 using Nat.strongRecOn with
          | _ k9 ih =>
          intro i hk9
          refine aw_iload (i := 4) dX8_part_50 rfl ?_
          refine aw_iload_n (i := 3) dX8_part_52 rfl rfl ?_
          refine aw_icmp_geN (tgt := 76) (by omega) (by omega) dX8_part_53 (by decide) (fun h53 => ?_) (fun h53 => ?_)
          ·
            rw [show i = m from by omega]
            have gO : g8 n (oth8 m (bakM n Y1)) := oth8_g (bak_g gY)
            refine aw_aload_n (i := 0) dX8_part_76 rfl rfl ?_
            refine aw_iload_n (i := 2) dX8_part_77 rfl rfl ?_
            refine aw_iload_n (i := 3) dX8_part_78 rfl rfl ?_
            refine aw_cVQ ck_X8_284 (m_X8_whole gO ho (by omega)) sh_105 rfl (by decide) (by decide) rfl rfl (Nat.le_of_ble_eq_true rfl) dX8_part_79 (fun r Y2 hq9 => ?_)
            obtain ⟨rfl, ht2⟩ := hq9
            have gZ := ev8_g (kep_g gO) ht2
            refine aw_aload_n (i := 0) dX8_part_82 rfl rfl ?_
            refine aw_cVv ck_X8_287 (m_X8_backAll gZ.1 hg.2.1) sh_105 rfl (by decide) (by decide) rfl rfl (Nat.le_of_ble_eq_true rfl) dX8_part_83 ?_
            refine aw_iconst (v := 0) dX8_part_86 (by decide) ?_
            refine aw_istore (i := 4) dX8_part_87 (by decide) ?_
            have lp89 : ∀ k8 j, j + k8 = m → (∀ q, q < j → (bakM n Y2).1 138 q = (bakM n Y2).1 137 q) → AW l 6 yX8_part cX8_part 5 (some FieldType.int) 89 [some (.ref 105), some (.int w), some (.int o), some (.int (nI m)), some (.int (nI j))] [] (bakM n Y2) (QI (S8_part M n w o (nI m))) := by
              intro k8
              induction k8 using Nat.strongRecOn with
              | _ k8 ih8 =>
              intro j hk8 hall
              refine aw_iload (i := 4) dX8_part_89 rfl ?_
              refine aw_iload_n (i := 3) dX8_part_91 rfl rfl ?_
              refine aw_icmp_geN (tgt := 121) (by omega) (by omega) dX8_part_92 (by decide) (fun h92 => ?_) (fun h92 => ?_)
              ·
                refine aw_iconst (v := (-1)) dX8_part_121 (by decide) ?_
                exact aw_iret rfl dX8_part_122 ⟨_, rfl, by unfold S8_part; rw [nI_clamp (show m < 2 ^ 31 from by omega)]; (first | rw [pIf_t h5] | rw [pIf_f h5] | rw [pIf_f (Int32.not_lt.mpr h5)] | rw [pIf_f (Int32.not_le.mpr h5)] | rw [pIf_t (Int32.not_le.mp h5)] | rw [pIf_t (Int32.not_lt.mp h5)] | rw [pIf_f (Nat.not_lt.mpr h5)] | rw [pIf_f (Nat.not_le.mpr h5)] | rw [pIf_t (Nat.not_le.mp h5)] | rw [pIf_t (Nat.not_lt.mp h5)] | skip); (first | rw [pIf_t h13] | rw [pIf_f h13] | rw [pIf_f (Int32.not_lt.mpr h13)] | rw [pIf_f (Int32.not_le.mpr h13)] | rw [pIf_t (Int32.not_le.mp h13)] | rw [pIf_t (Int32.not_lt.mp h13)] | rw [pIf_f (Nat.not_lt.mpr h13)] | rw [pIf_f (Nat.not_le.mpr h13)] | rw [pIf_t (Nat.not_le.mp h13)] | rw [pIf_t (Nat.not_lt.mp h13)] | skip); (first | rw [pIf_t h27] | rw [pIf_f h27] | rw [pIf_f (Int32.not_lt.mpr h27)] | rw [pIf_f (Int32.not_le.mpr h27)] | rw [pIf_t (Int32.not_le.mp h27)] | rw [pIf_t (Int32.not_lt.mp h27)] | rw [pIf_f (Nat.not_lt.mpr h27)] | rw [pIf_f (Nat.not_le.mpr h27)] | rw [pIf_t (Nat.not_le.mp h27)] | rw [pIf_t (Nat.not_lt.mp h27)] | skip); exact ⟨_, j, ⟨Y1, ht1, rfl⟩, ⟨Y2, ht2, rfl⟩, by omega, hall, Or.inr ⟨by omega, rfl⟩⟩⟩
              ·
                refine aw_aload_n (i := 0) dX8_part_95 rfl rfl ?_
                refine aw_getR gf_X8_120 sh_105 rfl dX8_part_96 ?_
                refine aw_iload (i := 4) dX8_part_99 rfl ?_
                refine aw_ialdN sh_138 (by omega) (by omega) dX8_part_101 ?_
                refine aw_aload_n (i := 0) dX8_part_102 rfl rfl ?_
                refine aw_getR gf_X8_117 sh_105 rfl dX8_part_103 ?_
                refine aw_iload (i := 4) dX8_part_106 rfl ?_
                refine aw_ialdN sh_137 (by omega) (by omega) dX8_part_108 ?_
                refine aw_icmp_eq (tgt := 115) dX8_part_109 (by decide) (fun h109 => ?_) (fun h109 => ?_)
                ·
                  refine aw_iincN (i := 4) dX8_part_115 rfl (by decide) ?_
                  refine aw_goto (tgt := 89) dX8_part_118 (by decide) ?_
                  refine aw_loc (la := [some (.ref 105), some (.int w), some (.int o), some (.int (nI m)), some (.int (nI (j + 1)))]) ⟨rfl, rfl, rfl, rfl, rfl, trivial⟩ ?_
                  exact ih8 (k8 - 1) (by omega) (j + 1) (by omega) (fun q hq => by
                    by_cases e : q = j
                    · subst e; exact h109
                    · exact hall q (by omega))
                ·
                  refine aw_iload (i := 4) dX8_part_112 rfl ?_
                  exact aw_iret rfl dX8_part_114 ⟨_, rfl, by unfold S8_part; rw [nI_clamp (show m < 2 ^ 31 from by omega)]; (first | rw [pIf_t h5] | rw [pIf_f h5] | rw [pIf_f (Int32.not_lt.mpr h5)] | rw [pIf_f (Int32.not_le.mpr h5)] | rw [pIf_t (Int32.not_le.mp h5)] | rw [pIf_t (Int32.not_lt.mp h5)] | rw [pIf_f (Nat.not_lt.mpr h5)] | rw [pIf_f (Nat.not_le.mpr h5)] | rw [pIf_t (Nat.not_le.mp h5)] | rw [pIf_t (Nat.not_lt.mp h5)] | skip); (first | rw [pIf_t h13] | rw [pIf_f h13] | rw [pIf_f (Int32.not_lt.mpr h13)] | rw [pIf_f (Int32.not_le.mpr h13)] | rw [pIf_t (Int32.not_le.mp h13)] | rw [pIf_t (Int32.not_lt.mp h13)] | rw [pIf_f (Nat.not_lt.mpr h13)] | rw [pIf_f (Nat.not_le.mpr h13)] | rw [pIf_t (Nat.not_le.mp h13)] | rw [pIf_t (Nat.not_lt.mp h13)] | skip); (first | rw [pIf_t h27] | rw [pIf_f h27] | rw [pIf_f (Int32.not_lt.mpr h27)] | rw [pIf_f (Int32.not_le.mpr h27)] | rw [pIf_t (Int32.not_le.mp h27)] | rw [pIf_t (Int32.not_lt.mp h27)] | rw [pIf_f (Nat.not_lt.mpr h27)] | rw [pIf_f (Nat.not_le.mpr h27)] | rw [pIf_t (Nat.not_le.mp h27)] | rw [pIf_t (Nat.not_lt.mp h27)] | skip); exact ⟨_, j, ⟨Y1, ht1, rfl⟩, ⟨Y2, ht2, rfl⟩, by omega, hall, Or.inl ⟨by omega, h109, rfl⟩⟩⟩
            refine aw_loc (la := [some (.ref 105), some (.int w), some (.int o), some (.int (nI m)), some (.int (nI 0))]) ⟨rfl, rfl, rfl, rfl, rfl, trivial⟩ ?_
            exact lp89 m 0 (by omega) (fun q hq => absurd hq (by omega))
          ·
            refine aw_aload_n (i := 0) dX8_part_56 rfl rfl ?_
            refine aw_getR gf_X8_120 sh_105 rfl dX8_part_57 ?_
            refine aw_iload (i := 4) dX8_part_60 rfl ?_
            refine aw_aload_n (i := 0) dX8_part_62 rfl rfl ?_
            refine aw_getR gf_X8_117 sh_105 rfl dX8_part_63 ?_
            refine aw_iload (i := 4) dX8_part_66 rfl ?_
            refine aw_ialdN sh_137 (by omega) (by omega) dX8_part_68 ?_
            refine aw_iastN sh_138 (by omega) (by omega) dX8_part_69 ?_
            refine aw_iincN (i := 4) dX8_part_70 rfl (by decide) ?_
            refine aw_goto (tgt := 50) dX8_part_73 (by decide) ?_
            refine aw_mem (M' := (rI (bakM n Y1) 138 (upto ((bakM n Y1).1 138) ((bakM n Y1).1 137) (i + 1)))) (by rw [mI_rI, rI_self, rI_rI]; refine congrArg (rI (bakM n Y1) 138) (upto_s ?_); exact congrFun (rI_other (by decide)) i) ?_
            refine aw_loc (la := [some (.ref 105), some (.int w), some (.int o), some (.int (nI m)), some (.int (nI (i + 1)))]) ⟨rfl, rfl, rfl, rfl, rfl, trivial⟩ ?_
            exact ih (k9 - 1) (by omega) (i + 1) (by omega)
        refine aw_mem (M' := (rI (bakM n Y1) 138 (upto ((bakM n Y1).1 138) ((bakM n Y1).1 137) 0))) (by rw [upto_0]; exact (rI_id (bakM n Y1) 138).symm) ?_
        refine aw_loc (la := [some (.ref 105), some (.int w), some (.int o), some (.int (nI m)), some (.int (nI 0))]) ⟨rfl, rfl, rfl, rfl, rfl, trivial⟩ ?_
        exact lp50 m 0 (by omega)
      ·
        refine aw_aload_n (i := 0) dX8_part_30 rfl rfl ?_
        refine aw_bipush (v := (-6)) dX8_part_31 (by decide) ?_
        refine aw_cVi ck_X8_209 (m_X8_noTen (k := 6) (by decide) (by decide)) sh_105 rfl (by decide) (by decide) rfl rfl (Nat.le_of_ble_eq_true rfl) dX8_part_33 ?_
        exact aw_iret rfl dX8_part_36 (by first | contradiction | exact ⟨_, rfl, by unfold S8_part; (first | rw [pIf_t h5] | rw [pIf_f h5] | rw [pIf_f (Int32.not_lt.mpr h5)] | rw [pIf_f (Int32.not_le.mpr h5)] | rw [pIf_t (Int32.not_le.mp h5)] | rw [pIf_t (Int32.not_lt.mp h5)] | rw [pIf_f (Nat.not_lt.mpr h5)] | rw [pIf_f (Nat.not_le.mpr h5)] | rw [pIf_t (Nat.not_le.mp h5)] | rw [pIf_t (Nat.not_lt.mp h5)] | skip); (first | rw [pIf_t h13] | rw [pIf_f h13] | rw [pIf_f (Int32.not_lt.mpr h13)] | rw [pIf_f (Int32.not_le.mpr h13)] | rw [pIf_t (Int32.not_le.mp h13)] | rw [pIf_t (Int32.not_lt.mp h13)] | rw [pIf_f (Nat.not_lt.mpr h13)] | rw [pIf_f (Nat.not_le.mpr h13)] | rw [pIf_t (Nat.not_le.mp h13)] | rw [pIf_t (Nat.not_lt.mp h13)] | skip); (first | rw [pIf_t h27] | rw [pIf_f h27] | rw [pIf_f (Int32.not_lt.mpr h27)] | rw [pIf_f (Int32.not_le.mpr h27)] | rw [pIf_t (Int32.not_le.mp h27)] | rw [pIf_t (Int32.not_lt.mp h27)] | rw [pIf_f (Nat.not_lt.mpr h27)] | rw [pIf_f (Nat.not_le.mpr h27)] | rw [pIf_t (Nat.not_le.mp h27)] | rw [pIf_t (Nat.not_lt.mp h27)] | skip); exact ⟨rfl, rfl⟩⟩)
    ·
      refine aw_aload_n (i := 0) dX8_part_16 rfl rfl ?_
      refine aw_iconst (v := (-1)) dX8_part_17 (by decide) ?_
      refine aw_cVi ck_X8_209 (m_X8_noTen (k := 1) (by decide) (by decide)) sh_105 rfl (by decide) (by decide) rfl rfl (Nat.le_of_ble_eq_true rfl) dX8_part_18 ?_
      exact aw_iret rfl dX8_part_21 (by first | contradiction | exact ⟨_, rfl, by unfold S8_part; (first | rw [pIf_t h5] | rw [pIf_f h5] | rw [pIf_f (Int32.not_lt.mpr h5)] | rw [pIf_f (Int32.not_le.mpr h5)] | rw [pIf_t (Int32.not_le.mp h5)] | rw [pIf_t (Int32.not_lt.mp h5)] | rw [pIf_f (Nat.not_lt.mpr h5)] | rw [pIf_f (Nat.not_le.mpr h5)] | rw [pIf_t (Nat.not_le.mp h5)] | rw [pIf_t (Nat.not_lt.mp h5)] | skip); (first | rw [pIf_t h13] | rw [pIf_f h13] | rw [pIf_f (Int32.not_lt.mpr h13)] | rw [pIf_f (Int32.not_le.mpr h13)] | rw [pIf_t (Int32.not_le.mp h13)] | rw [pIf_t (Int32.not_lt.mp h13)] | rw [pIf_f (Nat.not_lt.mpr h13)] | rw [pIf_f (Nat.not_le.mpr h13)] | rw [pIf_t (Nat.not_le.mp h13)] | rw [pIf_t (Nat.not_lt.mp h13)] | skip); exact ⟨rfl, rfl⟩⟩)
noncomputable def mn8 (ln : Nat → Int32) : Nat → Int32
  | 0 => 0
  | i + 1 => pIf (i = 0 ∨ ln i < mn8 ln i) (ln i) (mn8 ln i)
noncomputable def mx8 (ln : Nat → Int32) : Nat → Int32
  | 0 => 0
  | i + 1 => pIf (i = 0 ∨ mx8 ln i < ln i) (ln i) (mx8 ln i)
noncomputable def sp0 (n i : Nat) (X : Mm) : Mm := mI (kepM n X) 105 4 ((kepM n X).1 105 4 + nI i)
theorem sp0_g {n i : Nat} {X : Mm} (h : g8 n X) : g8 n (sp0 n i X) := g_105 (by decide) (kep_g h)
theorem sp0_5 {n i : Nat} {X : Mm} : (sp0 n i X).1 105 5 = X.1 105 5 := by
  unfold sp0
  rw [mI_self, upd_other (by decide), kep_sc.2.2 5 (by decide)]
def sp8 (n i : Nat) (X X' : Mm) : Prop := ∃ Y, ev8 n (X.1 105 5) 100 (sp0 n i X) Y ∧ X' = bakM n Y
theorem sp8_out {n i : Nat} {X X' : Mm} (h : sp8 n i X X') : out8 n X X' := by
  obtain ⟨Y, he, rfl⟩ := h
  exact bak_out (ev8_kp (kp8_k.m5 (by omega)) he) (ev8_sc (kep_sc.m5 (by omega)) he) ((ev8_36 he).trans (by unfold sp0; rw [mI_self, upd_other (by decide), kep_36]))
theorem z20 : ∀ i, i < 21 → (nI i = 0 ↔ i = 0) := by decide +kernel
def S8_spread (ln : Nat → Int32) (n : Nat) (M : Mm) (x : Int32) (v : Int32) (M' : Mm) : Prop := pIf (x < 1) (v = -6 ∧ M' = nox M 6) (pIf (20 < x) (v = -6 ∧ M' = nox M 6) (out8 n M M' ∧ v = mx8 ln x.toNatClampNeg - mn8 ln x.toNatClampNeg))
theorem m_X8_spread {l : Launch} {M : Mm} {x : Int32} {ln : Nat → Int32} {n : Nat} (hg : g8 n M) (hfo : okW (M.1 105 5)) (hL : ∀ i X X', out8 n M X → sp8 n i X X' → lenI (X'.1 137) 100 = ln i) : AMet l 6 yX8_spread cX8_spread 6 (some FieldType.int) [.ref 105, .int x] M (QI (S8_spread ln n M x)) := by
  refine AMet.of (by decide) (by simp [aargs, Value.category]) ?_
  show AW l 6 yX8_spread cX8_spread 6 (some FieldType.int) 0 [some (.ref 105), some (.int x), none, none, none, none] [] M _
  have hg30 := hg.2.1
  refine aw_iload_n (i := 1) dX8_spread_0 rfl rfl ?_
  refine aw_iconst (v := 1) dX8_spread_1 (by decide) ?_
  refine aw_icmp_lt (tgt := 11) dX8_spread_2 (by decide) (fun h2 => ?_) (fun h2 => ?_)
  ·
    refine aw_aload_n (i := 0) dX8_spread_11 rfl rfl ?_
    refine aw_bipush (v := (-6)) dX8_spread_12 (by decide) ?_
    refine aw_cVi ck_X8_142 (m_X8_no (k := 6) (by decide) (by decide)) sh_105 rfl (by decide) (by decide) rfl rfl (Nat.le_of_ble_eq_true rfl) dX8_spread_14 ?_
    exact aw_iret rfl dX8_spread_17 (by first | contradiction | exact ⟨_, rfl, by unfold S8_spread; (first | rw [pIf_t h2] | rw [pIf_f h2] | rw [pIf_f (Int32.not_lt.mpr h2)] | rw [pIf_f (Int32.not_le.mpr h2)] | rw [pIf_t (Int32.not_le.mp h2)] | rw [pIf_t (Int32.not_lt.mp h2)] | rw [pIf_f (Nat.not_lt.mpr h2)] | rw [pIf_f (Nat.not_le.mpr h2)] | rw [pIf_t (Nat.not_le.mp h2)] | rw [pIf_t (Nat.not_lt.mp h2)] | skip); exact ⟨rfl, rfl⟩⟩)
  ·
    refine aw_iload_n (i := 1) dX8_spread_5 rfl rfl ?_
    refine aw_bipush (v := 20) dX8_spread_6 (by decide) ?_
    refine aw_icmp_le (tgt := 18) dX8_spread_8 (by decide) (fun h8 => ?_) (fun h8 => ?_)
    ·
      obtain ⟨m, hm, rfl⟩ := n1_20 h2 h8
      refine aw_iconst (v := 0) dX8_spread_18 (by decide) ?_
      refine aw_istore_n (i := 2) dX8_spread_19 rfl (by decide) ?_
      refine aw_iconst (v := 0) dX8_spread_20 (by decide) ?_
      refine aw_istore_n (i := 3) dX8_spread_21 rfl (by decide) ?_
      refine aw_iconst (v := 0) dX8_spread_22 (by decide) ?_
      refine aw_istore (i := 4) dX8_spread_23 (by decide) ?_
      have lp25 : ∀ k9 i X, i + k9 = m → out8 n M X → AW l 6 yX8_spread cX8_spread 6 (some FieldType.int) 25 [some (.ref 105), some (.int (nI m)), some (.int (mn8 ln i)), some (.int (mx8 ln i)), some (.int (nI i)), none] [] X (QI (S8_spread ln n M (nI m))) := by
        intro k9
        induction k9 using Nat.strongRecOn with
        | _ k9 ih =>
        intro i X hk9 hX
        refine aw_iload (i := 4) dX8_spread_25 rfl ?_
        refine aw_iload_n (i := 1) dX8_spread_27 rfl rfl ?_
        refine aw_icmp_geN (tgt := 102) (by omega) (by omega) dX8_spread_28 (by decide) (fun h28 => ?_) (fun h28 => ?_)
        ·
          refine aw_iload_n (i := 3) dX8_spread_102 rfl rfl ?_
          refine aw_iload_n (i := 2) dX8_spread_103 rfl rfl ?_
          refine aw_isub dX8_spread_104 ?_
          exact aw_iret rfl dX8_spread_105 ⟨_, rfl, by unfold S8_spread; rw [nI_clamp (show m < 2 ^ 31 from by omega)]; (first | rw [pIf_t h2] | rw [pIf_f h2] | rw [pIf_f (Int32.not_lt.mpr h2)] | rw [pIf_f (Int32.not_le.mpr h2)] | rw [pIf_t (Int32.not_le.mp h2)] | rw [pIf_t (Int32.not_lt.mp h2)] | rw [pIf_f (Nat.not_lt.mpr h2)] | rw [pIf_f (Nat.not_le.mpr h2)] | rw [pIf_t (Nat.not_le.mp h2)] | rw [pIf_t (Nat.not_lt.mp h2)] | skip); (first | rw [pIf_t h8] | rw [pIf_f h8] | rw [pIf_f (Int32.not_lt.mpr h8)] | rw [pIf_f (Int32.not_le.mpr h8)] | rw [pIf_t (Int32.not_le.mp h8)] | rw [pIf_t (Int32.not_lt.mp h8)] | rw [pIf_f (Nat.not_lt.mpr h8)] | rw [pIf_f (Nat.not_le.mpr h8)] | rw [pIf_t (Nat.not_le.mp h8)] | rw [pIf_t (Nat.not_lt.mp h8)] | skip); exact ⟨hX, by rw [show i = m by omega]⟩⟩
        ·
          refine aw_aload_n (i := 0) dX8_spread_31 rfl rfl ?_
          refine aw_cVv ck_X8_274 (m_X8_keepsAll (hX.g hg).1 hg.2.1) sh_105 rfl (by decide) (by decide) rfl rfl (Nat.le_of_ble_eq_true rfl) dX8_spread_32 ?_
          refine aw_aload_n (i := 0) dX8_spread_35 rfl rfl ?_
          refine aw_dup dX8_spread_36 rfl ?_
          refine aw_getI gf_X8_7 sh_105 rfl dX8_spread_37 ?_
          refine aw_iload (i := 4) dX8_spread_40 rfl ?_
          refine aw_iadd dX8_spread_42 ?_
          refine aw_putI pf_X8_7 sh_105 rfl dX8_spread_43 ?_
          refine aw_aload_n (i := 0) dX8_spread_46 rfl rfl ?_
          refine aw_aload_n (i := 0) dX8_spread_47 rfl rfl ?_
          refine aw_getX gf_X8_13 sh_105 rfl sp0_5 dX8_spread_48 ?_
          refine aw_bipush (v := 100) dX8_spread_51 (by decide) ?_
          refine aw_top (show (100 : Int32) = nI 100 from rfl) ?_
          refine aw_cVQ ck_X8_277 (m_X8_evening (sp0_g (hX.g hg)) (by rw [hX.2.2.2 5 (by decide)]; exact hfo) (by omega)) sh_105 rfl (by decide) (by decide) rfl rfl (Nat.le_of_ble_eq_true rfl) dX8_spread_53 (fun r M9 hq9 => ?_)
          obtain ⟨rfl, ht9⟩ := hq9
          have hs8 : sp8 n i X (bakM n M9) := ⟨M9, ht9, rfl⟩
          have hLi := hL i X (bakM n M9) hX hs8
          refine aw_aload_n (i := 0) dX8_spread_56 rfl rfl ?_
          refine aw_cVv ck_X8_287 (m_X8_backAll (ev8_g (sp0_g (hX.g hg)) ht9).1 hg.2.1) sh_105 rfl (by decide) (by decide) rfl rfl (Nat.le_of_ble_eq_true rfl) dX8_spread_57 ?_
          refine aw_aload_n (i := 0) dX8_spread_60 rfl rfl ?_
          refine aw_bipush (v := 100) dX8_spread_61 (by decide) ?_
          refine aw_top (show (100 : Int32) = nI 100 from rfl) ?_
          refine aw_cVi ck_X8_290 (m_X8_lengthOf (by omega)) sh_105 rfl (by decide) (by decide) rfl rfl (Nat.le_of_ble_eq_true rfl) dX8_spread_63 ?_
          rw [hLi]
          refine aw_istore (i := 5) dX8_spread_66 (by decide) ?_
          have J96 : AW l 6 yX8_spread cX8_spread 6 (some FieldType.int) 96 [some (.ref 105), some (.int (nI m)), some (.int (mn8 ln (i + 1))), some (.int (mx8 ln (i + 1))), some (.int (nI i)), some (.int (ln i))] [] (bakM n M9) (QI (S8_spread ln n M (nI m))) := by
            refine aw_iincN (i := 4) dX8_spread_96 rfl (by decide) ?_
            refine aw_goto (tgt := 25) dX8_spread_99 (by decide) ?_
            refine aw_loc (la := [some (.ref 105), some (.int (nI m)), some (.int (mn8 ln (i + 1))), some (.int (mx8 ln (i + 1))), some (.int (nI (i + 1))), none]) ⟨rfl, rfl, rfl, rfl, rfl, trivial⟩ ?_
            exact ih (k9 - 1) (by omega) (i + 1) _ (by omega) (hX.tr (sp8_out hs8))
          have J82 : AW l 6 yX8_spread cX8_spread 6 (some FieldType.int) 82 [some (.ref 105), some (.int (nI m)), some (.int (mn8 ln (i + 1))), some (.int (mx8 ln i)), some (.int (nI i)), some (.int (ln i))] [] (bakM n M9) (QI (S8_spread ln n M (nI m))) := by
            refine aw_iload (i := 4) dX8_spread_82 rfl ?_
            refine aw_if_eq (tgt := 93) dX8_spread_84 (by decide) (fun h84 => ?_) (fun h84 => ?_)
            ·
              refine aw_iload (i := 5) dX8_spread_93 rfl ?_
              refine aw_istore_n (i := 3) dX8_spread_95 rfl (by decide) ?_
              refine aw_loc (la := [some (.ref 105), some (.int (nI m)), some (.int (mn8 ln (i + 1))), some (.int (mx8 ln (i + 1))), some (.int (nI i)), some (.int (ln i))]) ⟨rfl, rfl, rfl, congrArg (fun z => some (Value.int z)) (pIf_t (Or.inl ((z20 i (by omega)).mp h84))).symm, rfl, rfl, trivial⟩ J96
            ·
              refine aw_iload (i := 5) dX8_spread_87 rfl ?_
              refine aw_iload_n (i := 3) dX8_spread_89 rfl rfl ?_
              refine aw_icmp_le (tgt := 96) dX8_spread_90 (by decide) (fun h90 => ?_) (fun h90 => ?_)
              ·
                refine aw_loc (la := [some (.ref 105), some (.int (nI m)), some (.int (mn8 ln (i + 1))), some (.int (mx8 ln (i + 1))), some (.int (nI i)), some (.int (ln i))]) ⟨rfl, rfl, rfl, congrArg (fun z => some (Value.int z)) (pIf_f (fun z => z.elim (fun q => h84 ((z20 i (by omega)).mpr q)) (fun q => absurd h90 (Int32.not_le.mpr q)))).symm, rfl, rfl, trivial⟩ J96
              ·
                refine aw_iload (i := 5) dX8_spread_93 rfl ?_
                refine aw_istore_n (i := 3) dX8_spread_95 rfl (by decide) ?_
                refine aw_loc (la := [some (.ref 105), some (.int (nI m)), some (.int (mn8 ln (i + 1))), some (.int (mx8 ln (i + 1))), some (.int (nI i)), some (.int (ln i))]) ⟨rfl, rfl, rfl, congrArg (fun z => some (Value.int z)) (pIf_t (Or.inr (Int32.not_le.mp h90))).symm, rfl, rfl, trivial⟩ J96
          refine aw_iload (i := 4) dX8_spread_68 rfl ?_
          refine aw_if_eq (tgt := 79) dX8_spread_70 (by decide) (fun h70 => ?_) (fun h70 => ?_)
          ·
            refine aw_iload (i := 5) dX8_spread_79 rfl ?_
            refine aw_istore_n (i := 2) dX8_spread_81 rfl (by decide) ?_
            refine aw_loc (la := [some (.ref 105), some (.int (nI m)), some (.int (mn8 ln (i + 1))), some (.int (mx8 ln i)), some (.int (nI i)), some (.int (ln i))]) ⟨rfl, rfl, congrArg (fun z => some (Value.int z)) (pIf_t (Or.inl ((z20 i (by omega)).mp h70))).symm, rfl, rfl, rfl, trivial⟩ J82
          ·
            refine aw_iload (i := 5) dX8_spread_73 rfl ?_
            refine aw_iload_n (i := 2) dX8_spread_75 rfl rfl ?_
            refine aw_icmp_ge (tgt := 82) dX8_spread_76 (by decide) (fun h76 => ?_) (fun h76 => ?_)
            ·
              refine aw_loc (la := [some (.ref 105), some (.int (nI m)), some (.int (mn8 ln (i + 1))), some (.int (mx8 ln i)), some (.int (nI i)), some (.int (ln i))]) ⟨rfl, rfl, congrArg (fun z => some (Value.int z)) (pIf_f (fun z => z.elim (fun q => h70 ((z20 i (by omega)).mpr q)) (fun q => absurd h76 (Int32.not_le.mpr q)))).symm, rfl, rfl, rfl, trivial⟩ J82
            ·
              refine aw_iload (i := 5) dX8_spread_79 rfl ?_
              refine aw_istore_n (i := 2) dX8_spread_81 rfl (by decide) ?_
              refine aw_loc (la := [some (.ref 105), some (.int (nI m)), some (.int (mn8 ln (i + 1))), some (.int (mx8 ln i)), some (.int (nI i)), some (.int (ln i))]) ⟨rfl, rfl, congrArg (fun z => some (Value.int z)) (pIf_t (Or.inr (Int32.not_le.mp h76))).symm, rfl, rfl, rfl, trivial⟩ J82
      refine aw_loc (la := [some (.ref 105), some (.int (nI m)), some (.int (mn8 ln 0)), some (.int (mx8 ln 0)), some (.int (nI 0)), none]) ⟨rfl, rfl, rfl, rfl, rfl, trivial⟩ ?_
      exact lp25 m 0 M (by omega) out8.rf
    ·
      refine aw_aload_n (i := 0) dX8_spread_11 rfl rfl ?_
      refine aw_bipush (v := (-6)) dX8_spread_12 (by decide) ?_
      refine aw_cVi ck_X8_142 (m_X8_no (k := 6) (by decide) (by decide)) sh_105 rfl (by decide) (by decide) rfl rfl (Nat.le_of_ble_eq_true rfl) dX8_spread_14 ?_
      exact aw_iret rfl dX8_spread_17 (by first | contradiction | exact ⟨_, rfl, by unfold S8_spread; (first | rw [pIf_t h2] | rw [pIf_f h2] | rw [pIf_f (Int32.not_lt.mpr h2)] | rw [pIf_f (Int32.not_le.mpr h2)] | rw [pIf_t (Int32.not_le.mp h2)] | rw [pIf_t (Int32.not_lt.mp h2)] | rw [pIf_f (Nat.not_lt.mpr h2)] | rw [pIf_f (Nat.not_le.mpr h2)] | rw [pIf_t (Nat.not_le.mp h2)] | rw [pIf_t (Nat.not_lt.mp h2)] | skip); (first | rw [pIf_t h8] | rw [pIf_f h8] | rw [pIf_f (Int32.not_lt.mpr h8)] | rw [pIf_f (Int32.not_le.mpr h8)] | rw [pIf_t (Int32.not_le.mp h8)] | rw [pIf_t (Int32.not_lt.mp h8)] | rw [pIf_f (Nat.not_lt.mpr h8)] | rw [pIf_f (Nat.not_le.mpr h8)] | rw [pIf_t (Nat.not_le.mp h8)] | rw [pIf_t (Nat.not_lt.mp h8)] | skip); exact ⟨rfl, rfl⟩⟩)
