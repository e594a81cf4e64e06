def bodyI (k a : Int32) : Int32 := if k * 3 + a < 0 then 0 else if 21 ≤ k * 3 + a then 0 else bodF (k * 3 + a).toNatClampNeg
theorem in_21 {i : Int32} (h1 : ¬ i < 0) (h2 : ¬ 21 ≤ i) : vp_in i 21 := by
  rcases pk_ix i (n := 21) (by omega) with q | q | ⟨j, q1, q2⟩
  · exact absurd q h1
  · exact absurd q h2
  · rw [q2]; exact vp_in_nI q1 (by omega)
theorem m_X0_bodyOf {l : Launch} {M : Mm} {k a : Int32} : AMet l 1 yX0_bodyOf cX0_bodyOf 3 (some FieldType.int) [.int k, .int a] M (QE (some (.int (bodyI k a))) M) := by
  refine AMet.of (by decide) (by simp [aargs, Value.category]) ?_
  show AW l 1 yX0_bodyOf cX0_bodyOf 3 (some FieldType.int) 0 [some (.int k), some (.int a), none] [] M _
  refine aw_iload_n (i := 0) dX0_bodyOf_0 rfl rfl ?_
  refine aw_iconst (v := 3) dX0_bodyOf_1 (by decide) ?_
  refine aw_imul dX0_bodyOf_2 ?_
  refine aw_iload_n (i := 1) dX0_bodyOf_3 rfl rfl ?_
  refine aw_iadd dX0_bodyOf_4 ?_
  refine aw_istore_n (i := 2) dX0_bodyOf_5 rfl (by decide) ?_
  refine aw_iload_n (i := 2) dX0_bodyOf_6 rfl rfl ?_
  refine aw_if_lt (tgt := 26) dX0_bodyOf_7 (by decide) (fun h7 => ?_) (fun h7 => ?_)
  ·
    refine aw_iconst (v := 0) dX0_bodyOf_26 (by decide) ?_
    exact aw_iret rfl dX0_bodyOf_27 (by simp [QE, b01, bodyI, h7])
  ·
    refine aw_iload_n (i := 2) dX0_bodyOf_10 rfl rfl ?_
    refine aw_getsB (List.mem_append_right _ (List.mem_of_getElem? (i := 844) (by decide +kernel))) dX0_bodyOf_11 ?_
    refine aw_tlenB dX0_bodyOf_14 ?_
    refine aw_icmp_ge (tgt := 26) dX0_bodyOf_15 (by decide) (fun h15 => ?_) (fun h15 => ?_)
    ·
      refine aw_iconst (v := 0) dX0_bodyOf_26 (by decide) ?_
      exact aw_iret rfl dX0_bodyOf_27 (by simp [QE, b01, bodyI, h7, h15])
    ·
      refine aw_getsB (List.mem_append_right _ (List.mem_of_getElem? (i := 844) (by decide +kernel))) dX0_bodyOf_18 ?_
      refine aw_iload_n (i := 2) dX0_bodyOf_21 rfl rfl ?_
      refine aw_tiB (in_21 h7 h15) dX0_bodyOf_22 ?_
      refine aw_goto (tgt := 27) dX0_bodyOf_23 (by decide) ?_
      exact aw_iret rfl dX0_bodyOf_27 (by simp [QE, b01, bodyI, h7, h15])
theorem m_X0_forget {l : Launch} {M : Mm} : AMet l 1 yX0_forget cX0_forget 1 none [.ref 103] M (QE none (mI M 103 1 0)) := by
  refine AMet.of (by decide) (by simp [aargs, Value.category]) ?_
  show AW l 1 yX0_forget cX0_forget 1 none 0 [some (.ref 103)] [] M _
  refine aw_aload_n (i := 0) dX0_forget_0 rfl rfl ?_
  refine aw_iconst (v := 0) dX0_forget_1 (by decide) ?_
  refine aw_putI pf_X0_15 sh_103 rfl dX0_forget_2 ?_
  exact aw_vret rfl dX0_forget_5 ⟨rfl, rfl⟩
def ntM (b : Int32) (r : Nat) (M : Mm) : Mm := mI (mI M 104 r b) 103 1 (nI (r + 1))
def trs : Nat → List Int32 → Mm → Mm
  | _, [], M => M
  | r, b :: t, M => trs (r + 1) t (ntM b r M)
theorem ntM_f {b : Int32} {r j : Nat} {M : Mm} (h : j ≠ 1) : (ntM b r M).1 103 j = M.1 103 j := by rw [ntM, mI_self, upd_other h, mI_other (by decide)]
theorem ntM_1 {b : Int32} {r : Nat} {M : Mm} : (ntM b r M).1 103 1 = nI (r + 1) := by rw [ntM, mI_self, upd_self]
theorem trs_f {j : Nat} (h : j ≠ 1) : ∀ (T : List Int32) (r : Nat) (M : Mm), (trs r T M).1 103 j = M.1 103 j
  | [], _, _ => rfl
  | b :: t, r, M => by rw [trs, trs_f h t, ntM_f h]
theorem trs_1 : ∀ (T : List Int32) (r : Nat) (M : Mm), M.1 103 1 = nI r → (trs r T M).1 103 1 = nI (r + T.length)
  | [], _, _, h => h
  | b :: t, r, M, h => by rw [trs, trs_1 t (r + 1) _ ntM_1, show r + 1 + t.length = r + (b :: t).length by simp; omega]
theorem trs_app : ∀ (T U : List Int32) (r : Nat) (M : Mm), trs (r + T.length) U (trs r T M) = trs r (T ++ U) M
  | [], _, _, _ => rfl
  | b :: t, U, r, M => by
    have := trs_app t U (r + 1) (ntM b r M)
    rw [show r + (b :: t).length = r + 1 + t.length by simp; omega]
    exact this
theorem m_X0_note {l : Launch} {M : Mm} {b : Int32} {r : Nat} (hr : M.1 103 1 = nI r) (h20 : r < 20) : AMet l 1 yX0_note cX0_note 2 none [.ref 103, .int b] M (QE none (ntM b r M)) := by
  refine AMet.of (by decide) (by simp [aargs, Value.category]) ?_
  show AW l 1 yX0_note cX0_note 2 none 0 [some (.ref 103), some (.int b)] [] M _
  refine aw_aload_n (i := 0) dX0_note_0 rfl rfl ?_
  refine aw_getN (n := r) gf_X0_15 sh_103 rfl (by first | exact hr | (rw [mI_other (by decide)]; exact hr)) dX0_note_1 ?_
  refine aw_bipush (v := 20) dX0_note_4 (by decide) ?_
  refine aw_top (show (20 : Int32) = nI 20 from rfl) ?_
  refine aw_icmp_geN (tgt := 19) (by omega) (by omega) dX0_note_6 (by decide) (fun h6 => ?_) (fun h6 => ?_)
  ·
    exact absurd h6 (by omega)
  ·
    refine aw_aload_n (i := 0) dX0_note_9 rfl rfl ?_
    refine aw_getR gf_X0_9 sh_103 rfl dX0_note_10 ?_
    refine aw_aload_n (i := 0) dX0_note_13 rfl rfl ?_
    refine aw_getN (n := r) gf_X0_15 sh_103 rfl (by first | exact hr | (rw [mI_other (by decide)]; exact hr)) dX0_note_14 ?_
    refine aw_iload_n (i := 1) dX0_note_17 rfl rfl ?_
    refine aw_iastN sh_104 (by omega) (by omega) dX0_note_18 ?_
    refine aw_aload_n (i := 0) dX0_note_19 rfl rfl ?_
    refine aw_dup dX0_note_20 rfl ?_
    refine aw_getN (n := r) gf_X0_15 sh_103 rfl (by first | exact hr | (rw [mI_other (by decide)]; exact hr)) dX0_note_21 ?_
    refine aw_iconst (v := 1) dX0_note_24 (by decide) ?_
    refine aw_iadd dX0_note_25 ?_
    refine aw_top (nI_1 r) ?_
    refine aw_putI pf_X0_15 sh_103 rfl dX0_note_26 ?_
    exact aw_vret rfl dX0_note_29 ⟨rfl, rfl⟩
/-- what a call of an act's body gives: the answer R, the bodies T -/
def CS (K m pc f a : Int32) (d : Nat) (x R : Int32) (T : List Int32) : Prop := ∀ (l : Launch) (M : Mm) (r : Nat), M.1 103 2 = K → M.1 103 3 = m → M.1 103 4 = pc → M.1 103 1 = nI r → r + T.length ≤ 20 → AMet l (2 * (20 - d) + 5) yX0_call cX0_call 7 (some .int) [.ref 103, .int f, .int a, .int x, .int (nI d)] M (QE (some (.int R)) (trs r T M))
def AS (K m pc b ab : Int32) (d : Nat) (x R : Int32) (T : List Int32) : Prop := ∀ (l : Launch) (M : Mm) (r : Nat), M.1 103 2 = K → M.1 103 3 = m → M.1 103 4 = pc → M.1 103 1 = nI r → r + T.length ≤ 20 → AMet l (2 * (20 - d) + 6) yX0_answerOf cX0_answerOf 5 (some .int) [.ref 103, .int b, .int ab, .int x, .int (nI d)] M (QE (some (.int R)) (trs r T M))
theorem as_10 {K m pc ab : Int32} {d : Nat} {x : Int32}  : AS K m pc 10 ab d x (x + m) [] := by
  intro l M r h2 h3 h4 h1 hlen
  refine AMet.of (by decide) (by simp [aargs, Value.category]) ?_
  show AW l (2 * (20 - d) + 6) yX0_answerOf cX0_answerOf 5 (some FieldType.int) 0 [some (.ref 103), some (.int 10), some (.int ab), some (.int x), some (.int (nI d))] [] M _
  refine aw_iload_n (i := 1) dX0_answerOf_0 rfl rfl ?_
  ·
    refine aw_lookup (off := 99) (tgt := 100) dX0_answerOf_1 (by decide) (by decide) (by decide) ?_
    refine aw_iload_n (i := 3) dX0_answerOf_100 rfl rfl ?_
    refine aw_aload_n (i := 0) dX0_answerOf_101 rfl rfl ?_
    refine aw_getX (x := m) gf_X0_22 sh_103 rfl (by first | exact h3 | (rw [trs_f (by decide)]; exact h3)) dX0_answerOf_102 ?_
    refine aw_iadd dX0_answerOf_105 ?_
    exact aw_iret rfl dX0_answerOf_106 ⟨rfl, rfl⟩
theorem as_11 {K m pc ab : Int32} {d : Nat} {x : Int32} {R : Int32} {T : List Int32} (h : CS K m pc K 0 d x R T) : AS K m pc 11 ab d x (R * 2) T := by
  intro l M r h2 h3 h4 h1 hlen
  refine AMet.of (by decide) (by simp [aargs, Value.category]) ?_
  show AW l (2 * (20 - d) + 6) yX0_answerOf cX0_answerOf 5 (some FieldType.int) 0 [some (.ref 103), some (.int 11), some (.int ab), some (.int x), some (.int (nI d))] [] M _
  refine aw_iload_n (i := 1) dX0_answerOf_0 rfl rfl ?_
  ·
    refine aw_lookup (off := 106) (tgt := 107) dX0_answerOf_1 (by decide) (by decide) (by decide) ?_
    refine aw_aload_n (i := 0) dX0_answerOf_107 rfl rfl ?_
    refine aw_aload_n (i := 0) dX0_answerOf_108 rfl rfl ?_
    refine aw_getX (x := K) gf_X0_19 sh_103 rfl (by first | exact h2 | (rw [trs_f (by decide)]; exact h2)) dX0_answerOf_109 ?_
    refine aw_iconst (v := 0) dX0_answerOf_112 (by decide) ?_
    refine aw_iload_n (i := 3) dX0_answerOf_113 rfl rfl ?_
    refine aw_iload (i := 4) dX0_answerOf_114 rfl ?_
    refine aw_cVi ck_X0_34 (h l M r h2 h3 h4 h1 hlen) sh_103 rfl (by omega) (by decide) rfl rfl (Nat.le_of_ble_eq_true rfl) dX0_answerOf_116 ?_
    refine aw_iconst (v := 2) dX0_answerOf_119 (by decide) ?_
    refine aw_imul dX0_answerOf_120 ?_
    exact aw_iret rfl dX0_answerOf_121 ⟨rfl, rfl⟩
theorem as_12 {K m pc ab : Int32} {d : Nat} {x : Int32} {R : Int32} {T : List Int32} (h : CS K m pc K 1 d x R T) {R2 : Int32} {T2 : List Int32} (g : CS K m pc K 0 d (x - pc) R2 T2) : AS K m pc 12 ab d x (R ^^^ R2) (T ++ T2) := by
  intro l M r h2 h3 h4 h1 hlen
  rw [List.length_append] at hlen
  refine AMet.of (by decide) (by simp [aargs, Value.category]) ?_
  show AW l (2 * (20 - d) + 6) yX0_answerOf cX0_answerOf 5 (some FieldType.int) 0 [some (.ref 103), some (.int 12), some (.int ab), some (.int x), some (.int (nI d))] [] M _
  refine aw_iload_n (i := 1) dX0_answerOf_0 rfl rfl ?_
  ·
    refine aw_lookup (off := 121) (tgt := 122) dX0_answerOf_1 (by decide) (by decide) (by decide) ?_
    refine aw_aload_n (i := 0) dX0_answerOf_122 rfl rfl ?_
    refine aw_aload_n (i := 0) dX0_answerOf_123 rfl rfl ?_
    refine aw_getX (x := K) gf_X0_19 sh_103 rfl (by first | exact h2 | (rw [trs_f (by decide)]; exact h2)) dX0_answerOf_124 ?_
    refine aw_iconst (v := 1) dX0_answerOf_127 (by decide) ?_
    refine aw_iload_n (i := 3) dX0_answerOf_128 rfl rfl ?_
    refine aw_iload (i := 4) dX0_answerOf_129 rfl ?_
    refine aw_cVi ck_X0_34 (h l M r h2 h3 h4 h1 (by omega)) sh_103 rfl (by omega) (by decide) rfl rfl (Nat.le_of_ble_eq_true rfl) dX0_answerOf_131 ?_
    refine aw_aload_n (i := 0) dX0_answerOf_134 rfl rfl ?_
    refine aw_aload_n (i := 0) dX0_answerOf_135 rfl rfl ?_
    refine aw_getX (x := K) gf_X0_19 sh_103 rfl (by first | exact h2 | (rw [trs_f (by decide)]; exact h2)) dX0_answerOf_136 ?_
    refine aw_iconst (v := 0) dX0_answerOf_139 (by decide) ?_
    refine aw_iload_n (i := 3) dX0_answerOf_140 rfl rfl ?_
    refine aw_aload_n (i := 0) dX0_answerOf_141 rfl rfl ?_
    refine aw_getX (x := pc) gf_X0_25 sh_103 rfl (by first | exact h4 | (rw [trs_f (by decide)]; exact h4)) dX0_answerOf_142 ?_
    refine aw_isub dX0_answerOf_145 ?_
    refine aw_iload (i := 4) dX0_answerOf_146 rfl ?_
    refine aw_cVi ck_X0_34 (g l (trs r T M) (r + T.length) (by rw [trs_f (by decide)]; exact h2) (by rw [trs_f (by decide)]; exact h3) (by rw [trs_f (by decide)]; exact h4) (trs_1 T r M h1) (by omega)) sh_103 rfl (by omega) (by decide) rfl rfl (Nat.le_of_ble_eq_true rfl) dX0_answerOf_148 ?_
    refine aw_ixor dX0_answerOf_151 ?_
    exact aw_iret rfl dX0_answerOf_152 ⟨rfl, trs_app _ _ _ _⟩
theorem as_20 {K m pc ab : Int32} {d : Nat} {x : Int32} {R : Int32} {T : List Int32} (h : CS K m pc ab 1 d x R T) : AS K m pc 20 ab d x (R + pc) T := by
  intro l M r h2 h3 h4 h1 hlen
  refine AMet.of (by decide) (by simp [aargs, Value.category]) ?_
  show AW l (2 * (20 - d) + 6) yX0_answerOf cX0_answerOf 5 (some FieldType.int) 0 [some (.ref 103), some (.int 20), some (.int ab), some (.int x), some (.int (nI d))] [] M _
  refine aw_iload_n (i := 1) dX0_answerOf_0 rfl rfl ?_
  ·
    refine aw_lookup (off := 152) (tgt := 153) dX0_answerOf_1 (by decide) (by decide) (by decide) ?_
    refine aw_aload_n (i := 0) dX0_answerOf_153 rfl rfl ?_
    refine aw_iload_n (i := 2) dX0_answerOf_154 rfl rfl ?_
    refine aw_iconst (v := 1) dX0_answerOf_155 (by decide) ?_
    refine aw_iload_n (i := 3) dX0_answerOf_156 rfl rfl ?_
    refine aw_iload (i := 4) dX0_answerOf_157 rfl ?_
    refine aw_cVi ck_X0_34 (h l M r h2 h3 h4 h1 hlen) sh_103 rfl (by omega) (by decide) rfl rfl (Nat.le_of_ble_eq_true rfl) dX0_answerOf_159 ?_
    refine aw_aload_n (i := 0) dX0_answerOf_162 rfl rfl ?_
    refine aw_getX (x := pc) gf_X0_25 sh_103 rfl (by first | exact h4 | (rw [trs_f (by decide)]; exact h4)) dX0_answerOf_163 ?_
    refine aw_iadd dX0_answerOf_166 ?_
    exact aw_iret rfl dX0_answerOf_167 ⟨rfl, rfl⟩
theorem as_30 {K m pc ab : Int32} {d : Nat} {x : Int32} {R : Int32} {T : List Int32} (h : CS K m pc ab 0 d x R T) : AS K m pc 30 ab d x (R * 3) T := by
  intro l M r h2 h3 h4 h1 hlen
  refine AMet.of (by decide) (by simp [aargs, Value.category]) ?_
  show AW l (2 * (20 - d) + 6) yX0_answerOf cX0_answerOf 5 (some FieldType.int) 0 [some (.ref 103), some (.int 30), some (.int ab), some (.int x), some (.int (nI d))] [] M _
  refine aw_iload_n (i := 1) dX0_answerOf_0 rfl rfl ?_
  ·
    refine aw_lookup (off := 167) (tgt := 168) dX0_answerOf_1 (by decide) (by decide) (by decide) ?_
    refine aw_aload_n (i := 0) dX0_answerOf_168 rfl rfl ?_
    refine aw_iload_n (i := 2) dX0_answerOf_169 rfl rfl ?_
    refine aw_iconst (v := 0) dX0_answerOf_170 (by decide) ?_
    refine aw_iload_n (i := 3) dX0_answerOf_171 rfl rfl ?_
    refine aw_iload (i := 4) dX0_answerOf_172 rfl ?_
    refine aw_cVi ck_X0_34 (h l M r h2 h3 h4 h1 hlen) sh_103 rfl (by omega) (by decide) rfl rfl (Nat.le_of_ble_eq_true rfl) dX0_answerOf_174 ?_
    refine aw_iconst (v := 3) dX0_answerOf_177 (by decide) ?_
    refine aw_imul dX0_answerOf_178 ?_
    exact aw_iret rfl dX0_answerOf_179 ⟨rfl, rfl⟩
theorem as_40 {K m pc ab : Int32} {d : Nat} {x : Int32} {R : Int32} {T : List Int32} (h : CS K m pc ab 0 d (x + 1) R T) : AS K m pc 40 ab d x R T := by
  intro l M r h2 h3 h4 h1 hlen
  refine AMet.of (by decide) (by simp [aargs, Value.category]) ?_
  show AW l (2 * (20 - d) + 6) yX0_answerOf cX0_answerOf 5 (some FieldType.int) 0 [some (.ref 103), some (.int 40), some (.int ab), some (.int x), some (.int (nI d))] [] M _
  refine aw_iload_n (i := 1) dX0_answerOf_0 rfl rfl ?_
  ·
    refine aw_lookup (off := 179) (tgt := 180) dX0_answerOf_1 (by decide) (by decide) (by decide) ?_
    refine aw_aload_n (i := 0) dX0_answerOf_180 rfl rfl ?_
    refine aw_iload_n (i := 2) dX0_answerOf_181 rfl rfl ?_
    refine aw_iconst (v := 0) dX0_answerOf_182 (by decide) ?_
    refine aw_iload_n (i := 3) dX0_answerOf_183 rfl rfl ?_
    refine aw_iconst (v := 1) dX0_answerOf_184 (by decide) ?_
    refine aw_iadd dX0_answerOf_185 ?_
    refine aw_iload (i := 4) dX0_answerOf_186 rfl ?_
    refine aw_cVi ck_X0_34 (h l M r h2 h3 h4 h1 hlen) sh_103 rfl (by omega) (by decide) rfl rfl (Nat.le_of_ble_eq_true rfl) dX0_answerOf_188 ?_
    exact aw_iret rfl dX0_answerOf_191 ⟨rfl, rfl⟩
theorem as_50 {K m pc ab : Int32} {d : Nat} {x : Int32} {R : Int32} {T : List Int32} (h : CS K m pc ab 2 d x R T) : AS K m pc 50 ab d x (R - m) T := by
  intro l M r h2 h3 h4 h1 hlen
  refine AMet.of (by decide) (by simp [aargs, Value.category]) ?_
  show AW l (2 * (20 - d) + 6) yX0_answerOf cX0_answerOf 5 (some FieldType.int) 0 [some (.ref 103), some (.int 50), some (.int ab), some (.int x), some (.int (nI d))] [] M _
  refine aw_iload_n (i := 1) dX0_answerOf_0 rfl rfl ?_
  ·
    refine aw_lookup (off := 191) (tgt := 192) dX0_answerOf_1 (by decide) (by decide) (by decide) ?_
    refine aw_aload_n (i := 0) dX0_answerOf_192 rfl rfl ?_
    refine aw_iload_n (i := 2) dX0_answerOf_193 rfl rfl ?_
    refine aw_iconst (v := 2) dX0_answerOf_194 (by decide) ?_
    refine aw_iload_n (i := 3) dX0_answerOf_195 rfl rfl ?_
    refine aw_iload (i := 4) dX0_answerOf_196 rfl ?_
    refine aw_cVi ck_X0_34 (h l M r h2 h3 h4 h1 hlen) sh_103 rfl (by omega) (by decide) rfl rfl (Nat.le_of_ble_eq_true rfl) dX0_answerOf_198 ?_
    refine aw_aload_n (i := 0) dX0_answerOf_201 rfl rfl ?_
    refine aw_getX (x := m) gf_X0_22 sh_103 rfl (by first | exact h3 | (rw [trs_f (by decide)]; exact h3)) dX0_answerOf_202 ?_
    refine aw_isub dX0_answerOf_205 ?_
    exact aw_iret rfl dX0_answerOf_206 ⟨rfl, rfl⟩
theorem as_51 {K m pc ab : Int32} {d : Nat} {x : Int32} {R : Int32} {T : List Int32} (h : CS K m pc ab 1 d x R T) : AS K m pc 51 ab d x (-R) T := by
  intro l M r h2 h3 h4 h1 hlen
  refine AMet.of (by decide) (by simp [aargs, Value.category]) ?_
  show AW l (2 * (20 - d) + 6) yX0_answerOf cX0_answerOf 5 (some FieldType.int) 0 [some (.ref 103), some (.int 51), some (.int ab), some (.int x), some (.int (nI d))] [] M _
  refine aw_iload_n (i := 1) dX0_answerOf_0 rfl rfl ?_
  ·
    refine aw_lookup (off := 206) (tgt := 207) dX0_answerOf_1 (by decide) (by decide) (by decide) ?_
    refine aw_aload_n (i := 0) dX0_answerOf_207 rfl rfl ?_
    refine aw_iload_n (i := 2) dX0_answerOf_208 rfl rfl ?_
    refine aw_iconst (v := 1) dX0_answerOf_209 (by decide) ?_
    refine aw_iload_n (i := 3) dX0_answerOf_210 rfl rfl ?_
    refine aw_iload (i := 4) dX0_answerOf_211 rfl ?_
    refine aw_cVi ck_X0_34 (h l M r h2 h3 h4 h1 hlen) sh_103 rfl (by omega) (by decide) rfl rfl (Nat.le_of_ble_eq_true rfl) dX0_answerOf_213 ?_
    refine aw_ineg dX0_answerOf_216 ?_
    exact aw_iret rfl dX0_answerOf_217 ⟨rfl, rfl⟩
theorem as_60 {K m pc ab : Int32} {d : Nat} {x : Int32} {R : Int32} {T : List Int32} (h : CS K m pc ab 2 d x R T) : AS K m pc 60 ab d x (R ^^^ 5) T := by
  intro l M r h2 h3 h4 h1 hlen
  refine AMet.of (by decide) (by simp [aargs, Value.category]) ?_
  show AW l (2 * (20 - d) + 6) yX0_answerOf cX0_answerOf 5 (some FieldType.int) 0 [some (.ref 103), some (.int 60), some (.int ab), some (.int x), some (.int (nI d))] [] M _
  refine aw_iload_n (i := 1) dX0_answerOf_0 rfl rfl ?_
  ·
    refine aw_lookup (off := 217) (tgt := 218) dX0_answerOf_1 (by decide) (by decide) (by decide) ?_
    refine aw_aload_n (i := 0) dX0_answerOf_218 rfl rfl ?_
    refine aw_iload_n (i := 2) dX0_answerOf_219 rfl rfl ?_
    refine aw_iconst (v := 2) dX0_answerOf_220 (by decide) ?_
    refine aw_iload_n (i := 3) dX0_answerOf_221 rfl rfl ?_
    refine aw_iload (i := 4) dX0_answerOf_222 rfl ?_
    refine aw_cVi ck_X0_34 (h l M r h2 h3 h4 h1 hlen) sh_103 rfl (by omega) (by decide) rfl rfl (Nat.le_of_ble_eq_true rfl) dX0_answerOf_224 ?_
    refine aw_iconst (v := 5) dX0_answerOf_227 (by decide) ?_
    refine aw_ixor dX0_answerOf_228 ?_
    exact aw_iret rfl dX0_answerOf_229 ⟨rfl, rfl⟩
theorem as_70 {K m pc ab : Int32} {d : Nat} {x : Int32} {R : Int32} {T : List Int32} (h : CS K m pc ab 1 d x R T) : AS K m pc 70 ab d x (R * 2) T := by
  intro l M r h2 h3 h4 h1 hlen
  refine AMet.of (by decide) (by simp [aargs, Value.category]) ?_
  show AW l (2 * (20 - d) + 6) yX0_answerOf cX0_answerOf 5 (some FieldType.int) 0 [some (.ref 103), some (.int 70), some (.int ab), some (.int x), some (.int (nI d))] [] M _
  refine aw_iload_n (i := 1) dX0_answerOf_0 rfl rfl ?_
  ·
    refine aw_lookup (off := 229) (tgt := 230) dX0_answerOf_1 (by decide) (by decide) (by decide) ?_
    refine aw_aload_n (i := 0) dX0_answerOf_230 rfl rfl ?_
    refine aw_iload_n (i := 2) dX0_answerOf_231 rfl rfl ?_
    refine aw_iconst (v := 1) dX0_answerOf_232 (by decide) ?_
    refine aw_iload_n (i := 3) dX0_answerOf_233 rfl rfl ?_
    refine aw_iload (i := 4) dX0_answerOf_234 rfl ?_
    refine aw_cVi ck_X0_34 (h l M r h2 h3 h4 h1 hlen) sh_103 rfl (by omega) (by decide) rfl rfl (Nat.le_of_ble_eq_true rfl) dX0_answerOf_236 ?_
    refine aw_iconst (v := 2) dX0_answerOf_239 (by decide) ?_
    refine aw_imul dX0_answerOf_240 ?_
    exact aw_iret rfl dX0_answerOf_241 ⟨rfl, rfl⟩
theorem as_71 {K m pc ab : Int32} {d : Nat} {x : Int32} {R : Int32} {T : List Int32} (h : CS K m pc ab 0 d (x - pc) R T) : AS K m pc 71 ab d x R T := by
  intro l M r h2 h3 h4 h1 hlen
  refine AMet.of (by decide) (by simp [aargs, Value.category]) ?_
  show AW l (2 * (20 - d) + 6) yX0_answerOf cX0_answerOf 5 (some FieldType.int) 0 [some (.ref 103), some (.int 71), some (.int ab), some (.int x), some (.int (nI d))] [] M _
  refine aw_iload_n (i := 1) dX0_answerOf_0 rfl rfl ?_
  ·
    refine aw_lookup (off := 241) (tgt := 242) dX0_answerOf_1 (by decide) (by decide) (by decide) ?_
    refine aw_aload_n (i := 0) dX0_answerOf_242 rfl rfl ?_
    refine aw_iload_n (i := 2) dX0_answerOf_243 rfl rfl ?_
    refine aw_iconst (v := 0) dX0_answerOf_244 (by decide) ?_
    refine aw_iload_n (i := 3) dX0_answerOf_245 rfl rfl ?_
    refine aw_aload_n (i := 0) dX0_answerOf_246 rfl rfl ?_
    refine aw_getX (x := pc) gf_X0_25 sh_103 rfl (by first | exact h4 | (rw [trs_f (by decide)]; exact h4)) dX0_answerOf_247 ?_
    refine aw_isub dX0_answerOf_250 ?_
    refine aw_iload (i := 4) dX0_answerOf_251 rfl ?_
    refine aw_cVi ck_X0_34 (h l M r h2 h3 h4 h1 hlen) sh_103 rfl (by omega) (by decide) rfl rfl (Nat.le_of_ble_eq_true rfl) dX0_answerOf_253 ?_
    exact aw_iret rfl dX0_answerOf_256 ⟨rfl, rfl⟩
theorem cs_0_0 {K m pc : Int32} {d : Nat} {x R : Int32} {T : List Int32} (hd : d < 20) (h : AS K m pc 10 (-1) (d + 1) x R T) : CS K m pc 0 0 d x R (10 :: T) := by
  intro l M r h2 h3 h4 h1 hlen
  refine AMet.of (by decide) (by simp [aargs, Value.category]) ?_
  show AW l (2 * (20 - d) + 5) yX0_call cX0_call 7 (some FieldType.int) 0 [some (.ref 103), some (.int 0), some (.int 0), some (.int x), some (.int (nI d)), none, none] [] M _
  refine aw_iload_n (i := 1) dX0_call_0 rfl rfl ?_
  refine aw_istore (i := 5) dX0_call_1 (by decide) ?_
  refine aw_iconst (v := 0) dX0_call_3 (by decide) ?_
  refine aw_istore (i := 6) dX0_call_4 (by decide) ?_
  refine aw_iload (i := 6) dX0_call_6 rfl ?_
  refine aw_bipush (v := 7) dX0_call_8 (by decide) ?_
  refine aw_icmp_ge (tgt := 41) dX0_call_10 (by decide) (fun h10 => ?_) (fun h10 => ?_)
  ·
    exact absurd h10 (by decide)
  ·
    refine aw_iload (i := 5) dX0_call_13 rfl ?_
    refine aw_iconst (v := (-1)) dX0_call_15 (by decide) ?_
    refine aw_icmp_eq (tgt := 41) dX0_call_16 (by decide) (fun h16 => ?_) (fun h16 => ?_)
    ·
      exact absurd h16 (by decide)
    ·
      refine aw_iload (i := 5) dX0_call_19 rfl ?_
      refine aw_iload_n (i := 2) dX0_call_21 rfl rfl ?_
      refine aw_cSi ck_X0_38 m_X0_bodyOf (by omega) (by decide) rfl rfl (Nat.le_of_ble_eq_true rfl) dX0_call_22 ?_
      refine aw_top (show bodyI 0 0 = 10 from by decide +kernel) ?_
      refine aw_if_ne (tgt := 41) dX0_call_25 (by decide) (fun h25 => ?_) (fun h25 => ?_)
      ·
        refine aw_iload (i := 5) dX0_call_41 rfl ?_
        refine aw_iconst (v := (-1)) dX0_call_43 (by decide) ?_
        refine aw_icmp_eq (tgt := 54) dX0_call_44 (by decide) (fun h44 => ?_) (fun h44 => ?_)
        ·
          exact absurd h44 (by decide)
        ·
          refine aw_iload (i := 4) dX0_call_47 rfl ?_
          refine aw_bipush (v := 20) dX0_call_49 (by decide) ?_
          refine aw_top (show (20 : Int32) = nI 20 from rfl) ?_
          refine aw_icmp_ltN (tgt := 56) (by omega) (by omega) dX0_call_51 (by decide) (fun h51 => ?_) (fun h51 => ?_)
          ·
            refine aw_aload_n (i := 0) dX0_call_56 rfl rfl ?_
            refine aw_iload (i := 5) dX0_call_57 rfl ?_
            refine aw_iload_n (i := 2) dX0_call_59 rfl rfl ?_
            refine aw_cSi ck_X0_38 m_X0_bodyOf (by omega) (by decide) rfl rfl (Nat.le_of_ble_eq_true rfl) dX0_call_60 ?_
            refine aw_top (show bodyI 0 0 = 10 from by decide +kernel) ?_
            refine aw_cVv ck_X0_46 (m_X0_note h1 (by simp at hlen; omega)) sh_103 rfl (by omega) (by decide) rfl rfl (Nat.le_of_ble_eq_true rfl) dX0_call_63 ?_
            refine aw_aload_n (i := 0) dX0_call_66 rfl rfl ?_
            refine aw_iload (i := 5) dX0_call_67 rfl ?_
            refine aw_iload_n (i := 2) dX0_call_69 rfl rfl ?_
            refine aw_cSi ck_X0_38 m_X0_bodyOf (by omega) (by decide) rfl rfl (Nat.le_of_ble_eq_true rfl) dX0_call_70 ?_
            refine aw_top (show bodyI 0 0 = 10 from by decide +kernel) ?_
            refine aw_iload (i := 5) dX0_call_73 rfl ?_
            refine aw_cSi ck_X0_42 m_X7_kindAbove (by omega) (by decide) rfl rfl (Nat.le_of_ble_eq_true rfl) dX0_call_75 ?_
            refine aw_top (show aboveI 0 = (-1) from by decide +kernel) ?_
            refine aw_iload_n (i := 3) dX0_call_78 rfl rfl ?_
            refine aw_iload (i := 4) dX0_call_79 rfl ?_
            refine aw_iconst (v := 1) dX0_call_81 (by decide) ?_
            refine aw_iadd dX0_call_82 ?_
            refine aw_top (nI_1 d) ?_
            refine aw_cVi ck_X0_50 (h l (ntM 10 r M) (r + 1) (by rw [ntM_f (by decide)]; exact h2) (by rw [ntM_f (by decide)]; exact h3) (by rw [ntM_f (by decide)]; exact h4) ntM_1 (by simp at hlen; omega)) sh_103 rfl (by omega) (by decide) rfl rfl (Nat.le_of_ble_eq_true rfl) dX0_call_83 ?_
            exact aw_iret rfl dX0_call_86 ⟨rfl, rfl⟩
          ·
            exact absurd h51 (by omega)
      ·
        exact absurd h25 (by decide)
theorem cs_0_1 {K m pc : Int32} {d : Nat} {x R : Int32} {T : List Int32} (hd : d < 20) (h : AS K m pc 11 (-1) (d + 1) x R T) : CS K m pc 0 1 d x R (11 :: T) := by
  intro l M r h2 h3 h4 h1 hlen
  refine AMet.of (by decide) (by simp [aargs, Value.category]) ?_
  show AW l (2 * (20 - d) + 5) yX0_call cX0_call 7 (some FieldType.int) 0 [some (.ref 103), some (.int 0), some (.int 1), some (.int x), some (.int (nI d)), none, none] [] M _
  refine aw_iload_n (i := 1) dX0_call_0 rfl rfl ?_
  refine aw_istore (i := 5) dX0_call_1 (by decide) ?_
  refine aw_iconst (v := 0) dX0_call_3 (by decide) ?_
  refine aw_istore (i := 6) dX0_call_4 (by decide) ?_
  refine aw_iload (i := 6) dX0_call_6 rfl ?_
  refine aw_bipush (v := 7) dX0_call_8 (by decide) ?_
  refine aw_icmp_ge (tgt := 41) dX0_call_10 (by decide) (fun h10 => ?_) (fun h10 => ?_)
  ·
    exact absurd h10 (by decide)
  ·
    refine aw_iload (i := 5) dX0_call_13 rfl ?_
    refine aw_iconst (v := (-1)) dX0_call_15 (by decide) ?_
    refine aw_icmp_eq (tgt := 41) dX0_call_16 (by decide) (fun h16 => ?_) (fun h16 => ?_)
    ·
      exact absurd h16 (by decide)
    ·
      refine aw_iload (i := 5) dX0_call_19 rfl ?_
      refine aw_iload_n (i := 2) dX0_call_21 rfl rfl ?_
      refine aw_cSi ck_X0_38 m_X0_bodyOf (by omega) (by decide) rfl rfl (Nat.le_of_ble_eq_true rfl) dX0_call_22 ?_
      refine aw_top (show bodyI 0 1 = 11 from by decide +kernel) ?_
      refine aw_if_ne (tgt := 41) dX0_call_25 (by decide) (fun h25 => ?_) (fun h25 => ?_)
      ·
        refine aw_iload (i := 5) dX0_call_41 rfl ?_
        refine aw_iconst (v := (-1)) dX0_call_43 (by decide) ?_
        refine aw_icmp_eq (tgt := 54) dX0_call_44 (by decide) (fun h44 => ?_) (fun h44 => ?_)
        ·
          exact absurd h44 (by decide)
        ·
          refine aw_iload (i := 4) dX0_call_47 rfl ?_
          refine aw_bipush (v := 20) dX0_call_49 (by decide) ?_
          refine aw_top (show (20 : Int32) = nI 20 from rfl) ?_
          refine aw_icmp_ltN (tgt := 56) (by omega) (by omega) dX0_call_51 (by decide) (fun h51 => ?_) (fun h51 => ?_)
          ·
            refine aw_aload_n (i := 0) dX0_call_56 rfl rfl ?_
            refine aw_iload (i := 5) dX0_call_57 rfl ?_
            refine aw_iload_n (i := 2) dX0_call_59 rfl rfl ?_
            refine aw_cSi ck_X0_38 m_X0_bodyOf (by omega) (by decide) rfl rfl (Nat.le_of_ble_eq_true rfl) dX0_call_60 ?_
            refine aw_top (show bodyI 0 1 = 11 from by decide +kernel) ?_
            refine aw_cVv ck_X0_46 (m_X0_note h1 (by simp at hlen; omega)) sh_103 rfl (by omega) (by decide) rfl rfl (Nat.le_of_ble_eq_true rfl) dX0_call_63 ?_
            refine aw_aload_n (i := 0) dX0_call_66 rfl rfl ?_
            refine aw_iload (i := 5) dX0_call_67 rfl ?_
            refine aw_iload_n (i := 2) dX0_call_69 rfl rfl ?_
            refine aw_cSi ck_X0_38 m_X0_bodyOf (by omega) (by decide) rfl rfl (Nat.le_of_ble_eq_true rfl) dX0_call_70 ?_
            refine aw_top (show bodyI 0 1 = 11 from by decide +kernel) ?_
            refine aw_iload (i := 5) dX0_call_73 rfl ?_
            refine aw_cSi ck_X0_42 m_X7_kindAbove (by omega) (by decide) rfl rfl (Nat.le_of_ble_eq_true rfl) dX0_call_75 ?_
            refine aw_top (show aboveI 0 = (-1) from by decide +kernel) ?_
            refine aw_iload_n (i := 3) dX0_call_78 rfl rfl ?_
            refine aw_iload (i := 4) dX0_call_79 rfl ?_
            refine aw_iconst (v := 1) dX0_call_81 (by decide) ?_
            refine aw_iadd dX0_call_82 ?_
            refine aw_top (nI_1 d) ?_
            refine aw_cVi ck_X0_50 (h l (ntM 11 r M) (r + 1) (by rw [ntM_f (by decide)]; exact h2) (by rw [ntM_f (by decide)]; exact h3) (by rw [ntM_f (by decide)]; exact h4) ntM_1 (by simp at hlen; omega)) sh_103 rfl (by omega) (by decide) rfl rfl (Nat.le_of_ble_eq_true rfl) dX0_call_83 ?_
            exact aw_iret rfl dX0_call_86 ⟨rfl, rfl⟩
          ·
            exact absurd h51 (by omega)
      ·
        exact absurd h25 (by decide)
theorem cs_0_2 {K m pc : Int32} {d : Nat} {x R : Int32} {T : List Int32} (hd : d < 20) (h : AS K m pc 12 (-1) (d + 1) x R T) : CS K m pc 0 2 d x R (12 :: T) := by
  intro l M r h2 h3 h4 h1 hlen
  refine AMet.of (by decide) (by simp [aargs, Value.category]) ?_
  show AW l (2 * (20 - d) + 5) yX0_call cX0_call 7 (some FieldType.int) 0 [some (.ref 103), some (.int 0), some (.int 2), some (.int x), some (.int (nI d)), none, none] [] M _
  refine aw_iload_n (i := 1) dX0_call_0 rfl rfl ?_
  refine aw_istore (i := 5) dX0_call_1 (by decide) ?_
  refine aw_iconst (v := 0) dX0_call_3 (by decide) ?_
  refine aw_istore (i := 6) dX0_call_4 (by decide) ?_
  refine aw_iload (i := 6) dX0_call_6 rfl ?_
  refine aw_bipush (v := 7) dX0_call_8 (by decide) ?_
  refine aw_icmp_ge (tgt := 41) dX0_call_10 (by decide) (fun h10 => ?_) (fun h10 => ?_)
  ·
    exact absurd h10 (by decide)
  ·
    refine aw_iload (i := 5) dX0_call_13 rfl ?_
    refine aw_iconst (v := (-1)) dX0_call_15 (by decide) ?_
    refine aw_icmp_eq (tgt := 41) dX0_call_16 (by decide) (fun h16 => ?_) (fun h16 => ?_)
    ·
      exact absurd h16 (by decide)
    ·
      refine aw_iload (i := 5) dX0_call_19 rfl ?_
      refine aw_iload_n (i := 2) dX0_call_21 rfl rfl ?_
      refine aw_cSi ck_X0_38 m_X0_bodyOf (by omega) (by decide) rfl rfl (Nat.le_of_ble_eq_true rfl) dX0_call_22 ?_
      refine aw_top (show bodyI 0 2 = 12 from by decide +kernel) ?_
      refine aw_if_ne (tgt := 41) dX0_call_25 (by decide) (fun h25 => ?_) (fun h25 => ?_)
      ·
        refine aw_iload (i := 5) dX0_call_41 rfl ?_
        refine aw_iconst (v := (-1)) dX0_call_43 (by decide) ?_
        refine aw_icmp_eq (tgt := 54) dX0_call_44 (by decide) (fun h44 => ?_) (fun h44 => ?_)
        ·
          exact absurd h44 (by decide)
        ·
          refine aw_iload (i := 4) dX0_call_47 rfl ?_
          refine aw_bipush (v := 20) dX0_call_49 (by decide) ?_
          refine aw_top (show (20 : Int32) = nI 20 from rfl) ?_
          refine aw_icmp_ltN (tgt := 56) (by omega) (by omega) dX0_call_51 (by decide) (fun h51 => ?_) (fun h51 => ?_)
          ·
            refine aw_aload_n (i := 0) dX0_call_56 rfl rfl ?_
            refine aw_iload (i := 5) dX0_call_57 rfl ?_
            refine aw_iload_n (i := 2) dX0_call_59 rfl rfl ?_
            refine aw_cSi ck_X0_38 m_X0_bodyOf (by omega) (by decide) rfl rfl (Nat.le_of_ble_eq_true rfl) dX0_call_60 ?_
            refine aw_top (show bodyI 0 2 = 12 from by decide +kernel) ?_
            refine aw_cVv ck_X0_46 (m_X0_note h1 (by simp at hlen; omega)) sh_103 rfl (by omega) (by decide) rfl rfl (Nat.le_of_ble_eq_true rfl) dX0_call_63 ?_
            refine aw_aload_n (i := 0) dX0_call_66 rfl rfl ?_
            refine aw_iload (i := 5) dX0_call_67 rfl ?_
            refine aw_iload_n (i := 2) dX0_call_69 rfl rfl ?_
            refine aw_cSi ck_X0_38 m_X0_bodyOf (by omega) (by decide) rfl rfl (Nat.le_of_ble_eq_true rfl) dX0_call_70 ?_
            refine aw_top (show bodyI 0 2 = 12 from by decide +kernel) ?_
            refine aw_iload (i := 5) dX0_call_73 rfl ?_
            refine aw_cSi ck_X0_42 m_X7_kindAbove (by omega) (by decide) rfl rfl (Nat.le_of_ble_eq_true rfl) dX0_call_75 ?_
            refine aw_top (show aboveI 0 = (-1) from by decide +kernel) ?_
            refine aw_iload_n (i := 3) dX0_call_78 rfl rfl ?_
            refine aw_iload (i := 4) dX0_call_79 rfl ?_
            refine aw_iconst (v := 1) dX0_call_81 (by decide) ?_
            refine aw_iadd dX0_call_82 ?_
            refine aw_top (nI_1 d) ?_
            refine aw_cVi ck_X0_50 (h l (ntM 12 r M) (r + 1) (by rw [ntM_f (by decide)]; exact h2) (by rw [ntM_f (by decide)]; exact h3) (by rw [ntM_f (by decide)]; exact h4) ntM_1 (by simp at hlen; omega)) sh_103 rfl (by omega) (by decide) rfl rfl (Nat.le_of_ble_eq_true rfl) dX0_call_83 ?_
            exact aw_iret rfl dX0_call_86 ⟨rfl, rfl⟩
          ·
            exact absurd h51 (by omega)
      ·
        exact absurd h25 (by decide)
theorem cs_1_0 {K m pc : Int32} {d : Nat} {x R : Int32} {T : List Int32} (hd : d < 20) (h : AS K m pc 10 (-1) (d + 1) x R T) : CS K m pc 1 0 d x R (10 :: T) := by
  intro l M r h2 h3 h4 h1 hlen
  refine AMet.of (by decide) (by simp [aargs, Value.category]) ?_
  show AW l (2 * (20 - d) + 5) yX0_call cX0_call 7 (some FieldType.int) 0 [some (.ref 103), some (.int 1), some (.int 0), some (.int x), some (.int (nI d)), none, none] [] M _
  refine aw_iload_n (i := 1) dX0_call_0 rfl rfl ?_
  refine aw_istore (i := 5) dX0_call_1 (by decide) ?_
  refine aw_iconst (v := 0) dX0_call_3 (by decide) ?_
  refine aw_istore (i := 6) dX0_call_4 (by decide) ?_
  refine aw_iload (i := 6) dX0_call_6 rfl ?_
  refine aw_bipush (v := 7) dX0_call_8 (by decide) ?_
  refine aw_icmp_ge (tgt := 41) dX0_call_10 (by decide) (fun h10 => ?_) (fun h10 => ?_)
  ·
    exact absurd h10 (by decide)
  ·
    refine aw_iload (i := 5) dX0_call_13 rfl ?_
    refine aw_iconst (v := (-1)) dX0_call_15 (by decide) ?_
    refine aw_icmp_eq (tgt := 41) dX0_call_16 (by decide) (fun h16 => ?_) (fun h16 => ?_)
    ·
      exact absurd h16 (by decide)
    ·
      refine aw_iload (i := 5) dX0_call_19 rfl ?_
      refine aw_iload_n (i := 2) dX0_call_21 rfl rfl ?_
      refine aw_cSi ck_X0_38 m_X0_bodyOf (by omega) (by decide) rfl rfl (Nat.le_of_ble_eq_true rfl) dX0_call_22 ?_
      refine aw_top (show bodyI 1 0 = 0 from by decide +kernel) ?_
      refine aw_if_ne (tgt := 41) dX0_call_25 (by decide) (fun h25 => ?_) (fun h25 => ?_)
      ·
        exact absurd h25 (by decide)
      ·
        refine aw_iload (i := 5) dX0_call_28 rfl ?_
        refine aw_cSi ck_X0_42 m_X7_kindAbove (by omega) (by decide) rfl rfl (Nat.le_of_ble_eq_true rfl) dX0_call_30 ?_
        refine aw_top (show aboveI 1 = 0 from by decide +kernel) ?_
        refine aw_istore (i := 5) dX0_call_33 (by decide) ?_
        refine aw_iinc (i := 6) (v := 1) dX0_call_35 rfl (by decide) (by decide) ?_
        refine aw_goto (tgt := 6) dX0_call_38 (by decide) ?_
        refine aw_iload (i := 6) dX0_call_6 rfl ?_
        refine aw_bipush (v := 7) dX0_call_8 (by decide) ?_
        refine aw_icmp_ge (tgt := 41) dX0_call_10 (by decide) (fun h10 => ?_) (fun h10 => ?_)
        ·
          exact absurd h10 (by decide)
        ·
          refine aw_iload (i := 5) dX0_call_13 rfl ?_
          refine aw_iconst (v := (-1)) dX0_call_15 (by decide) ?_
          refine aw_icmp_eq (tgt := 41) dX0_call_16 (by decide) (fun h16 => ?_) (fun h16 => ?_)
          ·
            exact absurd h16 (by decide)
          ·
            refine aw_iload (i := 5) dX0_call_19 rfl ?_
            refine aw_iload_n (i := 2) dX0_call_21 rfl rfl ?_
            refine aw_cSi ck_X0_38 m_X0_bodyOf (by omega) (by decide) rfl rfl (Nat.le_of_ble_eq_true rfl) dX0_call_22 ?_
            refine aw_top (show bodyI 0 0 = 10 from by decide +kernel) ?_
            refine aw_if_ne (tgt := 41) dX0_call_25 (by decide) (fun h25 => ?_) (fun h25 => ?_)
            ·
              refine aw_iload (i := 5) dX0_call_41 rfl ?_
              refine aw_iconst (v := (-1)) dX0_call_43 (by decide) ?_
              refine aw_icmp_eq (tgt := 54) dX0_call_44 (by decide) (fun h44 => ?_) (fun h44 => ?_)
              ·
                exact absurd h44 (by decide)
              ·
                refine aw_iload (i := 4) dX0_call_47 rfl ?_
                refine aw_bipush (v := 20) dX0_call_49 (by decide) ?_
                refine aw_top (show (20 : Int32) = nI 20 from rfl) ?_
                refine aw_icmp_ltN (tgt := 56) (by omega) (by omega) dX0_call_51 (by decide) (fun h51 => ?_) (fun h51 => ?_)
                ·
                  refine aw_aload_n (i := 0) dX0_call_56 rfl rfl ?_
                  refine aw_iload (i := 5) dX0_call_57 rfl ?_
                  refine aw_iload_n (i := 2) dX0_call_59 rfl rfl ?_
                  refine aw_cSi ck_X0_38 m_X0_bodyOf (by omega) (by decide) rfl rfl (Nat.le_of_ble_eq_true rfl) dX0_call_60 ?_
                  refine aw_top (show bodyI 0 0 = 10 from by decide +kernel) ?_
                  refine aw_cVv ck_X0_46 (m_X0_note h1 (by simp at hlen; omega)) sh_103 rfl (by omega) (by decide) rfl rfl (Nat.le_of_ble_eq_true rfl) dX0_call_63 ?_
                  refine aw_aload_n (i := 0) dX0_call_66 rfl rfl ?_
                  refine aw_iload (i := 5) dX0_call_67 rfl ?_
                  refine aw_iload_n (i := 2) dX0_call_69 rfl rfl ?_
                  refine aw_cSi ck_X0_38 m_X0_bodyOf (by omega) (by decide) rfl rfl (Nat.le_of_ble_eq_true rfl) dX0_call_70 ?_
                  refine aw_top (show bodyI 0 0 = 10 from by decide +kernel) ?_
                  refine aw_iload (i := 5) dX0_call_73 rfl ?_
                  refine aw_cSi ck_X0_42 m_X7_kindAbove (by omega) (by decide) rfl rfl (Nat.le_of_ble_eq_true rfl) dX0_call_75 ?_
                  refine aw_top (show aboveI 0 = (-1) from by decide +kernel) ?_
                  refine aw_iload_n (i := 3) dX0_call_78 rfl rfl ?_
                  refine aw_iload (i := 4) dX0_call_79 rfl ?_
                  refine aw_iconst (v := 1) dX0_call_81 (by decide) ?_
                  refine aw_iadd dX0_call_82 ?_
                  refine aw_top (nI_1 d) ?_
                  refine aw_cVi ck_X0_50 (h l (ntM 10 r M) (r + 1) (by rw [ntM_f (by decide)]; exact h2) (by rw [ntM_f (by decide)]; exact h3) (by rw [ntM_f (by decide)]; exact h4) ntM_1 (by simp at hlen; omega)) sh_103 rfl (by omega) (by decide) rfl rfl (Nat.le_of_ble_eq_true rfl) dX0_call_83 ?_
                  exact aw_iret rfl dX0_call_86 ⟨rfl, rfl⟩
                ·
                  exact absurd h51 (by omega)
            ·
              exact absurd h25 (by decide)
theorem cs_1_1 {K m pc : Int32} {d : Nat} {x R : Int32} {T : List Int32} (hd : d < 20) (h : AS K m pc 20 0 (d + 1) x R T) : CS K m pc 1 1 d x R (20 :: T) := by
  intro l M r h2 h3 h4 h1 hlen
  refine AMet.of (by decide) (by simp [aargs, Value.category]) ?_
  show AW l (2 * (20 - d) + 5) yX0_call cX0_call 7 (some FieldType.int) 0 [some (.ref 103), some (.int 1), some (.int 1), some (.int x), some (.int (nI d)), none, none] [] M _
  refine aw_iload_n (i := 1) dX0_call_0 rfl rfl ?_
  refine aw_istore (i := 5) dX0_call_1 (by decide) ?_
  refine aw_iconst (v := 0) dX0_call_3 (by decide) ?_
  refine aw_istore (i := 6) dX0_call_4 (by decide) ?_
  refine aw_iload (i := 6) dX0_call_6 rfl ?_
  refine aw_bipush (v := 7) dX0_call_8 (by decide) ?_
  refine aw_icmp_ge (tgt := 41) dX0_call_10 (by decide) (fun h10 => ?_) (fun h10 => ?_)
  ·
    exact absurd h10 (by decide)
  ·
    refine aw_iload (i := 5) dX0_call_13 rfl ?_
    refine aw_iconst (v := (-1)) dX0_call_15 (by decide) ?_
    refine aw_icmp_eq (tgt := 41) dX0_call_16 (by decide) (fun h16 => ?_) (fun h16 => ?_)
    ·
      exact absurd h16 (by decide)
    ·
      refine aw_iload (i := 5) dX0_call_19 rfl ?_
      refine aw_iload_n (i := 2) dX0_call_21 rfl rfl ?_
      refine aw_cSi ck_X0_38 m_X0_bodyOf (by omega) (by decide) rfl rfl (Nat.le_of_ble_eq_true rfl) dX0_call_22 ?_
      refine aw_top (show bodyI 1 1 = 20 from by decide +kernel) ?_
      refine aw_if_ne (tgt := 41) dX0_call_25 (by decide) (fun h25 => ?_) (fun h25 => ?_)
      ·
        refine aw_iload (i := 5) dX0_call_41 rfl ?_
        refine aw_iconst (v := (-1)) dX0_call_43 (by decide) ?_
        refine aw_icmp_eq (tgt := 54) dX0_call_44 (by decide) (fun h44 => ?_) (fun h44 => ?_)
        ·
          exact absurd h44 (by decide)
        ·
          refine aw_iload (i := 4) dX0_call_47 rfl ?_
          refine aw_bipush (v := 20) dX0_call_49 (by decide) ?_
          refine aw_top (show (20 : Int32) = nI 20 from rfl) ?_
          refine aw_icmp_ltN (tgt := 56) (by omega) (by omega) dX0_call_51 (by decide) (fun h51 => ?_) (fun h51 => ?_)
          ·
            refine aw_aload_n (i := 0) dX0_call_56 rfl rfl ?_
            refine aw_iload (i := 5) dX0_call_57 rfl ?_
            refine aw_iload_n (i := 2) dX0_call_59 rfl rfl ?_
            refine aw_cSi ck_X0_38 m_X0_bodyOf (by omega) (by decide) rfl rfl (Nat.le_of_ble_eq_true rfl) dX0_call_60 ?_
            refine aw_top (show bodyI 1 1 = 20 from by decide +kernel) ?_
            refine aw_cVv ck_X0_46 (m_X0_note h1 (by simp at hlen; omega)) sh_103 rfl (by omega) (by decide) rfl rfl (Nat.le_of_ble_eq_true rfl) dX0_call_63 ?_
            refine aw_aload_n (i := 0) dX0_call_66 rfl rfl ?_
            refine aw_iload (i := 5) dX0_call_67 rfl ?_
            refine aw_iload_n (i := 2) dX0_call_69 rfl rfl ?_
            refine aw_cSi ck_X0_38 m_X0_bodyOf (by omega) (by decide) rfl rfl (Nat.le_of_ble_eq_true rfl) dX0_call_70 ?_
            refine aw_top (show bodyI 1 1 = 20 from by decide +kernel) ?_
            refine aw_iload (i := 5) dX0_call_73 rfl ?_
            refine aw_cSi ck_X0_42 m_X7_kindAbove (by omega) (by decide) rfl rfl (Nat.le_of_ble_eq_true rfl) dX0_call_75 ?_
            refine aw_top (show aboveI 1 = 0 from by decide +kernel) ?_
            refine aw_iload_n (i := 3) dX0_call_78 rfl rfl ?_
            refine aw_iload (i := 4) dX0_call_79 rfl ?_
            refine aw_iconst (v := 1) dX0_call_81 (by decide) ?_
            refine aw_iadd dX0_call_82 ?_
            refine aw_top (nI_1 d) ?_
            refine aw_cVi ck_X0_50 (h l (ntM 20 r M) (r + 1) (by rw [ntM_f (by decide)]; exact h2) (by rw [ntM_f (by decide)]; exact h3) (by rw [ntM_f (by decide)]; exact h4) ntM_1 (by simp at hlen; omega)) sh_103 rfl (by omega) (by decide) rfl rfl (Nat.le_of_ble_eq_true rfl) dX0_call_83 ?_
            exact aw_iret rfl dX0_call_86 ⟨rfl, rfl⟩
          ·
            exact absurd h51 (by omega)
      ·
        exact absurd h25 (by decide)
theorem cs_1_2 {K m pc : Int32} {d : Nat} {x R : Int32} {T : List Int32} (hd : d < 20) (h : AS K m pc 12 (-1) (d + 1) x R T) : CS K m pc 1 2 d x R (12 :: T) := by
  intro l M r h2 h3 h4 h1 hlen
  refine AMet.of (by decide) (by simp [aargs, Value.category]) ?_
  show AW l (2 * (20 - d) + 5) yX0_call cX0_call 7 (some FieldType.int) 0 [some (.ref 103), some (.int 1), some (.int 2), some (.int x), some (.int (nI d)), none, none] [] M _
  refine aw_iload_n (i := 1) dX0_call_0 rfl rfl ?_
  refine aw_istore (i := 5) dX0_call_1 (by decide) ?_
  refine aw_iconst (v := 0) dX0_call_3 (by decide) ?_
  refine aw_istore (i := 6) dX0_call_4 (by decide) ?_
  refine aw_iload (i := 6) dX0_call_6 rfl ?_
  refine aw_bipush (v := 7) dX0_call_8 (by decide) ?_
  refine aw_icmp_ge (tgt := 41) dX0_call_10 (by decide) (fun h10 => ?_) (fun h10 => ?_)
  ·
    exact absurd h10 (by decide)
  ·
    refine aw_iload (i := 5) dX0_call_13 rfl ?_
    refine aw_iconst (v := (-1)) dX0_call_15 (by decide) ?_
    refine aw_icmp_eq (tgt := 41) dX0_call_16 (by decide) (fun h16 => ?_) (fun h16 => ?_)
    ·
      exact absurd h16 (by decide)
    ·
      refine aw_iload (i := 5) dX0_call_19 rfl ?_
      refine aw_iload_n (i := 2) dX0_call_21 rfl rfl ?_
      refine aw_cSi ck_X0_38 m_X0_bodyOf (by omega) (by decide) rfl rfl (Nat.le_of_ble_eq_true rfl) dX0_call_22 ?_
      refine aw_top (show bodyI 1 2 = 0 from by decide +kernel) ?_
      refine aw_if_ne (tgt := 41) dX0_call_25 (by decide) (fun h25 => ?_) (fun h25 => ?_)
      ·
        exact absurd h25 (by decide)
      ·
        refine aw_iload (i := 5) dX0_call_28 rfl ?_
        refine aw_cSi ck_X0_42 m_X7_kindAbove (by omega) (by decide) rfl rfl (Nat.le_of_ble_eq_true rfl) dX0_call_30 ?_
        refine aw_top (show aboveI 1 = 0 from by decide +kernel) ?_
        refine aw_istore (i := 5) dX0_call_33 (by decide) ?_
        refine aw_iinc (i := 6) (v := 1) dX0_call_35 rfl (by decide) (by decide) ?_
        refine aw_goto (tgt := 6) dX0_call_38 (by decide) ?_
        refine aw_iload (i := 6) dX0_call_6 rfl ?_
        refine aw_bipush (v := 7) dX0_call_8 (by decide) ?_
        refine aw_icmp_ge (tgt := 41) dX0_call_10 (by decide) (fun h10 => ?_) (fun h10 => ?_)
        ·
          exact absurd h10 (by decide)
        ·
          refine aw_iload (i := 5) dX0_call_13 rfl ?_
          refine aw_iconst (v := (-1)) dX0_call_15 (by decide) ?_
          refine aw_icmp_eq (tgt := 41) dX0_call_16 (by decide) (fun h16 => ?_) (fun h16 => ?_)
          ·
            exact absurd h16 (by decide)
          ·
            refine aw_iload (i := 5) dX0_call_19 rfl ?_
            refine aw_iload_n (i := 2) dX0_call_21 rfl rfl ?_
            refine aw_cSi ck_X0_38 m_X0_bodyOf (by omega) (by decide) rfl rfl (Nat.le_of_ble_eq_true rfl) dX0_call_22 ?_
            refine aw_top (show bodyI 0 2 = 12 from by decide +kernel) ?_
            refine aw_if_ne (tgt := 41) dX0_call_25 (by decide) (fun h25 => ?_) (fun h25 => ?_)
            ·
              refine aw_iload (i := 5) dX0_call_41 rfl ?_
              refine aw_iconst (v := (-1)) dX0_call_43 (by decide) ?_
              refine aw_icmp_eq (tgt := 54) dX0_call_44 (by decide) (fun h44 => ?_) (fun h44 => ?_)
              ·
                exact absurd h44 (by decide)
              ·
                refine aw_iload (i := 4) dX0_call_47 rfl ?_
                refine aw_bipush (v := 20) dX0_call_49 (by decide) ?_
                refine aw_top (show (20 : Int32) = nI 20 from rfl) ?_
                refine aw_icmp_ltN (tgt := 56) (by omega) (by omega) dX0_call_51 (by decide) (fun h51 => ?_) (fun h51 => ?_)
                ·
                  refine aw_aload_n (i := 0) dX0_call_56 rfl rfl ?_
                  refine aw_iload (i := 5) dX0_call_57 rfl ?_
                  refine aw_iload_n (i := 2) dX0_call_59 rfl rfl ?_
                  refine aw_cSi ck_X0_38 m_X0_bodyOf (by omega) (by decide) rfl rfl (Nat.le_of_ble_eq_true rfl) dX0_call_60 ?_
                  refine aw_top (show bodyI 0 2 = 12 from by decide +kernel) ?_
                  refine aw_cVv ck_X0_46 (m_X0_note h1 (by simp at hlen; omega)) sh_103 rfl (by omega) (by decide) rfl rfl (Nat.le_of_ble_eq_true rfl) dX0_call_63 ?_
                  refine aw_aload_n (i := 0) dX0_call_66 rfl rfl ?_
                  refine aw_iload (i := 5) dX0_call_67 rfl ?_
                  refine aw_iload_n (i := 2) dX0_call_69 rfl rfl ?_
                  refine aw_cSi ck_X0_38 m_X0_bodyOf (by omega) (by decide) rfl rfl (Nat.le_of_ble_eq_true rfl) dX0_call_70 ?_
                  refine aw_top (show bodyI 0 2 = 12 from by decide +kernel) ?_
                  refine aw_iload (i := 5) dX0_call_73 rfl ?_
                  refine aw_cSi ck_X0_42 m_X7_kindAbove (by omega) (by decide) rfl rfl (Nat.le_of_ble_eq_true rfl) dX0_call_75 ?_
                  refine aw_top (show aboveI 0 = (-1) from by decide +kernel) ?_
                  refine aw_iload_n (i := 3) dX0_call_78 rfl rfl ?_
                  refine aw_iload (i := 4) dX0_call_79 rfl ?_
                  refine aw_iconst (v := 1) dX0_call_81 (by decide) ?_
                  refine aw_iadd dX0_call_82 ?_
                  refine aw_top (nI_1 d) ?_
                  refine aw_cVi ck_X0_50 (h l (ntM 12 r M) (r + 1) (by rw [ntM_f (by decide)]; exact h2) (by rw [ntM_f (by decide)]; exact h3) (by rw [ntM_f (by decide)]; exact h4) ntM_1 (by simp at hlen; omega)) sh_103 rfl (by omega) (by decide) rfl rfl (Nat.le_of_ble_eq_true rfl) dX0_call_83 ?_
                  exact aw_iret rfl dX0_call_86 ⟨rfl, rfl⟩
                ·
                  exact absurd h51 (by omega)
            ·
              exact absurd h25 (by decide)
theorem cs_2_0 {K m pc : Int32} {d : Nat} {x R : Int32} {T : List Int32} (hd : d < 20) (h : AS K m pc 30 0 (d + 1) x R T) : CS K m pc 2 0 d x R (30 :: T) := by
  intro l M r h2 h3 h4 h1 hlen
  refine AMet.of (by decide) (by simp [aargs, Value.category]) ?_
  show AW l (2 * (20 - d) + 5) yX0_call cX0_call 7 (some FieldType.int) 0 [some (.ref 103), some (.int 2), some (.int 0), some (.int x), some (.int (nI d)), none, none] [] M _
  refine aw_iload_n (i := 1) dX0_call_0 rfl rfl ?_
  refine aw_istore (i := 5) dX0_call_1 (by decide) ?_
  refine aw_iconst (v := 0) dX0_call_3 (by decide) ?_
  refine aw_istore (i := 6) dX0_call_4 (by decide) ?_
  refine aw_iload (i := 6) dX0_call_6 rfl ?_
  refine aw_bipush (v := 7) dX0_call_8 (by decide) ?_
  refine aw_icmp_ge (tgt := 41) dX0_call_10 (by decide) (fun h10 => ?_) (fun h10 => ?_)
  ·
    exact absurd h10 (by decide)
  ·
    refine aw_iload (i := 5) dX0_call_13 rfl ?_
    refine aw_iconst (v := (-1)) dX0_call_15 (by decide) ?_
    refine aw_icmp_eq (tgt := 41) dX0_call_16 (by decide) (fun h16 => ?_) (fun h16 => ?_)
    ·
      exact absurd h16 (by decide)
    ·
      refine aw_iload (i := 5) dX0_call_19 rfl ?_
      refine aw_iload_n (i := 2) dX0_call_21 rfl rfl ?_
      refine aw_cSi ck_X0_38 m_X0_bodyOf (by omega) (by decide) rfl rfl (Nat.le_of_ble_eq_true rfl) dX0_call_22 ?_
      refine aw_top (show bodyI 2 0 = 30 from by decide +kernel) ?_
      refine aw_if_ne (tgt := 41) dX0_call_25 (by decide) (fun h25 => ?_) (fun h25 => ?_)
      ·
        refine aw_iload (i := 5) dX0_call_41 rfl ?_
        refine aw_iconst (v := (-1)) dX0_call_43 (by decide) ?_
        refine aw_icmp_eq (tgt := 54) dX0_call_44 (by decide) (fun h44 => ?_) (fun h44 => ?_)
        ·
          exact absurd h44 (by decide)
        ·
          refine aw_iload (i := 4) dX0_call_47 rfl ?_
          refine aw_bipush (v := 20) dX0_call_49 (by decide) ?_
          refine aw_top (show (20 : Int32) = nI 20 from rfl) ?_
          refine aw_icmp_ltN (tgt := 56) (by omega) (by omega) dX0_call_51 (by decide) (fun h51 => ?_) (fun h51 => ?_)
          ·
            refine aw_aload_n (i := 0) dX0_call_56 rfl rfl ?_
            refine aw_iload (i := 5) dX0_call_57 rfl ?_
            refine aw_iload_n (i := 2) dX0_call_59 rfl rfl ?_
            refine aw_cSi ck_X0_38 m_X0_bodyOf (by omega) (by decide) rfl rfl (Nat.le_of_ble_eq_true rfl) dX0_call_60 ?_
            refine aw_top (show bodyI 2 0 = 30 from by decide +kernel) ?_
            refine aw_cVv ck_X0_46 (m_X0_note h1 (by simp at hlen; omega)) sh_103 rfl (by omega) (by decide) rfl rfl (Nat.le_of_ble_eq_true rfl) dX0_call_63 ?_
            refine aw_aload_n (i := 0) dX0_call_66 rfl rfl ?_
            refine aw_iload (i := 5) dX0_call_67 rfl ?_
            refine aw_iload_n (i := 2) dX0_call_69 rfl rfl ?_
            refine aw_cSi ck_X0_38 m_X0_bodyOf (by omega) (by decide) rfl rfl (Nat.le_of_ble_eq_true rfl) dX0_call_70 ?_
            refine aw_top (show bodyI 2 0 = 30 from by decide +kernel) ?_
            refine aw_iload (i := 5) dX0_call_73 rfl ?_
            refine aw_cSi ck_X0_42 m_X7_kindAbove (by omega) (by decide) rfl rfl (Nat.le_of_ble_eq_true rfl) dX0_call_75 ?_
            refine aw_top (show aboveI 2 = 0 from by decide +kernel) ?_
            refine aw_iload_n (i := 3) dX0_call_78 rfl rfl ?_
            refine aw_iload (i := 4) dX0_call_79 rfl ?_
            refine aw_iconst (v := 1) dX0_call_81 (by decide) ?_
            refine aw_iadd dX0_call_82 ?_
            refine aw_top (nI_1 d) ?_
            refine aw_cVi ck_X0_50 (h l (ntM 30 r M) (r + 1) (by rw [ntM_f (by decide)]; exact h2) (by rw [ntM_f (by decide)]; exact h3) (by rw [ntM_f (by decide)]; exact h4) ntM_1 (by simp at hlen; omega)) sh_103 rfl (by omega) (by decide) rfl rfl (Nat.le_of_ble_eq_true rfl) dX0_call_83 ?_
            exact aw_iret rfl dX0_call_86 ⟨rfl, rfl⟩
          ·
            exact absurd h51 (by omega)
      ·
        exact absurd h25 (by decide)
theorem cs_2_1 {K m pc : Int32} {d : Nat} {x R : Int32} {T : List Int32} (hd : d < 20) (h : AS K m pc 11 (-1) (d + 1) x R T) : CS K m pc 2 1 d x R (11 :: T) := by
  intro l M r h2 h3 h4 h1 hlen
  refine AMet.of (by decide) (by simp [aargs, Value.category]) ?_
  show AW l (2 * (20 - d) + 5) yX0_call cX0_call 7 (some FieldType.int) 0 [some (.ref 103), some (.int 2), some (.int 1), some (.int x), some (.int (nI d)), none, none] [] M _
  refine aw_iload_n (i := 1) dX0_call_0 rfl rfl ?_
  refine aw_istore (i := 5) dX0_call_1 (by decide) ?_
  refine aw_iconst (v := 0) dX0_call_3 (by decide) ?_
  refine aw_istore (i := 6) dX0_call_4 (by decide) ?_
  refine aw_iload (i := 6) dX0_call_6 rfl ?_
  refine aw_bipush (v := 7) dX0_call_8 (by decide) ?_
  refine aw_icmp_ge (tgt := 41) dX0_call_10 (by decide) (fun h10 => ?_) (fun h10 => ?_)
  ·
    exact absurd h10 (by decide)
  ·
    refine aw_iload (i := 5) dX0_call_13 rfl ?_
    refine aw_iconst (v := (-1)) dX0_call_15 (by decide) ?_
    refine aw_icmp_eq (tgt := 41) dX0_call_16 (by decide) (fun h16 => ?_) (fun h16 => ?_)
    ·
      exact absurd h16 (by decide)
    ·
      refine aw_iload (i := 5) dX0_call_19 rfl ?_
      refine aw_iload_n (i := 2) dX0_call_21 rfl rfl ?_
      refine aw_cSi ck_X0_38 m_X0_bodyOf (by omega) (by decide) rfl rfl (Nat.le_of_ble_eq_true rfl) dX0_call_22 ?_
      refine aw_top (show bodyI 2 1 = 0 from by decide +kernel) ?_
      refine aw_if_ne (tgt := 41) dX0_call_25 (by decide) (fun h25 => ?_) (fun h25 => ?_)
      ·
        exact absurd h25 (by decide)
      ·
        refine aw_iload (i := 5) dX0_call_28 rfl ?_
        refine aw_cSi ck_X0_42 m_X7_kindAbove (by omega) (by decide) rfl rfl (Nat.le_of_ble_eq_true rfl) dX0_call_30 ?_
        refine aw_top (show aboveI 2 = 0 from by decide +kernel) ?_
        refine aw_istore (i := 5) dX0_call_33 (by decide) ?_
        refine aw_iinc (i := 6) (v := 1) dX0_call_35 rfl (by decide) (by decide) ?_
        refine aw_goto (tgt := 6) dX0_call_38 (by decide) ?_
        refine aw_iload (i := 6) dX0_call_6 rfl ?_
        refine aw_bipush (v := 7) dX0_call_8 (by decide) ?_
        refine aw_icmp_ge (tgt := 41) dX0_call_10 (by decide) (fun h10 => ?_) (fun h10 => ?_)
        ·
          exact absurd h10 (by decide)
        ·
          refine aw_iload (i := 5) dX0_call_13 rfl ?_
          refine aw_iconst (v := (-1)) dX0_call_15 (by decide) ?_
          refine aw_icmp_eq (tgt := 41) dX0_call_16 (by decide) (fun h16 => ?_) (fun h16 => ?_)
          ·
            exact absurd h16 (by decide)
          ·
            refine aw_iload (i := 5) dX0_call_19 rfl ?_
            refine aw_iload_n (i := 2) dX0_call_21 rfl rfl ?_
            refine aw_cSi ck_X0_38 m_X0_bodyOf (by omega) (by decide) rfl rfl (Nat.le_of_ble_eq_true rfl) dX0_call_22 ?_
            refine aw_top (show bodyI 0 1 = 11 from by decide +kernel) ?_
            refine aw_if_ne (tgt := 41) dX0_call_25 (by decide) (fun h25 => ?_) (fun h25 => ?_)
            ·
              refine aw_iload (i := 5) dX0_call_41 rfl ?_
              refine aw_iconst (v := (-1)) dX0_call_43 (by decide) ?_
              refine aw_icmp_eq (tgt := 54) dX0_call_44 (by decide) (fun h44 => ?_) (fun h44 => ?_)
              ·
                exact absurd h44 (by decide)
              ·
                refine aw_iload (i := 4) dX0_call_47 rfl ?_
                refine aw_bipush (v := 20) dX0_call_49 (by decide) ?_
                refine aw_top (show (20 : Int32) = nI 20 from rfl) ?_
                refine aw_icmp_ltN (tgt := 56) (by omega) (by omega) dX0_call_51 (by decide) (fun h51 => ?_) (fun h51 => ?_)
                ·
                  refine aw_aload_n (i := 0) dX0_call_56 rfl rfl ?_
                  refine aw_iload (i := 5) dX0_call_57 rfl ?_
                  refine aw_iload_n (i := 2) dX0_call_59 rfl rfl ?_
                  refine aw_cSi ck_X0_38 m_X0_bodyOf (by omega) (by decide) rfl rfl (Nat.le_of_ble_eq_true rfl) dX0_call_60 ?_
                  refine aw_top (show bodyI 0 1 = 11 from by decide +kernel) ?_
                  refine aw_cVv ck_X0_46 (m_X0_note h1 (by simp at hlen; omega)) sh_103 rfl (by omega) (by decide) rfl rfl (Nat.le_of_ble_eq_true rfl) dX0_call_63 ?_
                  refine aw_aload_n (i := 0) dX0_call_66 rfl rfl ?_
                  refine aw_iload (i := 5) dX0_call_67 rfl ?_
                  refine aw_iload_n (i := 2) dX0_call_69 rfl rfl ?_
                  refine aw_cSi ck_X0_38 m_X0_bodyOf (by omega) (by decide) rfl rfl (Nat.le_of_ble_eq_true rfl) dX0_call_70 ?_
                  refine aw_top (show bodyI 0 1 = 11 from by decide +kernel) ?_
                  refine aw_iload (i := 5) dX0_call_73 rfl ?_
                  refine aw_cSi ck_X0_42 m_X7_kindAbove (by omega) (by decide) rfl rfl (Nat.le_of_ble_eq_true rfl) dX0_call_75 ?_
                  refine aw_top (show aboveI 0 = (-1) from by decide +kernel) ?_
                  refine aw_iload_n (i := 3) dX0_call_78 rfl rfl ?_
                  refine aw_iload (i := 4) dX0_call_79 rfl ?_
                  refine aw_iconst (v := 1) dX0_call_81 (by decide) ?_
                  refine aw_iadd dX0_call_82 ?_
                  refine aw_top (nI_1 d) ?_
                  refine aw_cVi ck_X0_50 (h l (ntM 11 r M) (r + 1) (by rw [ntM_f (by decide)]; exact h2) (by rw [ntM_f (by decide)]; exact h3) (by rw [ntM_f (by decide)]; exact h4) ntM_1 (by simp at hlen; omega)) sh_103 rfl (by omega) (by decide) rfl rfl (Nat.le_of_ble_eq_true rfl) dX0_call_83 ?_
                  exact aw_iret rfl dX0_call_86 ⟨rfl, rfl⟩
                ·
                  exact absurd h51 (by omega)
            ·
              exact absurd h25 (by decide)
theorem cs_2_2 {K m pc : Int32} {d : Nat} {x R : Int32} {T : List Int32} (hd : d < 20) (h : AS K m pc 12 (-1) (d + 1) x R T) : CS K m pc 2 2 d x R (12 :: T) := by
  intro l M r h2 h3 h4 h1 hlen
  refine AMet.of (by decide) (by simp [aargs, Value.category]) ?_
  show AW l (2 * (20 - d) + 5) yX0_call cX0_call 7 (some FieldType.int) 0 [some (.ref 103), some (.int 2), some (.int 2), some (.int x), some (.int (nI d)), none, none] [] M _
  refine aw_iload_n (i := 1) dX0_call_0 rfl rfl ?_
  refine aw_istore (i := 5) dX0_call_1 (by decide) ?_
  refine aw_iconst (v := 0) dX0_call_3 (by decide) ?_
  refine aw_istore (i := 6) dX0_call_4 (by decide) ?_
  refine aw_iload (i := 6) dX0_call_6 rfl ?_
  refine aw_bipush (v := 7) dX0_call_8 (by decide) ?_
  refine aw_icmp_ge (tgt := 41) dX0_call_10 (by decide) (fun h10 => ?_) (fun h10 => ?_)
  ·
    exact absurd h10 (by decide)
  ·
    refine aw_iload (i := 5) dX0_call_13 rfl ?_
    refine aw_iconst (v := (-1)) dX0_call_15 (by decide) ?_
    refine aw_icmp_eq (tgt := 41) dX0_call_16 (by decide) (fun h16 => ?_) (fun h16 => ?_)
    ·
      exact absurd h16 (by decide)
    ·
      refine aw_iload (i := 5) dX0_call_19 rfl ?_
      refine aw_iload_n (i := 2) dX0_call_21 rfl rfl ?_
      refine aw_cSi ck_X0_38 m_X0_bodyOf (by omega) (by decide) rfl rfl (Nat.le_of_ble_eq_true rfl) dX0_call_22 ?_
      refine aw_top (show bodyI 2 2 = 0 from by decide +kernel) ?_
      refine aw_if_ne (tgt := 41) dX0_call_25 (by decide) (fun h25 => ?_) (fun h25 => ?_)
      ·
        exact absurd h25 (by decide)
      ·
        refine aw_iload (i := 5) dX0_call_28 rfl ?_
        refine aw_cSi ck_X0_42 m_X7_kindAbove (by omega) (by decide) rfl rfl (Nat.le_of_ble_eq_true rfl) dX0_call_30 ?_
        refine aw_top (show aboveI 2 = 0 from by decide +kernel) ?_
        refine aw_istore (i := 5) dX0_call_33 (by decide) ?_
        refine aw_iinc (i := 6) (v := 1) dX0_call_35 rfl (by decide) (by decide) ?_
        refine aw_goto (tgt := 6) dX0_call_38 (by decide) ?_
        refine aw_iload (i := 6) dX0_call_6 rfl ?_
        refine aw_bipush (v := 7) dX0_call_8 (by decide) ?_
        refine aw_icmp_ge (tgt := 41) dX0_call_10 (by decide) (fun h10 => ?_) (fun h10 => ?_)
        ·
          exact absurd h10 (by decide)
        ·
          refine aw_iload (i := 5) dX0_call_13 rfl ?_
          refine aw_iconst (v := (-1)) dX0_call_15 (by decide) ?_
          refine aw_icmp_eq (tgt := 41) dX0_call_16 (by decide) (fun h16 => ?_) (fun h16 => ?_)
          ·
            exact absurd h16 (by decide)
          ·
            refine aw_iload (i := 5) dX0_call_19 rfl ?_
            refine aw_iload_n (i := 2) dX0_call_21 rfl rfl ?_
            refine aw_cSi ck_X0_38 m_X0_bodyOf (by omega) (by decide) rfl rfl (Nat.le_of_ble_eq_true rfl) dX0_call_22 ?_
            refine aw_top (show bodyI 0 2 = 12 from by decide +kernel) ?_
            refine aw_if_ne (tgt := 41) dX0_call_25 (by decide) (fun h25 => ?_) (fun h25 => ?_)
            ·
              refine aw_iload (i := 5) dX0_call_41 rfl ?_
              refine aw_iconst (v := (-1)) dX0_call_43 (by decide) ?_
              refine aw_icmp_eq (tgt := 54) dX0_call_44 (by decide) (fun h44 => ?_) (fun h44 => ?_)
              ·
                exact absurd h44 (by decide)
              ·
                refine aw_iload (i := 4) dX0_call_47 rfl ?_
                refine aw_bipush (v := 20) dX0_call_49 (by decide) ?_
                refine aw_top (show (20 : Int32) = nI 20 from rfl) ?_
                refine aw_icmp_ltN (tgt := 56) (by omega) (by omega) dX0_call_51 (by decide) (fun h51 => ?_) (fun h51 => ?_)
                ·
                  refine aw_aload_n (i := 0) dX0_call_56 rfl rfl ?_
                  refine aw_iload (i := 5) dX0_call_57 rfl ?_
                  refine aw_iload_n (i := 2) dX0_call_59 rfl rfl ?_
                  refine aw_cSi ck_X0_38 m_X0_bodyOf (by omega) (by decide) rfl rfl (Nat.le_of_ble_eq_true rfl) dX0_call_60 ?_
                  refine aw_top (show bodyI 0 2 = 12 from by decide +kernel) ?_
                  refine aw_cVv ck_X0_46 (m_X0_note h1 (by simp at hlen; omega)) sh_103 rfl (by omega) (by decide) rfl rfl (Nat.le_of_ble_eq_true rfl) dX0_call_63 ?_
                  refine aw_aload_n (i := 0) dX0_call_66 rfl rfl ?_
                  refine aw_iload (i := 5) dX0_call_67 rfl ?_
                  refine aw_iload_n (i := 2) dX0_call_69 rfl rfl ?_
                  refine aw_cSi ck_X0_38 m_X0_bodyOf (by omega) (by decide) rfl rfl (Nat.le_of_ble_eq_true rfl) dX0_call_70 ?_
                  refine aw_top (show bodyI 0 2 = 12 from by decide +kernel) ?_
                  refine aw_iload (i := 5) dX0_call_73 rfl ?_
                  refine aw_cSi ck_X0_42 m_X7_kindAbove (by omega) (by decide) rfl rfl (Nat.le_of_ble_eq_true rfl) dX0_call_75 ?_
                  refine aw_top (show aboveI 0 = (-1) from by decide +kernel) ?_
                  refine aw_iload_n (i := 3) dX0_call_78 rfl rfl ?_
                  refine aw_iload (i := 4) dX0_call_79 rfl ?_
                  refine aw_iconst (v := 1) dX0_call_81 (by decide) ?_
                  refine aw_iadd dX0_call_82 ?_
                  refine aw_top (nI_1 d) ?_
                  refine aw_cVi ck_X0_50 (h l (ntM 12 r M) (r + 1) (by rw [ntM_f (by decide)]; exact h2) (by rw [ntM_f (by decide)]; exact h3) (by rw [ntM_f (by decide)]; exact h4) ntM_1 (by simp at hlen; omega)) sh_103 rfl (by omega) (by decide) rfl rfl (Nat.le_of_ble_eq_true rfl) dX0_call_83 ?_
                  exact aw_iret rfl dX0_call_86 ⟨rfl, rfl⟩
                ·
                  exact absurd h51 (by omega)
            ·
              exact absurd h25 (by decide)
theorem cs_3_0 {K m pc : Int32} {d : Nat} {x R : Int32} {T : List Int32} (hd : d < 20) (h : AS K m pc 40 2 (d + 1) x R T) : CS K m pc 3 0 d x R (40 :: T) := by
  intro l M r h2 h3 h4 h1 hlen
  refine AMet.of (by decide) (by simp [aargs, Value.category]) ?_
  show AW l (2 * (20 - d) + 5) yX0_call cX0_call 7 (some FieldType.int) 0 [some (.ref 103), some (.int 3), some (.int 0), some (.int x), some (.int (nI d)), none, none] [] M _
  refine aw_iload_n (i := 1) dX0_call_0 rfl rfl ?_
  refine aw_istore (i := 5) dX0_call_1 (by decide) ?_
  refine aw_iconst (v := 0) dX0_call_3 (by decide) ?_
  refine aw_istore (i := 6) dX0_call_4 (by decide) ?_
  refine aw_iload (i := 6) dX0_call_6 rfl ?_
  refine aw_bipush (v := 7) dX0_call_8 (by decide) ?_
  refine aw_icmp_ge (tgt := 41) dX0_call_10 (by decide) (fun h10 => ?_) (fun h10 => ?_)
  ·
    exact absurd h10 (by decide)
  ·
    refine aw_iload (i := 5) dX0_call_13 rfl ?_
    refine aw_iconst (v := (-1)) dX0_call_15 (by decide) ?_
    refine aw_icmp_eq (tgt := 41) dX0_call_16 (by decide) (fun h16 => ?_) (fun h16 => ?_)
    ·
      exact absurd h16 (by decide)
    ·
      refine aw_iload (i := 5) dX0_call_19 rfl ?_
      refine aw_iload_n (i := 2) dX0_call_21 rfl rfl ?_
      refine aw_cSi ck_X0_38 m_X0_bodyOf (by omega) (by decide) rfl rfl (Nat.le_of_ble_eq_true rfl) dX0_call_22 ?_
      refine aw_top (show bodyI 3 0 = 40 from by decide +kernel) ?_
      refine aw_if_ne (tgt := 41) dX0_call_25 (by decide) (fun h25 => ?_) (fun h25 => ?_)
      ·
        refine aw_iload (i := 5) dX0_call_41 rfl ?_
        refine aw_iconst (v := (-1)) dX0_call_43 (by decide) ?_
        refine aw_icmp_eq (tgt := 54) dX0_call_44 (by decide) (fun h44 => ?_) (fun h44 => ?_)
        ·
          exact absurd h44 (by decide)
        ·
          refine aw_iload (i := 4) dX0_call_47 rfl ?_
          refine aw_bipush (v := 20) dX0_call_49 (by decide) ?_
          refine aw_top (show (20 : Int32) = nI 20 from rfl) ?_
          refine aw_icmp_ltN (tgt := 56) (by omega) (by omega) dX0_call_51 (by decide) (fun h51 => ?_) (fun h51 => ?_)
          ·
            refine aw_aload_n (i := 0) dX0_call_56 rfl rfl ?_
            refine aw_iload (i := 5) dX0_call_57 rfl ?_
            refine aw_iload_n (i := 2) dX0_call_59 rfl rfl ?_
            refine aw_cSi ck_X0_38 m_X0_bodyOf (by omega) (by decide) rfl rfl (Nat.le_of_ble_eq_true rfl) dX0_call_60 ?_
            refine aw_top (show bodyI 3 0 = 40 from by decide +kernel) ?_
            refine aw_cVv ck_X0_46 (m_X0_note h1 (by simp at hlen; omega)) sh_103 rfl (by omega) (by decide) rfl rfl (Nat.le_of_ble_eq_true rfl) dX0_call_63 ?_
            refine aw_aload_n (i := 0) dX0_call_66 rfl rfl ?_
            refine aw_iload (i := 5) dX0_call_67 rfl ?_
            refine aw_iload_n (i := 2) dX0_call_69 rfl rfl ?_
            refine aw_cSi ck_X0_38 m_X0_bodyOf (by omega) (by decide) rfl rfl (Nat.le_of_ble_eq_true rfl) dX0_call_70 ?_
            refine aw_top (show bodyI 3 0 = 40 from by decide +kernel) ?_
            refine aw_iload (i := 5) dX0_call_73 rfl ?_
            refine aw_cSi ck_X0_42 m_X7_kindAbove (by omega) (by decide) rfl rfl (Nat.le_of_ble_eq_true rfl) dX0_call_75 ?_
            refine aw_top (show aboveI 3 = 2 from by decide +kernel) ?_
            refine aw_iload_n (i := 3) dX0_call_78 rfl rfl ?_
            refine aw_iload (i := 4) dX0_call_79 rfl ?_
            refine aw_iconst (v := 1) dX0_call_81 (by decide) ?_
            refine aw_iadd dX0_call_82 ?_
            refine aw_top (nI_1 d) ?_
            refine aw_cVi ck_X0_50 (h l (ntM 40 r M) (r + 1) (by rw [ntM_f (by decide)]; exact h2) (by rw [ntM_f (by decide)]; exact h3) (by rw [ntM_f (by decide)]; exact h4) ntM_1 (by simp at hlen; omega)) sh_103 rfl (by omega) (by decide) rfl rfl (Nat.le_of_ble_eq_true rfl) dX0_call_83 ?_
            exact aw_iret rfl dX0_call_86 ⟨rfl, rfl⟩
          ·
            exact absurd h51 (by omega)
      ·
        exact absurd h25 (by decide)
theorem cs_3_1 {K m pc : Int32} {d : Nat} {x R : Int32} {T : List Int32} (hd : d < 20) (h : AS K m pc 11 (-1) (d + 1) x R T) : CS K m pc 3 1 d x R (11 :: T) := by
  intro l M r h2 h3 h4 h1 hlen
  refine AMet.of (by decide) (by simp [aargs, Value.category]) ?_
  show AW l (2 * (20 - d) + 5) yX0_call cX0_call 7 (some FieldType.int) 0 [some (.ref 103), some (.int 3), some (.int 1), some (.int x), some (.int (nI d)), none, none] [] M _
  refine aw_iload_n (i := 1) dX0_call_0 rfl rfl ?_
  refine aw_istore (i := 5) dX0_call_1 (by decide) ?_
  refine aw_iconst (v := 0) dX0_call_3 (by decide) ?_
  refine aw_istore (i := 6) dX0_call_4 (by decide) ?_
  refine aw_iload (i := 6) dX0_call_6 rfl ?_
  refine aw_bipush (v := 7) dX0_call_8 (by decide) ?_
  refine aw_icmp_ge (tgt := 41) dX0_call_10 (by decide) (fun h10 => ?_) (fun h10 => ?_)
  ·
    exact absurd h10 (by decide)
  ·
    refine aw_iload (i := 5) dX0_call_13 rfl ?_
    refine aw_iconst (v := (-1)) dX0_call_15 (by decide) ?_
    refine aw_icmp_eq (tgt := 41) dX0_call_16 (by decide) (fun h16 => ?_) (fun h16 => ?_)
    ·
      exact absurd h16 (by decide)
    ·
      refine aw_iload (i := 5) dX0_call_19 rfl ?_
      refine aw_iload_n (i := 2) dX0_call_21 rfl rfl ?_
      refine aw_cSi ck_X0_38 m_X0_bodyOf (by omega) (by decide) rfl rfl (Nat.le_of_ble_eq_true rfl) dX0_call_22 ?_
      refine aw_top (show bodyI 3 1 = 0 from by decide +kernel) ?_
      refine aw_if_ne (tgt := 41) dX0_call_25 (by decide) (fun h25 => ?_) (fun h25 => ?_)
      ·
        exact absurd h25 (by decide)
      ·
        refine aw_iload (i := 5) dX0_call_28 rfl ?_
        refine aw_cSi ck_X0_42 m_X7_kindAbove (by omega) (by decide) rfl rfl (Nat.le_of_ble_eq_true rfl) dX0_call_30 ?_
        refine aw_top (show aboveI 3 = 2 from by decide +kernel) ?_
        refine aw_istore (i := 5) dX0_call_33 (by decide) ?_
        refine aw_iinc (i := 6) (v := 1) dX0_call_35 rfl (by decide) (by decide) ?_
        refine aw_goto (tgt := 6) dX0_call_38 (by decide) ?_
        refine aw_iload (i := 6) dX0_call_6 rfl ?_
        refine aw_bipush (v := 7) dX0_call_8 (by decide) ?_
        refine aw_icmp_ge (tgt := 41) dX0_call_10 (by decide) (fun h10 => ?_) (fun h10 => ?_)
        ·
          exact absurd h10 (by decide)
        ·
          refine aw_iload (i := 5) dX0_call_13 rfl ?_
          refine aw_iconst (v := (-1)) dX0_call_15 (by decide) ?_
          refine aw_icmp_eq (tgt := 41) dX0_call_16 (by decide) (fun h16 => ?_) (fun h16 => ?_)
          ·
            exact absurd h16 (by decide)
          ·
            refine aw_iload (i := 5) dX0_call_19 rfl ?_
            refine aw_iload_n (i := 2) dX0_call_21 rfl rfl ?_
            refine aw_cSi ck_X0_38 m_X0_bodyOf (by omega) (by decide) rfl rfl (Nat.le_of_ble_eq_true rfl) dX0_call_22 ?_
            refine aw_top (show bodyI 2 1 = 0 from by decide +kernel) ?_
            refine aw_if_ne (tgt := 41) dX0_call_25 (by decide) (fun h25 => ?_) (fun h25 => ?_)
            ·
              exact absurd h25 (by decide)
            ·
              refine aw_iload (i := 5) dX0_call_28 rfl ?_
              refine aw_cSi ck_X0_42 m_X7_kindAbove (by omega) (by decide) rfl rfl (Nat.le_of_ble_eq_true rfl) dX0_call_30 ?_
              refine aw_top (show aboveI 2 = 0 from by decide +kernel) ?_
              refine aw_istore (i := 5) dX0_call_33 (by decide) ?_
              refine aw_iinc (i := 6) (v := 2) dX0_call_35 rfl (by decide) (by decide) ?_
              refine aw_goto (tgt := 6) dX0_call_38 (by decide) ?_
              refine aw_iload (i := 6) dX0_call_6 rfl ?_
              refine aw_bipush (v := 7) dX0_call_8 (by decide) ?_
              refine aw_icmp_ge (tgt := 41) dX0_call_10 (by decide) (fun h10 => ?_) (fun h10 => ?_)
              ·
                exact absurd h10 (by decide)
              ·
                refine aw_iload (i := 5) dX0_call_13 rfl ?_
                refine aw_iconst (v := (-1)) dX0_call_15 (by decide) ?_
                refine aw_icmp_eq (tgt := 41) dX0_call_16 (by decide) (fun h16 => ?_) (fun h16 => ?_)
                ·
                  exact absurd h16 (by decide)
                ·
                  refine aw_iload (i := 5) dX0_call_19 rfl ?_
                  refine aw_iload_n (i := 2) dX0_call_21 rfl rfl ?_
                  refine aw_cSi ck_X0_38 m_X0_bodyOf (by omega) (by decide) rfl rfl (Nat.le_of_ble_eq_true rfl) dX0_call_22 ?_
                  refine aw_top (show bodyI 0 1 = 11 from by decide +kernel) ?_
                  refine aw_if_ne (tgt := 41) dX0_call_25 (by decide) (fun h25 => ?_) (fun h25 => ?_)
                  ·
                    refine aw_iload (i := 5) dX0_call_41 rfl ?_
                    refine aw_iconst (v := (-1)) dX0_call_43 (by decide) ?_
                    refine aw_icmp_eq (tgt := 54) dX0_call_44 (by decide) (fun h44 => ?_) (fun h44 => ?_)
                    ·
                      exact absurd h44 (by decide)
                    ·
                      refine aw_iload (i := 4) dX0_call_47 rfl ?_
                      refine aw_bipush (v := 20) dX0_call_49 (by decide) ?_
                      refine aw_top (show (20 : Int32) = nI 20 from rfl) ?_
                      refine aw_icmp_ltN (tgt := 56) (by omega) (by omega) dX0_call_51 (by decide) (fun h51 => ?_) (fun h51 => ?_)
                      ·
                        refine aw_aload_n (i := 0) dX0_call_56 rfl rfl ?_
                        refine aw_iload (i := 5) dX0_call_57 rfl ?_
                        refine aw_iload_n (i := 2) dX0_call_59 rfl rfl ?_
                        refine aw_cSi ck_X0_38 m_X0_bodyOf (by omega) (by decide) rfl rfl (Nat.le_of_ble_eq_true rfl) dX0_call_60 ?_
                        refine aw_top (show bodyI 0 1 = 11 from by decide +kernel) ?_
                        refine aw_cVv ck_X0_46 (m_X0_note h1 (by simp at hlen; omega)) sh_103 rfl (by omega) (by decide) rfl rfl (Nat.le_of_ble_eq_true rfl) dX0_call_63 ?_
                        refine aw_aload_n (i := 0) dX0_call_66 rfl rfl ?_
                        refine aw_iload (i := 5) dX0_call_67 rfl ?_
                        refine aw_iload_n (i := 2) dX0_call_69 rfl rfl ?_
                        refine aw_cSi ck_X0_38 m_X0_bodyOf (by omega) (by decide) rfl rfl (Nat.le_of_ble_eq_true rfl) dX0_call_70 ?_
                        refine aw_top (show bodyI 0 1 = 11 from by decide +kernel) ?_
                        refine aw_iload (i := 5) dX0_call_73 rfl ?_
                        refine aw_cSi ck_X0_42 m_X7_kindAbove (by omega) (by decide) rfl rfl (Nat.le_of_ble_eq_true rfl) dX0_call_75 ?_
                        refine aw_top (show aboveI 0 = (-1) from by decide +kernel) ?_
                        refine aw_iload_n (i := 3) dX0_call_78 rfl rfl ?_
                        refine aw_iload (i := 4) dX0_call_79 rfl ?_
                        refine aw_iconst (v := 1) dX0_call_81 (by decide) ?_
                        refine aw_iadd dX0_call_82 ?_
                        refine aw_top (nI_1 d) ?_
                        refine aw_cVi ck_X0_50 (h l (ntM 11 r M) (r + 1) (by rw [ntM_f (by decide)]; exact h2) (by rw [ntM_f (by decide)]; exact h3) (by rw [ntM_f (by decide)]; exact h4) ntM_1 (by simp at hlen; omega)) sh_103 rfl (by omega) (by decide) rfl rfl (Nat.le_of_ble_eq_true rfl) dX0_call_83 ?_
                        exact aw_iret rfl dX0_call_86 ⟨rfl, rfl⟩
                      ·
                        exact absurd h51 (by omega)
                  ·
                    exact absurd h25 (by decide)
theorem cs_3_2 {K m pc : Int32} {d : Nat} {x R : Int32} {T : List Int32} (hd : d < 20) (h : AS K m pc 12 (-1) (d + 1) x R T) : CS K m pc 3 2 d x R (12 :: T) := by
  intro l M r h2 h3 h4 h1 hlen
  refine AMet.of (by decide) (by simp [aargs, Value.category]) ?_
  show AW l (2 * (20 - d) + 5) yX0_call cX0_call 7 (some FieldType.int) 0 [some (.ref 103), some (.int 3), some (.int 2), some (.int x), some (.int (nI d)), none, none] [] M _
  refine aw_iload_n (i := 1) dX0_call_0 rfl rfl ?_
  refine aw_istore (i := 5) dX0_call_1 (by decide) ?_
  refine aw_iconst (v := 0) dX0_call_3 (by decide) ?_
  refine aw_istore (i := 6) dX0_call_4 (by decide) ?_
  refine aw_iload (i := 6) dX0_call_6 rfl ?_
  refine aw_bipush (v := 7) dX0_call_8 (by decide) ?_
  refine aw_icmp_ge (tgt := 41) dX0_call_10 (by decide) (fun h10 => ?_) (fun h10 => ?_)
  ·
    exact absurd h10 (by decide)
  ·
    refine aw_iload (i := 5) dX0_call_13 rfl ?_
    refine aw_iconst (v := (-1)) dX0_call_15 (by decide) ?_
    refine aw_icmp_eq (tgt := 41) dX0_call_16 (by decide) (fun h16 => ?_) (fun h16 => ?_)
    ·
      exact absurd h16 (by decide)
    ·
      refine aw_iload (i := 5) dX0_call_19 rfl ?_
      refine aw_iload_n (i := 2) dX0_call_21 rfl rfl ?_
      refine aw_cSi ck_X0_38 m_X0_bodyOf (by omega) (by decide) rfl rfl (Nat.le_of_ble_eq_true rfl) dX0_call_22 ?_
      refine aw_top (show bodyI 3 2 = 0 from by decide +kernel) ?_
      refine aw_if_ne (tgt := 41) dX0_call_25 (by decide) (fun h25 => ?_) (fun h25 => ?_)
      ·
        exact absurd h25 (by decide)
      ·
        refine aw_iload (i := 5) dX0_call_28 rfl ?_
        refine aw_cSi ck_X0_42 m_X7_kindAbove (by omega) (by decide) rfl rfl (Nat.le_of_ble_eq_true rfl) dX0_call_30 ?_
        refine aw_top (show aboveI 3 = 2 from by decide +kernel) ?_
        refine aw_istore (i := 5) dX0_call_33 (by decide) ?_
        refine aw_iinc (i := 6) (v := 1) dX0_call_35 rfl (by decide) (by decide) ?_
        refine aw_goto (tgt := 6) dX0_call_38 (by decide) ?_
        refine aw_iload (i := 6) dX0_call_6 rfl ?_
        refine aw_bipush (v := 7) dX0_call_8 (by decide) ?_
        refine aw_icmp_ge (tgt := 41) dX0_call_10 (by decide) (fun h10 => ?_) (fun h10 => ?_)
        ·
          exact absurd h10 (by decide)
        ·
          refine aw_iload (i := 5) dX0_call_13 rfl ?_
          refine aw_iconst (v := (-1)) dX0_call_15 (by decide) ?_
          refine aw_icmp_eq (tgt := 41) dX0_call_16 (by decide) (fun h16 => ?_) (fun h16 => ?_)
          ·
            exact absurd h16 (by decide)
          ·
            refine aw_iload (i := 5) dX0_call_19 rfl ?_
            refine aw_iload_n (i := 2) dX0_call_21 rfl rfl ?_
            refine aw_cSi ck_X0_38 m_X0_bodyOf (by omega) (by decide) rfl rfl (Nat.le_of_ble_eq_true rfl) dX0_call_22 ?_
            refine aw_top (show bodyI 2 2 = 0 from by decide +kernel) ?_
            refine aw_if_ne (tgt := 41) dX0_call_25 (by decide) (fun h25 => ?_) (fun h25 => ?_)
            ·
              exact absurd h25 (by decide)
            ·
              refine aw_iload (i := 5) dX0_call_28 rfl ?_
              refine aw_cSi ck_X0_42 m_X7_kindAbove (by omega) (by decide) rfl rfl (Nat.le_of_ble_eq_true rfl) dX0_call_30 ?_
              refine aw_top (show aboveI 2 = 0 from by decide +kernel) ?_
              refine aw_istore (i := 5) dX0_call_33 (by decide) ?_
              refine aw_iinc (i := 6) (v := 2) dX0_call_35 rfl (by decide) (by decide) ?_
              refine aw_goto (tgt := 6) dX0_call_38 (by decide) ?_
              refine aw_iload (i := 6) dX0_call_6 rfl ?_
              refine aw_bipush (v := 7) dX0_call_8 (by decide) ?_
              refine aw_icmp_ge (tgt := 41) dX0_call_10 (by decide) (fun h10 => ?_) (fun h10 => ?_)
              ·
                exact absurd h10 (by decide)
              ·
                refine aw_iload (i := 5) dX0_call_13 rfl ?_
                refine aw_iconst (v := (-1)) dX0_call_15 (by decide) ?_
                refine aw_icmp_eq (tgt := 41) dX0_call_16 (by decide) (fun h16 => ?_) (fun h16 => ?_)
                ·
                  exact absurd h16 (by decide)
                ·
                  refine aw_iload (i := 5) dX0_call_19 rfl ?_
                  refine aw_iload_n (i := 2) dX0_call_21 rfl rfl ?_
                  refine aw_cSi ck_X0_38 m_X0_bodyOf (by omega) (by decide) rfl rfl (Nat.le_of_ble_eq_true rfl) dX0_call_22 ?_
                  refine aw_top (show bodyI 0 2 = 12 from by decide +kernel) ?_
                  refine aw_if_ne (tgt := 41) dX0_call_25 (by decide) (fun h25 => ?_) (fun h25 => ?_)
                  ·
                    refine aw_iload (i := 5) dX0_call_41 rfl ?_
                    refine aw_iconst (v := (-1)) dX0_call_43 (by decide) ?_
                    refine aw_icmp_eq (tgt := 54) dX0_call_44 (by decide) (fun h44 => ?_) (fun h44 => ?_)
                    ·
                      exact absurd h44 (by decide)
                    ·
                      refine aw_iload (i := 4) dX0_call_47 rfl ?_
                      refine aw_bipush (v := 20) dX0_call_49 (by decide) ?_
                      refine aw_top (show (20 : Int32) = nI 20 from rfl) ?_
                      refine aw_icmp_ltN (tgt := 56) (by omega) (by omega) dX0_call_51 (by decide) (fun h51 => ?_) (fun h51 => ?_)
                      ·
                        refine aw_aload_n (i := 0) dX0_call_56 rfl rfl ?_
                        refine aw_iload (i := 5) dX0_call_57 rfl ?_
                        refine aw_iload_n (i := 2) dX0_call_59 rfl rfl ?_
                        refine aw_cSi ck_X0_38 m_X0_bodyOf (by omega) (by decide) rfl rfl (Nat.le_of_ble_eq_true rfl) dX0_call_60 ?_
                        refine aw_top (show bodyI 0 2 = 12 from by decide +kernel) ?_
                        refine aw_cVv ck_X0_46 (m_X0_note h1 (by simp at hlen; omega)) sh_103 rfl (by omega) (by decide) rfl rfl (Nat.le_of_ble_eq_true rfl) dX0_call_63 ?_
                        refine aw_aload_n (i := 0) dX0_call_66 rfl rfl ?_
                        refine aw_iload (i := 5) dX0_call_67 rfl ?_
                        refine aw_iload_n (i := 2) dX0_call_69 rfl rfl ?_
                        refine aw_cSi ck_X0_38 m_X0_bodyOf (by omega) (by decide) rfl rfl (Nat.le_of_ble_eq_true rfl) dX0_call_70 ?_
                        refine aw_top (show bodyI 0 2 = 12 from by decide +kernel) ?_
                        refine aw_iload (i := 5) dX0_call_73 rfl ?_
                        refine aw_cSi ck_X0_42 m_X7_kindAbove (by omega) (by decide) rfl rfl (Nat.le_of_ble_eq_true rfl) dX0_call_75 ?_
                        refine aw_top (show aboveI 0 = (-1) from by decide +kernel) ?_
                        refine aw_iload_n (i := 3) dX0_call_78 rfl rfl ?_
                        refine aw_iload (i := 4) dX0_call_79 rfl ?_
                        refine aw_iconst (v := 1) dX0_call_81 (by decide) ?_
                        refine aw_iadd dX0_call_82 ?_
                        refine aw_top (nI_1 d) ?_
                        refine aw_cVi ck_X0_50 (h l (ntM 12 r M) (r + 1) (by rw [ntM_f (by decide)]; exact h2) (by rw [ntM_f (by decide)]; exact h3) (by rw [ntM_f (by decide)]; exact h4) ntM_1 (by simp at hlen; omega)) sh_103 rfl (by omega) (by decide) rfl rfl (Nat.le_of_ble_eq_true rfl) dX0_call_83 ?_
                        exact aw_iret rfl dX0_call_86 ⟨rfl, rfl⟩
                      ·
                        exact absurd h51 (by omega)
                  ·
                    exact absurd h25 (by decide)
theorem cs_4_0 {K m pc : Int32} {d : Nat} {x R : Int32} {T : List Int32} (hd : d < 20) (h : AS K m pc 30 0 (d + 1) x R T) : CS K m pc 4 0 d x R (30 :: T) := by
  intro l M r h2 h3 h4 h1 hlen
  refine AMet.of (by decide) (by simp [aargs, Value.category]) ?_
  show AW l (2 * (20 - d) + 5) yX0_call cX0_call 7 (some FieldType.int) 0 [some (.ref 103), some (.int 4), some (.int 0), some (.int x), some (.int (nI d)), none, none] [] M _
  refine aw_iload_n (i := 1) dX0_call_0 rfl rfl ?_
  refine aw_istore (i := 5) dX0_call_1 (by decide) ?_
  refine aw_iconst (v := 0) dX0_call_3 (by decide) ?_
  refine aw_istore (i := 6) dX0_call_4 (by decide) ?_
  refine aw_iload (i := 6) dX0_call_6 rfl ?_
  refine aw_bipush (v := 7) dX0_call_8 (by decide) ?_
  refine aw_icmp_ge (tgt := 41) dX0_call_10 (by decide) (fun h10 => ?_) (fun h10 => ?_)
  ·
    exact absurd h10 (by decide)
  ·
    refine aw_iload (i := 5) dX0_call_13 rfl ?_
    refine aw_iconst (v := (-1)) dX0_call_15 (by decide) ?_
    refine aw_icmp_eq (tgt := 41) dX0_call_16 (by decide) (fun h16 => ?_) (fun h16 => ?_)
    ·
      exact absurd h16 (by decide)
    ·
      refine aw_iload (i := 5) dX0_call_19 rfl ?_
      refine aw_iload_n (i := 2) dX0_call_21 rfl rfl ?_
      refine aw_cSi ck_X0_38 m_X0_bodyOf (by omega) (by decide) rfl rfl (Nat.le_of_ble_eq_true rfl) dX0_call_22 ?_
      refine aw_top (show bodyI 4 0 = 0 from by decide +kernel) ?_
      refine aw_if_ne (tgt := 41) dX0_call_25 (by decide) (fun h25 => ?_) (fun h25 => ?_)
      ·
        exact absurd h25 (by decide)
      ·
        refine aw_iload (i := 5) dX0_call_28 rfl ?_
        refine aw_cSi ck_X0_42 m_X7_kindAbove (by omega) (by decide) rfl rfl (Nat.le_of_ble_eq_true rfl) dX0_call_30 ?_
        refine aw_top (show aboveI 4 = 2 from by decide +kernel) ?_
        refine aw_istore (i := 5) dX0_call_33 (by decide) ?_
        refine aw_iinc (i := 6) (v := 1) dX0_call_35 rfl (by decide) (by decide) ?_
        refine aw_goto (tgt := 6) dX0_call_38 (by decide) ?_
        refine aw_iload (i := 6) dX0_call_6 rfl ?_
        refine aw_bipush (v := 7) dX0_call_8 (by decide) ?_
        refine aw_icmp_ge (tgt := 41) dX0_call_10 (by decide) (fun h10 => ?_) (fun h10 => ?_)
        ·
          exact absurd h10 (by decide)
        ·
          refine aw_iload (i := 5) dX0_call_13 rfl ?_
          refine aw_iconst (v := (-1)) dX0_call_15 (by decide) ?_
          refine aw_icmp_eq (tgt := 41) dX0_call_16 (by decide) (fun h16 => ?_) (fun h16 => ?_)
          ·
            exact absurd h16 (by decide)
          ·
            refine aw_iload (i := 5) dX0_call_19 rfl ?_
            refine aw_iload_n (i := 2) dX0_call_21 rfl rfl ?_
            refine aw_cSi ck_X0_38 m_X0_bodyOf (by omega) (by decide) rfl rfl (Nat.le_of_ble_eq_true rfl) dX0_call_22 ?_
            refine aw_top (show bodyI 2 0 = 30 from by decide +kernel) ?_
            refine aw_if_ne (tgt := 41) dX0_call_25 (by decide) (fun h25 => ?_) (fun h25 => ?_)
            ·
              refine aw_iload (i := 5) dX0_call_41 rfl ?_
              refine aw_iconst (v := (-1)) dX0_call_43 (by decide) ?_
              refine aw_icmp_eq (tgt := 54) dX0_call_44 (by decide) (fun h44 => ?_) (fun h44 => ?_)
              ·
                exact absurd h44 (by decide)
              ·
                refine aw_iload (i := 4) dX0_call_47 rfl ?_
                refine aw_bipush (v := 20) dX0_call_49 (by decide) ?_
                refine aw_top (show (20 : Int32) = nI 20 from rfl) ?_
                refine aw_icmp_ltN (tgt := 56) (by omega) (by omega) dX0_call_51 (by decide) (fun h51 => ?_) (fun h51 => ?_)
                ·
                  refine aw_aload_n (i := 0) dX0_call_56 rfl rfl ?_
                  refine aw_iload (i := 5) dX0_call_57 rfl ?_
                  refine aw_iload_n (i := 2) dX0_call_59 rfl rfl ?_
                  refine aw_cSi ck_X0_38 m_X0_bodyOf (by omega) (by decide) rfl rfl (Nat.le_of_ble_eq_true rfl) dX0_call_60 ?_
                  refine aw_top (show bodyI 2 0 = 30 from by decide +kernel) ?_
                  refine aw_cVv ck_X0_46 (m_X0_note h1 (by simp at hlen; omega)) sh_103 rfl (by omega) (by decide) rfl rfl (Nat.le_of_ble_eq_true rfl) dX0_call_63 ?_
                  refine aw_aload_n (i := 0) dX0_call_66 rfl rfl ?_
                  refine aw_iload (i := 5) dX0_call_67 rfl ?_
                  refine aw_iload_n (i := 2) dX0_call_69 rfl rfl ?_
                  refine aw_cSi ck_X0_38 m_X0_bodyOf (by omega) (by decide) rfl rfl (Nat.le_of_ble_eq_true rfl) dX0_call_70 ?_
                  refine aw_top (show bodyI 2 0 = 30 from by decide +kernel) ?_
                  refine aw_iload (i := 5) dX0_call_73 rfl ?_
                  refine aw_cSi ck_X0_42 m_X7_kindAbove (by omega) (by decide) rfl rfl (Nat.le_of_ble_eq_true rfl) dX0_call_75 ?_
                  refine aw_top (show aboveI 2 = 0 from by decide +kernel) ?_
                  refine aw_iload_n (i := 3) dX0_call_78 rfl rfl ?_
                  refine aw_iload (i := 4) dX0_call_79 rfl ?_
                  refine aw_iconst (v := 1) dX0_call_81 (by decide) ?_
                  refine aw_iadd dX0_call_82 ?_
                  refine aw_top (nI_1 d) ?_
                  refine aw_cVi ck_X0_50 (h l (ntM 30 r M) (r + 1) (by rw [ntM_f (by decide)]; exact h2) (by rw [ntM_f (by decide)]; exact h3) (by rw [ntM_f (by decide)]; exact h4) ntM_1 (by simp at hlen; omega)) sh_103 rfl (by omega) (by decide) rfl rfl (Nat.le_of_ble_eq_true rfl) dX0_call_83 ?_
                  exact aw_iret rfl dX0_call_86 ⟨rfl, rfl⟩
                ·
                  exact absurd h51 (by omega)
            ·
              exact absurd h25 (by decide)
theorem cs_4_1 {K m pc : Int32} {d : Nat} {x R : Int32} {T : List Int32} (hd : d < 20) (h : AS K m pc 51 2 (d + 1) x R T) : CS K m pc 4 1 d x R (51 :: T) := by
  intro l M r h2 h3 h4 h1 hlen
  refine AMet.of (by decide) (by simp [aargs, Value.category]) ?_
  show AW l (2 * (20 - d) + 5) yX0_call cX0_call 7 (some FieldType.int) 0 [some (.ref 103), some (.int 4), some (.int 1), some (.int x), some (.int (nI d)), none, none] [] M _
  refine aw_iload_n (i := 1) dX0_call_0 rfl rfl ?_
  refine aw_istore (i := 5) dX0_call_1 (by decide) ?_
  refine aw_iconst (v := 0) dX0_call_3 (by decide) ?_
  refine aw_istore (i := 6) dX0_call_4 (by decide) ?_
  refine aw_iload (i := 6) dX0_call_6 rfl ?_
  refine aw_bipush (v := 7) dX0_call_8 (by decide) ?_
  refine aw_icmp_ge (tgt := 41) dX0_call_10 (by decide) (fun h10 => ?_) (fun h10 => ?_)
  ·
    exact absurd h10 (by decide)
  ·
    refine aw_iload (i := 5) dX0_call_13 rfl ?_
    refine aw_iconst (v := (-1)) dX0_call_15 (by decide) ?_
    refine aw_icmp_eq (tgt := 41) dX0_call_16 (by decide) (fun h16 => ?_) (fun h16 => ?_)
    ·
      exact absurd h16 (by decide)
    ·
      refine aw_iload (i := 5) dX0_call_19 rfl ?_
      refine aw_iload_n (i := 2) dX0_call_21 rfl rfl ?_
      refine aw_cSi ck_X0_38 m_X0_bodyOf (by omega) (by decide) rfl rfl (Nat.le_of_ble_eq_true rfl) dX0_call_22 ?_
      refine aw_top (show bodyI 4 1 = 51 from by decide +kernel) ?_
      refine aw_if_ne (tgt := 41) dX0_call_25 (by decide) (fun h25 => ?_) (fun h25 => ?_)
      ·
        refine aw_iload (i := 5) dX0_call_41 rfl ?_
        refine aw_iconst (v := (-1)) dX0_call_43 (by decide) ?_
        refine aw_icmp_eq (tgt := 54) dX0_call_44 (by decide) (fun h44 => ?_) (fun h44 => ?_)
        ·
          exact absurd h44 (by decide)
        ·
          refine aw_iload (i := 4) dX0_call_47 rfl ?_
          refine aw_bipush (v := 20) dX0_call_49 (by decide) ?_
          refine aw_top (show (20 : Int32) = nI 20 from rfl) ?_
          refine aw_icmp_ltN (tgt := 56) (by omega) (by omega) dX0_call_51 (by decide) (fun h51 => ?_) (fun h51 => ?_)
          ·
            refine aw_aload_n (i := 0) dX0_call_56 rfl rfl ?_
            refine aw_iload (i := 5) dX0_call_57 rfl ?_
            refine aw_iload_n (i := 2) dX0_call_59 rfl rfl ?_
            refine aw_cSi ck_X0_38 m_X0_bodyOf (by omega) (by decide) rfl rfl (Nat.le_of_ble_eq_true rfl) dX0_call_60 ?_
            refine aw_top (show bodyI 4 1 = 51 from by decide +kernel) ?_
            refine aw_cVv ck_X0_46 (m_X0_note h1 (by simp at hlen; omega)) sh_103 rfl (by omega) (by decide) rfl rfl (Nat.le_of_ble_eq_true rfl) dX0_call_63 ?_
            refine aw_aload_n (i := 0) dX0_call_66 rfl rfl ?_
            refine aw_iload (i := 5) dX0_call_67 rfl ?_
            refine aw_iload_n (i := 2) dX0_call_69 rfl rfl ?_
            refine aw_cSi ck_X0_38 m_X0_bodyOf (by omega) (by decide) rfl rfl (Nat.le_of_ble_eq_true rfl) dX0_call_70 ?_
            refine aw_top (show bodyI 4 1 = 51 from by decide +kernel) ?_
            refine aw_iload (i := 5) dX0_call_73 rfl ?_
            refine aw_cSi ck_X0_42 m_X7_kindAbove (by omega) (by decide) rfl rfl (Nat.le_of_ble_eq_true rfl) dX0_call_75 ?_
            refine aw_top (show aboveI 4 = 2 from by decide +kernel) ?_
            refine aw_iload_n (i := 3) dX0_call_78 rfl rfl ?_
            refine aw_iload (i := 4) dX0_call_79 rfl ?_
            refine aw_iconst (v := 1) dX0_call_81 (by decide) ?_
            refine aw_iadd dX0_call_82 ?_
            refine aw_top (nI_1 d) ?_
            refine aw_cVi ck_X0_50 (h l (ntM 51 r M) (r + 1) (by rw [ntM_f (by decide)]; exact h2) (by rw [ntM_f (by decide)]; exact h3) (by rw [ntM_f (by decide)]; exact h4) ntM_1 (by simp at hlen; omega)) sh_103 rfl (by omega) (by decide) rfl rfl (Nat.le_of_ble_eq_true rfl) dX0_call_83 ?_
            exact aw_iret rfl dX0_call_86 ⟨rfl, rfl⟩
          ·
            exact absurd h51 (by omega)
      ·
        exact absurd h25 (by decide)
theorem cs_4_2 {K m pc : Int32} {d : Nat} {x R : Int32} {T : List Int32} (hd : d < 20) (h : AS K m pc 50 2 (d + 1) x R T) : CS K m pc 4 2 d x R (50 :: T) := by
  intro l M r h2 h3 h4 h1 hlen
  refine AMet.of (by decide) (by simp [aargs, Value.category]) ?_
  show AW l (2 * (20 - d) + 5) yX0_call cX0_call 7 (some FieldType.int) 0 [some (.ref 103), some (.int 4), some (.int 2), some (.int x), some (.int (nI d)), none, none] [] M _
  refine aw_iload_n (i := 1) dX0_call_0 rfl rfl ?_
  refine aw_istore (i := 5) dX0_call_1 (by decide) ?_
  refine aw_iconst (v := 0) dX0_call_3 (by decide) ?_
  refine aw_istore (i := 6) dX0_call_4 (by decide) ?_
  refine aw_iload (i := 6) dX0_call_6 rfl ?_
  refine aw_bipush (v := 7) dX0_call_8 (by decide) ?_
  refine aw_icmp_ge (tgt := 41) dX0_call_10 (by decide) (fun h10 => ?_) (fun h10 => ?_)
  ·
    exact absurd h10 (by decide)
  ·
    refine aw_iload (i := 5) dX0_call_13 rfl ?_
    refine aw_iconst (v := (-1)) dX0_call_15 (by decide) ?_
    refine aw_icmp_eq (tgt := 41) dX0_call_16 (by decide) (fun h16 => ?_) (fun h16 => ?_)
    ·
      exact absurd h16 (by decide)
    ·
      refine aw_iload (i := 5) dX0_call_19 rfl ?_
      refine aw_iload_n (i := 2) dX0_call_21 rfl rfl ?_
      refine aw_cSi ck_X0_38 m_X0_bodyOf (by omega) (by decide) rfl rfl (Nat.le_of_ble_eq_true rfl) dX0_call_22 ?_
      refine aw_top (show bodyI 4 2 = 50 from by decide +kernel) ?_
      refine aw_if_ne (tgt := 41) dX0_call_25 (by decide) (fun h25 => ?_) (fun h25 => ?_)
      ·
        refine aw_iload (i := 5) dX0_call_41 rfl ?_
        refine aw_iconst (v := (-1)) dX0_call_43 (by decide) ?_
        refine aw_icmp_eq (tgt := 54) dX0_call_44 (by decide) (fun h44 => ?_) (fun h44 => ?_)
        ·
          exact absurd h44 (by decide)
        ·
          refine aw_iload (i := 4) dX0_call_47 rfl ?_
          refine aw_bipush (v := 20) dX0_call_49 (by decide) ?_
          refine aw_top (show (20 : Int32) = nI 20 from rfl) ?_
          refine aw_icmp_ltN (tgt := 56) (by omega) (by omega) dX0_call_51 (by decide) (fun h51 => ?_) (fun h51 => ?_)
          ·
            refine aw_aload_n (i := 0) dX0_call_56 rfl rfl ?_
            refine aw_iload (i := 5) dX0_call_57 rfl ?_
            refine aw_iload_n (i := 2) dX0_call_59 rfl rfl ?_
            refine aw_cSi ck_X0_38 m_X0_bodyOf (by omega) (by decide) rfl rfl (Nat.le_of_ble_eq_true rfl) dX0_call_60 ?_
            refine aw_top (show bodyI 4 2 = 50 from by decide +kernel) ?_
            refine aw_cVv ck_X0_46 (m_X0_note h1 (by simp at hlen; omega)) sh_103 rfl (by omega) (by decide) rfl rfl (Nat.le_of_ble_eq_true rfl) dX0_call_63 ?_
            refine aw_aload_n (i := 0) dX0_call_66 rfl rfl ?_
            refine aw_iload (i := 5) dX0_call_67 rfl ?_
            refine aw_iload_n (i := 2) dX0_call_69 rfl rfl ?_
            refine aw_cSi ck_X0_38 m_X0_bodyOf (by omega) (by decide) rfl rfl (Nat.le_of_ble_eq_true rfl) dX0_call_70 ?_
            refine aw_top (show bodyI 4 2 = 50 from by decide +kernel) ?_
            refine aw_iload (i := 5) dX0_call_73 rfl ?_
            refine aw_cSi ck_X0_42 m_X7_kindAbove (by omega) (by decide) rfl rfl (Nat.le_of_ble_eq_true rfl) dX0_call_75 ?_
            refine aw_top (show aboveI 4 = 2 from by decide +kernel) ?_
            refine aw_iload_n (i := 3) dX0_call_78 rfl rfl ?_
            refine aw_iload (i := 4) dX0_call_79 rfl ?_
            refine aw_iconst (v := 1) dX0_call_81 (by decide) ?_
            refine aw_iadd dX0_call_82 ?_
            refine aw_top (nI_1 d) ?_
            refine aw_cVi ck_X0_50 (h l (ntM 50 r M) (r + 1) (by rw [ntM_f (by decide)]; exact h2) (by rw [ntM_f (by decide)]; exact h3) (by rw [ntM_f (by decide)]; exact h4) ntM_1 (by simp at hlen; omega)) sh_103 rfl (by omega) (by decide) rfl rfl (Nat.le_of_ble_eq_true rfl) dX0_call_83 ?_
            exact aw_iret rfl dX0_call_86 ⟨rfl, rfl⟩
          ·
            exact absurd h51 (by omega)
      ·
        exact absurd h25 (by decide)
theorem cs_5_0 {K m pc : Int32} {d : Nat} {x R : Int32} {T : List Int32} (hd : d < 20) (h : AS K m pc 30 0 (d + 1) x R T) : CS K m pc 5 0 d x R (30 :: T) := by
  intro l M r h2 h3 h4 h1 hlen
  refine AMet.of (by decide) (by simp [aargs, Value.category]) ?_
  show AW l (2 * (20 - d) + 5) yX0_call cX0_call 7 (some FieldType.int) 0 [some (.ref 103), some (.int 5), some (.int 0), some (.int x), some (.int (nI d)), none, none] [] M _
  refine aw_iload_n (i := 1) dX0_call_0 rfl rfl ?_
  refine aw_istore (i := 5) dX0_call_1 (by decide) ?_
  refine aw_iconst (v := 0) dX0_call_3 (by decide) ?_
  refine aw_istore (i := 6) dX0_call_4 (by decide) ?_
  refine aw_iload (i := 6) dX0_call_6 rfl ?_
  refine aw_bipush (v := 7) dX0_call_8 (by decide) ?_
  refine aw_icmp_ge (tgt := 41) dX0_call_10 (by decide) (fun h10 => ?_) (fun h10 => ?_)
  ·
    exact absurd h10 (by decide)
  ·
    refine aw_iload (i := 5) dX0_call_13 rfl ?_
    refine aw_iconst (v := (-1)) dX0_call_15 (by decide) ?_
    refine aw_icmp_eq (tgt := 41) dX0_call_16 (by decide) (fun h16 => ?_) (fun h16 => ?_)
    ·
      exact absurd h16 (by decide)
    ·
      refine aw_iload (i := 5) dX0_call_19 rfl ?_
      refine aw_iload_n (i := 2) dX0_call_21 rfl rfl ?_
      refine aw_cSi ck_X0_38 m_X0_bodyOf (by omega) (by decide) rfl rfl (Nat.le_of_ble_eq_true rfl) dX0_call_22 ?_
      refine aw_top (show bodyI 5 0 = 0 from by decide +kernel) ?_
      refine aw_if_ne (tgt := 41) dX0_call_25 (by decide) (fun h25 => ?_) (fun h25 => ?_)
      ·
        exact absurd h25 (by decide)
      ·
        refine aw_iload (i := 5) dX0_call_28 rfl ?_
        refine aw_cSi ck_X0_42 m_X7_kindAbove (by omega) (by decide) rfl rfl (Nat.le_of_ble_eq_true rfl) dX0_call_30 ?_
        refine aw_top (show aboveI 5 = 2 from by decide +kernel) ?_
        refine aw_istore (i := 5) dX0_call_33 (by decide) ?_
        refine aw_iinc (i := 6) (v := 1) dX0_call_35 rfl (by decide) (by decide) ?_
        refine aw_goto (tgt := 6) dX0_call_38 (by decide) ?_
        refine aw_iload (i := 6) dX0_call_6 rfl ?_
        refine aw_bipush (v := 7) dX0_call_8 (by decide) ?_
        refine aw_icmp_ge (tgt := 41) dX0_call_10 (by decide) (fun h10 => ?_) (fun h10 => ?_)
        ·
          exact absurd h10 (by decide)
        ·
          refine aw_iload (i := 5) dX0_call_13 rfl ?_
          refine aw_iconst (v := (-1)) dX0_call_15 (by decide) ?_
          refine aw_icmp_eq (tgt := 41) dX0_call_16 (by decide) (fun h16 => ?_) (fun h16 => ?_)
          ·
            exact absurd h16 (by decide)
          ·
            refine aw_iload (i := 5) dX0_call_19 rfl ?_
            refine aw_iload_n (i := 2) dX0_call_21 rfl rfl ?_
            refine aw_cSi ck_X0_38 m_X0_bodyOf (by omega) (by decide) rfl rfl (Nat.le_of_ble_eq_true rfl) dX0_call_22 ?_
            refine aw_top (show bodyI 2 0 = 30 from by decide +kernel) ?_
            refine aw_if_ne (tgt := 41) dX0_call_25 (by decide) (fun h25 => ?_) (fun h25 => ?_)
            ·
              refine aw_iload (i := 5) dX0_call_41 rfl ?_
              refine aw_iconst (v := (-1)) dX0_call_43 (by decide) ?_
              refine aw_icmp_eq (tgt := 54) dX0_call_44 (by decide) (fun h44 => ?_) (fun h44 => ?_)
              ·
                exact absurd h44 (by decide)
              ·
                refine aw_iload (i := 4) dX0_call_47 rfl ?_
                refine aw_bipush (v := 20) dX0_call_49 (by decide) ?_
                refine aw_top (show (20 : Int32) = nI 20 from rfl) ?_
                refine aw_icmp_ltN (tgt := 56) (by omega) (by omega) dX0_call_51 (by decide) (fun h51 => ?_) (fun h51 => ?_)
                ·
                  refine aw_aload_n (i := 0) dX0_call_56 rfl rfl ?_
                  refine aw_iload (i := 5) dX0_call_57 rfl ?_
                  refine aw_iload_n (i := 2) dX0_call_59 rfl rfl ?_
                  refine aw_cSi ck_X0_38 m_X0_bodyOf (by omega) (by decide) rfl rfl (Nat.le_of_ble_eq_true rfl) dX0_call_60 ?_
                  refine aw_top (show bodyI 2 0 = 30 from by decide +kernel) ?_
                  refine aw_cVv ck_X0_46 (m_X0_note h1 (by simp at hlen; omega)) sh_103 rfl (by omega) (by decide) rfl rfl (Nat.le_of_ble_eq_true rfl) dX0_call_63 ?_
                  refine aw_aload_n (i := 0) dX0_call_66 rfl rfl ?_
                  refine aw_iload (i := 5) dX0_call_67 rfl ?_
                  refine aw_iload_n (i := 2) dX0_call_69 rfl rfl ?_
                  refine aw_cSi ck_X0_38 m_X0_bodyOf (by omega) (by decide) rfl rfl (Nat.le_of_ble_eq_true rfl) dX0_call_70 ?_
                  refine aw_top (show bodyI 2 0 = 30 from by decide +kernel) ?_
                  refine aw_iload (i := 5) dX0_call_73 rfl ?_
                  refine aw_cSi ck_X0_42 m_X7_kindAbove (by omega) (by decide) rfl rfl (Nat.le_of_ble_eq_true rfl) dX0_call_75 ?_
                  refine aw_top (show aboveI 2 = 0 from by decide +kernel) ?_
                  refine aw_iload_n (i := 3) dX0_call_78 rfl rfl ?_
                  refine aw_iload (i := 4) dX0_call_79 rfl ?_
                  refine aw_iconst (v := 1) dX0_call_81 (by decide) ?_
                  refine aw_iadd dX0_call_82 ?_
                  refine aw_top (nI_1 d) ?_
                  refine aw_cVi ck_X0_50 (h l (ntM 30 r M) (r + 1) (by rw [ntM_f (by decide)]; exact h2) (by rw [ntM_f (by decide)]; exact h3) (by rw [ntM_f (by decide)]; exact h4) ntM_1 (by simp at hlen; omega)) sh_103 rfl (by omega) (by decide) rfl rfl (Nat.le_of_ble_eq_true rfl) dX0_call_83 ?_
                  exact aw_iret rfl dX0_call_86 ⟨rfl, rfl⟩
                ·
                  exact absurd h51 (by omega)
            ·
              exact absurd h25 (by decide)
theorem cs_5_1 {K m pc : Int32} {d : Nat} {x R : Int32} {T : List Int32} (hd : d < 20) (h : AS K m pc 11 (-1) (d + 1) x R T) : CS K m pc 5 1 d x R (11 :: T) := by
  intro l M r h2 h3 h4 h1 hlen
  refine AMet.of (by decide) (by simp [aargs, Value.category]) ?_
  show AW l (2 * (20 - d) + 5) yX0_call cX0_call 7 (some FieldType.int) 0 [some (.ref 103), some (.int 5), some (.int 1), some (.int x), some (.int (nI d)), none, none] [] M _
  refine aw_iload_n (i := 1) dX0_call_0 rfl rfl ?_
  refine aw_istore (i := 5) dX0_call_1 (by decide) ?_
  refine aw_iconst (v := 0) dX0_call_3 (by decide) ?_
  refine aw_istore (i := 6) dX0_call_4 (by decide) ?_
  refine aw_iload (i := 6) dX0_call_6 rfl ?_
  refine aw_bipush (v := 7) dX0_call_8 (by decide) ?_
  refine aw_icmp_ge (tgt := 41) dX0_call_10 (by decide) (fun h10 => ?_) (fun h10 => ?_)
  ·
    exact absurd h10 (by decide)
  ·
    refine aw_iload (i := 5) dX0_call_13 rfl ?_
    refine aw_iconst (v := (-1)) dX0_call_15 (by decide) ?_
    refine aw_icmp_eq (tgt := 41) dX0_call_16 (by decide) (fun h16 => ?_) (fun h16 => ?_)
    ·
      exact absurd h16 (by decide)
    ·
      refine aw_iload (i := 5) dX0_call_19 rfl ?_
      refine aw_iload_n (i := 2) dX0_call_21 rfl rfl ?_
      refine aw_cSi ck_X0_38 m_X0_bodyOf (by omega) (by decide) rfl rfl (Nat.le_of_ble_eq_true rfl) dX0_call_22 ?_
      refine aw_top (show bodyI 5 1 = 0 from by decide +kernel) ?_
      refine aw_if_ne (tgt := 41) dX0_call_25 (by decide) (fun h25 => ?_) (fun h25 => ?_)
      ·
        exact absurd h25 (by decide)
      ·
        refine aw_iload (i := 5) dX0_call_28 rfl ?_
        refine aw_cSi ck_X0_42 m_X7_kindAbove (by omega) (by decide) rfl rfl (Nat.le_of_ble_eq_true rfl) dX0_call_30 ?_
        refine aw_top (show aboveI 5 = 2 from by decide +kernel) ?_
        refine aw_istore (i := 5) dX0_call_33 (by decide) ?_
        refine aw_iinc (i := 6) (v := 1) dX0_call_35 rfl (by decide) (by decide) ?_
        refine aw_goto (tgt := 6) dX0_call_38 (by decide) ?_
        refine aw_iload (i := 6) dX0_call_6 rfl ?_
        refine aw_bipush (v := 7) dX0_call_8 (by decide) ?_
        refine aw_icmp_ge (tgt := 41) dX0_call_10 (by decide) (fun h10 => ?_) (fun h10 => ?_)
        ·
          exact absurd h10 (by decide)
        ·
          refine aw_iload (i := 5) dX0_call_13 rfl ?_
          refine aw_iconst (v := (-1)) dX0_call_15 (by decide) ?_
          refine aw_icmp_eq (tgt := 41) dX0_call_16 (by decide) (fun h16 => ?_) (fun h16 => ?_)
          ·
            exact absurd h16 (by decide)
          ·
            refine aw_iload (i := 5) dX0_call_19 rfl ?_
            refine aw_iload_n (i := 2) dX0_call_21 rfl rfl ?_
            refine aw_cSi ck_X0_38 m_X0_bodyOf (by omega) (by decide) rfl rfl (Nat.le_of_ble_eq_true rfl) dX0_call_22 ?_
            refine aw_top (show bodyI 2 1 = 0 from by decide +kernel) ?_
            refine aw_if_ne (tgt := 41) dX0_call_25 (by decide) (fun h25 => ?_) (fun h25 => ?_)
            ·
              exact absurd h25 (by decide)
            ·
              refine aw_iload (i := 5) dX0_call_28 rfl ?_
              refine aw_cSi ck_X0_42 m_X7_kindAbove (by omega) (by decide) rfl rfl (Nat.le_of_ble_eq_true rfl) dX0_call_30 ?_
              refine aw_top (show aboveI 2 = 0 from by decide +kernel) ?_
              refine aw_istore (i := 5) dX0_call_33 (by decide) ?_
              refine aw_iinc (i := 6) (v := 2) dX0_call_35 rfl (by decide) (by decide) ?_
              refine aw_goto (tgt := 6) dX0_call_38 (by decide) ?_
              refine aw_iload (i := 6) dX0_call_6 rfl ?_
              refine aw_bipush (v := 7) dX0_call_8 (by decide) ?_
              refine aw_icmp_ge (tgt := 41) dX0_call_10 (by decide) (fun h10 => ?_) (fun h10 => ?_)
              ·
                exact absurd h10 (by decide)
              ·
                refine aw_iload (i := 5) dX0_call_13 rfl ?_
                refine aw_iconst (v := (-1)) dX0_call_15 (by decide) ?_
                refine aw_icmp_eq (tgt := 41) dX0_call_16 (by decide) (fun h16 => ?_) (fun h16 => ?_)
                ·
                  exact absurd h16 (by decide)
                ·
                  refine aw_iload (i := 5) dX0_call_19 rfl ?_
                  refine aw_iload_n (i := 2) dX0_call_21 rfl rfl ?_
                  refine aw_cSi ck_X0_38 m_X0_bodyOf (by omega) (by decide) rfl rfl (Nat.le_of_ble_eq_true rfl) dX0_call_22 ?_
                  refine aw_top (show bodyI 0 1 = 11 from by decide +kernel) ?_
                  refine aw_if_ne (tgt := 41) dX0_call_25 (by decide) (fun h25 => ?_) (fun h25 => ?_)
                  ·
                    refine aw_iload (i := 5) dX0_call_41 rfl ?_
                    refine aw_iconst (v := (-1)) dX0_call_43 (by decide) ?_
                    refine aw_icmp_eq (tgt := 54) dX0_call_44 (by decide) (fun h44 => ?_) (fun h44 => ?_)
                    ·
                      exact absurd h44 (by decide)
                    ·
                      refine aw_iload (i := 4) dX0_call_47 rfl ?_
                      refine aw_bipush (v := 20) dX0_call_49 (by decide) ?_
                      refine aw_top (show (20 : Int32) = nI 20 from rfl) ?_
                      refine aw_icmp_ltN (tgt := 56) (by omega) (by omega) dX0_call_51 (by decide) (fun h51 => ?_) (fun h51 => ?_)
                      ·
                        refine aw_aload_n (i := 0) dX0_call_56 rfl rfl ?_
                        refine aw_iload (i := 5) dX0_call_57 rfl ?_
                        refine aw_iload_n (i := 2) dX0_call_59 rfl rfl ?_
                        refine aw_cSi ck_X0_38 m_X0_bodyOf (by omega) (by decide) rfl rfl (Nat.le_of_ble_eq_true rfl) dX0_call_60 ?_
                        refine aw_top (show bodyI 0 1 = 11 from by decide +kernel) ?_
                        refine aw_cVv ck_X0_46 (m_X0_note h1 (by simp at hlen; omega)) sh_103 rfl (by omega) (by decide) rfl rfl (Nat.le_of_ble_eq_true rfl) dX0_call_63 ?_
                        refine aw_aload_n (i := 0) dX0_call_66 rfl rfl ?_
                        refine aw_iload (i := 5) dX0_call_67 rfl ?_
                        refine aw_iload_n (i := 2) dX0_call_69 rfl rfl ?_
                        refine aw_cSi ck_X0_38 m_X0_bodyOf (by omega) (by decide) rfl rfl (Nat.le_of_ble_eq_true rfl) dX0_call_70 ?_
                        refine aw_top (show bodyI 0 1 = 11 from by decide +kernel) ?_
                        refine aw_iload (i := 5) dX0_call_73 rfl ?_
                        refine aw_cSi ck_X0_42 m_X7_kindAbove (by omega) (by decide) rfl rfl (Nat.le_of_ble_eq_true rfl) dX0_call_75 ?_
                        refine aw_top (show aboveI 0 = (-1) from by decide +kernel) ?_
                        refine aw_iload_n (i := 3) dX0_call_78 rfl rfl ?_
                        refine aw_iload (i := 4) dX0_call_79 rfl ?_
                        refine aw_iconst (v := 1) dX0_call_81 (by decide) ?_
                        refine aw_iadd dX0_call_82 ?_
                        refine aw_top (nI_1 d) ?_
                        refine aw_cVi ck_X0_50 (h l (ntM 11 r M) (r + 1) (by rw [ntM_f (by decide)]; exact h2) (by rw [ntM_f (by decide)]; exact h3) (by rw [ntM_f (by decide)]; exact h4) ntM_1 (by simp at hlen; omega)) sh_103 rfl (by omega) (by decide) rfl rfl (Nat.le_of_ble_eq_true rfl) dX0_call_83 ?_
                        exact aw_iret rfl dX0_call_86 ⟨rfl, rfl⟩
                      ·
                        exact absurd h51 (by omega)
                  ·
                    exact absurd h25 (by decide)
theorem cs_5_2 {K m pc : Int32} {d : Nat} {x R : Int32} {T : List Int32} (hd : d < 20) (h : AS K m pc 60 2 (d + 1) x R T) : CS K m pc 5 2 d x R (60 :: T) := by
  intro l M r h2 h3 h4 h1 hlen
  refine AMet.of (by decide) (by simp [aargs, Value.category]) ?_
  show AW l (2 * (20 - d) + 5) yX0_call cX0_call 7 (some FieldType.int) 0 [some (.ref 103), some (.int 5), some (.int 2), some (.int x), some (.int (nI d)), none, none] [] M _
  refine aw_iload_n (i := 1) dX0_call_0 rfl rfl ?_
  refine aw_istore (i := 5) dX0_call_1 (by decide) ?_
  refine aw_iconst (v := 0) dX0_call_3 (by decide) ?_
  refine aw_istore (i := 6) dX0_call_4 (by decide) ?_
  refine aw_iload (i := 6) dX0_call_6 rfl ?_
  refine aw_bipush (v := 7) dX0_call_8 (by decide) ?_
  refine aw_icmp_ge (tgt := 41) dX0_call_10 (by decide) (fun h10 => ?_) (fun h10 => ?_)
  ·
    exact absurd h10 (by decide)
  ·
    refine aw_iload (i := 5) dX0_call_13 rfl ?_
    refine aw_iconst (v := (-1)) dX0_call_15 (by decide) ?_
    refine aw_icmp_eq (tgt := 41) dX0_call_16 (by decide) (fun h16 => ?_) (fun h16 => ?_)
    ·
      exact absurd h16 (by decide)
    ·
      refine aw_iload (i := 5) dX0_call_19 rfl ?_
      refine aw_iload_n (i := 2) dX0_call_21 rfl rfl ?_
      refine aw_cSi ck_X0_38 m_X0_bodyOf (by omega) (by decide) rfl rfl (Nat.le_of_ble_eq_true rfl) dX0_call_22 ?_
      refine aw_top (show bodyI 5 2 = 60 from by decide +kernel) ?_
      refine aw_if_ne (tgt := 41) dX0_call_25 (by decide) (fun h25 => ?_) (fun h25 => ?_)
      ·
        refine aw_iload (i := 5) dX0_call_41 rfl ?_
        refine aw_iconst (v := (-1)) dX0_call_43 (by decide) ?_
        refine aw_icmp_eq (tgt := 54) dX0_call_44 (by decide) (fun h44 => ?_) (fun h44 => ?_)
        ·
          exact absurd h44 (by decide)
        ·
          refine aw_iload (i := 4) dX0_call_47 rfl ?_
          refine aw_bipush (v := 20) dX0_call_49 (by decide) ?_
          refine aw_top (show (20 : Int32) = nI 20 from rfl) ?_
          refine aw_icmp_ltN (tgt := 56) (by omega) (by omega) dX0_call_51 (by decide) (fun h51 => ?_) (fun h51 => ?_)
          ·
            refine aw_aload_n (i := 0) dX0_call_56 rfl rfl ?_
            refine aw_iload (i := 5) dX0_call_57 rfl ?_
            refine aw_iload_n (i := 2) dX0_call_59 rfl rfl ?_
            refine aw_cSi ck_X0_38 m_X0_bodyOf (by omega) (by decide) rfl rfl (Nat.le_of_ble_eq_true rfl) dX0_call_60 ?_
            refine aw_top (show bodyI 5 2 = 60 from by decide +kernel) ?_
            refine aw_cVv ck_X0_46 (m_X0_note h1 (by simp at hlen; omega)) sh_103 rfl (by omega) (by decide) rfl rfl (Nat.le_of_ble_eq_true rfl) dX0_call_63 ?_
            refine aw_aload_n (i := 0) dX0_call_66 rfl rfl ?_
            refine aw_iload (i := 5) dX0_call_67 rfl ?_
            refine aw_iload_n (i := 2) dX0_call_69 rfl rfl ?_
            refine aw_cSi ck_X0_38 m_X0_bodyOf (by omega) (by decide) rfl rfl (Nat.le_of_ble_eq_true rfl) dX0_call_70 ?_
            refine aw_top (show bodyI 5 2 = 60 from by decide +kernel) ?_
            refine aw_iload (i := 5) dX0_call_73 rfl ?_
            refine aw_cSi ck_X0_42 m_X7_kindAbove (by omega) (by decide) rfl rfl (Nat.le_of_ble_eq_true rfl) dX0_call_75 ?_
            refine aw_top (show aboveI 5 = 2 from by decide +kernel) ?_
            refine aw_iload_n (i := 3) dX0_call_78 rfl rfl ?_
            refine aw_iload (i := 4) dX0_call_79 rfl ?_
            refine aw_iconst (v := 1) dX0_call_81 (by decide) ?_
            refine aw_iadd dX0_call_82 ?_
            refine aw_top (nI_1 d) ?_
            refine aw_cVi ck_X0_50 (h l (ntM 60 r M) (r + 1) (by rw [ntM_f (by decide)]; exact h2) (by rw [ntM_f (by decide)]; exact h3) (by rw [ntM_f (by decide)]; exact h4) ntM_1 (by simp at hlen; omega)) sh_103 rfl (by omega) (by decide) rfl rfl (Nat.le_of_ble_eq_true rfl) dX0_call_83 ?_
            exact aw_iret rfl dX0_call_86 ⟨rfl, rfl⟩
          ·
            exact absurd h51 (by omega)
      ·
        exact absurd h25 (by decide)
theorem cs_6_0 {K m pc : Int32} {d : Nat} {x R : Int32} {T : List Int32} (hd : d < 20) (h : AS K m pc 71 1 (d + 1) x R T) : CS K m pc 6 0 d x R (71 :: T) := by
  intro l M r h2 h3 h4 h1 hlen
  refine AMet.of (by decide) (by simp [aargs, Value.category]) ?_
  show AW l (2 * (20 - d) + 5) yX0_call cX0_call 7 (some FieldType.int) 0 [some (.ref 103), some (.int 6), some (.int 0), some (.int x), some (.int (nI d)), none, none] [] M _
  refine aw_iload_n (i := 1) dX0_call_0 rfl rfl ?_
  refine aw_istore (i := 5) dX0_call_1 (by decide) ?_
  refine aw_iconst (v := 0) dX0_call_3 (by decide) ?_
  refine aw_istore (i := 6) dX0_call_4 (by decide) ?_
  refine aw_iload (i := 6) dX0_call_6 rfl ?_
  refine aw_bipush (v := 7) dX0_call_8 (by decide) ?_
  refine aw_icmp_ge (tgt := 41) dX0_call_10 (by decide) (fun h10 => ?_) (fun h10 => ?_)
  ·
    exact absurd h10 (by decide)
  ·
    refine aw_iload (i := 5) dX0_call_13 rfl ?_
    refine aw_iconst (v := (-1)) dX0_call_15 (by decide) ?_
    refine aw_icmp_eq (tgt := 41) dX0_call_16 (by decide) (fun h16 => ?_) (fun h16 => ?_)
    ·
      exact absurd h16 (by decide)
    ·
      refine aw_iload (i := 5) dX0_call_19 rfl ?_
      refine aw_iload_n (i := 2) dX0_call_21 rfl rfl ?_
      refine aw_cSi ck_X0_38 m_X0_bodyOf (by omega) (by decide) rfl rfl (Nat.le_of_ble_eq_true rfl) dX0_call_22 ?_
      refine aw_top (show bodyI 6 0 = 71 from by decide +kernel) ?_
      refine aw_if_ne (tgt := 41) dX0_call_25 (by decide) (fun h25 => ?_) (fun h25 => ?_)
      ·
        refine aw_iload (i := 5) dX0_call_41 rfl ?_
        refine aw_iconst (v := (-1)) dX0_call_43 (by decide) ?_
        refine aw_icmp_eq (tgt := 54) dX0_call_44 (by decide) (fun h44 => ?_) (fun h44 => ?_)
        ·
          exact absurd h44 (by decide)
        ·
          refine aw_iload (i := 4) dX0_call_47 rfl ?_
          refine aw_bipush (v := 20) dX0_call_49 (by decide) ?_
          refine aw_top (show (20 : Int32) = nI 20 from rfl) ?_
          refine aw_icmp_ltN (tgt := 56) (by omega) (by omega) dX0_call_51 (by decide) (fun h51 => ?_) (fun h51 => ?_)
          ·
            refine aw_aload_n (i := 0) dX0_call_56 rfl rfl ?_
            refine aw_iload (i := 5) dX0_call_57 rfl ?_
            refine aw_iload_n (i := 2) dX0_call_59 rfl rfl ?_
            refine aw_cSi ck_X0_38 m_X0_bodyOf (by omega) (by decide) rfl rfl (Nat.le_of_ble_eq_true rfl) dX0_call_60 ?_
            refine aw_top (show bodyI 6 0 = 71 from by decide +kernel) ?_
            refine aw_cVv ck_X0_46 (m_X0_note h1 (by simp at hlen; omega)) sh_103 rfl (by omega) (by decide) rfl rfl (Nat.le_of_ble_eq_true rfl) dX0_call_63 ?_
            refine aw_aload_n (i := 0) dX0_call_66 rfl rfl ?_
            refine aw_iload (i := 5) dX0_call_67 rfl ?_
            refine aw_iload_n (i := 2) dX0_call_69 rfl rfl ?_
            refine aw_cSi ck_X0_38 m_X0_bodyOf (by omega) (by decide) rfl rfl (Nat.le_of_ble_eq_true rfl) dX0_call_70 ?_
            refine aw_top (show bodyI 6 0 = 71 from by decide +kernel) ?_
            refine aw_iload (i := 5) dX0_call_73 rfl ?_
            refine aw_cSi ck_X0_42 m_X7_kindAbove (by omega) (by decide) rfl rfl (Nat.le_of_ble_eq_true rfl) dX0_call_75 ?_
            refine aw_top (show aboveI 6 = 1 from by decide +kernel) ?_
            refine aw_iload_n (i := 3) dX0_call_78 rfl rfl ?_
            refine aw_iload (i := 4) dX0_call_79 rfl ?_
            refine aw_iconst (v := 1) dX0_call_81 (by decide) ?_
            refine aw_iadd dX0_call_82 ?_
            refine aw_top (nI_1 d) ?_
            refine aw_cVi ck_X0_50 (h l (ntM 71 r M) (r + 1) (by rw [ntM_f (by decide)]; exact h2) (by rw [ntM_f (by decide)]; exact h3) (by rw [ntM_f (by decide)]; exact h4) ntM_1 (by simp at hlen; omega)) sh_103 rfl (by omega) (by decide) rfl rfl (Nat.le_of_ble_eq_true rfl) dX0_call_83 ?_
            exact aw_iret rfl dX0_call_86 ⟨rfl, rfl⟩
          ·
            exact absurd h51 (by omega)
      ·
        exact absurd h25 (by decide)
theorem cs_6_1 {K m pc : Int32} {d : Nat} {x R : Int32} {T : List Int32} (hd : d < 20) (h : AS K m pc 70 1 (d + 1) x R T) : CS K m pc 6 1 d x R (70 :: T) := by
  intro l M r h2 h3 h4 h1 hlen
  refine AMet.of (by decide) (by simp [aargs, Value.category]) ?_
  show AW l (2 * (20 - d) + 5) yX0_call cX0_call 7 (some FieldType.int) 0 [some (.ref 103), some (.int 6), some (.int 1), some (.int x), some (.int (nI d)), none, none] [] M _
  refine aw_iload_n (i := 1) dX0_call_0 rfl rfl ?_
  refine aw_istore (i := 5) dX0_call_1 (by decide) ?_
  refine aw_iconst (v := 0) dX0_call_3 (by decide) ?_
  refine aw_istore (i := 6) dX0_call_4 (by decide) ?_
  refine aw_iload (i := 6) dX0_call_6 rfl ?_
  refine aw_bipush (v := 7) dX0_call_8 (by decide) ?_
  refine aw_icmp_ge (tgt := 41) dX0_call_10 (by decide) (fun h10 => ?_) (fun h10 => ?_)
  ·
    exact absurd h10 (by decide)
  ·
    refine aw_iload (i := 5) dX0_call_13 rfl ?_
    refine aw_iconst (v := (-1)) dX0_call_15 (by decide) ?_
    refine aw_icmp_eq (tgt := 41) dX0_call_16 (by decide) (fun h16 => ?_) (fun h16 => ?_)
    ·
      exact absurd h16 (by decide)
    ·
      refine aw_iload (i := 5) dX0_call_19 rfl ?_
      refine aw_iload_n (i := 2) dX0_call_21 rfl rfl ?_
      refine aw_cSi ck_X0_38 m_X0_bodyOf (by omega) (by decide) rfl rfl (Nat.le_of_ble_eq_true rfl) dX0_call_22 ?_
      refine aw_top (show bodyI 6 1 = 70 from by decide +kernel) ?_
      refine aw_if_ne (tgt := 41) dX0_call_25 (by decide) (fun h25 => ?_) (fun h25 => ?_)
      ·
        refine aw_iload (i := 5) dX0_call_41 rfl ?_
        refine aw_iconst (v := (-1)) dX0_call_43 (by decide) ?_
        refine aw_icmp_eq (tgt := 54) dX0_call_44 (by decide) (fun h44 => ?_) (fun h44 => ?_)
        ·
          exact absurd h44 (by decide)
        ·
          refine aw_iload (i := 4) dX0_call_47 rfl ?_
          refine aw_bipush (v := 20) dX0_call_49 (by decide) ?_
          refine aw_top (show (20 : Int32) = nI 20 from rfl) ?_
          refine aw_icmp_ltN (tgt := 56) (by omega) (by omega) dX0_call_51 (by decide) (fun h51 => ?_) (fun h51 => ?_)
          ·
            refine aw_aload_n (i := 0) dX0_call_56 rfl rfl ?_
            refine aw_iload (i := 5) dX0_call_57 rfl ?_
            refine aw_iload_n (i := 2) dX0_call_59 rfl rfl ?_
            refine aw_cSi ck_X0_38 m_X0_bodyOf (by omega) (by decide) rfl rfl (Nat.le_of_ble_eq_true rfl) dX0_call_60 ?_
            refine aw_top (show bodyI 6 1 = 70 from by decide +kernel) ?_
            refine aw_cVv ck_X0_46 (m_X0_note h1 (by simp at hlen; omega)) sh_103 rfl (by omega) (by decide) rfl rfl (Nat.le_of_ble_eq_true rfl) dX0_call_63 ?_
            refine aw_aload_n (i := 0) dX0_call_66 rfl rfl ?_
            refine aw_iload (i := 5) dX0_call_67 rfl ?_
            refine aw_iload_n (i := 2) dX0_call_69 rfl rfl ?_
            refine aw_cSi ck_X0_38 m_X0_bodyOf (by omega) (by decide) rfl rfl (Nat.le_of_ble_eq_true rfl) dX0_call_70 ?_
            refine aw_top (show bodyI 6 1 = 70 from by decide +kernel) ?_
            refine aw_iload (i := 5) dX0_call_73 rfl ?_
            refine aw_cSi ck_X0_42 m_X7_kindAbove (by omega) (by decide) rfl rfl (Nat.le_of_ble_eq_true rfl) dX0_call_75 ?_
            refine aw_top (show aboveI 6 = 1 from by decide +kernel) ?_
            refine aw_iload_n (i := 3) dX0_call_78 rfl rfl ?_
            refine aw_iload (i := 4) dX0_call_79 rfl ?_
            refine aw_iconst (v := 1) dX0_call_81 (by decide) ?_
            refine aw_iadd dX0_call_82 ?_
            refine aw_top (nI_1 d) ?_
            refine aw_cVi ck_X0_50 (h l (ntM 70 r M) (r + 1) (by rw [ntM_f (by decide)]; exact h2) (by rw [ntM_f (by decide)]; exact h3) (by rw [ntM_f (by decide)]; exact h4) ntM_1 (by simp at hlen; omega)) sh_103 rfl (by omega) (by decide) rfl rfl (Nat.le_of_ble_eq_true rfl) dX0_call_83 ?_
            exact aw_iret rfl dX0_call_86 ⟨rfl, rfl⟩
          ·
            exact absurd h51 (by omega)
      ·
        exact absurd h25 (by decide)
theorem cs_6_2 {K m pc : Int32} {d : Nat} {x R : Int32} {T : List Int32} (hd : d < 20) (h : AS K m pc 12 (-1) (d + 1) x R T) : CS K m pc 6 2 d x R (12 :: T) := by
  intro l M r h2 h3 h4 h1 hlen
  refine AMet.of (by decide) (by simp [aargs, Value.category]) ?_
  show AW l (2 * (20 - d) + 5) yX0_call cX0_call 7 (some FieldType.int) 0 [some (.ref 103), some (.int 6), some (.int 2), some (.int x), some (.int (nI d)), none, none] [] M _
  refine aw_iload_n (i := 1) dX0_call_0 rfl rfl ?_
  refine aw_istore (i := 5) dX0_call_1 (by decide) ?_
  refine aw_iconst (v := 0) dX0_call_3 (by decide) ?_
  refine aw_istore (i := 6) dX0_call_4 (by decide) ?_
  refine aw_iload (i := 6) dX0_call_6 rfl ?_
  refine aw_bipush (v := 7) dX0_call_8 (by decide) ?_
  refine aw_icmp_ge (tgt := 41) dX0_call_10 (by decide) (fun h10 => ?_) (fun h10 => ?_)
  ·
    exact absurd h10 (by decide)
  ·
    refine aw_iload (i := 5) dX0_call_13 rfl ?_
    refine aw_iconst (v := (-1)) dX0_call_15 (by decide) ?_
    refine aw_icmp_eq (tgt := 41) dX0_call_16 (by decide) (fun h16 => ?_) (fun h16 => ?_)
    ·
      exact absurd h16 (by decide)
    ·
      refine aw_iload (i := 5) dX0_call_19 rfl ?_
      refine aw_iload_n (i := 2) dX0_call_21 rfl rfl ?_
      refine aw_cSi ck_X0_38 m_X0_bodyOf (by omega) (by decide) rfl rfl (Nat.le_of_ble_eq_true rfl) dX0_call_22 ?_
      refine aw_top (show bodyI 6 2 = 0 from by decide +kernel) ?_
      refine aw_if_ne (tgt := 41) dX0_call_25 (by decide) (fun h25 => ?_) (fun h25 => ?_)
      ·
        exact absurd h25 (by decide)
      ·
        refine aw_iload (i := 5) dX0_call_28 rfl ?_
        refine aw_cSi ck_X0_42 m_X7_kindAbove (by omega) (by decide) rfl rfl (Nat.le_of_ble_eq_true rfl) dX0_call_30 ?_
        refine aw_top (show aboveI 6 = 1 from by decide +kernel) ?_
        refine aw_istore (i := 5) dX0_call_33 (by decide) ?_
        refine aw_iinc (i := 6) (v := 1) dX0_call_35 rfl (by decide) (by decide) ?_
        refine aw_goto (tgt := 6) dX0_call_38 (by decide) ?_
        refine aw_iload (i := 6) dX0_call_6 rfl ?_
        refine aw_bipush (v := 7) dX0_call_8 (by decide) ?_
        refine aw_icmp_ge (tgt := 41) dX0_call_10 (by decide) (fun h10 => ?_) (fun h10 => ?_)
        ·
          exact absurd h10 (by decide)
        ·
          refine aw_iload (i := 5) dX0_call_13 rfl ?_
          refine aw_iconst (v := (-1)) dX0_call_15 (by decide) ?_
          refine aw_icmp_eq (tgt := 41) dX0_call_16 (by decide) (fun h16 => ?_) (fun h16 => ?_)
          ·
            exact absurd h16 (by decide)
          ·
            refine aw_iload (i := 5) dX0_call_19 rfl ?_
            refine aw_iload_n (i := 2) dX0_call_21 rfl rfl ?_
            refine aw_cSi ck_X0_38 m_X0_bodyOf (by omega) (by decide) rfl rfl (Nat.le_of_ble_eq_true rfl) dX0_call_22 ?_
            refine aw_top (show bodyI 1 2 = 0 from by decide +kernel) ?_
            refine aw_if_ne (tgt := 41) dX0_call_25 (by decide) (fun h25 => ?_) (fun h25 => ?_)
            ·
              exact absurd h25 (by decide)
            ·
              refine aw_iload (i := 5) dX0_call_28 rfl ?_
              refine aw_cSi ck_X0_42 m_X7_kindAbove (by omega) (by decide) rfl rfl (Nat.le_of_ble_eq_true rfl) dX0_call_30 ?_
              refine aw_top (show aboveI 1 = 0 from by decide +kernel) ?_
              refine aw_istore (i := 5) dX0_call_33 (by decide) ?_
              refine aw_iinc (i := 6) (v := 2) dX0_call_35 rfl (by decide) (by decide) ?_
              refine aw_goto (tgt := 6) dX0_call_38 (by decide) ?_
              refine aw_iload (i := 6) dX0_call_6 rfl ?_
              refine aw_bipush (v := 7) dX0_call_8 (by decide) ?_
              refine aw_icmp_ge (tgt := 41) dX0_call_10 (by decide) (fun h10 => ?_) (fun h10 => ?_)
              ·
                exact absurd h10 (by decide)
              ·
                refine aw_iload (i := 5) dX0_call_13 rfl ?_
                refine aw_iconst (v := (-1)) dX0_call_15 (by decide) ?_
                refine aw_icmp_eq (tgt := 41) dX0_call_16 (by decide) (fun h16 => ?_) (fun h16 => ?_)
                ·
                  exact absurd h16 (by decide)
                ·
                  refine aw_iload (i := 5) dX0_call_19 rfl ?_
                  refine aw_iload_n (i := 2) dX0_call_21 rfl rfl ?_
                  refine aw_cSi ck_X0_38 m_X0_bodyOf (by omega) (by decide) rfl rfl (Nat.le_of_ble_eq_true rfl) dX0_call_22 ?_
                  refine aw_top (show bodyI 0 2 = 12 from by decide +kernel) ?_
                  refine aw_if_ne (tgt := 41) dX0_call_25 (by decide) (fun h25 => ?_) (fun h25 => ?_)
                  ·
                    refine aw_iload (i := 5) dX0_call_41 rfl ?_
                    refine aw_iconst (v := (-1)) dX0_call_43 (by decide) ?_
                    refine aw_icmp_eq (tgt := 54) dX0_call_44 (by decide) (fun h44 => ?_) (fun h44 => ?_)
                    ·
                      exact absurd h44 (by decide)
                    ·
                      refine aw_iload (i := 4) dX0_call_47 rfl ?_
                      refine aw_bipush (v := 20) dX0_call_49 (by decide) ?_
                      refine aw_top (show (20 : Int32) = nI 20 from rfl) ?_
                      refine aw_icmp_ltN (tgt := 56) (by omega) (by omega) dX0_call_51 (by decide) (fun h51 => ?_) (fun h51 => ?_)
                      ·
                        refine aw_aload_n (i := 0) dX0_call_56 rfl rfl ?_
                        refine aw_iload (i := 5) dX0_call_57 rfl ?_
                        refine aw_iload_n (i := 2) dX0_call_59 rfl rfl ?_
                        refine aw_cSi ck_X0_38 m_X0_bodyOf (by omega) (by decide) rfl rfl (Nat.le_of_ble_eq_true rfl) dX0_call_60 ?_
                        refine aw_top (show bodyI 0 2 = 12 from by decide +kernel) ?_
                        refine aw_cVv ck_X0_46 (m_X0_note h1 (by simp at hlen; omega)) sh_103 rfl (by omega) (by decide) rfl rfl (Nat.le_of_ble_eq_true rfl) dX0_call_63 ?_
                        refine aw_aload_n (i := 0) dX0_call_66 rfl rfl ?_
                        refine aw_iload (i := 5) dX0_call_67 rfl ?_
                        refine aw_iload_n (i := 2) dX0_call_69 rfl rfl ?_
                        refine aw_cSi ck_X0_38 m_X0_bodyOf (by omega) (by decide) rfl rfl (Nat.le_of_ble_eq_true rfl) dX0_call_70 ?_
                        refine aw_top (show bodyI 0 2 = 12 from by decide +kernel) ?_
                        refine aw_iload (i := 5) dX0_call_73 rfl ?_
                        refine aw_cSi ck_X0_42 m_X7_kindAbove (by omega) (by decide) rfl rfl (Nat.le_of_ble_eq_true rfl) dX0_call_75 ?_
                        refine aw_top (show aboveI 0 = (-1) from by decide +kernel) ?_
                        refine aw_iload_n (i := 3) dX0_call_78 rfl rfl ?_
                        refine aw_iload (i := 4) dX0_call_79 rfl ?_
                        refine aw_iconst (v := 1) dX0_call_81 (by decide) ?_
                        refine aw_iadd dX0_call_82 ?_
                        refine aw_top (nI_1 d) ?_
                        refine aw_cVi ck_X0_50 (h l (ntM 12 r M) (r + 1) (by rw [ntM_f (by decide)]; exact h2) (by rw [ntM_f (by decide)]; exact h3) (by rw [ntM_f (by decide)]; exact h4) ntM_1 (by simp at hlen; omega)) sh_103 rfl (by omega) (by decide) rfl rfl (Nat.le_of_ble_eq_true rfl) dX0_call_83 ?_
                        exact aw_iret rfl dX0_call_86 ⟨rfl, rfl⟩
                      ·
                        exact absurd h51 (by omega)
                  ·
                    exact absurd h25 (by decide)
/-- the acts: kind, act, number, PACE, x: the answer, the bodies -/
def actR (kk a : Nat) (m pc x : Int32) : Int32 × List Int32 := match kk, a with
  | 0, 0 => ((x + m), [10])
  | 0, 1 => (((x + m) * 2), [11, 10])
  | 0, 2 => ((((x + m) * 2) ^^^ ((x - pc) + m)), [12, 11, 10, 10])
  | 1, 0 => ((x + m), [10])
  | 1, 1 => ((((x + m) * 2) + pc), [20, 11, 10])
  | 1, 2 => (((((x + m) * 2) + pc) ^^^ ((x - pc) + m)), [12, 20, 11, 10, 10])
  | 2, 0 => (((x + m) * 3), [30, 10])
  | 2, 1 => ((((x + m) * 3) * 2), [11, 30, 10])
  | 2, 2 => (((((x + m) * 3) * 2) ^^^ (((x - pc) + m) * 3)), [12, 11, 30, 10, 30, 10])
  | 3, 0 => ((((x + 1) + m) * 3), [40, 30, 10])
  | 3, 1 => (((((x + 1) + m) * 3) * 2), [11, 40, 30, 10])
  | 3, 2 => ((((((x + 1) + m) * 3) * 2) ^^^ ((((x - pc) + 1) + m) * 3)), [12, 11, 40, 30, 10, 40, 30, 10])
  | 4, 0 => (((x + m) * 3), [30, 10])
  | 4, 1 => ((-(((x + m) * 3) * 2)), [51, 11, 30, 10])
  | 4, 2 => ((((-(((x + m) * 3) * 2)) ^^^ (((x - pc) + m) * 3)) - m), [50, 12, 51, 11, 30, 10, 30, 10])
  | 5, 0 => (((x + m) * 3), [30, 10])
  | 5, 1 => ((((x + m) * 3) * 2), [11, 30, 10])
  | 5, 2 => ((((((x + m) * 3) * 2) ^^^ (((x - pc) + m) * 3)) ^^^ 5), [60, 12, 11, 30, 10, 30, 10])
  | 6, 0 => (((x - pc) + m), [71, 10])
  | 6, 1 => ((((((x - pc) + m) * 2) + pc) * 2), [70, 20, 11, 71, 10])
  | 6, 2 => (((((((x - pc) + m) * 2) + pc) * 2) ^^^ (((x - pc) - pc) + m)), [12, 70, 20, 11, 71, 10, 71, 10])
  | _, _ => (0, [])
theorem cs_all (m pc x : Int32) : ∀ kk a : Nat, kk < 7 → a < 3 → CS (nI kk) m pc (nI kk) (nI a) 0 x (actR kk a m pc x).1 (actR kk a m pc x).2 ∧ (actR kk a m pc x).2.length ≤ 20
  | 0, 0, _, _ => ⟨show CS 0 m pc 0 0 0 x _ _ from (cs_0_0 (by decide) as_10), Nat.le_of_ble_eq_true rfl⟩
  | 0, 1, _, _ => ⟨show CS 0 m pc 0 1 0 x _ _ from (cs_0_1 (by decide) (as_11 (cs_0_0 (by decide) as_10))), Nat.le_of_ble_eq_true rfl⟩
  | 0, 2, _, _ => ⟨show CS 0 m pc 0 2 0 x _ _ from (cs_0_2 (by decide) (as_12 (cs_0_1 (by decide) (as_11 (cs_0_0 (by decide) as_10))) (cs_0_0 (by decide) as_10))), Nat.le_of_ble_eq_true rfl⟩
  | 1, 0, _, _ => ⟨show CS 1 m pc 1 0 0 x _ _ from (cs_1_0 (by decide) as_10), Nat.le_of_ble_eq_true rfl⟩
  | 1, 1, _, _ => ⟨show CS 1 m pc 1 1 0 x _ _ from (cs_1_1 (by decide) (as_20 (cs_0_1 (by decide) (as_11 (cs_1_0 (by decide) as_10))))), Nat.le_of_ble_eq_true rfl⟩
  | 1, 2, _, _ => ⟨show CS 1 m pc 1 2 0 x _ _ from (cs_1_2 (by decide) (as_12 (cs_1_1 (by decide) (as_20 (cs_0_1 (by decide) (as_11 (cs_1_0 (by decide) as_10))))) (cs_1_0 (by decide) as_10))), Nat.le_of_ble_eq_true rfl⟩
  | 2, 0, _, _ => ⟨show CS 2 m pc 2 0 0 x _ _ from (cs_2_0 (by decide) (as_30 (cs_0_0 (by decide) as_10))), Nat.le_of_ble_eq_true rfl⟩
  | 2, 1, _, _ => ⟨show CS 2 m pc 2 1 0 x _ _ from (cs_2_1 (by decide) (as_11 (cs_2_0 (by decide) (as_30 (cs_0_0 (by decide) as_10))))), Nat.le_of_ble_eq_true rfl⟩
  | 2, 2, _, _ => ⟨show CS 2 m pc 2 2 0 x _ _ from (cs_2_2 (by decide) (as_12 (cs_2_1 (by decide) (as_11 (cs_2_0 (by decide) (as_30 (cs_0_0 (by decide) as_10))))) (cs_2_0 (by decide) (as_30 (cs_0_0 (by decide) as_10))))), Nat.le_of_ble_eq_true rfl⟩
  | 3, 0, _, _ => ⟨show CS 3 m pc 3 0 0 x _ _ from (cs_3_0 (by decide) (as_40 (cs_2_0 (by decide) (as_30 (cs_0_0 (by decide) as_10))))), Nat.le_of_ble_eq_true rfl⟩
  | 3, 1, _, _ => ⟨show CS 3 m pc 3 1 0 x _ _ from (cs_3_1 (by decide) (as_11 (cs_3_0 (by decide) (as_40 (cs_2_0 (by decide) (as_30 (cs_0_0 (by decide) as_10))))))), Nat.le_of_ble_eq_true rfl⟩
  | 3, 2, _, _ => ⟨show CS 3 m pc 3 2 0 x _ _ from (cs_3_2 (by decide) (as_12 (cs_3_1 (by decide) (as_11 (cs_3_0 (by decide) (as_40 (cs_2_0 (by decide) (as_30 (cs_0_0 (by decide) as_10))))))) (cs_3_0 (by decide) (as_40 (cs_2_0 (by decide) (as_30 (cs_0_0 (by decide) as_10))))))), Nat.le_of_ble_eq_true rfl⟩
  | 4, 0, _, _ => ⟨show CS 4 m pc 4 0 0 x _ _ from (cs_4_0 (by decide) (as_30 (cs_0_0 (by decide) as_10))), Nat.le_of_ble_eq_true rfl⟩
  | 4, 1, _, _ => ⟨show CS 4 m pc 4 1 0 x _ _ from (cs_4_1 (by decide) (as_51 (cs_2_1 (by decide) (as_11 (cs_4_0 (by decide) (as_30 (cs_0_0 (by decide) as_10))))))), Nat.le_of_ble_eq_true rfl⟩
  | 4, 2, _, _ => ⟨show CS 4 m pc 4 2 0 x _ _ from (cs_4_2 (by decide) (as_50 (cs_2_2 (by decide) (as_12 (cs_4_1 (by decide) (as_51 (cs_2_1 (by decide) (as_11 (cs_4_0 (by decide) (as_30 (cs_0_0 (by decide) as_10))))))) (cs_4_0 (by decide) (as_30 (cs_0_0 (by decide) as_10))))))), Nat.le_of_ble_eq_true rfl⟩
  | 5, 0, _, _ => ⟨show CS 5 m pc 5 0 0 x _ _ from (cs_5_0 (by decide) (as_30 (cs_0_0 (by decide) as_10))), Nat.le_of_ble_eq_true rfl⟩
  | 5, 1, _, _ => ⟨show CS 5 m pc 5 1 0 x _ _ from (cs_5_1 (by decide) (as_11 (cs_5_0 (by decide) (as_30 (cs_0_0 (by decide) as_10))))), Nat.le_of_ble_eq_true rfl⟩
  | 5, 2, _, _ => ⟨show CS 5 m pc 5 2 0 x _ _ from (cs_5_2 (by decide) (as_60 (cs_2_2 (by decide) (as_12 (cs_5_1 (by decide) (as_11 (cs_5_0 (by decide) (as_30 (cs_0_0 (by decide) as_10))))) (cs_5_0 (by decide) (as_30 (cs_0_0 (by decide) as_10))))))), Nat.le_of_ble_eq_true rfl⟩
  | 6, 0, _, _ => ⟨show CS 6 m pc 6 0 0 x _ _ from (cs_6_0 (by decide) (as_71 (cs_1_0 (by decide) as_10))), Nat.le_of_ble_eq_true rfl⟩
  | 6, 1, _, _ => ⟨show CS 6 m pc 6 1 0 x _ _ from (cs_6_1 (by decide) (as_70 (cs_1_1 (by decide) (as_20 (cs_0_1 (by decide) (as_11 (cs_6_0 (by decide) (as_71 (cs_1_0 (by decide) as_10))))))))), Nat.le_of_ble_eq_true rfl⟩
  | 6, 2, _, _ => ⟨show CS 6 m pc 6 2 0 x _ _ from (cs_6_2 (by decide) (as_12 (cs_6_1 (by decide) (as_70 (cs_1_1 (by decide) (as_20 (cs_0_1 (by decide) (as_11 (cs_6_0 (by decide) (as_71 (cs_1_0 (by decide) as_10))))))))) (cs_6_0 (by decide) (as_71 (cs_1_0 (by decide) as_10))))), Nat.le_of_ble_eq_true rfl⟩
def perfM (c p : Nat) (M : Mm) : Mm := mI (mI (mI M 103 2 (M.1 (c + 2) p)) 103 3 (nI p)) 103 4 (M.1 (c + 5) p)
theorem m_X0_perform {l : Launch} {M : Mm} {p kk a : Nat} {x : Int32} (hp : p < 30) (hkk : kk < 7) (ha : a < 3) (hk : M.1 (14 + 2) p = nI kk) (hr : M.1 103 1 = 0) : AMet l 50 yX0_perform cX0_perform 5 (some FieldType.int) [.ref 103, .ref 14, .int (nI p), .int (nI a), .int x] M (QE (some (.int (actR kk a (nI p) (M.1 (14 + 5) p) x).1)) (trs 0 (actR kk a (nI p) (M.1 (14 + 5) p) x).2 (perfM 14 p M))) := by
  refine AMet.of (by decide) (by simp [aargs, Value.category]) ?_
  show AW l 50 yX0_perform cX0_perform 5 (some FieldType.int) 0 [some (.ref 103), some (.ref 14), some (.int (nI p)), some (.int (nI a)), some (.int x)] [] M _
  refine aw_aload_n (i := 0) dX0_perform_0 rfl rfl ?_
  refine aw_aload_n (i := 1) dX0_perform_1 rfl rfl ?_
  refine aw_getR gf_X0_28 (shC (by simp [isC] : isC 14)) rfl dX0_perform_2 ?_
  refine aw_iload_n (i := 2) dX0_perform_5 rfl rfl ?_
  refine aw_ialdN sh_16 (by omega) (by omega) dX0_perform_6 ?_
  refine aw_putI pf_X0_19 sh_103 rfl dX0_perform_7 ?_
  refine aw_aload_n (i := 0) dX0_perform_10 rfl rfl ?_
  refine aw_iload_n (i := 2) dX0_perform_11 rfl rfl ?_
  refine aw_putI pf_X0_22 sh_103 rfl dX0_perform_12 ?_
  refine aw_aload_n (i := 0) dX0_perform_15 rfl rfl ?_
  refine aw_aload_n (i := 1) dX0_perform_16 rfl rfl ?_
  refine aw_getR gf_X0_32 (shC (by simp [isC] : isC 14)) rfl dX0_perform_17 ?_
  refine aw_iload_n (i := 2) dX0_perform_20 rfl rfl ?_
  refine aw_ialdX sh_19 (by omega) (by decide) (congrFun ((mI_other (by decide)).trans (mI_other (by decide))) _) dX0_perform_21 ?_
  refine aw_putI pf_X0_25 sh_103 rfl dX0_perform_22 ?_
  refine aw_aload_n (i := 0) dX0_perform_25 rfl rfl ?_
  refine aw_aload_n (i := 0) dX0_perform_26 rfl rfl ?_
  refine aw_getX (x := nI kk) gf_X0_19 sh_103 rfl (by rw [mI_self, upd_other (by decide), mI_self, upd_other (by decide), mI_self, upd_self]; exact hk) dX0_perform_27 ?_
  refine aw_iload_n (i := 3) dX0_perform_30 rfl rfl ?_
  refine aw_iload (i := 4) dX0_perform_31 rfl ?_
  refine aw_mem (M' := perfM 14 p M) rfl ?_
  refine aw_iconst (v := 0) dX0_perform_33 (by decide) ?_
  
  refine aw_cVi ck_X0_34 ((cs_all (nI p) (M.1 (14 + 5) p) x kk a hkk ha).1 l (perfM 14 p M) 0 (by unfold perfM; rw [mI_self, upd_other (by decide), mI_self, upd_other (by decide), mI_self, upd_self]; exact hk) (by unfold perfM; rw [mI_self, upd_other (by decide), mI_self, upd_self]) (by unfold perfM; rw [mI_self, upd_self]) (by unfold perfM; rw [mI_self, upd_other (by decide), mI_self, upd_other (by decide), mI_self, upd_other (by decide)]; exact hr) (by have := (cs_all (nI p) (M.1 (14 + 5) p) x kk a hkk ha).2; omega)) sh_103 rfl (by decide) (by decide) rfl rfl (Nat.le_of_ble_eq_true rfl) dX0_perform_34 ?_
  exact aw_iret rfl dX0_perform_37 ⟨rfl, rfl⟩
