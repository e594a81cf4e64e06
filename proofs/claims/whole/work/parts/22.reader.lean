theorem ck_X4_72 : CKV RX4 72 yJ0_length_8abf5 cJ0_length_8abf5 1 (some FieldType.int) 0 := ckV_of (List.mem_append_right _ (List.mem_of_getElem? (i := 501) (by decide +kernel))) (List.mem_append_right _ (List.mem_of_getElem? (i := 502) (by decide +kernel))) (List.mem_append_right _ (List.mem_of_getElem? (i := 503) (by decide +kernel))) (List.mem_append_right _ (List.mem_of_getElem? (i := 13) (by decide +kernel))) (List.mem_append_right _ (List.mem_of_getElem? (i := 504) (by decide +kernel))) ⟨by decide +kernel, by decide +kernel, by decide +kernel⟩
theorem ck_X4_77 : CKV RX4 77 yJ0_charAt_5068e cJ0_charAt_5068e 2 (some FieldType.char) 1 := ckV_of (List.mem_append_right _ (List.mem_of_getElem? (i := 511) (by decide +kernel))) (List.mem_append_right _ (List.mem_of_getElem? (i := 512) (by decide +kernel))) (List.mem_append_right _ (List.mem_of_getElem? (i := 513) (by decide +kernel))) (List.mem_append_right _ (List.mem_of_getElem? (i := 13) (by decide +kernel))) (List.mem_append_right _ (List.mem_of_getElem? (i := 514) (by decide +kernel))) ⟨by decide +kernel, by decide +kernel, by decide +kernel⟩
theorem ck_J0_335 : CKV RJ0 335 yJ0_coder_7d493 cJ0_coder_7d493 1 (some FieldType.byte) 0 := ckV_of (List.mem_append_right _ (List.mem_of_getElem? (i := 505) (by decide +kernel))) (List.mem_append_right _ (List.mem_of_getElem? (i := 506) (by decide +kernel))) (List.mem_append_right _ (List.mem_of_getElem? (i := 507) (by decide +kernel))) (List.mem_append_right _ (List.mem_of_getElem? (i := 13) (by decide +kernel))) (List.mem_append_right _ (List.mem_of_getElem? (i := 508) (by decide +kernel))) ⟨by decide +kernel, by decide +kernel, by decide +kernel⟩
theorem ck_J0_492 : CKV RJ0 492 yJ0_isLatin1_aae02 cJ0_isLatin1_aae02 1 (some FieldType.boolean) 0 := ckV_of (List.mem_append_right _ (List.mem_of_getElem? (i := 515) (by decide +kernel))) (List.mem_append_right _ (List.mem_of_getElem? (i := 516) (by decide +kernel))) (List.mem_append_right _ (List.mem_of_getElem? (i := 517) (by decide +kernel))) (List.mem_append_right _ (List.mem_of_getElem? (i := 13) (by decide +kernel))) (List.mem_append_right _ (List.mem_of_getElem? (i := 518) (by decide +kernel))) ⟨by decide +kernel, by decide +kernel, by decide +kernel⟩
theorem ck_J0_495 : CKS RJ0 495 yJ1_charAt_3b067 cJ1_charAt_3b067 2 (some FieldType.char) 2 := ckS_of (List.mem_append_right _ (List.mem_of_getElem? (i := 519) (by decide +kernel))) (List.mem_append_right _ (List.mem_of_getElem? (i := 520) (by decide +kernel))) (List.mem_append_right _ (List.mem_of_getElem? (i := 14) (by decide +kernel))) (List.mem_append_right _ (List.mem_of_getElem? (i := 521) (by decide +kernel))) ⟨by decide +kernel, by decide +kernel, by decide +kernel⟩
theorem ck_J1_9 : CKS RJ1 9 yJ0_checkIndex_df160 cJ0_checkIndex_df160 2 none 2 := ckS_of (List.mem_append_right _ (List.mem_of_getElem? (i := 522) (by decide +kernel))) (List.mem_append_right _ (List.mem_of_getElem? (i := 523) (by decide +kernel))) (List.mem_append_right _ (List.mem_of_getElem? (i := 13) (by decide +kernel))) (List.mem_append_right _ (List.mem_of_getElem? (i := 524) (by decide +kernel))) ⟨by decide +kernel, by decide +kernel, by decide +kernel⟩
theorem ck_J0_1059 : CKS RJ0 1059 yJ3_checkIndex_8e157 cJ3_checkIndex_8e157 3 (some FieldType.int) 3 := ckS_of (List.mem_append_right _ (List.mem_of_getElem? (i := 527) (by decide +kernel))) (List.mem_append_right _ (List.mem_of_getElem? (i := 528) (by decide +kernel))) (List.mem_append_right _ (List.mem_of_getElem? (i := 15) (by decide +kernel))) (List.mem_append_right _ (List.mem_of_getElem? (i := 529) (by decide +kernel))) ⟨by decide +kernel, by decide +kernel, by decide +kernel⟩
def chL (i : Nat) : Nat := strL.getD i 0
def chF (i j : Nat) : Int32 := (strB.getD i []).getD j 0
theorem chL_lt : ∀ i, i < 7 → chL i ≤ 5 := by decide
theorem ch_ok : ∀ i, i < 7 → ∀ j, j < chL i → ((chF i j &&& 255).toUInt32 % 65536).toInt32 = chF i j ∧ narrow .char (.int (chF i j)) = .int (chF i j) := by decide +kernel
section SROWS
variable {l : Launch} {d : Nat} {y : MethodName} {b : ByteArray} {nL : Nat} {ret : Option FieldType} {pc : Nat} {ls : List (Option Value)} {st : List Value} {M : Mm} {Q : Option Value → Mm → Prop}
theorem aw_getsC {index : Nat} (hlk : Cond.fieldLink y.cls index "java/lang/String" "COMPACT_STRINGS" "Z" ∈ lw_tbl) (hd : decode b pc = .ok (.getstatic index, 3)) (k : AW l d y b nL ret (pc + 3) ls (.int 1 :: st) M Q) : AW l d y b nL ret pc ls st M Q := by
  intro ad ca D A p e s m args below meth c H locs lsA hC hP hD hS hl
  exact va_gets hC.1 hC.2.1 hC.2.2.2.2.2.2.2.2.2.2.2.2.1.1 hS hC.2.2.2.2.1 (hC.2.2.2.2.2.1 _ hlk rfl) (fun _ h => h) hd (k ad ca D A p e s m args below meth c H locs lsA hC hP hD hS hl)
theorem aw_getsF {index : Nat} (hlk : Cond.fieldLink y.cls index "jdk/internal/util/Preconditions" "SIOOBE_FORMATTER" "Ljava/util/function/BiFunction;" ∈ lw_tbl) (hd : decode b pc = .ok (.getstatic index, 3)) (k : AW l d y b nL ret (pc + 3) ls (.null :: st) M Q) (k2 : AW l d y b nL ret (pc + 3) ls (.ref 1002 :: st) M Q) : AW l d y b nL ret pc ls st M Q := by
  intro ad ca D A p e s m args below meth c H locs lsA hC hP hD hS hl
  rcases hC.2.2.2.2.2.2.2.2.2.2.2.2.1.2 with hz | hz
  · exact va_gets hC.1 hC.2.1 hz hS hC.2.2.2.2.1 (hC.2.2.2.2.2.1 _ hlk rfl) (fun _ h => h) hd (k ad ca D A p e s m args below meth c H locs lsA hC hP hD hS hl)
  · exact va_gets hC.1 hC.2.1 hz hS hC.2.2.2.2.1 (hC.2.2.2.2.2.1 _ hlk rfl) (fun _ h => h) hd (k2 ad ca D A p e s m args below meth c H locs lsA hC hP hD hS hl)
theorem aw_strV {index i : Nat} (hi : i < 7) (hlk : Cond.fieldLink y.cls index "java/lang/String" "value" "[B" ∈ lw_tbl) (hd : decode b pc = .ok (.getfield index, 3)) (k : AW l d y b nL ret (pc + 3) ls (.ref (1020 + i) :: st) M Q) : AW l d y b nL ret pc ls (.ref (1010 + i) :: st) M Q := by
  intro ad ca D A p e s m args below meth c H locs lsA hC hP hD hS hl
  exact vk_getf hC.1 hC.2.1 (hC.2.2.2.2.2.2.2.2.2.2.2.2.2.1.1 i hi).2.2.1 hS hC.2.2.2.2.1 (hC.2.2.2.2.2.1 _ hlk rfl) (fun _ h => h) hd (k ad ca D A p e s m args below meth c H locs lsA hC hP hD hS hl)
theorem aw_strC {index i : Nat} (hi : i < 7) (hlk : Cond.fieldLink y.cls index "java/lang/String" "coder" "B" ∈ lw_tbl) (hd : decode b pc = .ok (.getfield index, 3)) (k : AW l d y b nL ret (pc + 3) ls (.int 0 :: st) M Q) : AW l d y b nL ret pc ls (.ref (1010 + i) :: st) M Q := by
  intro ad ca D A p e s m args below meth c H locs lsA hC hP hD hS hl
  exact vk_getf hC.1 hC.2.1 (hC.2.2.2.2.2.2.2.2.2.2.2.2.2.1.1 i hi).2.1 hS hC.2.2.2.2.1 (hC.2.2.2.2.2.1 _ hlk rfl) (fun _ h => h) hd (k ad ca D A p e s m args below meth c H locs lsA hC hP hD hS hl)
theorem aw_strL {i : Nat} (hi : i < 7) (hd : decode b pc = .ok (.arraylength, 1)) (k : AW l d y b nL ret (pc + 1) ls (.int (nI (chL i)) :: st) M Q) : AW l d y b nL ret pc ls (.ref (1020 + i) :: st) M Q := by
  intro ad ca D A p e s m args below meth c H locs lsA hC hP hD hS hl
  exact va_tlen hC.1 hC.2.1 (hC.2.2.2.2.2.2.2.2.2.2.2.2.2.1.1 i hi).2.2.2 hS rfl hd (k ad ca D A p e s m args below meth c H locs lsA hC hP hD hS hl)
theorem aw_strB {i j : Nat} (hi : i < 7) (hj : j < chL i) (hd : decode b pc = .ok (.baload, 1)) (k : AW l d y b nL ret (pc + 1) ls (.int (chF i j) :: st) M Q) : AW l d y b nL ret pc ls (.int (nI j) :: .ref (1020 + i) :: st) M Q := by
  have hl5 := chL_lt i hi
  intro ad ca D A p e s m args below meth c H locs lsA hC hP hD hS hl
  exact va_tb hC.1 hC.2.1 (hC.2.2.2.2.2.2.2.2.2.2.2.2.2.1.1 i hi).2.2.2 hS (vp_in_nI hj (show strL.getD i 0 < 2 ^ 31 from by unfold chL at hl5; omega)) (by rw [nI_clamp (by omega)]; rfl) hd (k ad ca D A p e s m args below meth c H locs lsA hC hP hD hS hl)
theorem aw_ldcS {index i : Nat} {own : String} (hi : i < 7) (ho : y.cls = "ClapTogether$LawReader") (hx : index = 89 + 2 * i) (hd : decode b pc = .ok (.ldc index, 2)) (k : AW l d y b nL ret (pc + 2) ls (.ref (1010 + i) :: st) M Q) : AW l d y b nL ret pc ls st M Q := by
  intro ad ca D A p e s m args below meth c H locs lsA hC hP hD hS hl
  subst hx
  exact va_ldcS hC.1 hC.2.1 (by rw [← ho]; exact hC.2.2.2.2.1) (hC.2.2.2.2.2.2.2.2.2.2.2.2.2.2 i hi) hd (k ad ca D A p e s m args below meth c H locs lsA hC hP hD hS hl)
theorem aw_tret {v : Int32} {ty : FieldType} (hr : ret = some ty) (hn : narrow ty (.int v) = .int v) (hd : decode b pc = .ok (.ireturn, 1)) (hq : Q (some (.int v)) M) : AW l d y b nL ret pc ls [.int v] M Q := by
  intro ad ca D A p e s m args below meth c H locs lsA hC hP hD hS hl
  exact W.zret (v := v) (ty := ty) hC.1 hC.2.1 (hC.2.2.2.1.trans hr) hn (fun t ht _ => aw_qc (r := some (.int v)) hP hS ht hq) hS.2.2 hd (hlocks := hC.2.2.2.2.2.2.2.1)
/-- a call of a text's method -/
theorem aw_cTi {v : Int32} {d' i n index nL' : Nat} {y' : MethodName} {b' : ByteArray} {ret' : Option FieldType} {as stk : List Value} {M0 : Mm} (hi : i < 7) (ck : CKV y.cls index y' b' nL' ret' n) (hM : AMet l d' y' b' nL' ret' (.ref (1010 + i) :: as) M (QE (some (.int v)) M0)) (hc : y'.cls = "java/lang/String") (hdd : d' + 1 ≤ d) (hnl : nL' ≤ 45) (hn : as.length = n) (hstk : stk = as.reverse ++ .ref (1010 + i) :: st) (hcat : (st.map fun v => v.category).sum ≤ 8) (hd : decode b pc = .ok (.invokevirtual index, 3))
    (k : AW l d y b nL ret (pc + 3) ls (.int v :: st) M0 Q) : AW l d y b nL ret pc ls stk M Q := by
  intro ad ca D A p e s m args below meth c H locs lsA hC hP hD hS hl
  have hF := aA_sub hD hS hC.2.2.2.2.2.2.2.2.1
  have hrun := ck (As := as.map (cz ad)) (rest := st.map (cz ad)) (bb := ad (1010 + i)) (g := F0 m pc lsA (stk.map (cz ad))) hC.1 hC.2.1 hC.2.2.1 hC.2.2.2.2.1 hC.2.2.2.2.2.1 hC.2.2.2.2.2.2.2.2.2.1 (p := p) (e := e) (R := rmD d) (below := below) (meth := meth) (H := H) (locs := locs) (hM ad ca D H.size) rfl rfl ⟨hdd, by show 8 + (nL' + 11) + d' * 64 ≤ d * 64; omega⟩
    ⟨aw_blind (as := .ref (1010 + i) :: as), by rw [hc]; exact vk_recv hC.2.2.2.2.2.2.2.2.2.2.2.2.2.1 (i := i) hi hS, fun U hU hW => ⟨rfl, aw_pre hC hP hD hS hU hW⟩⟩ rfl (by rw [List.length_map]; exact hn) hl.1 (by rw [hstk]; simp [cz]) (lv_room (by rw [aw_cats]; exact hcat)) hd ⟨Nat.zero_le _, Nat.zero_le _⟩
  refine aw_back hrun hS hF (fun r M' H1 locs1 hq hP1 hS1 => ?_)
  obtain ⟨rfl, rfl⟩ := hq
  rw [aw_map]
  exact k ad ca D A p e s m args below meth c H1 locs1 lsA hC hP1 (wD hD) hS1 hl
end SROWS
theorem m_J0_coder_7d493 {l : Launch} {M : Mm} {i : Nat} (hi : i < 7) : AMet l 1 yJ0_coder_7d493 cJ0_coder_7d493 1 (some FieldType.byte) [.ref (1010 + i)] M (QE (some (.int 0)) M) := by
  refine AMet.of (by decide) (by simp [aargs, Value.category]) ?_
  show AW l 1 yJ0_coder_7d493 cJ0_coder_7d493 1 (some FieldType.byte) 0 [some (.ref (1010 + i))] [] M _
  refine aw_getsC (List.mem_append_right _ (List.mem_of_getElem? (i := 509) (by decide +kernel))) dJ0_coder_7d493_0 ?_
  refine aw_if_eq (tgt := 13) dJ0_coder_7d493_3 (by decide) (fun h3 => ?_) (fun h3 => ?_)
  ·
    exact absurd h3 (by decide)
  ·
    refine aw_aload_n (i := 0) dJ0_coder_7d493_6 rfl rfl ?_
    refine aw_strC hi (List.mem_append_right _ (List.mem_of_getElem? (i := 1436) (by decide +kernel))) dJ0_coder_7d493_7 ?_
    refine aw_goto (tgt := 14) dJ0_coder_7d493_10 (by decide) ?_
    exact aw_tret rfl rfl dJ0_coder_7d493_14 ⟨rfl, rfl⟩
theorem m_J0_isLatin1_aae02 {l : Launch} {M : Mm} {i : Nat} (hi : i < 7) : AMet l 1 yJ0_isLatin1_aae02 cJ0_isLatin1_aae02 1 (some FieldType.boolean) [.ref (1010 + i)] M (QE (some (.int 1)) M) := by
  refine AMet.of (by decide) (by simp [aargs, Value.category]) ?_
  show AW l 1 yJ0_isLatin1_aae02 cJ0_isLatin1_aae02 1 (some FieldType.boolean) 0 [some (.ref (1010 + i))] [] M _
  refine aw_getsC (List.mem_append_right _ (List.mem_of_getElem? (i := 509) (by decide +kernel))) dJ0_isLatin1_aae02_0 ?_
  refine aw_if_eq (tgt := 17) dJ0_isLatin1_aae02_3 (by decide) (fun h3 => ?_) (fun h3 => ?_)
  ·
    exact absurd h3 (by decide)
  ·
    refine aw_aload_n (i := 0) dJ0_isLatin1_aae02_6 rfl rfl ?_
    refine aw_strC hi (List.mem_append_right _ (List.mem_of_getElem? (i := 1436) (by decide +kernel))) dJ0_isLatin1_aae02_7 ?_
    refine aw_if_ne (tgt := 17) dJ0_isLatin1_aae02_10 (by decide) (fun h10 => ?_) (fun h10 => ?_)
    ·
      exact absurd h10 (by decide)
    ·
      refine aw_iconst (v := 1) dJ0_isLatin1_aae02_13 (by decide) ?_
      refine aw_goto (tgt := 18) dJ0_isLatin1_aae02_14 (by decide) ?_
      exact aw_zret rfl (by simp) dJ0_isLatin1_aae02_18 ⟨rfl, rfl⟩
theorem shrL : ∀ i, i < 7 → nI (chL i) >>> (0 &&& 31) = nI (chL i) := by decide +kernel
theorem m_J0_length_8abf5 {l : Launch} {M : Mm} {i : Nat} (hi : i < 7) : AMet l 2 yJ0_length_8abf5 cJ0_length_8abf5 1 (some FieldType.int) [.ref (1010 + i)] M (QE (some (.int (nI (chL i)))) M) := by
  refine AMet.of (by decide) (by simp [aargs, Value.category]) ?_
  show AW l 2 yJ0_length_8abf5 cJ0_length_8abf5 1 (some FieldType.int) 0 [some (.ref (1010 + i))] [] M _
  refine aw_aload_n (i := 0) dJ0_length_8abf5_0 rfl rfl ?_
  refine aw_strV hi (List.mem_append_right _ (List.mem_of_getElem? (i := 1435) (by decide +kernel))) dJ0_length_8abf5_1 ?_
  refine aw_strL hi dJ0_length_8abf5_4 ?_
  refine aw_aload_n (i := 0) dJ0_length_8abf5_5 rfl rfl ?_
  refine aw_cTi hi ck_J0_335 (m_J0_coder_7d493 hi) rfl (by decide) (by decide) rfl rfl (Nat.le_of_ble_eq_true rfl) dJ0_length_8abf5_6 ?_
  refine aw_ishr dJ0_length_8abf5_9 ?_
  refine aw_top (shrL i hi) ?_
  exact aw_iret rfl dJ0_length_8abf5_10 ⟨rfl, rfl⟩
theorem m_J3_checkIndex_8e157 {l : Launch} {M : Mm} {j n : Nat} (hj : j < n) (hn : n < 2 ^ 31) : AMet l 1 yJ3_checkIndex_8e157 cJ3_checkIndex_8e157 3 (some FieldType.int) [.int (nI j), .int (nI n), .ref 1002] M (QE (some (.int (nI j))) M) := by
  refine AMet.of (by decide) (by simp [aargs, Value.category]) ?_
  show AW l 1 yJ3_checkIndex_8e157 cJ3_checkIndex_8e157 3 (some FieldType.int) 0 [some (.int (nI j)), some (.int (nI n)), some (.ref 1002)] [] M _
  refine aw_iload_n (i := 0) dJ3_checkIndex_8e157_0 rfl rfl ?_
  refine aw_if_lt (tgt := 9) dJ3_checkIndex_8e157_1 (by decide) (fun h1 => ?_) (fun h1 => ?_)
  ·
    exact absurd h1 (nI_pos (by omega))
  ·
    refine aw_iload_n (i := 0) dJ3_checkIndex_8e157_4 rfl rfl ?_
    refine aw_iload_n (i := 1) dJ3_checkIndex_8e157_5 rfl rfl ?_
    refine aw_icmp_ltN (tgt := 16) (by omega) (by omega) dJ3_checkIndex_8e157_6 (by decide) (fun h6 => ?_) (fun h6 => ?_)
    ·
      refine aw_iload_n (i := 0) dJ3_checkIndex_8e157_16 rfl rfl ?_
      exact aw_iret rfl dJ3_checkIndex_8e157_17 ⟨rfl, rfl⟩
    ·
      omega
theorem m_J3_null {l : Launch} {M : Mm} {j n : Nat} (hj : j < n) (hn : n < 2 ^ 31) : AMet l 1 yJ3_checkIndex_8e157 cJ3_checkIndex_8e157 3 (some FieldType.int) [.int (nI j), .int (nI n), .null] M (QE (some (.int (nI j))) M) := by
  refine AMet.of (by decide) (by simp [aargs, Value.category]) ?_
  show AW l 1 yJ3_checkIndex_8e157 cJ3_checkIndex_8e157 3 (some FieldType.int) 0 [some (.int (nI j)), some (.int (nI n)), some (.null)] [] M _
  refine aw_iload_n (i := 0) dJ3_checkIndex_8e157_0 rfl rfl ?_
  refine aw_if_lt (tgt := 9) dJ3_checkIndex_8e157_1 (by decide) (fun h1 => ?_) (fun h1 => ?_)
  ·
    exact absurd h1 (nI_pos (by omega))
  ·
    refine aw_iload_n (i := 0) dJ3_checkIndex_8e157_4 rfl rfl ?_
    refine aw_iload_n (i := 1) dJ3_checkIndex_8e157_5 rfl rfl ?_
    refine aw_icmp_ltN (tgt := 16) (by omega) (by omega) dJ3_checkIndex_8e157_6 (by decide) (fun h6 => ?_) (fun h6 => ?_)
    ·
      refine aw_iload_n (i := 0) dJ3_checkIndex_8e157_16 rfl rfl ?_
      exact aw_iret rfl dJ3_checkIndex_8e157_17 ⟨rfl, rfl⟩
    ·
      omega
theorem m_J0_checkIndex_df160 {l : Launch} {M : Mm} {j n : Nat} (hj : j < n) (hn : n < 2 ^ 31) : AMet l 2 yJ0_checkIndex_df160 cJ0_checkIndex_df160 2 none [.int (nI j), .int (nI n)] M (QE none M) := by
  refine AMet.of (by decide) (by simp [aargs, Value.category]) ?_
  show AW l 2 yJ0_checkIndex_df160 cJ0_checkIndex_df160 2 none 0 [some (.int (nI j)), some (.int (nI n))] [] M _
  refine aw_iload_n (i := 0) dJ0_checkIndex_df160_0 rfl rfl ?_
  refine aw_iload_n (i := 1) dJ0_checkIndex_df160_1 rfl rfl ?_
  refine aw_getsF (List.mem_append_right _ (List.mem_of_getElem? (i := 525) (by decide +kernel))) dJ0_checkIndex_df160_2 ?_ ?_
  · refine aw_cSi ck_J0_1059 (m_J3_null hj hn) (by decide) (by decide) rfl rfl (Nat.le_of_ble_eq_true rfl) dJ0_checkIndex_df160_5 ?_
    refine aw_pop dJ0_checkIndex_df160_8 rfl ?_
    exact aw_vret rfl dJ0_checkIndex_df160_9 ⟨rfl, rfl⟩
  · refine aw_cSi ck_J0_1059 (m_J3_checkIndex_8e157 hj hn) (by decide) (by decide) rfl rfl (Nat.le_of_ble_eq_true rfl) dJ0_checkIndex_df160_5 ?_
    refine aw_pop dJ0_checkIndex_df160_8 rfl ?_
    exact aw_vret rfl dJ0_checkIndex_df160_9 ⟨rfl, rfl⟩
theorem m_J1_charAt_3b067 {l : Launch} {M : Mm} {i j : Nat} (hi : i < 7) (hj : j < chL i) : AMet l 3 yJ1_charAt_3b067 cJ1_charAt_3b067 2 (some FieldType.char) [.ref (1020 + i), .int (nI j)] M (QE (some (.int (chF i j))) M) := by
  refine AMet.of (by decide) (by simp [aargs, Value.category]) ?_
  show AW l 3 yJ1_charAt_3b067 cJ1_charAt_3b067 2 (some FieldType.char) 0 [some (.ref (1020 + i)), some (.int (nI j))] [] M _
  refine aw_iload_n (i := 1) dJ1_charAt_3b067_0 rfl rfl ?_
  refine aw_aload_n (i := 0) dJ1_charAt_3b067_1 rfl rfl ?_
  refine aw_strL hi dJ1_charAt_3b067_2 ?_
  have hl5 := chL_lt i hi
  refine aw_cSv ck_J1_9 (m_J0_checkIndex_df160 hj (by omega)) (by decide) (by decide) rfl rfl (Nat.le_of_ble_eq_true rfl) dJ1_charAt_3b067_3 ?_
  refine aw_aload_n (i := 0) dJ1_charAt_3b067_6 rfl rfl ?_
  refine aw_iload_n (i := 1) dJ1_charAt_3b067_7 rfl rfl ?_
  refine aw_strB hi hj dJ1_charAt_3b067_8 ?_
  refine aw_sipush (v := 255) dJ1_charAt_3b067_9 (by decide) ?_
  refine aw_iand dJ1_charAt_3b067_12 ?_
  refine aw_i2c dJ1_charAt_3b067_13 ?_
  refine aw_top ((ch_ok i hi j hj).1) ?_
  exact aw_tret rfl (ch_ok i hi j hj).2 dJ1_charAt_3b067_14 ⟨rfl, rfl⟩
theorem m_J0_charAt_5068e {l : Launch} {M : Mm} {i j : Nat} (hi : i < 7) (hj : j < chL i) : AMet l 4 yJ0_charAt_5068e cJ0_charAt_5068e 2 (some FieldType.char) [.ref (1010 + i), .int (nI j)] M (QE (some (.int (chF i j))) M) := by
  refine AMet.of (by decide) (by simp [aargs, Value.category]) ?_
  show AW l 4 yJ0_charAt_5068e cJ0_charAt_5068e 2 (some FieldType.char) 0 [some (.ref (1010 + i)), some (.int (nI j))] [] M _
  refine aw_aload_n (i := 0) dJ0_charAt_5068e_0 rfl rfl ?_
  refine aw_cTi hi ck_J0_492 (m_J0_isLatin1_aae02 hi) rfl (by decide) (by decide) rfl rfl (Nat.le_of_ble_eq_true rfl) dJ0_charAt_5068e_1 ?_
  refine aw_if_eq (tgt := 16) dJ0_charAt_5068e_4 (by decide) (fun h4 => ?_) (fun h4 => ?_)
  ·
    exact absurd h4 (by decide)
  ·
    refine aw_aload_n (i := 0) dJ0_charAt_5068e_7 rfl rfl ?_
    refine aw_strV hi (List.mem_append_right _ (List.mem_of_getElem? (i := 1435) (by decide +kernel))) dJ0_charAt_5068e_8 ?_
    refine aw_iload_n (i := 1) dJ0_charAt_5068e_11 rfl rfl ?_
    refine aw_cSi ck_J0_495 (m_J1_charAt_3b067 hi hj) (by decide) (by decide) rfl rfl (Nat.le_of_ble_eq_true rfl) dJ0_charAt_5068e_12 ?_
    exact aw_tret rfl (ch_ok i hi j hj).2 dJ0_charAt_5068e_15 ⟨rfl, rfl⟩
theorem m_X4_nameOf {l : Launch} {M : Mm} {i : Nat} (hi : i < 7) : AMet l 1 yX4_nameOf cX4_nameOf 1 (some (FieldType.object "java/lang/String")) [.int (nI i)] M (QE (some (.ref (1010 + i))) M) := by
  refine AMet.of (by decide) (by simp [aargs, Value.category]) ?_
  show AW l 1 yX4_nameOf cX4_nameOf 1 (some (FieldType.object "java/lang/String")) 0 [some (.int (nI i))] [] M _
  refine aw_iload_n (i := 0) dX4_nameOf_0 rfl rfl ?_
  rcases (show i = 0 ∨ i = 1 ∨ i = 2 ∨ i = 3 ∨ i = 4 ∨ i = 5 ∨ i = 6 by omega) with rfl | rfl | rfl | rfl | rfl | rfl | rfl
  ·
    refine aw_tableIn (off := 39) (tgt := 40) dX4_nameOf_1 (by decide) (by decide) (by decide) (by decide) ?_
    refine aw_ldcS (i := 0) (own := "ClapTogether$LawReader") (by decide) rfl rfl dX4_nameOf_40 ?_
    exact aw_aret rfl (Or.inl ⟨_, rfl⟩) dX4_nameOf_42 ⟨rfl, rfl⟩
  ·
    refine aw_tableIn (off := 42) (tgt := 43) dX4_nameOf_1 (by decide) (by decide) (by decide) (by decide) ?_
    refine aw_ldcS (i := 1) (own := "ClapTogether$LawReader") (by decide) rfl rfl dX4_nameOf_43 ?_
    exact aw_aret rfl (Or.inl ⟨_, rfl⟩) dX4_nameOf_45 ⟨rfl, rfl⟩
  ·
    refine aw_tableIn (off := 45) (tgt := 46) dX4_nameOf_1 (by decide) (by decide) (by decide) (by decide) ?_
    refine aw_ldcS (i := 2) (own := "ClapTogether$LawReader") (by decide) rfl rfl dX4_nameOf_46 ?_
    exact aw_aret rfl (Or.inl ⟨_, rfl⟩) dX4_nameOf_48 ⟨rfl, rfl⟩
  ·
    refine aw_tableIn (off := 48) (tgt := 49) dX4_nameOf_1 (by decide) (by decide) (by decide) (by decide) ?_
    refine aw_ldcS (i := 3) (own := "ClapTogether$LawReader") (by decide) rfl rfl dX4_nameOf_49 ?_
    exact aw_aret rfl (Or.inl ⟨_, rfl⟩) dX4_nameOf_51 ⟨rfl, rfl⟩
  ·
    refine aw_tableIn (off := 51) (tgt := 52) dX4_nameOf_1 (by decide) (by decide) (by decide) (by decide) ?_
    refine aw_ldcS (i := 4) (own := "ClapTogether$LawReader") (by decide) rfl rfl dX4_nameOf_52 ?_
    exact aw_aret rfl (Or.inl ⟨_, rfl⟩) dX4_nameOf_54 ⟨rfl, rfl⟩
  ·
    refine aw_tableIn (off := 54) (tgt := 55) dX4_nameOf_1 (by decide) (by decide) (by decide) (by decide) ?_
    refine aw_ldcS (i := 5) (own := "ClapTogether$LawReader") (by decide) rfl rfl dX4_nameOf_55 ?_
    exact aw_aret rfl (Or.inl ⟨_, rfl⟩) dX4_nameOf_57 ⟨rfl, rfl⟩
  ·
    refine aw_tableOut (tgt := 58) dX4_nameOf_1 (by decide) (by decide) ?_
    refine aw_ldcS (i := 6) (own := "ClapTogether$LawReader") (by decide) rfl rfl dX4_nameOf_58 ?_
    exact aw_aret rfl (Or.inl ⟨_, rfl⟩) dX4_nameOf_60 ⟨rfl, rfl⟩
def plM (M : Mm) (p : Nat) : Mm := mI M 100 3 (nI p)
/-- the reader stands at p of z signs f -/
def RS (M : Mm) (f : Nat → Int32) (z p : Nat) : Prop := M.1 102 = f ∧ M.1 100 2 = nI z ∧ M.1 100 3 = nI p
theorem plM_o {M : Mm} {p k : Nat} (h : k ≠ 100) : (plM M p).1 k = M.1 k := mI_other h
theorem RS_pl {M : Mm} {f : Nat → Int32} {z p : Nat} (h : RS M f z p) (q : Nat) : RS (plM M q) f z q := ⟨(plM_o (by decide)).trans h.1, by rw [plM, mI_self, upd_other (by decide)]; exact h.2.1, by rw [plM, mI_self, upd_self]⟩
theorem plM_pl (M : Mm) (p q : Nat) : plM (plM M p) q = plM M q := mI_mI M 100 3 _ _
def nxP (f : Nat → Int32) (z p n : Nat) (c : Int32) : Prop := p + n < z ∧ f (p + n) = c
def dgP (f : Nat → Int32) (z p : Nat) : Prop := p < z ∧ ¬ f p < 48 ∧ ¬ 57 < f p
noncomputable def alk (f : Nat → Int32) (z p i : Nat) : Nat := whileN (fun j => nxP f z p j (chF i j)) (chL i) 0
theorem alk_le (f : Nat → Int32) (z p i : Nat) : alk f z p i ≤ chL i := by have := whileN_le (P := fun j => nxP f z p j (chF i j)) (chL i) 0; unfold alk; omega
theorem while_all {P : Nat → Prop} : ∀ (k a j : Nat), a ≤ j → j < whileN P k a → P j
  | 0, a, j, h1, h2 => absurd h2 (by show ¬ j < a; omega)
  | k + 1, a, j, h1, h2 => by
    by_cases h : P a
    · by_cases e : j = a
      · exact e ▸ h
      · exact while_all k (a + 1) j (by omega) (by rw [show whileN P (k + 1) a = whileN P k (a + 1) from pIf_t h] at h2; exact h2)
    · rw [whileN_f h] at h2; omega
theorem alk_z {f : Nat → Int32} {z p : Nat} (i : Nat) (hp : p ≤ z) : p + alk f z p i ≤ z := by
  by_cases h : alk f z p i = 0
  · omega
  have := (while_all (P := fun j => nxP f z p j (chF i j)) (chL i) 0 (alk f z p i - 1) (by omega) (by unfold alk at h ⊢; omega)).1
  omega
def mxN (g : Nat → Nat) : Nat → Nat
  | 0 => 0
  | k + 1 => max (mxN g k) (g k)
theorem mxN_le {g : Nat → Nat} {b : Nat} : ∀ k, (∀ i, i < k → g i ≤ b) → mxN g k ≤ b
  | 0, _ => Nat.zero_le _
  | k + 1, h => Nat.max_le.mpr ⟨mxN_le k (fun i hi => h i (by omega)), h k (by omega)⟩
/-- which name stands there -/
noncomputable def nmI (f : Nat → Int32) (z p : Nat) : Nat := whileN (fun i => ¬ alk f z p i = chL i) 7 0
theorem nmI_le (f : Nat → Int32) (z p : Nat) : nmI f z p ≤ 7 := by have := whileN_le (P := fun i => ¬ alk f z p i = chL i) 7 0; unfold nmI; omega
noncomputable def rnP (f : Nat → Int32) (z p : Nat) : Nat := p + pIf (nmI f z p < 7) (alk f z p (nmI f z p)) (mxN (alk f z p) 7)
theorem rnP_le {f : Nat → Int32} {z p : Nat} (hp : p ≤ z) : p ≤ rnP f z p ∧ rnP f z p ≤ z := by
  refine ⟨Nat.le_add_right _ _, ?_⟩
  unfold rnP
  by_cases h : nmI f z p < 7
  · rw [pIf_t h]; exact alk_z _ hp
  · rw [pIf_f h]
    have := mxN_le (g := alk f z p) (b := z - p) 7 (fun i _ => by have := alk_z (f := f) i hp; omega)
    omega
theorem maxN {a b : Nat} (ha : a < 2 ^ 31) (hb : b < 2 ^ 31) : (if nI a < nI b then nI b else nI a) = nI (max a b) := by
  by_cases h : a < b
  · rw [if_pos ((nI_ltI ha hb).mpr h), Nat.max_eq_right (by omega)]
  · rw [if_neg (fun q => h ((nI_ltI ha hb).mp q)), Nat.max_eq_left (by omega)]
theorem m_X4_isNext {l : Launch} {M : Mm} {f : Nat → Int32} {z p : Nat} (hR : RS M f z p) (hz : z ≤ 100) (hp : p ≤ z) {n : Nat} {c : Int32} (hn : n ≤ 100) : AMet l 1 yX4_isNext cX4_isNext 3 (some FieldType.boolean) [.ref 100, .int (nI n), .int c] M (QE (some (.int (b01 (nxP f z p n c)))) M) := by
  refine AMet.of (by decide) (by simp [aargs, Value.category]) ?_
  show AW l 1 yX4_isNext cX4_isNext 3 (some FieldType.boolean) 0 [some (.ref 100), some (.int (nI n)), some (.int c)] [] M _
  refine aw_aload_n (i := 0) dX4_isNext_0 rfl rfl ?_
  refine aw_getN (n := p) gf_X4_22 sh_100 rfl hR.2.2 dX4_isNext_1 ?_
  refine aw_iload_n (i := 1) dX4_isNext_4 rfl rfl ?_
  refine aw_iadd dX4_isNext_5 ?_
  refine aw_top (nI_add p n) ?_
  refine aw_aload_n (i := 0) dX4_isNext_6 rfl rfl ?_
  refine aw_getN (n := z) gf_X4_18 sh_100 rfl hR.2.1 dX4_isNext_7 ?_
  refine aw_icmp_geN (tgt := 32) (by omega) (by omega) dX4_isNext_10 (by decide) (fun h10 => ?_) (fun h10 => ?_)
  ·
    refine aw_iconst (v := 0) dX4_isNext_32 (by decide) ?_
    exact aw_zret rfl (by simp) dX4_isNext_33 ⟨by rw [b01_f (fun q => by first | exact h25 q.2 | (have := q.1; omega))], rfl⟩
  ·
    refine aw_aload_n (i := 0) dX4_isNext_13 rfl rfl ?_
    refine aw_getR gf_X4_15 sh_100 rfl dX4_isNext_14 ?_
    refine aw_aload_n (i := 0) dX4_isNext_17 rfl rfl ?_
    refine aw_getN (n := p) gf_X4_22 sh_100 rfl hR.2.2 dX4_isNext_18 ?_
    refine aw_iload_n (i := 1) dX4_isNext_21 rfl rfl ?_
    refine aw_iadd dX4_isNext_22 ?_
    refine aw_top (nI_add p n) ?_
    refine aw_ialdX sh_102 (by omega) (by decide) (congrFun hR.1 _) dX4_isNext_23 ?_
    refine aw_iload_n (i := 2) dX4_isNext_24 rfl rfl ?_
    refine aw_icmp_ne (tgt := 32) dX4_isNext_25 (by decide) (fun h25 => ?_) (fun h25 => ?_)
    ·
      refine aw_iconst (v := 0) dX4_isNext_32 (by decide) ?_
      exact aw_zret rfl (by simp) dX4_isNext_33 ⟨by rw [b01_f (fun q => by first | exact h25 q.2 | (have := q.1; omega))], rfl⟩
    ·
      refine aw_iconst (v := 1) dX4_isNext_28 (by decide) ?_
      refine aw_goto (tgt := 33) dX4_isNext_29 (by decide) ?_
      exact aw_zret rfl (by simp) dX4_isNext_33 ⟨by rw [b01_t ⟨by omega, by first | exact h25 | exact Classical.not_not.mp h25⟩], rfl⟩
theorem m_X4_pass {l : Launch} {M : Mm} {f : Nat → Int32} {z p : Nat} (hR : RS M f z p) (hz : z ≤ 100) (hp : p ≤ z) {c : Int32} : AMet l 2 yX4_pass cX4_pass 2 (some FieldType.boolean) [.ref 100, .int c] M (QE (some (.int (b01 (nxP f z p 0 c)))) (pIf (nxP f z p 0 c) (plM M (p + 1)) M)) := by
  refine AMet.of (by decide) (by simp [aargs, Value.category]) ?_
  show AW l 2 yX4_pass cX4_pass 2 (some FieldType.boolean) 0 [some (.ref 100), some (.int c)] [] M _
  refine aw_aload_n (i := 0) dX4_pass_0 rfl rfl ?_
  refine aw_iconst (v := 0) dX4_pass_1 (by decide) ?_
  refine aw_iload_n (i := 1) dX4_pass_2 rfl rfl ?_
  refine aw_cVi ck_X4_81 (m_X4_isNext (n := 0) hR hz hp (by omega)) sh_100 rfl (by decide) (by decide) rfl rfl (Nat.le_of_ble_eq_true rfl) dX4_pass_3 ?_
  refine aw_ifne_b (tgt := 11) dX4_pass_6 (by decide) (fun h6 => ?_) (fun h6 => ?_)
  ·
    refine aw_aload_n (i := 0) dX4_pass_11 rfl rfl ?_
    refine aw_dup dX4_pass_12 rfl ?_
    refine aw_getN (n := p) gf_X4_22 sh_100 rfl hR.2.2 dX4_pass_13 ?_
    refine aw_iconst (v := 1) dX4_pass_16 (by decide) ?_
    refine aw_iadd dX4_pass_17 ?_
    refine aw_top ((nI_succ p).symm) ?_
    refine aw_putI pf_X4_22 sh_100 rfl dX4_pass_18 ?_
    refine aw_iconst (v := 1) dX4_pass_21 (by decide) ?_
    exact aw_zret rfl (by simp) dX4_pass_22 ⟨by rw [b01_t h6], (pIf_t h6).symm⟩
  ·
    refine aw_iconst (v := 0) dX4_pass_9 (by decide) ?_
    exact aw_zret rfl (by simp) dX4_pass_10 ⟨by rw [b01_f h6], (pIf_f h6).symm⟩
theorem m_X4_isDigit {l : Launch} {M : Mm} {f : Nat → Int32} {z p : Nat} (hR : RS M f z p) (hz : z ≤ 100) (hp : p ≤ z)  : AMet l 2 yX4_isDigit cX4_isDigit 1 (some FieldType.boolean) [.ref 100] M (QE (some (.int (b01 (dgP f z p)))) M) := by
  refine AMet.of (by decide) (by simp [aargs, Value.category]) ?_
  show AW l 2 yX4_isDigit cX4_isDigit 1 (some FieldType.boolean) 0 [some (.ref 100)] [] M _
  refine aw_aload_n (i := 0) dX4_isDigit_0 rfl rfl ?_
  refine aw_getN (n := p) gf_X4_22 sh_100 rfl hR.2.2 dX4_isDigit_1 ?_
  refine aw_aload_n (i := 0) dX4_isDigit_4 rfl rfl ?_
  refine aw_getN (n := z) gf_X4_18 sh_100 rfl hR.2.1 dX4_isDigit_5 ?_
  refine aw_icmp_geN (tgt := 34) (by omega) (by omega) dX4_isDigit_8 (by decide) (fun h8 => ?_) (fun h8 => ?_)
  ·
    refine aw_iconst (v := 0) dX4_isDigit_34 (by decide) ?_
    exact aw_zret rfl (by simp) dX4_isDigit_35 ⟨by rw [b01_f (fun q => by first | exact h27 q.2 | (have := q.1; omega))], rfl⟩
  ·
    refine aw_aload_n (i := 0) dX4_isDigit_11 rfl rfl ?_
    refine aw_getR gf_X4_15 sh_100 rfl dX4_isDigit_12 ?_
    refine aw_aload_n (i := 0) dX4_isDigit_15 rfl rfl ?_
    refine aw_getN (n := p) gf_X4_22 sh_100 rfl hR.2.2 dX4_isDigit_16 ?_
    refine aw_ialdX sh_102 (by omega) (by decide) (congrFun hR.1 _) dX4_isDigit_19 ?_
    refine aw_bipush (v := 48) dX4_isDigit_20 (by decide) ?_
    refine aw_bipush (v := 57) dX4_isDigit_22 (by decide) ?_
    refine aw_cSi ck_X4_85 m_X7_isWithin (by decide) (by decide) rfl rfl (Nat.le_of_ble_eq_true rfl) dX4_isDigit_24 ?_
    refine aw_ifeq_b (tgt := 34) dX4_isDigit_27 (by decide) (fun h27 => ?_) (fun h27 => ?_)
    ·
      refine aw_iconst (v := 0) dX4_isDigit_34 (by decide) ?_
      exact aw_zret rfl (by simp) dX4_isDigit_35 ⟨by rw [b01_f (fun q => by first | exact h27 q.2 | (have := q.1; omega))], rfl⟩
    ·
      refine aw_iconst (v := 1) dX4_isDigit_30 (by decide) ?_
      refine aw_goto (tgt := 35) dX4_isDigit_31 (by decide) ?_
      exact aw_zret rfl (by simp) dX4_isDigit_35 ⟨by rw [b01_t ⟨by omega, h27⟩], rfl⟩
theorem m_X4_passDigit {l : Launch} {M : Mm} {f : Nat → Int32} {z p : Nat} (hR : RS M f z p) (hz : z ≤ 100) (hp : p ≤ z) (hlt : p < z) : AMet l 1 yX4_passDigit cX4_passDigit 2 (some FieldType.int) [.ref 100] M (QE (some (.int (f p - 48))) (plM M (p + 1))) := by
  refine AMet.of (by decide) (by simp [aargs, Value.category]) ?_
  show AW l 1 yX4_passDigit cX4_passDigit 2 (some FieldType.int) 0 [some (.ref 100), none] [] M _
  refine aw_aload_n (i := 0) dX4_passDigit_0 rfl rfl ?_
  refine aw_getR gf_X4_15 sh_100 rfl dX4_passDigit_1 ?_
  refine aw_aload_n (i := 0) dX4_passDigit_4 rfl rfl ?_
  refine aw_getN (n := p) gf_X4_22 sh_100 rfl hR.2.2 dX4_passDigit_5 ?_
  refine aw_ialdX sh_102 (by omega) (by decide) (congrFun hR.1 _) dX4_passDigit_8 ?_
  refine aw_bipush (v := 48) dX4_passDigit_9 (by decide) ?_
  refine aw_isub dX4_passDigit_11 ?_
  refine aw_istore_n (i := 1) dX4_passDigit_12 rfl (by decide) ?_
  refine aw_aload_n (i := 0) dX4_passDigit_13 rfl rfl ?_
  refine aw_dup dX4_passDigit_14 rfl ?_
  refine aw_getN (n := p) gf_X4_22 sh_100 rfl hR.2.2 dX4_passDigit_15 ?_
  refine aw_iconst (v := 1) dX4_passDigit_18 (by decide) ?_
  refine aw_iadd dX4_passDigit_19 ?_
  refine aw_top ((nI_succ p).symm) ?_
  refine aw_putI pf_X4_22 sh_100 rfl dX4_passDigit_20 ?_
  refine aw_iload_n (i := 1) dX4_passDigit_23 rfl rfl ?_
  exact aw_iret rfl dX4_passDigit_24 ⟨rfl, rfl⟩
theorem m_X4_countAlike {l : Launch} {M : Mm} {f : Nat → Int32} {z p : Nat} (hR : RS M f z p) (hz : z ≤ 100) (hp : p ≤ z) {i : Nat} (hi : i < 7) : AMet l 5 yX4_countAlike cX4_countAlike 3 (some FieldType.int) [.ref 100, .ref (1010 + i)] M (QE (some (.int (nI (alk f z p i)))) M) := by
  refine AMet.of (by decide) (by simp [aargs, Value.category]) ?_
  show AW l 5 yX4_countAlike cX4_countAlike 3 (some FieldType.int) 0 [some (.ref 100), some (.ref (1010 + i)), none] [] M _
  have hl5 := chL_lt i hi
  refine aw_iconst (v := 0) dX4_countAlike_0 (by decide) ?_
  refine aw_istore_n (i := 2) dX4_countAlike_1 rfl (by decide) ?_
  have lp2 : ∀ k j, j + k = chL i → whileN (fun j => nxP f z p j (chF i j)) k j = alk f z p i → AW l 5 yX4_countAlike cX4_countAlike 3 (some FieldType.int) 2 [some (.ref 100), some (.ref (1010 + i)), some (.int (nI j))] [] M (QE (some (.int (nI (alk f z p i)))) M) := by
    intro k
    induction k using Nat.strongRecOn with
    | _ k ih =>
    intro j hk hK
    refine aw_iload_n (i := 2) dX4_countAlike_2 rfl rfl ?_
    refine aw_aload_n (i := 1) dX4_countAlike_3 rfl rfl ?_
    refine aw_cTi hi ck_X4_72 (m_J0_length_8abf5 hi) rfl (by decide) (by decide) rfl rfl (Nat.le_of_ble_eq_true rfl) dX4_countAlike_4 ?_
    refine aw_icmp_geN (tgt := 29) (by omega) (by omega) dX4_countAlike_7 (by decide) (fun h7 => ?_) (fun h7 => ?_)
    ·
      refine aw_iload_n (i := 2) dX4_countAlike_29 rfl rfl ?_
      exact aw_iret rfl dX4_countAlike_30 ⟨by rw [← hK, show k = 0 by omega]; rfl, rfl⟩
    ·
      refine aw_aload_n (i := 0) dX4_countAlike_10 rfl rfl ?_
      refine aw_iload_n (i := 2) dX4_countAlike_11 rfl rfl ?_
      refine aw_aload_n (i := 1) dX4_countAlike_12 rfl rfl ?_
      refine aw_iload_n (i := 2) dX4_countAlike_13 rfl rfl ?_
      refine aw_cTi hi ck_X4_77 (m_J0_charAt_5068e hi (by omega)) rfl (by decide) (by decide) rfl rfl (Nat.le_of_ble_eq_true rfl) dX4_countAlike_14 ?_
      refine aw_cVi ck_X4_81 (m_X4_isNext hR hz hp (by omega)) sh_100 rfl (by decide) (by decide) rfl rfl (Nat.le_of_ble_eq_true rfl) dX4_countAlike_17 ?_
      refine aw_ifeq_b (tgt := 29) dX4_countAlike_20 (by decide) (fun h20 => ?_) (fun h20 => ?_)
      ·
        refine aw_iload_n (i := 2) dX4_countAlike_29 rfl rfl ?_
        exact aw_iret rfl dX4_countAlike_30 ⟨by rw [← hK, whileN_f (P := fun j => nxP f z p j (chF i j)) h20], rfl⟩
      ·
        refine aw_iincN (i := 2) dX4_countAlike_23 rfl (by decide) ?_
        refine aw_goto (tgt := 2) dX4_countAlike_26 (by decide) ?_
        refine aw_loc (la := [some (.ref 100), some (.ref (1010 + i)), some (.int (nI (j + 1)))]) ⟨rfl, rfl, rfl, trivial⟩ ?_
        exact ih (k - 1) (by omega) (j + 1) (by omega) (by rw [whileN_t (P := fun j => nxP f z p j (chF i j)) h20 (by omega)]; exact hK)
  refine aw_loc (la := [some (.ref 100), some (.ref (1010 + i)), some (.int (nI 0))]) ⟨rfl, rfl, rfl, trivial⟩ ?_
  exact lp2 (chL i) 0 (by omega) rfl
theorem m_X4_readName {l : Launch} {M : Mm} {f : Nat → Int32} {z p : Nat} (hR : RS M f z p) (hz : z ≤ 100) (hp : p ≤ z)  : AMet l 6 yX4_readName cX4_readName 4 (some FieldType.int) [.ref 100] M (QE (some (.int (pIf (nmI f z p < 7) (nI (nmI f z p)) (-1)))) (plM M (rnP f z p))) := by
  refine AMet.of (by decide) (by simp [aargs, Value.category]) ?_
  show AW l 6 yX4_readName cX4_readName 4 (some FieldType.int) 0 [some (.ref 100), none, none, none] [] M _
  refine aw_iconst (v := 0) dX4_readName_0 (by decide) ?_
  refine aw_istore_n (i := 1) dX4_readName_1 rfl (by decide) ?_
  refine aw_iconst (v := 0) dX4_readName_2 (by decide) ?_
  refine aw_istore_n (i := 2) dX4_readName_3 rfl (by decide) ?_
  have lp4 : ∀ k i, i + k = 7 → whileN (fun i => ¬ alk f z p i = chL i) k i = nmI f z p → AW l 6 yX4_readName cX4_readName 4 (some FieldType.int) 4 [some (.ref 100), some (.int (nI (mxN (alk f z p) i))), some (.int (nI i)), none] [] M (QE (some (.int (pIf (nmI f z p < 7) (nI (nmI f z p)) (-1)))) (plM M (rnP f z p))) := by
    intro k
    induction k using Nat.strongRecOn with
    | _ k ih =>
    intro i hk hK
    refine aw_iload_n (i := 2) dX4_readName_4 rfl rfl ?_
    refine aw_bipush (v := 7) dX4_readName_5 (by decide) ?_
    refine aw_top (show (7 : Int32) = nI 7 from rfl) ?_
    refine aw_icmp_geN (tgt := 54) (by omega) (by omega) dX4_readName_7 (by decide) (fun h7 => ?_) (fun h7 => ?_)
    ·
      have hnm : nmI f z p = 7 := by rw [← hK, show k = 0 by omega]; show i = 7; omega
      have e7 : i = 7 := by omega
      subst e7
      refine aw_aload_n (i := 0) dX4_readName_54 rfl rfl ?_
      refine aw_dup dX4_readName_55 rfl ?_
      refine aw_getN (n := p) gf_X4_22 sh_100 rfl hR.2.2 dX4_readName_56 ?_
      refine aw_iload_n (i := 1) dX4_readName_59 rfl rfl ?_
      refine aw_iadd dX4_readName_60 ?_
      refine aw_top (nI_add p _) ?_
      refine aw_putI pf_X4_22 sh_100 rfl dX4_readName_61 ?_
      refine aw_iconst (v := (-1)) dX4_readName_64 (by decide) ?_
      exact aw_iret rfl dX4_readName_65 ⟨by rw [hnm, pIf_f (by omega)], by unfold rnP; rw [hnm, pIf_f (by omega)]; rfl⟩
    ·
      have hi7 : i < 7 := by omega
      have hl5 := chL_lt i hi7
      have hal := alk_le f z p i
      have hmx : mxN (alk f z p) i ≤ 5 := mxN_le i (fun q hq => by have := alk_le f z p q; have := chL_lt q (by omega); omega)
      refine aw_aload_n (i := 0) dX4_readName_10 rfl rfl ?_
      refine aw_iload_n (i := 2) dX4_readName_11 rfl rfl ?_
      refine aw_cSr ck_X4_58 (m_X4_nameOf (by omega)) (by decide) (by decide) rfl rfl (Nat.le_of_ble_eq_true rfl) dX4_readName_12 ?_
      refine aw_cVi ck_X4_62 (m_X4_countAlike hR hz hp hi7) sh_100 rfl (by decide) (by decide) rfl rfl (Nat.le_of_ble_eq_true rfl) dX4_readName_15 ?_
      refine aw_istore_n (i := 3) dX4_readName_18 rfl (by decide) ?_
      refine aw_iload_n (i := 1) dX4_readName_19 rfl rfl ?_
      refine aw_iload_n (i := 3) dX4_readName_20 rfl rfl ?_
      refine aw_mmax (List.mem_append_right _ (List.mem_of_getElem? (i := 553) (by decide +kernel))) (List.mem_append_right _ (List.mem_of_getElem? (i := 554) (by decide +kernel))) (List.mem_append_right _ (List.mem_of_getElem? (i := 12) (by decide +kernel))) (List.mem_append_right _ (List.mem_of_getElem? (i := 555) (by decide +kernel))) (by decide) (Nat.le_of_ble_eq_true rfl) dX4_readName_21 ?_
      refine aw_top (maxN (by omega) (by omega)) ?_
      refine aw_istore_n (i := 1) dX4_readName_24 rfl (by decide) ?_
      refine aw_iload_n (i := 3) dX4_readName_25 rfl rfl ?_
      refine aw_iload_n (i := 2) dX4_readName_26 rfl rfl ?_
      refine aw_cSr ck_X4_58 (m_X4_nameOf (by omega)) (by decide) (by decide) rfl rfl (Nat.le_of_ble_eq_true rfl) dX4_readName_27 ?_
      refine aw_cTi hi7 ck_X4_72 (m_J0_length_8abf5 hi7) rfl (by decide) (by decide) rfl rfl (Nat.le_of_ble_eq_true rfl) dX4_readName_30 ?_
      refine aw_icmp_neN (tgt := 48) (by omega) (by omega) dX4_readName_33 (by decide) (fun h33 => ?_) (fun h33 => ?_)
      ·
        refine aw_iincN (i := 2) dX4_readName_48 rfl (by decide) ?_
        refine aw_goto (tgt := 4) dX4_readName_51 (by decide) ?_
        refine aw_loc (la := [some (.ref 100), some (.int (nI (mxN (alk f z p) (i + 1)))), some (.int (nI (i + 1))), none]) ⟨rfl, rfl, rfl, trivial⟩ ?_
        exact ih (k - 1) (by omega) (i + 1) (by omega) (by rw [whileN_t (P := fun i => ¬ alk f z p i = chL i) (by omega) (by omega)]; exact hK)
      ·
        have hnm : nmI f z p = i := by rw [← hK]; exact whileN_f (P := fun i => ¬ alk f z p i = chL i) (fun q => q (by omega))
        refine aw_aload_n (i := 0) dX4_readName_36 rfl rfl ?_
        refine aw_dup dX4_readName_37 rfl ?_
        refine aw_getN (n := p) gf_X4_22 sh_100 rfl hR.2.2 dX4_readName_38 ?_
        refine aw_iload_n (i := 3) dX4_readName_41 rfl rfl ?_
        refine aw_iadd dX4_readName_42 ?_
        refine aw_top (nI_add p _) ?_
        refine aw_putI pf_X4_22 sh_100 rfl dX4_readName_43 ?_
        refine aw_iload_n (i := 2) dX4_readName_46 rfl rfl ?_
        exact aw_iret rfl dX4_readName_47 ⟨by rw [hnm, pIf_t hi7], by unfold rnP; rw [hnm, pIf_t hi7]; rfl⟩
  refine aw_loc (la := [some (.ref 100), some (.int (nI (mxN (alk f z p) 0))), some (.int (nI 0)), none]) ⟨rfl, rfl, rfl, trivial⟩ ?_
  exact lp4 7 0 (by omega) rfl
noncomputable def ok1 (f : Nat → Int32) (z p : Nat) : Prop := nmI f z p < 7 ∧ nxP f z (rnP f z p) 0 32 ∧ dgP f z (rnP f z p + 1)
noncomputable def oneP (f : Nat → Int32) (z p : Nat) : Nat := pIf (nmI f z p < 7 ∧ nxP f z (rnP f z p) 0 32) (pIf (dgP f z (rnP f z p + 1)) (pIf (dgP f z (rnP f z p + 2)) (rnP f z p + 3) (rnP f z p + 2)) (rnP f z p + 1)) (rnP f z p)
noncomputable def oneV (f : Nat → Int32) (z p : Nat) : Int32 := pIf (dgP f z (rnP f z p + 2)) ((f (rnP f z p + 1) - 48) * 10 + (f (rnP f z p + 2) - 48)) (f (rnP f z p + 1) - 48)
noncomputable def oneM (f : Nat → Int32) (z p : Nat) (M : Mm) : Mm := pIf (ok1 f z p) (mI (plM M (oneP f z p)) 101 (nmI f z p) (oneV f z p)) (plM M (oneP f z p))
theorem oneP_le {f : Nat → Int32} {z p : Nat} (hp : p ≤ z) : p ≤ oneP f z p ∧ oneP f z p ≤ z := by
  have h := rnP_le (f := f) hp
  unfold oneP
  by_cases h1 : nmI f z p < 7 ∧ nxP f z (rnP f z p) 0 32
  · rw [pIf_t h1]
    have h10 := h1.2.1
    by_cases h2 : dgP f z (rnP f z p + 1)
    · rw [pIf_t h2]
      have h20 := h2.1
      by_cases h3 : dgP f z (rnP f z p + 2)
      · rw [pIf_t h3]; have h30 := h3.1; omega
      · rw [pIf_f h3]; omega
    · rw [pIf_f h2]; omega
  · rw [pIf_f h1]; exact h
theorem nI_neg1 {n : Nat} (h : n < 8) : ¬ nI n = -1 := match n, h with
  | 0, _ => by decide
  | 1, _ => by decide
  | 2, _ => by decide
  | 3, _ => by decide
  | 4, _ => by decide
  | 5, _ => by decide
  | 6, _ => by decide
  | 7, _ => by decide
theorem m_X4_readOne {l : Launch} {M : Mm} {f : Nat → Int32} {z p : Nat} (hR : RS M f z p) (hz : z ≤ 100) (hp : p ≤ z)  : AMet l 7 yX4_readOne cX4_readOne 3 (some FieldType.boolean) [.ref 100] M (QE (some (.int (b01 (ok1 f z p)))) (oneM f z p M)) := by
  refine AMet.of (by decide) (by simp [aargs, Value.category]) ?_
  show AW l 7 yX4_readOne cX4_readOne 3 (some FieldType.boolean) 0 [some (.ref 100), none, none] [] M _
  refine aw_aload_n (i := 0) dX4_readOne_0 rfl rfl ?_
  refine aw_cVi ck_X4_48 (m_X4_readName hR hz hp) sh_100 rfl (by decide) (by decide) rfl rfl (Nat.le_of_ble_eq_true rfl) dX4_readOne_1 ?_
  have hq1 := rnP_le (f := f) hp
  have hR1 := RS_pl hR (rnP f z p)
  refine aw_istore_n (i := 1) dX4_readOne_4 rfl (by decide) ?_
  refine aw_iload_n (i := 1) dX4_readOne_5 rfl rfl ?_
  refine aw_iconst (v := (-1)) dX4_readOne_6 (by decide) ?_
  refine aw_icmp_eq (tgt := 26) dX4_readOne_7 (by decide) (fun h7 => ?_) (fun h7 => ?_)
  ·
    have hn8 : ¬ nmI f z p < 7 := fun q => by rw [pIf_t q] at h7; exact absurd h7 (nI_neg1 (by omega))
    refine aw_iconst (v := 0) dX4_readOne_26 (by decide) ?_
    exact aw_zret rfl (by simp) dX4_readOne_27 ⟨by rw [b01_f (fun q => hn8 q.1)], by unfold oneM; rw [pIf_f (fun q => hn8 q.1)]; unfold oneP; rw [pIf_f (fun q => hn8 q.1)]⟩
  ·
    have hn7 : nmI f z p < 7 := Classical.byContradiction (fun q => h7 (pIf_f q))
    refine aw_aload_n (i := 0) dX4_readOne_10 rfl rfl ?_
    refine aw_bipush (v := 32) dX4_readOne_11 (by decide) ?_
    refine aw_cVi ck_X4_44 (m_X4_pass hR1 hz hq1.2) sh_100 rfl (by decide) (by decide) rfl rfl (Nat.le_of_ble_eq_true rfl) dX4_readOne_13 ?_
    refine aw_ifeq_b (tgt := 26) dX4_readOne_16 (by decide) (fun h16 => ?_) (fun h16 => ?_)
    ·
      refine aw_iconst (v := 0) dX4_readOne_26 (by decide) ?_
      exact aw_zret rfl (by simp) dX4_readOne_27 ⟨by rw [b01_f (fun q => h16 q.2.1)], (pIf_f h16).trans (by unfold oneM; rw [pIf_f (fun q : ok1 f z p => h16 q.2.1)]; unfold oneP; rw [pIf_f (fun q => h16 q.2)])⟩
    ·
      refine aw_mem (pIf_t h16) ?_
      rw [plM_pl]
      have hR2 := RS_pl hR (rnP f z p + 1)
      refine aw_aload_n (i := 0) dX4_readOne_19 rfl rfl ?_
      refine aw_cVi ck_X4_52 (m_X4_isDigit hR2 hz (by have := h16.1; omega)) sh_100 rfl (by decide) (by decide) rfl rfl (Nat.le_of_ble_eq_true rfl) dX4_readOne_20 ?_
      refine aw_ifne_b (tgt := 28) dX4_readOne_23 (by decide) (fun h23 => ?_) (fun h23 => ?_)
      ·
        refine aw_aload_n (i := 0) dX4_readOne_28 rfl rfl ?_
        refine aw_cVi ck_X4_55 (m_X4_passDigit hR2 hz (by have := h16.1; omega) h23.1) sh_100 rfl (by decide) (by decide) rfl rfl (Nat.le_of_ble_eq_true rfl) dX4_readOne_29 ?_
        rw [plM_pl]
        have hR3 := RS_pl hR (rnP f z p + 2)
        refine aw_istore_n (i := 2) dX4_readOne_32 rfl (by decide) ?_
        refine aw_aload_n (i := 0) dX4_readOne_33 rfl rfl ?_
        refine aw_cVi ck_X4_52 (m_X4_isDigit hR3 hz (by have := h23.1; omega)) sh_100 rfl (by decide) (by decide) rfl rfl (Nat.le_of_ble_eq_true rfl) dX4_readOne_34 ?_
        refine aw_ifeq_b (tgt := 50) dX4_readOne_37 (by decide) (fun h37 => ?_) (fun h37 => ?_)
        ·
          refine aw_aload_n (i := 0) dX4_readOne_50 rfl rfl ?_
          refine aw_getR gf_X4_9 sh_100 rfl dX4_readOne_51 ?_
          refine aw_iload_n (i := 1) dX4_readOne_54 rfl rfl ?_
          refine aw_top (pIf_t hn7) ?_
          refine aw_iload_n (i := 2) dX4_readOne_55 rfl rfl ?_
          refine aw_iastN sh_101 (by omega) (by omega) dX4_readOne_56 ?_
          refine aw_iconst (v := 1) dX4_readOne_57 (by decide) ?_
          exact aw_zret rfl (by simp) dX4_readOne_58 ⟨by rw [b01_t ⟨hn7, h16, h23⟩], by unfold oneM; rw [pIf_t ⟨hn7, h16, h23⟩]; unfold oneP oneV; first | rw [pIf_t ⟨hn7, h16⟩, pIf_t h23, pIf_t h37, pIf_t h37] | rw [pIf_t ⟨hn7, h16⟩, pIf_t h23, pIf_f h37, pIf_f h37]⟩
        ·
          refine aw_iload_n (i := 2) dX4_readOne_40 rfl rfl ?_
          refine aw_bipush (v := 10) dX4_readOne_41 (by decide) ?_
          refine aw_imul dX4_readOne_43 ?_
          refine aw_aload_n (i := 0) dX4_readOne_44 rfl rfl ?_
          refine aw_cVi ck_X4_55 (m_X4_passDigit hR3 hz (by have := h23.1; omega) h37.1) sh_100 rfl (by decide) (by decide) rfl rfl (Nat.le_of_ble_eq_true rfl) dX4_readOne_45 ?_
          rw [plM_pl]
          refine aw_iadd dX4_readOne_48 ?_
          refine aw_istore_n (i := 2) dX4_readOne_49 rfl (by decide) ?_
          refine aw_aload_n (i := 0) dX4_readOne_50 rfl rfl ?_
          refine aw_getR gf_X4_9 sh_100 rfl dX4_readOne_51 ?_
          refine aw_iload_n (i := 1) dX4_readOne_54 rfl rfl ?_
          refine aw_top (pIf_t hn7) ?_
          refine aw_iload_n (i := 2) dX4_readOne_55 rfl rfl ?_
          refine aw_iastN sh_101 (by omega) (by omega) dX4_readOne_56 ?_
          refine aw_iconst (v := 1) dX4_readOne_57 (by decide) ?_
          exact aw_zret rfl (by simp) dX4_readOne_58 ⟨by rw [b01_t ⟨hn7, h16, h23⟩], by unfold oneM; rw [pIf_t ⟨hn7, h16, h23⟩]; unfold oneP oneV; first | rw [pIf_t ⟨hn7, h16⟩, pIf_t h23, pIf_t h37, pIf_t h37] | rw [pIf_t ⟨hn7, h16⟩, pIf_t h23, pIf_f h37, pIf_f h37]⟩
      ·
        refine aw_iconst (v := 0) dX4_readOne_26 (by decide) ?_
        exact aw_zret rfl (by simp) dX4_readOne_27 ⟨by rw [b01_f (fun q => h23 q.2.2)], by unfold oneM; rw [pIf_f (fun q => h23 q.2.2)]; unfold oneP; rw [pIf_t ⟨hn7, h16⟩, pIf_f h23]⟩
abbrev LSt := Prop × (Nat → Int32) × Nat
noncomputable def oneN (f : Nat → Int32) (z : Nat) (N : Nat → Int32) (p : Nat) : Nat → Int32 := pIf (ok1 f z p) (upd N (nmI f z p) (oneV f z p)) N
noncomputable def stpL (f : Nat → Int32) (z : Nat) (σ : LSt) : LSt := pIf (nxP f z σ.2.2 0 59) (ok1 f z (σ.2.2 + 1), oneN f z σ.2.1 (σ.2.2 + 1), oneP f z (σ.2.2 + 1)) (False, σ.2.1, σ.2.2)
noncomputable def rdF (f : Nat → Int32) (z : Nat) : Nat → LSt → LSt
  | 0, σ => σ
  | k + 1, σ => pIf (σ.1 ∧ σ.2.2 < z) (rdF f z k (stpL f z σ)) σ
theorem rdF_step {f : Nat → Int32} {z k : Nat} {σ : LSt} (hk : 0 < k) (h : σ.1 ∧ σ.2.2 < z) : rdF f z k σ = rdF f z (k - 1) (stpL f z σ) := by
  match k, hk with
  | k + 1, _ => exact pIf_t h
theorem rdF_stop {f : Nat → Int32} {z k : Nat} {σ : LSt} (h : ¬ (σ.1 ∧ σ.2.2 < z)) : rdF f z k σ = σ := by
  match k with
  | 0 => rfl
  | k + 1 => exact pIf_f h
noncomputable def lawR (f : Nat → Int32) (z : Nat) (N : Nat → Int32) : LSt := rdF f z (z + 1) (ok1 f z 0, oneN f z N 0, oneP f z 0)
def rdM (B : Mm) (N : Nat → Int32) (p : Nat) : Mm := rI (plM B p) 101 N
theorem rdM_pl (B : Mm) (N : Nat → Int32) (p q : Nat) : plM (rdM B N p) q = rdM B N q := by
  have h : plM (rdM B N p) q = rI (rI (plM B p) 101 N) 100 (upd ((plM B p).1 100) 3 (nI q)) := rfl
  rw [h, rI_comm (by decide)]
  exact congrArg (fun X => rI X 101 N) (plM_pl B p q)
theorem rdM_one (f : Nat → Int32) (z p q : Nat) (B : Mm) (N : Nat → Int32) : oneM f z p (rdM B N q) = rdM B (oneN f z N p) (oneP f z p) := by
  unfold oneM oneN
  by_cases h : ok1 f z p
  · rw [pIf_t h, pIf_t h, rdM_pl]
    show rI (rdM B N (oneP f z p)) 101 (upd ((rdM B N (oneP f z p)).1 101) _ _) = _
    unfold rdM
    rw [rI_rI, rI_self]
  · rw [pIf_f h, pIf_f h, rdM_pl]
theorem RS_rd {B : Mm} {f : Nat → Int32} {z p : Nat} {N : Nat → Int32} (h1 : B.1 102 = f) (h2 : B.1 100 2 = nI z) : RS (rdM B N p) f z p := ⟨(rI_other (by decide)).trans ((plM_o (by decide)).trans h1), (congrFun (rI_other (by decide)) _).trans (by rw [plM, mI_self, upd_other (by decide)]; exact h2), (congrFun (rI_other (by decide)) _).trans (by rw [plM, mI_self, upd_self])⟩
def law0 (M : Mm) : Nat → Int32 := va_cpy lawsF (M.1 101) 0 0 7
noncomputable def signF (M : Mm) (k z : Nat) : Nat → Int32 := upto (M.1 102) (fun j => (M.2 (6 + k) j).toInt32) z
/-- the reader as the laws are to be read -/
noncomputable def rdB (M : Mm) (k z : Nat) : Mm := mI (rI (rI M 101 (law0 M)) 102 (signF M k z)) 100 2 (nI z)
theorem rdB_1 (M : Mm) (k z : Nat) : (rdB M k z).1 102 = signF M k z := (mI_other (by decide)).trans (rI_self _ _ _)
theorem rdB_2 (M : Mm) (k z : Nat) : (rdB M k z).1 100 2 = nI z := by unfold rdB; rw [mI_self, upd_self]
theorem rdB_0 (M : Mm) (k z : Nat) : mI (rdB M k z) 100 3 0 = rdM (rdB M k z) (law0 M) 0 := by
  have e : (plM (rdB M k z) 0).1 101 = law0 M := (plM_o (by decide)).trans ((mI_other (by decide)).trans ((rI_other (by decide)).trans (rI_self _ _ _)))
  have h : plM (rdB M k z) 0 = rI (plM (rdB M k z) 0) 101 ((plM (rdB M k z) 0).1 101) := (rI_id _ _).symm
  rw [e] at h
  exact h
theorem m_X4_readLaws {l : Launch} {M : Mm} {k z : Nat} (hk : k < 8) (hr : ¬ M.1 3 k < 100) (hz : z ≤ 100) (hs : M.1 4 k = nI z) : AMet l 8 yX4_readLaws cX4_readLaws 5 (some FieldType.int) [.ref 100, .ref 2, .int (nI k)] M (QE (some (.int (pIf (lawR (signF M k z) z (law0 M)).1 (-1) (nI (lawR (signF M k z) z (law0 M)).2.2)))) (rdM (rdB M k z) (lawR (signF M k z) z (law0 M)).2.1 (lawR (signF M k z) z (law0 M)).2.2)) := by
  refine AMet.of (by decide) (by simp [aargs, Value.category]) ?_
  show AW l 8 yX4_readLaws cX4_readLaws 5 (some FieldType.int) 0 [some (.ref 100), some (.ref 2), some (.int (nI k)), none, none] [] M _
  refine aw_getsL (host := "ClapTogether") (List.mem_append_right _ (List.mem_of_getElem? (i := 470) (by decide +kernel))) dX4_readLaws_0 ?_
  refine aw_iconst (v := 0) dX4_readLaws_3 (by decide) ?_
  refine aw_aload_n (i := 0) dX4_readLaws_4 rfl rfl ?_
  refine aw_getR gf_X4_9 sh_100 rfl dX4_readLaws_5 ?_
  refine aw_iconst (v := 0) dX4_readLaws_8 (by decide) ?_
  refine aw_bipush (v := 7) dX4_readLaws_9 (by decide) ?_
  refine aw_copyT (List.mem_append_right _ (List.mem_of_getElem? (i := 471) (by decide +kernel))) (List.mem_append_right _ (List.mem_of_getElem? (i := 146) (by decide +kernel))) (List.mem_append_right _ (List.mem_of_getElem? (i := 145) (by decide +kernel))) (List.mem_append_right _ (List.mem_of_getElem? (i := 6) (by decide +kernel))) sh_101 (by decide) (by decide) (Nat.le_of_ble_eq_true rfl) dX4_readLaws_11 ?_
  refine aw_aload_n (i := 0) dX4_readLaws_14 rfl rfl ?_
  refine aw_aload_n (i := 1) dX4_readLaws_15 rfl rfl ?_
  refine aw_iload_n (i := 2) dX4_readLaws_16 rfl rfl ?_
  refine aw_aload_n (i := 0) dX4_readLaws_17 rfl rfl ?_
  refine aw_getR gf_X4_15 sh_100 rfl dX4_readLaws_18 ?_
  refine aw_cVi ck_X4_34 (m_X6_giveInts hk (by rw [rI_other (by decide)]; exact hr) hz (by rw [rI_other (by decide)]; exact hs)) sh_2 rfl (by decide) (by decide) rfl rfl (Nat.le_of_ble_eq_true rfl) dX4_readLaws_21 ?_
  refine aw_putI pf_X4_18 sh_100 rfl dX4_readLaws_24 ?_
  refine aw_aload_n (i := 0) dX4_readLaws_27 rfl rfl ?_
  refine aw_iconst (v := 0) dX4_readLaws_28 (by decide) ?_
  refine aw_putI pf_X4_22 sh_100 rfl dX4_readLaws_29 ?_
  refine aw_mem (rdB_0 M k z) ?_
  refine aw_aload_n (i := 0) dX4_readLaws_32 rfl rfl ?_
  refine aw_cVi ck_X4_40 (m_X4_readOne (RS_rd (rdB_1 M k z) (rdB_2 M k z)) hz (Nat.zero_le _)) sh_100 rfl (by decide) (by decide) rfl rfl (Nat.le_of_ble_eq_true rfl) dX4_readLaws_33 ?_
  rw [rdM_one]
  refine aw_istore_n (i := 3) dX4_readLaws_36 rfl (by decide) ?_
  refine aw_iconst (v := 0) dX4_readLaws_37 (by decide) ?_
  refine aw_istore (i := 4) dX4_readLaws_38 (by decide) ?_
  have lp40 : ∀ (k9 u : Nat) (s : Prop) (N : Nat → Int32) (p : Nat), p ≤ z → u ≤ 100 → (s → u ≤ p) → (s → z - p < k9) → rdF (signF M k z) z k9 (s, N, p) = (lawR (signF M k z) z (law0 M)) → AW l 8 yX4_readLaws cX4_readLaws 5 (some FieldType.int) 40 [some (.ref 100), some (.ref 2), some (.int (nI k)), some (.int (b01 s)), some (.int (nI u))] [] (rdM (rdB M k z) N p) (QE (some (.int (pIf (lawR (signF M k z) z (law0 M)).1 (-1) (nI (lawR (signF M k z) z (law0 M)).2.2)))) (rdM (rdB M k z) (lawR (signF M k z) z (law0 M)).2.1 (lawR (signF M k z) z (law0 M)).2.2)) := by
    intro k9
    induction k9 using Nat.strongRecOn with
    | _ k9 ih =>
    intro u s N p hple hu hup hlt hF
    refine aw_iload (i := 4) dX4_readLaws_40 rfl ?_
    refine aw_bipush (v := 100) dX4_readLaws_42 (by decide) ?_
    refine aw_top (show (100 : Int32) = nI 100 from rfl) ?_
    refine aw_icmp_geN (tgt := 90) (by omega) (by omega) dX4_readLaws_44 (by decide) (fun h44 => ?_) (fun h44 => ?_)
    ·
      refine aw_iload_n (i := 3) dX4_readLaws_90 rfl rfl ?_
      refine aw_ifeq_b (tgt := 98) dX4_readLaws_91 (by decide) (fun h91 => ?_) (fun h91 => ?_)
      ·
        refine aw_aload_n (i := 0) dX4_readLaws_98 rfl rfl ?_
        refine aw_getN (n := p) gf_X4_22 sh_100 rfl (RS_rd (rdB_1 M k z) (rdB_2 M k z)).2.2 dX4_readLaws_99 ?_
        exact aw_iret rfl dX4_readLaws_102 ⟨by rw [← hF, rdF_stop (z := z) (σ := (s, N, p)) (fun q => by first | exact h48 q.1 | exact h59 q.2 | (have h8 : p < z := q.2; first | omega | (have h7 := hup q.1; omega)))]; first | exact absurd h91 h48 | exact absurd h48 h91 | rw [pIf_f h91] | rw [pIf_t h91], by rw [← hF, rdF_stop (z := z) (σ := (s, N, p)) (fun q => by first | exact h48 q.1 | exact h59 q.2 | (have h8 : p < z := q.2; first | omega | (have h7 := hup q.1; omega)))]⟩
      ·
        refine aw_iconst (v := (-1)) dX4_readLaws_94 (by decide) ?_
        refine aw_goto (tgt := 102) dX4_readLaws_95 (by decide) ?_
        exact aw_iret rfl dX4_readLaws_102 ⟨by rw [← hF, rdF_stop (z := z) (σ := (s, N, p)) (fun q => by first | exact h48 q.1 | exact h59 q.2 | (have h8 : p < z := q.2; first | omega | (have h7 := hup q.1; omega)))]; first | exact absurd h91 h48 | exact absurd h48 h91 | rw [pIf_f h91] | rw [pIf_t h91], by rw [← hF, rdF_stop (z := z) (σ := (s, N, p)) (fun q => by first | exact h48 q.1 | exact h59 q.2 | (have h8 : p < z := q.2; first | omega | (have h7 := hup q.1; omega)))]⟩
    ·
      refine aw_iload_n (i := 3) dX4_readLaws_47 rfl rfl ?_
      refine aw_ifeq_b (tgt := 90) dX4_readLaws_48 (by decide) (fun h48 => ?_) (fun h48 => ?_)
      ·
        refine aw_iload_n (i := 3) dX4_readLaws_90 rfl rfl ?_
        refine aw_ifeq_b (tgt := 98) dX4_readLaws_91 (by decide) (fun h91 => ?_) (fun h91 => ?_)
        ·
          refine aw_aload_n (i := 0) dX4_readLaws_98 rfl rfl ?_
          refine aw_getN (n := p) gf_X4_22 sh_100 rfl (RS_rd (rdB_1 M k z) (rdB_2 M k z)).2.2 dX4_readLaws_99 ?_
          exact aw_iret rfl dX4_readLaws_102 ⟨by rw [← hF, rdF_stop (z := z) (σ := (s, N, p)) (fun q => by first | exact h48 q.1 | exact h59 q.2 | (have h8 : p < z := q.2; first | omega | (have h7 := hup q.1; omega)))]; first | exact absurd h91 h48 | exact absurd h48 h91 | rw [pIf_f h91] | rw [pIf_t h91], by rw [← hF, rdF_stop (z := z) (σ := (s, N, p)) (fun q => by first | exact h48 q.1 | exact h59 q.2 | (have h8 : p < z := q.2; first | omega | (have h7 := hup q.1; omega)))]⟩
        ·
          refine aw_iconst (v := (-1)) dX4_readLaws_94 (by decide) ?_
          refine aw_goto (tgt := 102) dX4_readLaws_95 (by decide) ?_
          exact aw_iret rfl dX4_readLaws_102 ⟨by rw [← hF, rdF_stop (z := z) (σ := (s, N, p)) (fun q => by first | exact h48 q.1 | exact h59 q.2 | (have h8 : p < z := q.2; first | omega | (have h7 := hup q.1; omega)))]; first | exact absurd h91 h48 | exact absurd h48 h91 | rw [pIf_f h91] | rw [pIf_t h91], by rw [← hF, rdF_stop (z := z) (σ := (s, N, p)) (fun q => by first | exact h48 q.1 | exact h59 q.2 | (have h8 : p < z := q.2; first | omega | (have h7 := hup q.1; omega)))]⟩
      ·
        refine aw_aload_n (i := 0) dX4_readLaws_51 rfl rfl ?_
        refine aw_getN (n := p) gf_X4_22 sh_100 rfl (RS_rd (rdB_1 M k z) (rdB_2 M k z)).2.2 dX4_readLaws_52 ?_
        refine aw_aload_n (i := 0) dX4_readLaws_55 rfl rfl ?_
        refine aw_getN (n := z) gf_X4_18 sh_100 rfl (RS_rd (rdB_1 M k z) (rdB_2 M k z)).2.1 dX4_readLaws_56 ?_
        refine aw_icmp_geN (tgt := 90) (by omega) (by omega) dX4_readLaws_59 (by decide) (fun h59 => ?_) (fun h59 => ?_)
        ·
          refine aw_iload_n (i := 3) dX4_readLaws_90 rfl rfl ?_
          refine aw_ifeq_b (tgt := 98) dX4_readLaws_91 (by decide) (fun h91 => ?_) (fun h91 => ?_)
          ·
            refine aw_aload_n (i := 0) dX4_readLaws_98 rfl rfl ?_
            refine aw_getN (n := p) gf_X4_22 sh_100 rfl (RS_rd (rdB_1 M k z) (rdB_2 M k z)).2.2 dX4_readLaws_99 ?_
            exact aw_iret rfl dX4_readLaws_102 ⟨by rw [← hF, rdF_stop (z := z) (σ := (s, N, p)) (fun q => by first | exact h48 q.1 | exact h59 q.2 | (have h8 : p < z := q.2; first | omega | (have h7 := hup q.1; omega)))]; first | exact absurd h91 h48 | exact absurd h48 h91 | rw [pIf_f h91] | rw [pIf_t h91], by rw [← hF, rdF_stop (z := z) (σ := (s, N, p)) (fun q => by first | exact h48 q.1 | exact h59 q.2 | (have h8 : p < z := q.2; first | omega | (have h7 := hup q.1; omega)))]⟩
          ·
            refine aw_iconst (v := (-1)) dX4_readLaws_94 (by decide) ?_
            refine aw_goto (tgt := 102) dX4_readLaws_95 (by decide) ?_
            exact aw_iret rfl dX4_readLaws_102 ⟨by rw [← hF, rdF_stop (z := z) (σ := (s, N, p)) (fun q => by first | exact h48 q.1 | exact h59 q.2 | (have h8 : p < z := q.2; first | omega | (have h7 := hup q.1; omega)))]; first | exact absurd h91 h48 | exact absurd h48 h91 | rw [pIf_f h91] | rw [pIf_t h91], by rw [← hF, rdF_stop (z := z) (σ := (s, N, p)) (fun q => by first | exact h48 q.1 | exact h59 q.2 | (have h8 : p < z := q.2; first | omega | (have h7 := hup q.1; omega)))]⟩
        ·
          refine aw_aload_n (i := 0) dX4_readLaws_62 rfl rfl ?_
          refine aw_bipush (v := 59) dX4_readLaws_63 (by decide) ?_
          refine aw_cVi ck_X4_44 (m_X4_pass (RS_rd (rdB_1 M k z) (rdB_2 M k z)) hz hple) sh_100 rfl (by decide) (by decide) rfl rfl (Nat.le_of_ble_eq_true rfl) dX4_readLaws_65 ?_
          refine aw_ifeq_b (tgt := 82) dX4_readLaws_68 (by decide) (fun h68 => ?_) (fun h68 => ?_)
          ·
            refine aw_mem (pIf_f h68) ?_
            refine aw_iconst (v := 0) dX4_readLaws_82 (by decide) ?_
            refine aw_istore_n (i := 3) dX4_readLaws_83 rfl (by decide) ?_
            refine aw_iincN (i := 4) dX4_readLaws_84 rfl (by decide) ?_
            refine aw_goto (tgt := 40) dX4_readLaws_87 (by decide) ?_
            have hF9 := hF
            rw [rdF_step (by have := hlt h48; omega) ⟨h48, by omega⟩, stpL, pIf_f h68] at hF9
            refine aw_loc (la := [some (.ref 100), some (.ref 2), some (.int (nI k)), some (.int (b01 False)), some (.int (nI (u + 1)))]) ⟨rfl, rfl, rfl, congrArg (fun x => some (Value.int x)) (b01_f id).symm, rfl, trivial⟩ ?_
            exact ih (k9 - 1) (by have := hlt h48; omega) (u + 1) False N p hple (by omega) (fun q => q.elim) (fun q => q.elim) hF9
          ·
            refine aw_mem (pIf_t h68) ?_
            rw [rdM_pl]
            refine aw_aload_n (i := 0) dX4_readLaws_71 rfl rfl ?_
            refine aw_cVi ck_X4_40 (m_X4_readOne (RS_rd (rdB_1 M k z) (rdB_2 M k z)) hz (by have := h68.1; omega)) sh_100 rfl (by decide) (by decide) rfl rfl (Nat.le_of_ble_eq_true rfl) dX4_readLaws_72 ?_
            rw [rdM_one]
            have hq1 := oneP_le (f := signF M k z) (z := z) (p := p + 1) (by have := h68.1; omega)
            refine aw_ifeq_b (tgt := 82) dX4_readLaws_75 (by decide) (fun h75 => ?_) (fun h75 => ?_)
            ·
              refine aw_iconst (v := 0) dX4_readLaws_82 (by decide) ?_
              refine aw_istore_n (i := 3) dX4_readLaws_83 rfl (by decide) ?_
              refine aw_iincN (i := 4) dX4_readLaws_84 rfl (by decide) ?_
              refine aw_goto (tgt := 40) dX4_readLaws_87 (by decide) ?_
              have hF9 := hF
              rw [rdF_step (by have := hlt h48; omega) ⟨h48, by omega⟩, stpL, pIf_t h68] at hF9
              refine aw_loc (la := [some (.ref 100), some (.ref 2), some (.int (nI k)), some (.int (b01 (ok1 (signF M k z) z (p + 1)))), some (.int (nI (u + 1)))]) ⟨rfl, rfl, rfl, congrArg (fun x => some (Value.int x)) (b01_f h75).symm, rfl, trivial⟩ ?_
              exact ih (k9 - 1) (by have := hlt h48; omega) (u + 1) _ _ _ hq1.2 (by omega) (fun _ => by have := hup h48; have := hq1.1; omega) (fun _ => by have := hlt h48; omega) hF9
            ·
              refine aw_iconst (v := 1) dX4_readLaws_78 (by decide) ?_
              refine aw_goto (tgt := 83) dX4_readLaws_79 (by decide) ?_
              refine aw_istore_n (i := 3) dX4_readLaws_83 rfl (by decide) ?_
              refine aw_iincN (i := 4) dX4_readLaws_84 rfl (by decide) ?_
              refine aw_goto (tgt := 40) dX4_readLaws_87 (by decide) ?_
              have hF9 := hF
              rw [rdF_step (by have := hlt h48; omega) ⟨h48, by omega⟩, stpL, pIf_t h68] at hF9
              refine aw_loc (la := [some (.ref 100), some (.ref 2), some (.int (nI k)), some (.int (b01 (ok1 (signF M k z) z (p + 1)))), some (.int (nI (u + 1)))]) ⟨rfl, rfl, rfl, congrArg (fun x => some (Value.int x)) (b01_t h75).symm, rfl, trivial⟩ ?_
              exact ih (k9 - 1) (by have := hlt h48; omega) (u + 1) _ _ _ hq1.2 (by omega) (fun _ => by have := hup h48; have := hq1.1; omega) (fun _ => by have := hlt h48; omega) hF9
  refine aw_loc (la := [some (.ref 100), some (.ref 2), some (.int (nI k)), some (.int (b01 (ok1 (signF M k z) z 0))), some (.int (nI 0))]) ⟨rfl, rfl, rfl, rfl, rfl, trivial⟩ ?_
  exact lp40 (z + 1) 0 _ _ _ (oneP_le (Nat.zero_le _)).2 (by omega) (fun _ => Nat.zero_le _) (fun _ => by omega) rfl
