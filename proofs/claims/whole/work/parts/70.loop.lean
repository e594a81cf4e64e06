/-! the law's loop -/
section LL
variable {l : Launch} {L : Nat} {xs : Nat → Int32}
theorem sw63 (x : Int32) : ∃ k, k < 64 ∧ x &&& 63 = nI k := by
  refine ⟨((x &&& 63).toBitVec).toNat, ?_, ?_⟩
  · show (x.toBitVec &&& 63#32).toNat < 64
    rw [BitVec.toNat_and]
    exact Nat.lt_of_le_of_lt Nat.and_le_right (by decide)
  · apply Int32.toBitVec_inj.mp
    show (x &&& 63).toBitVec = BitVec.ofNat 32 _
    apply BitVec.eq_of_toNat_eq
    rw [BitVec.toNat_ofNat, Nat.mod_eq_of_lt ((x &&& 63).toBitVec.isLt)]
theorem law_cases {i n cnt mc : Nat} {M : Mm} (hL : L ≤ 3072) (hi : i + 6 ≤ L) (h : J n cnt mc M M) (kk : ∀ M2, Jx M2 M2 → LW l L xs 1543 (lwLs i) [] M2) : ∀ k, k < 44 → LW l L xs (([224, 267, 340, 403, 437, 470, 493, 526, 589, 632, 665, 698, 741, 790, 813, 826, 859, 882, 905, 928, 951, 964, 987, 1010, 1033, 1046, 1059, 1092, 1125, 1168, 1191, 1214, 1237, 1260, 1283, 1306, 1339, 1382, 1405, 1428, 1471, 1494, 1507, 1520] : List Nat).getD k 0) (lwLs i) [] M
  | 0, _ => lc_row hL hi h kk
  | 1, _ => lc_set hL hi h kk
  | 2, _ => lc_copy hL hi h kk
  | 3, _ => lc_element hL hi h kk
  | 4, _ => lc_show hL hi h kk
  | 5, _ => lc_holds hL hi h kk
  | 6, _ => lc_says hL hi h kk
  | 7, _ => lc_person hL hi h kk
  | 8, _ => lc_people hL hi h kk
  | 9, _ => lc_personOf hL hi h kk
  | 10, _ => lc_move hL hi h kk
  | 11, _ => lc_alter hL hi h kk
  | 12, _ => lc_glove hL hi h kk
  | 13, _ => lc_laws hL hi h kk
  | 14, _ => lc_fault hL hi h kk
  | 15, _ => lc_law hL hi h kk
  | 16, _ => lc_force hL hi h kk
  | 17, _ => lc_seed hL hi h kk
  | 18, _ => lc_tick hL hi h kk
  | 19, _ => lc_begin hL hi h kk
  | 20, _ => lc_hush hL hi h kk
  | 21, _ => lc_heard hL hi h kk
  | 22, _ => lc_beside hL hi h kk
  | 23, _ => lc_many hL hi h kk
  | 24, _ => lc_hits hL hi h kk
  | 25, _ => lc_step hL hi h kk
  | 26, _ => lc_length hL hi h kk
  | 27, _ => lc_joined hL hi h kk
  | 28, _ => lc_tally hL hi h kk
  | 29, _ => lc_grows hL hi h kk
  | 30, _ => lc_few hL hi h kk
  | 31, _ => lc_front hL hi h kk
  | 32, _ => lc_micro hL hi h kk
  | 33, _ => lc_sum hL hi h kk
  | 34, _ => lc_gloved hL hi h kk
  | 35, _ => lc_fit hL hi h kk
  | 36, _ => lc_part hL hi h kk
  | 37, _ => lc_spread hL hi h kk
  | 38, _ => lc_judge hL hi h kk
  | 39, _ => lc_act hL hi h kk
  | 40, _ => lc_trace hL hi h kk
  | 41, _ => lc_image hL hi h kk
  | 42, _ => lc_restore hL hi h kk
  | 43, _ => lc_status hL hi h kk
  | k + 44, hk => absurd hk (by omega)
theorem offs_ok : ∀ k, k < 44 → ∃ off, (#[191, 234, 307, 370, 404, 437, 460, 493, 556, 599, 632, 665, 708, 757, 780, 793, 826, 849, 872, 895, 918, 931, 954, 977, 1000, 1013, 1026, 1059, 1092, 1135, 1158, 1181, 1204, 1227, 1250, 1273, 1306, 1349, 1372, 1395, 1438, 1461, 1474, 1487] : Array Int)[k]? = some off ∧ ((33 : Nat) : Int) + off = ((([224, 267, 340, 403, 437, 470, 493, 526, 589, 632, 665, 698, 741, 790, 813, 826, 859, 882, 905, 928, 951, 964, 987, 1010, 1033, 1046, 1059, 1092, 1125, 1168, 1191, 1214, 1237, 1260, 1283, 1306, 1339, 1382, 1405, 1428, 1471, 1494, 1507, 1520] : List Nat).getD k 0 : Nat) : Int)
  | 0, _ => ⟨191, rfl, rfl⟩
  | 1, _ => ⟨234, rfl, rfl⟩
  | 2, _ => ⟨307, rfl, rfl⟩
  | 3, _ => ⟨370, rfl, rfl⟩
  | 4, _ => ⟨404, rfl, rfl⟩
  | 5, _ => ⟨437, rfl, rfl⟩
  | 6, _ => ⟨460, rfl, rfl⟩
  | 7, _ => ⟨493, rfl, rfl⟩
  | 8, _ => ⟨556, rfl, rfl⟩
  | 9, _ => ⟨599, rfl, rfl⟩
  | 10, _ => ⟨632, rfl, rfl⟩
  | 11, _ => ⟨665, rfl, rfl⟩
  | 12, _ => ⟨708, rfl, rfl⟩
  | 13, _ => ⟨757, rfl, rfl⟩
  | 14, _ => ⟨780, rfl, rfl⟩
  | 15, _ => ⟨793, rfl, rfl⟩
  | 16, _ => ⟨826, rfl, rfl⟩
  | 17, _ => ⟨849, rfl, rfl⟩
  | 18, _ => ⟨872, rfl, rfl⟩
  | 19, _ => ⟨895, rfl, rfl⟩
  | 20, _ => ⟨918, rfl, rfl⟩
  | 21, _ => ⟨931, rfl, rfl⟩
  | 22, _ => ⟨954, rfl, rfl⟩
  | 23, _ => ⟨977, rfl, rfl⟩
  | 24, _ => ⟨1000, rfl, rfl⟩
  | 25, _ => ⟨1013, rfl, rfl⟩
  | 26, _ => ⟨1026, rfl, rfl⟩
  | 27, _ => ⟨1059, rfl, rfl⟩
  | 28, _ => ⟨1092, rfl, rfl⟩
  | 29, _ => ⟨1135, rfl, rfl⟩
  | 30, _ => ⟨1158, rfl, rfl⟩
  | 31, _ => ⟨1181, rfl, rfl⟩
  | 32, _ => ⟨1204, rfl, rfl⟩
  | 33, _ => ⟨1227, rfl, rfl⟩
  | 34, _ => ⟨1250, rfl, rfl⟩
  | 35, _ => ⟨1273, rfl, rfl⟩
  | 36, _ => ⟨1306, rfl, rfl⟩
  | 37, _ => ⟨1349, rfl, rfl⟩
  | 38, _ => ⟨1372, rfl, rfl⟩
  | 39, _ => ⟨1395, rfl, rfl⟩
  | 40, _ => ⟨1438, rfl, rfl⟩
  | 41, _ => ⟨1461, rfl, rfl⟩
  | 42, _ => ⟨1474, rfl, rfl⟩
  | 43, _ => ⟨1487, rfl, rfl⟩
  | k + 44, hk => absurd hk (by omega)
theorem law_loop (hL : L ≤ 3072) : ∀ f i M, L ≤ i + f → i ≤ L + 6 → Jx M M → LW l L xs 18 (lwLs i) [] M := by
  intro f
  induction f using Nat.strongRecOn with
  | _ f ih =>
  intro i M hf hi h
  refine lj_iload_n (i := 3) dL_law_18 rfl rfl ?_
  refine lj_aload_n (i := 0) dL_law_19 rfl rfl ?_
  refine lj_slen dL_law_20 ?_
  refine lj_bipush (v := 6) dL_law_21 (by decide) ?_
  refine lj_isub dL_law_23 ?_
  have e6 : (nI L - 6).toInt = (L : Int) - 6 := by
    rw [Int32.toInt_sub, nI_toInt (by omega), show (6 : Int32).toInt = 6 from by decide]
    exact Int.bmod_eq_of_le (by omega) (by omega)
  have ei := nI_toInt (n := i) (by omega)
  refine lj_icmp_gt (tgt := 1549) dL_law_24 (by decide) (fun c => ?_) (fun c => ?_)
  · refine lj_iconst (v := 1) dL_law_1549 (by decide) ?_
    exact lj_end dL_law_1550
  · have hi6 : i + 6 ≤ L := by
      rw [i32_lt, e6, ei] at c
      omega
    refine lj_aload_n (i := 0) dL_law_27 rfl rfl ?_
    refine lj_iload_n (i := 3) dL_law_28 rfl rfl ?_
    refine lj_sld (vp_inN (by omega) (by omega)) dL_law_29 ?_
    refine lj_bipush (v := 63) dL_law_30 (by decide) ?_
    refine lj_iand dL_law_32 ?_
    obtain ⟨k, hk, ek⟩ := sw63 (xs (nI i).toNatClampNeg)
    rw [ek]
    have hk9 := nI_toInt (n := k) (by omega)
    have kk : ∀ M2, Jx M2 M2 → LW l L xs 1543 (lwLs i) [] M2 := fun M2 h2 => by
      refine lj_iinc (i := 3) (v := nI (i + 6)) dL_law_1543 rfl (nI_add i 6) (by decide) ?_
      refine lj_goto (tgt := 18) dL_law_1546 (by decide) ?_
      exact ih (f - 6) (by omega) (i + 6) M2 (by omega) (by omega) h2
    by_cases c44 : k < 44
    · obtain ⟨off, o1, o2⟩ := offs_ok k c44
      obtain ⟨n, cnt, mc, hj⟩ := h
      refine lj_tableIn (off := off) dL_law_33 (by rw [hk9]; omega) (by rw [hk9]; omega) (by rw [hk9, show ((k : Int) - 0).toNat = k by omega]; exact o1) o2 ?_
      exact law_cases hL hi6 hj kk k c44
    · refine lj_tableOut (tgt := 1543) dL_law_33 (Or.inr (by rw [hk9]; omega)) (by decide) ?_
      exact kk M h
end LL
