def bodM (b : Int32) (r : Nat) (M : Mm) : Mm := mI (mI M 139 r b) 105 54 (nI (r + 1))
theorem bodM_r {b : Int32} {r : Nat} {M : Mm} : (bodM b r M).1 105 54 = nI (r + 1) := by unfold bodM; rw [mI_self, upd_self]
theorem bodM_o {b : Int32} {r k : Nat} {M : Mm} (h : k ≠ 105 ∧ k ≠ 139) : (bodM b r M).1 k = M.1 k := by unfold bodM; rw [mI_other h.1, mI_other h.2]
def tr8 : Nat → List Int32 → Mm → Mm
  | _, [], M => M
  | r, b :: T, M => tr8 (r + 1) T (bodM b r M)
theorem tr8_r : ∀ (T : List Int32) (r : Nat) (M : Mm), M.1 105 54 = nI r → (tr8 r T M).1 105 54 = nI (r + T.length)
  | [], r, M, h => h
  | b :: T, r, M, _ => (tr8_r T (r + 1) (bodM b r M) bodM_r).trans (congrArg nI (show r + 1 + T.length = r + (T.length + 1) by omega))
theorem tr8_o {k : Nat} (hk : k ≠ 105 ∧ k ≠ 139) : ∀ (T : List Int32) (r : Nat) (M : Mm), (tr8 r T M).1 k = M.1 k
  | [], _, _ => rfl
  | b :: T, r, M => (tr8_o hk T (r + 1) (bodM b r M)).trans (bodM_o hk)
def heaR (kk : Nat) (m pc x : Int32) : Int32 × List Int32 := match kk with
  | 2 => ((x + m) * 3, [30, 10])
  | 3 => ((x + 1 + m) * 3, [40, 30, 10])
  | 4 => ((x + m) * 3, [30, 10])
  | 5 => ((x + m) * 3, [30, 10])
  | 6 => (x - pc + m, [71, 10])
  | _ => (x + m, [10])
theorem m_X8_body {l : Launch} {M : Mm} {b : Int32} {r : Nat} (hr : M.1 105 54 = nI r) (h20 : r < 20) : AMet l 1 yX8_body cX8_body 2 none [.ref 105, .int b] M (QE none (bodM b r M)) := by
  refine AMet.of (by decide) (by simp [aargs, Value.category]) ?_
  show AW l 1 yX8_body cX8_body 2 none 0 [some (.ref 105), some (.int b)] [] M _
  refine aw_aload_n (i := 0) dX8_body_0 rfl rfl ?_
  refine aw_getN (n := r) gf_X8_303 sh_105 rfl hr dX8_body_1 ?_
  refine aw_bipush (v := 20) dX8_body_4 (by decide) ?_
  refine aw_top (show (20 : Int32) = nI 20 from rfl) ?_
  refine aw_icmp_geN (tgt := 19) (by omega) (by omega) dX8_body_6 (by decide) (fun h6 => ?_) (fun h6 => ?_)
  ·
    exact absurd h6 (by omega)
  ·
    refine aw_aload_n (i := 0) dX8_body_9 rfl rfl ?_
    refine aw_getR gf_X8_123 sh_105 rfl dX8_body_10 ?_
    refine aw_aload_n (i := 0) dX8_body_13 rfl rfl ?_
    refine aw_getN (n := r) gf_X8_303 sh_105 rfl hr dX8_body_14 ?_
    refine aw_iload_n (i := 1) dX8_body_17 rfl rfl ?_
    refine aw_iastN sh_139 (by omega) (by omega) dX8_body_18 ?_
    refine aw_aload_n (i := 0) dX8_body_19 rfl rfl ?_
    refine aw_dup dX8_body_20 rfl ?_
    refine aw_getN (n := r) gf_X8_303 sh_105 rfl ((congrFun (mI_other (by decide)) _).trans hr) dX8_body_21 ?_
    refine aw_iconst (v := 1) dX8_body_24 (by decide) ?_
    refine aw_iadd dX8_body_25 ?_
    refine aw_top ((nI_succ r).symm) ?_
    refine aw_putI pf_X8_303 sh_105 rfl dX8_body_26 ?_
    exact aw_vret rfl dX8_body_29 ⟨rfl, rfl⟩
theorem m_X8_hears {l : Launch} {M : Mm} {p kk r : Nat} {x : Int32} (hp : p < 30) (hkk : kk < 7) (hk : M.1 107 p = nI kk) (hr : M.1 105 54 = nI r) (h20 : r + 3 ≤ 20) : AMet l 2 yX8_hears cX8_hears 6 (some FieldType.int) [.ref 105, .int (nI p), .int x] M (QE (some (.int (heaR kk (nI p) (M.1 110 p) x).1)) (tr8 r (heaR kk (nI p) (M.1 110 p) x).2 M)) := by
  refine AMet.of (by decide) (by simp [aargs, Value.category]) ?_
  show AW l 2 yX8_hears cX8_hears 6 (some FieldType.int) 0 [some (.ref 105), some (.int (nI p)), some (.int x), none, none, none] [] M _
  refine aw_aload_n (i := 0) dX8_hears_0 rfl rfl ?_
  refine aw_getR gf_X8_23 sh_105 rfl dX8_hears_1 ?_
  refine aw_iload_n (i := 1) dX8_hears_4 rfl rfl ?_
  refine aw_ialdX sh_107 (by omega) (by decide) hk dX8_hears_5 ?_
  rcases (show kk = 0 ∨ kk = 1 ∨ kk = 2 ∨ kk = 3 ∨ kk = 4 ∨ kk = 5 ∨ kk = 6 by omega) with rfl | rfl | rfl | rfl | rfl | rfl | rfl
  ·
    refine aw_istore_n (i := 3) dX8_hears_6 rfl (by decide) ?_
    refine aw_iload_n (i := 2) dX8_hears_7 rfl rfl ?_
    refine aw_istore (i := 4) dX8_hears_8 (by decide) ?_
    refine aw_iload_n (i := 3) dX8_hears_10 rfl rfl ?_
    refine aw_iconst (v := 2) dX8_hears_11 (by decide) ?_
    refine aw_icmp_lt (tgt := 24) dX8_hears_12 (by decide) (fun h12 => ?_) (fun h12 => ?_)
    ·
      refine aw_iconst (v := 0) dX8_hears_24 (by decide) ?_
      refine aw_istore (i := 5) dX8_hears_25 (by decide) ?_
      refine aw_iload_n (i := 3) dX8_hears_27 rfl rfl ?_
      refine aw_iconst (v := 3) dX8_hears_28 (by decide) ?_
      refine aw_icmp_ne (tgt := 43) dX8_hears_29 (by decide) (fun h29 => ?_) (fun h29 => ?_)
      ·
        refine aw_iload_n (i := 3) dX8_hears_43 rfl rfl ?_
        refine aw_bipush (v := 6) dX8_hears_44 (by decide) ?_
        refine aw_icmp_ne (tgt := 65) dX8_hears_46 (by decide) (fun h46 => ?_) (fun h46 => ?_)
        ·
          refine aw_iload (i := 5) dX8_hears_65 rfl ?_
          refine aw_if_eq (tgt := 76) dX8_hears_67 (by decide) (fun h67 => ?_) (fun h67 => ?_)
          ·
            refine aw_aload_n (i := 0) dX8_hears_76 rfl rfl ?_
            refine aw_bipush (v := 10) dX8_hears_77 (by decide) ?_
            refine aw_cVv ck_X8_306 (m_X8_body hr (by omega)) sh_105 rfl (by decide) (by decide) rfl rfl (Nat.le_of_ble_eq_true rfl) dX8_hears_79 ?_
            refine aw_iload (i := 5) dX8_hears_82 rfl ?_
            refine aw_if_eq (tgt := 96) dX8_hears_84 (by decide) (fun h84 => ?_) (fun h84 => ?_)
            ·
              refine aw_iload (i := 4) dX8_hears_96 rfl ?_
              refine aw_iload_n (i := 1) dX8_hears_98 rfl rfl ?_
              refine aw_iadd dX8_hears_99 ?_
              exact aw_iret rfl dX8_hears_100 ⟨rfl, rfl⟩
            ·
              exact absurd h84 (by decide)
          ·
            exact absurd h67 (by decide)
        ·
          exact absurd h46 (by decide)
      ·
        exact absurd h29 (by decide)
    ·
      exact absurd h12 (by decide)
  ·
    refine aw_istore_n (i := 3) dX8_hears_6 rfl (by decide) ?_
    refine aw_iload_n (i := 2) dX8_hears_7 rfl rfl ?_
    refine aw_istore (i := 4) dX8_hears_8 (by decide) ?_
    refine aw_iload_n (i := 3) dX8_hears_10 rfl rfl ?_
    refine aw_iconst (v := 2) dX8_hears_11 (by decide) ?_
    refine aw_icmp_lt (tgt := 24) dX8_hears_12 (by decide) (fun h12 => ?_) (fun h12 => ?_)
    ·
      refine aw_iconst (v := 0) dX8_hears_24 (by decide) ?_
      refine aw_istore (i := 5) dX8_hears_25 (by decide) ?_
      refine aw_iload_n (i := 3) dX8_hears_27 rfl rfl ?_
      refine aw_iconst (v := 3) dX8_hears_28 (by decide) ?_
      refine aw_icmp_ne (tgt := 43) dX8_hears_29 (by decide) (fun h29 => ?_) (fun h29 => ?_)
      ·
        refine aw_iload_n (i := 3) dX8_hears_43 rfl rfl ?_
        refine aw_bipush (v := 6) dX8_hears_44 (by decide) ?_
        refine aw_icmp_ne (tgt := 65) dX8_hears_46 (by decide) (fun h46 => ?_) (fun h46 => ?_)
        ·
          refine aw_iload (i := 5) dX8_hears_65 rfl ?_
          refine aw_if_eq (tgt := 76) dX8_hears_67 (by decide) (fun h67 => ?_) (fun h67 => ?_)
          ·
            refine aw_aload_n (i := 0) dX8_hears_76 rfl rfl ?_
            refine aw_bipush (v := 10) dX8_hears_77 (by decide) ?_
            refine aw_cVv ck_X8_306 (m_X8_body hr (by omega)) sh_105 rfl (by decide) (by decide) rfl rfl (Nat.le_of_ble_eq_true rfl) dX8_hears_79 ?_
            refine aw_iload (i := 5) dX8_hears_82 rfl ?_
            refine aw_if_eq (tgt := 96) dX8_hears_84 (by decide) (fun h84 => ?_) (fun h84 => ?_)
            ·
              refine aw_iload (i := 4) dX8_hears_96 rfl ?_
              refine aw_iload_n (i := 1) dX8_hears_98 rfl rfl ?_
              refine aw_iadd dX8_hears_99 ?_
              exact aw_iret rfl dX8_hears_100 ⟨rfl, rfl⟩
            ·
              exact absurd h84 (by decide)
          ·
            exact absurd h67 (by decide)
        ·
          exact absurd h46 (by decide)
      ·
        exact absurd h29 (by decide)
    ·
      exact absurd h12 (by decide)
  ·
    refine aw_istore_n (i := 3) dX8_hears_6 rfl (by decide) ?_
    refine aw_iload_n (i := 2) dX8_hears_7 rfl rfl ?_
    refine aw_istore (i := 4) dX8_hears_8 (by decide) ?_
    refine aw_iload_n (i := 3) dX8_hears_10 rfl rfl ?_
    refine aw_iconst (v := 2) dX8_hears_11 (by decide) ?_
    refine aw_icmp_lt (tgt := 24) dX8_hears_12 (by decide) (fun h12 => ?_) (fun h12 => ?_)
    ·
      exact absurd h12 (by decide)
    ·
      refine aw_iload_n (i := 3) dX8_hears_15 rfl rfl ?_
      refine aw_iconst (v := 5) dX8_hears_16 (by decide) ?_
      refine aw_icmp_gt (tgt := 24) dX8_hears_17 (by decide) (fun h17 => ?_) (fun h17 => ?_)
      ·
        exact absurd h17 (by decide)
      ·
        refine aw_iconst (v := 1) dX8_hears_20 (by decide) ?_
        refine aw_goto (tgt := 25) dX8_hears_21 (by decide) ?_
        refine aw_istore (i := 5) dX8_hears_25 (by decide) ?_
        refine aw_iload_n (i := 3) dX8_hears_27 rfl rfl ?_
        refine aw_iconst (v := 3) dX8_hears_28 (by decide) ?_
        refine aw_icmp_ne (tgt := 43) dX8_hears_29 (by decide) (fun h29 => ?_) (fun h29 => ?_)
        ·
          refine aw_iload_n (i := 3) dX8_hears_43 rfl rfl ?_
          refine aw_bipush (v := 6) dX8_hears_44 (by decide) ?_
          refine aw_icmp_ne (tgt := 65) dX8_hears_46 (by decide) (fun h46 => ?_) (fun h46 => ?_)
          ·
            refine aw_iload (i := 5) dX8_hears_65 rfl ?_
            refine aw_if_eq (tgt := 76) dX8_hears_67 (by decide) (fun h67 => ?_) (fun h67 => ?_)
            ·
              exact absurd h67 (by decide)
            ·
              refine aw_aload_n (i := 0) dX8_hears_70 rfl rfl ?_
              refine aw_bipush (v := 30) dX8_hears_71 (by decide) ?_
              refine aw_cVv ck_X8_306 (m_X8_body hr (by omega)) sh_105 rfl (by decide) (by decide) rfl rfl (Nat.le_of_ble_eq_true rfl) dX8_hears_73 ?_
              refine aw_aload_n (i := 0) dX8_hears_76 rfl rfl ?_
              refine aw_bipush (v := 10) dX8_hears_77 (by decide) ?_
              refine aw_cVv ck_X8_306 (m_X8_body (r := r + 1) bodM_r (by omega)) sh_105 rfl (by decide) (by decide) rfl rfl (Nat.le_of_ble_eq_true rfl) dX8_hears_79 ?_
              refine aw_iload (i := 5) dX8_hears_82 rfl ?_
              refine aw_if_eq (tgt := 96) dX8_hears_84 (by decide) (fun h84 => ?_) (fun h84 => ?_)
              ·
                exact absurd h84 (by decide)
              ·
                refine aw_iload (i := 4) dX8_hears_87 rfl ?_
                refine aw_iload_n (i := 1) dX8_hears_89 rfl rfl ?_
                refine aw_iadd dX8_hears_90 ?_
                refine aw_iconst (v := 3) dX8_hears_91 (by decide) ?_
                refine aw_imul dX8_hears_92 ?_
                refine aw_goto (tgt := 100) dX8_hears_93 (by decide) ?_
                exact aw_iret rfl dX8_hears_100 ⟨rfl, rfl⟩
          ·
            exact absurd h46 (by decide)
        ·
          exact absurd h29 (by decide)
  ·
    refine aw_istore_n (i := 3) dX8_hears_6 rfl (by decide) ?_
    refine aw_iload_n (i := 2) dX8_hears_7 rfl rfl ?_
    refine aw_istore (i := 4) dX8_hears_8 (by decide) ?_
    refine aw_iload_n (i := 3) dX8_hears_10 rfl rfl ?_
    refine aw_iconst (v := 2) dX8_hears_11 (by decide) ?_
    refine aw_icmp_lt (tgt := 24) dX8_hears_12 (by decide) (fun h12 => ?_) (fun h12 => ?_)
    ·
      exact absurd h12 (by decide)
    ·
      refine aw_iload_n (i := 3) dX8_hears_15 rfl rfl ?_
      refine aw_iconst (v := 5) dX8_hears_16 (by decide) ?_
      refine aw_icmp_gt (tgt := 24) dX8_hears_17 (by decide) (fun h17 => ?_) (fun h17 => ?_)
      ·
        exact absurd h17 (by decide)
      ·
        refine aw_iconst (v := 1) dX8_hears_20 (by decide) ?_
        refine aw_goto (tgt := 25) dX8_hears_21 (by decide) ?_
        refine aw_istore (i := 5) dX8_hears_25 (by decide) ?_
        refine aw_iload_n (i := 3) dX8_hears_27 rfl rfl ?_
        refine aw_iconst (v := 3) dX8_hears_28 (by decide) ?_
        refine aw_icmp_ne (tgt := 43) dX8_hears_29 (by decide) (fun h29 => ?_) (fun h29 => ?_)
        ·
          exact absurd h29 (by decide)
        ·
          refine aw_aload_n (i := 0) dX8_hears_32 rfl rfl ?_
          refine aw_bipush (v := 40) dX8_hears_33 (by decide) ?_
          refine aw_cVv ck_X8_306 (m_X8_body hr (by omega)) sh_105 rfl (by decide) (by decide) rfl rfl (Nat.le_of_ble_eq_true rfl) dX8_hears_35 ?_
          refine aw_iload_n (i := 2) dX8_hears_38 rfl rfl ?_
          refine aw_iconst (v := 1) dX8_hears_39 (by decide) ?_
          refine aw_iadd dX8_hears_40 ?_
          refine aw_istore (i := 4) dX8_hears_41 (by decide) ?_
          refine aw_iload_n (i := 3) dX8_hears_43 rfl rfl ?_
          refine aw_bipush (v := 6) dX8_hears_44 (by decide) ?_
          refine aw_icmp_ne (tgt := 65) dX8_hears_46 (by decide) (fun h46 => ?_) (fun h46 => ?_)
          ·
            refine aw_iload (i := 5) dX8_hears_65 rfl ?_
            refine aw_if_eq (tgt := 76) dX8_hears_67 (by decide) (fun h67 => ?_) (fun h67 => ?_)
            ·
              exact absurd h67 (by decide)
            ·
              refine aw_aload_n (i := 0) dX8_hears_70 rfl rfl ?_
              refine aw_bipush (v := 30) dX8_hears_71 (by decide) ?_
              refine aw_cVv ck_X8_306 (m_X8_body (r := r + 1) bodM_r (by omega)) sh_105 rfl (by decide) (by decide) rfl rfl (Nat.le_of_ble_eq_true rfl) dX8_hears_73 ?_
              refine aw_aload_n (i := 0) dX8_hears_76 rfl rfl ?_
              refine aw_bipush (v := 10) dX8_hears_77 (by decide) ?_
              refine aw_cVv ck_X8_306 (m_X8_body (r := r + 2) bodM_r (by omega)) sh_105 rfl (by decide) (by decide) rfl rfl (Nat.le_of_ble_eq_true rfl) dX8_hears_79 ?_
              refine aw_iload (i := 5) dX8_hears_82 rfl ?_
              refine aw_if_eq (tgt := 96) dX8_hears_84 (by decide) (fun h84 => ?_) (fun h84 => ?_)
              ·
                exact absurd h84 (by decide)
              ·
                refine aw_iload (i := 4) dX8_hears_87 rfl ?_
                refine aw_iload_n (i := 1) dX8_hears_89 rfl rfl ?_
                refine aw_iadd dX8_hears_90 ?_
                refine aw_iconst (v := 3) dX8_hears_91 (by decide) ?_
                refine aw_imul dX8_hears_92 ?_
                refine aw_goto (tgt := 100) dX8_hears_93 (by decide) ?_
                exact aw_iret rfl dX8_hears_100 ⟨rfl, rfl⟩
          ·
            exact absurd h46 (by decide)
  ·
    refine aw_istore_n (i := 3) dX8_hears_6 rfl (by decide) ?_
    refine aw_iload_n (i := 2) dX8_hears_7 rfl rfl ?_
    refine aw_istore (i := 4) dX8_hears_8 (by decide) ?_
    refine aw_iload_n (i := 3) dX8_hears_10 rfl rfl ?_
    refine aw_iconst (v := 2) dX8_hears_11 (by decide) ?_
    refine aw_icmp_lt (tgt := 24) dX8_hears_12 (by decide) (fun h12 => ?_) (fun h12 => ?_)
    ·
      exact absurd h12 (by decide)
    ·
      refine aw_iload_n (i := 3) dX8_hears_15 rfl rfl ?_
      refine aw_iconst (v := 5) dX8_hears_16 (by decide) ?_
      refine aw_icmp_gt (tgt := 24) dX8_hears_17 (by decide) (fun h17 => ?_) (fun h17 => ?_)
      ·
        exact absurd h17 (by decide)
      ·
        refine aw_iconst (v := 1) dX8_hears_20 (by decide) ?_
        refine aw_goto (tgt := 25) dX8_hears_21 (by decide) ?_
        refine aw_istore (i := 5) dX8_hears_25 (by decide) ?_
        refine aw_iload_n (i := 3) dX8_hears_27 rfl rfl ?_
        refine aw_iconst (v := 3) dX8_hears_28 (by decide) ?_
        refine aw_icmp_ne (tgt := 43) dX8_hears_29 (by decide) (fun h29 => ?_) (fun h29 => ?_)
        ·
          refine aw_iload_n (i := 3) dX8_hears_43 rfl rfl ?_
          refine aw_bipush (v := 6) dX8_hears_44 (by decide) ?_
          refine aw_icmp_ne (tgt := 65) dX8_hears_46 (by decide) (fun h46 => ?_) (fun h46 => ?_)
          ·
            refine aw_iload (i := 5) dX8_hears_65 rfl ?_
            refine aw_if_eq (tgt := 76) dX8_hears_67 (by decide) (fun h67 => ?_) (fun h67 => ?_)
            ·
              exact absurd h67 (by decide)
            ·
              refine aw_aload_n (i := 0) dX8_hears_70 rfl rfl ?_
              refine aw_bipush (v := 30) dX8_hears_71 (by decide) ?_
              refine aw_cVv ck_X8_306 (m_X8_body hr (by omega)) sh_105 rfl (by decide) (by decide) rfl rfl (Nat.le_of_ble_eq_true rfl) dX8_hears_73 ?_
              refine aw_aload_n (i := 0) dX8_hears_76 rfl rfl ?_
              refine aw_bipush (v := 10) dX8_hears_77 (by decide) ?_
              refine aw_cVv ck_X8_306 (m_X8_body (r := r + 1) bodM_r (by omega)) sh_105 rfl (by decide) (by decide) rfl rfl (Nat.le_of_ble_eq_true rfl) dX8_hears_79 ?_
              refine aw_iload (i := 5) dX8_hears_82 rfl ?_
              refine aw_if_eq (tgt := 96) dX8_hears_84 (by decide) (fun h84 => ?_) (fun h84 => ?_)
              ·
                exact absurd h84 (by decide)
              ·
                refine aw_iload (i := 4) dX8_hears_87 rfl ?_
                refine aw_iload_n (i := 1) dX8_hears_89 rfl rfl ?_
                refine aw_iadd dX8_hears_90 ?_
                refine aw_iconst (v := 3) dX8_hears_91 (by decide) ?_
                refine aw_imul dX8_hears_92 ?_
                refine aw_goto (tgt := 100) dX8_hears_93 (by decide) ?_
                exact aw_iret rfl dX8_hears_100 ⟨rfl, rfl⟩
          ·
            exact absurd h46 (by decide)
        ·
          exact absurd h29 (by decide)
  ·
    refine aw_istore_n (i := 3) dX8_hears_6 rfl (by decide) ?_
    refine aw_iload_n (i := 2) dX8_hears_7 rfl rfl ?_
    refine aw_istore (i := 4) dX8_hears_8 (by decide) ?_
    refine aw_iload_n (i := 3) dX8_hears_10 rfl rfl ?_
    refine aw_iconst (v := 2) dX8_hears_11 (by decide) ?_
    refine aw_icmp_lt (tgt := 24) dX8_hears_12 (by decide) (fun h12 => ?_) (fun h12 => ?_)
    ·
      exact absurd h12 (by decide)
    ·
      refine aw_iload_n (i := 3) dX8_hears_15 rfl rfl ?_
      refine aw_iconst (v := 5) dX8_hears_16 (by decide) ?_
      refine aw_icmp_gt (tgt := 24) dX8_hears_17 (by decide) (fun h17 => ?_) (fun h17 => ?_)
      ·
        exact absurd h17 (by decide)
      ·
        refine aw_iconst (v := 1) dX8_hears_20 (by decide) ?_
        refine aw_goto (tgt := 25) dX8_hears_21 (by decide) ?_
        refine aw_istore (i := 5) dX8_hears_25 (by decide) ?_
        refine aw_iload_n (i := 3) dX8_hears_27 rfl rfl ?_
        refine aw_iconst (v := 3) dX8_hears_28 (by decide) ?_
        refine aw_icmp_ne (tgt := 43) dX8_hears_29 (by decide) (fun h29 => ?_) (fun h29 => ?_)
        ·
          refine aw_iload_n (i := 3) dX8_hears_43 rfl rfl ?_
          refine aw_bipush (v := 6) dX8_hears_44 (by decide) ?_
          refine aw_icmp_ne (tgt := 65) dX8_hears_46 (by decide) (fun h46 => ?_) (fun h46 => ?_)
          ·
            refine aw_iload (i := 5) dX8_hears_65 rfl ?_
            refine aw_if_eq (tgt := 76) dX8_hears_67 (by decide) (fun h67 => ?_) (fun h67 => ?_)
            ·
              exact absurd h67 (by decide)
            ·
              refine aw_aload_n (i := 0) dX8_hears_70 rfl rfl ?_
              refine aw_bipush (v := 30) dX8_hears_71 (by decide) ?_
              refine aw_cVv ck_X8_306 (m_X8_body hr (by omega)) sh_105 rfl (by decide) (by decide) rfl rfl (Nat.le_of_ble_eq_true rfl) dX8_hears_73 ?_
              refine aw_aload_n (i := 0) dX8_hears_76 rfl rfl ?_
              refine aw_bipush (v := 10) dX8_hears_77 (by decide) ?_
              refine aw_cVv ck_X8_306 (m_X8_body (r := r + 1) bodM_r (by omega)) sh_105 rfl (by decide) (by decide) rfl rfl (Nat.le_of_ble_eq_true rfl) dX8_hears_79 ?_
              refine aw_iload (i := 5) dX8_hears_82 rfl ?_
              refine aw_if_eq (tgt := 96) dX8_hears_84 (by decide) (fun h84 => ?_) (fun h84 => ?_)
              ·
                exact absurd h84 (by decide)
              ·
                refine aw_iload (i := 4) dX8_hears_87 rfl ?_
                refine aw_iload_n (i := 1) dX8_hears_89 rfl rfl ?_
                refine aw_iadd dX8_hears_90 ?_
                refine aw_iconst (v := 3) dX8_hears_91 (by decide) ?_
                refine aw_imul dX8_hears_92 ?_
                refine aw_goto (tgt := 100) dX8_hears_93 (by decide) ?_
                exact aw_iret rfl dX8_hears_100 ⟨rfl, rfl⟩
          ·
            exact absurd h46 (by decide)
        ·
          exact absurd h29 (by decide)
  ·
    refine aw_istore_n (i := 3) dX8_hears_6 rfl (by decide) ?_
    refine aw_iload_n (i := 2) dX8_hears_7 rfl rfl ?_
    refine aw_istore (i := 4) dX8_hears_8 (by decide) ?_
    refine aw_iload_n (i := 3) dX8_hears_10 rfl rfl ?_
    refine aw_iconst (v := 2) dX8_hears_11 (by decide) ?_
    refine aw_icmp_lt (tgt := 24) dX8_hears_12 (by decide) (fun h12 => ?_) (fun h12 => ?_)
    ·
      exact absurd h12 (by decide)
    ·
      refine aw_iload_n (i := 3) dX8_hears_15 rfl rfl ?_
      refine aw_iconst (v := 5) dX8_hears_16 (by decide) ?_
      refine aw_icmp_gt (tgt := 24) dX8_hears_17 (by decide) (fun h17 => ?_) (fun h17 => ?_)
      ·
        refine aw_iconst (v := 0) dX8_hears_24 (by decide) ?_
        refine aw_istore (i := 5) dX8_hears_25 (by decide) ?_
        refine aw_iload_n (i := 3) dX8_hears_27 rfl rfl ?_
        refine aw_iconst (v := 3) dX8_hears_28 (by decide) ?_
        refine aw_icmp_ne (tgt := 43) dX8_hears_29 (by decide) (fun h29 => ?_) (fun h29 => ?_)
        ·
          refine aw_iload_n (i := 3) dX8_hears_43 rfl rfl ?_
          refine aw_bipush (v := 6) dX8_hears_44 (by decide) ?_
          refine aw_icmp_ne (tgt := 65) dX8_hears_46 (by decide) (fun h46 => ?_) (fun h46 => ?_)
          ·
            exact absurd h46 (by decide)
          ·
            refine aw_aload_n (i := 0) dX8_hears_49 rfl rfl ?_
            refine aw_bipush (v := 71) dX8_hears_50 (by decide) ?_
            refine aw_cVv ck_X8_306 (m_X8_body hr (by omega)) sh_105 rfl (by decide) (by decide) rfl rfl (Nat.le_of_ble_eq_true rfl) dX8_hears_52 ?_
            refine aw_iload_n (i := 2) dX8_hears_55 rfl rfl ?_
            refine aw_aload_n (i := 0) dX8_hears_56 rfl rfl ?_
            refine aw_getR gf_X8_32 sh_105 rfl dX8_hears_57 ?_
            refine aw_iload_n (i := 1) dX8_hears_60 rfl rfl ?_
            refine aw_ialdX sh_110 (by omega) (by decide) (congrFun (bodM_o (by decide)) _) dX8_hears_61 ?_
            refine aw_isub dX8_hears_62 ?_
            refine aw_istore (i := 4) dX8_hears_63 (by decide) ?_
            refine aw_iload (i := 5) dX8_hears_65 rfl ?_
            refine aw_if_eq (tgt := 76) dX8_hears_67 (by decide) (fun h67 => ?_) (fun h67 => ?_)
            ·
              refine aw_aload_n (i := 0) dX8_hears_76 rfl rfl ?_
              refine aw_bipush (v := 10) dX8_hears_77 (by decide) ?_
              refine aw_cVv ck_X8_306 (m_X8_body (r := r + 1) bodM_r (by omega)) sh_105 rfl (by decide) (by decide) rfl rfl (Nat.le_of_ble_eq_true rfl) dX8_hears_79 ?_
              refine aw_iload (i := 5) dX8_hears_82 rfl ?_
              refine aw_if_eq (tgt := 96) dX8_hears_84 (by decide) (fun h84 => ?_) (fun h84 => ?_)
              ·
                refine aw_iload (i := 4) dX8_hears_96 rfl ?_
                refine aw_iload_n (i := 1) dX8_hears_98 rfl rfl ?_
                refine aw_iadd dX8_hears_99 ?_
                exact aw_iret rfl dX8_hears_100 ⟨rfl, rfl⟩
              ·
                exact absurd h84 (by decide)
            ·
              exact absurd h67 (by decide)
        ·
          exact absurd h29 (by decide)
      ·
        exact absurd h17 (by decide)
