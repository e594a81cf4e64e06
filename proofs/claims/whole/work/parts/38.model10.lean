def begR (kk : Nat) (m pc x : Int32) : Int32 × List Int32 := match kk with
  | 1 => ((heaR 1 m pc x).1 * 2 + pc, [20, 11] ++ (heaR 1 m pc x).2)
  | 4 => (-((heaR 4 m pc x).1 * 2), [51, 11] ++ (heaR 4 m pc x).2)
  | 6 => (((heaR 6 m pc x).1 * 2 + pc) * 2, [70, 20, 11] ++ (heaR 6 m pc x).2)
  | k => ((heaR k m pc x).1 * 2, [11] ++ (heaR k m pc x).2)
theorem m_X8_beginning {l : Launch} {M : Mm} {p kk r : Nat} {x : Int32} (hp : p < 30) (hkk : kk < 7) (hk : M.1 107 p = nI kk) (hr : M.1 105 54 = nI r) (h20 : r + 6 ≤ 20) : AMet l 3 yX8_beginning cX8_beginning 5 (some FieldType.int) [.ref 105, .int (nI p), .int x] M (QE (some (.int (begR kk (nI p) (M.1 110 p) x).1)) (tr8 r (begR kk (nI p) (M.1 110 p) x).2 M)) := by
  refine AMet.of (by decide) (by simp [aargs, Value.category]) ?_
  show AW l 3 yX8_beginning cX8_beginning 5 (some FieldType.int) 0 [some (.ref 105), some (.int (nI p)), some (.int x), none, none] [] M _
  refine aw_aload_n (i := 0) dX8_beginning_0 rfl rfl ?_
  refine aw_getR gf_X8_23 sh_105 rfl dX8_beginning_1 ?_
  refine aw_iload_n (i := 1) dX8_beginning_4 rfl rfl ?_
  refine aw_ialdX sh_107 (by omega) (by decide) hk dX8_beginning_5 ?_
  rcases (show kk = 0 ∨ kk = 1 ∨ kk = 2 ∨ kk = 3 ∨ kk = 4 ∨ kk = 5 ∨ kk = 6 by omega) with rfl | rfl | rfl | rfl | rfl | rfl | rfl
  ·
    refine aw_istore_n (i := 3) dX8_beginning_6 rfl (by decide) ?_
    refine aw_iload_n (i := 3) dX8_beginning_7 rfl rfl ?_
    refine aw_bipush (v := 6) dX8_beginning_8 (by decide) ?_
    refine aw_icmp_ne (tgt := 19) dX8_beginning_10 (by decide) (fun h10 => ?_) (fun h10 => ?_)
    ·
      refine aw_iload_n (i := 3) dX8_beginning_19 rfl rfl ?_
      refine aw_iconst (v := 1) dX8_beginning_20 (by decide) ?_
      refine aw_icmp_eq (tgt := 30) dX8_beginning_21 (by decide) (fun h21 => ?_) (fun h21 => ?_)
      ·
        exact absurd h21 (by decide)
      ·
        refine aw_iload_n (i := 3) dX8_beginning_24 rfl rfl ?_
        refine aw_bipush (v := 6) dX8_beginning_25 (by decide) ?_
        refine aw_icmp_ne (tgt := 36) dX8_beginning_27 (by decide) (fun h27 => ?_) (fun h27 => ?_)
        ·
          refine aw_iload_n (i := 3) dX8_beginning_36 rfl rfl ?_
          refine aw_iconst (v := 4) dX8_beginning_37 (by decide) ?_
          refine aw_icmp_ne (tgt := 47) dX8_beginning_38 (by decide) (fun h38 => ?_) (fun h38 => ?_)
          ·
            refine aw_aload_n (i := 0) dX8_beginning_47 rfl rfl ?_
            refine aw_bipush (v := 11) dX8_beginning_48 (by decide) ?_
            refine aw_cVv ck_X8_306 (m_X8_body hr (by omega)) sh_105 rfl (by decide) (by decide) rfl rfl (Nat.le_of_ble_eq_true rfl) dX8_beginning_50 ?_
            refine aw_aload_n (i := 0) dX8_beginning_53 rfl rfl ?_
            refine aw_iload_n (i := 1) dX8_beginning_54 rfl rfl ?_
            refine aw_iload_n (i := 2) dX8_beginning_55 rfl rfl ?_
            refine aw_cVi ck_X8_310 (m_X8_hears (kk := 0) (r := r + 1) hp (by decide) (show _ = nI 0 from hk) bodM_r (by omega)) sh_105 rfl (by decide) (by decide) rfl rfl (Nat.le_of_ble_eq_true rfl) dX8_beginning_56 ?_
            refine aw_iconst (v := 2) dX8_beginning_59 (by decide) ?_
            refine aw_imul dX8_beginning_60 ?_
            refine aw_istore (i := 4) dX8_beginning_61 (by decide) ?_
            refine aw_iload_n (i := 3) dX8_beginning_63 rfl rfl ?_
            refine aw_iconst (v := 1) dX8_beginning_64 (by decide) ?_
            refine aw_icmp_eq (tgt := 74) dX8_beginning_65 (by decide) (fun h65 => ?_) (fun h65 => ?_)
            ·
              exact absurd h65 (by decide)
            ·
              refine aw_iload_n (i := 3) dX8_beginning_68 rfl rfl ?_
              refine aw_bipush (v := 6) dX8_beginning_69 (by decide) ?_
              refine aw_icmp_ne (tgt := 85) dX8_beginning_71 (by decide) (fun h71 => ?_) (fun h71 => ?_)
              ·
                refine aw_iload_n (i := 3) dX8_beginning_85 rfl rfl ?_
                refine aw_bipush (v := 6) dX8_beginning_86 (by decide) ?_
                refine aw_icmp_ne (tgt := 98) dX8_beginning_88 (by decide) (fun h88 => ?_) (fun h88 => ?_)
                ·
                  refine aw_iload_n (i := 3) dX8_beginning_98 rfl rfl ?_
                  refine aw_iconst (v := 4) dX8_beginning_99 (by decide) ?_
                  refine aw_icmp_ne (tgt := 109) dX8_beginning_100 (by decide) (fun h100 => ?_) (fun h100 => ?_)
                  ·
                    refine aw_iload (i := 4) dX8_beginning_109 rfl ?_
                    exact aw_iret rfl dX8_beginning_111 ⟨rfl, rfl⟩
                  ·
                    exact absurd h100 (by decide)
                ·
                  exact absurd h88 (by decide)
              ·
                exact absurd h71 (by decide)
          ·
            exact absurd h38 (by decide)
        ·
          exact absurd h27 (by decide)
    ·
      exact absurd h10 (by decide)
  ·
    refine aw_istore_n (i := 3) dX8_beginning_6 rfl (by decide) ?_
    refine aw_iload_n (i := 3) dX8_beginning_7 rfl rfl ?_
    refine aw_bipush (v := 6) dX8_beginning_8 (by decide) ?_
    refine aw_icmp_ne (tgt := 19) dX8_beginning_10 (by decide) (fun h10 => ?_) (fun h10 => ?_)
    ·
      refine aw_iload_n (i := 3) dX8_beginning_19 rfl rfl ?_
      refine aw_iconst (v := 1) dX8_beginning_20 (by decide) ?_
      refine aw_icmp_eq (tgt := 30) dX8_beginning_21 (by decide) (fun h21 => ?_) (fun h21 => ?_)
      ·
        refine aw_aload_n (i := 0) dX8_beginning_30 rfl rfl ?_
        refine aw_bipush (v := 20) dX8_beginning_31 (by decide) ?_
        refine aw_cVv ck_X8_306 (m_X8_body hr (by omega)) sh_105 rfl (by decide) (by decide) rfl rfl (Nat.le_of_ble_eq_true rfl) dX8_beginning_33 ?_
        refine aw_iload_n (i := 3) dX8_beginning_36 rfl rfl ?_
        refine aw_iconst (v := 4) dX8_beginning_37 (by decide) ?_
        refine aw_icmp_ne (tgt := 47) dX8_beginning_38 (by decide) (fun h38 => ?_) (fun h38 => ?_)
        ·
          refine aw_aload_n (i := 0) dX8_beginning_47 rfl rfl ?_
          refine aw_bipush (v := 11) dX8_beginning_48 (by decide) ?_
          refine aw_cVv ck_X8_306 (m_X8_body (r := r + 1) bodM_r (by omega)) sh_105 rfl (by decide) (by decide) rfl rfl (Nat.le_of_ble_eq_true rfl) dX8_beginning_50 ?_
          refine aw_aload_n (i := 0) dX8_beginning_53 rfl rfl ?_
          refine aw_iload_n (i := 1) dX8_beginning_54 rfl rfl ?_
          refine aw_iload_n (i := 2) dX8_beginning_55 rfl rfl ?_
          refine aw_cVi ck_X8_310 (m_X8_hears (kk := 1) (r := r + 2) hp (by decide) (show _ = nI 1 from hk) bodM_r (by omega)) sh_105 rfl (by decide) (by decide) rfl rfl (Nat.le_of_ble_eq_true rfl) dX8_beginning_56 ?_
          refine aw_iconst (v := 2) dX8_beginning_59 (by decide) ?_
          refine aw_imul dX8_beginning_60 ?_
          refine aw_istore (i := 4) dX8_beginning_61 (by decide) ?_
          refine aw_iload_n (i := 3) dX8_beginning_63 rfl rfl ?_
          refine aw_iconst (v := 1) dX8_beginning_64 (by decide) ?_
          refine aw_icmp_eq (tgt := 74) dX8_beginning_65 (by decide) (fun h65 => ?_) (fun h65 => ?_)
          ·
            refine aw_iload (i := 4) dX8_beginning_74 rfl ?_
            refine aw_aload_n (i := 0) dX8_beginning_76 rfl rfl ?_
            refine aw_getR gf_X8_32 sh_105 rfl dX8_beginning_77 ?_
            refine aw_iload_n (i := 1) dX8_beginning_80 rfl rfl ?_
            refine aw_ialdX sh_110 (by omega) (by decide) (show _ = M.1 110 p from rfl) dX8_beginning_81 ?_
            refine aw_iadd dX8_beginning_82 ?_
            refine aw_istore (i := 4) dX8_beginning_83 (by decide) ?_
            refine aw_iload_n (i := 3) dX8_beginning_85 rfl rfl ?_
            refine aw_bipush (v := 6) dX8_beginning_86 (by decide) ?_
            refine aw_icmp_ne (tgt := 98) dX8_beginning_88 (by decide) (fun h88 => ?_) (fun h88 => ?_)
            ·
              refine aw_iload_n (i := 3) dX8_beginning_98 rfl rfl ?_
              refine aw_iconst (v := 4) dX8_beginning_99 (by decide) ?_
              refine aw_icmp_ne (tgt := 109) dX8_beginning_100 (by decide) (fun h100 => ?_) (fun h100 => ?_)
              ·
                refine aw_iload (i := 4) dX8_beginning_109 rfl ?_
                exact aw_iret rfl dX8_beginning_111 ⟨rfl, rfl⟩
              ·
                exact absurd h100 (by decide)
            ·
              exact absurd h88 (by decide)
          ·
            exact absurd h65 (by decide)
        ·
          exact absurd h38 (by decide)
      ·
        exact absurd h21 (by decide)
    ·
      exact absurd h10 (by decide)
  ·
    refine aw_istore_n (i := 3) dX8_beginning_6 rfl (by decide) ?_
    refine aw_iload_n (i := 3) dX8_beginning_7 rfl rfl ?_
    refine aw_bipush (v := 6) dX8_beginning_8 (by decide) ?_
    refine aw_icmp_ne (tgt := 19) dX8_beginning_10 (by decide) (fun h10 => ?_) (fun h10 => ?_)
    ·
      refine aw_iload_n (i := 3) dX8_beginning_19 rfl rfl ?_
      refine aw_iconst (v := 1) dX8_beginning_20 (by decide) ?_
      refine aw_icmp_eq (tgt := 30) dX8_beginning_21 (by decide) (fun h21 => ?_) (fun h21 => ?_)
      ·
        exact absurd h21 (by decide)
      ·
        refine aw_iload_n (i := 3) dX8_beginning_24 rfl rfl ?_
        refine aw_bipush (v := 6) dX8_beginning_25 (by decide) ?_
        refine aw_icmp_ne (tgt := 36) dX8_beginning_27 (by decide) (fun h27 => ?_) (fun h27 => ?_)
        ·
          refine aw_iload_n (i := 3) dX8_beginning_36 rfl rfl ?_
          refine aw_iconst (v := 4) dX8_beginning_37 (by decide) ?_
          refine aw_icmp_ne (tgt := 47) dX8_beginning_38 (by decide) (fun h38 => ?_) (fun h38 => ?_)
          ·
            refine aw_aload_n (i := 0) dX8_beginning_47 rfl rfl ?_
            refine aw_bipush (v := 11) dX8_beginning_48 (by decide) ?_
            refine aw_cVv ck_X8_306 (m_X8_body hr (by omega)) sh_105 rfl (by decide) (by decide) rfl rfl (Nat.le_of_ble_eq_true rfl) dX8_beginning_50 ?_
            refine aw_aload_n (i := 0) dX8_beginning_53 rfl rfl ?_
            refine aw_iload_n (i := 1) dX8_beginning_54 rfl rfl ?_
            refine aw_iload_n (i := 2) dX8_beginning_55 rfl rfl ?_
            refine aw_cVi ck_X8_310 (m_X8_hears (kk := 2) (r := r + 1) hp (by decide) (show _ = nI 2 from hk) bodM_r (by omega)) sh_105 rfl (by decide) (by decide) rfl rfl (Nat.le_of_ble_eq_true rfl) dX8_beginning_56 ?_
            refine aw_iconst (v := 2) dX8_beginning_59 (by decide) ?_
            refine aw_imul dX8_beginning_60 ?_
            refine aw_istore (i := 4) dX8_beginning_61 (by decide) ?_
            refine aw_iload_n (i := 3) dX8_beginning_63 rfl rfl ?_
            refine aw_iconst (v := 1) dX8_beginning_64 (by decide) ?_
            refine aw_icmp_eq (tgt := 74) dX8_beginning_65 (by decide) (fun h65 => ?_) (fun h65 => ?_)
            ·
              exact absurd h65 (by decide)
            ·
              refine aw_iload_n (i := 3) dX8_beginning_68 rfl rfl ?_
              refine aw_bipush (v := 6) dX8_beginning_69 (by decide) ?_
              refine aw_icmp_ne (tgt := 85) dX8_beginning_71 (by decide) (fun h71 => ?_) (fun h71 => ?_)
              ·
                refine aw_iload_n (i := 3) dX8_beginning_85 rfl rfl ?_
                refine aw_bipush (v := 6) dX8_beginning_86 (by decide) ?_
                refine aw_icmp_ne (tgt := 98) dX8_beginning_88 (by decide) (fun h88 => ?_) (fun h88 => ?_)
                ·
                  refine aw_iload_n (i := 3) dX8_beginning_98 rfl rfl ?_
                  refine aw_iconst (v := 4) dX8_beginning_99 (by decide) ?_
                  refine aw_icmp_ne (tgt := 109) dX8_beginning_100 (by decide) (fun h100 => ?_) (fun h100 => ?_)
                  ·
                    refine aw_iload (i := 4) dX8_beginning_109 rfl ?_
                    exact aw_iret rfl dX8_beginning_111 ⟨rfl, rfl⟩
                  ·
                    exact absurd h100 (by decide)
                ·
                  exact absurd h88 (by decide)
              ·
                exact absurd h71 (by decide)
          ·
            exact absurd h38 (by decide)
        ·
          exact absurd h27 (by decide)
    ·
      exact absurd h10 (by decide)
  ·
    refine aw_istore_n (i := 3) dX8_beginning_6 rfl (by decide) ?_
    refine aw_iload_n (i := 3) dX8_beginning_7 rfl rfl ?_
    refine aw_bipush (v := 6) dX8_beginning_8 (by decide) ?_
    refine aw_icmp_ne (tgt := 19) dX8_beginning_10 (by decide) (fun h10 => ?_) (fun h10 => ?_)
    ·
      refine aw_iload_n (i := 3) dX8_beginning_19 rfl rfl ?_
      refine aw_iconst (v := 1) dX8_beginning_20 (by decide) ?_
      refine aw_icmp_eq (tgt := 30) dX8_beginning_21 (by decide) (fun h21 => ?_) (fun h21 => ?_)
      ·
        exact absurd h21 (by decide)
      ·
        refine aw_iload_n (i := 3) dX8_beginning_24 rfl rfl ?_
        refine aw_bipush (v := 6) dX8_beginning_25 (by decide) ?_
        refine aw_icmp_ne (tgt := 36) dX8_beginning_27 (by decide) (fun h27 => ?_) (fun h27 => ?_)
        ·
          refine aw_iload_n (i := 3) dX8_beginning_36 rfl rfl ?_
          refine aw_iconst (v := 4) dX8_beginning_37 (by decide) ?_
          refine aw_icmp_ne (tgt := 47) dX8_beginning_38 (by decide) (fun h38 => ?_) (fun h38 => ?_)
          ·
            refine aw_aload_n (i := 0) dX8_beginning_47 rfl rfl ?_
            refine aw_bipush (v := 11) dX8_beginning_48 (by decide) ?_
            refine aw_cVv ck_X8_306 (m_X8_body hr (by omega)) sh_105 rfl (by decide) (by decide) rfl rfl (Nat.le_of_ble_eq_true rfl) dX8_beginning_50 ?_
            refine aw_aload_n (i := 0) dX8_beginning_53 rfl rfl ?_
            refine aw_iload_n (i := 1) dX8_beginning_54 rfl rfl ?_
            refine aw_iload_n (i := 2) dX8_beginning_55 rfl rfl ?_
            refine aw_cVi ck_X8_310 (m_X8_hears (kk := 3) (r := r + 1) hp (by decide) (show _ = nI 3 from hk) bodM_r (by omega)) sh_105 rfl (by decide) (by decide) rfl rfl (Nat.le_of_ble_eq_true rfl) dX8_beginning_56 ?_
            refine aw_iconst (v := 2) dX8_beginning_59 (by decide) ?_
            refine aw_imul dX8_beginning_60 ?_
            refine aw_istore (i := 4) dX8_beginning_61 (by decide) ?_
            refine aw_iload_n (i := 3) dX8_beginning_63 rfl rfl ?_
            refine aw_iconst (v := 1) dX8_beginning_64 (by decide) ?_
            refine aw_icmp_eq (tgt := 74) dX8_beginning_65 (by decide) (fun h65 => ?_) (fun h65 => ?_)
            ·
              exact absurd h65 (by decide)
            ·
              refine aw_iload_n (i := 3) dX8_beginning_68 rfl rfl ?_
              refine aw_bipush (v := 6) dX8_beginning_69 (by decide) ?_
              refine aw_icmp_ne (tgt := 85) dX8_beginning_71 (by decide) (fun h71 => ?_) (fun h71 => ?_)
              ·
                refine aw_iload_n (i := 3) dX8_beginning_85 rfl rfl ?_
                refine aw_bipush (v := 6) dX8_beginning_86 (by decide) ?_
                refine aw_icmp_ne (tgt := 98) dX8_beginning_88 (by decide) (fun h88 => ?_) (fun h88 => ?_)
                ·
                  refine aw_iload_n (i := 3) dX8_beginning_98 rfl rfl ?_
                  refine aw_iconst (v := 4) dX8_beginning_99 (by decide) ?_
                  refine aw_icmp_ne (tgt := 109) dX8_beginning_100 (by decide) (fun h100 => ?_) (fun h100 => ?_)
                  ·
                    refine aw_iload (i := 4) dX8_beginning_109 rfl ?_
                    exact aw_iret rfl dX8_beginning_111 ⟨rfl, rfl⟩
                  ·
                    exact absurd h100 (by decide)
                ·
                  exact absurd h88 (by decide)
              ·
                exact absurd h71 (by decide)
          ·
            exact absurd h38 (by decide)
        ·
          exact absurd h27 (by decide)
    ·
      exact absurd h10 (by decide)
  ·
    refine aw_istore_n (i := 3) dX8_beginning_6 rfl (by decide) ?_
    refine aw_iload_n (i := 3) dX8_beginning_7 rfl rfl ?_
    refine aw_bipush (v := 6) dX8_beginning_8 (by decide) ?_
    refine aw_icmp_ne (tgt := 19) dX8_beginning_10 (by decide) (fun h10 => ?_) (fun h10 => ?_)
    ·
      refine aw_iload_n (i := 3) dX8_beginning_19 rfl rfl ?_
      refine aw_iconst (v := 1) dX8_beginning_20 (by decide) ?_
      refine aw_icmp_eq (tgt := 30) dX8_beginning_21 (by decide) (fun h21 => ?_) (fun h21 => ?_)
      ·
        exact absurd h21 (by decide)
      ·
        refine aw_iload_n (i := 3) dX8_beginning_24 rfl rfl ?_
        refine aw_bipush (v := 6) dX8_beginning_25 (by decide) ?_
        refine aw_icmp_ne (tgt := 36) dX8_beginning_27 (by decide) (fun h27 => ?_) (fun h27 => ?_)
        ·
          refine aw_iload_n (i := 3) dX8_beginning_36 rfl rfl ?_
          refine aw_iconst (v := 4) dX8_beginning_37 (by decide) ?_
          refine aw_icmp_ne (tgt := 47) dX8_beginning_38 (by decide) (fun h38 => ?_) (fun h38 => ?_)
          ·
            exact absurd h38 (by decide)
          ·
            refine aw_aload_n (i := 0) dX8_beginning_41 rfl rfl ?_
            refine aw_bipush (v := 51) dX8_beginning_42 (by decide) ?_
            refine aw_cVv ck_X8_306 (m_X8_body hr (by omega)) sh_105 rfl (by decide) (by decide) rfl rfl (Nat.le_of_ble_eq_true rfl) dX8_beginning_44 ?_
            refine aw_aload_n (i := 0) dX8_beginning_47 rfl rfl ?_
            refine aw_bipush (v := 11) dX8_beginning_48 (by decide) ?_
            refine aw_cVv ck_X8_306 (m_X8_body (r := r + 1) bodM_r (by omega)) sh_105 rfl (by decide) (by decide) rfl rfl (Nat.le_of_ble_eq_true rfl) dX8_beginning_50 ?_
            refine aw_aload_n (i := 0) dX8_beginning_53 rfl rfl ?_
            refine aw_iload_n (i := 1) dX8_beginning_54 rfl rfl ?_
            refine aw_iload_n (i := 2) dX8_beginning_55 rfl rfl ?_
            refine aw_cVi ck_X8_310 (m_X8_hears (kk := 4) (r := r + 2) hp (by decide) (show _ = nI 4 from hk) bodM_r (by omega)) sh_105 rfl (by decide) (by decide) rfl rfl (Nat.le_of_ble_eq_true rfl) dX8_beginning_56 ?_
            refine aw_iconst (v := 2) dX8_beginning_59 (by decide) ?_
            refine aw_imul dX8_beginning_60 ?_
            refine aw_istore (i := 4) dX8_beginning_61 (by decide) ?_
            refine aw_iload_n (i := 3) dX8_beginning_63 rfl rfl ?_
            refine aw_iconst (v := 1) dX8_beginning_64 (by decide) ?_
            refine aw_icmp_eq (tgt := 74) dX8_beginning_65 (by decide) (fun h65 => ?_) (fun h65 => ?_)
            ·
              exact absurd h65 (by decide)
            ·
              refine aw_iload_n (i := 3) dX8_beginning_68 rfl rfl ?_
              refine aw_bipush (v := 6) dX8_beginning_69 (by decide) ?_
              refine aw_icmp_ne (tgt := 85) dX8_beginning_71 (by decide) (fun h71 => ?_) (fun h71 => ?_)
              ·
                refine aw_iload_n (i := 3) dX8_beginning_85 rfl rfl ?_
                refine aw_bipush (v := 6) dX8_beginning_86 (by decide) ?_
                refine aw_icmp_ne (tgt := 98) dX8_beginning_88 (by decide) (fun h88 => ?_) (fun h88 => ?_)
                ·
                  refine aw_iload_n (i := 3) dX8_beginning_98 rfl rfl ?_
                  refine aw_iconst (v := 4) dX8_beginning_99 (by decide) ?_
                  refine aw_icmp_ne (tgt := 109) dX8_beginning_100 (by decide) (fun h100 => ?_) (fun h100 => ?_)
                  ·
                    exact absurd h100 (by decide)
                  ·
                    refine aw_iload (i := 4) dX8_beginning_103 rfl ?_
                    refine aw_ineg dX8_beginning_105 ?_
                    refine aw_goto (tgt := 111) dX8_beginning_106 (by decide) ?_
                    exact aw_iret rfl dX8_beginning_111 ⟨rfl, rfl⟩
                ·
                  exact absurd h88 (by decide)
              ·
                exact absurd h71 (by decide)
        ·
          exact absurd h27 (by decide)
    ·
      exact absurd h10 (by decide)
  ·
    refine aw_istore_n (i := 3) dX8_beginning_6 rfl (by decide) ?_
    refine aw_iload_n (i := 3) dX8_beginning_7 rfl rfl ?_
    refine aw_bipush (v := 6) dX8_beginning_8 (by decide) ?_
    refine aw_icmp_ne (tgt := 19) dX8_beginning_10 (by decide) (fun h10 => ?_) (fun h10 => ?_)
    ·
      refine aw_iload_n (i := 3) dX8_beginning_19 rfl rfl ?_
      refine aw_iconst (v := 1) dX8_beginning_20 (by decide) ?_
      refine aw_icmp_eq (tgt := 30) dX8_beginning_21 (by decide) (fun h21 => ?_) (fun h21 => ?_)
      ·
        exact absurd h21 (by decide)
      ·
        refine aw_iload_n (i := 3) dX8_beginning_24 rfl rfl ?_
        refine aw_bipush (v := 6) dX8_beginning_25 (by decide) ?_
        refine aw_icmp_ne (tgt := 36) dX8_beginning_27 (by decide) (fun h27 => ?_) (fun h27 => ?_)
        ·
          refine aw_iload_n (i := 3) dX8_beginning_36 rfl rfl ?_
          refine aw_iconst (v := 4) dX8_beginning_37 (by decide) ?_
          refine aw_icmp_ne (tgt := 47) dX8_beginning_38 (by decide) (fun h38 => ?_) (fun h38 => ?_)
          ·
            refine aw_aload_n (i := 0) dX8_beginning_47 rfl rfl ?_
            refine aw_bipush (v := 11) dX8_beginning_48 (by decide) ?_
            refine aw_cVv ck_X8_306 (m_X8_body hr (by omega)) sh_105 rfl (by decide) (by decide) rfl rfl (Nat.le_of_ble_eq_true rfl) dX8_beginning_50 ?_
            refine aw_aload_n (i := 0) dX8_beginning_53 rfl rfl ?_
            refine aw_iload_n (i := 1) dX8_beginning_54 rfl rfl ?_
            refine aw_iload_n (i := 2) dX8_beginning_55 rfl rfl ?_
            refine aw_cVi ck_X8_310 (m_X8_hears (kk := 5) (r := r + 1) hp (by decide) (show _ = nI 5 from hk) bodM_r (by omega)) sh_105 rfl (by decide) (by decide) rfl rfl (Nat.le_of_ble_eq_true rfl) dX8_beginning_56 ?_
            refine aw_iconst (v := 2) dX8_beginning_59 (by decide) ?_
            refine aw_imul dX8_beginning_60 ?_
            refine aw_istore (i := 4) dX8_beginning_61 (by decide) ?_
            refine aw_iload_n (i := 3) dX8_beginning_63 rfl rfl ?_
            refine aw_iconst (v := 1) dX8_beginning_64 (by decide) ?_
            refine aw_icmp_eq (tgt := 74) dX8_beginning_65 (by decide) (fun h65 => ?_) (fun h65 => ?_)
            ·
              exact absurd h65 (by decide)
            ·
              refine aw_iload_n (i := 3) dX8_beginning_68 rfl rfl ?_
              refine aw_bipush (v := 6) dX8_beginning_69 (by decide) ?_
              refine aw_icmp_ne (tgt := 85) dX8_beginning_71 (by decide) (fun h71 => ?_) (fun h71 => ?_)
              ·
                refine aw_iload_n (i := 3) dX8_beginning_85 rfl rfl ?_
                refine aw_bipush (v := 6) dX8_beginning_86 (by decide) ?_
                refine aw_icmp_ne (tgt := 98) dX8_beginning_88 (by decide) (fun h88 => ?_) (fun h88 => ?_)
                ·
                  refine aw_iload_n (i := 3) dX8_beginning_98 rfl rfl ?_
                  refine aw_iconst (v := 4) dX8_beginning_99 (by decide) ?_
                  refine aw_icmp_ne (tgt := 109) dX8_beginning_100 (by decide) (fun h100 => ?_) (fun h100 => ?_)
                  ·
                    refine aw_iload (i := 4) dX8_beginning_109 rfl ?_
                    exact aw_iret rfl dX8_beginning_111 ⟨rfl, rfl⟩
                  ·
                    exact absurd h100 (by decide)
                ·
                  exact absurd h88 (by decide)
              ·
                exact absurd h71 (by decide)
          ·
            exact absurd h38 (by decide)
        ·
          exact absurd h27 (by decide)
    ·
      exact absurd h10 (by decide)
  ·
    refine aw_istore_n (i := 3) dX8_beginning_6 rfl (by decide) ?_
    refine aw_iload_n (i := 3) dX8_beginning_7 rfl rfl ?_
    refine aw_bipush (v := 6) dX8_beginning_8 (by decide) ?_
    refine aw_icmp_ne (tgt := 19) dX8_beginning_10 (by decide) (fun h10 => ?_) (fun h10 => ?_)
    ·
      exact absurd h10 (by decide)
    ·
      refine aw_aload_n (i := 0) dX8_beginning_13 rfl rfl ?_
      refine aw_bipush (v := 70) dX8_beginning_14 (by decide) ?_
      refine aw_cVv ck_X8_306 (m_X8_body hr (by omega)) sh_105 rfl (by decide) (by decide) rfl rfl (Nat.le_of_ble_eq_true rfl) dX8_beginning_16 ?_
      refine aw_iload_n (i := 3) dX8_beginning_19 rfl rfl ?_
      refine aw_iconst (v := 1) dX8_beginning_20 (by decide) ?_
      refine aw_icmp_eq (tgt := 30) dX8_beginning_21 (by decide) (fun h21 => ?_) (fun h21 => ?_)
      ·
        exact absurd h21 (by decide)
      ·
        refine aw_iload_n (i := 3) dX8_beginning_24 rfl rfl ?_
        refine aw_bipush (v := 6) dX8_beginning_25 (by decide) ?_
        refine aw_icmp_ne (tgt := 36) dX8_beginning_27 (by decide) (fun h27 => ?_) (fun h27 => ?_)
        ·
          exact absurd h27 (by decide)
        ·
          refine aw_aload_n (i := 0) dX8_beginning_30 rfl rfl ?_
          refine aw_bipush (v := 20) dX8_beginning_31 (by decide) ?_
          refine aw_cVv ck_X8_306 (m_X8_body (r := r + 1) bodM_r (by omega)) sh_105 rfl (by decide) (by decide) rfl rfl (Nat.le_of_ble_eq_true rfl) dX8_beginning_33 ?_
          refine aw_iload_n (i := 3) dX8_beginning_36 rfl rfl ?_
          refine aw_iconst (v := 4) dX8_beginning_37 (by decide) ?_
          refine aw_icmp_ne (tgt := 47) dX8_beginning_38 (by decide) (fun h38 => ?_) (fun h38 => ?_)
          ·
            refine aw_aload_n (i := 0) dX8_beginning_47 rfl rfl ?_
            refine aw_bipush (v := 11) dX8_beginning_48 (by decide) ?_
            refine aw_cVv ck_X8_306 (m_X8_body (r := r + 2) bodM_r (by omega)) sh_105 rfl (by decide) (by decide) rfl rfl (Nat.le_of_ble_eq_true rfl) dX8_beginning_50 ?_
            refine aw_aload_n (i := 0) dX8_beginning_53 rfl rfl ?_
            refine aw_iload_n (i := 1) dX8_beginning_54 rfl rfl ?_
            refine aw_iload_n (i := 2) dX8_beginning_55 rfl rfl ?_
            refine aw_cVi ck_X8_310 (m_X8_hears (kk := 6) (r := r + 3) hp (by decide) (show _ = nI 6 from hk) bodM_r (by omega)) sh_105 rfl (by decide) (by decide) rfl rfl (Nat.le_of_ble_eq_true rfl) dX8_beginning_56 ?_
            refine aw_iconst (v := 2) dX8_beginning_59 (by decide) ?_
            refine aw_imul dX8_beginning_60 ?_
            refine aw_istore (i := 4) dX8_beginning_61 (by decide) ?_
            refine aw_iload_n (i := 3) dX8_beginning_63 rfl rfl ?_
            refine aw_iconst (v := 1) dX8_beginning_64 (by decide) ?_
            refine aw_icmp_eq (tgt := 74) dX8_beginning_65 (by decide) (fun h65 => ?_) (fun h65 => ?_)
            ·
              exact absurd h65 (by decide)
            ·
              refine aw_iload_n (i := 3) dX8_beginning_68 rfl rfl ?_
              refine aw_bipush (v := 6) dX8_beginning_69 (by decide) ?_
              refine aw_icmp_ne (tgt := 85) dX8_beginning_71 (by decide) (fun h71 => ?_) (fun h71 => ?_)
              ·
                exact absurd h71 (by decide)
              ·
                refine aw_iload (i := 4) dX8_beginning_74 rfl ?_
                refine aw_aload_n (i := 0) dX8_beginning_76 rfl rfl ?_
                refine aw_getR gf_X8_32 sh_105 rfl dX8_beginning_77 ?_
                refine aw_iload_n (i := 1) dX8_beginning_80 rfl rfl ?_
                refine aw_ialdX sh_110 (by omega) (by decide) (show _ = M.1 110 p from rfl) dX8_beginning_81 ?_
                refine aw_iadd dX8_beginning_82 ?_
                refine aw_istore (i := 4) dX8_beginning_83 (by decide) ?_
                refine aw_iload_n (i := 3) dX8_beginning_85 rfl rfl ?_
                refine aw_bipush (v := 6) dX8_beginning_86 (by decide) ?_
                refine aw_icmp_ne (tgt := 98) dX8_beginning_88 (by decide) (fun h88 => ?_) (fun h88 => ?_)
                ·
                  exact absurd h88 (by decide)
                ·
                  refine aw_iload (i := 4) dX8_beginning_91 rfl ?_
                  refine aw_iconst (v := 2) dX8_beginning_93 (by decide) ?_
                  refine aw_imul dX8_beginning_94 ?_
                  refine aw_goto (tgt := 111) dX8_beginning_95 (by decide) ?_
                  exact aw_iret rfl dX8_beginning_111 ⟨rfl, rfl⟩
          ·
            exact absurd h38 (by decide)
def steR (kk : Nat) (m pc x : Int32) : Int32 × List Int32 := match kk with
  | 4 => (((begR 4 m pc x).1 ^^^ (heaR 4 m pc (x - pc)).1) - m, [50, 12] ++ (begR 4 m pc x).2 ++ (heaR 4 m pc (x - pc)).2)
  | 5 => (((begR 5 m pc x).1 ^^^ (heaR 5 m pc (x - pc)).1) ^^^ 5, [60, 12] ++ (begR 5 m pc x).2 ++ (heaR 5 m pc (x - pc)).2)
  | k => ((begR k m pc x).1 ^^^ (heaR k m pc (x - pc)).1, [12] ++ (begR k m pc x).2 ++ (heaR k m pc (x - pc)).2)
theorem m_X8_stepping {l : Launch} {M : Mm} {p kk r : Nat} {x : Int32} (hp : p < 30) (hkk : kk < 7) (hk : M.1 107 p = nI kk) (hr : M.1 105 54 = nI r) (h20 : r + 12 ≤ 20) : AMet l 4 yX8_stepping cX8_stepping 5 (some FieldType.int) [.ref 105, .int (nI p), .int x] M (QE (some (.int (steR kk (nI p) (M.1 110 p) x).1)) (tr8 r (steR kk (nI p) (M.1 110 p) x).2 M)) := by
  refine AMet.of (by decide) (by simp [aargs, Value.category]) ?_
  show AW l 4 yX8_stepping cX8_stepping 5 (some FieldType.int) 0 [some (.ref 105), some (.int (nI p)), some (.int x), none, none] [] M _
  refine aw_aload_n (i := 0) dX8_stepping_0 rfl rfl ?_
  refine aw_getR gf_X8_23 sh_105 rfl dX8_stepping_1 ?_
  refine aw_iload_n (i := 1) dX8_stepping_4 rfl rfl ?_
  refine aw_ialdX sh_107 (by omega) (by decide) hk dX8_stepping_5 ?_
  rcases (show kk = 0 ∨ kk = 1 ∨ kk = 2 ∨ kk = 3 ∨ kk = 4 ∨ kk = 5 ∨ kk = 6 by omega) with rfl | rfl | rfl | rfl | rfl | rfl | rfl
  ·
    refine aw_istore_n (i := 3) dX8_stepping_6 rfl (by decide) ?_
    refine aw_iload_n (i := 3) dX8_stepping_7 rfl rfl ?_
    refine aw_iconst (v := 4) dX8_stepping_8 (by decide) ?_
    refine aw_icmp_ne (tgt := 18) dX8_stepping_9 (by decide) (fun h9 => ?_) (fun h9 => ?_)
    ·
      refine aw_iload_n (i := 3) dX8_stepping_18 rfl rfl ?_
      refine aw_iconst (v := 5) dX8_stepping_19 (by decide) ?_
      refine aw_icmp_ne (tgt := 29) dX8_stepping_20 (by decide) (fun h20 => ?_) (fun h20 => ?_)
      ·
        refine aw_aload_n (i := 0) dX8_stepping_29 rfl rfl ?_
        refine aw_bipush (v := 12) dX8_stepping_30 (by decide) ?_
        refine aw_cVv ck_X8_306 (m_X8_body hr (by omega)) sh_105 rfl (by decide) (by decide) rfl rfl (Nat.le_of_ble_eq_true rfl) dX8_stepping_32 ?_
        refine aw_aload_n (i := 0) dX8_stepping_35 rfl rfl ?_
        refine aw_iload_n (i := 1) dX8_stepping_36 rfl rfl ?_
        refine aw_iload_n (i := 2) dX8_stepping_37 rfl rfl ?_
        refine aw_cVi ck_X8_313 (m_X8_beginning (kk := 0) (r := r + 1) hp (by decide) (show _ = nI 0 from hk) bodM_r (by omega)) sh_105 rfl (by decide) (by decide) rfl rfl (Nat.le_of_ble_eq_true rfl) dX8_stepping_38 ?_
        refine aw_istore (i := 4) dX8_stepping_41 (by decide) ?_
        refine aw_iload (i := 4) dX8_stepping_43 rfl ?_
        refine aw_aload_n (i := 0) dX8_stepping_45 rfl rfl ?_
        refine aw_iload_n (i := 1) dX8_stepping_46 rfl rfl ?_
        refine aw_iload_n (i := 2) dX8_stepping_47 rfl rfl ?_
        refine aw_aload_n (i := 0) dX8_stepping_48 rfl rfl ?_
        refine aw_getR gf_X8_32 sh_105 rfl dX8_stepping_49 ?_
        refine aw_iload_n (i := 1) dX8_stepping_52 rfl rfl ?_
        refine aw_ialdX sh_110 (by omega) (by decide) (show _ = M.1 110 p from rfl) dX8_stepping_53 ?_
        refine aw_isub dX8_stepping_54 ?_
        refine aw_cVi ck_X8_310 (m_X8_hears (kk := 0) (r := r + 1 + 2) hp (by decide) (show _ = nI 0 from hk) (tr8_r _ _ _ bodM_r) (by omega)) sh_105 rfl (by decide) (by decide) rfl rfl (Nat.le_of_ble_eq_true rfl) dX8_stepping_55 ?_
        refine aw_ixor dX8_stepping_58 ?_
        refine aw_istore (i := 4) dX8_stepping_59 (by decide) ?_
        refine aw_iload_n (i := 3) dX8_stepping_61 rfl rfl ?_
        refine aw_iconst (v := 4) dX8_stepping_62 (by decide) ?_
        refine aw_icmp_ne (tgt := 73) dX8_stepping_63 (by decide) (fun h63 => ?_) (fun h63 => ?_)
        ·
          refine aw_iload_n (i := 3) dX8_stepping_73 rfl rfl ?_
          refine aw_iconst (v := 5) dX8_stepping_74 (by decide) ?_
          refine aw_icmp_ne (tgt := 85) dX8_stepping_75 (by decide) (fun h75 => ?_) (fun h75 => ?_)
          ·
            refine aw_iload (i := 4) dX8_stepping_85 rfl ?_
            exact aw_iret rfl dX8_stepping_87 ⟨rfl, rfl⟩
          ·
            exact absurd h75 (by decide)
        ·
          exact absurd h63 (by decide)
      ·
        exact absurd h20 (by decide)
    ·
      exact absurd h9 (by decide)
  ·
    refine aw_istore_n (i := 3) dX8_stepping_6 rfl (by decide) ?_
    refine aw_iload_n (i := 3) dX8_stepping_7 rfl rfl ?_
    refine aw_iconst (v := 4) dX8_stepping_8 (by decide) ?_
    refine aw_icmp_ne (tgt := 18) dX8_stepping_9 (by decide) (fun h9 => ?_) (fun h9 => ?_)
    ·
      refine aw_iload_n (i := 3) dX8_stepping_18 rfl rfl ?_
      refine aw_iconst (v := 5) dX8_stepping_19 (by decide) ?_
      refine aw_icmp_ne (tgt := 29) dX8_stepping_20 (by decide) (fun h20 => ?_) (fun h20 => ?_)
      ·
        refine aw_aload_n (i := 0) dX8_stepping_29 rfl rfl ?_
        refine aw_bipush (v := 12) dX8_stepping_30 (by decide) ?_
        refine aw_cVv ck_X8_306 (m_X8_body hr (by omega)) sh_105 rfl (by decide) (by decide) rfl rfl (Nat.le_of_ble_eq_true rfl) dX8_stepping_32 ?_
        refine aw_aload_n (i := 0) dX8_stepping_35 rfl rfl ?_
        refine aw_iload_n (i := 1) dX8_stepping_36 rfl rfl ?_
        refine aw_iload_n (i := 2) dX8_stepping_37 rfl rfl ?_
        refine aw_cVi ck_X8_313 (m_X8_beginning (kk := 1) (r := r + 1) hp (by decide) (show _ = nI 1 from hk) bodM_r (by omega)) sh_105 rfl (by decide) (by decide) rfl rfl (Nat.le_of_ble_eq_true rfl) dX8_stepping_38 ?_
        refine aw_istore (i := 4) dX8_stepping_41 (by decide) ?_
        refine aw_iload (i := 4) dX8_stepping_43 rfl ?_
        refine aw_aload_n (i := 0) dX8_stepping_45 rfl rfl ?_
        refine aw_iload_n (i := 1) dX8_stepping_46 rfl rfl ?_
        refine aw_iload_n (i := 2) dX8_stepping_47 rfl rfl ?_
        refine aw_aload_n (i := 0) dX8_stepping_48 rfl rfl ?_
        refine aw_getR gf_X8_32 sh_105 rfl dX8_stepping_49 ?_
        refine aw_iload_n (i := 1) dX8_stepping_52 rfl rfl ?_
        refine aw_ialdX sh_110 (by omega) (by decide) (show _ = M.1 110 p from rfl) dX8_stepping_53 ?_
        refine aw_isub dX8_stepping_54 ?_
        refine aw_cVi ck_X8_310 (m_X8_hears (kk := 1) (r := r + 1 + 3) hp (by decide) (show _ = nI 1 from hk) (tr8_r _ _ _ bodM_r) (by omega)) sh_105 rfl (by decide) (by decide) rfl rfl (Nat.le_of_ble_eq_true rfl) dX8_stepping_55 ?_
        refine aw_ixor dX8_stepping_58 ?_
        refine aw_istore (i := 4) dX8_stepping_59 (by decide) ?_
        refine aw_iload_n (i := 3) dX8_stepping_61 rfl rfl ?_
        refine aw_iconst (v := 4) dX8_stepping_62 (by decide) ?_
        refine aw_icmp_ne (tgt := 73) dX8_stepping_63 (by decide) (fun h63 => ?_) (fun h63 => ?_)
        ·
          refine aw_iload_n (i := 3) dX8_stepping_73 rfl rfl ?_
          refine aw_iconst (v := 5) dX8_stepping_74 (by decide) ?_
          refine aw_icmp_ne (tgt := 85) dX8_stepping_75 (by decide) (fun h75 => ?_) (fun h75 => ?_)
          ·
            refine aw_iload (i := 4) dX8_stepping_85 rfl ?_
            exact aw_iret rfl dX8_stepping_87 ⟨rfl, rfl⟩
          ·
            exact absurd h75 (by decide)
        ·
          exact absurd h63 (by decide)
      ·
        exact absurd h20 (by decide)
    ·
      exact absurd h9 (by decide)
  ·
    refine aw_istore_n (i := 3) dX8_stepping_6 rfl (by decide) ?_
    refine aw_iload_n (i := 3) dX8_stepping_7 rfl rfl ?_
    refine aw_iconst (v := 4) dX8_stepping_8 (by decide) ?_
    refine aw_icmp_ne (tgt := 18) dX8_stepping_9 (by decide) (fun h9 => ?_) (fun h9 => ?_)
    ·
      refine aw_iload_n (i := 3) dX8_stepping_18 rfl rfl ?_
      refine aw_iconst (v := 5) dX8_stepping_19 (by decide) ?_
      refine aw_icmp_ne (tgt := 29) dX8_stepping_20 (by decide) (fun h20 => ?_) (fun h20 => ?_)
      ·
        refine aw_aload_n (i := 0) dX8_stepping_29 rfl rfl ?_
        refine aw_bipush (v := 12) dX8_stepping_30 (by decide) ?_
        refine aw_cVv ck_X8_306 (m_X8_body hr (by omega)) sh_105 rfl (by decide) (by decide) rfl rfl (Nat.le_of_ble_eq_true rfl) dX8_stepping_32 ?_
        refine aw_aload_n (i := 0) dX8_stepping_35 rfl rfl ?_
        refine aw_iload_n (i := 1) dX8_stepping_36 rfl rfl ?_
        refine aw_iload_n (i := 2) dX8_stepping_37 rfl rfl ?_
        refine aw_cVi ck_X8_313 (m_X8_beginning (kk := 2) (r := r + 1) hp (by decide) (show _ = nI 2 from hk) bodM_r (by omega)) sh_105 rfl (by decide) (by decide) rfl rfl (Nat.le_of_ble_eq_true rfl) dX8_stepping_38 ?_
        refine aw_istore (i := 4) dX8_stepping_41 (by decide) ?_
        refine aw_iload (i := 4) dX8_stepping_43 rfl ?_
        refine aw_aload_n (i := 0) dX8_stepping_45 rfl rfl ?_
        refine aw_iload_n (i := 1) dX8_stepping_46 rfl rfl ?_
        refine aw_iload_n (i := 2) dX8_stepping_47 rfl rfl ?_
        refine aw_aload_n (i := 0) dX8_stepping_48 rfl rfl ?_
        refine aw_getR gf_X8_32 sh_105 rfl dX8_stepping_49 ?_
        refine aw_iload_n (i := 1) dX8_stepping_52 rfl rfl ?_
        refine aw_ialdX sh_110 (by omega) (by decide) (show _ = M.1 110 p from rfl) dX8_stepping_53 ?_
        refine aw_isub dX8_stepping_54 ?_
        refine aw_cVi ck_X8_310 (m_X8_hears (kk := 2) (r := r + 1 + 3) hp (by decide) (show _ = nI 2 from hk) (tr8_r _ _ _ bodM_r) (by omega)) sh_105 rfl (by decide) (by decide) rfl rfl (Nat.le_of_ble_eq_true rfl) dX8_stepping_55 ?_
        refine aw_ixor dX8_stepping_58 ?_
        refine aw_istore (i := 4) dX8_stepping_59 (by decide) ?_
        refine aw_iload_n (i := 3) dX8_stepping_61 rfl rfl ?_
        refine aw_iconst (v := 4) dX8_stepping_62 (by decide) ?_
        refine aw_icmp_ne (tgt := 73) dX8_stepping_63 (by decide) (fun h63 => ?_) (fun h63 => ?_)
        ·
          refine aw_iload_n (i := 3) dX8_stepping_73 rfl rfl ?_
          refine aw_iconst (v := 5) dX8_stepping_74 (by decide) ?_
          refine aw_icmp_ne (tgt := 85) dX8_stepping_75 (by decide) (fun h75 => ?_) (fun h75 => ?_)
          ·
            refine aw_iload (i := 4) dX8_stepping_85 rfl ?_
            exact aw_iret rfl dX8_stepping_87 ⟨rfl, rfl⟩
          ·
            exact absurd h75 (by decide)
        ·
          exact absurd h63 (by decide)
      ·
        exact absurd h20 (by decide)
    ·
      exact absurd h9 (by decide)
  ·
    refine aw_istore_n (i := 3) dX8_stepping_6 rfl (by decide) ?_
    refine aw_iload_n (i := 3) dX8_stepping_7 rfl rfl ?_
    refine aw_iconst (v := 4) dX8_stepping_8 (by decide) ?_
    refine aw_icmp_ne (tgt := 18) dX8_stepping_9 (by decide) (fun h9 => ?_) (fun h9 => ?_)
    ·
      refine aw_iload_n (i := 3) dX8_stepping_18 rfl rfl ?_
      refine aw_iconst (v := 5) dX8_stepping_19 (by decide) ?_
      refine aw_icmp_ne (tgt := 29) dX8_stepping_20 (by decide) (fun h20 => ?_) (fun h20 => ?_)
      ·
        refine aw_aload_n (i := 0) dX8_stepping_29 rfl rfl ?_
        refine aw_bipush (v := 12) dX8_stepping_30 (by decide) ?_
        refine aw_cVv ck_X8_306 (m_X8_body hr (by omega)) sh_105 rfl (by decide) (by decide) rfl rfl (Nat.le_of_ble_eq_true rfl) dX8_stepping_32 ?_
        refine aw_aload_n (i := 0) dX8_stepping_35 rfl rfl ?_
        refine aw_iload_n (i := 1) dX8_stepping_36 rfl rfl ?_
        refine aw_iload_n (i := 2) dX8_stepping_37 rfl rfl ?_
        refine aw_cVi ck_X8_313 (m_X8_beginning (kk := 3) (r := r + 1) hp (by decide) (show _ = nI 3 from hk) bodM_r (by omega)) sh_105 rfl (by decide) (by decide) rfl rfl (Nat.le_of_ble_eq_true rfl) dX8_stepping_38 ?_
        refine aw_istore (i := 4) dX8_stepping_41 (by decide) ?_
        refine aw_iload (i := 4) dX8_stepping_43 rfl ?_
        refine aw_aload_n (i := 0) dX8_stepping_45 rfl rfl ?_
        refine aw_iload_n (i := 1) dX8_stepping_46 rfl rfl ?_
        refine aw_iload_n (i := 2) dX8_stepping_47 rfl rfl ?_
        refine aw_aload_n (i := 0) dX8_stepping_48 rfl rfl ?_
        refine aw_getR gf_X8_32 sh_105 rfl dX8_stepping_49 ?_
        refine aw_iload_n (i := 1) dX8_stepping_52 rfl rfl ?_
        refine aw_ialdX sh_110 (by omega) (by decide) (show _ = M.1 110 p from rfl) dX8_stepping_53 ?_
        refine aw_isub dX8_stepping_54 ?_
        refine aw_cVi ck_X8_310 (m_X8_hears (kk := 3) (r := r + 1 + 4) hp (by decide) (show _ = nI 3 from hk) (tr8_r _ _ _ bodM_r) (by omega)) sh_105 rfl (by decide) (by decide) rfl rfl (Nat.le_of_ble_eq_true rfl) dX8_stepping_55 ?_
        refine aw_ixor dX8_stepping_58 ?_
        refine aw_istore (i := 4) dX8_stepping_59 (by decide) ?_
        refine aw_iload_n (i := 3) dX8_stepping_61 rfl rfl ?_
        refine aw_iconst (v := 4) dX8_stepping_62 (by decide) ?_
        refine aw_icmp_ne (tgt := 73) dX8_stepping_63 (by decide) (fun h63 => ?_) (fun h63 => ?_)
        ·
          refine aw_iload_n (i := 3) dX8_stepping_73 rfl rfl ?_
          refine aw_iconst (v := 5) dX8_stepping_74 (by decide) ?_
          refine aw_icmp_ne (tgt := 85) dX8_stepping_75 (by decide) (fun h75 => ?_) (fun h75 => ?_)
          ·
            refine aw_iload (i := 4) dX8_stepping_85 rfl ?_
            exact aw_iret rfl dX8_stepping_87 ⟨rfl, rfl⟩
          ·
            exact absurd h75 (by decide)
        ·
          exact absurd h63 (by decide)
      ·
        exact absurd h20 (by decide)
    ·
      exact absurd h9 (by decide)
  ·
    refine aw_istore_n (i := 3) dX8_stepping_6 rfl (by decide) ?_
    refine aw_iload_n (i := 3) dX8_stepping_7 rfl rfl ?_
    refine aw_iconst (v := 4) dX8_stepping_8 (by decide) ?_
    refine aw_icmp_ne (tgt := 18) dX8_stepping_9 (by decide) (fun h9 => ?_) (fun h9 => ?_)
    ·
      exact absurd h9 (by decide)
    ·
      refine aw_aload_n (i := 0) dX8_stepping_12 rfl rfl ?_
      refine aw_bipush (v := 50) dX8_stepping_13 (by decide) ?_
      refine aw_cVv ck_X8_306 (m_X8_body hr (by omega)) sh_105 rfl (by decide) (by decide) rfl rfl (Nat.le_of_ble_eq_true rfl) dX8_stepping_15 ?_
      refine aw_iload_n (i := 3) dX8_stepping_18 rfl rfl ?_
      refine aw_iconst (v := 5) dX8_stepping_19 (by decide) ?_
      refine aw_icmp_ne (tgt := 29) dX8_stepping_20 (by decide) (fun h20 => ?_) (fun h20 => ?_)
      ·
        refine aw_aload_n (i := 0) dX8_stepping_29 rfl rfl ?_
        refine aw_bipush (v := 12) dX8_stepping_30 (by decide) ?_
        refine aw_cVv ck_X8_306 (m_X8_body (r := r + 1) bodM_r (by omega)) sh_105 rfl (by decide) (by decide) rfl rfl (Nat.le_of_ble_eq_true rfl) dX8_stepping_32 ?_
        refine aw_aload_n (i := 0) dX8_stepping_35 rfl rfl ?_
        refine aw_iload_n (i := 1) dX8_stepping_36 rfl rfl ?_
        refine aw_iload_n (i := 2) dX8_stepping_37 rfl rfl ?_
        refine aw_cVi ck_X8_313 (m_X8_beginning (kk := 4) (r := r + 2) hp (by decide) (show _ = nI 4 from hk) bodM_r (by omega)) sh_105 rfl (by decide) (by decide) rfl rfl (Nat.le_of_ble_eq_true rfl) dX8_stepping_38 ?_
        refine aw_istore (i := 4) dX8_stepping_41 (by decide) ?_
        refine aw_iload (i := 4) dX8_stepping_43 rfl ?_
        refine aw_aload_n (i := 0) dX8_stepping_45 rfl rfl ?_
        refine aw_iload_n (i := 1) dX8_stepping_46 rfl rfl ?_
        refine aw_iload_n (i := 2) dX8_stepping_47 rfl rfl ?_
        refine aw_aload_n (i := 0) dX8_stepping_48 rfl rfl ?_
        refine aw_getR gf_X8_32 sh_105 rfl dX8_stepping_49 ?_
        refine aw_iload_n (i := 1) dX8_stepping_52 rfl rfl ?_
        refine aw_ialdX sh_110 (by omega) (by decide) (show _ = M.1 110 p from rfl) dX8_stepping_53 ?_
        refine aw_isub dX8_stepping_54 ?_
        refine aw_cVi ck_X8_310 (m_X8_hears (kk := 4) (r := r + 2 + 4) hp (by decide) (show _ = nI 4 from hk) (tr8_r _ _ _ bodM_r) (by omega)) sh_105 rfl (by decide) (by decide) rfl rfl (Nat.le_of_ble_eq_true rfl) dX8_stepping_55 ?_
        refine aw_ixor dX8_stepping_58 ?_
        refine aw_istore (i := 4) dX8_stepping_59 (by decide) ?_
        refine aw_iload_n (i := 3) dX8_stepping_61 rfl rfl ?_
        refine aw_iconst (v := 4) dX8_stepping_62 (by decide) ?_
        refine aw_icmp_ne (tgt := 73) dX8_stepping_63 (by decide) (fun h63 => ?_) (fun h63 => ?_)
        ·
          exact absurd h63 (by decide)
        ·
          refine aw_iload (i := 4) dX8_stepping_66 rfl ?_
          refine aw_iload_n (i := 1) dX8_stepping_68 rfl rfl ?_
          refine aw_isub dX8_stepping_69 ?_
          refine aw_goto (tgt := 87) dX8_stepping_70 (by decide) ?_
          exact aw_iret rfl dX8_stepping_87 ⟨rfl, rfl⟩
      ·
        exact absurd h20 (by decide)
  ·
    refine aw_istore_n (i := 3) dX8_stepping_6 rfl (by decide) ?_
    refine aw_iload_n (i := 3) dX8_stepping_7 rfl rfl ?_
    refine aw_iconst (v := 4) dX8_stepping_8 (by decide) ?_
    refine aw_icmp_ne (tgt := 18) dX8_stepping_9 (by decide) (fun h9 => ?_) (fun h9 => ?_)
    ·
      refine aw_iload_n (i := 3) dX8_stepping_18 rfl rfl ?_
      refine aw_iconst (v := 5) dX8_stepping_19 (by decide) ?_
      refine aw_icmp_ne (tgt := 29) dX8_stepping_20 (by decide) (fun h20 => ?_) (fun h20 => ?_)
      ·
        exact absurd h20 (by decide)
      ·
        refine aw_aload_n (i := 0) dX8_stepping_23 rfl rfl ?_
        refine aw_bipush (v := 60) dX8_stepping_24 (by decide) ?_
        refine aw_cVv ck_X8_306 (m_X8_body hr (by omega)) sh_105 rfl (by decide) (by decide) rfl rfl (Nat.le_of_ble_eq_true rfl) dX8_stepping_26 ?_
        refine aw_aload_n (i := 0) dX8_stepping_29 rfl rfl ?_
        refine aw_bipush (v := 12) dX8_stepping_30 (by decide) ?_
        refine aw_cVv ck_X8_306 (m_X8_body (r := r + 1) bodM_r (by omega)) sh_105 rfl (by decide) (by decide) rfl rfl (Nat.le_of_ble_eq_true rfl) dX8_stepping_32 ?_
        refine aw_aload_n (i := 0) dX8_stepping_35 rfl rfl ?_
        refine aw_iload_n (i := 1) dX8_stepping_36 rfl rfl ?_
        refine aw_iload_n (i := 2) dX8_stepping_37 rfl rfl ?_
        refine aw_cVi ck_X8_313 (m_X8_beginning (kk := 5) (r := r + 2) hp (by decide) (show _ = nI 5 from hk) bodM_r (by omega)) sh_105 rfl (by decide) (by decide) rfl rfl (Nat.le_of_ble_eq_true rfl) dX8_stepping_38 ?_
        refine aw_istore (i := 4) dX8_stepping_41 (by decide) ?_
        refine aw_iload (i := 4) dX8_stepping_43 rfl ?_
        refine aw_aload_n (i := 0) dX8_stepping_45 rfl rfl ?_
        refine aw_iload_n (i := 1) dX8_stepping_46 rfl rfl ?_
        refine aw_iload_n (i := 2) dX8_stepping_47 rfl rfl ?_
        refine aw_aload_n (i := 0) dX8_stepping_48 rfl rfl ?_
        refine aw_getR gf_X8_32 sh_105 rfl dX8_stepping_49 ?_
        refine aw_iload_n (i := 1) dX8_stepping_52 rfl rfl ?_
        refine aw_ialdX sh_110 (by omega) (by decide) (show _ = M.1 110 p from rfl) dX8_stepping_53 ?_
        refine aw_isub dX8_stepping_54 ?_
        refine aw_cVi ck_X8_310 (m_X8_hears (kk := 5) (r := r + 2 + 3) hp (by decide) (show _ = nI 5 from hk) (tr8_r _ _ _ bodM_r) (by omega)) sh_105 rfl (by decide) (by decide) rfl rfl (Nat.le_of_ble_eq_true rfl) dX8_stepping_55 ?_
        refine aw_ixor dX8_stepping_58 ?_
        refine aw_istore (i := 4) dX8_stepping_59 (by decide) ?_
        refine aw_iload_n (i := 3) dX8_stepping_61 rfl rfl ?_
        refine aw_iconst (v := 4) dX8_stepping_62 (by decide) ?_
        refine aw_icmp_ne (tgt := 73) dX8_stepping_63 (by decide) (fun h63 => ?_) (fun h63 => ?_)
        ·
          refine aw_iload_n (i := 3) dX8_stepping_73 rfl rfl ?_
          refine aw_iconst (v := 5) dX8_stepping_74 (by decide) ?_
          refine aw_icmp_ne (tgt := 85) dX8_stepping_75 (by decide) (fun h75 => ?_) (fun h75 => ?_)
          ·
            exact absurd h75 (by decide)
          ·
            refine aw_iload (i := 4) dX8_stepping_78 rfl ?_
            refine aw_iconst (v := 5) dX8_stepping_80 (by decide) ?_
            refine aw_ixor dX8_stepping_81 ?_
            refine aw_goto (tgt := 87) dX8_stepping_82 (by decide) ?_
            exact aw_iret rfl dX8_stepping_87 ⟨rfl, rfl⟩
        ·
          exact absurd h63 (by decide)
    ·
      exact absurd h9 (by decide)
  ·
    refine aw_istore_n (i := 3) dX8_stepping_6 rfl (by decide) ?_
    refine aw_iload_n (i := 3) dX8_stepping_7 rfl rfl ?_
    refine aw_iconst (v := 4) dX8_stepping_8 (by decide) ?_
    refine aw_icmp_ne (tgt := 18) dX8_stepping_9 (by decide) (fun h9 => ?_) (fun h9 => ?_)
    ·
      refine aw_iload_n (i := 3) dX8_stepping_18 rfl rfl ?_
      refine aw_iconst (v := 5) dX8_stepping_19 (by decide) ?_
      refine aw_icmp_ne (tgt := 29) dX8_stepping_20 (by decide) (fun h20 => ?_) (fun h20 => ?_)
      ·
        refine aw_aload_n (i := 0) dX8_stepping_29 rfl rfl ?_
        refine aw_bipush (v := 12) dX8_stepping_30 (by decide) ?_
        refine aw_cVv ck_X8_306 (m_X8_body hr (by omega)) sh_105 rfl (by decide) (by decide) rfl rfl (Nat.le_of_ble_eq_true rfl) dX8_stepping_32 ?_
        refine aw_aload_n (i := 0) dX8_stepping_35 rfl rfl ?_
        refine aw_iload_n (i := 1) dX8_stepping_36 rfl rfl ?_
        refine aw_iload_n (i := 2) dX8_stepping_37 rfl rfl ?_
        refine aw_cVi ck_X8_313 (m_X8_beginning (kk := 6) (r := r + 1) hp (by decide) (show _ = nI 6 from hk) bodM_r (by omega)) sh_105 rfl (by decide) (by decide) rfl rfl (Nat.le_of_ble_eq_true rfl) dX8_stepping_38 ?_
        refine aw_istore (i := 4) dX8_stepping_41 (by decide) ?_
        refine aw_iload (i := 4) dX8_stepping_43 rfl ?_
        refine aw_aload_n (i := 0) dX8_stepping_45 rfl rfl ?_
        refine aw_iload_n (i := 1) dX8_stepping_46 rfl rfl ?_
        refine aw_iload_n (i := 2) dX8_stepping_47 rfl rfl ?_
        refine aw_aload_n (i := 0) dX8_stepping_48 rfl rfl ?_
        refine aw_getR gf_X8_32 sh_105 rfl dX8_stepping_49 ?_
        refine aw_iload_n (i := 1) dX8_stepping_52 rfl rfl ?_
        refine aw_ialdX sh_110 (by omega) (by decide) (show _ = M.1 110 p from rfl) dX8_stepping_53 ?_
        refine aw_isub dX8_stepping_54 ?_
        refine aw_cVi ck_X8_310 (m_X8_hears (kk := 6) (r := r + 1 + 5) hp (by decide) (show _ = nI 6 from hk) (tr8_r _ _ _ bodM_r) (by omega)) sh_105 rfl (by decide) (by decide) rfl rfl (Nat.le_of_ble_eq_true rfl) dX8_stepping_55 ?_
        refine aw_ixor dX8_stepping_58 ?_
        refine aw_istore (i := 4) dX8_stepping_59 (by decide) ?_
        refine aw_iload_n (i := 3) dX8_stepping_61 rfl rfl ?_
        refine aw_iconst (v := 4) dX8_stepping_62 (by decide) ?_
        refine aw_icmp_ne (tgt := 73) dX8_stepping_63 (by decide) (fun h63 => ?_) (fun h63 => ?_)
        ·
          refine aw_iload_n (i := 3) dX8_stepping_73 rfl rfl ?_
          refine aw_iconst (v := 5) dX8_stepping_74 (by decide) ?_
          refine aw_icmp_ne (tgt := 85) dX8_stepping_75 (by decide) (fun h75 => ?_) (fun h75 => ?_)
          ·
            refine aw_iload (i := 4) dX8_stepping_85 rfl ?_
            exact aw_iret rfl dX8_stepping_87 ⟨rfl, rfl⟩
          ·
            exact absurd h75 (by decide)
        ·
          exact absurd h63 (by decide)
      ·
        exact absurd h20 (by decide)
    ·
      exact absurd h9 (by decide)
