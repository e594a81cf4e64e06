def wdF (j : Nat) : Int32 := [(99 : Int32), 97, 116, 99, 104, 32, 0, 110, 101, 97, 114, 32, 0, 115, 116, 111, 112, 32, 0, 116, 105, 114, 101, 32, 0, 104, 97, 108, 102, 32, 0, 115, 101, 101, 32, 0, 115, 116, 97, 110, 100, 32, 0].getD j 0
def wst (w : Nat) : Nat := [0, 7, 13, 19, 25, 31, 36, 43].getD w 0
def wl (w : Nat) : Nat := [6, 5, 5, 5, 5, 4, 6].getD w 0
theorem wst_ok : ∀ w, w < 7 → wst w + wl w < 43 ∧ wl w ≤ 6 ∧ wst w + wl w + 1 = wst (w + 1) := by decide
theorem wd_0 : ∀ w, w < 7 → ∀ j, j ≤ wl w → (wdF (wst w + j) = 0 ↔ j = wl w) := by decide +kernel
def sgF (M : Mm) (k : Nat) (q : Nat) : Int32 := (M.2 124 (100 * k + q)).toInt32
def alP8 (f : Nat → Int32) (z p w j : Nat) : Prop := p + j < z ∧ f (p + j) = wdF (wst w + j)
noncomputable def alk8 (f : Nat → Int32) (z p w : Nat) : Nat := whileN (alP8 f z p w) (wl w) 0
theorem alk8_le (f : Nat → Int32) (z p w : Nat) : alk8 f z p w ≤ wl w := by have := whileN_le (P := alP8 f z p w) (wl w) 0; unfold alk8; omega
theorem alk8_z {f : Nat → Int32} {z p : Nat} (w : Nat) (hp : p ≤ z) : p + alk8 f z p w ≤ z := by
  by_cases h : alk8 f z p w = 0
  · omega
  · have := while_all (P := alP8 f z p w) (wl w) 0 (alk8 f z p w - 1) (by omega) (by unfold alk8 at h ⊢; omega)
    have := this.1
    omega
noncomputable def nw8 (f : Nat → Int32) (z p : Nat) : Nat := whileN (fun w => ¬ alk8 f z p w = wl w) 7 0
theorem nw8_le (f : Nat → Int32) (z p : Nat) : nw8 f z p ≤ 7 := by have := whileN_le (P := fun w => ¬ alk8 f z p w = wl w) 7 0; unfold nw8; omega
theorem whileN_stop {P : Nat → Prop} : ∀ (k a : Nat), whileN P k a < a + k → ¬ P (whileN P k a)
  | 0, a, h => absurd h (by show ¬ a < a + 0; omega)
  | k + 1, a, h => by
    by_cases q : P a
    · have e : whileN P (k + 1) a = whileN P k (a + 1) := pIf_t q
      rw [e] at h ⊢
      exact whileN_stop k (a + 1) (by omega)
    · rw [whileN_f q]
      exact q
theorem nw8_f {f : Nat → Int32} {z p : Nat} (h : nw8 f z p < 7) : alk8 f z p (nw8 f z p) = wl (nw8 f z p) := Classical.not_not.mp (whileN_stop (P := fun w => ¬ alk8 f z p w = wl w) 7 0 (by unfold nw8 at h; omega))
noncomputable def p18 (f : Nat → Int32) (z p : Nat) : Nat := p + wl (nw8 f z p)
theorem p18_z {f : Nat → Int32} {z p : Nat} (hp : p ≤ z) (h : nw8 f z p < 7) : p18 f z p ≤ z := by
  have := alk8_z (f := f) (z := z) (p := p) (nw8 f z p) hp
  rw [nw8_f h] at this
  exact this
/-- the reader of the model: what it told, where it is, what is wrong -/
def cn8 (B : Mm) (T : Nat → Int32) (p : Nat) (wr : Int32) : Mm := rI (rI B 105 (upd (upd (B.1 105) 32 (nI p)) 34 wr)) 127 T
section CN8
variable {B : Mm} {T : Nat → Int32} {p : Nat} {wr : Int32}
theorem cn8_105 : (cn8 B T p wr).1 105 = upd (upd (B.1 105) 32 (nI p)) 34 wr := (rI_other (by decide)).trans (rI_self _ _ _)
theorem cn8_127 : (cn8 B T p wr).1 127 = T := rI_self _ _ _
theorem cn8_o {k : Nat} (h : k ≠ 105 ∧ k ≠ 127) : (cn8 B T p wr).1 k = B.1 k := (rI_other h.2).trans (rI_other h.1)
theorem cn8_f {j : Nat} (h : j ≠ 32 ∧ j ≠ 34) : (cn8 B T p wr).1 105 j = B.1 105 j := by rw [cn8_105, upd_other h.2, upd_other h.1]
theorem cn8_p : (cn8 B T p wr).1 105 32 = nI p := by rw [cn8_105, upd_other (by decide), upd_self]
theorem cn8_w : (cn8 B T p wr).1 105 34 = wr := by rw [cn8_105, upd_self]
theorem upd_swap (f : Nat → Int32) {i j : Nat} (h : i ≠ j) (x y : Int32) : upd (upd f i x) j y = upd (upd f j y) i x := by
  funext k
  show (if k = j then y else if k = i then x else f k) = (if k = i then x else if k = j then y else f k)
  by_cases e : k = j
  · rw [if_pos e, if_neg (fun z => h (z.symm.trans e)), if_pos e]
  · rw [if_neg e, if_neg e]
theorem cn_32 (q : Nat) : mI (cn8 B T p wr) 105 32 (nI q) = cn8 B T q wr := by
  rw [mI_rI, cn8_105]
  unfold cn8
  rw [rI_comm (show 127 ≠ 105 by decide), rI_rI]
  have e : upd (upd (upd (B.1 105) 32 (nI p)) 34 wr) 32 (nI q) = upd (upd (B.1 105) 32 (nI q)) 34 wr := by
    rw [upd_swap _ (show 34 ≠ 32 by decide), upd_upd]
  rw [e]
theorem cn_34 (w : Int32) : mI (cn8 B T p wr) 105 34 w = cn8 B T p w := by
  rw [mI_rI, cn8_105]
  unfold cn8
  rw [rI_comm (show 127 ≠ 105 by decide), rI_rI, upd_upd]
theorem cn_127 (i : Nat) (v : Int32) : mI (cn8 B T p wr) 127 i v = cn8 B (upd T i v) p wr := by
  rw [mI_rI, cn8_127]
  unfold cn8
  rw [rI_rI]
theorem upd_id {f : Nat → Int32} {i : Nat} {v : Int32} (h : f i = v) : upd f i v = f := by
  funext j
  show (if j = i then v else f j) = f j
  by_cases e : j = i
  · rw [if_pos e, e, h]
  · rw [if_neg e]
theorem cn_id (h : B.1 105 32 = nI p) : cn8 B (B.1 127) p (B.1 105 34) = B := by
  unfold cn8
  rw [upd_id h, upd_id (show B.1 105 34 = B.1 105 34 from rfl), rI_id, rI_id]
end CN8
/-- what the reader of the model reads -/
def RB8 (B : Mm) (k z : Nat) : Prop := B.1 105 31 = nI (100 * k) ∧ B.1 105 33 = nI z ∧ k < 8 ∧ z ≤ 100 ∧ ∀ j, j < 43 → B.1 126 j = wdF j
theorem mx_le {p a j : Nat} (h : nI (p + j) ≤ nI (p + a)) (ha : p + a ≤ 1000) (hj : p + j ≤ 1000) : nI (p + a) = nI (p + max a j) := by
  have := (nI_leI (a := p + j) (b := p + a) (by omega) (by omega)).mp h
  rw [show max a j = a by omega]
theorem mx_gt {p a j : Nat} (h : ¬ nI (p + j) ≤ nI (p + a)) (ha : p + a ≤ 1000) (hj : p + j ≤ 1000) : nI (p + j) = nI (p + max a j) := by
  have : ¬ p + j ≤ p + a := fun q => h ((nI_leI (a := p + j) (b := p + a) (by omega) (by omega)).mpr q)
  rw [show max a j = j by omega]
set_option maxHeartbeats 4000000 in
theorem m_X8_word {l : Launch} {B : Mm} {T : Nat → Int32} {p k z : Nat} {wr : Int32} (hR : RB8 B k z) (hp : p ≤ z) : AMet l 1 yX8_word cX8_word 6 (some FieldType.int) [.ref 105] (cn8 B T p wr) (QE (some (.int (pIf (nw8 (sgF B k) z p < 7) (nI (nw8 (sgF B k) z p)) (-1)))) (pIf (nw8 (sgF B k) z p < 7) (cn8 B T (p18 (sgF B k) z p) wr) (cn8 B T p (nI (p + mxN (alk8 (sgF B k) z p) 7))))) := by
  refine AMet.of (by decide) (by simp [aargs, Value.category]) ?_
  show AW l 1 yX8_word cX8_word 6 (some FieldType.int) 0 [some (.ref 105), none, none, none, none, none] [] (cn8 B T p wr) _
  have hk8 := hR.2.2.1
  have hz1 := hR.2.2.2.1
  refine aw_iconst (v := 0) dX8_word_0 (by decide) ?_
  refine aw_istore_n (i := 1) dX8_word_1 rfl (by decide) ?_
  refine aw_aload_n (i := 0) dX8_word_2 rfl rfl ?_
  refine aw_getN (n := p) gf_X8_180 sh_105 rfl cn8_p dX8_word_3 ?_
  refine aw_istore_n (i := 2) dX8_word_6 rfl (by decide) ?_
  refine aw_iconst (v := 0) dX8_word_7 (by decide) ?_
  refine aw_istore_n (i := 3) dX8_word_8 rfl (by decide) ?_
  have lp9 : ∀ k9 w, w + k9 = 7 → whileN (fun w => ¬ alk8 (sgF B k) z p w = wl w) k9 w = nw8 (sgF B k) z p → AW l 1 yX8_word cX8_word 6 (some FieldType.int) 9 [some (.ref 105), some (.int (nI (wst w))), some (.int (nI (p + mxN (alk8 (sgF B k) z p) w))), some (.int (nI w)), none, none] [] (cn8 B T p wr) (QE (some (.int (pIf (nw8 (sgF B k) z p < 7) (nI (nw8 (sgF B k) z p)) (-1)))) (pIf (nw8 (sgF B k) z p < 7) (cn8 B T (p18 (sgF B k) z p) wr) (cn8 B T p (nI (p + mxN (alk8 (sgF B k) z p) 7))))) := by
    intro k9
    induction k9 using Nat.strongRecOn with
    | _ k9 ih =>
    intro w hk9 hW
    have hwd9 : ∀ j, j < 43 → (cn8 B T p wr).1 126 j = wdF j := fun j hj => (congrFun (cn8_o (by decide)) j).trans (hR.2.2.2.2 j hj)
    refine aw_iload_n (i := 3) dX8_word_9 rfl rfl ?_
    refine aw_bipush (v := 7) dX8_word_10 (by decide) ?_
    refine aw_top (show (7 : Int32) = nI 7 from rfl) ?_
    refine aw_icmp_geN (tgt := 130) (by omega) (by omega) dX8_word_12 (by decide) (fun h12 => ?_) (fun h12 => ?_)
    ·
      have eN : nw8 (sgF B k) z p = w := by rw [show k9 = 0 by omega] at hW; exact hW.symm
      refine aw_aload_n (i := 0) dX8_word_130 rfl rfl ?_
      refine aw_iload_n (i := 2) dX8_word_131 rfl rfl ?_
      refine aw_putI pf_X8_189 sh_105 rfl dX8_word_132 ?_
      refine aw_iconst (v := (-1)) dX8_word_135 (by decide) ?_
      exact aw_iret rfl dX8_word_136 ⟨by rw [eN, pIf_f (show ¬ w < 7 by omega)], by rw [cn_34, eN, pIf_f (show ¬ w < 7 by omega), show w = 7 by omega]⟩
    ·
      have J75 : ∀ j, j = alk8 (sgF B k) z p w → AW l 1 yX8_word cX8_word 6 (some FieldType.int) 75 [some (.ref 105), some (.int (nI (wst w))), some (.int (nI (p + mxN (alk8 (sgF B k) z p) w))), some (.int (nI w)), some (.int (nI (p + j))), some (.int (nI (wst w + j)))] [] (cn8 B T p wr) (QE (some (.int (pIf (nw8 (sgF B k) z p < 7) (nI (nw8 (sgF B k) z p)) (-1)))) (pIf (nw8 (sgF B k) z p < 7) (cn8 B T (p18 (sgF B k) z p) wr) (cn8 B T p (nI (p + mxN (alk8 (sgF B k) z p) 7))))) := by
        intro j hj
        obtain ⟨w1, w2, w3⟩ := wst_ok w (by omega)
        have hal := alk8_le (sgF B k) z p w
        have hm9 := alk8_z (f := sgF B k) (z := z) w hp
        have hmx : mxN (alk8 (sgF B k) z p) w ≤ z - p := mxN_le w (fun i hi => by have := alk8_z (f := sgF B k) (z := z) i hp; omega)
        refine aw_aload_n (i := 0) dX8_word_75 rfl rfl ?_
        refine aw_getR gf_X8_81 sh_105 rfl dX8_word_76 ?_
        refine aw_iload (i := 5) dX8_word_79 rfl ?_
        refine aw_ialdX sh_126 (by omega) (by decide) (hwd9 (wst w + j) (by omega)) dX8_word_81 ?_
        refine aw_if_ne (tgt := 93) dX8_word_82 (by decide) (fun h82 => ?_) (fun h82 => ?_)
        ·
          have hnf : ¬ alk8 (sgF B k) z p w = wl w := fun e => h82 ((wd_0 w (by omega) j (by omega)).mpr (hj.trans e))
          refine aw_iload (i := 4) dX8_word_93 rfl ?_
          refine aw_iload_n (i := 2) dX8_word_95 rfl rfl ?_
          refine aw_icmp_le (tgt := 104) dX8_word_96 (by decide) (fun h96 => ?_) (fun h96 => ?_)
          ·
            refine aw_iload_n (i := 2) dX8_word_104 rfl rfl ?_
            refine aw_top (z := nI (p + mxN (alk8 (sgF B k) z p) (w + 1))) ((mx_le h96 (by omega) (by omega)).trans (by rw [hj]; rfl)) ?_
            refine aw_istore_n (i := 2) dX8_word_105 rfl (by decide) ?_
            have lp106 : ∀ k5 j, j + k5 = wl w → AW l 1 yX8_word cX8_word 6 (some FieldType.int) 106 [some (.ref 105), some (.int (nI (wst w + j))), some (.int (nI (p + mxN (alk8 (sgF B k) z p) (w + 1)))), some (.int (nI w)), none, none] [] (cn8 B T p wr) (QE (some (.int (pIf (nw8 (sgF B k) z p < 7) (nI (nw8 (sgF B k) z p)) (-1)))) (pIf (nw8 (sgF B k) z p < 7) (cn8 B T (p18 (sgF B k) z p) wr) (cn8 B T p (nI (p + mxN (alk8 (sgF B k) z p) 7))))) := by
              intro k5
              induction k5 using Nat.strongRecOn with
              | _ k5 ih5 =>
              intro j hk5
              refine aw_aload_n (i := 0) dX8_word_106 rfl rfl ?_
              refine aw_getR gf_X8_81 sh_105 rfl dX8_word_107 ?_
              refine aw_iload_n (i := 1) dX8_word_110 rfl rfl ?_
              refine aw_ialdX sh_126 (by omega) (by decide) (hwd9 (wst w + j) (by omega)) dX8_word_111 ?_
              refine aw_if_eq (tgt := 121) dX8_word_112 (by decide) (fun h112 => ?_) (fun h112 => ?_)
              ·
                have e9 := (wd_0 w (by omega) j (by omega)).mp h112
                refine aw_iincN (i := 1) dX8_word_121 rfl (by decide) ?_
                refine aw_iincN (i := 3) dX8_word_124 rfl (by decide) ?_
                refine aw_goto (tgt := 9) dX8_word_127 (by decide) ?_
                refine aw_loc (la := [some (.ref 105), some (.int (nI (wst (w + 1)))), some (.int (nI (p + mxN (alk8 (sgF B k) z p) (w + 1)))), some (.int (nI (w + 1))), none, none]) ⟨rfl, congrArg (fun q => some (Value.int (nI q))) (show wst w + j + 1 = wst (w + 1) by omega), rfl, rfl, trivial⟩ ?_
                exact ih (k9 - 1) (by omega) (w + 1) (by omega) (by rw [whileN_t (P := fun w => ¬ alk8 (sgF B k) z p w = wl w) hnf (by omega)]; exact hW)
              ·
                have e9 : ¬ j = wl w := fun e => h112 ((wd_0 w (by omega) j (by omega)).mpr e)
                refine aw_iincN (i := 1) dX8_word_115 rfl (by decide) ?_
                refine aw_goto (tgt := 106) dX8_word_118 (by decide) ?_
                refine aw_loc (la := [some (.ref 105), some (.int (nI (wst w + (j + 1)))), some (.int (nI (p + mxN (alk8 (sgF B k) z p) (w + 1)))), some (.int (nI w)), none, none]) ⟨rfl, rfl, rfl, rfl, trivial⟩ ?_
                exact ih5 (k5 - 1) (by omega) (j + 1) (by omega)
            refine aw_loc (la := [some (.ref 105), some (.int (nI (wst w + 0))), some (.int (nI (p + mxN (alk8 (sgF B k) z p) (w + 1)))), some (.int (nI w)), none, none]) ⟨rfl, rfl, rfl, rfl, trivial⟩ ?_
            exact lp106 (wl w) 0 (by omega)
          ·
            refine aw_iload (i := 4) dX8_word_99 rfl ?_
            refine aw_goto (tgt := 105) dX8_word_101 (by decide) ?_
            refine aw_top (z := nI (p + mxN (alk8 (sgF B k) z p) (w + 1))) ((mx_gt h96 (by omega) (by omega)).trans (by rw [hj]; rfl)) ?_
            refine aw_istore_n (i := 2) dX8_word_105 rfl (by decide) ?_
            have lp106 : ∀ k5 j, j + k5 = wl w → AW l 1 yX8_word cX8_word 6 (some FieldType.int) 106 [some (.ref 105), some (.int (nI (wst w + j))), some (.int (nI (p + mxN (alk8 (sgF B k) z p) (w + 1)))), some (.int (nI w)), none, none] [] (cn8 B T p wr) (QE (some (.int (pIf (nw8 (sgF B k) z p < 7) (nI (nw8 (sgF B k) z p)) (-1)))) (pIf (nw8 (sgF B k) z p < 7) (cn8 B T (p18 (sgF B k) z p) wr) (cn8 B T p (nI (p + mxN (alk8 (sgF B k) z p) 7))))) := by
              intro k5
              induction k5 using Nat.strongRecOn with
              | _ k5 ih5 =>
              intro j hk5
              refine aw_aload_n (i := 0) dX8_word_106 rfl rfl ?_
              refine aw_getR gf_X8_81 sh_105 rfl dX8_word_107 ?_
              refine aw_iload_n (i := 1) dX8_word_110 rfl rfl ?_
              refine aw_ialdX sh_126 (by omega) (by decide) (hwd9 (wst w + j) (by omega)) dX8_word_111 ?_
              refine aw_if_eq (tgt := 121) dX8_word_112 (by decide) (fun h112 => ?_) (fun h112 => ?_)
              ·
                have e9 := (wd_0 w (by omega) j (by omega)).mp h112
                refine aw_iincN (i := 1) dX8_word_121 rfl (by decide) ?_
                refine aw_iincN (i := 3) dX8_word_124 rfl (by decide) ?_
                refine aw_goto (tgt := 9) dX8_word_127 (by decide) ?_
                refine aw_loc (la := [some (.ref 105), some (.int (nI (wst (w + 1)))), some (.int (nI (p + mxN (alk8 (sgF B k) z p) (w + 1)))), some (.int (nI (w + 1))), none, none]) ⟨rfl, congrArg (fun q => some (Value.int (nI q))) (show wst w + j + 1 = wst (w + 1) by omega), rfl, rfl, trivial⟩ ?_
                exact ih (k9 - 1) (by omega) (w + 1) (by omega) (by rw [whileN_t (P := fun w => ¬ alk8 (sgF B k) z p w = wl w) hnf (by omega)]; exact hW)
              ·
                have e9 : ¬ j = wl w := fun e => h112 ((wd_0 w (by omega) j (by omega)).mpr e)
                refine aw_iincN (i := 1) dX8_word_115 rfl (by decide) ?_
                refine aw_goto (tgt := 106) dX8_word_118 (by decide) ?_
                refine aw_loc (la := [some (.ref 105), some (.int (nI (wst w + (j + 1)))), some (.int (nI (p + mxN (alk8 (sgF B k) z p) (w + 1)))), some (.int (nI w)), none, none]) ⟨rfl, rfl, rfl, rfl, trivial⟩ ?_
                exact ih5 (k5 - 1) (by omega) (j + 1) (by omega)
            refine aw_loc (la := [some (.ref 105), some (.int (nI (wst w + 0))), some (.int (nI (p + mxN (alk8 (sgF B k) z p) (w + 1)))), some (.int (nI w)), none, none]) ⟨rfl, rfl, rfl, rfl, trivial⟩ ?_
            exact lp106 (wl w) 0 (by omega)
        ·
          have e9 : j = wl w := (wd_0 w (by omega) j (by omega)).mp h82
          have eN : nw8 (sgF B k) z p = w := by rw [whileN_f (P := fun w => ¬ alk8 (sgF B k) z p w = wl w) (fun q => q (hj.symm.trans e9))] at hW; exact hW.symm
          refine aw_aload_n (i := 0) dX8_word_85 rfl rfl ?_
          refine aw_iload (i := 4) dX8_word_86 rfl ?_
          refine aw_putI pf_X8_180 sh_105 rfl dX8_word_88 ?_
          refine aw_iload_n (i := 3) dX8_word_91 rfl rfl ?_
          exact aw_iret rfl dX8_word_92 ⟨by rw [eN, pIf_t (show w < 7 by omega)], by rw [cn_32]; unfold p18; rw [eN, pIf_t (show w < 7 by omega), e9]⟩
      obtain ⟨w1, w2, w3⟩ := wst_ok w (by omega)
      refine aw_aload_n (i := 0) dX8_word_15 rfl rfl ?_
      refine aw_getN (n := p) gf_X8_180 sh_105 rfl cn8_p dX8_word_16 ?_
      refine aw_istore (i := 4) dX8_word_19 (by decide) ?_
      refine aw_iload_n (i := 1) dX8_word_21 rfl rfl ?_
      refine aw_istore (i := 5) dX8_word_22 (by decide) ?_
      have lp24 : ∀ k6 j, j + k6 = wl w → whileN (alP8 (sgF B k) z p w) k6 j = alk8 (sgF B k) z p w → AW l 1 yX8_word cX8_word 6 (some FieldType.int) 24 [some (.ref 105), some (.int (nI (wst w))), some (.int (nI (p + mxN (alk8 (sgF B k) z p) w))), some (.int (nI w)), some (.int (nI (p + j))), some (.int (nI (wst w + j)))] [] (cn8 B T p wr) (QE (some (.int (pIf (nw8 (sgF B k) z p < 7) (nI (nw8 (sgF B k) z p)) (-1)))) (pIf (nw8 (sgF B k) z p < 7) (cn8 B T (p18 (sgF B k) z p) wr) (cn8 B T p (nI (p + mxN (alk8 (sgF B k) z p) 7))))) := by
        intro k6
        induction k6 using Nat.strongRecOn with
        | _ k6 ih6 =>
        intro j hk6 hK
        refine aw_aload_n (i := 0) dX8_word_24 rfl rfl ?_
        refine aw_getR gf_X8_81 sh_105 rfl dX8_word_25 ?_
        refine aw_iload (i := 5) dX8_word_28 rfl ?_
        refine aw_ialdX sh_126 (by omega) (by decide) (hwd9 (wst w + j) (by omega)) dX8_word_30 ?_
        refine aw_if_eq (tgt := 75) dX8_word_31 (by decide) (fun h31 => ?_) (fun h31 => ?_)
        ·
          exact J75 j (by have e9 := (wd_0 w (by omega) j (by omega)).mp h31; rw [show k6 = 0 by omega] at hK; exact hK)
        ·
          refine aw_iload (i := 4) dX8_word_34 rfl ?_
          refine aw_aload_n (i := 0) dX8_word_36 rfl rfl ?_
          refine aw_getN (n := z) gf_X8_183 sh_105 rfl ((cn8_f (by decide)).trans hR.2.1) dX8_word_37 ?_
          refine aw_icmp_geN (tgt := 75) (by omega) (by omega) dX8_word_40 (by decide) (fun h40 => ?_) (fun h40 => ?_)
          ·
            exact J75 j (by rw [whileN_f (P := (alP8 (sgF B k) z p w)) (fun q => absurd q.1 (by omega))] at hK; exact hK)
          ·
            have e9 : ¬ j = wl w := fun e => h31 ((wd_0 w (by omega) j (by omega)).mpr e)
            refine aw_aload_n (i := 0) dX8_word_43 rfl rfl ?_
            refine aw_getR gf_X8_74 sh_105 rfl dX8_word_44 ?_
            refine aw_aload_n (i := 0) dX8_word_47 rfl rfl ?_
            refine aw_getN (n := (100 * k)) gf_X8_186 sh_105 rfl ((cn8_f (by decide)).trans hR.1) dX8_word_48 ?_
            refine aw_iload (i := 4) dX8_word_51 rfl ?_
            refine aw_iadd dX8_word_53 ?_
            refine aw_top (nI_add (100 * k) (p + j)) ?_
            refine aw_laldN sh_124 (by omega) (by omega) dX8_word_54 ?_
            refine aw_l2i dX8_word_55 ?_
            refine aw_top (show _ = sgF B k (p + j) from rfl) ?_
            refine aw_aload_n (i := 0) dX8_word_56 rfl rfl ?_
            refine aw_getR gf_X8_81 sh_105 rfl dX8_word_57 ?_
            refine aw_iload (i := 5) dX8_word_60 rfl ?_
            refine aw_ialdX sh_126 (by omega) (by decide) (hwd9 (wst w + j) (by omega)) dX8_word_62 ?_
            refine aw_icmp_ne (tgt := 75) dX8_word_63 (by decide) (fun h63 => ?_) (fun h63 => ?_)
            ·
              exact J75 j (by rw [whileN_f (P := (alP8 (sgF B k) z p w)) (fun q => absurd q.2 h63)] at hK; exact hK)
            ·
              refine aw_iincN (i := 4) dX8_word_66 rfl (by decide) ?_
              refine aw_iincN (i := 5) dX8_word_69 rfl (by decide) ?_
              refine aw_goto (tgt := 24) dX8_word_72 (by decide) ?_
              refine aw_loc (la := [some (.ref 105), some (.int (nI (wst w))), some (.int (nI (p + mxN (alk8 (sgF B k) z p) w))), some (.int (nI w)), some (.int (nI (p + (j + 1)))), some (.int (nI (wst w + (j + 1))))]) ⟨rfl, rfl, rfl, rfl, rfl, rfl, trivial⟩ ?_
              exact ih6 (k6 - 1) (by omega) (j + 1) (by omega) (by rw [whileN_t (P := (alP8 (sgF B k) z p w)) ⟨by omega, h63⟩ (by omega)]; exact hK)
      refine aw_loc (la := [some (.ref 105), some (.int (nI (wst w))), some (.int (nI (p + mxN (alk8 (sgF B k) z p) w))), some (.int (nI w)), some (.int (nI (p + 0))), some (.int (nI (wst w + 0)))]) ⟨rfl, rfl, rfl, rfl, rfl, rfl, trivial⟩ ?_
      exact lp24 (wl w) 0 (by omega) rfl
  refine aw_loc (la := [some (.ref 105), some (.int (nI (wst 0))), some (.int (nI (p + mxN (alk8 (sgF B k) z p) 0))), some (.int (nI 0)), none, none]) ⟨rfl, rfl, rfl, rfl, trivial⟩ ?_
  exact lp9 7 0 (by omega) rfl
theorem m_X8_isDigit {l : Launch} {B : Mm} {T : Nat → Int32} {p k z : Nat} {wr : Int32} (hR : RB8 B k z) (hp : p ≤ z) : AMet l 1 yX8_isDigit cX8_isDigit 1 (some FieldType.boolean) [.ref 105] (cn8 B T p wr) (QE (some (.int (b01 (dgP (sgF B k) z p)))) (cn8 B T p wr)) := by
  refine AMet.of (by decide) (by simp [aargs, Value.category]) ?_
  show AW l 1 yX8_isDigit cX8_isDigit 1 (some FieldType.boolean) 0 [some (.ref 105)] [] (cn8 B T p wr) _
  have hk8 := hR.2.2.1
  have hz1 := hR.2.2.2.1
  refine aw_aload_n (i := 0) dX8_isDigit_0 rfl rfl ?_
  refine aw_getN (n := p) gf_X8_180 sh_105 rfl cn8_p dX8_isDigit_1 ?_
  refine aw_aload_n (i := 0) dX8_isDigit_4 rfl rfl ?_
  refine aw_getN (n := z) gf_X8_183 sh_105 rfl ((cn8_f (by decide)).trans hR.2.1) dX8_isDigit_5 ?_
  refine aw_icmp_geN (tgt := 55) (by omega) (by omega) dX8_isDigit_8 (by decide) (fun h8 => ?_) (fun h8 => ?_)
  ·
    refine aw_iconst (v := 0) dX8_isDigit_55 (by decide) ?_
    exact aw_zret rfl (by simp) dX8_isDigit_56 ⟨by rw [b01_f (fun q : dgP (sgF B k) z p => by first | exact absurd q.1 (by omega) | exact q.2.1 h28 | exact q.2.2 h48)], rfl⟩
  ·
    refine aw_aload_n (i := 0) dX8_isDigit_11 rfl rfl ?_
    refine aw_getR gf_X8_74 sh_105 rfl dX8_isDigit_12 ?_
    refine aw_aload_n (i := 0) dX8_isDigit_15 rfl rfl ?_
    refine aw_getN (n := (100 * k)) gf_X8_186 sh_105 rfl ((cn8_f (by decide)).trans hR.1) dX8_isDigit_16 ?_
    refine aw_aload_n (i := 0) dX8_isDigit_19 rfl rfl ?_
    refine aw_getN (n := p) gf_X8_180 sh_105 rfl cn8_p dX8_isDigit_20 ?_
    refine aw_iadd dX8_isDigit_23 ?_
    refine aw_top (nI_add (100 * k) p) ?_
    refine aw_laldN sh_124 (by omega) (by omega) dX8_isDigit_24 ?_
    refine aw_l2i dX8_isDigit_25 ?_
    refine aw_top (show _ = sgF B k p from rfl) ?_
    refine aw_bipush (v := 48) dX8_isDigit_26 (by decide) ?_
    refine aw_icmp_lt (tgt := 55) dX8_isDigit_28 (by decide) (fun h28 => ?_) (fun h28 => ?_)
    ·
      refine aw_iconst (v := 0) dX8_isDigit_55 (by decide) ?_
      exact aw_zret rfl (by simp) dX8_isDigit_56 ⟨by rw [b01_f (fun q : dgP (sgF B k) z p => by first | exact absurd q.1 (by omega) | exact q.2.1 h28 | exact q.2.2 h48)], rfl⟩
    ·
      refine aw_aload_n (i := 0) dX8_isDigit_31 rfl rfl ?_
      refine aw_getR gf_X8_74 sh_105 rfl dX8_isDigit_32 ?_
      refine aw_aload_n (i := 0) dX8_isDigit_35 rfl rfl ?_
      refine aw_getN (n := (100 * k)) gf_X8_186 sh_105 rfl ((cn8_f (by decide)).trans hR.1) dX8_isDigit_36 ?_
      refine aw_aload_n (i := 0) dX8_isDigit_39 rfl rfl ?_
      refine aw_getN (n := p) gf_X8_180 sh_105 rfl cn8_p dX8_isDigit_40 ?_
      refine aw_iadd dX8_isDigit_43 ?_
      refine aw_top (nI_add (100 * k) p) ?_
      refine aw_laldN sh_124 (by omega) (by omega) dX8_isDigit_44 ?_
      refine aw_l2i dX8_isDigit_45 ?_
      refine aw_top (show _ = sgF B k p from rfl) ?_
      refine aw_bipush (v := 57) dX8_isDigit_46 (by decide) ?_
      refine aw_icmp_gt (tgt := 55) dX8_isDigit_48 (by decide) (fun h48 => ?_) (fun h48 => ?_)
      ·
        refine aw_iconst (v := 0) dX8_isDigit_55 (by decide) ?_
        exact aw_zret rfl (by simp) dX8_isDigit_56 ⟨by rw [b01_f (fun q : dgP (sgF B k) z p => by first | exact absurd q.1 (by omega) | exact q.2.1 h28 | exact q.2.2 h48)], rfl⟩
      ·
        refine aw_iconst (v := 1) dX8_isDigit_51 (by decide) ?_
        refine aw_goto (tgt := 56) dX8_isDigit_52 (by decide) ?_
        exact aw_zret rfl (by simp) dX8_isDigit_56 ⟨by rw [b01_t (show dgP (sgF B k) z p from ⟨by omega, h28, h48⟩)], rfl⟩
def ok8 (f : Nat → Int32) (z p : Nat) : Prop := nw8 f z p < 7 ∧ dgP f z (p18 f z p)
noncomputable def pl8 (f : Nat → Int32) (z p : Nat) : Nat := pIf (nw8 f z p < 7) (pIf (dgP f z (p18 f z p)) (pIf (dgP f z (p18 f z p + 1)) (p18 f z p + 1 + 1) (p18 f z p + 1)) (p18 f z p)) p
noncomputable def wr8 (f : Nat → Int32) (z p : Nat) : Int32 := pIf (nw8 f z p < 7) (nI (p18 f z p)) (nI (p + mxN (alk8 f z p) 7))
noncomputable def vl8 (f : Nat → Int32) (z p : Nat) : Int32 := pIf (dgP f z (p18 f z p + 1)) (10 * (f (p18 f z p) - 48) + f (p18 f z p + 1) - 48) (f (p18 f z p) - 48)
noncomputable def tl8 (f : Nat → Int32) (z : Nat) (T : Nat → Int32) (p : Nat) : Nat → Int32 := pIf (ok8 f z p) (upd T (nw8 f z p) (vl8 f z p)) T
theorem pl8_le {f : Nat → Int32} {z p : Nat} (hp : p ≤ z) : p ≤ pl8 f z p ∧ pl8 f z p ≤ z := by
  unfold pl8
  by_cases hN : nw8 f z p < 7
  · rw [pIf_t hN]
    have h1 := p18_z hp hN
    have h2 : p ≤ p18 f z p := by unfold p18; omega
    by_cases h : dgP f z (p18 f z p)
    · have h3 := h.1
      rw [pIf_t h]
      by_cases h4 : dgP f z (p18 f z p + 1)
      · have h5 := h4.1
        rw [pIf_t h4]
        omega
      · rw [pIf_f h4]
        omega
    · rw [pIf_f h]
      omega
  · rw [pIf_f hN]
    omega
theorem m_X8_oneLaw {l : Launch} {B : Mm} {T : Nat → Int32} {p k z : Nat} {wr : Int32} (hR : RB8 B k z) (hp : p ≤ z) : AMet l 3 yX8_oneLaw cX8_oneLaw 3 (some FieldType.boolean) [.ref 105] (cn8 B T p wr) (QE (some (.int (b01 (ok8 (sgF B k) z p)))) (cn8 B (tl8 (sgF B k) z T p) (pl8 (sgF B k) z p) (wr8 (sgF B k) z p))) := by
  refine AMet.of (by decide) (by simp [aargs, Value.category]) ?_
  show AW l 3 yX8_oneLaw cX8_oneLaw 3 (some FieldType.boolean) 0 [some (.ref 105), none, none] [] (cn8 B T p wr) _
  have hk8 := hR.2.2.1
  have hz1 := hR.2.2.2.1
  refine aw_aload_n (i := 0) dX8_oneLaw_0 rfl rfl ?_
  refine aw_cVi ck_X8_192 (m_X8_word hR hp) sh_105 rfl (by decide) (by decide) rfl rfl (Nat.le_of_ble_eq_true rfl) dX8_oneLaw_1 ?_
  by_cases hN : nw8 (sgF B k) z p < 7
  · rw [pIf_t hN, pIf_t hN]
    refine aw_istore_n (i := 1) dX8_oneLaw_4 rfl (by decide) ?_
    refine aw_iload_n (i := 1) dX8_oneLaw_5 rfl rfl ?_
    refine aw_iconst (v := (-1)) dX8_oneLaw_6 (by decide) ?_
    refine aw_icmp_ne (tgt := 12) dX8_oneLaw_7 (by decide) (fun h7 => ?_) (fun h7 => ?_)
    ·
      refine aw_aload_n (i := 0) dX8_oneLaw_12 rfl rfl ?_
      refine aw_aload_n (i := 0) dX8_oneLaw_13 rfl rfl ?_
      refine aw_getN (n := (p18 (sgF B k) z p)) gf_X8_180 sh_105 rfl cn8_p dX8_oneLaw_14 ?_
      refine aw_putI pf_X8_189 sh_105 rfl dX8_oneLaw_17 ?_
      refine aw_mem (cn_34 _) ?_
      refine aw_aload_n (i := 0) dX8_oneLaw_20 rfl rfl ?_
      refine aw_cVi ck_X8_196 (m_X8_isDigit hR (p18_z hp hN)) sh_105 rfl (by decide) (by decide) rfl rfl (Nat.le_of_ble_eq_true rfl) dX8_oneLaw_21 ?_
      refine aw_ifne_b (tgt := 29) dX8_oneLaw_24 (by decide) (fun h24 => ?_) (fun h24 => ?_)
      ·
        have hz9 := h24.1
        refine aw_aload_n (i := 0) dX8_oneLaw_29 rfl rfl ?_
        refine aw_getR gf_X8_74 sh_105 rfl dX8_oneLaw_30 ?_
        refine aw_aload_n (i := 0) dX8_oneLaw_33 rfl rfl ?_
        refine aw_getN (n := (100 * k)) gf_X8_186 sh_105 rfl ((cn8_f (by decide)).trans hR.1) dX8_oneLaw_34 ?_
        refine aw_aload_n (i := 0) dX8_oneLaw_37 rfl rfl ?_
        refine aw_getN (n := (p18 (sgF B k) z p)) gf_X8_180 sh_105 rfl cn8_p dX8_oneLaw_38 ?_
        refine aw_iadd dX8_oneLaw_41 ?_
        refine aw_top (nI_add (100 * k) (p18 (sgF B k) z p)) ?_
        refine aw_laldN sh_124 (by omega) (by omega) dX8_oneLaw_42 ?_
        refine aw_l2i dX8_oneLaw_43 ?_
        refine aw_top (show _ = sgF B k (p18 (sgF B k) z p) from rfl) ?_
        refine aw_bipush (v := 48) dX8_oneLaw_44 (by decide) ?_
        refine aw_isub dX8_oneLaw_46 ?_
        refine aw_istore_n (i := 2) dX8_oneLaw_47 rfl (by decide) ?_
        refine aw_aload_n (i := 0) dX8_oneLaw_48 rfl rfl ?_
        refine aw_dup dX8_oneLaw_49 rfl ?_
        refine aw_getN (n := (p18 (sgF B k) z p)) gf_X8_180 sh_105 rfl cn8_p dX8_oneLaw_50 ?_
        refine aw_iconst (v := 1) dX8_oneLaw_53 (by decide) ?_
        refine aw_iadd dX8_oneLaw_54 ?_
        refine aw_top ((nI_succ (p18 (sgF B k) z p)).symm) ?_
        refine aw_putI pf_X8_180 sh_105 rfl dX8_oneLaw_55 ?_
        refine aw_mem (cn_32 _) ?_
        refine aw_aload_n (i := 0) dX8_oneLaw_58 rfl rfl ?_
        refine aw_cVi ck_X8_196 (m_X8_isDigit hR (by have := h24.1; omega)) sh_105 rfl (by decide) (by decide) rfl rfl (Nat.le_of_ble_eq_true rfl) dX8_oneLaw_59 ?_
        refine aw_ifeq_b (tgt := 99) dX8_oneLaw_62 (by decide) (fun h62 => ?_) (fun h62 => ?_)
        ·
          refine aw_aload_n (i := 0) dX8_oneLaw_99 rfl rfl ?_
          refine aw_getR gf_X8_84 sh_105 rfl dX8_oneLaw_100 ?_
          refine aw_iload_n (i := 1) dX8_oneLaw_103 rfl rfl ?_
          refine aw_iload_n (i := 2) dX8_oneLaw_104 rfl rfl ?_
          refine aw_iastN sh_127 (by omega) (by omega) dX8_oneLaw_105 ?_
          refine aw_mem (cn_127 _ _) ?_
          refine aw_iconst (v := 1) dX8_oneLaw_106 (by decide) ?_
          exact aw_zret rfl (by simp) dX8_oneLaw_107 ⟨by rw [b01_t (show ok8 (sgF B k) z p from ⟨hN, h24⟩)], by rw [show tl8 (sgF B k) z T p = _ from (pIf_t ⟨hN, h24⟩).trans (congrArg (upd T (nw8 (sgF B k) z p)) (pIf_f h62)), show pl8 (sgF B k) z p = _ from (pIf_t hN).trans ((pIf_t h24).trans (pIf_f h62)), show wr8 (sgF B k) z p = _ from pIf_t hN]⟩
        ·
          refine aw_bipush (v := 10) dX8_oneLaw_65 (by decide) ?_
          refine aw_iload_n (i := 2) dX8_oneLaw_67 rfl rfl ?_
          have hz8 := h62.1
          refine aw_imul dX8_oneLaw_68 ?_
          refine aw_aload_n (i := 0) dX8_oneLaw_69 rfl rfl ?_
          refine aw_getR gf_X8_74 sh_105 rfl dX8_oneLaw_70 ?_
          refine aw_aload_n (i := 0) dX8_oneLaw_73 rfl rfl ?_
          refine aw_getN (n := (100 * k)) gf_X8_186 sh_105 rfl ((cn8_f (by decide)).trans hR.1) dX8_oneLaw_74 ?_
          refine aw_aload_n (i := 0) dX8_oneLaw_77 rfl rfl ?_
          refine aw_getN (n := ((p18 (sgF B k) z p) + 1)) gf_X8_180 sh_105 rfl cn8_p dX8_oneLaw_78 ?_
          refine aw_iadd dX8_oneLaw_81 ?_
          refine aw_top (nI_add (100 * k) ((p18 (sgF B k) z p) + 1)) ?_
          refine aw_laldN sh_124 (by omega) (by omega) dX8_oneLaw_82 ?_
          refine aw_l2i dX8_oneLaw_83 ?_
          refine aw_top (show _ = sgF B k ((p18 (sgF B k) z p) + 1) from rfl) ?_
          refine aw_iadd dX8_oneLaw_84 ?_
          refine aw_bipush (v := 48) dX8_oneLaw_85 (by decide) ?_
          refine aw_isub dX8_oneLaw_87 ?_
          refine aw_istore_n (i := 2) dX8_oneLaw_88 rfl (by decide) ?_
          refine aw_aload_n (i := 0) dX8_oneLaw_89 rfl rfl ?_
          refine aw_dup dX8_oneLaw_90 rfl ?_
          refine aw_getN (n := ((p18 (sgF B k) z p) + 1)) gf_X8_180 sh_105 rfl cn8_p dX8_oneLaw_91 ?_
          refine aw_iconst (v := 1) dX8_oneLaw_94 (by decide) ?_
          refine aw_iadd dX8_oneLaw_95 ?_
          refine aw_top ((nI_succ ((p18 (sgF B k) z p) + 1)).symm) ?_
          refine aw_putI pf_X8_180 sh_105 rfl dX8_oneLaw_96 ?_
          refine aw_mem (cn_32 _) ?_
          refine aw_aload_n (i := 0) dX8_oneLaw_99 rfl rfl ?_
          refine aw_getR gf_X8_84 sh_105 rfl dX8_oneLaw_100 ?_
          refine aw_iload_n (i := 1) dX8_oneLaw_103 rfl rfl ?_
          refine aw_iload_n (i := 2) dX8_oneLaw_104 rfl rfl ?_
          refine aw_iastN sh_127 (by omega) (by omega) dX8_oneLaw_105 ?_
          refine aw_mem (cn_127 _ _) ?_
          refine aw_iconst (v := 1) dX8_oneLaw_106 (by decide) ?_
          exact aw_zret rfl (by simp) dX8_oneLaw_107 ⟨by rw [b01_t (show ok8 (sgF B k) z p from ⟨hN, h24⟩)], by rw [show tl8 (sgF B k) z T p = _ from (pIf_t ⟨hN, h24⟩).trans (congrArg (upd T (nw8 (sgF B k) z p)) (pIf_t h62)), show pl8 (sgF B k) z p = _ from (pIf_t hN).trans ((pIf_t h24).trans (pIf_t h62)), show wr8 (sgF B k) z p = _ from pIf_t hN]⟩
      ·
        refine aw_iconst (v := 0) dX8_oneLaw_27 (by decide) ?_
        exact aw_zret rfl (by simp) dX8_oneLaw_28 ⟨by rw [b01_f (fun q : ok8 (sgF B k) z p => h24 q.2)], by rw [show tl8 (sgF B k) z T p = _ from pIf_f (fun q => h24 q.2), show pl8 (sgF B k) z p = _ from (pIf_t hN).trans (pIf_f h24), show wr8 (sgF B k) z p = _ from pIf_t hN]⟩
    ·
      refine aw_iconst (v := 0) dX8_oneLaw_10 (by decide) ?_
      exact aw_zret rfl (by simp) dX8_oneLaw_11 (by first | exact absurd h7 (nI_neg1 (by omega)) | exact ⟨by rw [b01_f (fun q : ok8 (sgF B k) z p => hN q.1)], by rw [show tl8 (sgF B k) z T p = _ from pIf_f (fun q => hN q.1), show pl8 (sgF B k) z p = _ from pIf_f hN, show wr8 (sgF B k) z p = _ from pIf_f hN]⟩)
  · rw [pIf_f hN, pIf_f hN]
    refine aw_istore_n (i := 1) dX8_oneLaw_4 rfl (by decide) ?_
    refine aw_iload_n (i := 1) dX8_oneLaw_5 rfl rfl ?_
    refine aw_iconst (v := (-1)) dX8_oneLaw_6 (by decide) ?_
    refine aw_icmp_ne (tgt := 12) dX8_oneLaw_7 (by decide) (fun h7 => ?_) (fun h7 => ?_)
    ·
      exact absurd h7 (by decide)
    ·
      refine aw_iconst (v := 0) dX8_oneLaw_10 (by decide) ?_
      exact aw_zret rfl (by simp) dX8_oneLaw_11 (by first | exact absurd h7 (nI_neg1 (by omega)) | exact ⟨by rw [b01_f (fun q : ok8 (sgF B k) z p => hN q.1)], by rw [show tl8 (sgF B k) z T p = _ from pIf_f (fun q => hN q.1), show pl8 (sgF B k) z p = _ from pIf_f hN, show wr8 (sgF B k) z p = _ from pIf_f hN]⟩)
abbrev LSt8 := Prop × (Nat → Int32) × Nat × Int32
noncomputable def stp8 (f : Nat → Int32) (z : Nat) (σ : LSt8) : LSt8 := pIf (f σ.2.2.1 = 59) (ok8 f z (σ.2.2.1 + 1), tl8 f z σ.2.1 (σ.2.2.1 + 1), pl8 f z (σ.2.2.1 + 1), wr8 f z (σ.2.2.1 + 1)) (False, σ.2.1, σ.2.2.1, nI σ.2.2.1)
noncomputable def rdL8 (f : Nat → Int32) (z : Nat) : Nat → LSt8 → LSt8
  | 0, σ => σ
  | k + 1, σ => pIf (σ.1 ∧ σ.2.2.1 < z) (rdL8 f z k (stp8 f z σ)) σ
theorem rdL8_step {f : Nat → Int32} {z k : Nat} {σ : LSt8} (hk : 0 < k) (h : σ.1 ∧ σ.2.2.1 < z) : rdL8 f z k σ = rdL8 f z (k - 1) (stp8 f z σ) := by
  match k, hk with
  | k + 1, _ => exact pIf_t h
theorem rdL8_stop {f : Nat → Int32} {z k : Nat} {σ : LSt8} (h : ¬ (σ.1 ∧ σ.2.2.1 < z)) : rdL8 f z k σ = σ := by
  match k with
  | 0 => rfl
  | k + 1 => exact pIf_f h
noncomputable def st08 (f : Nat → Int32) (z : Nat) (T : Nat → Int32) : LSt8 := (ok8 f z 0, tl8 f z T 0, pl8 f z 0, wr8 f z 0)
noncomputable def lwR8 (f : Nat → Int32) (z : Nat) (T : Nat → Int32) : LSt8 := rdL8 f z (z + 1) (st08 f z T)
theorem m_X8_readsLaws {l : Launch} {B : Mm} {T : Nat → Int32} {k z : Nat} {wr : Int32} (hR : RB8 B k z) : AMet l 4 yX8_readsLaws cX8_readsLaws 2 (some FieldType.boolean) [.ref 105] (cn8 B T 0 wr) (QE (some (.int (b01 (lwR8 (sgF B k) z (upto T (B.1 118) 7)).1))) (cn8 B (lwR8 (sgF B k) z (upto T (B.1 118) 7)).2.1 (lwR8 (sgF B k) z (upto T (B.1 118) 7)).2.2.1 (lwR8 (sgF B k) z (upto T (B.1 118) 7)).2.2.2)) := by
  refine AMet.of (by decide) (by simp [aargs, Value.category]) ?_
  show AW l 4 yX8_readsLaws cX8_readsLaws 2 (some FieldType.boolean) 0 [some (.ref 105), none] [] (cn8 B T 0 wr) _
  have hk8 := hR.2.2.1
  have hz1 := hR.2.2.2.1
  refine aw_iconst (v := 0) dX8_readsLaws_0 (by decide) ?_
  refine aw_istore_n (i := 1) dX8_readsLaws_1 rfl (by decide) ?_
  have lp2 : ∀ k9 i, i + k9 = 7 → AW l 4 yX8_readsLaws cX8_readsLaws 2 (some FieldType.boolean) 2 [some (.ref 105), some (.int (nI i))] [] (cn8 B (upto T (B.1 118) i) 0 wr) (QE (some (.int (b01 (lwR8 (sgF B k) z (upto T (B.1 118) 7)).1))) (cn8 B (lwR8 (sgF B k) z (upto T (B.1 118) 7)).2.1 (lwR8 (sgF B k) z (upto T (B.1 118) 7)).2.2.1 (lwR8 (sgF B k) z (upto T (B.1 118) 7)).2.2.2)) := by
    intro k9
    induction k9 using Nat.strongRecOn with
    | _ k9 ih =>
    intro i hk9
    refine aw_iload_n (i := 1) dX8_readsLaws_2 rfl rfl ?_
    refine aw_bipush (v := 7) dX8_readsLaws_3 (by decide) ?_
    refine aw_top (show (7 : Int32) = nI 7 from rfl) ?_
    refine aw_icmp_geN (tgt := 26) (by omega) (by omega) dX8_readsLaws_5 (by decide) (fun h5 => ?_) (fun h5 => ?_)
    ·
      rw [show i = 7 from by omega]
      refine aw_aload_n (i := 0) dX8_readsLaws_26 rfl rfl ?_
      refine aw_cVi ck_X8_200 (m_X8_oneLaw hR (Nat.zero_le _)) sh_105 rfl (by decide) (by decide) rfl rfl (Nat.le_of_ble_eq_true rfl) dX8_readsLaws_27 ?_
      refine aw_ifne_b (tgt := 35) dX8_readsLaws_30 (by decide) (fun h30 => ?_) (fun h30 => ?_)
      ·
        have lp35 : ∀ k8 (σ : LSt8), σ.1 → σ.2.2.1 ≤ z → z < σ.2.2.1 + k8 → rdL8 (sgF B k) z k8 σ = (lwR8 (sgF B k) z (upto T (B.1 118) 7)) → AW l 4 yX8_readsLaws cX8_readsLaws 2 (some FieldType.boolean) 35 [some (.ref 105), none] [] (cn8 B σ.2.1 σ.2.2.1 σ.2.2.2) (QE (some (.int (b01 (lwR8 (sgF B k) z (upto T (B.1 118) 7)).1))) (cn8 B (lwR8 (sgF B k) z (upto T (B.1 118) 7)).2.1 (lwR8 (sgF B k) z (upto T (B.1 118) 7)).2.2.1 (lwR8 (sgF B k) z (upto T (B.1 118) 7)).2.2.2)) := by
          intro k8
          induction k8 using Nat.strongRecOn with
          | _ k8 ih8 =>
          intro σ hok hsz hlt hF
          refine aw_aload_n (i := 0) dX8_readsLaws_35 rfl rfl ?_
          refine aw_getN (n := σ.2.2.1) gf_X8_180 sh_105 rfl cn8_p dX8_readsLaws_36 ?_
          refine aw_aload_n (i := 0) dX8_readsLaws_39 rfl rfl ?_
          refine aw_getN (n := z) gf_X8_183 sh_105 rfl ((cn8_f (by decide)).trans hR.2.1) dX8_readsLaws_40 ?_
          refine aw_icmp_geN (tgt := 95) (by omega) (by omega) dX8_readsLaws_43 (by decide) (fun h43 => ?_) (fun h43 => ?_)
          ·
            refine aw_iconst (v := 1) dX8_readsLaws_95 (by decide) ?_
            exact aw_zret rfl (by simp) dX8_readsLaws_96 (by have e9 : (lwR8 (sgF B k) z (upto T (B.1 118) 7)) = σ := (by rw [← hF, rdL8_stop (fun q => absurd q.2 (by omega))]); exact ⟨by rw [e9]; exact congrArg (fun q => some (Value.int q)) (b01_t hok).symm, by rw [e9]; try rfl⟩)
          ·
            refine aw_aload_n (i := 0) dX8_readsLaws_46 rfl rfl ?_
            refine aw_aload_n (i := 0) dX8_readsLaws_47 rfl rfl ?_
            refine aw_getN (n := σ.2.2.1) gf_X8_180 sh_105 rfl cn8_p dX8_readsLaws_48 ?_
            refine aw_putI pf_X8_189 sh_105 rfl dX8_readsLaws_51 ?_
            refine aw_mem (cn_34 _) ?_
            refine aw_aload_n (i := 0) dX8_readsLaws_54 rfl rfl ?_
            refine aw_getR gf_X8_74 sh_105 rfl dX8_readsLaws_55 ?_
            refine aw_aload_n (i := 0) dX8_readsLaws_58 rfl rfl ?_
            refine aw_getN (n := (100 * k)) gf_X8_186 sh_105 rfl ((cn8_f (by decide)).trans hR.1) dX8_readsLaws_59 ?_
            refine aw_aload_n (i := 0) dX8_readsLaws_62 rfl rfl ?_
            refine aw_getN (n := σ.2.2.1) gf_X8_180 sh_105 rfl cn8_p dX8_readsLaws_63 ?_
            refine aw_iadd dX8_readsLaws_66 ?_
            refine aw_top (nI_add (100 * k) σ.2.2.1) ?_
            refine aw_laldN sh_124 (by omega) (by omega) dX8_readsLaws_67 ?_
            refine aw_l2i dX8_readsLaws_68 ?_
            refine aw_top (show _ = sgF B k σ.2.2.1 from rfl) ?_
            refine aw_bipush (v := 59) dX8_readsLaws_69 (by decide) ?_
            refine aw_icmp_eq (tgt := 76) dX8_readsLaws_71 (by decide) (fun h71 => ?_) (fun h71 => ?_)
            ·
              refine aw_aload_n (i := 0) dX8_readsLaws_76 rfl rfl ?_
              refine aw_dup dX8_readsLaws_77 rfl ?_
              refine aw_getN (n := σ.2.2.1) gf_X8_180 sh_105 rfl cn8_p dX8_readsLaws_78 ?_
              refine aw_iconst (v := 1) dX8_readsLaws_81 (by decide) ?_
              refine aw_iadd dX8_readsLaws_82 ?_
              refine aw_top ((nI_succ σ.2.2.1).symm) ?_
              refine aw_putI pf_X8_180 sh_105 rfl dX8_readsLaws_83 ?_
              refine aw_mem (cn_32 _) ?_
              refine aw_aload_n (i := 0) dX8_readsLaws_86 rfl rfl ?_
              refine aw_cVi ck_X8_200 (m_X8_oneLaw hR (by omega)) sh_105 rfl (by decide) (by decide) rfl rfl (Nat.le_of_ble_eq_true rfl) dX8_readsLaws_87 ?_
              refine aw_ifne_b (tgt := 35) dX8_readsLaws_90 (by decide) (fun h90 => ?_) (fun h90 => ?_)
              ·
                have hp9 := pl8_le (f := (sgF B k)) (z := z) (p := σ.2.2.1 + 1) (by omega)
                have es : (stp8 (sgF B k) z σ) = (ok8 (sgF B k) z (σ.2.2.1 + 1), tl8 (sgF B k) z σ.2.1 (σ.2.2.1 + 1), pl8 (sgF B k) z (σ.2.2.1 + 1), wr8 (sgF B k) z (σ.2.2.1 + 1)) := pIf_t h71
                refine aw_loc (la := [some (.ref 105), none]) ⟨rfl, trivial⟩ ?_
                exact ih8 (k8 - 1) (by omega) (ok8 (sgF B k) z (σ.2.2.1 + 1), tl8 (sgF B k) z σ.2.1 (σ.2.2.1 + 1), pl8 (sgF B k) z (σ.2.2.1 + 1), wr8 (sgF B k) z (σ.2.2.1 + 1)) h90 hp9.2 (by show z < pl8 (sgF B k) z (σ.2.2.1 + 1) + (k8 - 1); omega) (by rw [← es, ← rdL8_step (by omega) ⟨hok, by omega⟩]; exact hF)
              ·
                refine aw_iconst (v := 0) dX8_readsLaws_93 (by decide) ?_
                exact aw_zret rfl (by simp) dX8_readsLaws_94 (by have e9 : (lwR8 (sgF B k) z (upto T (B.1 118) 7)) = (ok8 (sgF B k) z (σ.2.2.1 + 1), tl8 (sgF B k) z σ.2.1 (σ.2.2.1 + 1), pl8 (sgF B k) z (σ.2.2.1 + 1), wr8 (sgF B k) z (σ.2.2.1 + 1)) := (by rw [← hF, rdL8_step (by omega) ⟨hok, by omega⟩, show stp8 (sgF B k) z σ = _ from pIf_t h71, rdL8_stop (fun q => h90 q.1)]); exact ⟨by rw [e9]; exact congrArg (fun q => some (Value.int q)) (b01_f h90).symm, by rw [e9]; try rfl⟩)
            ·
              refine aw_iconst (v := 0) dX8_readsLaws_74 (by decide) ?_
              exact aw_zret rfl (by simp) dX8_readsLaws_75 (by have e9 : (lwR8 (sgF B k) z (upto T (B.1 118) 7)) = (False, σ.2.1, σ.2.2.1, nI σ.2.2.1) := (by rw [← hF, rdL8_step (by omega) ⟨hok, by omega⟩, show stp8 (sgF B k) z σ = _ from pIf_f h71, rdL8_stop (fun q => q.1)]); exact ⟨by rw [e9]; exact congrArg (fun q => some (Value.int q)) (b01_f id).symm, by rw [e9]; try rfl⟩)
        have hp9 := pl8_le (f := (sgF B k)) (z := z) (p := 0) (Nat.zero_le _)
        refine aw_loc (la := [some (.ref 105), none]) ⟨rfl, trivial⟩ ?_
        exact lp35 (z + 1) (st08 (sgF B k) z (upto T (B.1 118) 7)) h30 hp9.2 (by omega) rfl
      ·
        refine aw_iconst (v := 0) dX8_readsLaws_33 (by decide) ?_
        exact aw_zret rfl (by simp) dX8_readsLaws_34 (by have e9 : (lwR8 (sgF B k) z (upto T (B.1 118) 7)) = st08 (sgF B k) z (upto T (B.1 118) 7) := rdL8_stop (fun q => h30 q.1); exact ⟨by rw [e9]; exact congrArg (fun q => some (Value.int q)) (b01_f h30).symm, by rw [e9]; try rfl⟩)
    ·
      refine aw_aload_n (i := 0) dX8_readsLaws_8 rfl rfl ?_
      refine aw_getR gf_X8_84 sh_105 rfl dX8_readsLaws_9 ?_
      refine aw_iload_n (i := 1) dX8_readsLaws_12 rfl rfl ?_
      refine aw_aload_n (i := 0) dX8_readsLaws_13 rfl rfl ?_
      refine aw_getR gf_X8_56 sh_105 rfl dX8_readsLaws_14 ?_
      refine aw_iload_n (i := 1) dX8_readsLaws_17 rfl rfl ?_
      refine aw_ialdX sh_118 (by omega) (by decide) (congrFun (cn8_o (by decide)) i) dX8_readsLaws_18 ?_
      refine aw_iastN sh_127 (by omega) (by omega) dX8_readsLaws_19 ?_
      refine aw_iincN (i := 1) dX8_readsLaws_20 rfl (by decide) ?_
      refine aw_goto (tgt := 2) dX8_readsLaws_23 (by decide) ?_
      refine aw_mem (M' := (cn8 B (upto T (B.1 118) (i + 1)) 0 wr)) (by rw [cn_127, upto_s rfl]) ?_
      refine aw_loc (la := [some (.ref 105), some (.int (nI (i + 1)))]) ⟨rfl, rfl, trivial⟩ ?_
      exact ih (k9 - 1) (by omega) (i + 1) (by omega)
  refine aw_mem (M' := (cn8 B (upto T (B.1 118) 0) 0 wr)) (by rw [upto_0]) ?_
  refine aw_loc (la := [some (.ref 105), some (.int (nI 0))]) ⟨rfl, rfl, trivial⟩ ?_
  exact lp2 7 0 (by omega)
/-- the reader as the laws are to be read -/
def lB8 (M : Mm) (k : Nat) : Mm := mI (mI (mI (mI M 105 31 (nI (100 * k))) 105 32 0) 105 33 (M.1 122 k)) 105 6 (-1)
theorem lB8_o {M : Mm} {k q : Nat} (h : q ≠ 105) : (lB8 M k).1 q = M.1 q := by unfold lB8; rw [mI_other h, mI_other h, mI_other h, mI_other h]
theorem lB8_f {M : Mm} {k j : Nat} (h : j ≠ 31 ∧ j ≠ 32 ∧ j ≠ 33 ∧ j ≠ 6) : (lB8 M k).1 105 j = M.1 105 j := by unfold lB8; rw [mI_self, upd_other h.2.2.2, mI_self, upd_other h.2.2.1, mI_self, upd_other h.2.1, mI_self, upd_other h.1]
theorem lB8_R {M : Mm} {k z : Nat} (hk : k < 8) (hz : z ≤ 100) (hs : M.1 122 k = nI z) (hwd : ∀ j, j < 43 → M.1 126 j = wdF j) : RB8 (lB8 M k) k z := by
  refine ⟨?_, ?_, hk, hz, fun j hj => by rw [lB8_o (by decide)]; exact hwd j hj⟩
  · unfold lB8
    rw [mI_self, upd_other (by decide), mI_self, upd_other (by decide), mI_self, upd_other (by decide), mI_self, upd_self]
  · unfold lB8
    rw [mI_self, upd_other (by decide), mI_self, upd_self, hs]
theorem lB8_p {M : Mm} {k : Nat} : (lB8 M k).1 105 32 = nI 0 := by
  unfold lB8
  rw [mI_self, upd_other (by decide), mI_self, upd_other (by decide), mI_self, upd_self]
  rfl
noncomputable def lwF8 (M : Mm) (k : Nat) : LSt8 := lwR8 (sgF M k) (M.1 122 k).toNatClampNeg (upto (M.1 127) (M.1 118) 7)
noncomputable def lwX8 (M : Mm) (k : Nat) : Mm := cn8 (lB8 M k) (lwF8 M k).2.1 (lwF8 M k).2.2.1 (lwF8 M k).2.2.2
noncomputable def ovI (b q : Nat) (G f : Nat → Int32) : Nat → Int32 := fun j => pIf (b ≤ j ∧ j < b + q) (G (j - b)) (f j)
theorem ovI_0 (b : Nat) (G f : Nat → Int32) : ovI b 0 G f = f := by
  funext j
  exact pIf_f (by omega)
theorem ovI_s {b q : Nat} {G f : Nat → Int32} {v : Int32} (h : v = G q) : upd (ovI b q G f) (b + q) v = ovI b (q + 1) G f := by
  funext j
  show (if j = b + q then v else ovI b q G f j) = _
  unfold ovI
  by_cases e : j = b + q
  · rw [if_pos e, pIf_t (by omega), h, show j - b = q by omega]
  · rw [if_neg e]
    by_cases h1 : b ≤ j ∧ j < b + q
    · rw [pIf_t h1, pIf_t (by omega)]
    · rw [pIf_f h1, pIf_f (by omega)]
theorem nI_7m : ∀ c, c ≤ 6 → 7 * nI c = nI (7 * c) := by decide +kernel
theorem lc6 : ∀ c, c ≤ 6 → (nI c = 6 ↔ c = 6) := by decide +kernel
def S8_laws (M : Mm) (lc : Nat) (s : Int32) (v : Int32) (M' : Mm) : Prop := pIf (wan8 M s = 0) (pIf (lwF8 M s.toNatClampNeg).1 (pIf (lc = 6) (v = -7 ∧ M' = nox (lwX8 M s.toNatClampNeg) 7) (v = nI lc ∧ M' = mI (rI (lwX8 M s.toNatClampNeg) 119 (ovI (7 * lc) 7 ((lwX8 M s.toNatClampNeg).1 127) ((lwX8 M s.toNatClampNeg).1 119))) 105 1 (nI (lc + 1)))) (v = -6 ∧ M' = nox (mI (lwX8 M s.toNatClampNeg) 105 6 ((lwF8 M s.toNatClampNeg).2.2.2)) 6)) (v = wan8 M s ∧ M' = noxA M (wan8 M s))
theorem m_X8_laws {l : Launch} {M : Mm} {s : Int32} (hz : siz8 M) {lc : Nat} (hlc : M.1 105 1 = nI lc) (hl6 : lc ≤ 6) (hwd : ∀ j, j < 43 → M.1 126 j = wdF j) : AMet l 5 yX8_laws cX8_laws 4 (some FieldType.int) [.ref 105, .int s] M (QI (S8_laws M lc s)) := by
  refine AMet.of (by decide) (by simp [aargs, Value.category]) ?_
  show AW l 5 yX8_laws cX8_laws 4 (some FieldType.int) 0 [some (.ref 105), some (.int s), none, none] [] M _
  refine aw_aload_n (i := 0) dX8_laws_0 rfl rfl ?_
  refine aw_iload_n (i := 1) dX8_laws_1 rfl rfl ?_
  refine aw_cVi ck_X8_173 m_X8_wants sh_105 rfl (by decide) (by decide) rfl rfl (Nat.le_of_ble_eq_true rfl) dX8_laws_2 ?_
  refine aw_istore_n (i := 2) dX8_laws_5 rfl (by decide) ?_
  refine aw_iload_n (i := 2) dX8_laws_6 rfl rfl ?_
  refine aw_if_eq (tgt := 16) dX8_laws_7 (by decide) (fun h7 => ?_) (fun h7 => ?_)
  ·
    obtain ⟨k, hk, rfl⟩ := wan_k h7
    obtain ⟨z, hz1, hz2⟩ := hz k hk
    have hR := lB8_R hk hz1 hz2 hwd
    refine aw_aload_n (i := 0) dX8_laws_16 rfl rfl ?_
    refine aw_bipush (v := 100) dX8_laws_17 (by decide) ?_
    refine aw_iload_n (i := 1) dX8_laws_19 rfl rfl ?_
    refine aw_imul dX8_laws_20 ?_
    refine aw_top (nI_100 k hk) ?_
    refine aw_putI pf_X8_186 sh_105 rfl dX8_laws_21 ?_
    refine aw_aload_n (i := 0) dX8_laws_24 rfl rfl ?_
    refine aw_iconst (v := 0) dX8_laws_25 (by decide) ?_
    refine aw_putI pf_X8_180 sh_105 rfl dX8_laws_26 ?_
    refine aw_aload_n (i := 0) dX8_laws_29 rfl rfl ?_
    refine aw_aload_n (i := 0) dX8_laws_30 rfl rfl ?_
    refine aw_getR gf_X8_68 sh_105 rfl dX8_laws_31 ?_
    refine aw_iload_n (i := 1) dX8_laws_34 rfl rfl ?_
    refine aw_ialdX sh_122 (by omega) (by decide) (congrFun ((mI_other (by decide)).trans (mI_other (by decide))) k) dX8_laws_35 ?_
    refine aw_putI pf_X8_183 sh_105 rfl dX8_laws_36 ?_
    refine aw_aload_n (i := 0) dX8_laws_39 rfl rfl ?_
    refine aw_iconst (v := (-1)) dX8_laws_40 (by decide) ?_
    refine aw_putI pf_X8_16 sh_105 rfl dX8_laws_41 ?_
    refine aw_mem (M' := cn8 (lB8 M k) ((lB8 M k).1 127) 0 ((lB8 M k).1 105 34)) (cn_id lB8_p).symm ?_
    refine aw_aload_n (i := 0) dX8_laws_44 rfl rfl ?_
    refine aw_cVi ck_X8_203 (m_X8_readsLaws hR) sh_105 rfl (by decide) (by decide) rfl rfl (Nat.le_of_ble_eq_true rfl) dX8_laws_45 ?_
    have eF : lwR8 (sgF (lB8 M k) k) z (upto ((lB8 M k).1 127) ((lB8 M k).1 118) 7) = lwF8 M k := by unfold lwF8; rw [hz2, nI_clamp (by omega), lB8_o (by decide), lB8_o (by decide)]; rfl
    rw [eF]
    refine aw_mem (show _ = lwX8 M k from rfl) ?_
    refine aw_ifne_b (tgt := 66) dX8_laws_48 (by decide) (fun h48 => ?_) (fun h48 => ?_)
    ·
      have h48' := h48
      have clc : (lwX8 M k).1 105 1 = nI lc := (cn8_f (by decide)).trans ((lB8_f (by decide)).trans hlc)
      refine aw_aload_n (i := 0) dX8_laws_66 rfl rfl ?_
      refine aw_getN (n := lc) gf_X8_135 sh_105 rfl clc dX8_laws_67 ?_
      refine aw_bipush (v := 6) dX8_laws_70 (by decide) ?_
      refine aw_top (show (6 : Int32) = nI 6 from rfl) ?_
      refine aw_icmp_neN (tgt := 82) (by omega) (by omega) dX8_laws_72 (by decide) (fun h72 => ?_) (fun h72 => ?_)
      ·
        refine aw_iconst (v := 0) dX8_laws_82 (by decide) ?_
        refine aw_istore_n (i := 3) dX8_laws_83 rfl (by decide) ?_
        have lp84 : ∀ k9 i, i + k9 = 7 → AW l 5 yX8_laws cX8_laws 4 (some FieldType.int) 84 [some (.ref 105), some (.int (nI k)), none, some (.int (nI i))] [] (rI (lwX8 M k) 119 (ovI (7 * lc) i ((lwX8 M k).1 127) ((lwX8 M k).1 119))) (QI (S8_laws M lc (nI k))) := by
          intro k9
          induction k9 using Nat.strongRecOn with
          | _ k9 ih =>
          intro i hk9
          refine aw_iload_n (i := 3) dX8_laws_84 rfl rfl ?_
          refine aw_bipush (v := 7) dX8_laws_85 (by decide) ?_
          refine aw_top (show (7 : Int32) = nI 7 from rfl) ?_
          refine aw_icmp_geN (tgt := 116) (by omega) (by omega) dX8_laws_87 (by decide) (fun h87 => ?_) (fun h87 => ?_)
          ·
            refine aw_aload_n (i := 0) dX8_laws_116 rfl rfl ?_
            refine aw_dup dX8_laws_117 rfl ?_
            refine aw_getN (n := lc) gf_X8_135 sh_105 rfl ((congrFun (rI_other (by decide)) 1).trans clc) dX8_laws_118 ?_
            refine aw_dup_x1 dX8_laws_121 rfl rfl ?_
            refine aw_iconst (v := 1) dX8_laws_122 (by decide) ?_
            refine aw_iadd dX8_laws_123 ?_
            refine aw_top ((nI_succ lc).symm) ?_
            refine aw_putI pf_X8_135 sh_105 rfl dX8_laws_124 ?_
            exact aw_iret rfl dX8_laws_127 ⟨_, rfl, by unfold S8_laws; rw [nI_clamp (show k < 2 ^ 31 from by omega)]; rw [pIf_t h7, pIf_t h48', pIf_f h72]; exact ⟨rfl, by rw [show i = 7 from by omega]⟩⟩
          ·
            refine aw_aload_n (i := 0) dX8_laws_90 rfl rfl ?_
            refine aw_getR gf_X8_59 sh_105 rfl dX8_laws_91 ?_
            refine aw_bipush (v := 7) dX8_laws_94 (by decide) ?_
            refine aw_aload_n (i := 0) dX8_laws_96 rfl rfl ?_
            refine aw_getN (n := lc) gf_X8_135 sh_105 rfl ((congrFun (rI_other (by decide)) 1).trans clc) dX8_laws_97 ?_
            refine aw_imul dX8_laws_100 ?_
            refine aw_top (nI_7m lc hl6) ?_
            refine aw_iload_n (i := 3) dX8_laws_101 rfl rfl ?_
            refine aw_iadd dX8_laws_102 ?_
            refine aw_top (nI_add (7 * lc) i) ?_
            refine aw_aload_n (i := 0) dX8_laws_103 rfl rfl ?_
            refine aw_getR gf_X8_84 sh_105 rfl dX8_laws_104 ?_
            refine aw_iload_n (i := 3) dX8_laws_107 rfl rfl ?_
            refine aw_ialdX sh_127 (by omega) (by decide) (congrFun (rI_other (by decide)) i) dX8_laws_108 ?_
            refine aw_iastN sh_119 (by omega) (by omega) dX8_laws_109 ?_
            refine aw_iincN (i := 3) dX8_laws_110 rfl (by decide) ?_
            refine aw_goto (tgt := 84) dX8_laws_113 (by decide) ?_
            refine aw_mem (M' := (rI (lwX8 M k) 119 (ovI (7 * lc) (i + 1) ((lwX8 M k).1 127) ((lwX8 M k).1 119)))) (by rw [mI_rI, rI_self, rI_rI, ovI_s rfl]) ?_
            refine aw_loc (la := [some (.ref 105), some (.int (nI k)), none, some (.int (nI (i + 1)))]) ⟨rfl, rfl, rfl, trivial⟩ ?_
            exact ih (k9 - 1) (by omega) (i + 1) (by omega)
        refine aw_mem (M' := (rI (lwX8 M k) 119 (ovI (7 * lc) 0 ((lwX8 M k).1 127) ((lwX8 M k).1 119)))) (by rw [ovI_0]; exact (rI_id (lwX8 M k) 119).symm) ?_
        refine aw_loc (la := [some (.ref 105), some (.int (nI k)), none, some (.int (nI 0))]) ⟨rfl, rfl, rfl, trivial⟩ ?_
        exact lp84 7 0 (by omega)
      ·
        refine aw_aload_n (i := 0) dX8_laws_75 rfl rfl ?_
        refine aw_bipush (v := (-7)) dX8_laws_76 (by decide) ?_
        refine aw_cVi ck_X8_142 (m_X8_no (k := 7) (by decide) (by decide)) sh_105 rfl (by decide) (by decide) rfl rfl (Nat.le_of_ble_eq_true rfl) dX8_laws_78 ?_
        exact aw_iret rfl dX8_laws_81 ⟨_, rfl, by unfold S8_laws; rw [nI_clamp (show k < 2 ^ 31 from by omega)]; rw [pIf_t h7, pIf_t h48', pIf_t h72]; exact ⟨rfl, rfl⟩⟩
    ·
      have h48' := h48
      have clc : (lwX8 M k).1 105 1 = nI lc := (cn8_f (by decide)).trans ((lB8_f (by decide)).trans hlc)
      refine aw_aload_n (i := 0) dX8_laws_51 rfl rfl ?_
      refine aw_aload_n (i := 0) dX8_laws_52 rfl rfl ?_
      refine aw_getX gf_X8_189 sh_105 rfl cn8_w dX8_laws_53 ?_
      refine aw_putI pf_X8_16 sh_105 rfl dX8_laws_56 ?_
      refine aw_aload_n (i := 0) dX8_laws_59 rfl rfl ?_
      refine aw_bipush (v := (-6)) dX8_laws_60 (by decide) ?_
      refine aw_cVi ck_X8_142 (m_X8_no (k := 6) (by decide) (by decide)) sh_105 rfl (by decide) (by decide) rfl rfl (Nat.le_of_ble_eq_true rfl) dX8_laws_62 ?_
      exact aw_iret rfl dX8_laws_65 ⟨_, rfl, by unfold S8_laws; rw [nI_clamp (show k < 2 ^ 31 from by omega)]; rw [pIf_t h7, pIf_f h48']; exact ⟨rfl, rfl⟩⟩
  ·
    have hno := wan_ok h7
    refine aw_aload_n (i := 0) dX8_laws_10 rfl rfl ?_
    refine aw_iload_n (i := 2) dX8_laws_11 rfl rfl ?_
    refine aw_cVi ck_X8_142 (m_X8_noA hno) sh_105 rfl (by decide) (by decide) rfl rfl (Nat.le_of_ble_eq_true rfl) dX8_laws_12 ?_
    exact aw_iret rfl dX8_laws_15 ⟨_, rfl, by unfold S8_laws; rw [pIf_f h7]; exact ⟨rfl, rfl⟩⟩
