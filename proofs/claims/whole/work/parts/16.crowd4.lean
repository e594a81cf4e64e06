def minI (x z : Int32) : Int32 := if z < x then z else x
def maxI (x z : Int32) : Int32 := if x < z then z else x
noncomputable def lsr (seat stands : Nat → Int32) : Nat → Int32
  | 0 => 6
  | i + 1 => pIf (stands i = 1) (minI (lsr seat stands i) (seat i / 8)) (lsr seat stands i)
theorem lsr_t {seat stands : Nat → Int32} {i : Nat} (h : stands i = 1) : minI (lsr seat stands i) (seat i / 8) = lsr seat stands (i + 1) := (pIf_t h).symm
theorem lsr_f {seat stands : Nat → Int32} {i : Nat} (h : ¬ stands i = 1) : lsr seat stands i = lsr seat stands (i + 1) := (pIf_f h).symm
theorem m_X1_leastStandingRow {l : Launch} {M : Mm} {c : Nat} (hc : isC c) {n : Nat} (hn : M.1 c 11 = nI n) (hn30 : n ≤ 30) : AMet l 2 yX1_leastStandingRow cX1_leastStandingRow 3 (some FieldType.int) [.ref c] M (QE (some (.int (if 6 ≤ (lsr (M.1 (c + 3)) (M.1 (c + 10)) n) then -1 else (lsr (M.1 (c + 3)) (M.1 (c + 10)) n)))) M) := by
  refine AMet.of (by decide) (by simp [aargs, Value.category]) ?_
  show AW l 2 yX1_leastStandingRow cX1_leastStandingRow 3 (some FieldType.int) 0 [some (.ref c), none, none] [] M _
  refine aw_bipush (v := 6) dX1_leastStandingRow_0 (by decide) ?_
  refine aw_istore_n (i := 1) dX1_leastStandingRow_2 rfl (by decide) ?_
  refine aw_iconst (v := 0) dX1_leastStandingRow_3 (by decide) ?_
  refine aw_istore_n (i := 2) dX1_leastStandingRow_4 rfl (by decide) ?_
  have lp5 : ∀ k i, i + k = n → AW l 2 yX1_leastStandingRow cX1_leastStandingRow 3 (some FieldType.int) 5 [some (.ref c), some (.int (lsr (M.1 (c + 3)) (M.1 (c + 10)) i)), some (.int (nI i))] [] M (QE (some (.int (if 6 ≤ (lsr (M.1 (c + 3)) (M.1 (c + 10)) n) then -1 else (lsr (M.1 (c + 3)) (M.1 (c + 10)) n)))) M) := by
    intro k
    induction k using Nat.strongRecOn with
    | _ k ih =>
    intro i hk
    refine aw_iload_n (i := 2) dX1_leastStandingRow_5 rfl rfl ?_
    refine aw_aload_n (i := 0) dX1_leastStandingRow_6 rfl rfl ?_
    refine aw_getN (n := n) gf_X1_47 (shC hc) rfl hn dX1_leastStandingRow_7 ?_
    refine aw_icmp_geN (tgt := 43) (by omega) (by omega) dX1_leastStandingRow_10 (by decide) (fun h10 => ?_) (fun h10 => ?_)
    ·
      refine aw_iload_n (i := 1) dX1_leastStandingRow_43 rfl rfl ?_
      refine aw_bipush (v := 6) dX1_leastStandingRow_44 (by decide) ?_
      refine aw_icmp_ge (tgt := 53) dX1_leastStandingRow_46 (by decide) (fun h46 => ?_) (fun h46 => ?_)
      ·
        refine aw_iconst (v := (-1)) dX1_leastStandingRow_53 (by decide) ?_
        exact aw_iret rfl dX1_leastStandingRow_54 ⟨by rw [show i = n by omega] at h46; rw [if_pos h46], rfl⟩
      ·
        refine aw_iload_n (i := 1) dX1_leastStandingRow_49 rfl rfl ?_
        refine aw_goto (tgt := 54) dX1_leastStandingRow_50 (by decide) ?_
        exact aw_iret rfl dX1_leastStandingRow_54 ⟨by rw [show i = n by omega] at h46 ⊢; rw [if_neg h46], rfl⟩
    ·
      refine aw_aload_n (i := 0) dX1_leastStandingRow_13 rfl rfl ?_
      refine aw_getR gf_X1_41 (shC hc) rfl dX1_leastStandingRow_14 ?_
      refine aw_iload_n (i := 2) dX1_leastStandingRow_17 rfl rfl ?_
      refine aw_ialdN (shC_10 hc) (by omega) (by omega) dX1_leastStandingRow_18 ?_
      refine aw_iconst (v := 1) dX1_leastStandingRow_19 (by decide) ?_
      refine aw_icmp_ne (tgt := 37) dX1_leastStandingRow_20 (by decide) (fun h20 => ?_) (fun h20 => ?_)
      ·
        refine aw_iincN (i := 2) dX1_leastStandingRow_37 rfl (by decide) ?_
        refine aw_goto (tgt := 5) dX1_leastStandingRow_40 (by decide) ?_
        refine aw_loc (la := [some (.ref c), some (.int (lsr (M.1 (c + 3)) (M.1 (c + 10)) (i + 1))), some (.int (nI (i + 1)))]) ⟨rfl, (show some (Value.int (lsr (M.1 (c + 3)) (M.1 (c + 10)) i)) = some (Value.int (lsr (M.1 (c + 3)) (M.1 (c + 10)) (i + 1))) from by rw [← lsr_f (by assumption)]), rfl, trivial⟩ (ih (k - 1) (by omega) (i + 1) (by omega))
      ·
        refine aw_iload_n (i := 1) dX1_leastStandingRow_23 rfl rfl ?_
        refine aw_aload_n (i := 0) dX1_leastStandingRow_24 rfl rfl ?_
        refine aw_getR gf_X1_20 (shC hc) rfl dX1_leastStandingRow_25 ?_
        refine aw_iload_n (i := 2) dX1_leastStandingRow_28 rfl rfl ?_
        refine aw_ialdN (shC_3 hc) (by omega) (by omega) dX1_leastStandingRow_29 ?_
        refine aw_bipush (v := 8) dX1_leastStandingRow_30 (by decide) ?_
        refine aw_idiv dX1_leastStandingRow_32 (by decide) ?_
        refine aw_mmin (List.mem_append_right _ (List.mem_of_getElem? (i := 778) (by decide +kernel))) (List.mem_append_right _ (List.mem_of_getElem? (i := 477) (by decide +kernel))) (List.mem_append_right _ (List.mem_of_getElem? (i := 12) (by decide +kernel))) (List.mem_append_right _ (List.mem_of_getElem? (i := 478) (by decide +kernel))) (by decide) (Nat.le_of_ble_eq_true rfl) dX1_leastStandingRow_33 ?_
        refine aw_istore_n (i := 1) dX1_leastStandingRow_36 rfl (by decide) ?_
        refine aw_iincN (i := 2) dX1_leastStandingRow_37 rfl (by decide) ?_
        refine aw_goto (tgt := 5) dX1_leastStandingRow_40 (by decide) ?_
        refine aw_loc (la := [some (.ref c), some (.int (lsr (M.1 (c + 3)) (M.1 (c + 10)) (i + 1))), some (.int (nI (i + 1)))]) ⟨rfl, (show some (Value.int (minI (lsr (M.1 (c + 3)) (M.1 (c + 10)) i) (M.1 (c + 3) i / 8))) = some (Value.int (lsr (M.1 (c + 3)) (M.1 (c + 10)) (i + 1))) from by rw [← lsr_t (by assumption)]), rfl, trivial⟩ (ih (k - 1) (by omega) (i + 1) (by omega))
  refine aw_loc (la := [some (.ref c), some (.int (lsr (M.1 (c + 3)) (M.1 (c + 10)) 0)), some (.int (nI 0))]) ⟨rfl, rfl, rfl, trivial⟩ ?_
  exact lp5 n 0 (by omega)
/-- of the three seats before: place i - 1 aside is there, and one stood on it -/
def thP (s : Int32) (stood : Int64) (i : Nat) : Prop := ¬ s - s / 8 * 8 + (nI i - 1) < 0 ∧ ¬ 8 ≤ s - s / 8 * 8 + (nI i - 1) ∧ lg_cmp ((stood >>> ((s - 8 + (nI i - 1)).toInt64 &&& 63)) &&& 1) 1 = 0
noncomputable def cbF (s : Int32) (stood : Int64) : Nat → Int32
  | 0 => 0
  | i + 1 => pIf (thP s stood i) (cbF s stood i + 1) (cbF s stood i)
theorem cbF_t {s : Int32} {stood : Int64} {i : Nat} (h : thP s stood i) : cbF s stood i + 1 = cbF s stood (i + 1) := (pIf_t h).symm
theorem cbF_f {s : Int32} {stood : Int64} {i : Nat} (h : ¬ thP s stood i) : cbF s stood i = cbF s stood (i + 1) := (pIf_f h).symm
theorem side3 {i : Nat} (h : i ≤ 3) : 1 < nI i - 1 ↔ i = 3 := by
  match i, h with
  | 0, _ => decide
  | 1, _ => decide
  | 2, _ => decide
  | 3, _ => decide
theorem side_s (i : Nat) : nI i - 1 + 1 = nI (i + 1) - 1 := by rw [nI_succ]; grind
theorem m_X1_countBefore {l : Launch} {M : Mm} {s : Int32} {stood : Int64} : AMet l 1 yX1_countBefore cX1_countBefore 7 (some FieldType.int) [.int s, .long stood] M (QE (some (.int (if s < 8 then 0 else cbF s stood 3))) M) := by
  refine AMet.of (by decide) (by simp [aargs, Value.category]) ?_
  show AW l 1 yX1_countBefore cX1_countBefore 7 (some FieldType.int) 0 [some (.int s), some (.long stood), none, none, none, none, none] [] M _
  refine aw_iload_n (i := 0) dX1_countBefore_0 rfl rfl ?_
  refine aw_bipush (v := 8) dX1_countBefore_1 (by decide) ?_
  refine aw_icmp_ge (tgt := 8) dX1_countBefore_3 (by decide) (fun h3 => ?_) (fun h3 => ?_)
  ·
    refine aw_iconst (v := 0) dX1_countBefore_8 (by decide) ?_
    refine aw_istore_n (i := 3) dX1_countBefore_9 rfl (by decide) ?_
    refine aw_iconst (v := (-1)) dX1_countBefore_10 (by decide) ?_
    refine aw_istore (i := 4) dX1_countBefore_11 (by decide) ?_
    have lp13 : ∀ k i, i + k = 3 → AW l 1 yX1_countBefore cX1_countBefore 7 (some FieldType.int) 13 [some (.int s), some (.long stood), none, some (.int (cbF s stood i)), some (.int (nI i - 1)), none, none] [] M (QE (some (.int (if s < 8 then 0 else cbF s stood 3))) M) := by
      intro k
      induction k using Nat.strongRecOn with
      | _ k ih =>
      intro i hk
      refine aw_iload (i := 4) dX1_countBefore_13 rfl ?_
      refine aw_iconst (v := 1) dX1_countBefore_15 (by decide) ?_
      refine aw_icmp_gt (tgt := 77) dX1_countBefore_16 (by decide) (fun h16 => ?_) (fun h16 => ?_)
      ·
        refine aw_iload_n (i := 3) dX1_countBefore_77 rfl rfl ?_
        exact aw_iret rfl dX1_countBefore_78 ⟨by rw [show i = 3 from (side3 (by omega)).mp h16, if_neg (by rw [i32_le] at h3; rw [i32_lt]; omega)], rfl⟩
      ·
        have i3 : i < 3 := Nat.lt_of_le_of_ne (by omega) (fun e9 => h16 ((side3 (by omega)).mpr e9))
        refine aw_iload_n (i := 0) dX1_countBefore_19 rfl rfl ?_
        refine aw_bipush (v := 8) dX1_countBefore_20 (by decide) ?_
        refine aw_irem dX1_countBefore_22 (by decide) ?_
        refine aw_iload (i := 4) dX1_countBefore_23 rfl ?_
        refine aw_iadd dX1_countBefore_25 ?_
        refine aw_istore (i := 5) dX1_countBefore_26 (by decide) ?_
        refine aw_iload (i := 5) dX1_countBefore_28 rfl ?_
        refine aw_if_lt (tgt := 44) dX1_countBefore_30 (by decide) (fun h30 => ?_) (fun h30 => ?_)
        ·
          refine aw_iconst (v := 0) dX1_countBefore_44 (by decide) ?_
          refine aw_istore (i := 6) dX1_countBefore_45 (by decide) ?_
          refine aw_iload (i := 6) dX1_countBefore_47 rfl ?_
          refine aw_if_eq (tgt := 71) dX1_countBefore_49 (by decide) (fun h49 => ?_) (fun h49 => ?_)
          ·
            refine aw_iinc1 (i := 4) dX1_countBefore_71 rfl (by decide) ?_
            refine aw_goto (tgt := 13) dX1_countBefore_74 (by decide) ?_
            refine aw_loc (la := [some (.int s), some (.long stood), none, some (.int (cbF s stood (i + 1))), some (.int (nI (i + 1) - 1)), none, none]) ⟨rfl, rfl, (show some (Value.int (cbF s stood i)) = some (Value.int (cbF s stood (i + 1))) from by rw [← cbF_f (by unfold thP; grind)]), (show some (Value.int (nI i - 1 + 1)) = some (Value.int (nI (i + 1) - 1)) from by rw [side_s]), trivial⟩ (ih (k - 1) (by omega) (i + 1) (by omega))
          ·
            exact absurd h49 (by decide)
        ·
          refine aw_iload (i := 5) dX1_countBefore_33 rfl ?_
          refine aw_bipush (v := 8) dX1_countBefore_35 (by decide) ?_
          refine aw_icmp_ge (tgt := 44) dX1_countBefore_37 (by decide) (fun h37 => ?_) (fun h37 => ?_)
          ·
            refine aw_iconst (v := 0) dX1_countBefore_44 (by decide) ?_
            refine aw_istore (i := 6) dX1_countBefore_45 (by decide) ?_
            refine aw_iload (i := 6) dX1_countBefore_47 rfl ?_
            refine aw_if_eq (tgt := 71) dX1_countBefore_49 (by decide) (fun h49 => ?_) (fun h49 => ?_)
            ·
              refine aw_iinc1 (i := 4) dX1_countBefore_71 rfl (by decide) ?_
              refine aw_goto (tgt := 13) dX1_countBefore_74 (by decide) ?_
              refine aw_loc (la := [some (.int s), some (.long stood), none, some (.int (cbF s stood (i + 1))), some (.int (nI (i + 1) - 1)), none, none]) ⟨rfl, rfl, (show some (Value.int (cbF s stood i)) = some (Value.int (cbF s stood (i + 1))) from by rw [← cbF_f (by unfold thP; grind)]), (show some (Value.int (nI i - 1 + 1)) = some (Value.int (nI (i + 1) - 1)) from by rw [side_s]), trivial⟩ (ih (k - 1) (by omega) (i + 1) (by omega))
            ·
              exact absurd h49 (by decide)
          ·
            refine aw_iconst (v := 1) dX1_countBefore_40 (by decide) ?_
            refine aw_goto (tgt := 45) dX1_countBefore_41 (by decide) ?_
            refine aw_istore (i := 6) dX1_countBefore_45 (by decide) ?_
            refine aw_iload (i := 6) dX1_countBefore_47 rfl ?_
            refine aw_if_eq (tgt := 71) dX1_countBefore_49 (by decide) (fun h49 => ?_) (fun h49 => ?_)
            ·
              exact absurd h49 (by decide)
            ·
              refine aw_lload_n (i := 1) dX1_countBefore_52 rfl rfl ?_
              refine aw_iload_n (i := 0) dX1_countBefore_53 rfl rfl ?_
              refine aw_bipush (v := 8) dX1_countBefore_54 (by decide) ?_
              refine aw_isub dX1_countBefore_56 ?_
              refine aw_iload (i := 4) dX1_countBefore_57 rfl ?_
              refine aw_iadd dX1_countBefore_59 ?_
              refine aw_lshr dX1_countBefore_60 ?_
              refine aw_lconst (v := 1) dX1_countBefore_61 (by decide) ?_
              refine aw_land dX1_countBefore_62 ?_
              refine aw_lconst (v := 1) dX1_countBefore_63 (by decide) ?_
              refine aw_lcmp dX1_countBefore_64 ?_
              refine aw_if_ne (tgt := 71) dX1_countBefore_65 (by decide) (fun h65 => ?_) (fun h65 => ?_)
              ·
                refine aw_iinc1 (i := 4) dX1_countBefore_71 rfl (by decide) ?_
                refine aw_goto (tgt := 13) dX1_countBefore_74 (by decide) ?_
                refine aw_loc (la := [some (.int s), some (.long stood), none, some (.int (cbF s stood (i + 1))), some (.int (nI (i + 1) - 1)), none, none]) ⟨rfl, rfl, (show some (Value.int (cbF s stood i)) = some (Value.int (cbF s stood (i + 1))) from by rw [← cbF_f (by unfold thP; grind)]), (show some (Value.int (nI i - 1 + 1)) = some (Value.int (nI (i + 1) - 1)) from by rw [side_s]), trivial⟩ (ih (k - 1) (by omega) (i + 1) (by omega))
              ·
                refine aw_iinc1 (i := 3) dX1_countBefore_68 rfl (by decide) ?_
                refine aw_iinc1 (i := 4) dX1_countBefore_71 rfl (by decide) ?_
                refine aw_goto (tgt := 13) dX1_countBefore_74 (by decide) ?_
                refine aw_loc (la := [some (.int s), some (.long stood), none, some (.int (cbF s stood (i + 1))), some (.int (nI (i + 1) - 1)), none, none]) ⟨rfl, rfl, (show some (Value.int (cbF s stood i + 1)) = some (Value.int (cbF s stood (i + 1))) from by rw [← cbF_t (by unfold thP; exact ⟨by assumption, by assumption, by assumption⟩)]), (show some (Value.int (nI i - 1 + 1)) = some (Value.int (nI (i + 1) - 1)) from by rw [side_s]), trivial⟩ (ih (k - 1) (by omega) (i + 1) (by omega))
    refine aw_loc (la := [some (.int s), some (.long stood), none, some (.int (cbF s stood 0)), some (.int (nI 0 - 1)), none, none]) ⟨rfl, rfl, rfl, rfl, trivial⟩ ?_
    exact lp13 3 0 (by omega)
  ·
    refine aw_iconst (v := 0) dX1_countBefore_6 (by decide) ?_
    exact aw_iret rfl dX1_countBefore_7 ⟨by rw [if_pos (by rw [i32_le] at h3; rw [i32_lt]; omega)], rfl⟩
/-- who hits -/
def hitP (c : Nat) (M : Mm) (i : Nat) : Prop := M.1 (c + 8) i = 1 ∧ modI (M.1 c 12 + M.1 (c + 7) i) (M.1 (c + 5) i) = 0
noncomputable def phN (c : Nat) (M : Mm) (hits : Int32) (i : Nat) : Int32 := pIf (M.1 (c + 8) i = 1 ∧ (hits >>> (nI i &&& 31)) &&& 1 = 0 ∧ M.1 (c + 2) i = 4) (modI (M.1 (c + 7) i + 1) (M.1 (c + 5) i)) (M.1 (c + 7) i)
noncomputable def hitsF (c n : Nat) (M : Mm) : Int32 := bitsI n (hitP c M)
noncomputable def beat1 (c n : Nat) (cl : Int32) (M : Mm) : Mm := mI (mI M c 14 (hitsF c n M)) c 15 (bcI cl)
/-- f's first m places by g -/
noncomputable def upto (f g : Nat → Int32) (m : Nat) : Nat → Int32 := fun j => pIf (j < m) (g j) (f j)
theorem upto_0 (f g : Nat → Int32) : upto f g 0 = f := funext fun j => pIf_f (by omega)
theorem upto_s {f g : Nat → Int32} {m : Nat} {v : Int32} (h : v = g m) : upd (upto f g m) m v = upto f g (m + 1) := by
  funext j
  unfold upto
  by_cases e : j = m
  · subst e; rw [upd_self, pIf_t (by omega), h]
  · rw [upd_other e]
    by_cases q : j < m
    · rw [pIf_t q, pIf_t (by omega)]
    · rw [pIf_f q, pIf_f (by omega)]
theorem upto_e {f g : Nat → Int32} {m : Nat} (h : f m = g m) : upto f g m = upto f g (m + 1) := by
  funext j
  unfold upto
  by_cases e : j = m
  · subst e; rw [pIf_f (by omega), pIf_t (by omega), h]
  · by_cases q : j < m
    · rw [pIf_t q, pIf_t (by omega)]
    · rw [pIf_f q, pIf_f (by omega)]
theorem upto_at {f g : Nat → Int32} {m j : Nat} (h : m ≤ j) : upto f g m j = f j := pIf_f (by omega)
noncomputable def beatM (c n : Nat) (cl : Int32) (M : Mm) : Mm := pIf (bcI cl < 2 * bcI (hitsF c n M)) (rI (beat1 c n cl M) (c + 7) (upto (M.1 (c + 7)) (phN c M (hitsF c n M)) n)) (beat1 c n cl M)
theorem beat1_o {c n k : Nat} {cl : Int32} {M : Mm} (h : k ≠ c) : (beat1 c n cl M).1 k = M.1 k := by rw [beat1, mI_other h, mI_other h]
theorem beat1_c {c n j : Nat} {cl : Int32} {M : Mm} (h : j ≠ 14 ∧ j ≠ 15) : (beat1 c n cl M).1 c j = M.1 c j := by rw [beat1, mI_self, upd_other h.2, mI_self, upd_other h.1]
theorem m_X1_beat {l : Launch} {M : Mm} {c : Nat} {cl : Int32} (hc : isC c) {n : Nat} (hn : M.1 c 11 = nI n) (hn30 : n ≤ 30) : AMet l 2 yX1_beat cX1_beat 5 none [.ref c, .int cl] M (QE none (beatM c n cl M)) := by
  refine AMet.of (by decide) (by simp [aargs, Value.category]) ?_
  show AW l 2 yX1_beat cX1_beat 5 none 0 [some (.ref c), some (.int cl), none, none, none] [] M _
  have eC : ∀ f : Nat → Int32, (rI (beat1 c n cl M) (c + 7) f).1 c 11 = nI n := fun f => by rw [rI_other (by omega), beat1_c (by omega)]; exact hn
  refine aw_iconst (v := 0) dX1_beat_0 (by decide) ?_
  refine aw_istore_n (i := 2) dX1_beat_1 rfl (by decide) ?_
  refine aw_iconst (v := 0) dX1_beat_2 (by decide) ?_
  refine aw_istore_n (i := 3) dX1_beat_3 rfl (by decide) ?_
  have lp4 : ∀ k i, i + k = n → AW l 2 yX1_beat cX1_beat 5 none 4 [some (.ref c), some (.int cl), some (.int (bitsI i (hitP c M))), some (.int (nI i)), none] [] M (QE none (beatM c n cl M)) := by
    intro k
    induction k using Nat.strongRecOn with
    | _ k ih =>
    intro i hk
    refine aw_iload_n (i := 3) dX1_beat_4 rfl rfl ?_
    refine aw_aload_n (i := 0) dX1_beat_5 rfl rfl ?_
    refine aw_getN (n := n) gf_X1_47 (shC hc) rfl (by first | exact hn | exact eC _) dX1_beat_6 ?_
    refine aw_icmp_geN (tgt := 57) (by omega) (by omega) dX1_beat_9 (by decide) (fun h9 => ?_) (fun h9 => ?_)
    ·
      have ei : i = n := by omega
      rw [ei]
      refine aw_aload_n (i := 0) dX1_beat_57 rfl rfl ?_
      refine aw_iload_n (i := 2) dX1_beat_58 rfl rfl ?_
      refine aw_putI pf_X1_57 (shC hc) rfl dX1_beat_59 ?_
      refine aw_aload_n (i := 0) dX1_beat_62 rfl rfl ?_
      refine aw_iload_n (i := 1) dX1_beat_63 rfl rfl ?_
      refine aw_cSi ck_X1_156 m_J6_bitCount_0f7a4 (by decide) (by decide) rfl rfl (Nat.le_of_ble_eq_true rfl) dX1_beat_64 ?_
      refine aw_putI pf_X1_60 (shC hc) rfl dX1_beat_67 ?_
      refine aw_iconst (v := 2) dX1_beat_70 (by decide) ?_
      refine aw_iload_n (i := 2) dX1_beat_71 rfl rfl ?_
      refine aw_cSi ck_X1_156 m_J6_bitCount_0f7a4 (by decide) (by decide) rfl rfl (Nat.le_of_ble_eq_true rfl) dX1_beat_72 ?_
      refine aw_imul dX1_beat_75 ?_
      refine aw_aload_n (i := 0) dX1_beat_76 rfl rfl ?_
      refine aw_getX gf_X1_60 (shC hc) rfl (by rw [mI_self, upd_self]) dX1_beat_77 ?_
      refine aw_icmp_gt (tgt := 84) dX1_beat_80 (by decide) (fun h80 => ?_) (fun h80 => ?_)
      ·
        refine aw_iconst (v := 0) dX1_beat_84 (by decide) ?_
        refine aw_istore_n (i := 3) dX1_beat_85 rfl (by decide) ?_
        have lp86 : ∀ k9 i, i + k9 = n → AW l 2 yX1_beat cX1_beat 5 none 86 [some (.ref c), some (.int cl), some (.int (hitsF c n M)), some (.int (nI i)), none] [] (rI (beat1 c n cl M) (c + 7) (upto (M.1 (c + 7)) (phN c M (hitsF c n M)) i)) (QE none (beatM c n cl M)) := by
          intro k9
          induction k9 using Nat.strongRecOn with
          | _ k9 ih9 =>
          intro i hk9
          refine aw_iload_n (i := 3) dX1_beat_86 rfl rfl ?_
          refine aw_aload_n (i := 0) dX1_beat_87 rfl rfl ?_
          refine aw_getN (n := n) gf_X1_47 (shC hc) rfl (by first | exact hn | exact eC _) dX1_beat_88 ?_
          refine aw_icmp_geN (tgt := 163) (by omega) (by omega) dX1_beat_91 (by decide) (fun h91 => ?_) (fun h91 => ?_)
          ·
            exact aw_vret rfl dX1_beat_163 ⟨rfl, by unfold beatM; rw [pIf_t (show bcI cl < 2 * bcI (hitsF c n M) from h80), show i = n by omega]⟩
          ·
            refine aw_aload_n (i := 0) dX1_beat_94 rfl rfl ?_
            refine aw_getR gf_X1_35 (shC hc) rfl dX1_beat_95 ?_
            refine aw_iload_n (i := 3) dX1_beat_98 rfl rfl ?_
            refine aw_ialdX (shC_8 hc) (by omega) (by decide) (congrFun ((rI_other (by omega)).trans (beat1_o (by omega))) _) dX1_beat_99 ?_
            refine aw_iconst (v := 1) dX1_beat_100 (by decide) ?_
            refine aw_icmp_ne (tgt := 116) dX1_beat_101 (by decide) (fun h101 => ?_) (fun h101 => ?_)
            ·
              refine aw_iconst (v := 0) dX1_beat_116 (by decide) ?_
              refine aw_istore (i := 4) dX1_beat_117 (by decide) ?_
              refine aw_iload (i := 4) dX1_beat_119 rfl ?_
              refine aw_if_eq (tgt := 157) dX1_beat_121 (by decide) (fun h121 => ?_) (fun h121 => ?_)
              ·
                refine aw_iincN (i := 3) dX1_beat_157 rfl (by decide) ?_
                refine aw_goto (tgt := 86) dX1_beat_160 (by decide) ?_
                refine aw_mem (M' := (rI (beat1 c n cl M) (c + 7) (upto (M.1 (c + 7)) (phN c M (hitsF c n M)) (i + 1)))) (by rw [upto_e (show _ = phN c M (hitsF c n M) i from by unfold phN; rw [pIf_f (fun q => by first | exact absurd q.1 (by assumption) | exact absurd q.2.1 (by assumption) | exact absurd q.2.2 (by assumption))])]) ?_
                refine aw_loc (la := [some (.ref c), some (.int cl), some (.int (hitsF c n M)), some (.int (nI (i + 1))), none]) ⟨rfl, rfl, rfl, rfl, trivial⟩ ?_
                exact ih9 (k9 - 1) (by omega) (i + 1) (by omega)
              ·
                exact absurd h121 (by decide)
            ·
              refine aw_iload_n (i := 2) dX1_beat_104 rfl rfl ?_
              refine aw_iload_n (i := 3) dX1_beat_105 rfl rfl ?_
              refine aw_ishr dX1_beat_106 ?_
              refine aw_iconst (v := 1) dX1_beat_107 (by decide) ?_
              refine aw_iand dX1_beat_108 ?_
              refine aw_if_ne (tgt := 116) dX1_beat_109 (by decide) (fun h109 => ?_) (fun h109 => ?_)
              ·
                refine aw_iconst (v := 0) dX1_beat_116 (by decide) ?_
                refine aw_istore (i := 4) dX1_beat_117 (by decide) ?_
                refine aw_iload (i := 4) dX1_beat_119 rfl ?_
                refine aw_if_eq (tgt := 157) dX1_beat_121 (by decide) (fun h121 => ?_) (fun h121 => ?_)
                ·
                  refine aw_iincN (i := 3) dX1_beat_157 rfl (by decide) ?_
                  refine aw_goto (tgt := 86) dX1_beat_160 (by decide) ?_
                  refine aw_mem (M' := (rI (beat1 c n cl M) (c + 7) (upto (M.1 (c + 7)) (phN c M (hitsF c n M)) (i + 1)))) (by rw [upto_e (show _ = phN c M (hitsF c n M) i from by unfold phN; rw [pIf_f (fun q => by first | exact absurd q.1 (by assumption) | exact absurd q.2.1 (by assumption) | exact absurd q.2.2 (by assumption))])]) ?_
                  refine aw_loc (la := [some (.ref c), some (.int cl), some (.int (hitsF c n M)), some (.int (nI (i + 1))), none]) ⟨rfl, rfl, rfl, rfl, trivial⟩ ?_
                  exact ih9 (k9 - 1) (by omega) (i + 1) (by omega)
                ·
                  exact absurd h121 (by decide)
              ·
                refine aw_iconst (v := 1) dX1_beat_112 (by decide) ?_
                refine aw_goto (tgt := 117) dX1_beat_113 (by decide) ?_
                refine aw_istore (i := 4) dX1_beat_117 (by decide) ?_
                refine aw_iload (i := 4) dX1_beat_119 rfl ?_
                refine aw_if_eq (tgt := 157) dX1_beat_121 (by decide) (fun h121 => ?_) (fun h121 => ?_)
                ·
                  exact absurd h121 (by decide)
                ·
                  refine aw_aload_n (i := 0) dX1_beat_124 rfl rfl ?_
                  refine aw_getR gf_X1_16 (shC hc) rfl dX1_beat_125 ?_
                  refine aw_iload_n (i := 3) dX1_beat_128 rfl rfl ?_
                  refine aw_ialdX (shC_2 hc) (by omega) (by decide) (congrFun ((rI_other (by omega)).trans (beat1_o (by omega))) _) dX1_beat_129 ?_
                  refine aw_iconst (v := 4) dX1_beat_130 (by decide) ?_
                  refine aw_icmp_ne (tgt := 157) dX1_beat_131 (by decide) (fun h131 => ?_) (fun h131 => ?_)
                  ·
                    refine aw_iincN (i := 3) dX1_beat_157 rfl (by decide) ?_
                    refine aw_goto (tgt := 86) dX1_beat_160 (by decide) ?_
                    refine aw_mem (M' := (rI (beat1 c n cl M) (c + 7) (upto (M.1 (c + 7)) (phN c M (hitsF c n M)) (i + 1)))) (by rw [upto_e (show _ = phN c M (hitsF c n M) i from by unfold phN; rw [pIf_f (fun q => by first | exact absurd q.1 (by assumption) | exact absurd q.2.1 (by assumption) | exact absurd q.2.2 (by assumption))])]) ?_
                    refine aw_loc (la := [some (.ref c), some (.int cl), some (.int (hitsF c n M)), some (.int (nI (i + 1))), none]) ⟨rfl, rfl, rfl, rfl, trivial⟩ ?_
                    exact ih9 (k9 - 1) (by omega) (i + 1) (by omega)
                  ·
                    refine aw_aload_n (i := 0) dX1_beat_134 rfl rfl ?_
                    refine aw_getR gf_X1_32 (shC hc) rfl dX1_beat_135 ?_
                    refine aw_iload_n (i := 3) dX1_beat_138 rfl rfl ?_
                    refine aw_aload_n (i := 0) dX1_beat_139 rfl rfl ?_
                    refine aw_getR gf_X1_32 (shC hc) rfl dX1_beat_140 ?_
                    refine aw_iload_n (i := 3) dX1_beat_143 rfl rfl ?_
                    refine aw_ialdX (shC_7 hc) (by omega) (by decide) ((congrFun (rI_self _ _ _) _).trans (upto_at (Nat.le_refl _))) dX1_beat_144 ?_
                    refine aw_iconst (v := 1) dX1_beat_145 (by decide) ?_
                    refine aw_iadd dX1_beat_146 ?_
                    refine aw_aload_n (i := 0) dX1_beat_147 rfl rfl ?_
                    refine aw_getR gf_X1_26 (shC hc) rfl dX1_beat_148 ?_
                    refine aw_iload_n (i := 3) dX1_beat_151 rfl rfl ?_
                    refine aw_ialdX (shC_5 hc) (by omega) (by decide) (congrFun ((rI_other (by omega)).trans (beat1_o (by omega))) _) dX1_beat_152 ?_
                    refine aw_cSi ck_X1_153 m_X7_modulo (by decide) (by decide) rfl rfl (Nat.le_of_ble_eq_true rfl) dX1_beat_153 ?_
                    refine aw_iastN (shC_7 hc) (by omega) (by omega) dX1_beat_156 ?_
                    refine aw_iincN (i := 3) dX1_beat_157 rfl (by decide) ?_
                    refine aw_goto (tgt := 86) dX1_beat_160 (by decide) ?_
                    refine aw_mem (M' := (rI (beat1 c n cl M) (c + 7) (upto (M.1 (c + 7)) (phN c M (hitsF c n M)) (i + 1)))) (by rw [mI_rI, rI_rI, rI_self, upto_s (show _ = phN c M (hitsF c n M) i from by unfold phN; rw [pIf_t (by refine ⟨?_, ?_, ?_⟩ <;> assumption)])]) ?_
                    refine aw_loc (la := [some (.ref c), some (.int cl), some (.int (hitsF c n M)), some (.int (nI (i + 1))), none]) ⟨rfl, rfl, rfl, rfl, trivial⟩ ?_
                    exact ih9 (k9 - 1) (by omega) (i + 1) (by omega)
        refine aw_loc (la := [some (.ref c), some (.int cl), some (.int (hitsF c n M)), some (.int (nI 0)), none]) ⟨rfl, rfl, rfl, rfl, trivial⟩ ?_
        refine aw_mem (M' := (rI (beat1 c n cl M) (c + 7) (upto (M.1 (c + 7)) (phN c M (hitsF c n M)) 0))) (by rw [upto_0, ← beat1_o (n := n) (cl := cl) (M := M) (show c + 7 ≠ c by omega), rI_id]; rfl) ?_
        exact lp86 n 0 (by omega)
      ·
        exact aw_vret rfl dX1_beat_83 ⟨rfl, by unfold beatM; rw [pIf_f (show ¬ bcI cl < 2 * bcI (hitsF c n M) from h80)]; rfl⟩
    ·
      refine aw_aload_n (i := 0) dX1_beat_12 rfl rfl ?_
      refine aw_getR gf_X1_35 (shC hc) rfl dX1_beat_13 ?_
      refine aw_iload_n (i := 3) dX1_beat_16 rfl rfl ?_
      refine aw_ialdN (shC_8 hc) (by omega) (by omega) dX1_beat_17 ?_
      refine aw_iconst (v := 1) dX1_beat_18 (by decide) ?_
      refine aw_icmp_ne (tgt := 51) dX1_beat_19 (by decide) (fun h19 => ?_) (fun h19 => ?_)
      ·
        refine aw_iincN (i := 3) dX1_beat_51 rfl (by decide) ?_
        refine aw_goto (tgt := 4) dX1_beat_54 (by decide) ?_
        refine aw_loc (la := [some (.ref c), some (.int cl), some (.int (bitsI (i + 1) (hitP c M))), some (.int (nI (i + 1))), none]) ⟨rfl, rfl, (show some (Value.int (bitsI i (hitP c M))) = some (Value.int (bitsI (i + 1) (hitP c M))) from by rw [← bitsI_f (P := hitP c M) (fun q => by first | exact absurd q.1 (by assumption) | exact absurd q.2 (by assumption))]), rfl, trivial⟩ (ih (k - 1) (by omega) (i + 1) (by omega))
      ·
        refine aw_aload_n (i := 0) dX1_beat_22 rfl rfl ?_
        refine aw_getI gf_X1_51 (shC hc) rfl dX1_beat_23 ?_
        refine aw_aload_n (i := 0) dX1_beat_26 rfl rfl ?_
        refine aw_getR gf_X1_32 (shC hc) rfl dX1_beat_27 ?_
        refine aw_iload_n (i := 3) dX1_beat_30 rfl rfl ?_
        refine aw_ialdN (shC_7 hc) (by omega) (by omega) dX1_beat_31 ?_
        refine aw_iadd dX1_beat_32 ?_
        refine aw_aload_n (i := 0) dX1_beat_33 rfl rfl ?_
        refine aw_getR gf_X1_26 (shC hc) rfl dX1_beat_34 ?_
        refine aw_iload_n (i := 3) dX1_beat_37 rfl rfl ?_
        refine aw_ialdN (shC_5 hc) (by omega) (by omega) dX1_beat_38 ?_
        refine aw_cSi ck_X1_153 m_X7_modulo (by decide) (by decide) rfl rfl (Nat.le_of_ble_eq_true rfl) dX1_beat_39 ?_
        refine aw_if_ne (tgt := 51) dX1_beat_42 (by decide) (fun h42 => ?_) (fun h42 => ?_)
        ·
          refine aw_iincN (i := 3) dX1_beat_51 rfl (by decide) ?_
          refine aw_goto (tgt := 4) dX1_beat_54 (by decide) ?_
          refine aw_loc (la := [some (.ref c), some (.int cl), some (.int (bitsI (i + 1) (hitP c M))), some (.int (nI (i + 1))), none]) ⟨rfl, rfl, (show some (Value.int (bitsI i (hitP c M))) = some (Value.int (bitsI (i + 1) (hitP c M))) from by rw [← bitsI_f (P := hitP c M) (fun q => by first | exact absurd q.1 (by assumption) | exact absurd q.2 (by assumption))]), rfl, trivial⟩ (ih (k - 1) (by omega) (i + 1) (by omega))
        ·
          refine aw_iload_n (i := 2) dX1_beat_45 rfl rfl ?_
          refine aw_iconst (v := 1) dX1_beat_46 (by decide) ?_
          refine aw_iload_n (i := 3) dX1_beat_47 rfl rfl ?_
          refine aw_ishl dX1_beat_48 ?_
          refine aw_ior dX1_beat_49 ?_
          refine aw_istore_n (i := 2) dX1_beat_50 rfl (by decide) ?_
          refine aw_iincN (i := 3) dX1_beat_51 rfl (by decide) ?_
          refine aw_goto (tgt := 4) dX1_beat_54 (by decide) ?_
          refine aw_loc (la := [some (.ref c), some (.int cl), some (.int (bitsI (i + 1) (hitP c M))), some (.int (nI (i + 1))), none]) ⟨rfl, rfl, (show some (Value.int ((bitsI i (hitP c M)) ||| (1 <<< (nI i &&& 31)))) = some (Value.int (bitsI (i + 1) (hitP c M))) from by rw [← bitsI_t (P := hitP c M) ⟨by assumption, by assumption⟩]), rfl, trivial⟩ (ih (k - 1) (by omega) (i + 1) (by omega))
  refine aw_loc (la := [some (.ref c), some (.int cl), some (.int (bitsI 0 (hitP c M))), some (.int (nI 0)), none]) ⟨rfl, rfl, rfl, rfl, trivial⟩ ?_
  exact lp4 n 0 (by omega)
noncomputable def stF (seat stands : Nat → Int32) : Nat → Int64
  | 0 => 0
  | i + 1 => pIf (stands i = 1) (stF seat stands i ||| (1 <<< ((seat i).toInt64 &&& 63))) (stF seat stands i)
theorem stF_t {seat stands : Nat → Int32} {i : Nat} (h : stands i = 1) : stF seat stands i ||| (1 <<< ((seat i).toInt64 &&& 63)) = stF seat stands (i + 1) := (pIf_t h).symm
theorem stF_f {seat stands : Nat → Int32} {i : Nat} (h : ¬ stands i = 1) : stF seat stands i = stF seat stands (i + 1) := (pIf_f h).symm
def cbI (s : Int32) (z : Int32) : Int32 := z
/-- who stands up -/
def riP (n : Nat) (seat likes mood stands W : Nat → Int32) (i : Nat) : Prop := (mood i = 1 ∧ ¬ likes i < W 6) ∨ ¬ (if seat i < 8 then 0 else cbF (seat i) (stF seat stands n) 3) < maxI 1 (W 5)
noncomputable def riN (c n L : Nat) (M : Mm) (i : Nat) : Int32 := pIf (riP n (M.1 (c + 3)) (M.1 (c + 4)) (M.1 (c + 8)) (M.1 (c + 10)) (M.1 L) i) 1 (M.1 (c + 10) i)
noncomputable def riseM (c n L : Nat) (M : Mm) : Mm := rI M (c + 10) (upto (M.1 (c + 10)) (riN c n L M) n)
theorem m_X1_rise {l : Launch} {M : Mm} {c L : Nat} (hc : isC c) (hL : shp[L]? = some (.inr (0, 7, 0))) (hLo : ¬ (L = c ∨ L = c + 10)) {n : Nat} (hn : M.1 c 11 = nI n) (hn30 : n ≤ 30) : AMet l 2 yX1_rise cX1_rise 7 none [.ref c, .ref L] M (QE none (riseM c n L M)) := by
  refine AMet.of (by decide) (by simp [aargs, Value.category]) ?_
  show AW l 2 yX1_rise cX1_rise 7 none 0 [some (.ref c), some (.ref L), none, none, none, none, none] [] M _
  have eC : ∀ f : Nat → Int32, (rI M (c + 10) f).1 c 11 = nI n := fun f => by rw [rI_other (by omega)]; exact hn
  refine aw_lconst (v := 0) dX1_rise_0 (by decide) ?_
  refine aw_lstore_n (i := 2) dX1_rise_1 rfl (by decide) ?_
  refine aw_iconst (v := 0) dX1_rise_2 (by decide) ?_
  refine aw_istore (i := 4) dX1_rise_3 (by decide) ?_
  have lp5 : ∀ k i, i + k = n → AW l 2 yX1_rise cX1_rise 7 none 5 [some (.ref c), some (.ref L), some (.long (stF (M.1 (c + 3)) (M.1 (c + 10)) i)), none, some (.int (nI i)), none, none] [] M (QE none (riseM c n L M)) := by
    intro k
    induction k using Nat.strongRecOn with
    | _ k ih =>
    intro i hk
    refine aw_iload (i := 4) dX1_rise_5 rfl ?_
    refine aw_aload_n (i := 0) dX1_rise_7 rfl rfl ?_
    refine aw_getN (n := n) gf_X1_47 (shC hc) rfl (by first | exact hn | exact eC _) dX1_rise_8 ?_
    refine aw_icmp_geN (tgt := 43) (by omega) (by omega) dX1_rise_11 (by decide) (fun h11 => ?_) (fun h11 => ?_)
    ·
      have ei : i = n := by omega
      rw [ei]
      refine aw_iconst (v := 1) dX1_rise_43 (by decide) ?_
      refine aw_aload_n (i := 1) dX1_rise_44 rfl rfl ?_
      refine aw_iconst (v := 5) dX1_rise_45 (by decide) ?_
      refine aw_top (show (5 : Int32) = nI 5 from rfl) ?_
      refine aw_ialdN hL (by omega) (by omega) dX1_rise_46 ?_
      refine aw_mmax (List.mem_append_right _ (List.mem_of_getElem? (i := 656) (by decide +kernel))) (List.mem_append_right _ (List.mem_of_getElem? (i := 554) (by decide +kernel))) (List.mem_append_right _ (List.mem_of_getElem? (i := 12) (by decide +kernel))) (List.mem_append_right _ (List.mem_of_getElem? (i := 555) (by decide +kernel))) (by decide) (Nat.le_of_ble_eq_true rfl) dX1_rise_47 ?_
      refine aw_istore (i := 4) dX1_rise_50 (by decide) ?_
      refine aw_iconst (v := 0) dX1_rise_52 (by decide) ?_
      refine aw_istore (i := 5) dX1_rise_53 (by decide) ?_
      have lp55 : ∀ k9 i, i + k9 = n → AW l 2 yX1_rise cX1_rise 7 none 55 [some (.ref c), some (.ref L), some (.long (stF (M.1 (c + 3)) (M.1 (c + 10)) n)), none, some (.int (maxI 1 (M.1 L 5))), some (.int (nI i)), none] [] (rI M (c + 10) (upto (M.1 (c + 10)) (riN c n L M) i)) (QE none (riseM c n L M)) := by
        intro k9
        induction k9 using Nat.strongRecOn with
        | _ k9 ih9 =>
        intro i hk9
        refine aw_iload (i := 5) dX1_rise_55 rfl ?_
        refine aw_aload_n (i := 0) dX1_rise_57 rfl rfl ?_
        refine aw_getN (n := n) gf_X1_47 (shC hc) rfl (by first | exact hn | exact eC _) dX1_rise_58 ?_
        refine aw_icmp_geN (tgt := 131) (by omega) (by omega) dX1_rise_61 (by decide) (fun h61 => ?_) (fun h61 => ?_)
        ·
          exact aw_vret rfl dX1_rise_131 ⟨rfl, by unfold riseM; rw [show i = n by omega]⟩
        ·
          refine aw_aload_n (i := 0) dX1_rise_64 rfl rfl ?_
          refine aw_getR gf_X1_35 (shC hc) rfl dX1_rise_65 ?_
          refine aw_iload (i := 5) dX1_rise_68 rfl ?_
          refine aw_ialdX (shC_8 hc) (by omega) (by decide) (congrFun (rI_other (by omega)) _) dX1_rise_70 ?_
          refine aw_iconst (v := 1) dX1_rise_71 (by decide) ?_
          refine aw_icmp_ne (tgt := 93) dX1_rise_72 (by decide) (fun h72 => ?_) (fun h72 => ?_)
          ·
            refine aw_iconst (v := 0) dX1_rise_93 (by decide) ?_
            refine aw_istore (i := 6) dX1_rise_94 (by decide) ?_
            refine aw_iload (i := 6) dX1_rise_96 rfl ?_
            refine aw_if_ne (tgt := 117) dX1_rise_98 (by decide) (fun h98 => ?_) (fun h98 => ?_)
            ·
              exact absurd h98 (by decide)
            ·
              refine aw_aload_n (i := 0) dX1_rise_101 rfl rfl ?_
              refine aw_getR gf_X1_20 (shC hc) rfl dX1_rise_102 ?_
              refine aw_iload (i := 5) dX1_rise_105 rfl ?_
              refine aw_ialdX (shC_3 hc) (by omega) (by decide) (congrFun (rI_other (by omega)) _) dX1_rise_107 ?_
              refine aw_lload_n (i := 2) dX1_rise_108 rfl rfl ?_
              refine aw_cSi ck_X1_166 m_X1_countBefore (by decide) (by decide) rfl rfl (Nat.le_of_ble_eq_true rfl) dX1_rise_109 ?_
              refine aw_iload (i := 4) dX1_rise_112 rfl ?_
              refine aw_icmp_lt (tgt := 125) dX1_rise_114 (by decide) (fun h114 => ?_) (fun h114 => ?_)
              ·
                refine aw_iincN (i := 5) dX1_rise_125 rfl (by decide) ?_
                refine aw_goto (tgt := 55) dX1_rise_128 (by decide) ?_
                refine aw_mem (M' := (rI M (c + 10) (upto (M.1 (c + 10)) (riN c n L M) (i + 1)))) (by rw [upto_e (show _ = riN c n L M i from by unfold riN riP; rw [pIf_f (fun q => q.elim (fun q => by first | exact absurd q.1 (by assumption) | exact absurd (by assumption) q.2) (fun q => absurd (by assumption) q))])]) ?_
                refine aw_loc (la := [some (.ref c), some (.ref L), some (.long (stF (M.1 (c + 3)) (M.1 (c + 10)) n)), none, some (.int (maxI 1 (M.1 L 5))), some (.int (nI (i + 1))), none]) ⟨rfl, rfl, rfl, rfl, rfl, trivial⟩ ?_
                exact ih9 (k9 - 1) (by omega) (i + 1) (by omega)
              ·
                refine aw_aload_n (i := 0) dX1_rise_117 rfl rfl ?_
                refine aw_getR gf_X1_41 (shC hc) rfl dX1_rise_118 ?_
                refine aw_iload (i := 5) dX1_rise_121 rfl ?_
                refine aw_iconst (v := 1) dX1_rise_123 (by decide) ?_
                refine aw_iastN (shC_10 hc) (by omega) (by omega) dX1_rise_124 ?_
                refine aw_iincN (i := 5) dX1_rise_125 rfl (by decide) ?_
                refine aw_goto (tgt := 55) dX1_rise_128 (by decide) ?_
                refine aw_mem (M' := (rI M (c + 10) (upto (M.1 (c + 10)) (riN c n L M) (i + 1)))) (by rw [mI_rI, rI_rI, rI_self, upto_s (show (1 : Int32) = riN c n L M i from by unfold riN riP; rw [pIf_t (by first | exact Or.inl ⟨by assumption, by assumption⟩ | exact Or.inr (by assumption))])]) ?_
                refine aw_loc (la := [some (.ref c), some (.ref L), some (.long (stF (M.1 (c + 3)) (M.1 (c + 10)) n)), none, some (.int (maxI 1 (M.1 L 5))), some (.int (nI (i + 1))), none]) ⟨rfl, rfl, rfl, rfl, rfl, trivial⟩ ?_
                exact ih9 (k9 - 1) (by omega) (i + 1) (by omega)
          ·
            refine aw_aload_n (i := 0) dX1_rise_75 rfl rfl ?_
            refine aw_getR gf_X1_23 (shC hc) rfl dX1_rise_76 ?_
            refine aw_iload (i := 5) dX1_rise_79 rfl ?_
            refine aw_ialdX (shC_4 hc) (by omega) (by decide) (congrFun (rI_other (by omega)) _) dX1_rise_81 ?_
            refine aw_aload_n (i := 1) dX1_rise_82 rfl rfl ?_
            refine aw_bipush (v := 6) dX1_rise_83 (by decide) ?_
            refine aw_top (show (6 : Int32) = nI 6 from rfl) ?_
            refine aw_ialdX hL (by omega) (by decide) (congrFun (rI_other (fun q => hLo (Or.inr q))) _) dX1_rise_85 ?_
            refine aw_icmp_lt (tgt := 93) dX1_rise_86 (by decide) (fun h86 => ?_) (fun h86 => ?_)
            ·
              refine aw_iconst (v := 0) dX1_rise_93 (by decide) ?_
              refine aw_istore (i := 6) dX1_rise_94 (by decide) ?_
              refine aw_iload (i := 6) dX1_rise_96 rfl ?_
              refine aw_if_ne (tgt := 117) dX1_rise_98 (by decide) (fun h98 => ?_) (fun h98 => ?_)
              ·
                exact absurd h98 (by decide)
              ·
                refine aw_aload_n (i := 0) dX1_rise_101 rfl rfl ?_
                refine aw_getR gf_X1_20 (shC hc) rfl dX1_rise_102 ?_
                refine aw_iload (i := 5) dX1_rise_105 rfl ?_
                refine aw_ialdX (shC_3 hc) (by omega) (by decide) (congrFun (rI_other (by omega)) _) dX1_rise_107 ?_
                refine aw_lload_n (i := 2) dX1_rise_108 rfl rfl ?_
                refine aw_cSi ck_X1_166 m_X1_countBefore (by decide) (by decide) rfl rfl (Nat.le_of_ble_eq_true rfl) dX1_rise_109 ?_
                refine aw_iload (i := 4) dX1_rise_112 rfl ?_
                refine aw_icmp_lt (tgt := 125) dX1_rise_114 (by decide) (fun h114 => ?_) (fun h114 => ?_)
                ·
                  refine aw_iincN (i := 5) dX1_rise_125 rfl (by decide) ?_
                  refine aw_goto (tgt := 55) dX1_rise_128 (by decide) ?_
                  refine aw_mem (M' := (rI M (c + 10) (upto (M.1 (c + 10)) (riN c n L M) (i + 1)))) (by rw [upto_e (show _ = riN c n L M i from by unfold riN riP; rw [pIf_f (fun q => q.elim (fun q => by first | exact absurd q.1 (by assumption) | exact absurd (by assumption) q.2) (fun q => absurd (by assumption) q))])]) ?_
                  refine aw_loc (la := [some (.ref c), some (.ref L), some (.long (stF (M.1 (c + 3)) (M.1 (c + 10)) n)), none, some (.int (maxI 1 (M.1 L 5))), some (.int (nI (i + 1))), none]) ⟨rfl, rfl, rfl, rfl, rfl, trivial⟩ ?_
                  exact ih9 (k9 - 1) (by omega) (i + 1) (by omega)
                ·
                  refine aw_aload_n (i := 0) dX1_rise_117 rfl rfl ?_
                  refine aw_getR gf_X1_41 (shC hc) rfl dX1_rise_118 ?_
                  refine aw_iload (i := 5) dX1_rise_121 rfl ?_
                  refine aw_iconst (v := 1) dX1_rise_123 (by decide) ?_
                  refine aw_iastN (shC_10 hc) (by omega) (by omega) dX1_rise_124 ?_
                  refine aw_iincN (i := 5) dX1_rise_125 rfl (by decide) ?_
                  refine aw_goto (tgt := 55) dX1_rise_128 (by decide) ?_
                  refine aw_mem (M' := (rI M (c + 10) (upto (M.1 (c + 10)) (riN c n L M) (i + 1)))) (by rw [mI_rI, rI_rI, rI_self, upto_s (show (1 : Int32) = riN c n L M i from by unfold riN riP; rw [pIf_t (by first | exact Or.inl ⟨by assumption, by assumption⟩ | exact Or.inr (by assumption))])]) ?_
                  refine aw_loc (la := [some (.ref c), some (.ref L), some (.long (stF (M.1 (c + 3)) (M.1 (c + 10)) n)), none, some (.int (maxI 1 (M.1 L 5))), some (.int (nI (i + 1))), none]) ⟨rfl, rfl, rfl, rfl, rfl, trivial⟩ ?_
                  exact ih9 (k9 - 1) (by omega) (i + 1) (by omega)
            ·
              refine aw_iconst (v := 1) dX1_rise_89 (by decide) ?_
              refine aw_goto (tgt := 94) dX1_rise_90 (by decide) ?_
              refine aw_istore (i := 6) dX1_rise_94 (by decide) ?_
              refine aw_iload (i := 6) dX1_rise_96 rfl ?_
              refine aw_if_ne (tgt := 117) dX1_rise_98 (by decide) (fun h98 => ?_) (fun h98 => ?_)
              ·
                refine aw_aload_n (i := 0) dX1_rise_117 rfl rfl ?_
                refine aw_getR gf_X1_41 (shC hc) rfl dX1_rise_118 ?_
                refine aw_iload (i := 5) dX1_rise_121 rfl ?_
                refine aw_iconst (v := 1) dX1_rise_123 (by decide) ?_
                refine aw_iastN (shC_10 hc) (by omega) (by omega) dX1_rise_124 ?_
                refine aw_iincN (i := 5) dX1_rise_125 rfl (by decide) ?_
                refine aw_goto (tgt := 55) dX1_rise_128 (by decide) ?_
                refine aw_mem (M' := (rI M (c + 10) (upto (M.1 (c + 10)) (riN c n L M) (i + 1)))) (by rw [mI_rI, rI_rI, rI_self, upto_s (show (1 : Int32) = riN c n L M i from by unfold riN riP; rw [pIf_t (by first | exact Or.inl ⟨by assumption, by assumption⟩ | exact Or.inr (by assumption))])]) ?_
                refine aw_loc (la := [some (.ref c), some (.ref L), some (.long (stF (M.1 (c + 3)) (M.1 (c + 10)) n)), none, some (.int (maxI 1 (M.1 L 5))), some (.int (nI (i + 1))), none]) ⟨rfl, rfl, rfl, rfl, rfl, trivial⟩ ?_
                exact ih9 (k9 - 1) (by omega) (i + 1) (by omega)
              ·
                exact absurd h98 (by decide)
      refine aw_loc (la := [some (.ref c), some (.ref L), some (.long (stF (M.1 (c + 3)) (M.1 (c + 10)) n)), none, some (.int (maxI 1 (M.1 L 5))), some (.int (nI 0)), none]) ⟨rfl, rfl, rfl, rfl, rfl, trivial⟩ ?_
      refine aw_mem (M' := (rI M (c + 10) (upto (M.1 (c + 10)) (riN c n L M) 0))) (by rw [upto_0, rI_id]) ?_
      exact lp55 n 0 (by omega)
    ·
      refine aw_aload_n (i := 0) dX1_rise_14 rfl rfl ?_
      refine aw_getR gf_X1_41 (shC hc) rfl dX1_rise_15 ?_
      refine aw_iload (i := 4) dX1_rise_18 rfl ?_
      refine aw_ialdN (shC_10 hc) (by omega) (by omega) dX1_rise_20 ?_
      refine aw_iconst (v := 1) dX1_rise_21 (by decide) ?_
      refine aw_icmp_ne (tgt := 37) dX1_rise_22 (by decide) (fun h22 => ?_) (fun h22 => ?_)
      ·
        refine aw_iincN (i := 4) dX1_rise_37 rfl (by decide) ?_
        refine aw_goto (tgt := 5) dX1_rise_40 (by decide) ?_
        refine aw_loc (la := [some (.ref c), some (.ref L), some (.long (stF (M.1 (c + 3)) (M.1 (c + 10)) (i + 1))), none, some (.int (nI (i + 1))), none, none]) ⟨rfl, rfl, (show some (Value.long (stF (M.1 (c + 3)) (M.1 (c + 10)) i)) = some (Value.long (stF (M.1 (c + 3)) (M.1 (c + 10)) (i + 1))) from by rw [← stF_f (by assumption)]), rfl, trivial⟩ (ih (k - 1) (by omega) (i + 1) (by omega))
      ·
        refine aw_lload_n (i := 2) dX1_rise_25 rfl rfl ?_
        refine aw_lconst (v := 1) dX1_rise_26 (by decide) ?_
        refine aw_aload_n (i := 0) dX1_rise_27 rfl rfl ?_
        refine aw_getR gf_X1_20 (shC hc) rfl dX1_rise_28 ?_
        refine aw_iload (i := 4) dX1_rise_31 rfl ?_
        refine aw_ialdN (shC_3 hc) (by omega) (by omega) dX1_rise_33 ?_
        refine aw_lshl dX1_rise_34 ?_
        refine aw_lor dX1_rise_35 ?_
        refine aw_lstore_n (i := 2) dX1_rise_36 rfl (by decide) ?_
        refine aw_iincN (i := 4) dX1_rise_37 rfl (by decide) ?_
        refine aw_goto (tgt := 5) dX1_rise_40 (by decide) ?_
        refine aw_loc (la := [some (.ref c), some (.ref L), some (.long (stF (M.1 (c + 3)) (M.1 (c + 10)) (i + 1))), none, some (.int (nI (i + 1))), none, none]) ⟨rfl, rfl, (show some (Value.long ((stF (M.1 (c + 3)) (M.1 (c + 10)) i) ||| (1 <<< ((M.1 (c + 3) i).toInt64 &&& 63)))) = some (Value.long (stF (M.1 (c + 3)) (M.1 (c + 10)) (i + 1))) from by rw [← stF_t (by assumption)]), rfl, trivial⟩ (ih (k - 1) (by omega) (i + 1) (by omega))
  refine aw_loc (la := [some (.ref c), some (.ref L), some (.long (stF (M.1 (c + 3)) (M.1 (c + 10)) 0)), none, some (.int (nI 0)), none, none]) ⟨rfl, rfl, rfl, rfl, trivial⟩ ?_
  exact lp5 n 0 (by omega)
/-- one tick -/
def tickQ (c n L : Nat) (M M' : Mm) : Prop := ∃ M1, turnQ c n L M M1 ∧ M' = mI (riseM c n L (beatM c n (bitsI n (fun j => nmF (tnC c n L M) (M.1 (c + 8)) j = 1)) M1)) c 12 ((riseM c n L (beatM c n (bitsI n (fun j => nmF (tnC c n L M) (M.1 (c + 8)) j = 1)) M1)).1 c 12 + 1)
/-- so many steps -/
def itR : Nat → (Mm → Mm → Prop) → Mm → Mm → Prop
  | 0, _, M, M' => M' = M
  | k + 1, R, M, M' => ∃ X, itR k R M X ∧ R X M'
theorem beatM_o {c n k : Nat} {cl : Int32} {M : Mm} (h : k ≠ c) (h2 : k ≠ c + 7) : (beatM c n cl M).1 k = M.1 k := by
  unfold beatM
  by_cases p : bcI cl < 2 * bcI (hitsF c n M)
  · rw [pIf_t p, rI_other h2, beat1_o h]
  · rw [pIf_f p, beat1_o h]
theorem beatM_c {c n j : Nat} {cl : Int32} {M : Mm} (h : j ≠ 14 ∧ j ≠ 15) : (beatM c n cl M).1 c j = M.1 c j := by
  unfold beatM
  by_cases p : bcI cl < 2 * bcI (hitsF c n M)
  · rw [pIf_t p, rI_other (by omega), beat1_c h]
  · rw [pIf_f p, beat1_c h]
theorem beatM_2 {c n : Nat} {cl : Int32} {M : Mm} : (beatM c n cl M).2 = M.2 := by
  unfold beatM
  by_cases p : bcI cl < 2 * bcI (hitsF c n M)
  · rw [pIf_t p]; rfl
  · rw [pIf_f p]; rfl
theorem riseM_o {c n L k : Nat} {M : Mm} (h : k ≠ c + 10) : (riseM c n L M).1 k = M.1 k := rI_other h
/-- what stays good from tick to tick -/
def tkI (c n L : Nat) (M0 M : Mm) : Prop := Same (fun k => k = c ∨ (c + 7 ≤ k ∧ k ≤ c + 10) ∨ (c + 12 ≤ k ∧ k ≤ c + 14)) M0 M ∧ M.1 c 11 = nI n ∧ heardOK c n M
theorem tick_I {c n L : Nat} {M0 M M' : Mm} (h : tkI c n L M0 M) (ht : tickQ c n L M M') : tkI c n L M0 M' := by
  obtain ⟨hS, hc, hh⟩ := h
  obtain ⟨M1, ⟨tS, tj, -, -, -, th⟩, rfl⟩ := ht
  have o : ∀ k, k ≠ c → k ≠ c + 7 → k ≠ c + 10 → (mI (riseM c n L (beatM c n (bitsI n (fun j => nmF (tnC c n L M) (M.1 (c + 8)) j = 1)) M1)) c 12 ((riseM c n L (beatM c n (bitsI n (fun j => nmF (tnC c n L M) (M.1 (c + 8)) j = 1)) M1)).1 c 12 + 1)).1 k = M1.1 k := fun k h1 h2 h3 => by rw [mI_other h1, riseM_o h3, beatM_o h1 h2]
  refine ⟨⟨?_, fun k hk => ?_⟩, ?_, fun j hj => ?_⟩
  · rw [mI_2, show (riseM c n L (beatM c n (bitsI n (fun j => nmF (tnC c n L M) (M.1 (c + 8)) j = 1)) M1)).2 = (beatM c n (bitsI n (fun j => nmF (tnC c n L M) (M.1 (c + 8)) j = 1)) M1).2 from rfl, beatM_2, tS.1]
    exact hS.1
  · rw [o k (by omega) (by omega) (by omega), tS.2 k (by omega)]
    exact hS.2 k hk
  · rw [mI_self, upd_other (by decide), riseM_o (by omega), beatM_c (by decide), tj 11 (by decide)]
    exact hc
  · rw [o _ (by omega) (by omega) (by omega), o _ (by omega) (by omega) (by omega), o _ (by omega) (by omega) (by omega), o _ (by omega) (by omega) (by omega)]
    exact th j hj
theorem m_X1_passTicks {l : Launch} {M : Mm} {c L m : Nat} (hc : isC c) (hL : shp[L]? = some (.inr (0, 7, 0))) (hLo : ¬ (L = c ∨ (c + 2 ≤ L ∧ L ≤ c + 14))) {n : Nat} (hn : M.1 c 11 = nI n) (hn30 : n ≤ 30) (hm : m < 1000) : AMet l 5 yX1_passTicks cX1_passTicks 5 none [.ref c, .ref L, .int (nI m)] M (QN (fun M9 => ∃ M0, lsM c n M M0 ∧ itR m (tickQ c n L) M0 M9)) := by
  refine AMet.of (by decide) (by simp [aargs, Value.category]) ?_
  show AW l 5 yX1_passTicks cX1_passTicks 5 none 0 [some (.ref c), some (.ref L), some (.int (nI m)), none, none] [] M _
  refine aw_aload_n (i := 0) dX1_passTicks_0 rfl rfl ?_
  refine aw_cVQ ck_X1_93 (m_X1_listen hc hn hn30) (shC hc) rfl (by decide) (by decide) rfl rfl (Nat.le_of_ble_eq_true rfl) dX1_passTicks_1 (fun r M9 hq9 => ?_)
  obtain ⟨rfl, hs9⟩ := hq9
  generalize M9 = M0 at hs9 ⊢
  refine aw_iconst (v := 0) dX1_passTicks_4 (by decide) ?_
  refine aw_istore_n (i := 3) dX1_passTicks_5 rfl (by decide) ?_
  have lp6 : ∀ k i, i + k = m → ∀ M' : Mm, tkI c n L M M' → itR i (tickQ c n L) M0 M' → AW l 5 yX1_passTicks cX1_passTicks 5 none 6 [some (.ref c), some (.ref L), some (.int (nI m)), some (.int (nI i)), none] [] M' (QN (fun M9 => ∃ M0, lsM c n M M0 ∧ itR m (tickQ c n L) M0 M9)) := by
    intro k
    induction k using Nat.strongRecOn with
    | _ k ih =>
    intro i hk M' hI hR
    refine aw_iload_n (i := 3) dX1_passTicks_6 rfl rfl ?_
    refine aw_iload_n (i := 2) dX1_passTicks_7 rfl rfl ?_
    refine aw_icmp_geN (tgt := 45) (by omega) (by omega) dX1_passTicks_8 (by decide) (fun h8 => ?_) (fun h8 => ?_)
    ·
      exact aw_vret rfl dX1_passTicks_45 ⟨rfl, M0, hs9, by rw [show m = i by omega]; exact hR⟩
    ·
      refine aw_aload_n (i := 0) dX1_passTicks_11 rfl rfl ?_
      refine aw_aload_n (i := 1) dX1_passTicks_12 rfl rfl ?_
      refine aw_cVQ ck_X1_125 (m_X1_turn hc hL (fun q => hLo (by omega)) hI.2.1 hn30 hI.2.2) (shC hc) rfl (by decide) (by decide) rfl rfl (Nat.le_of_ble_eq_true rfl) dX1_passTicks_13 (fun r M9 hq9 => ?_)
      obtain ⟨rfl, hs9⟩ := hq9
      have eC : M9.1 c 11 = nI n := by rw [hs9.2.1 11 (by decide)]; exact hI.2.1
      refine aw_pc (pc' := 16) rfl ?_
      refine aw_istore (i := 4) dX1_passTicks_16 (by decide) ?_
      refine aw_aload_n (i := 0) dX1_passTicks_18 rfl rfl ?_
      refine aw_iload (i := 4) dX1_passTicks_19 rfl ?_
      refine aw_cVv ck_X1_129 (m_X1_beat hc eC hn30) (shC hc) rfl (by decide) (by decide) rfl rfl (Nat.le_of_ble_eq_true rfl) dX1_passTicks_21 ?_
      refine aw_aload_n (i := 0) dX1_passTicks_24 rfl rfl ?_
      refine aw_aload_n (i := 1) dX1_passTicks_25 rfl rfl ?_
      refine aw_cVv ck_X1_132 (m_X1_rise hc hL (fun q => hLo (by omega)) (by rw [beatM_c (by decide)]; exact eC) hn30) (shC hc) rfl (by decide) (by decide) rfl rfl (Nat.le_of_ble_eq_true rfl) dX1_passTicks_26 ?_
      refine aw_aload_n (i := 0) dX1_passTicks_29 rfl rfl ?_
      refine aw_dup dX1_passTicks_30 rfl ?_
      refine aw_getI gf_X1_51 (shC hc) rfl dX1_passTicks_31 ?_
      refine aw_iconst (v := 1) dX1_passTicks_34 (by decide) ?_
      refine aw_iadd dX1_passTicks_35 ?_
      refine aw_putI pf_X1_51 (shC hc) rfl dX1_passTicks_36 ?_
      refine aw_iincN (i := 3) dX1_passTicks_39 rfl (by decide) ?_
      refine aw_goto (tgt := 6) dX1_passTicks_42 (by decide) ?_
      refine aw_loc (la := [some (.ref c), some (.ref L), some (.int (nI m)), some (.int (nI (i + 1))), none]) ⟨rfl, rfl, rfl, rfl, trivial⟩ ?_
      have ht : tickQ c n L M' _ := ⟨M9, hs9, rfl⟩
      exact ih (k - 1) (by omega) (i + 1) (by omega) _ (tick_I hI ht) ⟨M', hR, ht⟩
  refine aw_loc (la := [some (.ref c), some (.ref L), some (.int (nI m)), some (.int (nI 0)), none]) ⟨rfl, rfl, rfl, rfl, trivial⟩ ?_
  exact lp6 m 0 (by omega) M0 ⟨hs9.1.mono (fun k q => by omega), by rw [hs9.1.2 c (by omega)]; exact hn, hs9.2⟩ rfl
