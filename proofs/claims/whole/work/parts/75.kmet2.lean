/-! constructors that call constructors -/
def fsC0 : List (Option Nat) := [some 1, some 2, some 3, some 4, some 5, some 6, some 7, some 8, some 9, some 10, some 11, none, none, none, none, none, some 12, some 13, some 14]
def shK1 : List Sh := [.inl (1, fsC0), .inr (3, 10, 2), .inr (0, 30, 0), .inr (0, 30, 0), .inr (0, 30, 0), .inr (0, 30, 0), .inr (0, 30, 0), .inr (0, 30, 0), .inr (0, 30, 0), .inr (0, 30, 0), .inr (0, 30, 0), .inr (0, 30, 0), .inr (0, 30, 0), .inr (0, 30, 0), .inr (1, 30, 0)]
def mK1 (k : Nat) : Nat → Int32 := if k = 0 then (fun j => if j = 13 then 1 else 0) else fun _ => 0
def MK1 : Mm := (mK1, fun _ _ => 0)
def shK3 : List Sh := [.inl (3, [some 1, none, none]), .inr (3, 7, 2), .inr (0, 7, 0), .inr (0, 7, 0), .inr (0, 7, 0), .inr (0, 7, 0), .inr (0, 7, 0), .inr (0, 7, 0), .inr (0, 7, 0)]
def mK3 (k : Nat) : Nat → Int32 := if k = 0 then (fun j => if j = 2 then (-1) else 0) else if k = 2 then va_cpy lawsF (fun _ => 0) 0 0 7 else fun _ => 0
def MK3 : Mm := (mK3, fun _ _ => 0)
def shK6 : List Sh := [.inl (6, [some 1, some 2, some 3]), .inr (0, 8, 0), .inr (0, 8, 0), .inr (4, 8, 4), .inr (2, 100, 0), .inr (2, 100, 0), .inr (2, 100, 0), .inr (2, 100, 0), .inr (2, 100, 0), .inr (2, 100, 0), .inr (2, 100, 0), .inr (2, 100, 0)]
def mK6 (k : Nat) : Nat → Int32 := if k = 1 then fillR (fun _ => 0) 8 (-1) else fun _ => 0
def MK6 : Mm := (mK6, fun _ _ => 0)
def shK2 : List Sh := [.inl (2, [some 2, some 1, none, none]), .inr (0, 200, 0)] ++ shK1.map (shS 2)
def mK2 (k : Nat) : Nat → Int32 := if k < 2 then fun _ => 0 else mK1 (k - 2)
def MK2 : Mm := (mK2, fun _ _ => 0)
def sh7 : List Sh := shp.take 105
def m0 (k : Nat) : Nat → Int32 := if k < 1 then (fun j => if j = 9 then (-1) else 0) else if k < 2 then (fun _ => 0) else if k < 14 then mK6 (k - 2) else if k < 29 then mK1 (k - 14) else if k < 44 then mK1 (k - 29) else if k < 61 then mK2 (k - 44) else if k < 78 then mK2 (k - 61) else if k < 87 then mK3 (k - 78) else if k < 96 then mK3 (k - 87) else if k < 98 then mK5 (k - 96) else if k < 100 then mK5 (k - 98) else if k < 103 then mK4 (k - 100) else if k < 105 then mK0 (k - 103) else mK8 (k - 105)
def M0 : Mm := (m0, fun _ _ => 0)
theorem df_0 : ∀ j, j < 5 → defaultValue (tyX0 j) = vp_V [.null, .int 0, .int 0, .int 0, .int 0] j
  | 0, _ => rfl
  | 1, _ => rfl
  | 2, _ => rfl
  | 3, _ => rfl
  | 4, _ => rfl
  | j + 5, h => absurd h (by omega)
theorem df_1 : ∀ j, j < 19 → defaultValue (tyX1 j) = vp_V [.null, .null, .null, .null, .null, .null, .null, .null, .null, .null, .null, .int 0, .int 0, .int 0, .int 0, .int 0, .null, .null, .null] j
  | 0, _ => rfl
  | 1, _ => rfl
  | 2, _ => rfl
  | 3, _ => rfl
  | 4, _ => rfl
  | 5, _ => rfl
  | 6, _ => rfl
  | 7, _ => rfl
  | 8, _ => rfl
  | 9, _ => rfl
  | 10, _ => rfl
  | 11, _ => rfl
  | 12, _ => rfl
  | 13, _ => rfl
  | 14, _ => rfl
  | 15, _ => rfl
  | 16, _ => rfl
  | 17, _ => rfl
  | 18, _ => rfl
  | j + 19, h => absurd h (by omega)
theorem df_2 : ∀ j, j < 4 → defaultValue (tyX2 j) = vp_V [.null, .null, .int 0, .int 0] j
  | 0, _ => rfl
  | 1, _ => rfl
  | 2, _ => rfl
  | 3, _ => rfl
  | j + 4, h => absurd h (by omega)
theorem df_3 : ∀ j, j < 3 → defaultValue (tyX3 j) = vp_V [.null, .int 0, .int 0] j
  | 0, _ => rfl
  | 1, _ => rfl
  | 2, _ => rfl
  | j + 3, h => absurd h (by omega)
theorem df_4 : ∀ j, j < 4 → defaultValue (tyX4 j) = vp_V [.null, .null, .int 0, .int 0] j
  | 0, _ => rfl
  | 1, _ => rfl
  | 2, _ => rfl
  | 3, _ => rfl
  | j + 4, h => absurd h (by omega)
theorem df_5 : ∀ j, j < 2 → defaultValue (tyX5 j) = vp_V [.null, .int 0] j
  | 0, _ => rfl
  | 1, _ => rfl
  | j + 2, h => absurd h (by omega)
theorem df_6 : ∀ j, j < 3 → defaultValue (tyX6 j) = vp_V [.null, .null, .null] j
  | 0, _ => rfl
  | 1, _ => rfl
  | 2, _ => rfl
  | j + 3, h => absurd h (by omega)
theorem cki_X2_11 : CKI RX2 11 yX1_init cX1_init := ckIN_of (host := "ClapTogether") (List.mem_append_right _ (List.mem_of_getElem? (i := 181) (by decide +kernel))) (List.mem_append_right _ (List.mem_of_getElem? (i := 53) (by decide +kernel))) (List.mem_append_right _ (List.mem_of_getElem? (i := 4) (by decide +kernel))) (List.mem_append_right _ (List.mem_of_getElem? (i := 54) (by decide +kernel))) ⟨by decide, by decide, by decide⟩ rfl
theorem pk_X2_12 : PK RX2 12 2 0 (.object "ClapTogether$Crowd") := pk_of (own := RX2) (index := 12) (j := 0) (C := RX2) (T := TX2) (N := 4) rfl hg_2 (by decide) tyX2 tyX2_ok nmX2 (nm := "crowd") (ds := "LClapTogether$Crowd;") (ow := "ClapTogether$Evening") ⟨rfl, rfl, rfl⟩ rfl (List.mem_append_right _ (List.mem_of_getElem? (i := 182) (by decide +kernel))) rfl
theorem pk_X2_18 : PK RX2 18 2 1 (.array .int) := pk_of (own := RX2) (index := 18) (j := 1) (C := RX2) (T := TX2) (N := 4) rfl hg_2 (by decide) tyX2 tyX2_ok nmX2 (nm := "tallies") (ds := "[I") (ow := "ClapTogether$Evening") ⟨rfl, rfl, rfl⟩ rfl (List.mem_append_right _ (List.mem_of_getElem? (i := 184) (by decide +kernel))) rfl
theorem pk_X2_22 : PK RX2 22 2 2 .int := pk_of (own := RX2) (index := 22) (j := 2) (C := RX2) (T := TX2) (N := 4) rfl hg_2 (by decide) tyX2 tyX2_ok nmX2 (nm := "size") (ds := "I") (ow := "ClapTogether$Evening") ⟨rfl, rfl, rfl⟩ rfl (List.mem_append_right _ (List.mem_of_getElem? (i := 186) (by decide +kernel))) rfl
theorem pk_X2_26 : PK RX2 26 2 3 .int := pk_of (own := RX2) (index := 26) (j := 3) (C := RX2) (T := TX2) (N := 4) rfl hg_2 (by decide) tyX2 tyX2_ok nmX2 (nm := "joinedBits") (ds := "I") (ow := "ClapTogether$Evening") ⟨rfl, rfl, rfl⟩ rfl (List.mem_append_right _ (List.mem_of_getElem? (i := 187) (by decide +kernel))) rfl
theorem s2_1 : ∀ j, j < 15 → shK2[2 + j]? = (shK1[j]?).map (shS 2)
  | 0, _ => rfl
  | 1, _ => rfl
  | 2, _ => rfl
  | 3, _ => rfl
  | 4, _ => rfl
  | 5, _ => rfl
  | 6, _ => rfl
  | 7, _ => rfl
  | 8, _ => rfl
  | 9, _ => rfl
  | 10, _ => rfl
  | 11, _ => rfl
  | 12, _ => rfl
  | 13, _ => rfl
  | 14, _ => rfl
  | j + 15, h => absurd h (by omega)
theorem s2_ok : shK1.all (okB 15) = true := by decide +kernel
theorem m2_1 : ∀ j, MK2.1 (2 + j) = MK1.1 j := fun j => by
  show mK2 (2 + j) = mK1 j
  unfold mK2
  rw [if_neg (by omega), Nat.add_sub_cancel_left]
theorem k_X2 {l : Launch} (hX1 : KMet l yX1_init cX1_init 3 14 400 1 [.null, .null, .null, .null, .null, .null, .null, .null, .null, .null, .null, .int 0, .int 0, .int 0, .int 0, .int 0, .null, .null, .null] (PP shK1 MK1)) : KMet l yX2_init cX2_init 5 16 619 2 [.null, .null, .int 0, .int 0] (PP shK2 MK2) := by
  refine KMet.of (by decide) rfl (fun ad0 ca h0 => ?_)
  refine kw_aload dX2_init_0 ?_
  refine kw_obj (List.mem_append_right _ (List.mem_of_getElem? (i := 179) (by decide +kernel))) ob_i ob_c (by decide) dX2_init_1 ?_
  refine kw_aload dX2_init_4 ?_
  refine kw_new1 (ci := 1) tyX1 tyX1_ok hg_1 (List.mem_append_right _ (List.mem_of_getElem? (i := 180) (by decide +kernel))) (List.mem_append_right _ (List.mem_of_getElem? (i := 51) (by decide +kernel))) (List.mem_append_right _ (List.mem_of_getElem? (i := 4) (by decide +kernel))) rfl df_1 (by decide) (by decide) dX2_init_5 (fun q1 => ?_)
  refine kw_dup dX2_init_8 ?_
  refine kw_init1 cki_X2_11 hX1 (by decide) (Nat.le_of_ble_eq_true rfl) (by decide) (by decide) dX2_init_9 (fun w hw => ?_)
  obtain ⟨a1, ea1, rfl⟩ := hw
  refine kw_put1 [.ref q1, .null, .int 0, .int 0] pk_X2_12 rfl rfl (Nat.le_of_ble_eq_true rfl) dX2_init_12 rfl ?_
  refine kw_aload dX2_init_15 ?_
  refine kw_sipush (v := 200) dX2_init_16 (by decide) ?_
  refine kw_newa1 (t := 0) (N := 200) (a0 := (200, .inl (fun _ => 0))) ar_0 rfl (by decide) (fun _ => rfl) (by decide) (by decide) (by decide) (by decide) (by decide) dX2_init_19 (fun q2 => ?_)
  refine kw_put1 [.ref q1, .ref q2, .int 0, .int 0] pk_X2_18 rfl rfl (Nat.le_of_ble_eq_true rfl) dX2_init_21 rfl ?_
  refine kw_aload dX2_init_24 ?_
  refine kw_iconst (v := 0) dX2_init_25 (by decide) ?_
  refine kw_put1 [.ref q1, .ref q2, .int 0, .int 0] pk_X2_22 rfl rfl (Nat.le_of_ble_eq_true rfl) dX2_init_26 rfl ?_
  refine kw_aload dX2_init_29 ?_
  refine kw_iconst (v := 0) dX2_init_30 (by decide) ?_
  refine kw_put1 [.ref q1, .ref q2, .int 0, .int 0] pk_X2_26 rfl rfl (Nat.le_of_ble_eq_true rfl) dX2_init_31 rfl ?_
  refine kw_ret2 (w := pieceW shK2 (fun k => if k = 0 then h0 else if k = 1 then q2 else a1 (k - 2)) ca MK2) (fun k => if k = 0 then 0 else if k = 1 then 16 else k - 1) ⟨_, rfl, rfl⟩ (fun k x hx => ?_) (fun i j hi hj e => ?_) (by decide) (by decide) dX2_init_34
  · have hk : k < 17 := by
      have := (List.getElem?_eq_some_iff.mp hx).1
      rw [piece_len] at this
      exact this
    rcases (show k = 0 ∨ k = 1 ∨ ∃ j, j < 15 ∧ k = 2 + j from by
      rcases Nat.lt_or_ge k 2 with q | q
      · omega
      · exact Or.inr (Or.inr ⟨k - 2, by omega, by omega⟩)) with rfl | rfl | ⟨j, hj, rfl⟩
    · rw [piece_get] at hx
      have e1 : x = (h0, .inr (2, [.ref q1, .ref q2, .int 0, .int 0])) := by
        refine (Option.some.inj hx).symm.trans ((congrArg (fun z => (h0, z)) (ceS_eq _ ca MK2 0 (.inl (2, [some 2, some 1, none, none])))).trans ?_)
        rw [← ea1]
        rfl
      rw [e1]
      rfl
    · rw [piece_get] at hx
      rw [← Option.some.inj hx]
      show ((_ :: (([] ++ pieceW shK1 a1 ca MK1) ++ _)) : va_W)[16]? = _
      rw [List.getElem?_cons_succ, List.getElem?_append_right (by rw [List.nil_append, piece_len]; decide), List.nil_append, piece_len]
      rfl
    · rw [piece_shift (o := 2) (n := 15) (shR := shK1) (aR := a1) (MR := MK1) s2_1 (fun p hp => by show (if 2 + p = 0 then h0 else if 2 + p = 1 then q2 else a1 (2 + p - 2)) = _; rw [if_neg (by omega), if_neg (by omega), Nat.add_sub_cancel_left]) (fun j _ => ⟨m2_1 j, rfl⟩) s2_ok hj] at hx
      show ((_ :: (([] ++ pieceW shK1 a1 ca MK1) ++ _)) : va_W)[if 2 + j = 0 then 0 else if 2 + j = 1 then 16 else 2 + j - 1]? = some x
      rw [if_neg (by omega), if_neg (by omega), show 2 + j - 1 = j + 1 by omega, List.getElem?_cons_succ, List.nil_append, List.getElem?_append_left (List.getElem?_eq_some_iff.mp hx).1]
      exact hx
  · rw [piece_len] at hi hj
    have hi : i < 17 := hi
    have hj : j < 17 := hj
    have e : (if i = 0 then 0 else if i = 1 then 16 else i - 1) = (if j = 0 then 0 else if j = 1 then 16 else j - 1) := e
    by_cases a1 : i = 0
    · by_cases a2 : j = 0
      · omega
      · rw [if_pos a1, if_neg a2] at e
        by_cases a3 : j = 1
        · rw [if_pos a3] at e; omega
        · rw [if_neg a3] at e; omega
    · rw [if_neg a1] at e
      by_cases a2 : j = 0
      · rw [if_pos a2] at e
        by_cases a3 : i = 1
        · rw [if_pos a3] at e; omega
        · rw [if_neg a3] at e; omega
      · rw [if_neg a2] at e
        by_cases a3 : i = 1
        · rw [if_pos a3] at e
          by_cases a4 : j = 1
          · omega
          · rw [if_neg a4] at e; omega
        · rw [if_neg a3] at e
          by_cases a4 : j = 1
          · rw [if_pos a4] at e; omega
          · rw [if_neg a4] at e; omega
