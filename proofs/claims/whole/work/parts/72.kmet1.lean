/-! constructors that make rows of numbers -/
theorem ob_i : Cond.instanceMethod objectInit ∈ lw_tbl := (List.mem_append_right _ (List.mem_of_getElem? (i := 24) (by decide +kernel)))
theorem ob_c : Cond.code objectInit ⟨#[0xb1]⟩ 1 none ∈ lw_tbl := (List.mem_append_right _ (List.mem_of_getElem? (i := 25) (by decide +kernel)))
theorem ar_0 : Cond.arrayClass (tyA 0) ∈ lw_tbl := (List.mem_append_right _ (List.mem_of_getElem? (i := 48) (by decide +kernel)))
theorem ar_1 : Cond.arrayClass (tyA 1) ∈ lw_tbl := (List.mem_append_right _ (List.mem_of_getElem? (i := 134) (by decide +kernel)))
theorem ar_2 : Cond.arrayClass (tyA 2) ∈ lw_tbl := (List.mem_append_right _ (List.mem_of_getElem? (i := 49) (by decide +kernel)))
theorem pk_X0_9 : PK RX0 9 0 0 (.array .int) := pk_of (own := RX0) (index := 9) (j := 0) (C := RX0) (T := TX0) (N := 5) rfl hg_0 (by decide) tyX0 tyX0_ok nmX0 (nm := "bodies") (ds := "[I") (ow := "ClapTogether$Acts") ⟨rfl, rfl, rfl⟩ rfl (List.mem_append_right _ (List.mem_of_getElem? (i := 223) (by decide +kernel))) rfl
theorem pk_X0_15 : PK RX0 15 0 1 .int := pk_of (own := RX0) (index := 15) (j := 1) (C := RX0) (T := TX0) (N := 5) rfl hg_0 (by decide) tyX0 tyX0_ok nmX0 (nm := "ran") (ds := "I") (ow := "ClapTogether$Acts") ⟨rfl, rfl, rfl⟩ rfl (List.mem_append_right _ (List.mem_of_getElem? (i := 225) (by decide +kernel))) rfl
theorem pk_X0_19 : PK RX0 19 0 2 .int := pk_of (own := RX0) (index := 19) (j := 2) (C := RX0) (T := TX0) (N := 5) rfl hg_0 (by decide) tyX0 tyX0_ok nmX0 (nm := "kind") (ds := "I") (ow := "ClapTogether$Acts") ⟨rfl, rfl, rfl⟩ rfl (List.mem_append_right _ (List.mem_of_getElem? (i := 227) (by decide +kernel))) rfl
theorem pk_X0_22 : PK RX0 22 0 3 .int := pk_of (own := RX0) (index := 22) (j := 3) (C := RX0) (T := TX0) (N := 5) rfl hg_0 (by decide) tyX0 tyX0_ok nmX0 (nm := "number") (ds := "I") (ow := "ClapTogether$Acts") ⟨rfl, rfl, rfl⟩ rfl (List.mem_append_right _ (List.mem_of_getElem? (i := 228) (by decide +kernel))) rfl
theorem pk_X0_25 : PK RX0 25 0 4 .int := pk_of (own := RX0) (index := 25) (j := 4) (C := RX0) (T := TX0) (N := 5) rfl hg_0 (by decide) tyX0 tyX0_ok nmX0 (nm := "pace") (ds := "I") (ow := "ClapTogether$Acts") ⟨rfl, rfl, rfl⟩ rfl (List.mem_append_right _ (List.mem_of_getElem? (i := 229) (by decide +kernel))) rfl
def shK0 : List Sh := [.inl (0, [some 1, none, none, none, none]), .inr (0, 20, 0)]
def mK0 (k : Nat) : Nat → Int32 := match k with
  | 0 => fun j => if j = 4 then 1 else 0
  | _ => fun _ => 0
def MK0 : Mm := (mK0, fun _ _ => 0)
theorem k_X0 {l : Launch} : KMet l yX0_init cX0_init 2 1 20 0 [.null, .int 0, .int 0, .int 0, .int 0] (PP shK0 MK0) := by
  refine KMet.of (by decide) rfl (fun ad0 ca h0 => ?_)
  refine kw_aload dX0_init_0 ?_
  refine kw_obj (List.mem_append_right _ (List.mem_of_getElem? (i := 222) (by decide +kernel))) ob_i ob_c (by decide) dX0_init_1 ?_
  refine kw_aload dX0_init_4 ?_
  refine kw_bipush (v := 20) dX0_init_5 (by decide) ?_
  refine kw_newa1 (t := 0) (N := 20) (a0 := (20, .inl (fun _ => 0))) ar_0 rfl (by decide) (fun _ => rfl) (by decide) (by decide) (by decide) (by decide) (by decide) dX0_init_7 (fun q1 => ?_)
  refine kw_put1 [.ref q1, .int 0, .int 0, .int 0, .int 0] pk_X0_9 rfl rfl (Nat.le_of_ble_eq_true rfl) dX0_init_9 rfl ?_
  refine kw_aload dX0_init_12 ?_
  refine kw_iconst (v := 0) dX0_init_13 (by decide) ?_
  refine kw_put1 [.ref q1, .int 0, .int 0, .int 0, .int 0] pk_X0_15 rfl rfl (Nat.le_of_ble_eq_true rfl) dX0_init_14 rfl ?_
  refine kw_aload dX0_init_17 ?_
  refine kw_iconst (v := 0) dX0_init_18 (by decide) ?_
  refine kw_put1 [.ref q1, .int 0, .int 0, .int 0, .int 0] pk_X0_19 rfl rfl (Nat.le_of_ble_eq_true rfl) dX0_init_19 rfl ?_
  refine kw_aload dX0_init_22 ?_
  refine kw_iconst (v := 0) dX0_init_23 (by decide) ?_
  refine kw_put1 [.ref q1, .int 0, .int 0, .int 0, .int 0] pk_X0_22 rfl rfl (Nat.le_of_ble_eq_true rfl) dX0_init_24 rfl ?_
  refine kw_aload dX0_init_27 ?_
  refine kw_iconst (v := 1) dX0_init_28 (by decide) ?_
  refine kw_put1 [.ref q1, .int 0, .int 0, .int 0, .int 1] pk_X0_25 rfl rfl (Nat.le_of_ble_eq_true rfl) dX0_init_29 rfl ?_
  exact kw_ret ⟨fun k => [h0, q1].getD k 0, rfl, piece_eq (rfl)⟩ (by decide) (by decide) dX0_init_32
theorem pk_X4_9 : PK RX4 9 4 0 (.array .int) := pk_of (own := RX4) (index := 9) (j := 0) (C := RX4) (T := TX4) (N := 4) rfl hg_4 (by decide) tyX4 tyX4_ok nmX4 (nm := "numbers") (ds := "[I") (ow := "ClapTogether$LawReader") ⟨rfl, rfl, rfl⟩ rfl (List.mem_append_right _ (List.mem_of_getElem? (i := 203) (by decide +kernel))) rfl
theorem pk_X4_15 : PK RX4 15 4 1 (.array .int) := pk_of (own := RX4) (index := 15) (j := 1) (C := RX4) (T := TX4) (N := 4) rfl hg_4 (by decide) tyX4 tyX4_ok nmX4 (nm := "signs") (ds := "[I") (ow := "ClapTogether$LawReader") ⟨rfl, rfl, rfl⟩ rfl (List.mem_append_right _ (List.mem_of_getElem? (i := 205) (by decide +kernel))) rfl
theorem pk_X4_18 : PK RX4 18 4 2 .int := pk_of (own := RX4) (index := 18) (j := 2) (C := RX4) (T := TX4) (N := 4) rfl hg_4 (by decide) tyX4 tyX4_ok nmX4 (nm := "size") (ds := "I") (ow := "ClapTogether$LawReader") ⟨rfl, rfl, rfl⟩ rfl (List.mem_append_right _ (List.mem_of_getElem? (i := 206) (by decide +kernel))) rfl
theorem pk_X4_22 : PK RX4 22 4 3 .int := pk_of (own := RX4) (index := 22) (j := 3) (C := RX4) (T := TX4) (N := 4) rfl hg_4 (by decide) tyX4 tyX4_ok nmX4 (nm := "place") (ds := "I") (ow := "ClapTogether$LawReader") ⟨rfl, rfl, rfl⟩ rfl (List.mem_append_right _ (List.mem_of_getElem? (i := 207) (by decide +kernel))) rfl
def shK4 : List Sh := [.inl (4, [some 1, some 2, none, none]), .inr (0, 7, 0), .inr (0, 100, 0)]
def mK4 (k : Nat) : Nat → Int32 := match k with
  | 0 => fun _ => 0
  | _ => fun _ => 0
def MK4 : Mm := (mK4, fun _ _ => 0)
theorem k_X4 {l : Launch} : KMet l yX4_init cX4_init 2 2 107 4 [.null, .null, .int 0, .int 0] (PP shK4 MK4) := by
  refine KMet.of (by decide) rfl (fun ad0 ca h0 => ?_)
  refine kw_aload dX4_init_0 ?_
  refine kw_obj (List.mem_append_right _ (List.mem_of_getElem? (i := 202) (by decide +kernel))) ob_i ob_c (by decide) dX4_init_1 ?_
  refine kw_aload dX4_init_4 ?_
  refine kw_bipush (v := 7) dX4_init_5 (by decide) ?_
  refine kw_newa1 (t := 0) (N := 7) (a0 := (7, .inl (fun _ => 0))) ar_0 rfl (by decide) (fun _ => rfl) (by decide) (by decide) (by decide) (by decide) (by decide) dX4_init_7 (fun q1 => ?_)
  refine kw_put1 [.ref q1, .null, .int 0, .int 0] pk_X4_9 rfl rfl (Nat.le_of_ble_eq_true rfl) dX4_init_9 rfl ?_
  refine kw_aload dX4_init_12 ?_
  refine kw_bipush (v := 100) dX4_init_13 (by decide) ?_
  refine kw_newa1 (t := 0) (N := 100) (a0 := (100, .inl (fun _ => 0))) ar_0 rfl (by decide) (fun _ => rfl) (by decide) (by decide) (by decide) (by decide) (by decide) dX4_init_15 (fun q2 => ?_)
  refine kw_put1 [.ref q1, .ref q2, .int 0, .int 0] pk_X4_15 rfl rfl (Nat.le_of_ble_eq_true rfl) dX4_init_17 rfl ?_
  refine kw_aload dX4_init_20 ?_
  refine kw_iconst (v := 0) dX4_init_21 (by decide) ?_
  refine kw_put1 [.ref q1, .ref q2, .int 0, .int 0] pk_X4_18 rfl rfl (Nat.le_of_ble_eq_true rfl) dX4_init_22 rfl ?_
  refine kw_aload dX4_init_25 ?_
  refine kw_iconst (v := 0) dX4_init_26 (by decide) ?_
  refine kw_put1 [.ref q1, .ref q2, .int 0, .int 0] pk_X4_22 rfl rfl (Nat.le_of_ble_eq_true rfl) dX4_init_27 rfl ?_
  exact kw_ret ⟨fun k => [h0, q1, q2].getD k 0, rfl, piece_eq (rfl)⟩ (by decide) (by decide) dX4_init_30
theorem pk_X5_9 : PK RX5 9 5 0 (.array .int) := pk_of (own := RX5) (index := 9) (j := 0) (C := RX5) (T := TX5) (N := 2) rfl hg_5 (by decide) tyX5 tyX5_ok nmX5 (nm := "seats") (ds := "[I") (ow := "ClapTogether$Microphones") ⟨rfl, rfl, rfl⟩ rfl (List.mem_append_right _ (List.mem_of_getElem? (i := 165) (by decide +kernel))) rfl
theorem pk_X5_15 : PK RX5 15 5 1 .int := pk_of (own := RX5) (index := 15) (j := 1) (C := RX5) (T := TX5) (N := 2) rfl hg_5 (by decide) tyX5 tyX5_ok nmX5 (nm := "count") (ds := "I") (ow := "ClapTogether$Microphones") ⟨rfl, rfl, rfl⟩ rfl (List.mem_append_right _ (List.mem_of_getElem? (i := 167) (by decide +kernel))) rfl
def shK5 : List Sh := [.inl (5, [some 1, none]), .inr (0, 8, 0)]
def mK5 (k : Nat) : Nat → Int32 := match k with
  | 0 => fun _ => 0
  | _ => fun _ => 0
def MK5 : Mm := (mK5, fun _ _ => 0)
theorem k_X5 {l : Launch} : KMet l yX5_init cX5_init 2 1 8 5 [.null, .int 0] (PP shK5 MK5) := by
  refine KMet.of (by decide) rfl (fun ad0 ca h0 => ?_)
  refine kw_aload dX5_init_0 ?_
  refine kw_obj (List.mem_append_right _ (List.mem_of_getElem? (i := 164) (by decide +kernel))) ob_i ob_c (by decide) dX5_init_1 ?_
  refine kw_aload dX5_init_4 ?_
  refine kw_bipush (v := 8) dX5_init_5 (by decide) ?_
  refine kw_newa1 (t := 0) (N := 8) (a0 := (8, .inl (fun _ => 0))) ar_0 rfl (by decide) (fun _ => rfl) (by decide) (by decide) (by decide) (by decide) (by decide) dX5_init_7 (fun q1 => ?_)
  refine kw_put1 [.ref q1, .int 0] pk_X5_9 rfl rfl (Nat.le_of_ble_eq_true rfl) dX5_init_9 rfl ?_
  refine kw_aload dX5_init_12 ?_
  refine kw_iconst (v := 0) dX5_init_13 (by decide) ?_
  refine kw_put1 [.ref q1, .int 0] pk_X5_15 rfl rfl (Nat.le_of_ble_eq_true rfl) dX5_init_14 rfl ?_
  exact kw_ret ⟨fun k => [h0, q1].getD k 0, rfl, piece_eq (rfl)⟩ (by decide) (by decide) dX5_init_17
