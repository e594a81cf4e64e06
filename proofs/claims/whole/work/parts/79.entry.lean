/-! from the law's entry to its loop, over three constructors -/
theorem df_7 : ∀ j, j < 14 → defaultValue (tyX7 j) = vp_V [.null, .null, .null, .null, .null, .null, .null, .null, .null, .int 0, .null, .null, .null, .int 0] j
  | 0, _ => rfl
  | 1, _ => rfl
  | 2, _ => rfl
  | 3, _ => rfl
  | 4, _ => rfl
  | 5, _ => rfl
  | 6, _ => rfl
  | 7, _ => rfl
  | 8, _ => rfl
  | 9, _ => rfl
  | 10, _ => rfl
  | 11, _ => rfl
  | 12, _ => rfl
  | 13, _ => rfl
  | j + 14, h => absurd h (by omega)
theorem df_8 : ∀ j, j < 64 → defaultValue (tyX8 j) = vp_V [.int 0, .int 0, .int 0, .int 0, .int 0, .int 0, .int 0, .int 0, .int 0, .null, .null, .null, .null, .null, .null, .null, .null, .null, .null, .null, .null, .null, .null, .null, .null, .null, .null, .null, .null, .null, .null, .int 0, .int 0, .int 0, .int 0, .int 0, .int 0, .null, .null, .null, .null, .null, .null, .null, .null, .null, .null, .int 0, .int 0, .int 0, .int 0, .int 0, .null, .null, .int 0, .int 0, .int 0, .int 0, .int 0, .int 0, .int 0, .int 0, .int 0, .null] j
  | 0, _ => rfl
  | 1, _ => rfl
  | 2, _ => rfl
  | 3, _ => rfl
  | 4, _ => rfl
  | 5, _ => rfl
  | 6, _ => rfl
  | 7, _ => rfl
  | 8, _ => rfl
  | 9, _ => rfl
  | 10, _ => rfl
  | 11, _ => rfl
  | 12, _ => rfl
  | 13, _ => rfl
  | 14, _ => rfl
  | 15, _ => rfl
  | 16, _ => rfl
  | 17, _ => rfl
  | 18, _ => rfl
  | 19, _ => rfl
  | 20, _ => rfl
  | 21, _ => rfl
  | 22, _ => rfl
  | 23, _ => rfl
  | 24, _ => rfl
  | 25, _ => rfl
  | 26, _ => rfl
  | 27, _ => rfl
  | 28, _ => rfl
  | 29, _ => rfl
  | 30, _ => rfl
  | 31, _ => rfl
  | 32, _ => rfl
  | 33, _ => rfl
  | 34, _ => rfl
  | 35, _ => rfl
  | 36, _ => rfl
  | 37, _ => rfl
  | 38, _ => rfl
  | 39, _ => rfl
  | 40, _ => rfl
  | 41, _ => rfl
  | 42, _ => rfl
  | 43, _ => rfl
  | 44, _ => rfl
  | 45, _ => rfl
  | 46, _ => rfl
  | 47, _ => rfl
  | 48, _ => rfl
  | 49, _ => rfl
  | 50, _ => rfl
  | 51, _ => rfl
  | 52, _ => rfl
  | 53, _ => rfl
  | 54, _ => rfl
  | 55, _ => rfl
  | 56, _ => rfl
  | 57, _ => rfl
  | 58, _ => rfl
  | 59, _ => rfl
  | 60, _ => rfl
  | 61, _ => rfl
  | 62, _ => rfl
  | 63, _ => rfl
  | j + 64, h => absurd h (by omega)
theorem cki_L_9 : CKI yL_law.cls 9 yX7_init cX7_init := ckI_of (List.mem_append_right _ (List.mem_of_getElem? (i := 20) (by decide +kernel))) (List.mem_append_right _ (List.mem_of_getElem? (i := 21) (by decide +kernel))) (List.mem_append_right _ (List.mem_of_getElem? (i := 1) (by decide +kernel))) (List.mem_append_right _ (List.mem_of_getElem? (i := 22) (by decide +kernel))) ⟨by decide, by decide, by decide⟩ rfl
theorem cki_L_12 : CKI yL_law.cls 12 yX8_init cX8_init := ckI_of (List.mem_append_right _ (List.mem_of_getElem? (i := 888) (by decide +kernel))) (List.mem_append_right _ (List.mem_of_getElem? (i := 889) (by decide +kernel))) (List.mem_append_right _ (List.mem_of_getElem? (i := 11) (by decide +kernel))) (List.mem_append_right _ (List.mem_of_getElem? (i := 890) (by decide +kernel))) ⟨by decide, by decide, by decide⟩ rfl
abbrev KX1 : Prop := ∀ l : Launch, KMet l yX1_init cX1_init 3 14 400 1 [.null, .null, .null, .null, .null, .null, .null, .null, .null, .null, .null, .int 0, .int 0, .int 0, .int 0, .int 0, .null, .null, .null] (PP shK1 MK1)
abbrev KX3 : Prop := ∀ l : Launch, KMet l yX3_init cX3_init 3 8 56 3 [.null, .int 0, .int 0] (PP shK3 MK3)
abbrev KX6 : Prop := ∀ l : Launch, KMet l yX6_init cX6_init 8 11 824 6 [.null, .null, .null] (PP shK6 MK6)
theorem w_init {l : Launch} {R : Room} {p : Program} {e : Env} {s : State} {m : MethodId} {args : Array Value} {below : List Frame} {meth : Method} {c : Code} {H : Heap} {locs : List Loc} {cells slots : Nat} {lsA : Array Slot} {Q : State → Prop} {y : MethodName} {b : ByteArray} {d nL : Nat} {ret9 : Option FieldType} {ad0 : Nat → Nat} {ca : Nat → ClassId} {D : va_G} {A : Nat → Prop} {ws : va_W} {q ci index pc : Nat} {fs : List Value} {y' : MethodName} {b' : ByteArray} {fr' mc' ms' : Nat} {Pw' : (Nat → ClassId) → Nat → va_W → Prop} {st : List Value} (hC : CX d y b nL ret9 ad0 ca D A p s m args meth c) (hO : AO s) (hP : va_P D vwCl (ws ++ [(q, .inr (ci, fs))]) H) (hD : va_D A (ws ++ [(q, .inr (ci, fs))])) (hS : va_S A s.heap H locs) (hsz : lsA.size = nL) (ck : CKI y.cls index y' b') (hM : KMet l y' b' fr' mc' ms' ci fs Pw') (hfr : fr' + 1 ≤ R.frames ∧ 8 + (1 + 11) + fr' * 64 ≤ R.locals) (hcat : (st.map fun v => v.category).sum ≤ 8) (hc : cells + mc' ≤ R.cells ∧ slots + ms' ≤ R.slots) (hd : decode b pc = .ok (.invokespecial index, 3)) (k : ∀ (w : va_W) (H1 : Heap) (locs1 : List Loc), Pw' ca q w → va_P D vwCl (ws ++ w) H1 → va_D A (ws ++ w) → va_S A s.heap H1 locs1 → W p l e R s m args below meth c H1 locs1 (cells + mc') (slots + ms') Q (F0 m (pc + 3) lsA st)) : W p l e R s m args below meth c H locs cells slots Q (F0 m pc lsA (.ref q :: st)) := by
  have hF := k_free hD hS hC.2.2.2.2.2.2.2.2.1
  have hrun := ck (bb := q) (rest := st) (g := F0 m pc lsA (.ref q :: st)) hC.1 hC.2.1 hC.2.2.1 hC.2.2.2.2.1 hC.2.2.2.2.2.1 hC.2.2.2.2.2.2.2.2.2.1 (p := p) (e := e) (R := R) (below := below) (meth := meth) (H := H) (locs := locs) (cells := cells) (slots := slots) (hM ad0 ca D q H.size) rfl rfl hfr ⟨k_blind, fun U hU hW => ⟨rfl, k_pre hC hO hP hF hS hU hW⟩⟩ rfl hsz rfl (lv_room hcat) hd hc
  refine va_callv hrun hS (fun x _ h => hF x h) hF (fun u t H1 locs1 ht hvm _ hB hz hk hS1 => ?_)
  obtain ⟨w, hw, hP1, hD1⟩ := hB
  rw [ht] at hP1
  obtain ⟨hP2, hD2⟩ := k_join hP hD hk hF hP1 hD1
  exact k w H1 locs1 hw hP2 hD2 hS1
def aoSp (s : State) : Prop := ∀ t : FieldType, (Cond.arrayOver (.array t)).before #[] s = true → ∃ (c : ClassId) (k : Class) (comp : ClassId), s.vm.findClass ("[" ++ (FieldType.array t).toString) = some c ∧ s.vm.classes[c]? = some k ∧ k.kind = .array comp (.array t)
theorem k_start {s : State} {b : Nat} (hts : ∀ w ∈ lw_tbl, w.before #[Value.ref b] s = true) (hSp : aoSp s) : ∃ (D : va_G) (ca : Nat → ClassId), va_K D vwCl (tysA ca) s ∧ AO s := by
  have hg9 : ∀ w ∈ lw_good, w.before #[Value.ref b] s = true := fun w hw => hts w (List.mem_filter.mp hw).1
  obtain ⟨c0, i0, g0⟩ := u_known (C := RX0) (T := TX0) (N := 5) (n := 5) hg9 hg_0 (hts (.instantiable RX0 5) (List.mem_append_right _ (List.mem_of_getElem? (i := 218) (by decide +kernel))))
  obtain ⟨c1, i1, g1⟩ := u_known (C := RX1) (T := TX1) (N := 19) (n := 19) hg9 hg_1 (hts (.instantiable RX1 19) (List.mem_append_right _ (List.mem_of_getElem? (i := 51) (by decide +kernel))))
  obtain ⟨c2, i2, g2⟩ := u_known (C := RX2) (T := TX2) (N := 4) (n := 4) hg9 hg_2 (hts (.instantiable RX2 4) (List.mem_append_right _ (List.mem_of_getElem? (i := 175) (by decide +kernel))))
  obtain ⟨c3, i3, g3⟩ := u_known (C := RX3) (T := TX3) (N := 3) (n := 3) hg9 hg_3 (hts (.instantiable RX3 3) (List.mem_append_right _ (List.mem_of_getElem? (i := 136) (by decide +kernel))))
  obtain ⟨c4, i4, g4⟩ := u_known (C := RX4) (T := TX4) (N := 4) (n := 4) hg9 hg_4 (hts (.instantiable RX4 4) (List.mem_append_right _ (List.mem_of_getElem? (i := 198) (by decide +kernel))))
  obtain ⟨c5, i5, g5⟩ := u_known (C := RX5) (T := TX5) (N := 2) (n := 2) hg9 hg_5 (hts (.instantiable RX5 2) (List.mem_append_right _ (List.mem_of_getElem? (i := 160) (by decide +kernel))))
  obtain ⟨c6, i6, g6⟩ := u_known (C := RX6) (T := TX6) (N := 3) (n := 3) hg9 hg_6 (hts (.instantiable RX6 3) (List.mem_append_right _ (List.mem_of_getElem? (i := 27) (by decide +kernel))))
  obtain ⟨c7, i7, g7⟩ := u_known (C := RX7) (T := TX7) (N := 14) (n := 14) hg9 hg_7 (hts (.instantiable RX7 14) (List.mem_append_right _ (List.mem_of_getElem? (i := 19) (by decide +kernel))))
  obtain ⟨c8, i8, g8⟩ := u_known (C := RX8) (T := TX8) (N := 64) (n := 64) hg9 hg_8 (hts (.instantiable RX8 64) (List.mem_append_right _ (List.mem_of_getElem? (i := 887) (by decide +kernel))))
  have hao : AO s := ⟨hts (.arrayOver (.array .int)) (List.mem_append_right _ (List.mem_of_getElem? (i := 57) (by decide +kernel))), hts (.arrayOver (.array .long)) (List.mem_append_right _ (List.mem_of_getElem? (i := 33) (by decide +kernel)))⟩
  obtain ⟨t0, k0, m0, p0, r0, s0⟩ := Cond.arrayClass_spec (hts (.arrayClass .int) ar_0)
  obtain ⟨t1, k1, m1, p1, r1, s1⟩ := Cond.arrayClass_spec (hts (.arrayClass .boolean) ar_1)
  obtain ⟨t2, k2, m2, p2, r2, s2⟩ := Cond.arrayClass_spec (hts (.arrayClass .long) ar_2)
  obtain ⟨t3, k3, m3, p3, r3, s3⟩ := hSp .int hao.1
  obtain ⟨t4, k4, m4, p4, r4, s4⟩ := hSp .long hao.2
  refine ⟨(fun k => if k = 0 then c0 else if k = 1 then c1 else if k = 2 then c2 else if k = 3 then c3 else if k = 4 then c4 else if k = 5 then c5 else if k = 6 then c6 else if k = 7 then c7 else c8, fun k => if k = 0 then i0 else if k = 1 then i1 else if k = 2 then i2 else if k = 3 then i3 else if k = 4 then i4 else if k = 5 then i5 else if k = 6 then i6 else if k = 7 then i7 else i8), fun k => if k = 0 then t0 else if k = 1 then t1 else if k = 2 then t2 else if k = 3 then t3 else t4, ⟨fun k q hq => ?_, fun k q hq => ?_⟩, hao⟩
  · match k, hq with
    | 0, hq => cases hq; exact g0
    | 1, hq => cases hq; exact g1
    | 2, hq => cases hq; exact g2
    | 3, hq => cases hq; exact g3
    | 4, hq => cases hq; exact g4
    | 5, hq => cases hq; exact g5
    | 6, hq => cases hq; exact g6
    | 7, hq => cases hq; exact g7
    | 8, hq => cases hq; exact g8
    | k + 9, hq => simp at hq
  · match k, hq with
    | 0, hq => cases hq; exact ⟨fun n z => ⟨fun k h => (by cases h), k0, r0, m0, s0⟩, p0⟩
    | 1, hq => cases hq; exact ⟨fun n z => ⟨fun k h => (by cases h), k1, r1, m1, s1⟩, p1⟩
    | 2, hq => cases hq; exact ⟨fun n z => ⟨fun k h => (by cases h), k2, r2, m2, s2⟩, p2⟩
    | 3, hq => cases hq; exact ⟨fun n z => ⟨fun k h => (by cases h), k3, r3, m3, s3⟩, p3⟩
    | 4, hq => cases hq; exact ⟨fun n z => ⟨fun k h => (by cases h), k4, r4, m4, s4⟩, p4⟩
    | k + 5, hq => simp [tysA] at hq
theorem s0_1 : ∀ j, j < 105 → shp[0 + j]? = (sh7[j]?).map (shS 0)
  | 0, _ => rfl
  | 1, _ => rfl
  | 2, _ => rfl
  | 3, _ => rfl
  | 4, _ => rfl
  | 5, _ => rfl
  | 6, _ => rfl
  | 7, _ => rfl
  | 8, _ => rfl
  | 9, _ => rfl
  | 10, _ => rfl
  | 11, _ => rfl
  | 12, _ => rfl
  | 13, _ => rfl
  | 14, _ => rfl
  | 15, _ => rfl
  | 16, _ => rfl
  | 17, _ => rfl
  | 18, _ => rfl
  | 19, _ => rfl
  | 20, _ => rfl
  | 21, _ => rfl
  | 22, _ => rfl
  | 23, _ => rfl
  | 24, _ => rfl
  | 25, _ => rfl
  | 26, _ => rfl
  | 27, _ => rfl
  | 28, _ => rfl
  | 29, _ => rfl
  | 30, _ => rfl
  | 31, _ => rfl
  | 32, _ => rfl
  | 33, _ => rfl
  | 34, _ => rfl
  | 35, _ => rfl
  | 36, _ => rfl
  | 37, _ => rfl
  | 38, _ => rfl
  | 39, _ => rfl
  | 40, _ => rfl
  | 41, _ => rfl
  | 42, _ => rfl
  | 43, _ => rfl
  | 44, _ => rfl
  | 45, _ => rfl
  | 46, _ => rfl
  | 47, _ => rfl
  | 48, _ => rfl
  | 49, _ => rfl
  | 50, _ => rfl
  | 51, _ => rfl
  | 52, _ => rfl
  | 53, _ => rfl
  | 54, _ => rfl
  | 55, _ => rfl
  | 56, _ => rfl
  | 57, _ => rfl
  | 58, _ => rfl
  | 59, _ => rfl
  | 60, _ => rfl
  | 61, _ => rfl
  | 62, _ => rfl
  | 63, _ => rfl
  | 64, _ => rfl
  | 65, _ => rfl
  | 66, _ => rfl
  | 67, _ => rfl
  | 68, _ => rfl
  | 69, _ => rfl
  | 70, _ => rfl
  | 71, _ => rfl
  | 72, _ => rfl
  | 73, _ => rfl
  | 74, _ => rfl
  | 75, _ => rfl
  | 76, _ => rfl
  | 77, _ => rfl
  | 78, _ => rfl
  | 79, _ => rfl
  | 80, _ => rfl
  | 81, _ => rfl
  | 82, _ => rfl
  | 83, _ => rfl
  | 84, _ => rfl
  | 85, _ => rfl
  | 86, _ => rfl
  | 87, _ => rfl
  | 88, _ => rfl
  | 89, _ => rfl
  | 90, _ => rfl
  | 91, _ => rfl
  | 92, _ => rfl
  | 93, _ => rfl
  | 94, _ => rfl
  | 95, _ => rfl
  | 96, _ => rfl
  | 97, _ => rfl
  | 98, _ => rfl
  | 99, _ => rfl
  | 100, _ => rfl
  | 101, _ => rfl
  | 102, _ => rfl
  | 103, _ => rfl
  | 104, _ => rfl
  | j + 105, h => absurd h (by omega)
theorem s0_2 : ∀ j, j < 36 → shp[105 + j]? = (shK8[j]?).map (shS 105)
  | 0, _ => rfl
  | 1, _ => rfl
  | 2, _ => rfl
  | 3, _ => rfl
  | 4, _ => rfl
  | 5, _ => rfl
  | 6, _ => rfl
  | 7, _ => rfl
  | 8, _ => rfl
  | 9, _ => rfl
  | 10, _ => rfl
  | 11, _ => rfl
  | 12, _ => rfl
  | 13, _ => rfl
  | 14, _ => rfl
  | 15, _ => rfl
  | 16, _ => rfl
  | 17, _ => rfl
  | 18, _ => rfl
  | 19, _ => rfl
  | 20, _ => rfl
  | 21, _ => rfl
  | 22, _ => rfl
  | 23, _ => rfl
  | 24, _ => rfl
  | 25, _ => rfl
  | 26, _ => rfl
  | 27, _ => rfl
  | 28, _ => rfl
  | 29, _ => rfl
  | 30, _ => rfl
  | 31, _ => rfl
  | 32, _ => rfl
  | 33, _ => rfl
  | 34, _ => rfl
  | 35, _ => rfl
  | j + 36, h => absurd h (by omega)
theorem ok0_1 : sh7.all (okB 105) = true := by decide +kernel
theorem ok0_2 : shK8.all (okB 36) = true := by decide +kernel
theorem m0_2 (j : Nat) : M0.1 (105 + j) = MK8.1 j := by
  show m0 (105 + j) = mK8 j
  unfold m0
  rw [if_neg (by omega), if_neg (by omega), if_neg (by omega), if_neg (by omega), if_neg (by omega), if_neg (by omega), if_neg (by omega), if_neg (by omega), if_neg (by omega), if_neg (by omega), if_neg (by omega), if_neg (by omega), if_neg (by omega), Nat.add_sub_cancel_left]
def adT (a7 a8 ad0 : Nat → Nat) (k : Nat) : Nat := if k < 105 then a7 k else if k < 141 then a8 (k - 105) else ad0 k
theorem wld_sub {a7 a8 ad0 : Nat → Nat} {ca : Nat → ClassId} (k : Nat) (x : Nat × va_E) (h : (wld (adT a7 a8 ad0) ca M0)[k]? = some x) : (([] ++ pieceW sh7 a7 ca M0) ++ pieceW shK8 a8 ca MK8)[k]? = some x := by
  have h9 : (pieceW shp (adT a7 a8 ad0) ca M0)[k]? = some x := h
  have hk : k < 141 := by
    have := (List.getElem?_eq_some_iff.mp h9).1
    rw [piece_len] at this
    exact this
  rw [List.nil_append]
  rcases Nat.lt_or_ge k 105 with q | q
  · have e := piece_shift (o := 0) (n := 105) (sh := shp) (shR := sh7) (a := adT a7 a8 ad0) (aR := a7) (ca := ca) (M := M0) (MR := M0) s0_1 (fun p hp => by unfold adT; rw [Nat.zero_add, if_pos hp]) (fun j _ => by rw [Nat.zero_add]; exact ⟨rfl, rfl⟩) ok0_1 q
    rw [Nat.zero_add] at e
    rw [List.getElem?_append_left (by rw [piece_len]; exact q), ← e]
    exact h9
  · obtain ⟨j, rfl⟩ : ∃ j, k = 105 + j := ⟨k - 105, by omega⟩
    have e := piece_shift (o := 105) (n := 36) (sh := shp) (shR := shK8) (a := adT a7 a8 ad0) (aR := a8) (ca := ca) (M := M0) (MR := MK8) s0_2 (fun p hp => by unfold adT; rw [if_neg (by omega), if_pos (by omega), Nat.add_sub_cancel_left]) (fun j _ => ⟨m0_2 j, rfl⟩) ok0_2 (j := j) (by omega)
    have hl : (pieceW sh7 a7 ca M0).length = 105 := by rw [piece_len]; rfl
    rw [List.getElem?_append_right (by rw [hl]; omega), hl, Nat.add_sub_cancel_left, ← e]
    exact h9
