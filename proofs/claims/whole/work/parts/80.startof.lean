theorem start_of (hX1 : KX1) (hX3 : KX3) (hX6 : KX6) (hSp : ∀ s, aoSp s) {p : Program} {e : Env} {s : State} {m : MethodId} {below : List Frame} {meth : Method} {c : Code} (l : Launch) {b L : Nat} {xs : Nat → Int32} (hL : L ≤ 3072) (C0 : lw_At p s m meth c b L xs) : W p l e room_1 s m #[Value.ref b] below meth c s.heap [] 0 0 (lw_Z below #[Value.ref b] s) (entryFrame m ([Value.ref b] : List Value).toArray 4) := by
  obtain ⟨hx, hb, hr, hml, hown, hts, hX, hbl, hlocks, hgv⟩ := C0
  obtain ⟨ad0, h1003, hOld⟩ := old_start hts hgv
  obtain ⟨D, ca, hK, hO⟩ := k_start hts (hSp s)
  have hA : ∀ q : Nat, s.heap.size ≤ q → (fun q : Nat => s.heap.size ≤ q) q := fun _ h => h
  have hC : CX 0 yL_law code 4 ret ad0 ca D (fun q : Nat => s.heap.size ≤ q) p s m #[Value.ref b] meth c := ⟨hx, hb, hml, hr, hown, fun w hw _ => hts w hw, hK, hlocks, hA, hOld⟩
  have hS : va_S (fun q : Nat => s.heap.size ≤ q) s.heap s.heap [] := va_S.rf
  have hP : va_P D vwCl [] s.heap := fun k q h => by simp at h
  have hD : va_D (fun q : Nat => s.heap.size ≤ q) [] := ⟨fun i j p q h => by simp at h, fun k q h => by simp at h⟩
  have hl := lv_entry ([.ref b]) (n := 4) (Nat.le_of_ble_eq_true rfl)
  rw [lg_entry_eq]
  generalize (lg_sl ([.ref b]) ++ List.replicate (4 - (lg_sl ([.ref b])).length) Slot.unset).toArray = ls at hl ⊢
  have hl : lv_has ls 4 [(0, .ref b)] := hl
  have hw9 : ∀ w ∈ lw_good, w.before #[Value.ref b] s = true := fun w hw => hts w (List.mem_filter.mp hw).1
  refine va_new (ci := 7) (fs := [.null, .null, .null, .null, .null, .null, .null, .null, .null, .int 0, .null, .null, .null, .int 0]) (C := RX7) (T := TX7) (N := 14) hx hb hw9 hg_7 tyX7 tyX7_ok hown (hts (.classLink "ClapTogetherLaw" 7 RX7) (List.mem_append_right _ (List.mem_of_getElem? (i := 18) (by decide +kernel)))) (hts (.instantiable RX7 14) (List.mem_append_right _ (List.mem_of_getElem? (i := 19) (by decide +kernel)))) (hts (.initialized RX7) (List.mem_append_right _ (List.mem_of_getElem? (i := 1) (by decide +kernel)))) hK hP hD hS hA rfl df_7 (by decide) (by decide) dL_law_0 (fun q7 H hP hD hS => ?_)
  refine lv_dup hx hb dL_law_3 rfl ?_
  have hM := k_X7 (hX1 l) (hX3 l) (hX6 l)
  have r1 : 10 + 1 ≤ room_1.frames ∧ 8 + (1 + 11) + 10 * 64 ≤ room_1.locals := ⟨by decide, by decide⟩
  have r2 : 0 + 1 + 104 ≤ room_1.cells ∧ 0 + 14 + 3192 ≤ room_1.slots := ⟨by decide, by decide⟩
  refine w_init (y := yL_law) (b := code) (ws := []) (q := q7) (st := [.ref q7]) hC hO hP hD hS hl.1 cki_L_9 hM r1 (Nat.le_of_ble_eq_true rfl) r2 dL_law_4 (fun w H locs hw hP hD hS => ?_)
  obtain ⟨a7, e7, ew⟩ := hw
  rw [ew] at hP hD
  refine lv_astore_n (lv' := [(1, .ref q7), (0, .ref b)]) hx hb dL_law_7 rfl hl (by decide) rfl (fun ls hl => ?_)
  refine va_new (ci := 8) (fs := [.int 0, .int 0, .int 0, .int 0, .int 0, .int 0, .int 0, .int 0, .int 0, .null, .null, .null, .null, .null, .null, .null, .null, .null, .null, .null, .null, .null, .null, .null, .null, .null, .null, .null, .null, .null, .null, .int 0, .int 0, .int 0, .int 0, .int 0, .int 0, .null, .null, .null, .null, .null, .null, .null, .null, .null, .null, .int 0, .int 0, .int 0, .int 0, .int 0, .null, .null, .int 0, .int 0, .int 0, .int 0, .int 0, .int 0, .int 0, .int 0, .int 0, .null]) (C := RX8) (T := TX8) (N := 64) hx hb hw9 hg_8 tyX8 tyX8_ok hown (hts (.classLink "ClapTogetherLaw" 10 RX8) (List.mem_append_right _ (List.mem_of_getElem? (i := 886) (by decide +kernel)))) (hts (.instantiable RX8 64) (List.mem_append_right _ (List.mem_of_getElem? (i := 887) (by decide +kernel)))) (hts (.initialized RX8) (List.mem_append_right _ (List.mem_of_getElem? (i := 11) (by decide +kernel)))) hK hP hD hS hA rfl df_8 (by decide) (by decide) dL_law_8 (fun q8 H hP hD hS => ?_)
  refine lv_dup hx hb dL_law_11 rfl ?_
  have hM8 := k_X8 (l := l)
  have r3 : 2 + 1 ≤ room_1.frames ∧ 8 + (1 + 11) + 2 * 64 ≤ room_1.locals := ⟨by decide, by decide⟩
  have r4 : 0 + 1 + 104 + 1 + 35 ≤ room_1.cells ∧ 0 + 14 + 3192 + 64 + 2415 ≤ room_1.slots := ⟨by decide, by decide⟩
  refine w_init (y := yL_law) (b := code) (ws := [] ++ pieceW sh7 a7 ca M0) (q := q8) (st := [.ref q8]) hC hO hP hD hS hl.1 cki_L_12 hM8 r3 (Nat.le_of_ble_eq_true rfl) r4 dL_law_12 (fun w H locs hw hP hD hS => ?_)
  obtain ⟨a8, e8, ew8⟩ := hw
  rw [ew8] at hP hD
  refine lv_astore_n (lv' := [(2, .ref q8), (1, .ref q7), (0, .ref b)]) hx hb dL_law_15 rfl hl (by decide) rfl (fun ls hl => ?_)
  refine lv_iconst (v := 0) hx hb dL_law_16 (by decide) ?_
  refine lv_istore_n (lv' := [(3, .int 0), (2, .ref q8), (1, .ref q7), (0, .ref b)]) hx hb dL_law_17 rfl hl (by decide) rfl (fun ls hl => ?_)
  refine W.widen (k := 600000) (n := 7302250) (by decide) (by decide) ?_
  have hre : ∀ k, 1000 ≤ k → adT a7 a8 ad0 k = ad0 k := fun k hk => by unfold adT; rw [if_neg (by omega), if_neg (by omega)]
  have hb9 : adT a7 a8 ad0 1003 = b := (hre 1003 (by omega)).trans h1003
  have hP9 : va_P D vwCl (wld (adT a7 a8 ad0) ca M0) H := fun k x hx9 => hP k x (wld_sub k x hx9)
  have hD9 : va_D (fun q : Nat => s.heap.size ≤ q) (wld (adT a7 a8 ad0) ca M0) := ⟨fun i j x z hi hj e => hD.1 i j x z (wld_sub i x hi) (wld_sub j z hj) e, fun k x hx9 => hD.2 k x (wld_sub k x hx9)⟩
  have hLH : LH ls 4 (adT a7 a8 ad0) (lwLs 0) := LH.of_has hl (fun i v hv => by
    match i, hv with
    | 0, hv => cases hv; show (0, Value.ref (adT a7 a8 ad0 1003)) ∈ _; rw [hb9]; simp
    | 1, hv => cases hv; show (1, Value.ref (adT a7 a8 ad0 0)) ∈ _; rw [show adT a7 a8 ad0 0 = q7 from e7]; simp
    | 2, hv => cases hv; show (2, Value.ref (adT a7 a8 ad0 105)) ∈ _; rw [show adT a7 a8 ad0 105 = q8 from e8]; simp
    | 3, hv => cases hv; show (3, Value.int 0) ∈ _; simp
    | i + 4, hv => simp at hv)
  exact law_loop hL (L + 6) 0 M0 (by omega) (by omega) J0.x b (adT a7 a8 ad0) ca D (fun q : Nat => s.heap.size ≤ q) p e s m below meth c H locs ls ⟨⟨hx, hb, hml, hr, hown, fun w hw _ => hts w hw, hK, hlocks, hA, hOld.re hre⟩, hX, hbl, Nat.not_le.mpr hbl, hb9, fun q h => h⟩ hP9 hD9 hS hLH
