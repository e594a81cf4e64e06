/-! what is there at the law's start -/
abbrev gvF : List Cond := flatC (Jvm.Cond.and given_1 narrow_1)
abbrev tmS (i : Nat) : Term := .string "ClapTogether$LawReader" (89 + 2 * i)
theorem n_laws : ∀ j, j < 7 → Cond.eq (.elem (.static "ClapTogether" "LAWS_AT_FIRST" "[I") (.int (Int32.ofNat j))) (.int (lawsF j)) ∈ gvF := by decide +kernel
theorem n_bod : ∀ j, j < 21 → Cond.eq (.elem (.static "ClapTogether$Acts" "BODIES" "[I") (.int (Int32.ofNat j))) (.int (bodF j)) ∈ gvF := by decide +kernel
theorem n_ex : ∀ i, i < 7 → Cond.exactly (tmS i) "java/lang/String" ∈ gvF := by decide +kernel
theorem n_co : ∀ i, i < 7 → Cond.eq (.field (tmS i) "java/lang/String" "coder" "B") (.int 0) ∈ gvF := by decide +kernel
theorem n_ar : ∀ i, i < 7 → Cond.arrayOf (.field (tmS i) "java/lang/String" "value" "[B") .byte ∈ gvF := by decide +kernel
theorem n_le : ∀ i, i < 7 → Cond.eq (.length (.field (tmS i) "java/lang/String" "value" "[B")) (.int (Int32.ofNat (strL.getD i 0))) ∈ gvF := by decide +kernel
theorem n_el : ∀ i, i < 7 → ∀ j, j < 5 → (j < strL.getD i 0 → Cond.eq (.elem (.field (tmS i) "java/lang/String" "value" "[B") (.int (Int32.ofNat j))) (.int ((strB.getD i []).getD j 0)) ∈ gvF) := by decide +kernel
theorem n_le5 : ∀ i, i < 7 → strL.getD i 0 < 6 := by decide
theorem n_ne : ∀ i, i < 7 → ∀ j, j < 7 → (i < j → Cond.not (Cond.eq (tmS i) (tmS j)) ∈ gvF) := by decide +kernel
theorem n_sr : ∀ i, i < 7 → Cond.stringRef "ClapTogether$LawReader" (89 + 2 * i) (strT i) ∈ lw_tbl
  | 0, _ => (List.mem_append_right _ (List.mem_of_getElem? (i := 490) (by decide +kernel)))
  | 1, _ => (List.mem_append_right _ (List.mem_of_getElem? (i := 491) (by decide +kernel)))
  | 2, _ => (List.mem_append_right _ (List.mem_of_getElem? (i := 492) (by decide +kernel)))
  | 3, _ => (List.mem_append_right _ (List.mem_of_getElem? (i := 493) (by decide +kernel)))
  | 4, _ => (List.mem_append_right _ (List.mem_of_getElem? (i := 494) (by decide +kernel)))
  | 5, _ => (List.mem_append_right _ (List.mem_of_getElem? (i := 495) (by decide +kernel)))
  | 6, _ => (List.mem_append_right _ (List.mem_of_getElem? (i := 496) (by decide +kernel)))
  | i + 7, h => absurd h (by omega)
theorem Old.re {ad ad0 : Nat → Nat} {A : Nat → Prop} {U : State} {H : Heap} (h : Old ad0 A U H) (he : ∀ k, 1000 ≤ k → ad k = ad0 k) : Old ad A U H := by
  obtain ⟨h1, ⟨h2, h3⟩, ⟨h4, h5⟩, ⟨h6, h7⟩, h8, h9⟩ := h
  have f1 : (fun i => ad (1010 + i)) = fun i => ad0 (1010 + i) := funext fun i => he _ (by omega)
  have f2 : (fun i => ad (1020 + i)) = fun i => ad0 (1020 + i) := funext fun i => he _ (by omega)
  refine ⟨h1, ⟨?_, ?_⟩, ⟨?_, ?_⟩, ⟨h6, ?_⟩, ?_, fun i hi => ?_⟩
  · rw [he 1000 (by omega)]; exact h2
  · rw [he 1000 (by omega)]; exact h3
  · rw [he 1001 (by omega)]; exact h4
  · rw [he 1001 (by omega)]; exact h5
  · rw [he 1002 (by omega)]; exact h7
  · rw [f1, f2]; exact h8
  · rw [he (1010 + i) (by omega)]; exact h9 i hi
theorem old_start {s : State} {b : Nat} (hts : ∀ w ∈ lw_tbl, w.before #[Value.ref b] s = true) (hgv : (Jvm.Cond.and given_1 narrow_1).before #[Value.ref b] s = true) : ∃ ad0 : Nat → Nat, ad0 1003 = b ∧ Old ad0 (fun q : Nat => s.heap.size ≤ q) s s.heap := by
  have hs := flat_of_before _ hgv
  have hA : ∀ a : Nat, a < s.heap.size → ¬ (fun q : Nat => s.heap.size ≤ q) a := fun a h => Nat.not_le.mpr h
  obtain ⟨tL, eL, TL⟩ := va_Tof (N := 7) (ty := .int) (f := fun j => .int (lawsF j)) (tm := .static "ClapTogether" "LAWS_AT_FIRST" "[I") (by decide) (hs _ (by decide +kernel)) (va_eqt (hs _ (by decide +kernel))) (fun j hj => va_eqt (hs _ (n_laws j hj))) hA
  obtain ⟨tB, eB, TB⟩ := va_Tof (N := 21) (ty := .int) (f := fun j => .int (bodF j)) (tm := .static "ClapTogether$Acts" "BODIES" "[I") (by decide) (hs _ (by decide +kernel)) (va_eqt (hs _ (by decide +kernel))) (fun j hj => va_eqt (hs _ (n_bod j hj))) hA
  have ZL : va_Z "ClapTogether" "LAWS_AT_FIRST" "[I" (.ref tL) (fun q : Nat => s.heap.size ≤ q) s s.heap := va_Zof (hts _ (List.mem_append_right _ (List.mem_of_getElem? (i := 143) (by decide +kernel)))) (hts _ (List.mem_append_right _ (List.mem_of_getElem? (i := 1) (by decide +kernel)))) eL hA
  have ZB : va_Z "ClapTogether$Acts" "BODIES" "[I" (.ref tB) (fun q : Nat => s.heap.size ≤ q) s s.heap := va_Zof (hts _ (List.mem_append_right _ (List.mem_of_getElem? (i := 845) (by decide +kernel)))) (hts _ (List.mem_append_right _ (List.mem_of_getElem? (i := 10) (by decide +kernel)))) eB hA
  have ZC : va_Z "java/lang/String" "COMPACT_STRINGS" "Z" (.int 1) (fun q : Nat => s.heap.size ≤ q) s s.heap := va_Zof (hts _ (List.mem_append_right _ (List.mem_of_getElem? (i := 510) (by decide +kernel)))) (hts _ (List.mem_append_right _ (List.mem_of_getElem? (i := 13) (by decide +kernel)))) (va_eqi (hs _ (by decide +kernel))) hA
  have ZS := va_Zqof (A := fun q : Nat => s.heap.size ≤ q) (hts (.laysStatic "jdk/internal/util/Preconditions" "SIOOBE_FORMATTER" "Ljava/util/function/BiFunction;") (List.mem_append_right _ (List.mem_of_getElem? (i := 526) (by decide +kernel)))) (hts _ (List.mem_append_right _ (List.mem_of_getElem? (i := 15) (by decide +kernel)))) (hs _ (by decide +kernel)) hA
  obtain ⟨adK, adV, hV, hE⟩ := vk_Sof (N := 7) (tm := tmS) (len := strL) (byt := strB) (A := fun q : Nat => s.heap.size ≤ q) (fun i hi => by have := n_le5 i hi; omega) (fun i hi => hs _ (n_ex i hi)) (fun i hi => hs _ (n_co i hi)) (fun i hi => hs _ (n_ar i hi)) (fun i hi => hs _ (n_le i hi)) (fun i hi j hj => hs _ (n_el i hi j (by have := n_le5 i hi; omega) hj)) (fun i j hi hj hij => by
    rcases Nat.lt_or_ge i j with q | q
    · exact Or.inl (hs _ (n_ne i hi j hj q))
    · exact Or.inr (hs _ (n_ne j hj i hi (by omega)))) hA
  obtain ⟨tS, hS⟩ : ∃ tS : Nat, va_Z "jdk/internal/util/Preconditions" "SIOOBE_FORMATTER" "Ljava/util/function/BiFunction;" .null (fun q : Nat => s.heap.size ≤ q) s s.heap ∨ va_Z "jdk/internal/util/Preconditions" "SIOOBE_FORMATTER" "Ljava/util/function/BiFunction;" (.ref tS) (fun q : Nat => s.heap.size ≤ q) s s.heap := by
    rcases ZS with h | ⟨t, h⟩
    · exact ⟨0, Or.inl h⟩
    · exact ⟨t, Or.inr h⟩
  have eK : ∀ i, i < 7 → (if 1010 + i = 1000 then tL else if 1010 + i = 1001 then tB else if 1010 + i = 1002 then tS else if 1010 + i = 1003 then b else if 1010 + i < 1020 then adK (1010 + i - 1010) else adV (1010 + i - 1020)) = adK i := fun i hi => by
    rw [if_neg (by omega), if_neg (by omega), if_neg (by omega), if_neg (by omega), if_pos (by omega), Nat.add_sub_cancel_left]
  have eV : ∀ i, i < 7 → (if 1020 + i = 1000 then tL else if 1020 + i = 1001 then tB else if 1020 + i = 1002 then tS else if 1020 + i = 1003 then b else if 1020 + i < 1020 then adK (1020 + i - 1010) else adV (1020 + i - 1020)) = adV i := fun i hi => by
    rw [if_neg (by omega), if_neg (by omega), if_neg (by omega), if_neg (by omega), if_neg (by omega), Nat.add_sub_cancel_left]
  refine ⟨fun k => if k = 1000 then tL else if k = 1001 then tB else if k = 1002 then tS else if k = 1003 then b else if k < 1020 then adK (k - 1010) else adV (k - 1020), rfl, fun w hw hn => ?_, ⟨ZL, TL⟩, ⟨ZB, TB⟩, ⟨ZC, hS⟩, ⟨fun i hi => ?_, fun i j hi hj e => ?_⟩, fun i hi => ?_⟩
  · have h9 := hts w hw
    cases w <;> first | exact va_Nw.of rfl h9 | cases hn
  · obtain ⟨g1, g2, g3, g4⟩ := hV.1 i hi
    show va_O "java/lang/String" (if 1010 + i = 1000 then tL else if 1010 + i = 1001 then tB else if 1010 + i = 1002 then tS else if 1010 + i = 1003 then b else if 1010 + i < 1020 then adK (1010 + i - 1010) else adV (1010 + i - 1020)) _ _ _ ∧ va_OF "java/lang/String" "coder" "B" (.int 0) (if 1010 + i = 1000 then tL else if 1010 + i = 1001 then tB else if 1010 + i = 1002 then tS else if 1010 + i = 1003 then b else if 1010 + i < 1020 then adK (1010 + i - 1010) else adV (1010 + i - 1020)) _ _ _ ∧ va_OF "java/lang/String" "value" "[B" (.ref (if 1020 + i = 1000 then tL else if 1020 + i = 1001 then tB else if 1020 + i = 1002 then tS else if 1020 + i = 1003 then b else if 1020 + i < 1020 then adK (1020 + i - 1010) else adV (1020 + i - 1020))) (if 1010 + i = 1000 then tL else if 1010 + i = 1001 then tB else if 1010 + i = 1002 then tS else if 1010 + i = 1003 then b else if 1010 + i < 1020 then adK (1010 + i - 1010) else adV (1010 + i - 1020)) _ _ _ ∧ va_T .byte (if 1020 + i = 1000 then tL else if 1020 + i = 1001 then tB else if 1020 + i = 1002 then tS else if 1020 + i = 1003 then b else if 1020 + i < 1020 then adK (1020 + i - 1010) else adV (1020 + i - 1020)) _ _ _ _ _
    rw [eK i hi, eV i hi]
    exact ⟨g1, g2, g3, g4⟩
  · have e' : (if 1010 + i = 1000 then tL else if 1010 + i = 1001 then tB else if 1010 + i = 1002 then tS else if 1010 + i = 1003 then b else if 1010 + i < 1020 then adK (1010 + i - 1010) else adV (1010 + i - 1020)) = (if 1010 + j = 1000 then tL else if 1010 + j = 1001 then tB else if 1010 + j = 1002 then tS else if 1010 + j = 1003 then b else if 1010 + j < 1020 then adK (1010 + j - 1010) else adV (1010 + j - 1020)) := e
    rw [eK i hi, eK j hj] at e'
    exact hV.2 i j hi hj e'
  · show vk_R "ClapTogether$LawReader" (89 + 2 * i) (strT i) (if 1010 + i = 1000 then tL else if 1010 + i = 1001 then tB else if 1010 + i = 1002 then tS else if 1010 + i = 1003 then b else if 1010 + i < 1020 then adK (1010 + i - 1010) else adV (1010 + i - 1020)) s
    rw [eK i hi]
    exact vk_R.of (hts _ (n_sr i hi)) (hE i hi)
