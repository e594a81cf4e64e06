/-! the law's body -/
def LX (L : Nat) (xs : Nat → Int32) (b0 : Nat) (ad : Nat → Nat) (ca : Nat → ClassId) (D : va_G) (A : Nat → Prop) (p : Program) (s : State) (m : MethodId) (meth : Method) (c : Code) : Prop := CX 0 yL_law code 4 ret ad ca D A p s m #[Value.ref b0] meth c ∧ va_X b0 L xs s s.heap ∧ b0 < s.heap.size ∧ ¬ A b0 ∧ ad 1003 = b0 ∧ ∀ q, A q → s.heap.size ≤ q
def LW (l : Launch) (L : Nat) (xs : Nat → Int32) (pc : Nat) (ls : List (Option Value)) (st : List Value) (M : Mm) : Prop :=
  ∀ (b0 : Nat) (ad : Nat → Nat) (ca : Nat → ClassId) (D : va_G) (A : Nat → Prop) (p : Program) (e : Env) (s : State) (m : MethodId) (below : List Frame) (meth : Method) (c : Code) (H : Heap) (locs : List Loc) (lsA : Array Slot),
    LX L xs b0 ad ca D A p s m meth c → va_P D vwCl (wld ad ca M) H → va_D A (wld ad ca M) → va_S A s.heap H locs → LH lsA 4 ad ls →
    W p l e room_1 s m #[Value.ref b0] below meth c H locs 600000 7302250 (lw_Z below #[Value.ref b0] s) (F0 m pc lsA (st.map (cz ad)))
section LJ
variable {l : Launch} {L : Nat} {xs : Nat → Int32} {pc : Nat} {ls : List (Option Value)} {st : List Value} {M : Mm}
theorem lj_iconst {n : Int} {v : Int32} (hd : decode code pc = .ok (.iconst n, 1)) (hv : Int32.ofInt n = v)
    (k : LW l L xs (pc + 1) ls (.int v :: st) M) : LW l L xs pc ls st M := by
  intro b0 ad ca D A p e s m below meth c H locs lsA hC hP hD hS hl
  exact lv_iconst hC.1.1 hC.1.2.1 hd hv (k b0 ad ca D A p e s m below meth c H locs lsA hC hP hD hS hl)
theorem lj_bipush {n : Int} {v : Int32} (hd : decode code pc = .ok (.bipush n, 2)) (hv : (Int8.ofInt n).toInt32 = v)
    (k : LW l L xs (pc + 2) ls (.int v :: st) M) : LW l L xs pc ls st M := by
  intro b0 ad ca D A p e s m below meth c H locs lsA hC hP hD hS hl
  exact lv_bipush hC.1.1 hC.1.2.1 hd hv (k b0 ad ca D A p e s m below meth c H locs lsA hC hP hD hS hl)
theorem lj_iload_n {j : Fin 4} {i : Nat} {x : Int32} (hd : decode code pc = .ok (.iload_n j, 1)) (hi : (j : Nat) = i) (hl9 : ls[i]? = some (some (.int x)))
    (k : LW l L xs (pc + 1) ls (.int x :: st) M) : LW l L xs pc ls st M := by
  intro b0 ad ca D A p e s m below meth c H locs lsA hC hP hD hS hl
  exact lv_iload_n hC.1.1 hC.1.2.1 hd hi (hl.2.2 i _ hl9) (k b0 ad ca D A p e s m below meth c H locs lsA hC hP hD hS hl)
theorem lj_aload_n {j : Fin 4} {i : Nat} {x : Nat} (hd : decode code pc = .ok (.aload_n j, 1)) (hi : (j : Nat) = i) (hl9 : ls[i]? = some (some (.ref x)))
    (k : LW l L xs (pc + 1) ls (.ref x :: st) M) : LW l L xs pc ls st M := by
  intro b0 ad ca D A p e s m below meth c H locs lsA hC hP hD hS hl
  exact lv_aload_n hC.1.1 hC.1.2.1 hd hi (hl.2.2 i _ hl9) (k b0 ad ca D A p e s m below meth c H locs lsA hC hP hD hS hl)
theorem lj_istore_n {j : Fin 4} {i : Nat} {x : Int32} (hd : decode code pc = .ok (.istore_n j, 1)) (hi : (j : Nat) = i) (hn : i < 4)
    (k : LW l L xs (pc + 1) (lset ls i (.int x)) st M) : LW l L xs pc ls (.int x :: st) M := by
  intro b0 ad ca D A p e s m below meth c H locs lsA hC hP hD hS hl
  exact lv_istore_n hC.1.1 hC.1.2.1 hd hi hl.has hn rfl (fun ls9 h9 => k b0 ad ca D A p e s m below meth c H locs ls9 hC hP hD hS (LH.set (v := .int x) h9))
theorem lj_iinc {i : Nat} {n : Int} {x v : Int32} (hd : decode code pc = .ok (.iinc i n, 3)) (hl9 : ls[i]? = some (some (.int x))) (hv : x + Int32.ofInt n = v) (hn : i < 4)
    (k : LW l L xs (pc + 3) (lset ls i (.int v)) st M) : LW l L xs pc ls st M := by
  intro b0 ad ca D A p e s m below meth c H locs lsA hC hP hD hS hl
  obtain ⟨k0, hk0⟩ := List.getElem?_of_mem (lz_mem ad ls 0 i _ hl9)
  rw [Nat.zero_add] at hk0
  exact lv_iinc hC.1.1 hC.1.2.1 hd hl.has hk0 hv hn rfl (fun ls9 h9 => k b0 ad ca D A p e s m below meth c H locs ls9 hC hP hD hS (LH.set (v := .int v) h9))
theorem lj_iadd {x z : Int32} (hd : decode code pc = .ok (.iadd, 1))
    (k : LW l L xs (pc + 1) ls (.int (x + z) :: st) M) : LW l L xs pc ls (.int z :: .int x :: st) M := by
  intro b0 ad ca D A p e s m below meth c H locs lsA hC hP hD hS hl
  exact lv_iadd hC.1.1 hC.1.2.1 hd (k b0 ad ca D A p e s m below meth c H locs lsA hC hP hD hS hl)
theorem lj_isub {x z : Int32} (hd : decode code pc = .ok (.isub, 1))
    (k : LW l L xs (pc + 1) ls (.int (x - z) :: st) M) : LW l L xs pc ls (.int z :: .int x :: st) M := by
  intro b0 ad ca D A p e s m below meth c H locs lsA hC hP hD hS hl
  exact lv_isub hC.1.1 hC.1.2.1 hd (k b0 ad ca D A p e s m below meth c H locs lsA hC hP hD hS hl)
theorem lj_iand {x z : Int32} (hd : decode code pc = .ok (.iand, 1))
    (k : LW l L xs (pc + 1) ls (.int (x &&& z) :: st) M) : LW l L xs pc ls (.int z :: .int x :: st) M := by
  intro b0 ad ca D A p e s m below meth c H locs lsA hC hP hD hS hl
  exact lv_iand hC.1.1 hC.1.2.1 hd (k b0 ad ca D A p e s m below meth c H locs lsA hC hP hD hS hl)
theorem lj_i2l {x : Int32} (hd : decode code pc = .ok (.i2l, 1))
    (k : LW l L xs (pc + 1) ls (.long x.toInt64 :: st) M) : LW l L xs pc ls (.int x :: st) M := by
  intro b0 ad ca D A p e s m below meth c H locs lsA hC hP hD hS hl
  exact lv_i2l hC.1.1 hC.1.2.1 hd rfl (k b0 ad ca D A p e s m below meth c H locs lsA hC hP hD hS hl)
theorem lj_lshl {x : Int64} {z : Int32} (hd : decode code pc = .ok (.lshl, 1))
    (k : LW l L xs (pc + 1) ls (.long (x <<< (z.toInt64 &&& 63)) :: st) M) : LW l L xs pc ls (.int z :: .long x :: st) M := by
  intro b0 ad ca D A p e s m below meth c H locs lsA hC hP hD hS hl
  exact lv_lshl hC.1.1 hC.1.2.1 hd rfl (k b0 ad ca D A p e s m below meth c H locs lsA hC hP hD hS hl)
theorem lj_land {x z : Int64} (hd : decode code pc = .ok (.land, 1))
    (k : LW l L xs (pc + 1) ls (.long (x &&& z) :: st) M) : LW l L xs pc ls (.long z :: .long x :: st) M := by
  intro b0 ad ca D A p e s m below meth c H locs lsA hC hP hD hS hl
  exact lv_land hC.1.1 hC.1.2.1 hd (k b0 ad ca D A p e s m below meth c H locs lsA hC hP hD hS hl)
theorem lj_lor {x z : Int64} (hd : decode code pc = .ok (.lor, 1))
    (k : LW l L xs (pc + 1) ls (.long (x ||| z) :: st) M) : LW l L xs pc ls (.long z :: .long x :: st) M := by
  intro b0 ad ca D A p e s m below meth c H locs lsA hC hP hD hS hl
  exact lv_lor hC.1.1 hC.1.2.1 hd (k b0 ad ca D A p e s m below meth c H locs lsA hC hP hD hS hl)
theorem lj_lcmp {x z : Int64} (hd : decode code pc = .ok (.lcmp, 1))
    (k : LW l L xs (pc + 1) ls (.int (lg_cmp x z) :: st) M) : LW l L xs pc ls (.long z :: .long x :: st) M := by
  intro b0 ad ca D A p e s m below meth c H locs lsA hC hP hD hS hl
  exact W.lcmp hC.1.1 hC.1.2.1 hd (k b0 ad ca D A p e s m below meth c H locs lsA hC hP hD hS hl)
theorem lj_if_eq {x : Int32} {off : Int} {tgt : Nat} (hd : decode code pc = .ok (.ifCond .eq off, 3)) (ht : (pc : Int) + off = (tgt : Int))
    (kt : x = 0 → LW l L xs tgt ls st M) (kf : ¬ (x = 0) → LW l L xs (pc + 3) ls st M) : LW l L xs pc ls (.int x :: st) M := by
  intro b0 ad ca D A p e s m below meth c H locs lsA hC hP hD hS hl
  exact lv_if_eq hC.1.1 hC.1.2.1 hd ht (fun h9 => kt h9 b0 ad ca D A p e s m below meth c H locs lsA hC hP hD hS hl) (fun h9 => kf h9 b0 ad ca D A p e s m below meth c H locs lsA hC hP hD hS hl)
theorem lj_icmp_gt {x z : Int32} {off : Int} {tgt : Nat} (hd : decode code pc = .ok (.if_icmp .gt off, 3)) (ht : (pc : Int) + off = (tgt : Int))
    (kt : z < x → LW l L xs tgt ls st M) (kf : ¬ (z < x) → LW l L xs (pc + 3) ls st M) : LW l L xs pc ls (.int z :: .int x :: st) M := by
  intro b0 ad ca D A p e s m below meth c H locs lsA hC hP hD hS hl
  exact lv_icmp_gt hC.1.1 hC.1.2.1 hd ht (fun h9 => kt h9 b0 ad ca D A p e s m below meth c H locs lsA hC hP hD hS hl) (fun h9 => kf h9 b0 ad ca D A p e s m below meth c H locs lsA hC hP hD hS hl)
theorem lj_icmp_eq {x z : Int32} {off : Int} {tgt : Nat} (hd : decode code pc = .ok (.if_icmp .eq off, 3)) (ht : (pc : Int) + off = (tgt : Int))
    (kt : x = z → LW l L xs tgt ls st M) (kf : ¬ (x = z) → LW l L xs (pc + 3) ls st M) : LW l L xs pc ls (.int z :: .int x :: st) M := by
  intro b0 ad ca D A p e s m below meth c H locs lsA hC hP hD hS hl
  exact lv_icmp_eq hC.1.1 hC.1.2.1 hd ht (fun h9 => kt h9 b0 ad ca D A p e s m below meth c H locs lsA hC hP hD hS hl) (fun h9 => kf h9 b0 ad ca D A p e s m below meth c H locs lsA hC hP hD hS hl)
theorem lj_goto {off : Int} {tgt : Nat} (hd : decode code pc = .ok (.goto off, 3)) (ht : (pc : Int) + off = (tgt : Int))
    (k : LW l L xs tgt ls st M) : LW l L xs pc ls st M := by
  intro b0 ad ca D A p e s m below meth c H locs lsA hC hP hD hS hl
  exact lv_goto hC.1.1 hC.1.2.1 hd ht (k b0 ad ca D A p e s m below meth c H locs lsA hC hP hD hS hl)
theorem lj_tableOut {dflt lo hi : Int} {offs : Array Int} {len : Nat} {x : Int32} {tgt : Nat} (hd : decode code pc = .ok (.tableswitch dflt lo hi offs, len)) (h : x.toInt < lo ∨ hi < x.toInt) (ht : (pc : Int) + dflt = (tgt : Int))
    (k : LW l L xs tgt ls st M) : LW l L xs pc ls (.int x :: st) M := by
  intro b0 ad ca D A p e s m below meth c H locs lsA hC hP hD hS hl
  exact lv_tableOut hC.1.1 hC.1.2.1 hd h ht (k b0 ad ca D A p e s m below meth c H locs lsA hC hP hD hS hl)
theorem lj_tableIn {dflt lo hi : Int} {offs : Array Int} {len : Nat} {x : Int32} {off : Int} {tgt : Nat} (hd : decode code pc = .ok (.tableswitch dflt lo hi offs, len)) (h1 : ¬ x.toInt < lo) (h2 : ¬ hi < x.toInt) (ho : offs[(x.toInt - lo).toNat]? = some off) (ht : (pc : Int) + off = (tgt : Int))
    (k : LW l L xs tgt ls st M) : LW l L xs pc ls (.int x :: st) M := by
  intro b0 ad ca D A p e s m below meth c H locs lsA hC hP hD hS hl
  exact lv_tableIn hC.1.1 hC.1.2.1 hd h1 h2 ho ht (k b0 ad ca D A p e s m below meth c H locs lsA hC hP hD hS hl)
theorem lj_ldc2 {index : Nat} {v : Int64} (hc9 : Jvm.Cond.constantLong yL_law.cls index v ∈ lw_tbl) (hd : decode code pc = .ok (.ldc2_w index, 3)) (k : LW l L xs (pc + 3) ls (.long v :: st) M) : LW l L xs pc ls st M := by
  intro b0 ad ca D A p e s m below meth c H locs lsA hC hP hD hS hl
  exact lv_ldc2 hC.1.1 hC.1.2.1 hC.1.2.2.2.2.1 (hC.1.2.2.2.2.2.1 _ hc9 rfl) hd (k b0 ad ca D A p e s m below meth c H locs lsA hC hP hD hS hl)
theorem lj_topl {x : Int64} (k : ∀ z : Int64, z = x → LW l L xs pc ls (.long z :: st) M) : LW l L xs pc ls (.long x :: st) M := k x rfl
theorem lj_loc {la : List (Option Value)} (h : lle la ls) (k : LW l L xs pc la st M) : LW l L xs pc ls st M := by
  intro b0 ad ca D A p e s m below meth c H locs lsA hC hP hD hS hl
  exact k b0 ad ca D A p e s m below meth c H locs lsA hC hP hD hS ⟨hl.1, hl.2.1, fun i v hv => hl.2.2 i v (lle_at la ls i v h hv)⟩
theorem lj_slen (hd : decode code pc = .ok (.arraylength, 1)) (k : LW l L xs (pc + 1) ls (.int (nI L) :: st) M) : LW l L xs pc ls (.ref 1003 :: st) M := by
  intro b0 ad ca D A p e s m below meth c H locs lsA hC hP hD hS hl
  show W p l e room_1 s m #[Value.ref b0] below meth c H locs 600000 7302250 (lw_Z below #[Value.ref b0] s) (F0 m pc lsA (.ref (ad 1003) :: st.map (cz ad)))
  rw [hC.2.2.2.2.1]
  exact va_slen hC.1.1 hC.1.2.1 hC.2.1 hC.2.2.1 hC.2.2.2.1 hS hd (k b0 ad ca D A p e s m below meth c H locs lsA hC hP hD hS hl)
theorem lj_sld {i : Int32} (hi : vp_in i L) (hd : decode code pc = .ok (.iaload, 1)) (k : LW l L xs (pc + 1) ls (.int (xs i.toNatClampNeg) :: st) M) : LW l L xs pc ls (.int i :: .ref 1003 :: st) M := by
  intro b0 ad ca D A p e s m below meth c H locs lsA hC hP hD hS hl
  show W p l e room_1 s m #[Value.ref b0] below meth c H locs 600000 7302250 (lw_Z below #[Value.ref b0] s) (F0 m pc lsA (.int i :: .ref (ad 1003) :: st.map (cz ad)))
  rw [hC.2.2.2.2.1]
  exact va_sld hC.1.1 hC.1.2.1 hC.2.1 hC.2.2.1 hC.2.2.2.1 hS hi hd (k b0 ad ca D A p e s m below meth c H locs lsA hC hP hD hS hl)
theorem vp_inN {k z : Nat} (h : k < z) (h2 : z ≤ 4000) : vp_in (nI k) z := vp_in_nI h (by omega)
/-- a number of the script -/
theorem lj_arg {i kn : Nat} {k0 : Int} (hk : Int32.ofInt k0 = nI kn) (d0 : decode code pc = .ok (.aload_n 0, 1)) (d1 : decode code (pc + 1) = .ok (.iload_n 3, 1)) (d2 : decode code (pc + 2) = .ok (.iconst k0, 1)) (d3 : decode code (pc + 3) = .ok (.iadd, 1)) (d4 : decode code (pc + 4) = .ok (.iaload, 1)) (h0 : ls[0]? = some (some (.ref 1003))) (h3 : ls[3]? = some (some (.int (nI i)))) (hi : i + kn < L) (hL : L ≤ 3072) (k : LW l L xs (pc + 5) ls (.int (xs (i + kn)) :: st) M) : LW l L xs pc ls st M := by
  refine lj_aload_n (i := 0) d0 rfl h0 ?_
  refine lj_iload_n (i := 3) d1 rfl h3 ?_
  refine lj_iconst (v := nI kn) d2 hk ?_
  refine lj_iadd d3 ?_
  rw [nI_add]
  refine lj_sld (vp_inN hi (by omega)) d4 ?_
  rw [nI_clamp (by omega)]
  exact k
theorem lj_cV {d' o n ci index nL' N : Nat} {T : u_T} {fs : List (Option Nat)} {y' : MethodName} {b' : ByteArray} {ret' : Option FieldType} {as stk : List Value} {Q' : Option Value → Mm → Prop} (ck : CKV yL_law.cls index y' b' nL' ret' n) (hM : AMet l d' y' b' nL' ret' (.ref o :: as) M Q') (hs : shp[o]? = some (.inl (ci, fs))) (hc : vwCl[ci]? = some (y'.cls, T, N)) (hdd : d' ≤ 60) (hnl : nL' ≤ 45) (hn : as.length = n) (hstk : stk = as.reverse ++ .ref o :: st) (hcat : (st.map fun v => v.category).sum ≤ 8) (hd : decode code pc = .ok (.invokevirtual index, 3))
    (k : ∀ (r : Option Value) (M' : Mm), Q' r M' → LW l L xs (pc + 3) ls (r.toList ++ st) M') : LW l L xs pc ls stk M := by
  intro b0 ad ca D A p e s m below meth c H locs lsA hC hP hD hS hl
  have hF := aA_sub hD hS hC.1.2.2.2.2.2.2.2.2.1
  have hrun := ck (As := as.map (cz ad)) (rest := st.map (cz ad)) (bb := ad o) (g := F0 m pc lsA (stk.map (cz ad))) (cells := 600000) (slots := 7302250) hC.1.1 hC.1.2.1 hC.1.2.2.1 hC.1.2.2.2.2.1 hC.1.2.2.2.2.2.1 hC.1.2.2.2.2.2.2.2.2.2.1 (p := p) (e := e) (R := room_1) (below := below) (meth := meth) (H := H) (locs := locs) (hM ad ca D H.size) rfl rfl ⟨by show d' + 1 ≤ 2048; omega, by show 8 + (nL' + 11) + d' * 64 ≤ 84000; omega⟩
    ⟨aw_blind (as := .ref o :: as), va_recv hC.1.2.2.2.2.2.2.1 hP hc (wld_get hs), fun U hU hW => ⟨rfl, aw_pre hC.1 hP hD hS hU hW⟩⟩ rfl (by rw [List.length_map]; exact hn) hl.1 (by rw [hstk]; simp [cz]) (lv_room (by rw [aw_cats]; exact hcat)) hd ⟨Nat.le_refl _, Nat.le_refl _⟩
  refine aw_back hrun hS hF (fun r M' H1 locs1 hq hP1 hS1 => ?_)
  rw [aw_map]
  exact k r M' hq b0 ad ca D A p e s m below meth c H1 locs1 lsA hC hP1 (wD hD) hS1 hl
theorem lj_end (hd : decode code pc = .ok (.ireturn, 1)) : LW l L xs pc ls [.int 1] M := by
  intro b0 ad ca D A p e s m below meth c H locs lsA hC hP hD hS hl
  exact va_forget (fun q hq => hC.2.2.2.2.2 _ (hS.2.2 q hq)) (lw_ret hC.1.1 hC.1.2.1 hC.1.2.2.2.1 hC.1.2.2.2.2.2.2.2.1 hd)
end LJ
