theorem clampI (z : Int32) (hz : ¬ z < 0) : z.toInt = (z.toNatClampNeg : Int) := by
  have h0 : (0 : Int) ≤ z.toInt := by
    have h1 := Int32.le_iff_toInt_le.mp (Int32.not_lt.mp hz)
    have e0 : (0 : Int32).toInt = 0 := by decide
    omega
  show z.toInt = ((z.toInt.toNat : Nat) : Int)
  omega
section KT
variable {p : Program} {l : Launch} {e : Env} {R : Room} {s : State} {m : MethodId} {args : Array Value} {below : List Frame} {meth : Method} {c : Code} {H : Heap} {locs : List Loc} {cells slots : Nat} {Q : State → Prop}
/-- System.arraycopy out of a static array of ints into one of the world -/
theorem kt_copy {cc : ByteArray} {pc : Nat} {ls : Array Slot} {rest : List Value} {D : va_G} {cl : List vw_C} {A : Nat → Prop} {a : Nat} {tys : List (ClassId × FieldType)} {ws : va_W} (hexec : p.tables.exec = Jvm.exec) (hb : c.code = cc) (hml : c.maxLocals = ls.size) {own : String} {index : Nat} (hown : s.vm.findClass own = some m.cls) (hlink : (Cond.methodLink own index arraycopyName).before args s = true) (hnat : (Cond.native arraycopyName).before args s = true) (hstat : (Cond.static arraycopyName).before args s = true) (hini : (Cond.initialized "java/lang/System").before args s = true)
    (hK : va_K D cl tys s) (hP : va_P D cl ws H) (hD : va_D A ws) (hS : va_S A s.heap H locs) {b0 n0 : Nat} {f : Nat → Int32} (hT : va_T .int b0 n0 (fun j => .int (f j)) A s s.heap) (q1 t1 : Nat) {c1 : ClassId} {n1 : Nat} {g : Nat → Int32} (ha : ws[q1]? = some (a, .inl (c1, n1, .inl g))) (ht : tys[t1]? = some (c1, .int))
    {n : Int32} (hn : ¬ n < 0) (h4 : n.toNatClampNeg ≤ n0) (h5 : n.toNatClampNeg ≤ n1) (hfr : 1 ≤ R.frames) (hlo : (rest.map fun v => v.category).sum + (nativeFrameWords "java/lang/System" "arraycopy" 5 + 11) ≤ R.locals) (hdg : decode cc pc = .ok (.invokestatic index, 3))
    (kk : ∀ (H1 : Heap) (locs1 : List Loc), va_P D cl (ws.set q1 (a, .inl (c1, n1, .inl (va_cpy f g 0 0 n.toNatClampNeg)))) H1 → va_D A (ws.set q1 (a, .inl (c1, n1, .inl (va_cpy f g 0 0 n.toNatClampNeg)))) → va_S A s.heap H1 locs1 → W p l e R s m args below meth c H1 locs1 cells slots Q (F0 m (pc + 3) ls rest)) :
    W p l e R s m args below meth c H locs cells slots Q (F0 m pc ls (.int n :: .int 0 :: .ref a :: .int 0 :: .ref b0 :: rest)) := by
  obtain ⟨scr, u1, u2, u3, u4, -, u6, u7⟩ := hT
  obtain ⟨v1, k0, v2, cm0, v3⟩ := u2
  obtain ⟨-, k1, w2, cm1, w3⟩ := (hK.2 t1 _ ht).1 n1 (fun j => .int (g j))
  have hsrc : H[b0]? = some scr := by rw [hS.2.1 b0 (Array.getElem?_eq_some_iff.mp u1).1 u7]; exact u1
  have hdst : H[a]? = some (vp_cell c1 (n1, .inl g)) := hP q1 _ ha
  have hlt : a < H.size := (Array.getElem?_eq_some_iff.mp hdst).1
  have e0 : (0 : Int32).toInt = 0 := by decide
  have z0 : (0 : Int32).toNatClampNeg = 0 := by decide
  have hAa : A a := hD.2 q1 _ ha
  have hnn := clampI n hn
  intro T hT X
  obtain ⟨vm', X', step⟩ := X.arraycopy hexec hown hlink hnat hstat hini (src := b0) (dst := a) (cs := scr) (cd := vp_cell c1 (n1, .inl g)) (srcPos := 0) (destPos := 0) (n := n) (by rw [hT]; exact hsrc) (by rw [hT]; exact hdst)
    v1 (fun _ h => by cases h) u3 (fun h => by cases h) v2 w2 v3 w3 (by simp [refKind]) (by decide) (by decide) hn
    (by rw [e0, hnn]; omega) (by rw [e0, hnn]; show ¬ _ > ((arrV c1 n1 (fun j => .int (g j))).slots.size : Int); rw [arrV_size]; omega)
    (fun _ _ i hi => by
      have e : scr.slots.getD ((0 : Int32).toNatClampNeg + i) .null = .int (f ((0 : Int32).toNatClampNeg + i)) := by
        rw [Array.getD_eq_getD_getElem?, u6 _ (by rw [z0]; omega)]
        rfl
      rw [e]
      exact ⟨rfl, trivial⟩)
    (g := F0 m pc ls (.int n :: .int 0 :: .ref a :: .int 0 :: .ref b0 :: rest)) rfl (by rw [hml]) (rest := rest) rfl (by rw [hb]; exact hdg) hfr (by show 2 * 0 + _ + _ ≤ _; omega)
  have ec : copied scr (vp_cell c1 (n1, .inl g)) 0 0 n = vp_cell c1 (n1, .inl (va_cpy f g 0 0 n.toNatClampNeg)) := va_copiedX (fun z => .int z) scr c1 f g u6 (by rw [z0]; omega)
  rw [ec] at X' step
  generalize hce : vp_cell c1 (n1, .inl (va_cpy f g 0 0 n.toNatClampNeg)) = ce9 at X' step
  have hh : ((T.setVm vm').setCell a ce9).heap = H.setIfInBounds a ce9 := by rw [← hT]; rfl
  have ho : ∀ q : Nat, q ≠ a → (H.setIfInBounds a ce9)[q]? = H[q]? := fun q hq => by simp [Array.getElem?_setIfInBounds, Ne.symm hq]
  obtain ⟨t, s1, s2⟩ := kk (H.setIfInBounds a ce9) _ (hP.set hD ha (show (H.setIfInBounds a ce9)[a]? = some (vp_cell _ _) by rw [hce]; simp [Array.getElem?_setIfInBounds, hlt]) ho) (hD.set ha)
    ⟨by simp; exact hS.1, fun q g1 g2 => by rw [ho q (fun e => g2 (e ▸ hAa))]; exact hS.2.1 q g1 g2, fun q hq => by
      rcases List.mem_append.mp hq with h | h
      · exact hS.2.2 q h
      · obtain ⟨z, -, hz⟩ := List.mem_map.mp h
        rw [← hz]
        exact hAa⟩ _ hh X'
  exact ⟨t, step t s1, s2⟩
end KT
section AWS9
variable {l : Launch} {d : Nat} {y : MethodName} {b : ByteArray} {nL : Nat} {ret : Option FieldType} {pc : Nat} {ls : List (Option Value)} {st : List Value} {M : Mm} {Q : Option Value → Mm → Prop}
theorem aw_getsB {index : Nat} (hlk : Cond.fieldLink y.cls index "ClapTogether$Acts" "BODIES" "[I" ∈ lw_tbl) (hd : decode b pc = .ok (.getstatic index, 3)) (k : AW l d y b nL ret (pc + 3) ls (.ref 1001 :: st) M Q) : AW l d y b nL ret pc ls st M Q := by
  intro ad ca D A p e s m args below meth c H locs lsA hC hP hD hS hl
  exact va_gets hC.1 hC.2.1 hC.2.2.2.2.2.2.2.2.2.2.2.1.1 hS hC.2.2.2.2.1 (hC.2.2.2.2.2.1 _ hlk rfl) (fun _ h => h) hd (k ad ca D A p e s m args below meth c H locs lsA hC hP hD hS hl)
theorem aw_tlenB (hd : decode b pc = .ok (.arraylength, 1)) (k : AW l d y b nL ret (pc + 1) ls (.int 21 :: st) M Q) : AW l d y b nL ret pc ls (.ref 1001 :: st) M Q := by
  intro ad ca D A p e s m args below meth c H locs lsA hC hP hD hS hl
  exact va_tlen hC.1 hC.2.1 hC.2.2.2.2.2.2.2.2.2.2.2.1.2 hS rfl hd (k ad ca D A p e s m args below meth c H locs lsA hC hP hD hS hl)
theorem aw_tiB {i : Int32} (hi : vp_in i 21) (hd : decode b pc = .ok (.iaload, 1)) (k : AW l d y b nL ret (pc + 1) ls (.int (bodF i.toNatClampNeg) :: st) M Q) : AW l d y b nL ret pc ls (.int i :: .ref 1001 :: st) M Q := by
  intro ad ca D A p e s m args below meth c H locs lsA hC hP hD hS hl
  exact va_ti hC.1 hC.2.1 hC.2.2.2.2.2.2.2.2.2.2.2.1.2 hS hi rfl hd (k ad ca D A p e s m args below meth c H locs lsA hC hP hD hS hl)
theorem aw_getsL {index : Nat} {host : String} (hlk : Cond.fieldLinkNest y.cls index "ClapTogether" "LAWS_AT_FIRST" "[I" host ∈ lw_tbl) (hd : decode b pc = .ok (.getstatic index, 3)) (k : AW l d y b nL ret (pc + 3) ls (.ref 1000 :: st) M Q) : AW l d y b nL ret pc ls st M Q := by
  intro ad ca D A p e s m args below meth c H locs lsA hC hP hD hS hl
  exact va_getsN hC.1 hC.2.1 hC.2.2.2.2.2.2.2.2.2.2.1.1 hS hC.2.2.2.2.1 (va_Nw.use rfl (hC.2.2.2.2.2.2.2.2.2.1 _ hlk rfl)) (fun _ h => h) hd (k ad ca D A p e s m args below meth c H locs lsA hC hP hD hS hl)
theorem aw_copyT {index a1 n1 q1 : Nat} (h1 : Cond.methodLink y.cls index arraycopyName ∈ lw_tbl) (h2 : Cond.native arraycopyName ∈ lw_tbl) (h3 : Cond.static arraycopyName ∈ lw_tbl) (h4 : Cond.initialized "java/lang/System" ∈ lw_tbl) (hs1 : shp[a1]? = some (.inr (0, n1, q1))) (hn1 : 7 ≤ n1) (hdd : 1 ≤ d) (hcat : (st.map fun v => v.category).sum ≤ 8) (hd : decode b pc = .ok (.invokestatic index, 3))
    (k : AW l d y b nL ret (pc + 3) ls st (rI M a1 (va_cpy lawsF (M.1 a1) 0 0 7)) Q) : AW l d y b nL ret pc ls (.int 7 :: .int 0 :: .ref a1 :: .int 0 :: .ref 1000 :: st) M Q := by
  intro ad ca D A p e s m args below meth c H locs lsA hC hP hD hS hl
  have h40 : nativeFrameWords "java/lang/System" "arraycopy" 5 + 11 ≤ 40 := by decide +kernel
  have hloc : ((st.map (cz ad)).map fun v => v.category).sum + (nativeFrameWords "java/lang/System" "arraycopy" 5 + 11) ≤ (rmD d).locals := by rw [aw_cats]; show (st.map fun v => v.category).sum + _ ≤ d * 64; omega
  refine kt_copy (n := 7) (f := lawsF) hC.1 hC.2.1 (hC.2.2.1.trans hl.1.symm) hC.2.2.2.2.1 (hC.2.2.2.2.2.1 _ h1 rfl) (hC.2.2.2.2.2.1 _ h2 rfl) (hC.2.2.2.2.2.1 _ h3 rfl) (hC.2.2.2.2.2.1 _ h4 rfl) hC.2.2.2.2.2.2.1 hP hD hS hC.2.2.2.2.2.2.2.2.2.2.1.2 a1 0 (wld_get hs1) (tysA_get ca (by decide)) (by decide) (by decide) (by show 7 ≤ n1; exact hn1) hdd hloc hd (fun H1 locs1 hP1 hD1 hS1 => ?_)
  have hw := wld_set (ad := ad) (ca := ca) (M := M) (M' := rI M a1 (va_cpy lawsF (M.1 a1) 0 0 7)) hs1 (e := .inl (ca 0, n1, .inl (va_cpy lawsF (M.1 a1) 0 0 7))) (by simp [ce, ca_arr, rI]) (fun j hj => ⟨if_neg hj, rfl⟩)
  replace hP1 : va_P D vwCl (wld ad ca (rI M a1 (va_cpy lawsF (M.1 a1) 0 0 7))) H1 := by rw [← hw]; exact hP1
  exact k ad ca D A p e s m args below meth c H1 locs1 lsA hC hP1 (wD hD) hS1 hl
end AWS9
