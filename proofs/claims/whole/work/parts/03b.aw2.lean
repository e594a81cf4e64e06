theorem lw_hts {args : Array Value} {s : State} (h : ∀ w ∈ lw_tbl, goodWord w = true → w.before args s = true) : ∀ w ∈ lw_good, w.before args s = true := fun w hw => h w (List.mem_filter.mp hw).1 (List.mem_filter.mp hw).2
theorem lw_goodIn : GoodIn lw_good lw_good := fun w hw => ⟨hw, good_of_word (List.mem_filter.mp hw).2⟩
theorem lw_goodInC {y : MethodName} {b : ByteArray} {nL : Nat} {ret : Option FieldType} (h : Cond.code y b nL ret ∈ lw_tbl) : GoodIn lw_good (Cond.code y b nL ret :: lw_good) := fun w hw => by
  rcases List.mem_cons.mp hw with rfl | hw
  · exact lw_goodIn _ (lw_good_in h rfl)
  · exact lw_goodIn w hw
/-- a field that a class's constant pool names: read -/
def GF (own : String) (index ci j : Nat) : Prop := ∀ {p : Program} {l : Launch} {e : Env} {R : Room} {s : State} {m : MethodId} {args : Array Value} {below : List Frame} {meth : Method} {c : Code} {H : Heap} {locs : List Loc} {cells slots : Nat} {Q : State → Prop} {cc : ByteArray} {pc : Nat} {ls : Array Slot} {rest : List Value} {D : va_G} {tys : List (ClassId × FieldType)} {ws : va_W} {a q0 : Nat} {fs : List Value} {v : Value},
  p.tables.exec = Jvm.exec → c.code = cc → (∀ w ∈ lw_tbl, goodWord w = true → w.before args s = true) → (∀ w ∈ lw_tbl, isNest w = true → va_Nw w s) → s.vm.findClass own = some m.cls → va_K D vwCl tys s → va_P D vwCl ws H → ws[q0]? = some (a, .inr (ci, fs)) → fs[j]? = some v → decode cc pc = .ok (.getfield index, 3) →
  W p l e R s m args below meth c H locs cells slots Q (F0 m (pc + 3) ls (v :: rest)) → W p l e R s m args below meth c H locs cells slots Q (F0 m pc ls (.ref a :: rest))
/-- and written -/
def PF (own : String) (index ci j : Nat) (ty : FieldType) : Prop := ∀ {p : Program} {l : Launch} {e : Env} {R : Room} {s : State} {m : MethodId} {args : Array Value} {below : List Frame} {meth : Method} {c : Code} {H H0 : Heap} {locs : List Loc} {cells slots : Nat} {Q : State → Prop} {cc : ByteArray} {pc : Nat} {ls : Array Slot} {rest : List Value} {D : va_G} {tys : List (ClassId × FieldType)} {ws : va_W} {a q0 : Nat} {fs : List Value} {v : Value} {A : Nat → Prop},
  p.tables.exec = Jvm.exec → c.code = cc → (∀ w ∈ lw_tbl, goodWord w = true → w.before args s = true) → (∀ w ∈ lw_tbl, isNest w = true → va_Nw w s) → s.vm.findClass own = some m.cls → va_K D vwCl tys s → va_P D vwCl ws H → va_D A ws → va_S A H0 H locs → ws[q0]? = some (a, .inr (ci, fs)) → narrow ty v = v → fits ty v = true → j < fs.length → decode cc pc = .ok (.putfield index, 3) →
  (∀ (H1 : Heap) (locs1 : List Loc), va_P D vwCl (ws.set q0 (a, .inr (ci, fs.set j v))) H1 → va_D A (ws.set q0 (a, .inr (ci, fs.set j v))) → va_S A H0 H1 locs1 → W p l e R s m args below meth c H1 locs1 cells slots Q (F0 m (pc + 3) ls rest)) → W p l e R s m args below meth c H locs cells slots Q (F0 m pc ls (v :: .ref a :: rest))
theorem gf_of {own C : String} {T : u_T} {N ci index j : Nat} (hc : vwCl[ci]? = some (C, T, N)) (hin : ∀ w ∈ u_ws C T N, w ∈ lw_good) (hj : j < N) {nm ds ow : String} (hT : (T j).1 = ow ∧ (T j).2.1 = nm ∧ (T j).2.2.1 = ds) (hlk : Cond.fieldLink own index ow nm ds ∈ lw_tbl) : GF own index ci j := by
  obtain ⟨rfl, rfl, rfl⟩ := hT
  intro p l e R s m args below meth c H locs cells slots Q cc pc ls rest D tys ws a q0 fs v hx hb hw hn hown hK hP he hv hdg k
  exact va_get hx hb (lw_hts hw) hin hown hK hP q0 he hc j hj (hw _ hlk rfl) (fun _ h => h) hv hdg k
theorem gfN_of {own C host : String} {T : u_T} {N ci index j : Nat} (hc : vwCl[ci]? = some (C, T, N)) (hin : ∀ w ∈ u_ws C T N, w ∈ lw_good) (hj : j < N) {nm ds ow : String} (hT : (T j).1 = ow ∧ (T j).2.1 = nm ∧ (T j).2.2.1 = ds) (hlk : Cond.fieldLinkNest own index ow nm ds host ∈ lw_tbl) : GF own index ci j := by
  obtain ⟨rfl, rfl, rfl⟩ := hT
  intro p l e R s m args below meth c H locs cells slots Q cc pc ls rest D tys ws a q0 fs v hx hb hw hn hown hK hP he hv hdg k
  exact va_getN hx hb (lw_hts hw) hin hown hK hP q0 he hc j hj (va_Nw.use rfl (hn _ hlk rfl)) (fun _ h => h) hv hdg k
theorem pf_of {own C : String} {T : u_T} {N ci index j : Nat} {ty : FieldType} (hc : vwCl[ci]? = some (C, T, N)) (hin : ∀ w ∈ u_ws C T N, w ∈ lw_good) (hj : j < N) (ty0 : Nat → FieldType) (hty : ∀ k, k < N → parseFieldDescriptor (T k).2.2.1 = some (ty0 k)) (hnm : ∀ a, a < N → ∀ b, b < N → a ≠ b → (T a).2.1 ≠ (T b).2.1) {nm ds ow : String} (hT : (T j).1 = ow ∧ (T j).2.1 = nm ∧ (T j).2.2.1 = ds ∧ (T j).2.2.2 = false) (hd : ty0 j = ty) (hlk : Cond.fieldLink own index ow nm ds ∈ lw_tbl) : PF own index ci j ty := by
  obtain ⟨rfl, rfl, rfl, hfin⟩ := hT
  subst hd
  intro p l e R s m args below meth c H H0 locs cells slots Q cc pc ls rest D tys ws a q0 fs v A hx hb hw hn hown hK hP hD hS he hnar hfit hlen hdg k
  exact va_put hx hb (lw_hts hw) hin ty0 hty hnm hown hK hP hD hS q0 he hc j hj (hw _ hlk rfl) (fun _ h => h) hfin (hty j hj) hnar hfit hlen hdg k
theorem pfN_of {own C host : String} {T : u_T} {N ci index j : Nat} {ty : FieldType} (hc : vwCl[ci]? = some (C, T, N)) (hin : ∀ w ∈ u_ws C T N, w ∈ lw_good) (hj : j < N) (ty0 : Nat → FieldType) (hty : ∀ k, k < N → parseFieldDescriptor (T k).2.2.1 = some (ty0 k)) (hnm : ∀ a, a < N → ∀ b, b < N → a ≠ b → (T a).2.1 ≠ (T b).2.1) {nm ds ow : String} (hT : (T j).1 = ow ∧ (T j).2.1 = nm ∧ (T j).2.2.1 = ds ∧ (T j).2.2.2 = false) (hd : ty0 j = ty) (hlk : Cond.fieldLinkNest own index ow nm ds host ∈ lw_tbl) : PF own index ci j ty := by
  obtain ⟨rfl, rfl, rfl, hfin⟩ := hT
  subst hd
  intro p l e R s m args below meth c H H0 locs cells slots Q cc pc ls rest D tys ws a q0 fs v A hx hb hw hn hown hK hP hD hS he hnar hfit hlen hdg k
  exact va_putN hx hb (lw_hts hw) hin ty0 hty hnm hown hK hP hD hS q0 he hc j hj (va_Nw.use rfl (hn _ hlk rfl)) (fun _ h => h) hfin (hty j hj) hnar hfit hlen hdg k
/-- a call of an object's method, a call of a class's: the words that it needs are there -/
def CKV (own : String) (index : Nat) (y : MethodName) (b : ByteArray) (nL : Nat) (ret : Option FieldType) (n : Nat) : Prop := ∀ {p : Program} {l : Launch} {e : Env} {R : Room} {s : State} {m : MethodId} {args : Array Value} {below : List Frame} {meth : Method} {c : Code} {H : Heap} {locs : List Loc} {cc : ByteArray} {nLc : Nat} {rm : Room} {Pc : Array Value → State → Prop} {Qc : Array Value → State → Outcome → State → Prop} {free : Addr → Prop} {g : JFrame} {As rest : List Value} {bb : Nat} {cells slots : Nat},
  p.tables.exec = Jvm.exec → c.code = cc → c.maxLocals = nLc → s.vm.findClass own = some m.cls → (∀ w ∈ lw_tbl, goodWord w = true → w.before args s = true) → (∀ w ∈ lw_tbl, isNest w = true → va_Nw w s) → Met l y (Cond.code y b nL ret :: lw_good) rm Pc Qc 0 0 free → rm.cells = 0 → rm.slots = 0 → (rm.frames + 1 ≤ R.frames ∧ 8 + (nL + 11) + rm.locals ≤ R.locals) → PreV s H y.cls bb Pc As → g.method = m → As.length = n → g.locals.size = nLc → g.stack = As.reverse ++ .ref bb :: rest → 2 * g.monitorRoom + (rest.map fun v => v.category).sum ≤ 8 → decode cc g.pc = .ok (.invokevirtual index, 3) → (cells ≤ R.cells ∧ slots ≤ R.slots) →
  va_Run p l e R s m args below meth c H locs cells slots 0 0 g rest (Qc (Value.ref bb :: As).toArray) free
def CKS (own : String) (index : Nat) (y : MethodName) (b : ByteArray) (nL : Nat) (ret : Option FieldType) (n : Nat) : Prop := ∀ {p : Program} {l : Launch} {e : Env} {R : Room} {s : State} {m : MethodId} {args : Array Value} {below : List Frame} {meth : Method} {c : Code} {H : Heap} {locs : List Loc} {cc : ByteArray} {nLc : Nat} {rm : Room} {Pc : Array Value → State → Prop} {Qc : Array Value → State → Outcome → State → Prop} {free : Addr → Prop} {g : JFrame} {As rest : List Value} {cells slots : Nat},
  p.tables.exec = Jvm.exec → c.code = cc → c.maxLocals = nLc → s.vm.findClass own = some m.cls → (∀ w ∈ lw_tbl, goodWord w = true → w.before args s = true) → (∀ w ∈ lw_tbl, isNest w = true → va_Nw w s) → Met l y (Cond.code y b nL ret :: lw_good) rm Pc Qc 0 0 free → rm.cells = 0 → rm.slots = 0 → (rm.frames + 1 ≤ R.frames ∧ 8 + (nL + 11) + rm.locals ≤ R.locals) → PreS s H Pc As → g.method = m → As.length = n → g.locals.size = nLc → g.stack = As.reverse ++ rest → 2 * g.monitorRoom + (rest.map fun v => v.category).sum ≤ 8 → decode cc g.pc = .ok (.invokestatic index, 3) → (cells ≤ R.cells ∧ slots ≤ R.slots) →
  va_Run p l e R s m args below meth c H locs cells slots 0 0 g rest (Qc As.toArray) free
abbrev okMH (y : MethodName) (n : Nat) : Prop := y.cls ≠ "java/lang/invoke/MethodHandle" ∧ y.cls ≠ "java/lang/invoke/VarHandle" ∧ (parseMethodDescriptor y.desc).map (fun d => d.parameters.length) = some n
theorem ckV_of {own : String} {index : Nat} {y : MethodName} {b : ByteArray} {nL : Nat} {ret : Option FieldType} {n : Nat} (h1 : Cond.methodLink own index y ∈ lw_tbl) (h2 : Cond.instanceMethod y ∈ lw_tbl) (h3 : Cond.selects y.cls y y ∈ lw_tbl) (h4 : Cond.initialized y.cls ∈ lw_tbl) (h5 : Cond.code y b nL ret ∈ lw_tbl) (hd : okMH y n) : CKV own index y b nL ret n := by
  intro p l e R s m args below meth c H locs cc nLc rm Pc Qc free g As rest bb cells slots hx hb hml hown hw hn hM hrc hrs hR hp hg hn2 hsz hst hW hdg hcs
  exact va_runV (Ts := lw_good) ⟨hx, hb, hml, hown, lw_hts hw⟩ hM ⟨callB_of n (lw_hts hw) (lw_goodInC h5) rfl hrc hrs (hw _ h4 rfl) (hw _ h1 rfl) hd hR, hw _ h2 rfl, hw _ h3 rfl⟩ hp hg hn2 hsz hst hW hdg hcs
theorem ckVN_of {own host : String} {index : Nat} {y : MethodName} {b : ByteArray} {nL : Nat} {ret : Option FieldType} {n : Nat} (h1 : Cond.methodLinkNest own index y host ∈ lw_tbl) (h2 : Cond.instanceMethod y ∈ lw_tbl) (h3 : Cond.selects y.cls y y ∈ lw_tbl) (h4 : Cond.initialized y.cls ∈ lw_tbl) (h5 : Cond.code y b nL ret ∈ lw_tbl) (hd : okMH y n) : CKV own index y b nL ret n := by
  intro p l e R s m args below meth c H locs cc nLc rm Pc Qc free g As rest bb cells slots hx hb hml hown hw hn hM hrc hrs hR hp hg hn2 hsz hst hW hdg hcs
  exact va_runVN (Ts := lw_good) ⟨hx, hb, hml, hown, lw_hts hw⟩ hM ⟨va_cnB n (lw_hts hw) (lw_goodInC h5) rfl hrc hrs (hn _ h1 rfl) (hw _ h4 rfl) hd hR, hw _ h2 rfl, hw _ h3 rfl⟩ hp hg hn2 hsz hst hW hdg hcs
theorem ckS_of {own : String} {index : Nat} {y : MethodName} {b : ByteArray} {nL : Nat} {ret : Option FieldType} {n : Nat} (h1 : Cond.methodLink own index y ∈ lw_tbl) (h2 : Cond.static y ∈ lw_tbl) (h4 : Cond.initialized y.cls ∈ lw_tbl) (h5 : Cond.code y b nL ret ∈ lw_tbl) (hd : okMH y n) : CKS own index y b nL ret n := by
  intro p l e R s m args below meth c H locs cc nLc rm Pc Qc free g As rest cells slots hx hb hml hown hw hn hM hrc hrs hR hp hg hn2 hsz hst hW hdg hcs
  exact va_runS (Ts := lw_good) ⟨hx, hb, hml, hown, lw_hts hw⟩ hM ⟨callB_of n (lw_hts hw) (lw_goodInC h5) rfl hrc hrs (hw _ h4 rfl) (hw _ h1 rfl) hd hR, hw _ h2 rfl⟩ hp hg hn2 hsz hst hW hdg hcs
theorem ckSN_of {own host : String} {index : Nat} {y : MethodName} {b : ByteArray} {nL : Nat} {ret : Option FieldType} {n : Nat} (h1 : Cond.methodLinkNest own index y host ∈ lw_tbl) (h2 : Cond.static y ∈ lw_tbl) (h4 : Cond.initialized y.cls ∈ lw_tbl) (h5 : Cond.code y b nL ret ∈ lw_tbl) (hd : okMH y n) : CKS own index y b nL ret n := by
  intro p l e R s m args below meth c H locs cc nLc rm Pc Qc free g As rest cells slots hx hb hml hown hw hn hM hrc hrs hR hp hg hn2 hsz hst hW hdg hcs
  exact va_runSN (Ts := lw_good) ⟨hx, hb, hml, hown, lw_hts hw⟩ hM ⟨va_cnB n (lw_hts hw) (lw_goodInC h5) rfl hrc hrs (hn _ h1 rfl) (hw _ h4 rfl) hd hR, hw _ h2 rfl, trivial⟩ hp hg hn2 hsz hst hW hdg hcs

section AWF
variable {l : Launch} {d : Nat} {y : MethodName} {b : ByteArray} {nL : Nat} {ret : Option FieldType} {pc : Nat} {ls : List (Option Value)} {st : List Value} {M : Mm} {Q : Option Value → Mm → Prop}
theorem aw_getI {o ci j index : Nat} {fs : List (Option Nat)} (hg : GF y.cls index ci j) (hs : shp[o]? = some (.inl (ci, fs))) (hf : fs[j]? = some none) (hd : decode b pc = .ok (.getfield index, 3)) (k : AW l d y b nL ret (pc + 3) ls (.int (M.1 o j) :: st) M Q) : AW l d y b nL ret pc ls (.ref o :: st) M Q := by
  intro ad ca D A p e s m args below meth c H locs lsA hC hP hD hS hl
  exact hg hC.1 hC.2.1 hC.2.2.2.2.2.1 hC.2.2.2.2.2.2.2.2.2.1 hC.2.2.2.2.1 hC.2.2.2.2.2.2.1 hP (wld_get hs) (v := .int (M.1 o j)) (by rw [List.getElem?_mapIdx, hf]; rfl) hd (k ad ca D A p e s m args below meth c H locs lsA hC hP hD hS hl)
theorem aw_getR {o ci j index q : Nat} {fs : List (Option Nat)} (hg : GF y.cls index ci j) (hs : shp[o]? = some (.inl (ci, fs))) (hf : fs[j]? = some (some q)) (hd : decode b pc = .ok (.getfield index, 3)) (k : AW l d y b nL ret (pc + 3) ls (.ref q :: st) M Q) : AW l d y b nL ret pc ls (.ref o :: st) M Q := by
  intro ad ca D A p e s m args below meth c H locs lsA hC hP hD hS hl
  exact hg hC.1 hC.2.1 hC.2.2.2.2.2.1 hC.2.2.2.2.2.2.2.2.2.1 hC.2.2.2.2.1 hC.2.2.2.2.2.2.1 hP (wld_get hs) (v := .ref (ad q)) (by rw [List.getElem?_mapIdx, hf]; rfl) hd (k ad ca D A p e s m args below meth c H locs lsA hC hP hD hS hl)
theorem ce_put {ad : Nat → Nat} {ca : Nat → ClassId} {M : Mm} {o ci j : Nat} {fs : List (Option Nat)} {x : Int32} (hf : fs[j]? = some none) : ce ad ca (mI M o j x) o (.inl (ci, fs)) = .inr (ci, (fs.mapIdx (fun j f => cf ad (M.1 o) j f)).set j (.int x)) := by
  unfold ce
  refine congrArg (fun z => (Sum.inr (ci, z) : va_E)) ?_
  apply List.ext_getElem?
  intro i
  show (List.mapIdx _ fs)[i]? = _
  rw [List.getElem?_set, List.getElem?_mapIdx, List.getElem?_mapIdx, List.length_mapIdx]
  have hj : j < fs.length := (List.getElem?_eq_some_iff.mp hf).1
  by_cases h : j = i
  · subst h
    rw [if_pos rfl, if_pos hj, hf]
    simp [cf, mI, upd]
  · rw [if_neg h]
    cases fs[i]? with
    | none => rfl
    | some f =>
      cases f with
      | none => simp [cf, mI, upd, show ¬ i = j from fun q => h q.symm]
      | some q => rfl
theorem aw_putT {o ci j index : Nat} {fs : List (Option Nat)} {ty : FieldType} {x : Int32} (hg : PF y.cls index ci j ty) (hs : shp[o]? = some (.inl (ci, fs))) (hf : fs[j]? = some none) (hn : narrow ty (.int x) = .int x) (hfi : fits ty (.int x) = true) (hd : decode b pc = .ok (.putfield index, 3)) (k : AW l d y b nL ret (pc + 3) ls st (mI M o j x) Q) : AW l d y b nL ret pc ls (.int x :: .ref o :: st) M Q := by
  intro ad ca D A p e s m args below meth c H locs lsA hC hP hD hS hl
  refine hg hC.1 hC.2.1 hC.2.2.2.2.2.1 hC.2.2.2.2.2.2.2.2.2.1 hC.2.2.2.2.1 hC.2.2.2.2.2.2.1 hP hD hS (wld_get hs) hn hfi (by rw [List.length_mapIdx]; exact (List.getElem?_eq_some_iff.mp hf).1) hd (fun H1 locs1 hP1 hD1 hS1 => ?_)
  have hw := wld_set (ad := ad) (ca := ca) (M := M) (M' := mI M o j x) hs (ce_put hf) (fun j hj => ⟨if_neg hj, rfl⟩)
  replace hP1 : va_P D vwCl (wld ad ca (mI M o j x)) H1 := by rw [← hw]; exact hP1
  replace hD1 : va_D A (wld ad ca (mI M o j x)) := wD hD
  exact k ad ca D A p e s m args below meth c H1 locs1 lsA hC hP1 hD1 hS1 hl
theorem aw_putI {o ci j index : Nat} {fs : List (Option Nat)} {x : Int32} (hg : PF y.cls index ci j .int) (hs : shp[o]? = some (.inl (ci, fs))) (hf : fs[j]? = some none) (hd : decode b pc = .ok (.putfield index, 3)) (k : AW l d y b nL ret (pc + 3) ls st (mI M o j x) Q) : AW l d y b nL ret pc ls (.int x :: .ref o :: st) M Q := aw_putT hg hs hf rfl rfl hd k
theorem aw_putZ {o ci j index : Nat} {fs : List (Option Nat)} {x : Int32} (hg : PF y.cls index ci j .boolean) (hs : shp[o]? = some (.inl (ci, fs))) (hf : fs[j]? = some none) (hx : x = 0 ∨ x = 1) (hd : decode b pc = .ok (.putfield index, 3)) (k : AW l d y b nL ret (pc + 3) ls st (mI M o j x) Q) : AW l d y b nL ret pc ls (.int x :: .ref o :: st) M Q := by
  rcases hx with rfl | rfl
  · exact aw_putT hg hs hf rfl rfl hd k
  · exact aw_putT hg hs hf rfl rfl hd k
/-- the end -/
theorem aw_qc {ad : Nat → Nat} {ca : Nat → ClassId} {D : va_G} {A : Nat → Prop} {s t : State} {H : Heap} {locs : List Loc} {args : Array Value} {r : Option Value} (hP : va_P D vwCl (wld ad ca M) H) (hS : va_S A s.heap H locs) (ht : t.heap = H) (hq : Q r M) : QcA ad ca D A Q args s (.returned (r.map (cz ad))) t := ⟨⟨r, M, rfl, hq, by rw [ht]; exact hP⟩, hS.F ht⟩
theorem aw_iret {v : Int32} (hr : ret = some .int) (hd : decode b pc = .ok (.ireturn, 1)) (hq : Q (some (.int v)) M) : AW l d y b nL ret pc ls [.int v] M Q := by
  intro ad ca D A p e s m args below meth c H locs lsA hC hP hD hS hl
  exact W.iret (v := v) hC.1 hC.2.1 (hC.2.2.2.1.trans hr) (fun t ht _ => aw_qc (r := some (.int v)) hP hS ht hq) hS.2.2 hd (hlocks := hC.2.2.2.2.2.2.2.1)
theorem aw_zret {v : Int32} (hr : ret = some .boolean) (hv : v = 0 ∨ v = 1) (hd : decode b pc = .ok (.ireturn, 1)) (hq : Q (some (.int v)) M) : AW l d y b nL ret pc ls [.int v] M Q := by
  intro ad ca D A p e s m args below meth c H locs lsA hC hP hD hS hl
  exact W.zret (v := v) (ty := .boolean) hC.1 hC.2.1 (hC.2.2.2.1.trans hr) (by rcases hv with rfl | rfl <;> rfl) (fun t ht _ => aw_qc (r := some (.int v)) hP hS ht hq) hS.2.2 hd (hlocks := hC.2.2.2.2.2.2.2.1)
theorem aw_vret (hr : ret = none) (hd : decode b pc = .ok (.return_, 1)) (hq : Q none M) : AW l d y b nL ret pc ls [] M Q := by
  intro ad ca D A p e s m args below meth c H locs lsA hC hP hD hS hl
  exact W.vret hC.1 hC.2.1 (hC.2.2.2.1.trans hr) (fun t ht _ => aw_qc (r := none) hP hS ht hq) hS.2.2 hd (hlocks := hC.2.2.2.2.2.2.2.1)
theorem aw_lret {v : Int64} (hr : ret = some .long) (hd : decode b pc = .ok (.lreturn, 1)) (hq : Q (some (.long v)) M) : AW l d y b nL ret pc ls [.long v] M Q := by
  intro ad ca D A p e s m args below meth c H locs lsA hC hP hD hS hl
  exact W.lret (v := v) hC.1 hC.2.1 (hC.2.2.2.1.trans hr) (fun t ht _ => aw_qc (r := some (.long v)) hP hS ht hq) hS.2.2 hd (hlocks := hC.2.2.2.2.2.2.2.1)
theorem aw_aret {v : Nat} {rt : FieldType} (hr : ret = some rt) (hrt : (∃ n, rt = .object n) ∨ ∃ t, rt = .array t) (hd : decode b pc = .ok (.areturn, 1)) (hq : Q (some (.ref v)) M) : AW l d y b nL ret pc ls [.ref v] M Q := by
  intro ad ca D A p e s m args below meth c H locs lsA hC hP hD hS hl
  exact W.aret (v := .ref (ad v)) hC.1 hC.2.1 (hC.2.2.2.1.trans hr) hrt (Or.inr ⟨_, rfl⟩) (fun t ht _ => aw_qc (r := some (.ref v)) hP hS ht hq) hS.2.2 hd (hlocks := hC.2.2.2.2.2.2.2.1)
/-- the locals at a method's start -/
def aent (as : List Value) (nL : Nat) : List (Option Value) := aargs as ++ List.replicate (nL - (aargs as).length) none
theorem aent_at {as : List Value} {i : Nat} {v : Value} (h : (aent as nL)[i]? = some (some v)) : (aargs as)[i]? = some (some v) := by
  unfold aent at h
  rw [List.getElem?_append] at h
  split at h
  · exact h
  · rw [List.getElem?_replicate] at h
    split at h <;> simp at h
theorem aA_wld {ad : Nat → Nat} {ca : Nat → ClassId} {sz : Nat} (hD : va_D (fun _ => True) (wld ad ca M)) : va_D (aA ad sz) (wld ad ca M) := ⟨hD.1, fun k q hk => by
  obtain ⟨s, h1, h2⟩ := wld_out hk
  rw [h2]
  exact Or.inl ⟨k, s, h1, rfl⟩⟩
theorem AMet.of {as : List Value} (hp : plainName y.cls = true) (hn : (aargs as).length ≤ nL) (h : AW l d y b nL ret 0 (aent as nL) [] M Q) : AMet l d y b nL ret as M Q := by
  intro ad ca D sz
  refine Met.ofW (cc := b) (maxL := nL) (ret := ret) hp rfl ?_
  intro p e s m args below meth c s₁ B hml hv
  obtain ⟨rfl, hsz, hP, hK, hD0, hO⟩ := hv
  subst hsz
  have hw : ∀ w ∈ lw_tbl, goodWord w = true → w.before (as.map (cz ad)).toArray s = true := fun w h1 h2 => atoms_spec (ws := Cond.code y b nL ret :: lw_good) B.pre w (List.mem_cons_of_mem _ (lw_good_in h1 h2))
  have hl := lv_entry (as.map (cz ad)) (n := nL) (by rw [aargs_len]; exact hn)
  rw [lg_entry_eq]
  exact h ad ca D (aA ad s.heap.size) p e s m _ below meth c s.heap [] _ ⟨B.exec, B.bytes, hml, B.returns, findClass_of_methodNamed B.named, hw, hK, B.notSynchronized, fun q hq => Or.inr hq, hO⟩ hP (aA_wld hD0) va_S.rf
    (LH.of_has hl (fun i v hv => by have := aargs_at ad as 0 i v (aent_at hv); rw [Nat.zero_add] at this; exact this))
theorem aA_sub {A : Nat → Prop} {ad : Nat → Nat} {ca : Nat → ClassId} {H H0 : Heap} {locs : List Loc} (hD : va_D A (wld ad ca M)) (hS : va_S A H0 H locs) (hA : ∀ q, H0.size ≤ q → A q) : ∀ q, aA ad H.size q → A q := by
  rintro q (⟨k, s, h1, rfl⟩ | h)
  · exact hD.2 k _ (wld_get h1)
  · exact hA q (Nat.le_trans hS.1 h)
/-- the callee's start, from the caller's state -/
theorem aw_pre {ad : Nat → Nat} {ca : Nat → ClassId} {D : va_G} {A : Nat → Prop} {p : Program} {s U : State} {m : MethodId} {args : Array Value} {meth : Method} {c : Code} {H : Heap} {locs : List Loc} (hC : CX d y b nL ret ad ca D A p s m args meth c) (hP : va_P D vwCl (wld ad ca M) H) (hD : va_D A (wld ad ca M)) (hS : va_S A s.heap H locs) (hU : U.heap = H) (hW : s.WarmedH U.vm) :
    U.heap.size = H.size ∧ va_P D vwCl (wld ad ca M) U.heap ∧ va_K D vwCl (tysA ca) U ∧ va_D (fun _ => True) (wld ad ca M) ∧ Old ad (aA ad H.size) U U.heap :=
  ⟨by rw [hU], by rw [hU]; exact hP, va_K.moved hW.alike hC.2.2.2.2.2.2.1, hD.weaken (fun _ _ _ _ => trivial), by
    rw [hU]
    exact ((hC.2.2.2.2.2.2.2.2.2.kept hS.2.1).warm hW).narrow (aA_sub hD hS hC.2.2.2.2.2.2.2.2.1)⟩
theorem aw_blind {ad : Nat → Nat} {ca : Nat → ClassId} {D : va_G} {as : List Value} {sz : Nat} : FrameBlind (va_Pc (as.map (cz ad)) (fun U => U.heap.size = sz ∧ va_P D vwCl (wld ad ca M) U.heap ∧ va_K D vwCl (tysA ca) U ∧ va_D (fun _ => True) (wld ad ca M) ∧ Old ad (aA ad sz) U U.heap)) := by
  intro a U g mk h
  obtain ⟨h1, h2, h3, h4, h5, h6⟩ := h
  exact ⟨h1, h2, h3, va_K.moved (u := U) (U := U.calling g mk a) (Vm.Alike.refl U.vm) h4, h5, Old.same (u := U) (U := U.calling g mk a) rfl h6⟩
theorem aw_back {ad : Nat → Nat} {ca : Nat → ClassId} {D : va_G} {A : Nat → Prop} {p : Program} {e : Env} {R : Room} {s : State} {m : MethodId} {args a : Array Value} {below : List Frame} {meth : Method} {c : Code} {H : Heap} {locs : List Loc} {lsA : Array Slot} {st0 rest : List Value} {Q' : Option Value → Mm → Prop} {Qz : State → Prop} {cells slots : Nat}
    (hr : va_Run p l e R s m args below meth c H locs cells slots 0 0 (F0 m pc lsA st0) rest (QcA ad ca D (aA ad H.size) Q' a) (aA ad H.size)) (hS : va_S A s.heap H locs) (hF : ∀ q, aA ad H.size q → A q)
    (kk : ∀ (r : Option Value) (M' : Mm) (H1 : Heap) (locs1 : List Loc), Q' r M' → va_P D vwCl (wld ad ca M') H1 → va_S A s.heap H1 locs1 → W p l e R s m args below meth c H1 locs1 cells slots Qz (F0 m (pc + 3) lsA ((r.map (cz ad)).toList ++ rest))) : W p l e R s m args below meth c H locs cells slots Qz (F0 m pc lsA st0) := by
  intro T hT X
  obtain ⟨v, st₀, t, T', L, h0, X', hL, e1, e2, ⟨⟨r, M', hv, hq, hP1⟩, hz, hk⟩, st⟩ := hr T hT X
  cases hv
  rw [h0] at hz hk
  obtain ⟨t2, a1, b1⟩ := kk r M' T'.heap (locs ++ L) hq (by rw [e1]; exact hP1)
    ⟨Nat.le_trans hS.1 (by rw [e1]; exact hz), fun q h1 h2 => by rw [e1, hk q (Nat.lt_of_lt_of_le h1 hS.1) (fun z => h2 (hF q z))]; exact hS.2.1 q h1 h2, fun q hq => by
      rcases List.mem_append.mp hq with h | h
      · exact hS.2.2 q h
      · exact hF _ (hL q h)⟩ T' rfl X'
  exact ⟨t2, st t2 a1, b1⟩
theorem aw_map (ad : Nat → Nat) (r : Option Value) (st : List Value) : (r.map (cz ad)).toList ++ st.map (cz ad) = (r.toList ++ st).map (cz ad) := by cases r <;> rfl
theorem aw_cats (ad : Nat → Nat) (st : List Value) : ((st.map (cz ad)).map fun v => v.category) = st.map fun v => v.category := by
  rw [List.map_map]
  exact List.map_congr_left (fun v _ => cz_cat ad v)
/-- a call of an object's method -/
theorem aw_callV {d' o n ci index nL' N : Nat} {T : u_T} {fs : List (Option Nat)} {y' : MethodName} {b' : ByteArray} {ret' : Option FieldType} {as stk : List Value} {Q' : Option Value → Mm → Prop} (ck : CKV y.cls index y' b' nL' ret' n) (hM : AMet l d' y' b' nL' ret' (.ref o :: as) M Q') (hs : shp[o]? = some (.inl (ci, fs))) (hc : vwCl[ci]? = some (y'.cls, T, N)) (hdd : d' + 1 ≤ d ∧ nL' ≤ 45 ∧ as.length = n) (hstk : stk = as.reverse ++ .ref o :: st) (hcat : (st.map fun v => v.category).sum ≤ 8) (hd : decode b pc = .ok (.invokevirtual index, 3))
    (k : ∀ (r : Option Value) (M' : Mm), Q' r M' → AW l d y b nL ret (pc + 3) ls (r.toList ++ st) M' Q) : AW l d y b nL ret pc ls stk M Q := by
  intro ad ca D A p e s m args below meth c H locs lsA hC hP hD hS hl
  have hF := aA_sub hD hS hC.2.2.2.2.2.2.2.2.1
  have hrun := ck (As := as.map (cz ad)) (rest := st.map (cz ad)) (bb := ad o) (g := F0 m pc lsA (stk.map (cz ad))) hC.1 hC.2.1 hC.2.2.1 hC.2.2.2.2.1 hC.2.2.2.2.2.1 hC.2.2.2.2.2.2.2.2.2.1 (p := p) (e := e) (R := rmD d) (below := below) (meth := meth) (H := H) (locs := locs) (hM ad ca D H.size) rfl rfl ⟨hdd.1, by show 8 + (nL' + 11) + d' * 64 ≤ d * 64; omega⟩
    ⟨aw_blind (as := .ref o :: as), va_recv hC.2.2.2.2.2.2.1 hP hc (wld_get hs), fun U hU hW => ⟨rfl, aw_pre hC hP hD hS hU hW⟩⟩ rfl (by rw [List.length_map]; exact hdd.2.2) hl.1 (by rw [hstk]; simp [cz]) (lv_room (by rw [aw_cats]; exact hcat)) hd ⟨Nat.zero_le _, Nat.zero_le _⟩
  refine aw_back hrun hS hF (fun r M' H1 locs1 hq hP1 hS1 => ?_)
  rw [aw_map]
  exact k r M' hq ad ca D A p e s m args below meth c H1 locs1 lsA hC hP1 (wD hD) hS1 hl
/-- a call of a class's method -/
theorem aw_callS {d' n index nL' : Nat} {y' : MethodName} {b' : ByteArray} {ret' : Option FieldType} {as stk : List Value} {Q' : Option Value → Mm → Prop} (ck : CKS y.cls index y' b' nL' ret' n) (hM : AMet l d' y' b' nL' ret' as M Q') (hdd : d' + 1 ≤ d ∧ nL' ≤ 45 ∧ as.length = n) (hstk : stk = as.reverse ++ st) (hcat : (st.map fun v => v.category).sum ≤ 8) (hd : decode b pc = .ok (.invokestatic index, 3))
    (k : ∀ (r : Option Value) (M' : Mm), Q' r M' → AW l d y b nL ret (pc + 3) ls (r.toList ++ st) M' Q) : AW l d y b nL ret pc ls stk M Q := by
  intro ad ca D A p e s m args below meth c H locs lsA hC hP hD hS hl
  have hF := aA_sub hD hS hC.2.2.2.2.2.2.2.2.1
  have hrun := ck (As := as.map (cz ad)) (rest := st.map (cz ad)) (g := F0 m pc lsA (stk.map (cz ad))) hC.1 hC.2.1 hC.2.2.1 hC.2.2.2.2.1 hC.2.2.2.2.2.1 hC.2.2.2.2.2.2.2.2.2.1 (p := p) (e := e) (R := rmD d) (below := below) (meth := meth) (H := H) (locs := locs) (hM ad ca D H.size) rfl rfl ⟨hdd.1, by show 8 + (nL' + 11) + d' * 64 ≤ d * 64; omega⟩
    ⟨aw_blind (as := as), fun U hU hW => ⟨rfl, aw_pre hC hP hD hS hU hW⟩⟩ rfl (by rw [List.length_map]; exact hdd.2.2) hl.1 (by rw [hstk]; simp) (lv_room (by rw [aw_cats]; exact hcat)) hd ⟨Nat.zero_le _, Nat.zero_le _⟩
  refine aw_back hrun hS hF (fun r M' H1 locs1 hq hP1 hS1 => ?_)
  rw [aw_map]
  exact k r M' hq ad ca D A p e s m args below meth c H1 locs1 lsA hC hP1 (wD hD) hS1 hl
/-- an answer and a memory that are said -/
def QE (r0 : Option Value) (M0 : Mm) : Option Value → Mm → Prop := fun r M' => r = r0 ∧ M' = M0

theorem aw_mmax {index : Nat} {x z : Int32} (h1 : Cond.methodLink y.cls index Lib.Math.max.name ∈ lw_tbl) (h2 : Cond.static Lib.Math.max.name ∈ lw_tbl) (h3 : Cond.initialized "java/lang/Math" ∈ lw_tbl) (h4 : Cond.code Lib.Math.max.name Lib.Math.max.code 2 (some .int) ∈ lw_tbl) (hdd : 1 ≤ d) (hcat : (st.map fun v => v.category).sum ≤ 8) (hd : decode b pc = .ok (.invokestatic index, 3)) (k : AW l d y b nL ret (pc + 3) ls (.int (if x < z then z else x) :: st) M Q) : AW l d y b nL ret pc ls (.int z :: .int x :: st) M Q := by
  intro ad ca D A p e s m args below meth c H locs lsA hC hP hD hS hl
  exact va_mmax hC.1 hC.2.1 (hC.2.2.1.trans hl.1.symm) hC.2.2.2.2.1 (hC.2.2.2.2.2.1 _ h1 rfl) (hC.2.2.2.2.2.1 _ h2 rfl) (hC.2.2.2.2.2.1 _ h3 rfl) (hC.2.2.2.2.2.1 _ h4 rfl) hdd (by rw [aw_cats]; show _ + 13 ≤ d * 64; omega) (Nat.zero_le _) (Nat.zero_le _) hd (k ad ca D A p e s m args below meth c H locs lsA hC hP hD hS hl)
theorem aw_mmin {index : Nat} {x z : Int32} (h1 : Cond.methodLink y.cls index Lib.Math.min.name ∈ lw_tbl) (h2 : Cond.static Lib.Math.min.name ∈ lw_tbl) (h3 : Cond.initialized "java/lang/Math" ∈ lw_tbl) (h4 : Cond.code Lib.Math.min.name Lib.Math.min.code 2 (some .int) ∈ lw_tbl) (hdd : 1 ≤ d) (hcat : (st.map fun v => v.category).sum ≤ 8) (hd : decode b pc = .ok (.invokestatic index, 3)) (k : AW l d y b nL ret (pc + 3) ls (.int (if z < x then z else x) :: st) M Q) : AW l d y b nL ret pc ls (.int z :: .int x :: st) M Q := by
  intro ad ca D A p e s m args below meth c H locs lsA hC hP hD hS hl
  exact va_mmin hC.1 hC.2.1 (hC.2.2.1.trans hl.1.symm) hC.2.2.2.2.1 (hC.2.2.2.2.2.1 _ h1 rfl) (hC.2.2.2.2.2.1 _ h2 rfl) (hC.2.2.2.2.2.1 _ h3 rfl) (hC.2.2.2.2.2.1 _ h4 rfl) hdd (by rw [aw_cats]; show _ + 13 ≤ d * 64; omega) (Nat.zero_le _) (Nat.zero_le _) hd (k ad ca D A p e s m args below meth c H locs lsA hC hP hD hS hl)
theorem aw_mabs {index : Nat} {x : Int32} (h1 : Cond.methodLink y.cls index Lib.Math.abs.name ∈ lw_tbl) (h2 : Cond.static Lib.Math.abs.name ∈ lw_tbl) (h3 : Cond.initialized "java/lang/Math" ∈ lw_tbl) (h4 : Cond.code Lib.Math.abs.name Lib.Math.abs.code 1 (some .int) ∈ lw_tbl) (hdd : 1 ≤ d) (hcat : (st.map fun v => v.category).sum ≤ 8) (hd : decode b pc = .ok (.invokestatic index, 3)) (k : AW l d y b nL ret (pc + 3) ls (.int (if 0 ≤ x then x else 0 - x) :: st) M Q) : AW l d y b nL ret pc ls (.int x :: st) M Q := by
  intro ad ca D A p e s m args below meth c H locs lsA hC hP hD hS hl
  exact va_mabs hC.1 hC.2.1 (hC.2.2.1.trans hl.1.symm) hC.2.2.2.2.1 (hC.2.2.2.2.2.1 _ h1 rfl) (hC.2.2.2.2.2.1 _ h2 rfl) (hC.2.2.2.2.2.1 _ h3 rfl) (hC.2.2.2.2.2.1 _ h4 rfl) hdd (by rw [aw_cats]; show _ + 13 ≤ d * 64; omega) (Nat.zero_le _) (Nat.zero_le _) hd (k ad ca D A p e s m args below meth c H locs lsA hC hP hD hS hl)
/-- System.arraycopy of ints, of longs -/
theorem aw_copyI {index a0 n0 q0 a1 n1 q1 : Nat} {sp dp n : Int32} (h1 : Cond.methodLink y.cls index arraycopyName ∈ lw_tbl) (h2 : Cond.native arraycopyName ∈ lw_tbl) (h3 : Cond.static arraycopyName ∈ lw_tbl) (h4 : Cond.initialized "java/lang/System" ∈ lw_tbl) (hs0 : shp[a0]? = some (.inr (0, n0, q0))) (hs1 : shp[a1]? = some (.inr (0, n1, q1))) (hsp : ¬ sp < 0) (hdp : ¬ dp < 0) (hn : ¬ n < 0) (hb0 : sp.toNatClampNeg + n.toNatClampNeg ≤ n0) (hb1 : dp.toNatClampNeg + n.toNatClampNeg ≤ n1) (hdd : 1 ≤ d) (hcat : (st.map fun v => v.category).sum ≤ 8) (hd : decode b pc = .ok (.invokestatic index, 3))
    (k : AW l d y b nL ret (pc + 3) ls st (rI M a1 (va_cpy (M.1 a0) (M.1 a1) sp.toNatClampNeg dp.toNatClampNeg n.toNatClampNeg)) Q) : AW l d y b nL ret pc ls (.int n :: .int dp :: .ref a1 :: .int sp :: .ref a0 :: st) M Q := by
  intro ad ca D A p e s m args below meth c H locs lsA hC hP hD hS hl
  have h40 : nativeFrameWords "java/lang/System" "arraycopy" 5 + 11 ≤ 40 := by decide +kernel
  have hloc : ((st.map (cz ad)).map fun v => v.category).sum + (nativeFrameWords "java/lang/System" "arraycopy" 5 + 11) ≤ (rmD d).locals := by rw [aw_cats]; show (st.map fun v => v.category).sum + _ ≤ d * 64; omega
  refine va_copyi hC.1 hC.2.1 (hC.2.2.1.trans hl.1.symm) hC.2.2.2.2.1 (hC.2.2.2.2.2.1 _ h1 rfl) (hC.2.2.2.2.2.1 _ h2 rfl) (hC.2.2.2.2.2.1 _ h3 rfl) (hC.2.2.2.2.2.1 _ h4 rfl) hC.2.2.2.2.2.2.1 hP hD hS a0 a1 0 0 (wld_get hs0) (wld_get hs1) (tysA_get ca (by decide)) (tysA_get ca (by decide)) rfl hsp hdp hn hb0 hb1 (fun _ _ => rfl) hdd hloc hd (fun H1 locs1 hP1 hD1 hS1 => ?_)
  have hw := wld_set (ad := ad) (ca := ca) (M := M) (M' := rI M a1 (va_cpy (M.1 a0) (M.1 a1) sp.toNatClampNeg dp.toNatClampNeg n.toNatClampNeg)) hs1 (e := .inl (ca 0, n1, .inl (va_cpy (M.1 a0) (M.1 a1) sp.toNatClampNeg dp.toNatClampNeg n.toNatClampNeg))) (by simp [ce, ca_arr, rI]) (fun j hj => ⟨if_neg hj, rfl⟩)
  rw [hw] at hP1 hD1
  exact k ad ca D A p e s m args below meth c H1 locs1 lsA hC hP1 hD1 hS1 hl
theorem aw_copyL {index a0 n0 q0 a1 n1 q1 : Nat} {sp dp n : Int32} (h1 : Cond.methodLink y.cls index arraycopyName ∈ lw_tbl) (h2 : Cond.native arraycopyName ∈ lw_tbl) (h3 : Cond.static arraycopyName ∈ lw_tbl) (h4 : Cond.initialized "java/lang/System" ∈ lw_tbl) (hs0 : shp[a0]? = some (.inr (2, n0, q0))) (hs1 : shp[a1]? = some (.inr (2, n1, q1))) (hsp : ¬ sp < 0) (hdp : ¬ dp < 0) (hn : ¬ n < 0) (hb0 : sp.toNatClampNeg + n.toNatClampNeg ≤ n0) (hb1 : dp.toNatClampNeg + n.toNatClampNeg ≤ n1) (hdd : 1 ≤ d) (hcat : (st.map fun v => v.category).sum ≤ 8) (hd : decode b pc = .ok (.invokestatic index, 3))
    (k : AW l d y b nL ret (pc + 3) ls st (rL M a1 (va_cpy (M.2 a0) (M.2 a1) sp.toNatClampNeg dp.toNatClampNeg n.toNatClampNeg)) Q) : AW l d y b nL ret pc ls (.int n :: .int dp :: .ref a1 :: .int sp :: .ref a0 :: st) M Q := by
  intro ad ca D A p e s m args below meth c H locs lsA hC hP hD hS hl
  have h40 : nativeFrameWords "java/lang/System" "arraycopy" 5 + 11 ≤ 40 := by decide +kernel
  have hloc : ((st.map (cz ad)).map fun v => v.category).sum + (nativeFrameWords "java/lang/System" "arraycopy" 5 + 11) ≤ (rmD d).locals := by rw [aw_cats]; show (st.map fun v => v.category).sum + _ ≤ d * 64; omega
  refine va_copyl hC.1 hC.2.1 (hC.2.2.1.trans hl.1.symm) hC.2.2.2.2.1 (hC.2.2.2.2.2.1 _ h1 rfl) (hC.2.2.2.2.2.1 _ h2 rfl) (hC.2.2.2.2.2.1 _ h3 rfl) (hC.2.2.2.2.2.1 _ h4 rfl) hC.2.2.2.2.2.2.1 hP hD hS a0 a1 2 2 (wld_get hs0) (wld_get hs1) (tysA_get ca (by decide)) (tysA_get ca (by decide)) rfl hsp hdp hn hb0 hb1 (fun _ _ => rfl) hdd hloc hd (fun H1 locs1 hP1 hD1 hS1 => ?_)
  have hw := wld_set (ad := ad) (ca := ca) (M := M) (M' := rL M a1 (va_cpy (M.2 a0) (M.2 a1) sp.toNatClampNeg dp.toNatClampNeg n.toNatClampNeg)) hs1 (e := .inl (ca 2, n1, .inr (.inl (va_cpy (M.2 a0) (M.2 a1) sp.toNatClampNeg dp.toNatClampNeg n.toNatClampNeg)))) (by simp [ce, ca_arr, rL]) (fun j hj => ⟨rfl, if_neg hj⟩)
  rw [hw] at hP1 hD1
  exact k ad ca D A p e s m args below meth c H1 locs1 lsA hC hP1 hD1 hS1 hl
end AWF

