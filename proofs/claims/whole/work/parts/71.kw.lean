/-! constructors: a walk over a world that grows, the new object at its head -/
def AO (U : State) : Prop := (Cond.arrayOver (.array .int)).before #[] U = true ∧ (Cond.arrayOver (.array .long)).before #[] U = true
theorem AO.moved {s U : State} (hal : s.vm.Alike U.vm) (h : AO s) : AO U :=
  ⟨(show (Cond.arrayOver (.array .int)).before #[] U = (Cond.arrayOver (.array .int)).before #[] s from Cond.arrayOver_setVmC (args := #[]) hal (.array .int)).trans h.1, (show (Cond.arrayOver (.array .long)).before #[] U = (Cond.arrayOver (.array .long)).before #[] s from Cond.arrayOver_setVmC (args := #[]) hal (.array .long)).trans h.2⟩
def iA (h0 sz : Nat) : Nat → Prop := fun q => q = h0 ∨ sz ≤ q
def KPre (ad0 : Nat → Nat) (ca : Nat → ClassId) (D : va_G) (h0 sz ci : Nat) (fs0 : List Value) (U : State) : Prop := U.heap.size = sz ∧ va_P D vwCl [(h0, .inr (ci, fs0))] U.heap ∧ va_K D vwCl (tysA ca) U ∧ Old ad0 (iA h0 sz) U U.heap ∧ AO U
def KPost (Pw : va_W → Prop) (D : va_G) (A : Nat → Prop) : Array Value → State → Outcome → State → Prop := va_Qv (fun _ : Unit => True) (fun _ t => ∃ w : va_W, Pw w ∧ va_P D vwCl w t.heap ∧ va_D A w) A
def rmK (fr mc ms : Nat) : Room := { frames := fr, cells := mc, slots := ms, locals := fr * 64 }
/-- a constructor's contract: what stands in its place afterwards -/
def KMet (l : Launch) (y : MethodName) (b : ByteArray) (fr mc ms ci : Nat) (fs0 : List Value) (Pw : (Nat → ClassId) → Nat → va_W → Prop) : Prop := ∀ (ad0 : Nat → Nat) (ca : Nat → ClassId) (D : va_G) (h0 sz : Nat), Met l y (Cond.code y b 1 none :: lw_good) (rmK fr mc ms) (va_Pc [.ref h0] (KPre ad0 ca D h0 sz ci fs0)) (KPost (Pw ca h0) D (iA h0 sz)) mc ms (iA h0 sz)
def KW (l : Launch) (fr mc ms : Nat) (y : MethodName) (b : ByteArray) (ad0 : Nat → Nat) (ca : Nat → ClassId) (h0 : Nat) (Pw : va_W → Prop) (pc : Nat) (st : List Value) (ws : va_W) (cells slots : Nat) : Prop :=
  ∀ (D : va_G) (A : Nat → Prop) (p : Program) (e : Env) (s : State) (m : MethodId) (args : Array Value) (below : List Frame) (meth : Method) (c : Code) (H : Heap) (locs : List Loc) (lsA : Array Slot),
    CX 0 y b 1 none ad0 ca D A p s m args meth c → meth.name = "<init>" → AO s → va_P D vwCl ws H → va_D A ws → va_S A s.heap H locs → lv_has lsA 1 [(0, .ref h0)] →
    W p l e (rmK fr mc ms) s m args below meth c H locs cells slots (MQ below (KPost Pw D A) args s mc ms A) (F0 m pc lsA st)
theorem one_D {h0 sz : Nat} {e : va_E} : va_D (iA h0 sz) [(h0, e)] := by
  refine ⟨fun i j p q hi hj _ => ?_, fun k q hk => ?_⟩
  · have h1 := (List.getElem?_eq_some_iff.mp hi).1
    have h2 := (List.getElem?_eq_some_iff.mp hj).1
    simp only [List.length_cons, List.length_nil] at h1 h2
    omega
  · have h1 := (List.getElem?_eq_some_iff.mp hk).1
    simp only [List.length_cons, List.length_nil] at h1
    have h2 : k = 0 := by omega
    subst h2
    have h3 : (h0, e) = q := Option.some.inj hk
    exact Or.inl (by rw [← h3])
theorem KMet.of {l : Launch} {y : MethodName} {b : ByteArray} {fr mc ms ci : Nat} {fs0 : List Value} {Pw : (Nat → ClassId) → Nat → va_W → Prop} (hp : plainName y.cls = true) (hi : y.name = "<init>") (h : ∀ ad0 ca h0, KW l fr mc ms y b ad0 ca h0 (Pw ca h0) 0 [] [(h0, .inr (ci, fs0))] 0 0) : KMet l y b fr mc ms ci fs0 Pw := by
  intro ad0 ca D h0 sz
  refine Met.ofW (cc := b) (maxL := 1) (ret := none) hp rfl ?_
  intro p e s m args below meth c s₁ B hml hv
  obtain ⟨rfl, hsz, hP, hK, hO, hAO⟩ := hv
  subst hsz
  have hw : ∀ w ∈ lw_tbl, goodWord w = true → w.before ([Value.ref h0] : List Value).toArray s = true := fun w h1 h2 => atoms_spec (ws := Cond.code y b 1 none :: lw_good) B.pre w (List.mem_cons_of_mem _ (lw_good_in h1 h2))
  have hl := lv_entry ([.ref h0]) (n := 1) (Nat.le_of_ble_eq_true rfl)
  rw [lg_entry_eq]
  exact h ad0 ca h0 D (iA h0 s.heap.size) p e s m _ below meth c s.heap [] _ ⟨B.exec, B.bytes, hml, B.returns, findClass_of_methodNamed B.named, hw, hK, B.notSynchronized, fun q hq => Or.inr hq, hO⟩ ((name_of_methodNamed B.named B.method).1.trans hi) hAO hP one_D va_S.rf hl
/-- putfield in a constructor -/
def PK (own : String) (index ci j : Nat) (ty : FieldType) : Prop := ∀ {p : Program} {l : Launch} {e : Env} {R : Room} {s : State} {m : MethodId} {args : Array Value} {below : List Frame} {meth : Method} {c : Code} {H H0 : Heap} {locs : List Loc} {cells slots : Nat} {Q : State → Prop} {cc : ByteArray} {pc : Nat} {ls : Array Slot} {rest : List Value} {D : va_G} {tys : List (ClassId × FieldType)} {ws : va_W} {a q0 : Nat} {fs : List Value} {v : Value} {A : Nat → Prop},
  p.tables.exec = Jvm.exec → c.code = cc → (∀ w ∈ lw_tbl, goodWord w = true → w.before args s = true) → meth.name = "<init>" → s.vm.findClass own = some m.cls → va_K D vwCl tys s → va_P D vwCl ws H → va_D A ws → va_S A H0 H locs → ws[q0]? = some (a, .inr (ci, fs)) → narrow ty v = v → fits ty v = true → j < fs.length → decode cc pc = .ok (.putfield index, 3) →
  (∀ (H1 : Heap) (locs1 : List Loc), va_P D vwCl (ws.set q0 (a, .inr (ci, fs.set j v))) H1 → va_D A (ws.set q0 (a, .inr (ci, fs.set j v))) → va_S A H0 H1 locs1 → W p l e R s m args below meth c H1 locs1 cells slots Q (F0 m (pc + 3) ls rest)) → W p l e R s m args below meth c H locs cells slots Q (F0 m pc ls (v :: .ref a :: rest))
theorem pk_of {own C : String} {T : u_T} {N ci index j : Nat} {ty : FieldType} (hc : vwCl[ci]? = some (C, T, N)) (hin : ∀ w ∈ u_ws C T N, w ∈ lw_good) (hj : j < N) (ty0 : Nat → FieldType) (hty : ∀ k, k < N → parseFieldDescriptor (T k).2.2.1 = some (ty0 k)) (hnm : ∀ a, a < N → ∀ b, b < N → a ≠ b → (T a).2.1 ≠ (T b).2.1) {nm ds ow : String} (hT : (T j).1 = ow ∧ (T j).2.1 = nm ∧ (T j).2.2.1 = ds) (hd : ty0 j = ty) (hlk : Cond.fieldLink own index ow nm ds ∈ lw_tbl) (ho : ow = own) : PK own index ci j ty := by
  obtain ⟨rfl, rfl, rfl⟩ := hT
  subst hd
  intro p l e R s m args below meth c H H0 locs cells slots Q cc pc ls rest D tys ws a q0 fs v A hx hb hw hn hown hK hP hD hS he hnar hfit hlen hdg k
  by_cases hfin : (T j).2.2.2 = false
  · exact va_put hx hb (lw_hts hw) hin ty0 hty hnm hown hK hP hD hS q0 he hc j hj (hw _ hlk rfl) (fun _ h => h) hfin (hty j hj) hnar hfit hlen hdg k
  · exact va_putF hx hb (lw_hts hw) hin ty0 hty hnm hown hK hP hD hS q0 he hc j hj (hw _ hlk rfl) (fun _ h => h) (by simpa using hfin) hn ho (hty j hj) hnar hfit hlen hdg k
/-- a constructor's call -/
def CKI (own : String) (index : Nat) (y : MethodName) (b : ByteArray) : Prop := ∀ {p : Program} {l : Launch} {e : Env} {R : Room} {s : State} {m : MethodId} {args : Array Value} {below : List Frame} {meth : Method} {c : Code} {H : Heap} {locs : List Loc} {cc : ByteArray} {nLc : Nat} {rm : Room} {Pc : Array Value → State → Prop} {Qc : Array Value → State → Outcome → State → Prop} {free : Addr → Prop} {g : JFrame} {rest : List Value} {bb mc ms cells slots : Nat},
  p.tables.exec = Jvm.exec → c.code = cc → c.maxLocals = nLc → s.vm.findClass own = some m.cls → (∀ w ∈ lw_tbl, goodWord w = true → w.before args s = true) → (∀ w ∈ lw_tbl, isNest w = true → va_Nw w s) → Met l y (Cond.code y b 1 none :: lw_good) rm Pc Qc mc ms free → rm.cells = mc → rm.slots = ms → (rm.frames + 1 ≤ R.frames ∧ 8 + (1 + 11) + rm.locals ≤ R.locals) → PreS s H Pc [.ref bb] → g.method = m → g.locals.size = nLc → g.stack = .ref bb :: rest → 2 * g.monitorRoom + (rest.map fun v => v.category).sum ≤ 8 → decode cc g.pc = .ok (.invokespecial index, 3) → (cells + mc ≤ R.cells ∧ slots + ms ≤ R.slots) →
  va_Run p l e R s m args below meth c H locs cells slots mc ms g rest (Qc ([Value.ref bb] : List Value).toArray) free
theorem ckI_of {own : String} {index : Nat} {y : MethodName} {b : ByteArray} (h1 : Cond.methodLink own index y ∈ lw_tbl) (h2 : Cond.instanceMethod y ∈ lw_tbl) (h4 : Cond.initialized y.cls ∈ lw_tbl) (h5 : Cond.code y b 1 none ∈ lw_tbl) (hd : okMH y 0) (hi : y.name = "<init>") : CKI own index y b := by
  intro p l e R s m args below meth c H locs cc nLc rm Pc Qc free g rest bb mc ms cells slots hx hb hml hown hw hn hM hrc hrs hR hp hg hsz hst hW hdg hcs
  exact va_runI (Ts := lw_good) (As := []) ⟨hx, hb, hml, hown, lw_hts hw⟩ hM ⟨callB_of 0 (lw_hts hw) (lw_goodInC h5) rfl hrc hrs (hw _ h4 rfl) (hw _ h1 rfl) hd hR, hi, hw _ h2 rfl⟩ hp hg rfl hsz hst hW hdg hcs
theorem ckIN_of {own host : String} {index : Nat} {y : MethodName} {b : ByteArray} (h1 : Cond.methodLinkNest own index y host ∈ lw_tbl) (h2 : Cond.instanceMethod y ∈ lw_tbl) (h4 : Cond.initialized y.cls ∈ lw_tbl) (h5 : Cond.code y b 1 none ∈ lw_tbl) (hd : okMH y 0) (hi : y.name = "<init>") : CKI own index y b := by
  intro p l e R s m args below meth c H locs cc nLc rm Pc Qc free g rest bb mc ms cells slots hx hb hml hown hw hn hM hrc hrs hR hp hg hsz hst hW hdg hcs
  exact va_runIN (Ts := lw_good) (As := []) ⟨hx, hb, hml, hown, lw_hts hw⟩ hM ⟨va_cnB 0 (lw_hts hw) (lw_goodInC h5) rfl hrc hrs (hn _ h1 rfl) (hw _ h4 rfl) hd hR, hi, hw _ h2 rfl⟩ hp hg rfl hsz hst hW hdg hcs
theorem k_blind {ad0 : Nat → Nat} {ca : Nat → ClassId} {D : va_G} {h0 sz ci : Nat} {fs0 : List Value} : FrameBlind (va_Pc [.ref h0] (KPre ad0 ca D h0 sz ci fs0)) := by
  intro a U g mk h
  obtain ⟨h1, h2, h3, h4, h5, h6⟩ := h
  exact ⟨h1, h2, h3, va_K.moved (u := U) (U := U.calling g mk a) (Vm.Alike.refl U.vm) h4, Old.same (u := U) (U := U.calling g mk a) rfl h5, AO.moved (s := U) (U := U.calling g mk a) (Vm.Alike.refl U.vm) h6⟩
theorem k_join {A0 : Nat → Prop} {D : va_G} {ws w : va_W} {x : Nat × va_E} {H H1 : Heap} (hP : va_P D vwCl (ws ++ [x]) H) (hD : va_D A0 (ws ++ [x])) (hk : ∀ q : Nat, q < H.size → ¬ iA x.1 H.size q → H1[q]? = H[q]?) (hF : ∀ q, iA x.1 H.size q → A0 q) (hP1 : va_P D vwCl w H1) (hD1 : va_D (iA x.1 H.size) w) : va_P D vwCl (ws ++ w) H1 ∧ va_D A0 (ws ++ w) := by
  have left : ∀ {k : Nat} {q : Nat × va_E}, ws[k]? = some q → (ws ++ [x])[k]? = some q := fun {k q} h => by
    rw [List.getElem?_append_left (List.getElem?_eq_some_iff.mp h).1]; exact h
  have last : (ws ++ [x])[ws.length]? = some x := by simp
  have apart : ∀ (k : Nat) (q : Nat × va_E), ws[k]? = some q → q.1 < H.size ∧ ¬ iA x.1 H.size q.1 := by
    intro k q hq
    have hl := (hP k q (left hq)).lt
    refine ⟨hl, fun h => ?_⟩
    rcases h with h | h
    · have := hD.1 k ws.length q x (left hq) last h
      have h2 := (List.getElem?_eq_some_iff.mp hq).1
      omega
    · omega
  refine ⟨va_P.app (fun k q hq => ?_) hP1, va_D.app ⟨fun i j p q hi hj e => hD.1 i j p q (left hi) (left hj) e, fun k q h => hD.2 k q (left h)⟩ (hD1.weaken (fun k q _ h => hF q.1 h)) (fun i j x9 y9 hx hy hxy => ?_)⟩
  · obtain ⟨g1, g2⟩ := apart k q hq
    exact (hP k q (left hq)).kept (hk q.1 g1 g2)
  · exact (apart i x9 hx).2 (by rw [hxy]; exact hD1.2 j y9 hy)
section KWR
variable {l : Launch} {fr mc ms : Nat} {y : MethodName} {b : ByteArray} {ad0 : Nat → Nat} {ca : Nat → ClassId} {h0 : Nat} {Pw : va_W → Prop} {pc : Nat} {st : List Value} {ws X : va_W} {cells slots : Nat}
theorem kw_aload (hd : decode b pc = .ok (.aload_n 0, 1)) (k : KW l fr mc ms y b ad0 ca h0 Pw (pc + 1) (.ref h0 :: st) ws cells slots) : KW l fr mc ms y b ad0 ca h0 Pw pc st ws cells slots := by
  intro D A p e s m args below meth c H locs lsA hC hN hO hP hD hS hl
  exact lv_aload_n hC.1 hC.2.1 hd rfl (lv_at hl 0 rfl) (k D A p e s m args below meth c H locs lsA hC hN hO hP hD hS hl)
theorem kw_iconst {n : Int} {v : Int32} (hd : decode b pc = .ok (.iconst n, 1)) (hv : Int32.ofInt n = v) (k : KW l fr mc ms y b ad0 ca h0 Pw (pc + 1) (.int v :: st) ws cells slots) : KW l fr mc ms y b ad0 ca h0 Pw pc st ws cells slots := by
  intro D A p e s m args below meth c H locs lsA hC hN hO hP hD hS hl
  exact lv_iconst hC.1 hC.2.1 hd hv (k D A p e s m args below meth c H locs lsA hC hN hO hP hD hS hl)
theorem kw_bipush {n : Int} {v : Int32} (hd : decode b pc = .ok (.bipush n, 2)) (hv : (Int8.ofInt n).toInt32 = v) (k : KW l fr mc ms y b ad0 ca h0 Pw (pc + 2) (.int v :: st) ws cells slots) : KW l fr mc ms y b ad0 ca h0 Pw pc st ws cells slots := by
  intro D A p e s m args below meth c H locs lsA hC hN hO hP hD hS hl
  exact lv_bipush hC.1 hC.2.1 hd hv (k D A p e s m args below meth c H locs lsA hC hN hO hP hD hS hl)
theorem kw_sipush {n : Int} {v : Int32} (hd : decode b pc = .ok (.sipush n, 3)) (hv : (Int16.ofInt n).toInt32 = v) (k : KW l fr mc ms y b ad0 ca h0 Pw (pc + 3) (.int v :: st) ws cells slots) : KW l fr mc ms y b ad0 ca h0 Pw pc st ws cells slots := by
  intro D A p e s m args below meth c H locs lsA hC hN hO hP hD hS hl
  exact lv_sipush hC.1 hC.2.1 hd hv (k D A p e s m args below meth c H locs lsA hC hN hO hP hD hS hl)
theorem kw_dup {q : Nat} (hd : decode b pc = .ok (.dup, 1)) (k : KW l fr mc ms y b ad0 ca h0 Pw (pc + 1) (.ref q :: .ref q :: st) ws cells slots) : KW l fr mc ms y b ad0 ca h0 Pw pc (.ref q :: st) ws cells slots := by
  intro D A p e s m args below meth c H locs lsA hC hN hO hP hD hS hl
  exact lv_dup hC.1 hC.2.1 hd rfl (k D A p e s m args below meth c H locs lsA hC hN hO hP hD hS hl)
theorem kw_obj {index : Nat} (h1 : Cond.methodLink y.cls index objectInit ∈ lw_tbl) (h2 : Cond.instanceMethod objectInit ∈ lw_tbl) (h3 : Cond.code objectInit ⟨#[0xb1]⟩ 1 none ∈ lw_tbl) (hf : 1 ≤ fr) (hd : decode b pc = .ok (.invokespecial index, 3)) (k : KW l fr mc ms y b ad0 ca h0 Pw (pc + 3) [] ws cells slots) : KW l fr mc ms y b ad0 ca h0 Pw pc [.ref h0] ws cells slots := by
  intro D A p e s m args below meth c H locs lsA hC hN hO hP hD hS hl
  have h8 : 2 * (F0 m pc lsA [.ref h0]).monitorRoom + (([] : List Value).map fun v => v.category).sum ≤ 8 := lv_room (Nat.le_of_ble_eq_true rfl)
  refine W.objInit hC.1 hC.2.1 hC.2.2.2.2.1 (hC.2.2.2.2.2.1 _ h1 rfl) (hC.2.2.2.2.2.1 _ h2 rfl) (hC.2.2.2.2.2.1 _ h3 rfl) rfl (by rw [hC.2.2.1]; exact hl.1) rfl hd hf (by show _ ≤ fr * 64; omega) ?_
  exact W.eq (g2 := F0 m (pc + 3) lsA []) rfl (k D A p e s m args below meth c H locs lsA hC hN hO hP hD hS hl)
theorem kw_newa {atype : ArrayType} {t N : Nat} {a0 : vp_A} {n : Int32} (hc : Cond.arrayClass (tyA t) ∈ lw_tbl) (hty : newarray.typeOf atype = tyA t) (ht : t < 3) (ha : ∀ cA : ClassId, vp_cell cA a0 = arrV cA N (fun _ => defaultValue (tyA t))) (hn : ¬ n < 0) (hN : n.toNatClampNeg = N) (hbytes : N * componentBytes (tyA t) ≤ 536870912) (hcl : cells + 1 ≤ mc) (hsl : slots + N ≤ ms) (hd : decode b pc = .ok (.newarray atype, 2)) (k : ∀ q, KW l fr mc ms y b ad0 ca h0 Pw (pc + 2) (.ref q :: st) (ws ++ [(q, .inl (ca t, a0))]) (cells + 1) (slots + N)) : KW l fr mc ms y b ad0 ca h0 Pw pc (.int n :: st) ws cells slots := by
  intro D A p e s m args below meth c H locs lsA hC hN9 hO hP hD hS hl
  have hK := hC.2.2.2.2.2.2.1
  refine va_newa hC.1 hC.2.1 (by rw [hty]; exact hC.2.2.2.2.2.1 _ hc rfl) hty hK hP hD hS hC.2.2.2.2.2.2.2.2.1 ha hn hN hbytes hcl hsl hd (fun q cA H1 hK1 hP1 hD1 hS1 => ?_)
  have r1 := (hK1.2 5 (cA, tyA t) rfl).2
  have r2 := (hK.2 t (ca t, tyA t) (tysA_get ca (by omega))).2
  have e9 : cA = ca t := by
    match t, ht with
    | 0, _ => exact Option.some.inj ((show s.vm.findClass ("[" ++ FieldType.toString .int) = some cA from r1).symm.trans r2)
    | 1, _ => exact Option.some.inj ((show s.vm.findClass ("[" ++ FieldType.toString .boolean) = some cA from r1).symm.trans r2)
    | 2, _ => exact Option.some.inj ((show s.vm.findClass ("[" ++ FieldType.toString .long) = some cA from r1).symm.trans r2)
  subst e9
  exact k q D A p e s m args below meth c H1 locs lsA hC hN9 hO hP1 hD1 hS1 hl
theorem kw_put {index ci j : Nat} {ty : FieldType} {fs : List Value} {v : Value} (hg : PK y.cls index ci j ty) (hnar : narrow ty v = v) (hfit : fits ty v = true) (hlen : j < fs.length) (hd : decode b pc = .ok (.putfield index, 3)) (k : KW l fr mc ms y b ad0 ca h0 Pw (pc + 3) st ((h0, .inr (ci, fs.set j v)) :: X) cells slots) : KW l fr mc ms y b ad0 ca h0 Pw pc (v :: .ref h0 :: st) ((h0, .inr (ci, fs)) :: X) cells slots := by
  intro D A p e s m args below meth c H locs lsA hC hN hO hP hD hS hl
  exact hg hC.1 hC.2.1 hC.2.2.2.2.2.1 hN hC.2.2.2.2.1 hC.2.2.2.2.2.2.1 hP hD hS (q0 := 0) rfl hnar hfit hlen hd (fun H1 locs1 hP1 hD1 hS1 => k D A p e s m args below meth c H1 locs1 lsA hC hN hO hP1 hD1 hS1 hl)
theorem kw_get {index ci j : Nat} {fs : List Value} {v : Value} (hg : GF y.cls index ci j) (hv : fs[j]? = some v) (hd : decode b pc = .ok (.getfield index, 3)) (k : KW l fr mc ms y b ad0 ca h0 Pw (pc + 3) (v :: st) ((h0, .inr (ci, fs)) :: X) cells slots) : KW l fr mc ms y b ad0 ca h0 Pw pc (.ref h0 :: st) ((h0, .inr (ci, fs)) :: X) cells slots := by
  intro D A p e s m args below meth c H locs lsA hC hN hO hP hD hS hl
  exact hg hC.1 hC.2.1 hC.2.2.2.2.2.1 hC.2.2.2.2.2.2.2.2.2.1 hC.2.2.2.2.1 hC.2.2.2.2.2.2.1 hP (q0 := 0) rfl hv hd (k D A p e s m args below meth c H locs lsA hC hN hO hP hD hS hl)
theorem kw_iast {q n : Nat} {f : Nat → Int32} {i x : Int32} (hin : vp_in i n) (hd : decode b pc = .ok (.iastore, 1)) (k : KW l fr mc ms y b ad0 ca h0 Pw (pc + 1) st (ws ++ [(q, .inl (ca 0, n, .inl (upd f i.toNatClampNeg x)))]) cells slots) : KW l fr mc ms y b ad0 ca h0 Pw pc (.int x :: .int i :: .ref q :: st) (ws ++ [(q, .inl (ca 0, n, .inl f))]) cells slots := by
  intro D A p e s m args below meth c H locs lsA hC hN hO hP hD hS hl
  have hg : (ws ++ [(q, (.inl (ca 0, n, .inl f) : va_E))])[ws.length]? = some (q, .inl (ca 0, n, .inl f)) := by simp
  refine va_iast hC.1 hC.2.1 hC.2.2.2.2.2.2.1 hP hD hS ws.length 0 hg rfl hin hd (fun H1 locs1 hP1 hD1 hS1 => ?_)
  have e9 : (ws ++ [(q, (.inl (ca 0, n, .inl f) : va_E))]).set ws.length (q, .inl (ca 0, n, .inl (upd f i.toNatClampNeg x))) = ws ++ [(q, .inl (ca 0, n, .inl (upd f i.toNatClampNeg x)))] := by simp
  rw [e9] at hP1 hD1
  exact k D A p e s m args below meth c H1 locs1 lsA hC hN hO hP1 hD1 hS1 hl
theorem kw_new {index ci N : Nat} {C : String} {T : u_T} {fs : List Value} (ty : Nat → FieldType) (hty : ∀ k, k < N → parseFieldDescriptor (T k).2.2.1 = some (ty k)) (hin : ∀ w ∈ u_ws C T N, w ∈ lw_good) (hcl : Cond.classLink y.cls index C ∈ lw_tbl) (hinst : Cond.instantiable C N ∈ lw_tbl) (hini : Cond.initialized C ∈ lw_tbl) (hc : vwCl[ci]? = some (C, T, N)) (hfs : ∀ j, j < N → defaultValue (ty j) = vp_V fs j) (hcells : cells + 1 ≤ mc) (hslots : slots + N ≤ ms) (hd : decode b pc = .ok (.new index, 3)) (k : ∀ q, KW l fr mc ms y b ad0 ca h0 Pw (pc + 3) (.ref q :: st) (ws ++ [(q, .inr (ci, fs))]) (cells + 1) (slots + N)) : KW l fr mc ms y b ad0 ca h0 Pw pc st ws cells slots := by
  intro D A p e s m args below meth c H locs lsA hC hN hO hP hD hS hl
  have hw := hC.2.2.2.2.2.1
  exact va_new hC.1 hC.2.1 (lw_hts hw) hin ty hty hC.2.2.2.2.1 (hw _ hcl rfl) (hw _ hinst rfl) (hw _ hini rfl) hC.2.2.2.2.2.2.1 hP hD hS hC.2.2.2.2.2.2.2.2.1 hc hfs hcells hslots hd (fun q H1 hP1 hD1 hS1 => k q D A p e s m args below meth c H1 locs lsA hC hN hO hP1 hD1 hS1 hl)
theorem k_pre {A : Nat → Prop} {D : va_G} {p : Program} {s U : State} {m : MethodId} {args : Array Value} {meth : Method} {c : Code} {H : Heap} {locs : List Loc} {d nL : Nat} {ret9 : Option FieldType} {q ci : Nat} {fs : List Value} (hC : CX d y b nL ret9 ad0 ca D A p s m args meth c) (hO : AO s) (hP : va_P D vwCl (ws ++ [(q, .inr (ci, fs))]) H) (hF : ∀ x, iA q H.size x → A x) (hS : va_S A s.heap H locs) (hU : U.heap = H) (hW : s.WarmedH U.vm) : KPre ad0 ca D q H.size ci fs U := by
  refine ⟨by rw [hU], ?_, va_K.moved hW.alike hC.2.2.2.2.2.2.1, ?_, hO.moved hW.alike⟩
  · rw [hU]
    intro k x hx
    have h1 := (List.getElem?_eq_some_iff.mp hx).1
    simp only [List.length_cons, List.length_nil] at h1
    have h2 : k = 0 := by omega
    subst h2
    exact hP ws.length x (by rw [List.getElem?_append_right (Nat.le_refl _), Nat.sub_self]; exact hx)
  · rw [hU]
    exact ((hC.2.2.2.2.2.2.2.2.2.kept hS.2.1).warm hW).narrow hF
theorem k_free {A : Nat → Prop} {s : State} {H : Heap} {locs : List Loc} {x : Nat × va_E} (hD : va_D A (ws ++ [x])) (hS : va_S A s.heap H locs) (hA : ∀ q, s.heap.size ≤ q → A q) : ∀ q, iA x.1 H.size q → A q := by
  rintro q (rfl | h)
  · exact hD.2 ws.length x (by simp)
  · exact hA q (Nat.le_trans hS.1 h)
theorem kw_init {index q ci : Nat} {y' : MethodName} {b' : ByteArray} {fr' mc' ms' : Nat} {fs : List Value} {Pw' : (Nat → ClassId) → Nat → va_W → Prop} (ck : CKI y.cls index y' b') (hM : KMet l y' b' fr' mc' ms' ci fs Pw') (hfr : fr' + 1 ≤ fr) (hcat : (st.map fun v => v.category).sum ≤ 8) (hc : cells + mc' ≤ mc) (hs : slots + ms' ≤ ms) (hd : decode b pc = .ok (.invokespecial index, 3)) (k : ∀ w, Pw' ca q w → KW l fr mc ms y b ad0 ca h0 Pw (pc + 3) st (ws ++ w) (cells + mc') (slots + ms')) : KW l fr mc ms y b ad0 ca h0 Pw pc (.ref q :: st) (ws ++ [(q, .inr (ci, fs))]) cells slots := by
  intro D A p e s m args below meth c H locs lsA hC hN hO hP hD hS hl
  have hF := k_free hD hS hC.2.2.2.2.2.2.2.2.1
  have hrun := ck (bb := q) (rest := st) (g := F0 m pc lsA (.ref q :: st)) hC.1 hC.2.1 hC.2.2.1 hC.2.2.2.2.1 hC.2.2.2.2.2.1 hC.2.2.2.2.2.2.2.2.2.1 (p := p) (e := e) (R := rmK fr mc ms) (below := below) (meth := meth) (H := H) (locs := locs) (cells := cells) (slots := slots) (hM ad0 ca D q H.size) rfl rfl ⟨hfr, by show 8 + (1 + 11) + fr' * 64 ≤ fr * 64; omega⟩ ⟨k_blind, fun U hU hW => ⟨rfl, k_pre hC hO hP hF hS hU hW⟩⟩ rfl hl.1 rfl (lv_room hcat) hd ⟨hc, hs⟩
  refine va_callv hrun hS (fun x _ h => hF x h) hF (fun u t H1 locs1 ht hvm _ hB hz hk hS1 => ?_)
  obtain ⟨w, hw, hP1, hD1⟩ := hB
  rw [ht] at hP1
  obtain ⟨hP2, hD2⟩ := k_join hP hD hk hF hP1 hD1
  exact k w hw D A p e s m args below meth c H1 locs1 lsA hC hN hO hP2 hD2 hS1 hl
theorem kw_ret (hq : Pw ws) (hc : cells ≤ mc) (hs : slots ≤ ms) (hd : decode b pc = .ok (.return_, 1)) : KW l fr mc ms y b ad0 ca h0 Pw pc [] ws cells slots := by
  intro D A p e s m args below meth c H locs lsA hC hN hO hP hD hS hl
  refine W.widen hc hs ?_
  exact W.vret hC.1 hC.2.1 hC.2.2.2.1 (fun t ht _ => ⟨⟨(), rfl, trivial, ws, hq, by rw [ht]; exact hP, hD⟩, hS.F ht⟩) hS.2.2 hd (hlocks := hC.2.2.2.2.2.2.2.1)
/-- what stands at the end, in another order -/
theorem kw_ret2 {w : va_W} (pos : Nat → Nat) (hq : Pw w) (hsub : ∀ k x, w[k]? = some x → ws[pos k]? = some x) (hinj : ∀ i j, i < w.length → j < w.length → pos i = pos j → i = j) (hc : cells ≤ mc) (hs : slots ≤ ms) (hd : decode b pc = .ok (.return_, 1)) : KW l fr mc ms y b ad0 ca h0 Pw pc [] ws cells slots := by
  intro D A p e s m args below meth c H locs lsA hC hN hO hP hD hS hl
  refine W.widen hc hs ?_
  have hP2 : va_P D vwCl w H := fun k x hx => hP (pos k) x (hsub k x hx)
  have hD2 : va_D A w := ⟨fun i j x z hi hj hxz => hinj i j (List.getElem?_eq_some_iff.mp hi).1 (List.getElem?_eq_some_iff.mp hj).1 (hD.1 (pos i) (pos j) x z (hsub i x hi) (hsub j z hj) hxz), fun k x hx => hD.2 (pos k) x (hsub k x hx)⟩
  exact W.vret hC.1 hC.2.1 hC.2.2.2.1 (fun t ht _ => ⟨⟨(), rfl, trivial, w, hq, by rw [ht]; exact hP2, hD2⟩, hS.F ht⟩) hS.2.2 hd (hlocks := hC.2.2.2.2.2.2.2.1)
theorem kw_ws {ws' : va_W} (h : ws = ws') (k : KW l fr mc ms y b ad0 ca h0 Pw pc st ws' cells slots) : KW l fr mc ms y b ad0 ca h0 Pw pc st ws cells slots := h ▸ k
/-! the same, the object at the head and its fields said -/
theorem kw_newa1 {o : Nat × va_E} {atype : ArrayType} {t N : Nat} {a0 : vp_A} {n : Int32} (hc : Cond.arrayClass (tyA t) ∈ lw_tbl) (hty : newarray.typeOf atype = tyA t) (ht : t < 3) (ha : ∀ cA : ClassId, vp_cell cA a0 = arrV cA N (fun _ => defaultValue (tyA t))) (hn : ¬ n < 0) (hN : n.toNatClampNeg = N) (hbytes : N * componentBytes (tyA t) ≤ 536870912) (hcl : cells + 1 ≤ mc) (hsl : slots + N ≤ ms) (hd : decode b pc = .ok (.newarray atype, 2)) (k : ∀ q, KW l fr mc ms y b ad0 ca h0 Pw (pc + 2) (.ref q :: st) (o :: (X ++ [(q, .inl (ca t, a0))])) (cells + 1) (slots + N)) : KW l fr mc ms y b ad0 ca h0 Pw pc (.int n :: st) (o :: X) cells slots := kw_newa hc hty ht ha hn hN hbytes hcl hsl hd k
theorem kw_put1 {index ci j : Nat} {ty : FieldType} {fs : List Value} (fs' : List Value) {v : Value} (hg : PK y.cls index ci j ty) (hnar : narrow ty v = v) (hfit : fits ty v = true) (hlen : j < fs.length) (hd : decode b pc = .ok (.putfield index, 3)) (hfs : fs.set j v = fs') (k : KW l fr mc ms y b ad0 ca h0 Pw (pc + 3) st ((h0, .inr (ci, fs')) :: X) cells slots) : KW l fr mc ms y b ad0 ca h0 Pw pc (v :: .ref h0 :: st) ((h0, .inr (ci, fs)) :: X) cells slots := kw_put hg hnar hfit hlen hd (by rw [hfs]; exact k)
theorem kw_iast1 {o : Nat × va_E} {q n : Nat} {f : Nat → Int32} {i x : Int32} (hin : vp_in i n) (hd : decode b pc = .ok (.iastore, 1)) (k : KW l fr mc ms y b ad0 ca h0 Pw (pc + 1) st (o :: (X ++ [(q, .inl (ca 0, n, .inl (upd f i.toNatClampNeg x)))])) cells slots) : KW l fr mc ms y b ad0 ca h0 Pw pc (.int x :: .int i :: .ref q :: st) (o :: (X ++ [(q, .inl (ca 0, n, .inl f))])) cells slots := kw_iast (ws := o :: X) hin hd k
theorem kw_new1 {o : Nat × va_E} {index ci N : Nat} {C : String} {T : u_T} {fs : List Value} (ty : Nat → FieldType) (hty : ∀ k, k < N → parseFieldDescriptor (T k).2.2.1 = some (ty k)) (hin : ∀ w ∈ u_ws C T N, w ∈ lw_good) (hcl : Cond.classLink y.cls index C ∈ lw_tbl) (hinst : Cond.instantiable C N ∈ lw_tbl) (hini : Cond.initialized C ∈ lw_tbl) (hc : vwCl[ci]? = some (C, T, N)) (hfs : ∀ j, j < N → defaultValue (ty j) = vp_V fs j) (hcells : cells + 1 ≤ mc) (hslots : slots + N ≤ ms) (hd : decode b pc = .ok (.new index, 3)) (k : ∀ q, KW l fr mc ms y b ad0 ca h0 Pw (pc + 3) (.ref q :: st) (o :: (X ++ [(q, .inr (ci, fs))])) (cells + 1) (slots + N)) : KW l fr mc ms y b ad0 ca h0 Pw pc st (o :: X) cells slots := kw_new ty hty hin hcl hinst hini hc hfs hcells hslots hd k
theorem kw_init1 {o : Nat × va_E} {index q ci : Nat} {y' : MethodName} {b' : ByteArray} {fr' mc' ms' : Nat} {fs : List Value} {Pw' : (Nat → ClassId) → Nat → va_W → Prop} (ck : CKI y.cls index y' b') (hM : KMet l y' b' fr' mc' ms' ci fs Pw') (hfr : fr' + 1 ≤ fr) (hcat : (st.map fun v => v.category).sum ≤ 8) (hc : cells + mc' ≤ mc) (hs : slots + ms' ≤ ms) (hd : decode b pc = .ok (.invokespecial index, 3)) (k : ∀ w, Pw' ca q w → KW l fr mc ms y b ad0 ca h0 Pw (pc + 3) st (o :: (X ++ w)) (cells + mc') (slots + ms')) : KW l fr mc ms y b ad0 ca h0 Pw pc (.ref q :: st) (o :: (X ++ [(q, .inr (ci, fs))])) cells slots := kw_init (ws := o :: X) ck hM hfr hcat hc hs hd k
end KWR
def pieceW (sh : List Sh) (a : Nat → Nat) (ca : Nat → ClassId) (M : Mm) : va_W := sh.mapIdx (fun k s => (a k, ce a ca M k s))
def PP (sh : List Sh) (M : Mm) : (Nat → ClassId) → Nat → va_W → Prop := fun ca q w => ∃ a : Nat → Nat, a 0 = q ∧ w = pieceW sh a ca M
theorem piece_get {sh : List Sh} {a : Nat → Nat} {ca : Nat → ClassId} {M : Mm} {k : Nat} : (pieceW sh a ca M)[k]? = (sh[k]?).map (fun s => (a k, ce a ca M k s)) := by
  unfold pieceW
  rw [List.getElem?_mapIdx]
theorem piece_len {sh : List Sh} {a : Nat → Nat} {ca : Nat → ClassId} {M : Mm} : (pieceW sh a ca M).length = sh.length := by
  unfold pieceW
  simp
/-! the same, in steps -/
def cfS (a : Nat → Nat) (g : Nat → Int32) : Nat → List (Option Nat) → List Value
  | _, [] => []
  | j, f :: t => cf a g j f :: cfS a g (j + 1) t
theorem cfS_get (a : Nat → Nat) (g : Nat → Int32) : ∀ (fs : List (Option Nat)) (j i : Nat), (cfS a g j fs)[i]? = (fs[i]?).map (fun f => cf a g (j + i) f)
  | [], j, i => by simp [cfS]
  | f :: t, j, 0 => by simp [cfS]
  | f :: t, j, i + 1 => by
    show (cfS a g (j + 1) t)[i]? = (t[i]?).map _
    rw [cfS_get a g t (j + 1) i, show j + 1 + i = j + (i + 1) by omega]
def ceS (a : Nat → Nat) (ca : Nat → ClassId) (M : Mm) (k : Nat) (s : Sh) : va_E := match s with
  | .inl o => .inr (o.1, cfS a (M.1 k) 0 o.2)
  | .inr x => .inl (ca x.1, ca_arr a M k x.1 x.2.1 x.2.2)
theorem ceS_eq (a : Nat → Nat) (ca : Nat → ClassId) (M : Mm) (k : Nat) (s : Sh) : ce a ca M k s = ceS a ca M k s := by
  cases s with
  | inl o =>
    show (.inr (o.1, o.2.mapIdx (fun j f => cf a (M.1 k) j f)) : va_E) = .inr (o.1, cfS a (M.1 k) 0 o.2)
    have e : o.2.mapIdx (fun j f => cf a (M.1 k) j f) = cfS a (M.1 k) 0 o.2 := by
      apply List.ext_getElem?
      intro i
      rw [List.getElem?_mapIdx, cfS_get, Nat.zero_add]
    rw [e]
  | inr x => rfl
def pieceS (a : Nat → Nat) (ca : Nat → ClassId) (M : Mm) : Nat → List Sh → va_W
  | _, [] => []
  | k, s :: t => (a k, ceS a ca M k s) :: pieceS a ca M (k + 1) t
theorem pieceS_get (a : Nat → Nat) (ca : Nat → ClassId) (M : Mm) : ∀ (sh : List Sh) (k i : Nat), (pieceS a ca M k sh)[i]? = (sh[i]?).map (fun s => (a (k + i), ceS a ca M (k + i) s))
  | [], k, i => by simp [pieceS]
  | s :: t, k, 0 => by simp [pieceS]
  | s :: t, k, i + 1 => by
    show (pieceS a ca M (k + 1) t)[i]? = (t[i]?).map _
    rw [pieceS_get a ca M t (k + 1) i, show k + 1 + i = k + (i + 1) by omega]
theorem piece_eq {sh : List Sh} {a : Nat → Nat} {ca : Nat → ClassId} {M : Mm} {w : va_W} (h : w = pieceS a ca M 0 sh) : w = pieceW sh a ca M := by
  rw [h]
  apply List.ext_getElem?
  intro i
  rw [pieceS_get, piece_get, Nat.zero_add]
  exact congrArg (fun g => Option.map g sh[i]?) (funext fun s => by rw [ceS_eq])
