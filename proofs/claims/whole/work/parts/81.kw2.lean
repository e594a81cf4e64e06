/-! constructors, further rows: rows of rows, the static laws, a filled row -/
theorem ao_all (s : State) : aoSp s := fun t h => by
  obtain ⟨comp, c, k, h1, h2, h3, h4⟩ := ao_spec h
  exact ⟨c, k, comp, h4, h2, h3⟩
/-- a row of references while it is being filled -/
theorem kr_outer (c : ClassId) (N h0 : Nat) : ∀ i : Nat, Jvm.Free.Multi.outerC c N h0 i = arrV c N (fun j => va_rf (if j < i then some (h0 + 1 + j) else none))
  | 0 => by
    show ({ cls := c, slots := Array.replicate N .null, vm := .none } : Cell) = _
    rw [arrV_new]
    exact congrArg (arrV c N) (funext fun j => by rw [if_neg (Nat.not_lt_zero j)]; rfl)
  | i + 1 => by
    show (Jvm.Free.Multi.outerC c N h0 i).setSlot i (.ref (h0 + 1 + i)) = _
    rw [kr_outer c N h0 i, arrV_store]
    refine congrArg (arrV c N) (funext fun j => ?_)
    show (if j = i then Value.ref (h0 + 1 + i) else va_rf (if j < i then some (h0 + 1 + j) else none)) = _
    by_cases e : j = i
    · rw [if_pos e, if_pos (by omega), e]
      rfl
    · rw [if_neg e]
      by_cases h : j < i
      · rw [if_pos h, if_pos (by omega)]
      · rw [if_neg h, if_neg (by omega)]
/-- a new row of rows: the outer one, behind it its rows -/
def gridW (ca : Nat → ClassId) (t t3 N : Nat) (z : vp_A) (q : Nat) (r : Nat → Nat) : va_W := (q, .inl (ca t3, N, .inr (.inr (.inr (.inr (fun i => if i < N then some (r i) else none)))))) :: (List.range N).map (fun i => (r i, .inl (ca t, z)))
theorem grid_at {ca : Nat → ClassId} {t t3 N h : Nat} {z : vp_A} {j : Nat} {x : Nat × va_E} (hx : (gridW ca t t3 N z h (fun i => h + 1 + i))[j]? = some x) : x.1 = h + j := by
  cases j with
  | zero =>
    have hx : some ((h, .inl (ca t3, N, .inr (.inr (.inr (.inr (fun i => if i < N then some (h + 1 + i) else none)))))) : Nat × va_E) = some x := hx
    cases hx
    rfl
  | succ j =>
    have hx : ((List.range N).map (fun i => ((h + 1 + i, .inl (ca t, z)) : Nat × va_E)))[j]? = some x := hx
    rw [List.getElem?_map] at hx
    by_cases h9 : j < N
    · rw [List.getElem?_range h9] at hx
      cases hx
      show h + 1 + j = h + (j + 1)
      omega
    · rw [List.getElem?_eq_none (by rw [List.length_range]; omega)] at hx
      cases hx
section KWR2
variable {l : Launch} {fr mc ms : Nat} {y : MethodName} {b : ByteArray} {ad0 : Nat → Nat} {ca : Nat → ClassId} {h0 : Nat} {Pw : va_W → Prop} {pc : Nat} {st : List Value} {ws X : va_W} {cells slots : Nat}
theorem kw_mna {t t3 N K index : Nat} {z : vp_A} {n k9 : Int32} (hty : t3 = 3 ∧ t = 0 ∨ t3 = 4 ∧ t = 2) (h1 : Cond.classLink y.cls index ("[" ++ (FieldType.array (tyA t)).toString) ∈ lw_tbl) (h2 : Cond.arrayClass (tyA t) ∈ lw_tbl) (hn : ¬ n < 0) (hk : ¬ k9 < 0) (hN : n.toNatClampNeg = N) (hK9 : k9.toNatClampNeg = K) (hsm : N ≤ 100 ∧ K ≤ 100) (hz : ∀ cA : ClassId, vp_cell cA z = arrV cA K (fun _ => defaultValue (tyA t))) (hc : cells + (1 + N) ≤ mc) (hs : slots + (N + N * K) ≤ ms) (hd : decode b pc = .ok (.multianewarray index 2, 4)) (k : ∀ (q : Nat) (r : Nat → Nat), KW l fr mc ms y b ad0 ca h0 Pw (pc + 4) (.ref q :: st) (ws ++ gridW ca t t3 N z q r) (cells + 1 + N) (slots + N + N * K)) : KW l fr mc ms y b ad0 ca h0 Pw pc (.int k9 :: .int n :: st) ws cells slots := by
  intro D A p e s m args below meth c H locs lsA hC hNm hO hP hD hS hl
  subst hN
  subst hK9
  have hK := hC.2.2.2.2.2.2.1
  have hw := hC.2.2.2.2.2.1
  have hA := hC.2.2.2.2.2.2.2.2.1
  have hover : (Cond.arrayOver (.array (tyA t))).before args s = true := by
    rcases hty with ⟨_, rfl⟩ | ⟨_, rfl⟩
    · exact hO.1
    · exact hO.2
  have hcb : componentBytes (tyA t) ≤ 8 := by
    rcases hty with ⟨_, rfl⟩ | ⟨_, rfl⟩
    · decide
    · decide
  have hb2 : k9.toNatClampNeg * componentBytes (tyA t) ≤ 536870912 := Nat.le_trans (Nat.mul_le_mul hsm.2 hcb) (Nat.le_of_ble_eq_true rfl)
  have hdf : fits (tyA t) (defaultValue (tyA t)) = true := by
    rcases hty with ⟨_, rfl⟩ | ⟨_, rfl⟩
    · rfl
    · rfl
  have hdd : (defaultValue (tyA t)).isDefault = true := by
    rcases hty with ⟨_, rfl⟩ | ⟨_, rfl⟩
    · rfl
    · rfl
  intro T hT Xs
  obtain ⟨vm₁, cA, comp, -, fA, fC, -, -, X', step⟩ := Xs.multianewarray2F hC.1 hC.2.2.2.2.1 (hw _ h1 rfl) hover (hw _ h2 rfl) (g := F0 m pc lsA (.int k9 :: .int n :: st)) rfl (by rw [hC.2.1]; exact hd) rfl hn hk (by have := hsm.1; omega) hb2 (by have := hsm.2; omega) hdf hdd hc hs
  have e2 : cA = ca t3 ∧ comp = ca t := by
    rcases hty with ⟨rfl, rfl⟩ | ⟨rfl, rfl⟩
    · exact ⟨Option.some.inj ((show s.vm.findClass ("[" ++ (FieldType.array .int).toString) = some cA from fA).symm.trans (hK.2 3 (ca 3, .array .int) rfl).2), Option.some.inj ((show s.vm.findClass ("[" ++ FieldType.toString .int) = some comp from fC).symm.trans (hK.2 0 (ca 0, .int) rfl).2)⟩
    · exact ⟨Option.some.inj ((show s.vm.findClass ("[" ++ (FieldType.array .long).toString) = some cA from fA).symm.trans (hK.2 4 (ca 4, .array .long) rfl).2), Option.some.inj ((show s.vm.findClass ("[" ++ FieldType.toString .long) = some comp from fC).symm.trans (hK.2 2 (ca 2, .long) rfl).2)⟩
  obtain ⟨rfl, rfl⟩ := e2
  have hz9 : ∀ cA : ClassId, Jvm.Free.Multi.innerC cA k9.toNatClampNeg (defaultValue (tyA t)) = vp_cell cA z := fun cA => (arrV_new cA k9.toNatClampNeg (defaultValue (tyA t))).trans (hz cA).symm
  generalize hF : Jvm.Free.Multi.fill (T.setVm vm₁) (ca t3) (ca t) n.toNatClampNeg k9.toNatClampNeg (defaultValue (tyA t)) n.toNatClampNeg = F at X' step
  have hTh : (T.setVm vm₁).heap = H := hT
  obtain ⟨f1, f2, -, -⟩ := Jvm.Free.Multi.fill_facts (T.setVm vm₁) (ca t3) (ca t) n.toNatClampNeg k9.toNatClampNeg (defaultValue (tyA t)) n.toNatClampNeg
  rw [hF, hTh] at f1 f2
  have hold : ∀ x : Nat, x < H.size → F.heap[x]? = H[x]? := fun x hx => by
    have := Jvm.Free.Multi.fill_old (T.setVm vm₁) (ca t3) (ca t) n.toNatClampNeg k9.toNatClampNeg (defaultValue (tyA t)) (a := x) (by rw [hTh]; exact hx) n.toNatClampNeg
    rw [hF, hTh] at this
    exact this
  have hrow : ∀ j : Nat, j < n.toNatClampNeg → F.heap[H.size + 1 + j]? = some (vp_cell (ca t) z) := fun j hj => by
    have := Jvm.Free.Multi.fill_inner (T.setVm vm₁) (ca t3) (ca t) n.toNatClampNeg k9.toNatClampNeg (defaultValue (tyA t)) n.toNatClampNeg j hj
    rw [hF, hTh, hz9] at this
    exact this
  have hout : Jvm.Free.Multi.outerC (ca t3) n.toNatClampNeg H.size n.toNatClampNeg = vp_cell (ca t3) (n.toNatClampNeg, .inr (.inr (.inr (.inr (fun i => if i < n.toNatClampNeg then some (H.size + 1 + i) else none))))) := by
    rw [vp_cell_q]
    exact kr_outer (ca t3) n.toNatClampNeg H.size n.toNatClampNeg
  rw [hout] at f2
  have hPg : va_P D vwCl (gridW ca t t3 n.toNatClampNeg z H.size (fun i => H.size + 1 + i)) F.heap := fun j x hx => by
    cases j with
    | zero =>
      have hx : some ((H.size, .inl (ca t3, n.toNatClampNeg, .inr (.inr (.inr (.inr (fun i => if i < n.toNatClampNeg then some (H.size + 1 + i) else none)))))) : Nat × va_E) = some x := hx
      cases hx
      exact f2
    | succ j =>
      have hx : ((List.range n.toNatClampNeg).map (fun i => ((H.size + 1 + i, .inl (ca t, z)) : Nat × va_E)))[j]? = some x := hx
      obtain ⟨i, hi, rfl⟩ := List.mem_map.mp (List.mem_of_getElem? hx)
      exact hrow i (List.mem_range.mp hi)
  have hDg : va_D A (gridW ca t t3 n.toNatClampNeg z H.size (fun i => H.size + 1 + i)) := ⟨fun i j x w hi hj e => by
    have a1 := grid_at hi
    have a2 := grid_at hj
    omega, fun j x hx => by
    have a1 := grid_at hx
    exact hA _ (by have := hS.1; omega)⟩
  have hP1 : va_P D vwCl (ws ++ gridW ca t t3 n.toNatClampNeg z H.size (fun i => H.size + 1 + i)) F.heap := va_P.app (hP.kept (fun j x hx => hold x.1 ((hP j x hx).lt))) hPg
  have hD1 : va_D A (ws ++ gridW ca t t3 n.toNatClampNeg z H.size (fun i => H.size + 1 + i)) := va_D.app hD hDg (fun i j x w hx hw9 e => by
    have a1 := (hP i x hx).lt
    have a2 := grid_at hw9
    omega)
  obtain ⟨t9, a1, b1⟩ := k H.size (fun i => H.size + 1 + i) D A p e s m args below meth c F.heap locs lsA hC hNm hO hP1 hD1 ⟨by rw [f1]; have := hS.1; omega, fun x g1 g2 => (hold x (Nat.lt_of_lt_of_le g1 hS.1)).trans (hS.2.1 x g1 g2), hS.2.2⟩ hl F rfl X'
  refine ⟨t9, step t9 ?_, b1⟩
  have e : T.heap.size = H.size := by rw [hT]
  rw [e]
  exact a1
theorem kw_mna1 {o : Nat × va_E} {t t3 N K index : Nat} {z : vp_A} {n k9 : Int32} (hty : t3 = 3 ∧ t = 0 ∨ t3 = 4 ∧ t = 2) (h1 : Cond.classLink y.cls index ("[" ++ (FieldType.array (tyA t)).toString) ∈ lw_tbl) (h2 : Cond.arrayClass (tyA t) ∈ lw_tbl) (hn : ¬ n < 0) (hk : ¬ k9 < 0) (hN : n.toNatClampNeg = N) (hK9 : k9.toNatClampNeg = K) (hsm : N ≤ 100 ∧ K ≤ 100) (hz : ∀ cA : ClassId, vp_cell cA z = arrV cA K (fun _ => defaultValue (tyA t))) (hc : cells + (1 + N) ≤ mc) (hs : slots + (N + N * K) ≤ ms) (hd : decode b pc = .ok (.multianewarray index 2, 4)) (k : ∀ (q : Nat) (r : Nat → Nat), KW l fr mc ms y b ad0 ca h0 Pw (pc + 4) (.ref q :: st) (o :: (X ++ gridW ca t t3 N z q r)) (cells + 1 + N) (slots + N + N * K)) : KW l fr mc ms y b ad0 ca h0 Pw pc (.int k9 :: .int n :: st) (o :: X) cells slots := kw_mna hty h1 h2 hn hk hN hK9 hsm hz hc hs hd k
theorem kw_aald {t N k0 q v : Nat} {f : Nat → Option Nat} {i : Int32} (ht5 : t + 3 < 5) (hg : ws[k0]? = some (q, .inl (ca (t + 3), N, .inr (.inr (.inr (.inr f)))))) (hin : vp_in i N) (hv : f i.toNatClampNeg = some v) (hd : decode b pc = .ok (.aaload, 1)) (k : KW l fr mc ms y b ad0 ca h0 Pw (pc + 1) (.ref v :: st) ws cells slots) : KW l fr mc ms y b ad0 ca h0 Pw pc (.int i :: .ref q :: st) ws cells slots := by
  intro D A p e s m args below meth c H locs lsA hC hNm hO hP hD hS hl
  have hlt : i.toNatClampNeg < N := Nat.not_le.mp fun q => hin (Or.inr q)
  have hty : (tyA (t + 3)).isReference = true := by
    match t, ht5 with
    | 0, _ => rfl
    | 1, _ => rfl
  exact W.aald (v := .ref v) (ty := tyA (t + 3)) hC.1 hC.2.1 (hP k0 _ hg) ((hC.2.2.2.2.2.2.1.2 (t + 3) _ (tysA_get ca ht5)).1 N (fun j => va_rf (f j))) hty (fun q => by cases q) (by show ¬ (i < 0 ∨ (arrV _ _ _).slots.size ≤ _); rw [arrV_size]; exact hin) (by show (arrV (ca (t + 3)) N (fun j => va_rf (f j))).slots[_]? = _; rw [arrV_read _ _ hlt, hv]; rfl) rfl rfl hd (k D A p e s m args below meth c H locs lsA hC hNm hO hP hD hS hl)
theorem kw_getsL {index : Nat} {host : String} (hlk : Cond.fieldLinkNest y.cls index "ClapTogether" "LAWS_AT_FIRST" "[I" host ∈ lw_tbl) (hd : decode b pc = .ok (.getstatic index, 3)) (k : KW l fr mc ms y b ad0 ca h0 Pw (pc + 3) (.ref (ad0 1000) :: st) ws cells slots) : KW l fr mc ms y b ad0 ca h0 Pw pc st ws cells slots := by
  intro D A p e s m args below meth c H locs lsA hC hNm hO hP hD hS hl
  exact va_getsN hC.1 hC.2.1 hC.2.2.2.2.2.2.2.2.2.2.1.1 hS hC.2.2.2.2.1 (va_Nw.use rfl (hC.2.2.2.2.2.2.2.2.2.1 _ hlk rfl)) (fun _ h => h) hd (k D A p e s m args below meth c H locs lsA hC hNm hO hP hD hS hl)
theorem kw_copyT {index q1 a n1 : Nat} {g : Nat → Int32} (h1 : Cond.methodLink y.cls index arraycopyName ∈ lw_tbl) (h2 : Cond.native arraycopyName ∈ lw_tbl) (h3 : Cond.static arraycopyName ∈ lw_tbl) (h4 : Cond.initialized "java/lang/System" ∈ lw_tbl) (hg : ws[q1]? = some (a, .inl (ca 0, n1, .inl g))) (hn1 : 7 ≤ n1) (hfr : 1 ≤ fr) (hcat : (st.map fun v => v.category).sum ≤ 8) (hd : decode b pc = .ok (.invokestatic index, 3)) (k : KW l fr mc ms y b ad0 ca h0 Pw (pc + 3) st (ws.set q1 (a, .inl (ca 0, n1, .inl (va_cpy lawsF g 0 0 7)))) cells slots) : KW l fr mc ms y b ad0 ca h0 Pw pc (.int 7 :: .int 0 :: .ref a :: .int 0 :: .ref (ad0 1000) :: st) ws cells slots := by
  intro D A p e s m args below meth c H locs lsA hC hNm hO hP hD hS hl
  have hw := hC.2.2.2.2.2.1
  have h40 : nativeFrameWords "java/lang/System" "arraycopy" 5 + 11 ≤ 40 := by decide +kernel
  have hloc : (st.map fun v => v.category).sum + (nativeFrameWords "java/lang/System" "arraycopy" 5 + 11) ≤ (rmK fr mc ms).locals := by show _ ≤ fr * 64; omega
  exact kt_copy (n := 7) (f := lawsF) hC.1 hC.2.1 (hC.2.2.1.trans hl.1.symm) hC.2.2.2.2.1 (hw _ h1 rfl) (hw _ h2 rfl) (hw _ h3 rfl) (hw _ h4 rfl) hC.2.2.2.2.2.2.1 hP hD hS hC.2.2.2.2.2.2.2.2.2.2.1.2 q1 0 hg (tysA_get ca (by decide)) (by decide) (by decide) (by show 7 ≤ n1; exact hn1) hfr hloc hd (fun H1 locs1 hP1 hD1 hS1 => k D A p e s m args below meth c H1 locs1 lsA hC hNm hO hP1 hD1 hS1 hl)
end KWR2
/-! one row of ints, filled -/
def FW (l : Launch) (ad0 : Nat → Nat) (ca : Nat → ClassId) (a N : Nat) (G : Nat → Int32) (pc : Nat) (ls : List (Option Value)) (st : List Value) (g : Nat → Int32) : Prop :=
  ∀ (D : va_G) (A : Nat → Prop) (p : Program) (e : Env) (s : State) (m : MethodId) (args : Array Value) (below : List Frame) (meth : Method) (c : Code) (H : Heap) (locs : List Loc) (lsA : Array Slot),
    CX 0 yJ7_fill_53178 cJ7_fill_53178 4 none ad0 ca D A p s m args meth c → va_P D vwCl [(a, .inl (ca 0, N, .inl g))] H → va_D A [(a, .inl (ca 0, N, .inl g))] → va_S A s.heap H locs → LH lsA 4 id ls →
    W p l e (rmK 1 0 0) s m args below meth c H locs 0 0 (MQ below (KPost (fun w => w = [(a, .inl (ca 0, N, .inl G))]) D A) args s 0 0 A) (F0 m pc lsA st)
section FWR
variable {l : Launch} {ad0 : Nat → Nat} {ca : Nat → ClassId} {a N : Nat} {G : Nat → Int32} {pc : Nat} {ls : List (Option Value)} {st : List Value} {g : Nat → Int32}
theorem fw_iconst {n : Int} {v : Int32} (hd : decode cJ7_fill_53178 pc = .ok (.iconst n, 1)) (hv : Int32.ofInt n = v) (k : FW l ad0 ca a N G (pc + 1) ls (.int v :: st) g) : FW l ad0 ca a N G pc ls st g := by
  intro D A p e s m args below meth c H locs lsA hC hP hD hS hl
  exact lv_iconst hC.1 hC.2.1 hd hv (k D A p e s m args below meth c H locs lsA hC hP hD hS hl)
theorem fw_iload_n {j : Fin 4} {i : Nat} {x : Int32} (hd : decode cJ7_fill_53178 pc = .ok (.iload_n j, 1)) (hi : (j : Nat) = i) (hl9 : ls[i]? = some (some (.int x))) (k : FW l ad0 ca a N G (pc + 1) ls (.int x :: st) g) : FW l ad0 ca a N G pc ls st g := by
  intro D A p e s m args below meth c H locs lsA hC hP hD hS hl
  exact lv_iload_n hC.1 hC.2.1 hd hi (hl.2.2 i _ hl9) (k D A p e s m args below meth c H locs lsA hC hP hD hS hl)
theorem fw_aload_n {j : Fin 4} {i : Nat} {x : Nat} (hd : decode cJ7_fill_53178 pc = .ok (.aload_n j, 1)) (hi : (j : Nat) = i) (hl9 : ls[i]? = some (some (.ref x))) (k : FW l ad0 ca a N G (pc + 1) ls (.ref x :: st) g) : FW l ad0 ca a N G pc ls st g := by
  intro D A p e s m args below meth c H locs lsA hC hP hD hS hl
  exact lv_aload_n hC.1 hC.2.1 hd hi (hl.2.2 i _ hl9) (k D A p e s m args below meth c H locs lsA hC hP hD hS hl)
theorem fw_istore_n {j : Fin 4} {i : Nat} {x : Int32} (hd : decode cJ7_fill_53178 pc = .ok (.istore_n j, 1)) (hi : (j : Nat) = i) (hn : i < 4) (k : FW l ad0 ca a N G (pc + 1) (lset ls i (.int x)) st g) : FW l ad0 ca a N G pc ls (.int x :: st) g := by
  intro D A p e s m args below meth c H locs lsA hC hP hD hS hl
  exact lv_istore_n hC.1 hC.2.1 hd hi hl.has hn rfl (fun ls9 h9 => k D A p e s m args below meth c H locs ls9 hC hP hD hS (LH.set (v := .int x) h9))
theorem fw_iinc {i x : Nat} (hd : decode cJ7_fill_53178 pc = .ok (.iinc i 1, 3)) (hl9 : ls[i]? = some (some (.int (nI x)))) (hn : i < 4) (k : FW l ad0 ca a N G (pc + 3) (lset ls i (.int (nI (x + 1)))) st g) : FW l ad0 ca a N G pc ls st g := by
  rw [nI_succ] at k
  intro D A p e s m args below meth c H locs lsA hC hP hD hS hl
  obtain ⟨k0, hk0⟩ := List.getElem?_of_mem (lz_mem id ls 0 i _ hl9)
  rw [Nat.zero_add] at hk0
  exact lv_iinc hC.1 hC.2.1 hd hl.has hk0 rfl hn rfl (fun ls9 h9 => k D A p e s m args below meth c H locs ls9 hC hP hD hS (LH.set (v := .int _) h9))
theorem fw_icmp_ge {x z : Nat} {off : Int} {tgt : Nat} (hx : x < 2 ^ 31) (hz : z < 2 ^ 31) (hd : decode cJ7_fill_53178 pc = .ok (.if_icmp .ge off, 3)) (ht : (pc : Int) + off = (tgt : Int)) (kt : z ≤ x → FW l ad0 ca a N G tgt ls st g) (kf : x < z → FW l ad0 ca a N G (pc + 3) ls st g) : FW l ad0 ca a N G pc ls (.int (nI z) :: .int (nI x) :: st) g := by
  intro D A p e s m args below meth c H locs lsA hC hP hD hS hl
  exact lv_icmp_ge hC.1 hC.2.1 hd ht (fun h9 => kt ((nI_leI (a := z) (b := x) hz hx).mp h9) D A p e s m args below meth c H locs lsA hC hP hD hS hl) (fun h9 => kf (Nat.lt_of_not_le fun q => h9 ((nI_leI (a := z) (b := x) hz hx).mpr q)) D A p e s m args below meth c H locs lsA hC hP hD hS hl)
theorem fw_goto {off : Int} {tgt : Nat} (hd : decode cJ7_fill_53178 pc = .ok (.goto off, 3)) (ht : (pc : Int) + off = (tgt : Int)) (k : FW l ad0 ca a N G tgt ls st g) : FW l ad0 ca a N G pc ls st g := by
  intro D A p e s m args below meth c H locs lsA hC hP hD hS hl
  exact lv_goto hC.1 hC.2.1 hd ht (k D A p e s m args below meth c H locs lsA hC hP hD hS hl)
theorem fw_alen (hd : decode cJ7_fill_53178 pc = .ok (.arraylength, 1)) (k : FW l ad0 ca a N G (pc + 1) ls (.int (nI N) :: st) g) : FW l ad0 ca a N G pc ls (.ref a :: st) g := by
  intro D A p e s m args below meth c H locs lsA hC hP hD hS hl
  exact va_alen hC.1 hC.2.1 hC.2.2.2.2.2.2.1 hP 0 0 rfl (tysA_get ca (by decide)) rfl hd (k D A p e s m args below meth c H locs lsA hC hP hD hS hl)
theorem fw_iast {j : Nat} {x : Int32} (hj : j < N) (hn : N < 2 ^ 31) (hd : decode cJ7_fill_53178 pc = .ok (.iastore, 1)) (k : FW l ad0 ca a N G (pc + 1) ls st (upd g j x)) : FW l ad0 ca a N G pc ls (.int x :: .int (nI j) :: .ref a :: st) g := by
  intro D A p e s m args below meth c H locs lsA hC hP hD hS hl
  refine va_iast hC.1 hC.2.1 hC.2.2.2.2.2.2.1 hP hD hS 0 0 rfl (tysA_get ca (by decide)) (vp_in_nI hj hn) hd (fun H1 locs1 hP1 hD1 hS1 => ?_)
  rw [nI_clamp (Nat.lt_trans hj hn)] at hP1 hD1
  exact k D A p e s m args below meth c H1 locs1 lsA hC hP1 hD1 hS1 hl
theorem fw_ret (hd : decode cJ7_fill_53178 pc = .ok (.return_, 1)) (hq : g = G) : FW l ad0 ca a N G pc ls [] g := by
  subst hq
  intro D A p e s m args below meth c H locs lsA hC hP hD hS hl
  exact W.vret hC.1 hC.2.1 hC.2.2.2.1 (fun t ht _ => ⟨⟨(), rfl, trivial, _, rfl, by rw [ht]; exact hP, hD⟩, hS.F ht⟩) hS.2.2 hd (hlocks := hC.2.2.2.2.2.2.2.1)
end FWR
theorem fill_walk {l : Launch} {ad0 : Nat → Nat} {ca : Nat → ClassId} {a N : Nat} {f : Nat → Int32} {v : Int32} (hN : N < 1000) : FW l ad0 ca a N (fillR f N v) 0 [some (.ref a), some (.int v), none, none] [] f := by
  refine fw_iconst (v := 0) dJ7_fill_53178_0 (by decide) ?_
  refine fw_istore_n (i := 2) dJ7_fill_53178_1 rfl (by decide) ?_
  refine fw_aload_n (i := 0) dJ7_fill_53178_2 rfl rfl ?_
  refine fw_alen dJ7_fill_53178_3 ?_
  refine fw_istore_n (i := 3) dJ7_fill_53178_4 rfl (by decide) ?_
  have lp5 : ∀ k i, i + k = N → FW l ad0 ca a N (fillR f N v) 5 [some (.ref a), some (.int v), some (.int (nI i)), some (.int (nI N))] [] (fillR f i v) := by
    intro k
    induction k using Nat.strongRecOn with
    | _ k ih =>
    intro i hk
    refine fw_iload_n (i := 2) dJ7_fill_53178_5 rfl rfl ?_
    refine fw_iload_n (i := 3) dJ7_fill_53178_6 rfl rfl ?_
    refine fw_icmp_ge (tgt := 20) (by omega) (by omega) dJ7_fill_53178_7 (by decide) (fun h7 => ?_) (fun h7 => ?_)
    · exact fw_ret dJ7_fill_53178_20 (by rw [show i = N by omega])
    · refine fw_aload_n (i := 0) dJ7_fill_53178_10 rfl rfl ?_
      refine fw_iload_n (i := 2) dJ7_fill_53178_11 rfl rfl ?_
      refine fw_iload_n (i := 1) dJ7_fill_53178_12 rfl rfl ?_
      refine fw_iast h7 (by omega) dJ7_fill_53178_13 ?_
      refine fw_iinc (i := 2) dJ7_fill_53178_14 rfl (by decide) ?_
      refine fw_goto (tgt := 5) dJ7_fill_53178_17 (by decide) ?_
      rw [fillR_succ]
      exact ih (k - 1) (by omega) (i + 1) (by omega)
  have e0 := lp5 N 0 (by omega)
  rw [fillR_0] at e0
  exact e0
def FPre (ad0 : Nat → Nat) (ca : Nat → ClassId) (D : va_G) (a sz N : Nat) (f : Nat → Int32) (U : State) : Prop := U.heap.size = sz ∧ va_P D vwCl [(a, .inl (ca 0, N, .inl f))] U.heap ∧ va_K D vwCl (tysA ca) U ∧ Old ad0 (iA a sz) U U.heap
theorem f_blind {ad0 : Nat → Nat} {ca : Nat → ClassId} {D : va_G} {a sz N : Nat} {f : Nat → Int32} {v : Int32} : FrameBlind (va_Pc [.ref a, .int v] (FPre ad0 ca D a sz N f)) := by
  intro a9 U g mk h
  obtain ⟨h1, h2, h3, h4, h5⟩ := h
  exact ⟨h1, h2, h3, va_K.moved (u := U) (U := U.calling g mk a9) (Vm.Alike.refl U.vm) h4, Old.same (u := U) (U := U.calling g mk a9) rfl h5⟩
theorem m_fillK {l : Launch} {ad0 : Nat → Nat} {ca : Nat → ClassId} {D : va_G} {a sz N : Nat} {f : Nat → Int32} {v : Int32} (hN : N < 1000) : Met l yJ7_fill_53178 (Cond.code yJ7_fill_53178 cJ7_fill_53178 4 none :: lw_good) (rmK 1 0 0) (va_Pc [.ref a, .int v] (FPre ad0 ca D a sz N f)) (KPost (fun w => w = [(a, .inl (ca 0, N, .inl (fillR f N v)))]) D (iA a sz)) 0 0 (iA a sz) := by
  refine Met.ofW (cc := cJ7_fill_53178) (maxL := 4) (ret := none) (by decide) rfl ?_
  intro p e s m args below meth c s₁ B hml hv
  obtain ⟨rfl, hsz, hP, hK, hO⟩ := hv
  subst hsz
  have hw : ∀ w ∈ lw_tbl, goodWord w = true → w.before ([Value.ref a, .int v] : List Value).toArray s = true := fun w h1 h2 => atoms_spec (ws := Cond.code yJ7_fill_53178 cJ7_fill_53178 4 none :: lw_good) B.pre w (List.mem_cons_of_mem _ (lw_good_in h1 h2))
  have hl := lv_entry ([.ref a, .int v]) (n := 4) (Nat.le_of_ble_eq_true rfl)
  rw [lg_entry_eq]
  exact fill_walk hN D (iA a s.heap.size) p e s m _ below meth c s.heap [] _ ⟨B.exec, B.bytes, hml, B.returns, findClass_of_methodNamed B.named, hw, hK, B.notSynchronized, fun q hq => Or.inr hq, hO⟩ hP one_D va_S.rf
    (LH.of_has hl (fun i w hw9 => by
      match i, hw9 with
      | 0, hw9 => cases hw9; exact List.mem_cons_self
      | 1, hw9 => cases hw9; exact List.mem_cons_of_mem _ List.mem_cons_self
      | 2, hw9 => cases hw9
      | 3, hw9 => cases hw9
      | i + 4, hw9 => cases hw9))
section KWR3
variable {l : Launch} {fr mc ms : Nat} {y : MethodName} {b : ByteArray} {ad0 : Nat → Nat} {ca : Nat → ClassId} {h0 : Nat} {Pw : va_W → Prop} {pc : Nat} {st : List Value} {ws : va_W} {cells slots : Nat}
theorem kw_fill {index k0 a N : Nat} {g : Nat → Int32} {v : Int32} (ck : CKS y.cls index yJ7_fill_53178 cJ7_fill_53178 4 none 2) (hg : ws[k0]? = some (a, .inl (ca 0, N, .inl g))) (hN : N < 1000) (hfr : 2 ≤ fr) (hcat : (st.map fun v => v.category).sum ≤ 8) (hc : cells ≤ mc) (hs : slots ≤ ms) (hd : decode b pc = .ok (.invokestatic index, 3)) (k : KW l fr mc ms y b ad0 ca h0 Pw (pc + 3) st (ws.set k0 (a, .inl (ca 0, N, .inl (fillR g N v)))) cells slots) : KW l fr mc ms y b ad0 ca h0 Pw pc (.int v :: .ref a :: st) ws cells slots := by
  intro D A p e s m args below meth c H locs lsA hC hNm hO hP hD hS hl
  have hF : ∀ x, iA a H.size x → A x := by
    rintro x (rfl | h)
    · exact hD.2 k0 _ hg
    · exact hC.2.2.2.2.2.2.2.2.1 x (Nat.le_trans hS.1 h)
  have hrun := ck (As := [.ref a, .int v]) (rest := st) (g := F0 m pc lsA (.int v :: .ref a :: st)) hC.1 hC.2.1 hC.2.2.1 hC.2.2.2.2.1 hC.2.2.2.2.2.1 hC.2.2.2.2.2.2.2.2.2.1 (p := p) (e := e) (R := rmK fr mc ms) (below := below) (meth := meth) (H := H) (locs := locs) (cells := cells) (slots := slots) (m_fillK (l := l) (ad0 := ad0) (ca := ca) (D := D) (a := a) (sz := H.size) (f := g) (v := v) hN) rfl rfl ⟨by show 1 + 1 ≤ fr; omega, by show 8 + (4 + 11) + 1 * 64 ≤ fr * 64; omega⟩ ⟨f_blind, fun U hU hW => ⟨rfl, by rw [hU], fun j x hx => by
      have h1 := (List.getElem?_eq_some_iff.mp hx).1
      simp only [List.length_cons, List.length_nil] at h1
      have h2 : j = 0 := by omega
      subst h2
      cases hx
      rw [hU]
      exact hP k0 _ hg, va_K.moved hW.alike hC.2.2.2.2.2.2.1, by
      rw [hU]
      exact ((hC.2.2.2.2.2.2.2.2.2.kept hS.2.1).warm hW).narrow hF⟩⟩ rfl rfl hl.1 rfl (lv_room hcat) hd ⟨hc, hs⟩
  refine va_callv hrun hS (fun x _ h => hF x h) hF (fun u t H1 locs1 ht hvm _ hB hz hk hS1 => ?_)
  obtain ⟨w, hw, hP1, hD1⟩ := hB
  rw [ht] at hP1
  subst hw
  have hP2 : va_P D vwCl (ws.set k0 (a, .inl (ca 0, N, .inl (fillR g N v)))) H1 := fun j x hx => by
    by_cases hj : j = k0
    · subst hj
      rw [List.getElem?_set_self (List.getElem?_eq_some_iff.mp hg).1] at hx
      cases hx
      exact hP1 0 _ rfl
    · rw [List.getElem?_set_ne (fun q => hj q.symm)] at hx
      have hlt := (hP j x hx).lt
      refine (hP j x hx).kept (hk x.1 hlt ?_)
      rintro (h | h)
      · exact hj (hD.1 j k0 x _ hx hg h)
      · omega
  exact k D A p e s m args below meth c H1 locs1 lsA hC hNm hO hP2 (hD.set hg) hS1 hl
end KWR3
