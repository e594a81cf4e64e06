/-! AW: the machine over one static world: places instead of addresses, memory as two functions (ints, longs). -/
abbrev Mm : Type := (Nat → Nat → Int32) × (Nat → Nat → Int64)
/-- what stands at a place: an object (its class's number, its fields: a place, or none: a number), or an array (kind, length, first place of its rows) -/
abbrev Sh : Type := (Nat × List (Option Nat)) ⊕ (Nat × Nat × Nat)
def tyA (k : Nat) : FieldType := match k with
  | 0 => .int
  | 1 => .boolean
  | 2 => .long
  | 3 => .array .int
  | _ => .array .long
def cz (ad : Nat → Nat) (v : Value) : Value := match v with
  | .ref k => .ref (ad k)
  | .null => .null
  | .int x => .int x
  | .long x => .long x
  | .float x => .float x
  | .double x => .double x
  | .retAddr x => .retAddr x
def cf (ad : Nat → Nat) (g : Nat → Int32) (j : Nat) (f : Option Nat) : Value := match f with
  | some p => .ref (ad p)
  | none => .int (g j)
def ca_arr (ad : Nat → Nat) (M : Mm) (k t n b : Nat) : vp_A := match t with
  | 0 => (n, .inl (M.1 k))
  | 1 => (n, .inl (M.1 k))
  | 2 => (n, .inr (.inl (M.2 k)))
  | _ => (n, .inr (.inr (.inr (.inr (fun i => if i < n then some (ad (b + i)) else none)))))
def ce (ad : Nat → Nat) (ca : Nat → ClassId) (M : Mm) (k : Nat) (s : Sh) : va_E := match s with
  | .inl o => .inr (o.1, o.2.mapIdx (fun j f => cf ad (M.1 k) j f))
  | .inr a => .inl (ca a.1, ca_arr ad M k a.1 a.2.1 a.2.2)
def wld (ad : Nat → Nat) (ca : Nat → ClassId) (M : Mm) : va_W := shp.mapIdx (fun k s => (ad k, ce ad ca M k s))
def tysA (ca : Nat → ClassId) : List (ClassId × FieldType) := [(ca 0, .int), (ca 1, .boolean), (ca 2, .long), (ca 3, .array .int), (ca 4, .array .long)]
theorem tysA_get (ca : Nat → ClassId) {t : Nat} (h : t < 5) : (tysA ca)[t]? = some (ca t, tyA t) := by
  match t, h with
  | 0, _ => rfl
  | 1, _ => rfl
  | 2, _ => rfl
  | 3, _ => rfl
  | 4, _ => rfl
theorem wld_get {ad : Nat → Nat} {ca : Nat → ClassId} {M : Mm} {k : Nat} {s : Sh} (h : shp[k]? = some s) : (wld ad ca M)[k]? = some (ad k, ce ad ca M k s) := by
  unfold wld
  rw [List.getElem?_mapIdx, h]
  rfl
theorem wld_out {ad : Nat → Nat} {ca : Nat → ClassId} {M : Mm} {k : Nat} {q : Nat × va_E} (h : (wld ad ca M)[k]? = some q) : ∃ s, shp[k]? = some s ∧ q = (ad k, ce ad ca M k s) := by
  unfold wld at h
  rw [List.getElem?_mapIdx] at h
  cases hs : shp[k]? with
  | none => rw [hs] at h; cases h
  | some s => rw [hs] at h; exact ⟨s, rfl, (Option.some.inj h).symm⟩
/-- one cell changes -/
theorem wld_set {ad : Nat → Nat} {ca : Nat → ClassId} {M M' : Mm} {k : Nat} {s : Sh} {e : va_E} (h : shp[k]? = some s) (he : ce ad ca M' k s = e) (ho : ∀ j, j ≠ k → M'.1 j = M.1 j ∧ M'.2 j = M.2 j) : (wld ad ca M).set k (ad k, e) = wld ad ca M' := by
  apply List.ext_getElem?
  intro i
  by_cases hi : i = k
  · subst hi
    rw [wld_get h, List.getElem?_set]
    have hl : i < (wld ad ca M).length := (List.getElem?_eq_some_iff.mp (wld_get (ad := ad) (ca := ca) (M := M) h)).1
    simp [hl, he]
  · rw [List.getElem?_set, if_neg (fun q => hi q.symm)]
    unfold wld
    rw [List.getElem?_mapIdx, List.getElem?_mapIdx]
    cases hs : shp[i]? with
    | none => rfl
    | some s' =>
      have := ho i hi
      show some (ad i, ce ad ca M i s') = some (ad i, ce ad ca M' i s')
      cases s' with
      | inl o => simp [ce, this.1]
      | inr a => simp only [ce, ca_arr, this.1, this.2]
theorem wD {A : Nat → Prop} {ad : Nat → Nat} {ca : Nat → ClassId} {M M' : Mm} (h : va_D A (wld ad ca M)) : va_D A (wld ad ca M') := by
  refine ⟨fun i j p q hi hj hpq => ?_, fun k q hk => ?_⟩
  · obtain ⟨s1, a1, b1⟩ := wld_out hi
    obtain ⟨s2, a2, b2⟩ := wld_out hj
    refine h.1 i j (ad i, ce ad ca M i s1) (ad j, ce ad ca M j s2) (wld_get a1) (wld_get a2) ?_
    rw [b1, b2] at hpq
    exact hpq
  · obtain ⟨s1, a1, b1⟩ := wld_out hk
    have := h.2 k (ad k, ce ad ca M k s1) (wld_get a1)
    rw [b1]
    exact this
/-- what a method may change -/
def aA (ad : Nat → Nat) (sz : Nat) : Nat → Prop := fun q => (∃ (k : Nat) (s : Sh), shp[k]? = some s ∧ q = ad k) ∨ sz ≤ q
def isNest : Cond → Bool
  | .fieldLinkNest .. => true
  | .methodLinkNest .. => true
  | _ => false
def lawsF (j : Nat) : Int32 := [(12 : Int32), 2, 3, 2, 20, 2, 80].getD j 0
def bodF (j : Nat) : Int32 := [(10 : Int32), 11, 12, 0, 20, 0, 30, 0, 0, 40, 0, 0, 0, 51, 50, 0, 0, 60, 71, 70, 0].getD j 0
def strT (i : Nat) : String := ["catch", "near", "stop", "tire", "half", "see", "stand"].getD i ""
def strL : List Nat := [5, 4, 4, 4, 4, 3, 5]
def strB : List (List Int32) := [[99, 97, 116, 99, 104], [110, 101, 97, 114], [115, 116, 111, 112], [116, 105, 114, 101], [104, 97, 108, 102], [115, 101, 101], [115, 116, 97, 110, 100]]
/-- what was there ahead and stays: words of nest mates, two static arrays, seven texts -/
def Old (ad : Nat → Nat) (A : Nat → Prop) (U : State) (H : Heap) : Prop :=
  (∀ w ∈ lw_tbl, isNest w = true → va_Nw w U) ∧
  (va_Z "ClapTogether" "LAWS_AT_FIRST" "[I" (.ref (ad 1000)) A U H ∧ va_T .int (ad 1000) 7 (fun j => .int (lawsF j)) A U H) ∧
  (va_Z "ClapTogether$Acts" "BODIES" "[I" (.ref (ad 1001)) A U H ∧ va_T .int (ad 1001) 21 (fun j => .int (bodF j)) A U H) ∧
  (va_Z "java/lang/String" "COMPACT_STRINGS" "Z" (.int 1) A U H ∧ (va_Z "jdk/internal/util/Preconditions" "SIOOBE_FORMATTER" "Ljava/util/function/BiFunction;" .null A U H ∨ va_Z "jdk/internal/util/Preconditions" "SIOOBE_FORMATTER" "Ljava/util/function/BiFunction;" (.ref (ad 1002)) A U H)) ∧
  vk_S 7 strL strB (fun i => ad (1010 + i)) (fun i => ad (1020 + i)) A U H ∧
  (∀ i, i < 7 → vk_R "ClapTogether$LawReader" (89 + 2 * i) (strT i) (ad (1010 + i)) U)
theorem Old.same {ad : Nat → Nat} {A : Nat → Prop} {u U : State} {H : Heap} (hv : u.vm = U.vm) (h : Old ad A u H) : Old ad A U H := by
  obtain ⟨h1, ⟨h2, h3⟩, ⟨h4, h5⟩, ⟨h6, h7⟩, h8, h9⟩ := h
  have hal : u.vm.Alike U.vm := by rw [hv]; exact Vm.Alike.refl _
  refine ⟨fun w hw hn => ?_, ⟨h2.moved hal, h3.moved hal⟩, ⟨h4.moved hal, h5.moved hal⟩, ⟨h6.moved hal, h7.imp (fun h => h.moved hal) (fun h => h.moved hal)⟩, h8.moved hal, fun i hi => (h9 i hi).same hv.symm⟩
  have := h1 w hw hn
  cases w <;> first | exact va_tabs rfl hv this | cases hn
theorem Old.warm {ad : Nat → Nat} {A : Nat → Prop} {s U : State} {H : Heap} (hW : s.WarmedH U.vm) (h : Old ad A s H) : Old ad A U H := by
  obtain ⟨h1, ⟨h2, h3⟩, ⟨h4, h5⟩, ⟨h6, h7⟩, h8, h9⟩ := h
  have hal := hW.alike
  refine ⟨fun w hw hn => ?_, ⟨h2.moved hal, h3.moved hal⟩, ⟨h4.moved hal, h5.moved hal⟩, ⟨h6.moved hal, h7.imp (fun h => h.moved hal) (fun h => h.moved hal)⟩, h8.moved hal, fun i hi => (h9 i hi).warm hW⟩
  have := h1 w hw hn
  cases w <;> first | exact va_Nw.warmF hW this | exact va_Nw.warmM hW this | cases hn
theorem Old.kept {ad : Nat → Nat} {A : Nat → Prop} {U : State} {H H1 : Heap} (hq : ∀ a : Nat, a < H.size → ¬ A a → H1[a]? = H[a]?) (h : Old ad A U H) : Old ad A U H1 := by
  obtain ⟨h1, ⟨h2, h3⟩, ⟨h4, h5⟩, ⟨h6, h7⟩, h8, h9⟩ := h
  exact ⟨h1, ⟨h2.kept hq, h3.kept hq⟩, ⟨h4.kept hq, h5.kept hq⟩, ⟨h6.kept hq, h7.imp (fun h => h.kept hq) (fun h => h.kept hq)⟩, h8.kept hq, h9⟩
theorem Old.narrow {ad : Nat → Nat} {A B : Nat → Prop} {U : State} {H : Heap} (hAB : ∀ q, B q → A q) (h : Old ad A U H) : Old ad B U H := by
  obtain ⟨h1, ⟨h2, h3⟩, ⟨h4, h5⟩, ⟨h6, h7⟩, h8, h9⟩ := h
  exact ⟨h1, ⟨h2.narrow hAB, h3.narrow hAB⟩, ⟨h4.narrow hAB, h5.narrow hAB⟩, ⟨h6.narrow hAB, h7.imp (fun h => h.narrow hAB) (fun h => h.narrow hAB)⟩, h8.narrow hAB, h9⟩
def lw_good : List Cond := lw_tbl.filter goodWord
theorem lw_good_in {w : Cond} (h : w ∈ lw_tbl) (hg : goodWord w = true) : w ∈ lw_good := List.mem_filter.mpr ⟨h, hg⟩
def rmD (d : Nat) : Room := { frames := d, cells := 0, slots := 0, locals := d * 64 }
/-- what holds all through a method's body -/
def CX (d : Nat) (y : MethodName) (b : ByteArray) (nL : Nat) (ret : Option FieldType) (ad : Nat → Nat) (ca : Nat → ClassId) (D : va_G) (A : Nat → Prop) (p : Program) (s : State) (m : MethodId) (args : Array Value) (meth : Method) (c : Code) : Prop :=
  p.tables.exec = Jvm.exec ∧ c.code = b ∧ c.maxLocals = nL ∧ meth.sig.returnType = ret ∧ s.vm.findClass y.cls = some m.cls ∧ (∀ w ∈ lw_tbl, goodWord w = true → w.before args s = true) ∧ va_K D vwCl (tysA ca) s ∧ meth.locks = false ∧ (∀ q, s.heap.size ≤ q → A q) ∧ Old ad A s s.heap
/-- the locals -/
def LH (lsA : Array Slot) (nL : Nat) (ad : Nat → Nat) (ls : List (Option Value)) : Prop := lsA.size = nL ∧ lv_wf lsA ∧ ∀ (i : Nat) (v : Value), ls[i]? = some (some v) → lsA[i]? = some (.val (cz ad v))
def QcA (ad : Nat → Nat) (ca : Nat → ClassId) (D : va_G) (A : Nat → Prop) (Q : Option Value → Mm → Prop) : Array Value → State → Outcome → State → Prop := fun _ st oc t =>
  (∃ (r : Option Value) (M' : Mm), oc = .returned (r.map (cz ad)) ∧ Q r M' ∧ va_P D vwCl (wld ad ca M') t.heap) ∧ va_F A st t
def AW (l : Launch) (d : Nat) (y : MethodName) (b : ByteArray) (nL : Nat) (ret : Option FieldType) (pc : Nat) (ls : List (Option Value)) (st : List Value) (M : Mm) (Q : Option Value → Mm → Prop) : Prop :=
  ∀ (ad : Nat → Nat) (ca : Nat → ClassId) (D : va_G) (A : Nat → Prop) (p : Program) (e : Env) (s : State) (m : MethodId) (args : Array Value) (below : List Frame) (meth : Method) (c : Code) (H : Heap) (locs : List Loc) (lsA : Array Slot),
    CX d y b nL ret ad ca D A p s m args meth c → va_P D vwCl (wld ad ca M) H → va_D A (wld ad ca M) → va_S A s.heap H locs → LH lsA nL ad ls →
    W p l e (rmD d) s m args below meth c H locs 0 0 (MQ below (QcA ad ca D A Q) args s 0 0 A) (F0 m pc lsA (st.map (cz ad)))
/-- a method's contract over the world -/
def AMet (l : Launch) (d : Nat) (y : MethodName) (b : ByteArray) (nL : Nat) (ret : Option FieldType) (as : List Value) (M : Mm) (Q : Option Value → Mm → Prop) : Prop :=
  ∀ (ad : Nat → Nat) (ca : Nat → ClassId) (D : va_G) (sz : Nat), Met l y (Cond.code y b nL ret :: lw_good) (rmD d)
    (va_Pc (as.map (cz ad)) (fun U => U.heap.size = sz ∧ va_P D vwCl (wld ad ca M) U.heap ∧ va_K D vwCl (tysA ca) U ∧ va_D (fun _ => True) (wld ad ca M) ∧ Old ad (aA ad sz) U U.heap))
    (QcA ad ca D (aA ad sz) Q) 0 0 (aA ad sz)
theorem AMet.imp {l : Launch} {d : Nat} {y : MethodName} {b : ByteArray} {nL : Nat} {ret : Option FieldType} {as : List Value} {M : Mm} {Q Q' : Option Value → Mm → Prop} (h : AMet l d y b nL ret as M Q) (hq : ∀ r M', Q r M' → Q' r M') : AMet l d y b nL ret as M Q' := by
  intro ad ca D sz
  intro p e ha hc hk s m args below hf happ hP hK
  obtain ⟨n, o, h1, h2, h3, ⟨⟨r, M', ho, hq', hw⟩, hF⟩, L⟩ := h ad ca D sz p e ha hc hk s m args below hf happ hP hK
  exact ⟨n, o, h1, h2, h3, ⟨⟨r, M', ho, hq r M' hq', hw⟩, hF⟩, L⟩
/-- locals at the start -/
def aargs : List Value → List (Option Value)
  | [] => []
  | v :: vs => if v.category = 2 then some v :: none :: aargs vs else some v :: aargs vs
theorem cz_cat (ad : Nat → Nat) (v : Value) : (cz ad v).category = v.category := by cases v <;> rfl
theorem aargs_len (ad : Nat → Nat) : ∀ as : List Value, (lg_sl (as.map (cz ad))).length = (aargs as).length
  | [] => rfl
  | v :: vs => by
    have ih := aargs_len ad vs
    simp only [lg_sl, aargs, List.map_cons, List.flatMap_cons, List.length_append, cz_cat] at ih ⊢
    split
    · simp only [List.length_cons, List.length_nil]; omega
    · simp only [List.length_cons, List.length_nil]; omega
theorem aargs_at (ad : Nat → Nat) : ∀ (as : List Value) (n i : Nat) (v : Value), (aargs as)[i]? = some (some v) → (n + i, cz ad v) ∈ lv_args n (as.map (cz ad))
  | [], n, i, v, h => by simp [aargs] at h
  | w :: vs, n, i, v, h => by
    simp only [aargs] at h
    simp only [List.map_cons, lv_args, cz_cat]
    by_cases hc : w.category = 2
    · rw [if_pos hc] at h ⊢
      match i, h with
      | 0, h => simp at h; subst h; exact List.mem_cons_self
      | 1, h => simp at h
      | i + 2, h =>
        have h' : (aargs vs)[i]? = some (some v) := by simpa using h
        have := aargs_at ad vs (n + 2) i v h'
        rw [show n + (i + 2) = n + 2 + i by omega]
        exact List.mem_cons_of_mem _ this
    · rw [if_neg hc] at h ⊢
      match i, h with
      | 0, h => simp at h; subst h; exact List.mem_cons_self
      | i + 1, h =>
        have h' : (aargs vs)[i]? = some (some v) := by simpa using h
        have := aargs_at ad vs (n + 1) i v h'
        rw [show n + (i + 1) = n + 1 + i by omega]
        exact List.mem_cons_of_mem _ this
theorem LH.of_has {ls : Array Slot} {nL : Nat} {ad : Nat → Nat} {l : List (Nat × Value)} {la : List (Option Value)} (h : lv_has ls nL l) (hm : ∀ i v, la[i]? = some (some v) → (i, cz ad v) ∈ l) : LH ls nL ad la := ⟨h.1, h.2.1, fun i v hv => h.2.2 (i, cz ad v) (hm i v hv)⟩
def lz (ad : Nat → Nat) : Nat → List (Option Value) → List (Nat × Value)
  | _, [] => []
  | n, none :: t => lz ad (n + 1) t
  | n, some v :: t => (n, cz ad v) :: lz ad (n + 1) t
theorem lz_mem (ad : Nat → Nat) : ∀ (la : List (Option Value)) (n i : Nat) (v : Value), la[i]? = some (some v) → (n + i, cz ad v) ∈ lz ad n la
  | [], n, i, v, h => by simp at h
  | none :: t, n, i, v, h => by
    match i, h with
    | 0, h => simp at h
    | i + 1, h =>
      have h' : t[i]? = some (some v) := by simpa using h
      have := lz_mem ad t (n + 1) i v h'
      rw [show n + (i + 1) = n + 1 + i by omega]
      exact this
  | some w :: t, n, i, v, h => by
    match i, h with
    | 0, h => simp at h; subst h; exact List.mem_cons_self
    | i + 1, h =>
      have h' : t[i]? = some (some v) := by simpa using h
      have := lz_mem ad t (n + 1) i v h'
      rw [show n + (i + 1) = n + 1 + i by omega]
      exact List.mem_cons_of_mem _ this
theorem lz_out (ad : Nat → Nat) : ∀ (la : List (Option Value)) (n : Nat) (q : Nat × Value), q ∈ lz ad n la → ∃ i v, la[i]? = some (some v) ∧ q = (n + i, cz ad v)
  | [], n, q, h => by simp [lz] at h
  | none :: t, n, q, h => by
    obtain ⟨i, v, h1, h2⟩ := lz_out ad t (n + 1) q h
    exact ⟨i + 1, v, by simpa using h1, by rw [h2, show n + 1 + i = n + (i + 1) by omega]⟩
  | some w :: t, n, q, h => by
    rcases List.mem_cons.mp h with h | h
    · exact ⟨0, w, rfl, h⟩
    · obtain ⟨i, v, h1, h2⟩ := lz_out ad t (n + 1) q h
      exact ⟨i + 1, v, by simpa using h1, by rw [h2, show n + 1 + i = n + (i + 1) by omega]⟩
theorem LH.has {lsA : Array Slot} {nL : Nat} {ad : Nat → Nat} {la : List (Option Value)} (h : LH lsA nL ad la) : lv_has lsA nL (lz ad 0 la) := by
  refine ⟨h.1, h.2.1, fun q hq => ?_⟩
  obtain ⟨i, v, h1, h2⟩ := lz_out ad la 0 q hq
  subst h2
  rw [Nat.zero_add]
  exact h.2.2 i v h1
/-- a store: the place, and what stood half in it -/
def is2 (o : Option Value) : Bool := match o with
  | some (.long _) => true
  | some (.double _) => true
  | _ => false
def lset (la : List (Option Value)) (i : Nat) (v : Value) : List (Option Value) := match la, i with
  | [], _ => []
  | _ :: t, 0 => some v :: t
  | a :: t, i + 1 => (if i = 0 ∧ is2 a = true then none else a) :: lset t i v
def lset2 (la : List (Option Value)) (i : Nat) (v : Value) : List (Option Value) := match la, i with
  | [], _ => []
  | _ :: t, 0 => some v :: (match t with | [] => [] | _ :: t2 => none :: t2)
  | a :: t, i + 1 => (if i = 0 ∧ is2 a = true then none else a) :: lset2 t i v
theorem is2_cat {v : Value} : is2 (some v) = (v.category == 2) := by cases v <;> rfl
theorem lset_at : ∀ (la : List (Option Value)) (i : Nat) (v : Value) (j : Nat) (w : Value), (lset la i v)[j]? = some (some w) → (j = i ∧ w = v) ∨ (j ≠ i ∧ la[j]? = some (some w) ∧ ¬ (j + 1 = i ∧ w.category = 2))
  | [], i, v, j, w, h => by simp [lset] at h
  | a :: t, 0, v, j, w, h => by
    match j, h with
    | 0, h => simp [lset] at h; exact Or.inl ⟨rfl, h.symm⟩
    | j + 1, h => simp [lset] at h; exact Or.inr ⟨by omega, by simpa using h, by omega⟩
  | a :: t, i + 1, v, j, w, h => by
    match j, h with
    | 0, h =>
      simp only [lset, List.getElem?_cons_zero, Option.some.injEq] at h
      refine Or.inr ⟨by omega, ?_, ?_⟩
      · split at h
        · cases h
        · simp [h]
      · rintro ⟨h1, h2⟩
        split at h
        · cases h
        · rename_i hn
          exact hn ⟨by omega, by rw [h, is2_cat, h2]; rfl⟩
    | j + 1, h =>
      simp only [lset, List.getElem?_cons_succ] at h
      rcases lset_at t i v j w h with ⟨h1, h2⟩ | ⟨h1, h2, h3⟩
      · exact Or.inl ⟨by omega, h2⟩
      · exact Or.inr ⟨by omega, by simpa using h2, fun q => h3 ⟨by omega, q.2⟩⟩
theorem lset2_at : ∀ (la : List (Option Value)) (i : Nat) (v : Value) (j : Nat) (w : Value), (lset2 la i v)[j]? = some (some w) → (j = i ∧ w = v) ∨ (j ≠ i ∧ j ≠ i + 1 ∧ la[j]? = some (some w) ∧ ¬ (j + 1 = i ∧ w.category = 2))
  | [], i, v, j, w, h => by simp [lset2] at h
  | a :: t, 0, v, j, w, h => by
    match j, h with
    | 0, h => simp [lset2] at h; exact Or.inl ⟨rfl, h.symm⟩
    | 1, h => cases t <;> simp [lset2] at h
    | j + 2, h => cases t with
      | nil => simp [lset2] at h
      | cons b t => simp [lset2] at h; exact Or.inr ⟨by omega, by omega, by simpa using h, by omega⟩
  | a :: t, i + 1, v, j, w, h => by
    match j, h with
    | 0, h =>
      simp only [lset2, List.getElem?_cons_zero, Option.some.injEq] at h
      refine Or.inr ⟨by omega, by omega, ?_, ?_⟩
      · split at h
        · cases h
        · simp [h]
      · rintro ⟨h1, h2⟩
        split at h
        · cases h
        · rename_i hn
          exact hn ⟨by omega, by rw [h, is2_cat, h2]; rfl⟩
    | j + 1, h =>
      simp only [lset2, List.getElem?_cons_succ] at h
      rcases lset2_at t i v j w h with ⟨h1, h2⟩ | ⟨h1, h2, h3, h4⟩
      · exact Or.inl ⟨by omega, h2⟩
      · exact Or.inr ⟨by omega, by omega, by simpa using h3, fun q => h4 ⟨by omega, q.2⟩⟩
theorem LH.set {lsA : Array Slot} {nL i : Nat} {ad : Nat → Nat} {la : List (Option Value)} {v : Value} (h : lv_has lsA nL ((i, cz ad v) :: (lz ad 0 la).filter (fun q => !(q.1 == i) && !(q.1 + 1 == i && q.2.category == 2)))) : LH lsA nL ad (lset la i v) := by
  refine LH.of_has h (fun j w hj => ?_)
  rcases lset_at la i v j w hj with ⟨rfl, rfl⟩ | ⟨h1, h2, h3⟩
  · exact List.mem_cons_self
  · refine List.mem_cons_of_mem _ (List.mem_filter.mpr ⟨by have := lz_mem ad la 0 j w h2; rw [Nat.zero_add] at this; exact this, ?_⟩)
    have h4 : (j + 1 == i && (cz ad w).category == 2) = false := by
      rw [cz_cat, Bool.and_eq_false_iff]
      by_cases q : j + 1 = i
      · exact Or.inr (by simp; exact fun q2 => h3 ⟨q, q2⟩)
      · exact Or.inl (by simp [q])
    simp [h1, h4]
theorem LH.set2 {lsA : Array Slot} {nL i : Nat} {ad : Nat → Nat} {la : List (Option Value)} {v : Value} (h : lv_has lsA nL ((i, cz ad v) :: (lz ad 0 la).filter (fun q => !(q.1 == i) && (!(q.1 == i + 1) && !(q.1 + 1 == i && q.2.category == 2))))) : LH lsA nL ad (lset2 la i v) := by
  refine LH.of_has h (fun j w hj => ?_)
  rcases lset2_at la i v j w hj with ⟨rfl, rfl⟩ | ⟨h1, h0, h2, h3⟩
  · exact List.mem_cons_self
  · refine List.mem_cons_of_mem _ (List.mem_filter.mpr ⟨by have := lz_mem ad la 0 j w h2; rw [Nat.zero_add] at this; exact this, ?_⟩)
    have h4 : (j + 1 == i && (cz ad w).category == 2) = false := by
      rw [cz_cat, Bool.and_eq_false_iff]
      by_cases q : j + 1 = i
      · exact Or.inr (by simp; exact fun q2 => h3 ⟨q, q2⟩)
      · exact Or.inl (by simp [q])
    simp [h1, h0, h4]
/-- fewer locals -/
def lle : List (Option Value) → List (Option Value) → Prop
  | [], _ => True
  | none :: t, [] => lle t []
  | none :: t, _ :: t2 => lle t t2
  | some v :: t, [] => False
  | some v :: t, o :: t2 => o = some v ∧ lle t t2
theorem lle_at : ∀ (la lb : List (Option Value)) (i : Nat) (v : Value), lle la lb → la[i]? = some (some v) → lb[i]? = some (some v)
  | [], lb, i, v, _, h => by simp at h
  | none :: t, [], i, v, hl, h => by
    match i, h with
    | 0, h => simp at h
    | i + 1, h =>
      have := lle_at t [] i v hl (by simpa using h)
      simp at this
  | none :: t, b :: t2, i, v, hl, h => by
    match i, h with
    | 0, h => simp at h
    | i + 1, h =>
      have := lle_at t t2 i v hl (by simpa using h)
      simpa using this
  | some w :: t, [], i, v, hl, h => hl.elim
  | some w :: t, o :: t2, i, v, hl, h => by
    match i, h with
    | 0, h => rw [hl.1]; simpa using h
    | i + 1, h =>
      have := lle_at t t2 i v hl.2 (by simpa using h)
      simpa using this
section AWR
variable {l : Launch} {d : Nat} {y : MethodName} {b : ByteArray} {nL : Nat} {ret : Option FieldType} {pc : Nat} {ls : List (Option Value)} {st : List Value} {M : Mm} {Q : Option Value → Mm → Prop}
theorem aw_loc {la : List (Option Value)} (h : lle la ls) (k : AW l d y b nL ret pc la st M Q) : AW l d y b nL ret pc ls st M Q := by
  intro ad ca D A p e s m args below meth c H locs lsA hC hP hD hS hl
  exact k ad ca D A p e s m args below meth c H locs lsA hC hP hD hS ⟨hl.1, hl.2.1, fun i v hv => hl.2.2 i v (lle_at la ls i v h hv)⟩

theorem aw_iconst {n : Int} {v : Int32} (hd : decode b pc = .ok (.iconst n, 1)) (hv : Int32.ofInt n = v)
    (k : AW l d y b nL ret (pc + 1) ls (.int v :: st) M Q) : AW l d y b nL ret pc ls st M Q := by
  intro ad ca D A p e s m args below meth c H locs lsA hC hP hD hS hl
  exact lv_iconst hC.1 hC.2.1 hd hv (k ad ca D A p e s m args below meth c H locs lsA hC hP hD hS hl)
theorem aw_bipush {n : Int} {v : Int32} (hd : decode b pc = .ok (.bipush n, 2)) (hv : (Int8.ofInt n).toInt32 = v)
    (k : AW l d y b nL ret (pc + 2) ls (.int v :: st) M Q) : AW l d y b nL ret pc ls st M Q := by
  intro ad ca D A p e s m args below meth c H locs lsA hC hP hD hS hl
  exact lv_bipush hC.1 hC.2.1 hd hv (k ad ca D A p e s m args below meth c H locs lsA hC hP hD hS hl)
theorem aw_sipush {n : Int} {v : Int32} (hd : decode b pc = .ok (.sipush n, 3)) (hv : (Int16.ofInt n).toInt32 = v)
    (k : AW l d y b nL ret (pc + 3) ls (.int v :: st) M Q) : AW l d y b nL ret pc ls st M Q := by
  intro ad ca D A p e s m args below meth c H locs lsA hC hP hD hS hl
  exact lv_sipush hC.1 hC.2.1 hd hv (k ad ca D A p e s m args below meth c H locs lsA hC hP hD hS hl)
theorem aw_lconst {n : Fin 2} {v : Int64} (hd : decode b pc = .ok (.lconst n, 1)) (hv : Int64.ofNat (n : Nat) = v)
    (k : AW l d y b nL ret (pc + 1) ls (.long v :: st) M Q) : AW l d y b nL ret pc ls st M Q := by
  intro ad ca D A p e s m args below meth c H locs lsA hC hP hD hS hl
  exact lv_lconst hC.1 hC.2.1 hd hv (k ad ca D A p e s m args below meth c H locs lsA hC hP hD hS hl)
theorem aw_iload_n {j : Fin 4} {i : Nat} {x : Int32} (hd : decode b pc = .ok (.iload_n j, 1)) (hi : (j : Nat) = i) (hl9 : ls[i]? = some (some (.int x)))
    (k : AW l d y b nL ret (pc + 1) ls (.int x :: st) M Q) : AW l d y b nL ret pc ls st M Q := by
  intro ad ca D A p e s m args below meth c H locs lsA hC hP hD hS hl
  exact lv_iload_n hC.1 hC.2.1 hd hi (hl.2.2 i _ hl9) (k ad ca D A p e s m args below meth c H locs lsA hC hP hD hS hl)
theorem aw_iload {i : Nat} {x : Int32} (hd : decode b pc = .ok (.iload i, 2)) (hl9 : ls[i]? = some (some (.int x)))
    (k : AW l d y b nL ret (pc + 2) ls (.int x :: st) M Q) : AW l d y b nL ret pc ls st M Q := by
  intro ad ca D A p e s m args below meth c H locs lsA hC hP hD hS hl
  exact lv_iload hC.1 hC.2.1 hd (hl.2.2 i _ hl9) (k ad ca D A p e s m args below meth c H locs lsA hC hP hD hS hl)
theorem aw_lload_n {j : Fin 4} {i : Nat} {x : Int64} (hd : decode b pc = .ok (.lload_n j, 1)) (hi : (j : Nat) = i) (hl9 : ls[i]? = some (some (.long x)))
    (k : AW l d y b nL ret (pc + 1) ls (.long x :: st) M Q) : AW l d y b nL ret pc ls st M Q := by
  intro ad ca D A p e s m args below meth c H locs lsA hC hP hD hS hl
  exact lv_lload_n hC.1 hC.2.1 hd hi (hl.2.2 i _ hl9) (k ad ca D A p e s m args below meth c H locs lsA hC hP hD hS hl)
theorem aw_lload {i : Nat} {x : Int64} (hd : decode b pc = .ok (.lload i, 2)) (hl9 : ls[i]? = some (some (.long x)))
    (k : AW l d y b nL ret (pc + 2) ls (.long x :: st) M Q) : AW l d y b nL ret pc ls st M Q := by
  intro ad ca D A p e s m args below meth c H locs lsA hC hP hD hS hl
  exact lv_lload hC.1 hC.2.1 hd (hl.2.2 i _ hl9) (k ad ca D A p e s m args below meth c H locs lsA hC hP hD hS hl)
theorem aw_aload_n {j : Fin 4} {i : Nat} {x : Nat} (hd : decode b pc = .ok (.aload_n j, 1)) (hi : (j : Nat) = i) (hl9 : ls[i]? = some (some (.ref x)))
    (k : AW l d y b nL ret (pc + 1) ls (.ref x :: st) M Q) : AW l d y b nL ret pc ls st M Q := by
  intro ad ca D A p e s m args below meth c H locs lsA hC hP hD hS hl
  exact lv_aload_n hC.1 hC.2.1 hd hi (hl.2.2 i _ hl9) (k ad ca D A p e s m args below meth c H locs lsA hC hP hD hS hl)
theorem aw_aload {i : Nat} {x : Nat} (hd : decode b pc = .ok (.aload i, 2)) (hl9 : ls[i]? = some (some (.ref x)))
    (k : AW l d y b nL ret (pc + 2) ls (.ref x :: st) M Q) : AW l d y b nL ret pc ls st M Q := by
  intro ad ca D A p e s m args below meth c H locs lsA hC hP hD hS hl
  exact lv_aload hC.1 hC.2.1 hd (hl.2.2 i _ hl9) (k ad ca D A p e s m args below meth c H locs lsA hC hP hD hS hl)
theorem aw_istore_n {j : Fin 4} {i : Nat} {x : Int32} (hd : decode b pc = .ok (.istore_n j, 1)) (hi : (j : Nat) = i) (hn : i < nL)
    (k : AW l d y b nL ret (pc + 1) (lset ls i (.int x)) st M Q) : AW l d y b nL ret pc ls (.int x :: st) M Q := by
  intro ad ca D A p e s m args below meth c H locs lsA hC hP hD hS hl
  exact lv_istore_n hC.1 hC.2.1 hd hi hl.has hn rfl (fun ls9 h9 => k ad ca D A p e s m args below meth c H locs ls9 hC hP hD hS (LH.set (v := .int x) h9))
theorem aw_istore {i : Nat} {x : Int32} (hd : decode b pc = .ok (.istore i, 2)) (hn : i < nL)
    (k : AW l d y b nL ret (pc + 2) (lset ls i (.int x)) st M Q) : AW l d y b nL ret pc ls (.int x :: st) M Q := by
  intro ad ca D A p e s m args below meth c H locs lsA hC hP hD hS hl
  exact lv_istore hC.1 hC.2.1 hd hl.has hn rfl (fun ls9 h9 => k ad ca D A p e s m args below meth c H locs ls9 hC hP hD hS (LH.set (v := .int x) h9))
theorem aw_astore_n {j : Fin 4} {i : Nat} {x : Nat} (hd : decode b pc = .ok (.astore_n j, 1)) (hi : (j : Nat) = i) (hn : i < nL)
    (k : AW l d y b nL ret (pc + 1) (lset ls i (.ref x)) st M Q) : AW l d y b nL ret pc ls (.ref x :: st) M Q := by
  intro ad ca D A p e s m args below meth c H locs lsA hC hP hD hS hl
  exact lv_astore_n hC.1 hC.2.1 hd hi hl.has hn rfl (fun ls9 h9 => k ad ca D A p e s m args below meth c H locs ls9 hC hP hD hS (LH.set (v := .ref x) h9))
theorem aw_astore {i : Nat} {x : Nat} (hd : decode b pc = .ok (.astore i, 2)) (hn : i < nL)
    (k : AW l d y b nL ret (pc + 2) (lset ls i (.ref x)) st M Q) : AW l d y b nL ret pc ls (.ref x :: st) M Q := by
  intro ad ca D A p e s m args below meth c H locs lsA hC hP hD hS hl
  exact lv_astore hC.1 hC.2.1 hd hl.has hn rfl (fun ls9 h9 => k ad ca D A p e s m args below meth c H locs ls9 hC hP hD hS (LH.set (v := .ref x) h9))
theorem aw_lstore_n {j : Fin 4} {i : Nat} {x : Int64} (hd : decode b pc = .ok (.lstore_n j, 1)) (hi : (j : Nat) = i) (hn : i + 1 < nL)
    (k : AW l d y b nL ret (pc + 1) (lset2 ls i (.long x)) st M Q) : AW l d y b nL ret pc ls (.long x :: st) M Q := by
  intro ad ca D A p e s m args below meth c H locs lsA hC hP hD hS hl
  exact lv_lstore_n hC.1 hC.2.1 hd hi hl.has hn rfl (fun ls9 h9 => k ad ca D A p e s m args below meth c H locs ls9 hC hP hD hS (LH.set2 (v := .long x) h9))
theorem aw_iinc {i : Nat} {n : Int} {x v : Int32} (hd : decode b pc = .ok (.iinc i n, 3)) (hl9 : ls[i]? = some (some (.int x))) (hv : x + Int32.ofInt n = v) (hn : i < nL)
    (k : AW l d y b nL ret (pc + 3) (lset ls i (.int v)) st M Q) : AW l d y b nL ret pc ls st M Q := by
  intro ad ca D A p e s m args below meth c H locs lsA hC hP hD hS hl
  obtain ⟨k0, hk0⟩ := List.getElem?_of_mem (lz_mem ad ls 0 i _ hl9)
  rw [Nat.zero_add] at hk0
  exact lv_iinc hC.1 hC.2.1 hd hl.has hk0 hv hn rfl (fun ls9 h9 => k ad ca D A p e s m args below meth c H locs ls9 hC hP hD hS (LH.set (v := .int v) h9))
theorem aw_iadd {x z : Int32} (hd : decode b pc = .ok (.iadd, 1))
    (k : AW l d y b nL ret (pc + 1) ls (.int (x + z) :: st) M Q) : AW l d y b nL ret pc ls (.int z :: .int x :: st) M Q := by
  intro ad ca D A p e s m args below meth c H locs lsA hC hP hD hS hl
  exact lv_iadd hC.1 hC.2.1 hd (k ad ca D A p e s m args below meth c H locs lsA hC hP hD hS hl)
theorem aw_isub {x z : Int32} (hd : decode b pc = .ok (.isub, 1))
    (k : AW l d y b nL ret (pc + 1) ls (.int (x - z) :: st) M Q) : AW l d y b nL ret pc ls (.int z :: .int x :: st) M Q := by
  intro ad ca D A p e s m args below meth c H locs lsA hC hP hD hS hl
  exact lv_isub hC.1 hC.2.1 hd (k ad ca D A p e s m args below meth c H locs lsA hC hP hD hS hl)
theorem aw_imul {x z : Int32} (hd : decode b pc = .ok (.imul, 1))
    (k : AW l d y b nL ret (pc + 1) ls (.int (x * z) :: st) M Q) : AW l d y b nL ret pc ls (.int z :: .int x :: st) M Q := by
  intro ad ca D A p e s m args below meth c H locs lsA hC hP hD hS hl
  exact lv_imul hC.1 hC.2.1 hd (k ad ca D A p e s m args below meth c H locs lsA hC hP hD hS hl)
theorem aw_iand {x z : Int32} (hd : decode b pc = .ok (.iand, 1))
    (k : AW l d y b nL ret (pc + 1) ls (.int (x &&& z) :: st) M Q) : AW l d y b nL ret pc ls (.int z :: .int x :: st) M Q := by
  intro ad ca D A p e s m args below meth c H locs lsA hC hP hD hS hl
  exact lv_iand hC.1 hC.2.1 hd (k ad ca D A p e s m args below meth c H locs lsA hC hP hD hS hl)
theorem aw_ior {x z : Int32} (hd : decode b pc = .ok (.ior, 1))
    (k : AW l d y b nL ret (pc + 1) ls (.int (x ||| z) :: st) M Q) : AW l d y b nL ret pc ls (.int z :: .int x :: st) M Q := by
  intro ad ca D A p e s m args below meth c H locs lsA hC hP hD hS hl
  exact lv_ior hC.1 hC.2.1 hd (k ad ca D A p e s m args below meth c H locs lsA hC hP hD hS hl)
theorem aw_ixor {x z : Int32} (hd : decode b pc = .ok (.ixor, 1))
    (k : AW l d y b nL ret (pc + 1) ls (.int (x ^^^ z) :: st) M Q) : AW l d y b nL ret pc ls (.int z :: .int x :: st) M Q := by
  intro ad ca D A p e s m args below meth c H locs lsA hC hP hD hS hl
  exact lv_ixor hC.1 hC.2.1 hd (k ad ca D A p e s m args below meth c H locs lsA hC hP hD hS hl)
theorem aw_ishl {x z : Int32} (hd : decode b pc = .ok (.ishl, 1))
    (k : AW l d y b nL ret (pc + 1) ls (.int (x <<< (z &&& 31)) :: st) M Q) : AW l d y b nL ret pc ls (.int z :: .int x :: st) M Q := by
  intro ad ca D A p e s m args below meth c H locs lsA hC hP hD hS hl
  exact lv_ishl hC.1 hC.2.1 hd (k ad ca D A p e s m args below meth c H locs lsA hC hP hD hS hl)
theorem aw_ishr {x z : Int32} (hd : decode b pc = .ok (.ishr, 1))
    (k : AW l d y b nL ret (pc + 1) ls (.int (x >>> (z &&& 31)) :: st) M Q) : AW l d y b nL ret pc ls (.int z :: .int x :: st) M Q := by
  intro ad ca D A p e s m args below meth c H locs lsA hC hP hD hS hl
  exact lv_ishr hC.1 hC.2.1 hd (k ad ca D A p e s m args below meth c H locs lsA hC hP hD hS hl)
theorem aw_idiv {x z : Int32} (hd : decode b pc = .ok (.idiv, 1)) (hne : ¬ z = 0)
    (k : AW l d y b nL ret (pc + 1) ls (.int (x / z) :: st) M Q) : AW l d y b nL ret pc ls (.int z :: .int x :: st) M Q := by
  intro ad ca D A p e s m args below meth c H locs lsA hC hP hD hS hl
  exact lv_idiv hC.1 hC.2.1 hd hne (k ad ca D A p e s m args below meth c H locs lsA hC hP hD hS hl)
theorem aw_irem {x z : Int32} (hd : decode b pc = .ok (.irem, 1)) (hne : ¬ z = 0)
    (k : AW l d y b nL ret (pc + 1) ls (.int (x - x / z * z) :: st) M Q) : AW l d y b nL ret pc ls (.int z :: .int x :: st) M Q := by
  intro ad ca D A p e s m args below meth c H locs lsA hC hP hD hS hl
  exact lv_irem hC.1 hC.2.1 hd hne (k ad ca D A p e s m args below meth c H locs lsA hC hP hD hS hl)
theorem aw_ineg {x : Int32} (hd : decode b pc = .ok (.ineg, 1))
    (k : AW l d y b nL ret (pc + 1) ls (.int (-x) :: st) M Q) : AW l d y b nL ret pc ls (.int x :: st) M Q := by
  intro ad ca D A p e s m args below meth c H locs lsA hC hP hD hS hl
  exact lv_ineg hC.1 hC.2.1 hd (k ad ca D A p e s m args below meth c H locs lsA hC hP hD hS hl)
theorem aw_ladd {x z : Int64} (hd : decode b pc = .ok (.ladd, 1))
    (k : AW l d y b nL ret (pc + 1) ls (.long (x + z) :: st) M Q) : AW l d y b nL ret pc ls (.long z :: .long x :: st) M Q := by
  intro ad ca D A p e s m args below meth c H locs lsA hC hP hD hS hl
  exact lv_ladd hC.1 hC.2.1 hd (k ad ca D A p e s m args below meth c H locs lsA hC hP hD hS hl)
theorem aw_land {x z : Int64} (hd : decode b pc = .ok (.land, 1))
    (k : AW l d y b nL ret (pc + 1) ls (.long (x &&& z) :: st) M Q) : AW l d y b nL ret pc ls (.long z :: .long x :: st) M Q := by
  intro ad ca D A p e s m args below meth c H locs lsA hC hP hD hS hl
  exact lv_land hC.1 hC.2.1 hd (k ad ca D A p e s m args below meth c H locs lsA hC hP hD hS hl)
theorem aw_lor {x z : Int64} (hd : decode b pc = .ok (.lor, 1))
    (k : AW l d y b nL ret (pc + 1) ls (.long (x ||| z) :: st) M Q) : AW l d y b nL ret pc ls (.long z :: .long x :: st) M Q := by
  intro ad ca D A p e s m args below meth c H locs lsA hC hP hD hS hl
  exact lv_lor hC.1 hC.2.1 hd (k ad ca D A p e s m args below meth c H locs lsA hC hP hD hS hl)
theorem aw_iushr {x z : Int32} (hd : decode b pc = .ok (.iushr, 1))
    (k : AW l d y b nL ret (pc + 1) ls (.int ((x.toUInt32 >>> (z.toUInt32 &&& Int32.toUInt32 31)).toInt32) :: st) M Q) : AW l d y b nL ret pc ls (.int z :: .int x :: st) M Q := by
  intro ad ca D A p e s m args below meth c H locs lsA hC hP hD hS hl
  exact lv_iushr hC.1 hC.2.1 hd rfl (k ad ca D A p e s m args below meth c H locs lsA hC hP hD hS hl)
theorem aw_lshl {x : Int64} {z : Int32} (hd : decode b pc = .ok (.lshl, 1))
    (k : AW l d y b nL ret (pc + 1) ls (.long (x <<< (z.toInt64 &&& 63)) :: st) M Q) : AW l d y b nL ret pc ls (.int z :: .long x :: st) M Q := by
  intro ad ca D A p e s m args below meth c H locs lsA hC hP hD hS hl
  exact lv_lshl hC.1 hC.2.1 hd rfl (k ad ca D A p e s m args below meth c H locs lsA hC hP hD hS hl)
theorem aw_lshr {x : Int64} {z : Int32} (hd : decode b pc = .ok (.lshr, 1))
    (k : AW l d y b nL ret (pc + 1) ls (.long (x >>> (z.toInt64 &&& 63)) :: st) M Q) : AW l d y b nL ret pc ls (.int z :: .long x :: st) M Q := by
  intro ad ca D A p e s m args below meth c H locs lsA hC hP hD hS hl
  exact lv_lshr hC.1 hC.2.1 hd rfl (k ad ca D A p e s m args below meth c H locs lsA hC hP hD hS hl)
theorem aw_i2l {x : Int32} (hd : decode b pc = .ok (.i2l, 1))
    (k : AW l d y b nL ret (pc + 1) ls (.long x.toInt64 :: st) M Q) : AW l d y b nL ret pc ls (.int x :: st) M Q := by
  intro ad ca D A p e s m args below meth c H locs lsA hC hP hD hS hl
  exact lv_i2l hC.1 hC.2.1 hd rfl (k ad ca D A p e s m args below meth c H locs lsA hC hP hD hS hl)
theorem aw_l2i {x : Int64} (hd : decode b pc = .ok (.l2i, 1))
    (k : AW l d y b nL ret (pc + 1) ls (.int x.toInt32 :: st) M Q) : AW l d y b nL ret pc ls (.long x :: st) M Q := by
  intro ad ca D A p e s m args below meth c H locs lsA hC hP hD hS hl
  exact lv_l2i hC.1 hC.2.1 hd rfl (k ad ca D A p e s m args below meth c H locs lsA hC hP hD hS hl)
theorem aw_i2b {x : Int32} (hd : decode b pc = .ok (.i2b, 1))
    (k : AW l d y b nL ret (pc + 1) ls (.int x.toInt8.toInt32 :: st) M Q) : AW l d y b nL ret pc ls (.int x :: st) M Q := by
  intro ad ca D A p e s m args below meth c H locs lsA hC hP hD hS hl
  exact lv_i2b hC.1 hC.2.1 hd rfl (k ad ca D A p e s m args below meth c H locs lsA hC hP hD hS hl)
theorem aw_i2s {x : Int32} (hd : decode b pc = .ok (.i2s, 1))
    (k : AW l d y b nL ret (pc + 1) ls (.int x.toInt16.toInt32 :: st) M Q) : AW l d y b nL ret pc ls (.int x :: st) M Q := by
  intro ad ca D A p e s m args below meth c H locs lsA hC hP hD hS hl
  exact lv_i2s hC.1 hC.2.1 hd rfl (k ad ca D A p e s m args below meth c H locs lsA hC hP hD hS hl)
theorem aw_i2c {x : Int32} (hd : decode b pc = .ok (.i2c, 1))
    (k : AW l d y b nL ret (pc + 1) ls (.int (x.toUInt32 % 65536).toInt32 :: st) M Q) : AW l d y b nL ret pc ls (.int x :: st) M Q := by
  intro ad ca D A p e s m args below meth c H locs lsA hC hP hD hS hl
  exact lv_i2c hC.1 hC.2.1 hd rfl (k ad ca D A p e s m args below meth c H locs lsA hC hP hD hS hl)
theorem aw_lcmp {x z : Int64} (hd : decode b pc = .ok (.lcmp, 1))
    (k : AW l d y b nL ret (pc + 1) ls (.int (lg_cmp x z) :: st) M Q) : AW l d y b nL ret pc ls (.long z :: .long x :: st) M Q := by
  intro ad ca D A p e s m args below meth c H locs lsA hC hP hD hS hl
  exact W.lcmp hC.1 hC.2.1 hd (k ad ca D A p e s m args below meth c H locs lsA hC hP hD hS hl)
theorem aw_dup {x : Value} (hd : decode b pc = .ok (.dup, 1)) (hx : x.category = 1)
    (k : AW l d y b nL ret (pc + 1) ls (x :: x :: st) M Q) : AW l d y b nL ret pc ls (x :: st) M Q := by
  intro ad ca D A p e s m args below meth c H locs lsA hC hP hD hS hl
  exact lv_dup hC.1 hC.2.1 hd (by rw [cz_cat]; exact hx) (k ad ca D A p e s m args below meth c H locs lsA hC hP hD hS hl)
theorem aw_pop {x : Value} (hd : decode b pc = .ok (.pop, 1)) (hx : x.category = 1)
    (k : AW l d y b nL ret (pc + 1) ls st M Q) : AW l d y b nL ret pc ls (x :: st) M Q := by
  intro ad ca D A p e s m args below meth c H locs lsA hC hP hD hS hl
  exact lv_pop hC.1 hC.2.1 hd (by rw [cz_cat]; exact hx) (k ad ca D A p e s m args below meth c H locs lsA hC hP hD hS hl)
theorem aw_dup_x1 {x z : Value} (hd : decode b pc = .ok (.dup_x1, 1)) (hx : x.category = 1) (hz : z.category = 1)
    (k : AW l d y b nL ret (pc + 1) ls (x :: z :: x :: st) M Q) : AW l d y b nL ret pc ls (x :: z :: st) M Q := by
  intro ad ca D A p e s m args below meth c H locs lsA hC hP hD hS hl
  exact lv_dup_x1 hC.1 hC.2.1 hd (by rw [cz_cat]; exact hx) (by rw [cz_cat]; exact hz) (k ad ca D A p e s m args below meth c H locs lsA hC hP hD hS hl)
theorem aw_dup2 {x z : Value} (hd : decode b pc = .ok (.dup2, 1)) (hx : x.category = 1) (hz : z.category = 1)
    (k : AW l d y b nL ret (pc + 1) ls (x :: z :: x :: z :: st) M Q) : AW l d y b nL ret pc ls (x :: z :: st) M Q := by
  intro ad ca D A p e s m args below meth c H locs lsA hC hP hD hS hl
  exact lv_dup2_11 hC.1 hC.2.1 hd (by rw [cz_cat]; exact hx) (by rw [cz_cat]; exact hz) (k ad ca D A p e s m args below meth c H locs lsA hC hP hD hS hl)
theorem aw_if_eq {x : Int32} {off : Int} {tgt : Nat} (hd : decode b pc = .ok (.ifCond .eq off, 3)) (ht : (pc : Int) + off = (tgt : Int))
    (kt : x = 0 → AW l d y b nL ret tgt ls st M Q) (kf : ¬ (x = 0) → AW l d y b nL ret (pc + 3) ls st M Q) : AW l d y b nL ret pc ls (.int x :: st) M Q := by
  intro ad ca D A p e s m args below meth c H locs lsA hC hP hD hS hl
  exact lv_if_eq hC.1 hC.2.1 hd ht (fun h9 => kt h9 ad ca D A p e s m args below meth c H locs lsA hC hP hD hS hl) (fun h9 => kf h9 ad ca D A p e s m args below meth c H locs lsA hC hP hD hS hl)
theorem aw_if_ne {x : Int32} {off : Int} {tgt : Nat} (hd : decode b pc = .ok (.ifCond .ne off, 3)) (ht : (pc : Int) + off = (tgt : Int))
    (kt : ¬ x = 0 → AW l d y b nL ret tgt ls st M Q) (kf : x = 0 → AW l d y b nL ret (pc + 3) ls st M Q) : AW l d y b nL ret pc ls (.int x :: st) M Q := by
  intro ad ca D A p e s m args below meth c H locs lsA hC hP hD hS hl
  exact lv_if_ne hC.1 hC.2.1 hd ht (fun h9 => kt h9 ad ca D A p e s m args below meth c H locs lsA hC hP hD hS hl) (fun h9 => kf h9 ad ca D A p e s m args below meth c H locs lsA hC hP hD hS hl)
theorem aw_if_lt {x : Int32} {off : Int} {tgt : Nat} (hd : decode b pc = .ok (.ifCond .lt off, 3)) (ht : (pc : Int) + off = (tgt : Int))
    (kt : x < 0 → AW l d y b nL ret tgt ls st M Q) (kf : ¬ (x < 0) → AW l d y b nL ret (pc + 3) ls st M Q) : AW l d y b nL ret pc ls (.int x :: st) M Q := by
  intro ad ca D A p e s m args below meth c H locs lsA hC hP hD hS hl
  exact lv_if_lt hC.1 hC.2.1 hd ht (fun h9 => kt h9 ad ca D A p e s m args below meth c H locs lsA hC hP hD hS hl) (fun h9 => kf h9 ad ca D A p e s m args below meth c H locs lsA hC hP hD hS hl)
theorem aw_if_ge {x : Int32} {off : Int} {tgt : Nat} (hd : decode b pc = .ok (.ifCond .ge off, 3)) (ht : (pc : Int) + off = (tgt : Int))
    (kt : 0 ≤ x → AW l d y b nL ret tgt ls st M Q) (kf : ¬ (0 ≤ x) → AW l d y b nL ret (pc + 3) ls st M Q) : AW l d y b nL ret pc ls (.int x :: st) M Q := by
  intro ad ca D A p e s m args below meth c H locs lsA hC hP hD hS hl
  exact lv_if_ge hC.1 hC.2.1 hd ht (fun h9 => kt h9 ad ca D A p e s m args below meth c H locs lsA hC hP hD hS hl) (fun h9 => kf h9 ad ca D A p e s m args below meth c H locs lsA hC hP hD hS hl)
theorem aw_if_gt {x : Int32} {off : Int} {tgt : Nat} (hd : decode b pc = .ok (.ifCond .gt off, 3)) (ht : (pc : Int) + off = (tgt : Int))
    (kt : 0 < x → AW l d y b nL ret tgt ls st M Q) (kf : ¬ (0 < x) → AW l d y b nL ret (pc + 3) ls st M Q) : AW l d y b nL ret pc ls (.int x :: st) M Q := by
  intro ad ca D A p e s m args below meth c H locs lsA hC hP hD hS hl
  exact lv_if_gt hC.1 hC.2.1 hd ht (fun h9 => kt h9 ad ca D A p e s m args below meth c H locs lsA hC hP hD hS hl) (fun h9 => kf h9 ad ca D A p e s m args below meth c H locs lsA hC hP hD hS hl)
theorem aw_if_le {x : Int32} {off : Int} {tgt : Nat} (hd : decode b pc = .ok (.ifCond .le off, 3)) (ht : (pc : Int) + off = (tgt : Int))
    (kt : x ≤ 0 → AW l d y b nL ret tgt ls st M Q) (kf : ¬ (x ≤ 0) → AW l d y b nL ret (pc + 3) ls st M Q) : AW l d y b nL ret pc ls (.int x :: st) M Q := by
  intro ad ca D A p e s m args below meth c H locs lsA hC hP hD hS hl
  exact lv_if_le hC.1 hC.2.1 hd ht (fun h9 => kt h9 ad ca D A p e s m args below meth c H locs lsA hC hP hD hS hl) (fun h9 => kf h9 ad ca D A p e s m args below meth c H locs lsA hC hP hD hS hl)
theorem aw_icmp_eq {x z : Int32} {off : Int} {tgt : Nat} (hd : decode b pc = .ok (.if_icmp .eq off, 3)) (ht : (pc : Int) + off = (tgt : Int))
    (kt : x = z → AW l d y b nL ret tgt ls st M Q) (kf : ¬ (x = z) → AW l d y b nL ret (pc + 3) ls st M Q) : AW l d y b nL ret pc ls (.int z :: .int x :: st) M Q := by
  intro ad ca D A p e s m args below meth c H locs lsA hC hP hD hS hl
  exact lv_icmp_eq hC.1 hC.2.1 hd ht (fun h9 => kt h9 ad ca D A p e s m args below meth c H locs lsA hC hP hD hS hl) (fun h9 => kf h9 ad ca D A p e s m args below meth c H locs lsA hC hP hD hS hl)
theorem aw_icmp_ne {x z : Int32} {off : Int} {tgt : Nat} (hd : decode b pc = .ok (.if_icmp .ne off, 3)) (ht : (pc : Int) + off = (tgt : Int))
    (kt : ¬ x = z → AW l d y b nL ret tgt ls st M Q) (kf : x = z → AW l d y b nL ret (pc + 3) ls st M Q) : AW l d y b nL ret pc ls (.int z :: .int x :: st) M Q := by
  intro ad ca D A p e s m args below meth c H locs lsA hC hP hD hS hl
  exact lv_icmp_ne hC.1 hC.2.1 hd ht (fun h9 => kt h9 ad ca D A p e s m args below meth c H locs lsA hC hP hD hS hl) (fun h9 => kf h9 ad ca D A p e s m args below meth c H locs lsA hC hP hD hS hl)
theorem aw_icmp_lt {x z : Int32} {off : Int} {tgt : Nat} (hd : decode b pc = .ok (.if_icmp .lt off, 3)) (ht : (pc : Int) + off = (tgt : Int))
    (kt : x < z → AW l d y b nL ret tgt ls st M Q) (kf : ¬ (x < z) → AW l d y b nL ret (pc + 3) ls st M Q) : AW l d y b nL ret pc ls (.int z :: .int x :: st) M Q := by
  intro ad ca D A p e s m args below meth c H locs lsA hC hP hD hS hl
  exact lv_icmp_lt hC.1 hC.2.1 hd ht (fun h9 => kt h9 ad ca D A p e s m args below meth c H locs lsA hC hP hD hS hl) (fun h9 => kf h9 ad ca D A p e s m args below meth c H locs lsA hC hP hD hS hl)
theorem aw_icmp_ge {x z : Int32} {off : Int} {tgt : Nat} (hd : decode b pc = .ok (.if_icmp .ge off, 3)) (ht : (pc : Int) + off = (tgt : Int))
    (kt : z ≤ x → AW l d y b nL ret tgt ls st M Q) (kf : ¬ (z ≤ x) → AW l d y b nL ret (pc + 3) ls st M Q) : AW l d y b nL ret pc ls (.int z :: .int x :: st) M Q := by
  intro ad ca D A p e s m args below meth c H locs lsA hC hP hD hS hl
  exact lv_icmp_ge hC.1 hC.2.1 hd ht (fun h9 => kt h9 ad ca D A p e s m args below meth c H locs lsA hC hP hD hS hl) (fun h9 => kf h9 ad ca D A p e s m args below meth c H locs lsA hC hP hD hS hl)
theorem aw_icmp_gt {x z : Int32} {off : Int} {tgt : Nat} (hd : decode b pc = .ok (.if_icmp .gt off, 3)) (ht : (pc : Int) + off = (tgt : Int))
    (kt : z < x → AW l d y b nL ret tgt ls st M Q) (kf : ¬ (z < x) → AW l d y b nL ret (pc + 3) ls st M Q) : AW l d y b nL ret pc ls (.int z :: .int x :: st) M Q := by
  intro ad ca D A p e s m args below meth c H locs lsA hC hP hD hS hl
  exact lv_icmp_gt hC.1 hC.2.1 hd ht (fun h9 => kt h9 ad ca D A p e s m args below meth c H locs lsA hC hP hD hS hl) (fun h9 => kf h9 ad ca D A p e s m args below meth c H locs lsA hC hP hD hS hl)
theorem aw_icmp_le {x z : Int32} {off : Int} {tgt : Nat} (hd : decode b pc = .ok (.if_icmp .le off, 3)) (ht : (pc : Int) + off = (tgt : Int))
    (kt : x ≤ z → AW l d y b nL ret tgt ls st M Q) (kf : ¬ (x ≤ z) → AW l d y b nL ret (pc + 3) ls st M Q) : AW l d y b nL ret pc ls (.int z :: .int x :: st) M Q := by
  intro ad ca D A p e s m args below meth c H locs lsA hC hP hD hS hl
  exact lv_icmp_le hC.1 hC.2.1 hd ht (fun h9 => kt h9 ad ca D A p e s m args below meth c H locs lsA hC hP hD hS hl) (fun h9 => kf h9 ad ca D A p e s m args below meth c H locs lsA hC hP hD hS hl)
theorem aw_goto {off : Int} {tgt : Nat} (hd : decode b pc = .ok (.goto off, 3)) (ht : (pc : Int) + off = (tgt : Int))
    (k : AW l d y b nL ret tgt ls st M Q) : AW l d y b nL ret pc ls st M Q := by
  intro ad ca D A p e s m args below meth c H locs lsA hC hP hD hS hl
  exact lv_goto hC.1 hC.2.1 hd ht (k ad ca D A p e s m args below meth c H locs lsA hC hP hD hS hl)
theorem aw_lookup {dflt : Int} {ps : Array (Int × Int)} {len : Nat} {x : Int32} {off : Int} {tgt : Nat} (hd : decode b pc = .ok (.lookupswitch dflt ps, len)) (hp : (ps.toList.zip (ps.toList.drop 1)).all (fun (a, next) => a.1 < next.1) = true) (ho : Op.lookupswitch.offset ps.toList dflt x.toInt = off) (ht : (pc : Int) + off = (tgt : Int))
    (k : AW l d y b nL ret tgt ls st M Q) : AW l d y b nL ret pc ls (.int x :: st) M Q := by
  intro ad ca D A p e s m args below meth c H locs lsA hC hP hD hS hl
  exact lv_lookup hC.1 hC.2.1 hd hp ho ht (k ad ca D A p e s m args below meth c H locs lsA hC hP hD hS hl)
theorem aw_tableOut {dflt lo hi : Int} {offs : Array Int} {len : Nat} {x : Int32} {tgt : Nat} (hd : decode b pc = .ok (.tableswitch dflt lo hi offs, len)) (h : x.toInt < lo ∨ hi < x.toInt) (ht : (pc : Int) + dflt = (tgt : Int))
    (k : AW l d y b nL ret tgt ls st M Q) : AW l d y b nL ret pc ls (.int x :: st) M Q := by
  intro ad ca D A p e s m args below meth c H locs lsA hC hP hD hS hl
  exact lv_tableOut hC.1 hC.2.1 hd h ht (k ad ca D A p e s m args below meth c H locs lsA hC hP hD hS hl)
theorem aw_tableIn {dflt lo hi : Int} {offs : Array Int} {len : Nat} {x : Int32} {off : Int} {tgt : Nat} (hd : decode b pc = .ok (.tableswitch dflt lo hi offs, len)) (h1 : ¬ x.toInt < lo) (h2 : ¬ hi < x.toInt) (ho : offs[(x.toInt - lo).toNat]? = some off) (ht : (pc : Int) + off = (tgt : Int))
    (k : AW l d y b nL ret tgt ls st M Q) : AW l d y b nL ret pc ls (.int x :: st) M Q := by
  intro ad ca D A p e s m args below meth c H locs lsA hC hP hD hS hl
  exact lv_tableIn hC.1 hC.2.1 hd h1 h2 ho ht (k ad ca D A p e s m args below meth c H locs lsA hC hP hD hS hl)
/-- a number on top of the stack gets a name -/
theorem aw_topi {x : Int32} (k : ∀ z : Int32, z = x → AW l d y b nL ret pc ls (.int z :: st) M Q) : AW l d y b nL ret pc ls (.int x :: st) M Q := k x rfl
theorem aw_topl {x : Int64} (k : ∀ z : Int64, z = x → AW l d y b nL ret pc ls (.long z :: st) M Q) : AW l d y b nL ret pc ls (.long x :: st) M Q := k x rfl
/-- the memory gets another form -/
theorem aw_mem {M' : Mm} (h : M = M') (k : AW l d y b nL ret pc ls st M' Q) : AW l d y b nL ret pc ls st M Q := h ▸ k
theorem aw_pc {pc' : Nat} (h : pc = pc') (k : AW l d y b nL ret pc' ls st M Q) : AW l d y b nL ret pc ls st M Q := h ▸ k
theorem aw_ldc {index : Nat} {v : Int32} (hc9 : Jvm.Cond.constant y.cls index v ∈ lw_tbl) (hd : decode b pc = .ok (.ldc index, 2)) (k : AW l d y b nL ret (pc + 2) ls (.int v :: st) M Q) : AW l d y b nL ret pc ls st M Q := by
  intro ad ca D A p e s m args below meth c H locs lsA hC hP hD hS hl
  exact lv_ldc hC.1 hC.2.1 hC.2.2.2.2.1 (hC.2.2.2.2.2.1 _ hc9 rfl) hd (k ad ca D A p e s m args below meth c H locs lsA hC hP hD hS hl)
theorem aw_ldcw {index : Nat} {v : Int32} (hc9 : Jvm.Cond.constant y.cls index v ∈ lw_tbl) (hd : decode b pc = .ok (.ldc_w index, 3)) (k : AW l d y b nL ret (pc + 3) ls (.int v :: st) M Q) : AW l d y b nL ret pc ls st M Q := by
  intro ad ca D A p e s m args below meth c H locs lsA hC hP hD hS hl
  exact lv_ldcw hC.1 hC.2.1 hC.2.2.2.2.1 (hC.2.2.2.2.2.1 _ hc9 rfl) hd (k ad ca D A p e s m args below meth c H locs lsA hC hP hD hS hl)
theorem aw_ldc2 {index : Nat} {v : Int64} (hc9 : Jvm.Cond.constantLong y.cls index v ∈ lw_tbl) (hd : decode b pc = .ok (.ldc2_w index, 3)) (k : AW l d y b nL ret (pc + 3) ls (.long v :: st) M Q) : AW l d y b nL ret pc ls st M Q := by
  intro ad ca D A p e s m args below meth c H locs lsA hC hP hD hS hl
  exact lv_ldc2 hC.1 hC.2.1 hC.2.2.2.2.1 (hC.2.2.2.2.2.1 _ hc9 rfl) hd (k ad ca D A p e s m args below meth c H locs lsA hC hP hD hS hl)

/-- memory with one element changed -/
def mI (M : Mm) (k j : Nat) (v : Int32) : Mm := (fun k' => if k' = k then upd (M.1 k) j v else M.1 k', M.2)
def mL (M : Mm) (k j : Nat) (v : Int64) : Mm := (M.1, fun k' => if k' = k then vp_updL (M.2 k) j v else M.2 k')
def rI (M : Mm) (k : Nat) (f : Nat → Int32) : Mm := (fun k' => if k' = k then f else M.1 k', M.2)
def rL (M : Mm) (k : Nat) (f : Nat → Int64) : Mm := (M.1, fun k' => if k' = k then f else M.2 k')
theorem aw_iald {a n q : Nat} {i : Int32} (hs : shp[a]? = some (.inr (0, n, q))) (hi : vp_in i n) (hd : decode b pc = .ok (.iaload, 1)) (k : AW l d y b nL ret (pc + 1) ls (.int (M.1 a i.toNatClampNeg) :: st) M Q) : AW l d y b nL ret pc ls (.int i :: .ref a :: st) M Q := by
  intro ad ca D A p e s m args below meth c H locs lsA hC hP hD hS hl
  exact va_iald hC.1 hC.2.1 hC.2.2.2.2.2.2.1 hP a 0 (wld_get hs) (tysA_get ca (by decide)) hi hd (k ad ca D A p e s m args below meth c H locs lsA hC hP hD hS hl)
theorem aw_zald {a n q : Nat} {i : Int32} (hs : shp[a]? = some (.inr (1, n, q))) (hi : vp_in i n) (hd : decode b pc = .ok (.baload, 1)) (k : AW l d y b nL ret (pc + 1) ls (.int (M.1 a i.toNatClampNeg) :: st) M Q) : AW l d y b nL ret pc ls (.int i :: .ref a :: st) M Q := by
  intro ad ca D A p e s m args below meth c H locs lsA hC hP hD hS hl
  exact va_zald hC.1 hC.2.1 hC.2.2.2.2.2.2.1 hP a 1 (wld_get hs) (tysA_get ca (by decide)) hi hd (k ad ca D A p e s m args below meth c H locs lsA hC hP hD hS hl)
theorem aw_lald {a n q : Nat} {i : Int32} (hs : shp[a]? = some (.inr (2, n, q))) (hi : vp_in i n) (hd : decode b pc = .ok (.laload, 1)) (k : AW l d y b nL ret (pc + 1) ls (.long (M.2 a i.toNatClampNeg) :: st) M Q) : AW l d y b nL ret pc ls (.int i :: .ref a :: st) M Q := by
  intro ad ca D A p e s m args below meth c H locs lsA hC hP hD hS hl
  exact va_lald hC.1 hC.2.1 hC.2.2.2.2.2.2.1 hP a 2 (wld_get hs) (tysA_get ca (by decide)) hi hd (k ad ca D A p e s m args below meth c H locs lsA hC hP hD hS hl)
theorem aw_aald {a t n q : Nat} {i : Int32} {j : Nat} (hs : shp[a]? = some (.inr (t + 3, n, q))) (ht5 : t + 3 < 5) (hi : vp_in i n) (hj : i.toNatClampNeg = j) (hd : decode b pc = .ok (.aaload, 1)) (k : AW l d y b nL ret (pc + 1) ls (.ref (q + j) :: st) M Q) : AW l d y b nL ret pc ls (.int i :: .ref a :: st) M Q := by
  intro ad ca D A p e s m args below meth c H locs lsA hC hP hD hS hl
  subst hj
  have hlt : i.toNatClampNeg < n := Nat.not_le.mp fun q => hi (Or.inr q)
  have hty : (tyA (t + 3)).isReference = true := by
    match t, ht5 with
    | 0, _ => rfl
    | 1, _ => rfl
  have hcell := hP a _ (wld_get hs)
  have hrd : (fun i : Nat => if i < n then some (ad (q + i)) else none) i.toNatClampNeg = some (ad (q + i.toNatClampNeg)) := if_pos hlt
  exact W.aald (v := .ref (ad (q + i.toNatClampNeg))) (ty := tyA (t + 3)) hC.1 hC.2.1 hcell ((hC.2.2.2.2.2.2.1.2 (t + 3) _ (tysA_get ca ht5)).1 n (fun j => va_rf (if j < n then some (ad (q + j)) else none))) hty (fun q => by cases q) (by show ¬ (i < 0 ∨ (arrV _ _ _).slots.size ≤ _); rw [arrV_size]; exact hi) (by show (arrV (ca (t + 3)) n (fun j => va_rf (if j < n then some (ad (q + j)) else none))).slots[_]? = _; rw [arrV_read _ _ hlt, if_pos hlt]; rfl) rfl rfl hd (k ad ca D A p e s m args below meth c H locs lsA hC hP hD hS hl)
theorem aw_alen {a t n q : Nat} {v : Int32} (hs : shp[a]? = some (.inr (t, n, q))) (ht5 : t < 5) (hv : Int32.ofNat n = v) (hd : decode b pc = .ok (.arraylength, 1)) (k : AW l d y b nL ret (pc + 1) ls (.int v :: st) M Q) : AW l d y b nL ret pc ls (.ref a :: st) M Q := by
  intro ad ca D A p e s m args below meth c H locs lsA hC hP hD hS hl
  refine va_alen hC.1 hC.2.1 hC.2.2.2.2.2.2.1 hP a t (wld_get hs) (tysA_get ca ht5) ?_ hd (k ad ca D A p e s m args below meth c H locs lsA hC hP hD hS hl)
  rw [← hv]
  show Int32.ofNat (ca_arr ad M a t n q).1 = _
  match t, ht5 with
  | 0, _ => rfl
  | 1, _ => rfl
  | 2, _ => rfl
  | 3, _ => rfl
  | 4, _ => rfl
theorem aw_iast {a n q : Nat} {i x : Int32} (hs : shp[a]? = some (.inr (0, n, q))) (hi : vp_in i n) (hd : decode b pc = .ok (.iastore, 1)) (k : AW l d y b nL ret (pc + 1) ls st (mI M a i.toNatClampNeg x) Q) : AW l d y b nL ret pc ls (.int x :: .int i :: .ref a :: st) M Q := by
  intro ad ca D A p e s m args below meth c H locs lsA hC hP hD hS hl
  refine va_iast hC.1 hC.2.1 hC.2.2.2.2.2.2.1 hP hD hS a 0 (wld_get hs) (tysA_get ca (by decide)) hi hd (fun H1 locs1 hP1 hD1 hS1 => ?_)
  have hw := wld_set (ad := ad) (ca := ca) (M := M) (M' := mI M a i.toNatClampNeg x) hs (e := .inl (ca 0, n, .inl (upd (M.1 a) i.toNatClampNeg x))) (by simp [ce, ca_arr, mI]) (fun j hj => ⟨if_neg hj, rfl⟩)
  rw [hw] at hP1 hD1
  exact k ad ca D A p e s m args below meth c H1 locs1 lsA hC hP1 hD1 hS1 hl
theorem aw_zast {a n q : Nat} {i x : Int32} (hs : shp[a]? = some (.inr (1, n, q))) (hi : vp_in i n) (hd : decode b pc = .ok (.bastore, 1)) (k : AW l d y b nL ret (pc + 1) ls st (mI M a i.toNatClampNeg (vp_nar .boolean x)) Q) : AW l d y b nL ret pc ls (.int x :: .int i :: .ref a :: st) M Q := by
  intro ad ca D A p e s m args below meth c H locs lsA hC hP hD hS hl
  refine va_zast hC.1 hC.2.1 hC.2.2.2.2.2.2.1 hP hD hS a 1 (wld_get hs) (tysA_get ca (by decide)) hi hd (fun H1 locs1 hP1 hD1 hS1 => ?_)
  have hw := wld_set (ad := ad) (ca := ca) (M := M) (M' := mI M a i.toNatClampNeg (vp_nar .boolean x)) hs (e := .inl (ca 1, n, .inl (upd (M.1 a) i.toNatClampNeg (vp_nar .boolean x)))) (by simp [ce, ca_arr, mI]) (fun j hj => ⟨if_neg hj, rfl⟩)
  rw [hw] at hP1 hD1
  exact k ad ca D A p e s m args below meth c H1 locs1 lsA hC hP1 hD1 hS1 hl
theorem aw_last {a n q : Nat} {i : Int32} {x : Int64} (hs : shp[a]? = some (.inr (2, n, q))) (hi : vp_in i n) (hd : decode b pc = .ok (.lastore, 1)) (k : AW l d y b nL ret (pc + 1) ls st (mL M a i.toNatClampNeg x) Q) : AW l d y b nL ret pc ls (.long x :: .int i :: .ref a :: st) M Q := by
  intro ad ca D A p e s m args below meth c H locs lsA hC hP hD hS hl
  refine va_last hC.1 hC.2.1 hC.2.2.2.2.2.2.1 hP hD hS a 2 (wld_get hs) (tysA_get ca (by decide)) hi hd (fun H1 locs1 hP1 hD1 hS1 => ?_)
  have hw := wld_set (ad := ad) (ca := ca) (M := M) (M' := mL M a i.toNatClampNeg x) hs (e := .inl (ca 2, n, .inr (.inl (vp_updL (M.2 a) i.toNatClampNeg x)))) (by simp [ce, ca_arr, mL]) (fun j hj => ⟨rfl, if_neg hj⟩)
  rw [hw] at hP1 hD1
  exact k ad ca D A p e s m args below meth c H1 locs1 lsA hC hP1 hD1 hS1 hl
end AWR

