/-- how many below n -/
noncomputable def cntN : Nat → (Nat → Prop) → Nat
  | 0, _ => 0
  | n + 1, P => cntN n P + @ite _ (P n) (Classical.propDecidable _) 1 0
def sumI : Nat → (Nat → Int32) → Int32
  | 0, _ => 0
  | n + 1, f => sumI n f + f n
/-- as bits -/
noncomputable def bitsI : Nat → (Nat → Prop) → Int32
  | 0, _ => 0
  | n + 1, P => @ite _ (P n) (Classical.propDecidable _) (bitsI n P ||| (1 <<< (nI n &&& 31))) (bitsI n P)
noncomputable def pIf (p : Prop) {α : Type} (a b : α) : α := @ite _ p (Classical.propDecidable p) a b
theorem pIf_t {p : Prop} {α : Type} {a b : α} (h : p) : pIf p a b = a := if_pos h
theorem pIf_f {p : Prop} {α : Type} {a b : α} (h : ¬ p) : pIf p a b = b := if_neg h
theorem cntN_t {n : Nat} {P : Nat → Prop} (h : P n) : cntN (n + 1) P = cntN n P + 1 := by simp [cntN, h]
theorem cntN_f {n : Nat} {P : Nat → Prop} (h : ¬ P n) : cntN (n + 1) P = cntN n P := by simp [cntN, h]
theorem bitsI_t {n : Nat} {P : Nat → Prop} (h : P n) : bitsI (n + 1) P = bitsI n P ||| (1 <<< (nI n &&& 31)) := by simp [bitsI, h]
theorem bitsI_f {n : Nat} {P : Nat → Prop} (h : ¬ P n) : bitsI (n + 1) P = bitsI n P := by simp [bitsI, h]
theorem cntN_le (n : Nat) (P : Nat → Prop) : cntN n P ≤ n := by
  induction n with
  | zero => exact Nat.le_refl 0
  | succ n ih =>
    by_cases h : P n
    · rw [cntN_t h]; omega
    · rw [cntN_f h]; omega
theorem cntN_cong {n : Nat} {P R : Nat → Prop} (h : ∀ i, i < n → (P i ↔ R i)) : cntN n P = cntN n R := by
  induction n with
  | zero => rfl
  | succ n ih =>
    have e := ih (fun i hi => h i (by omega))
    by_cases hp : P n
    · rw [cntN_t hp, cntN_t ((h n (by omega)).mp hp), e]
    · rw [cntN_f hp, cntN_f (fun q => hp ((h n (by omega)).mpr q)), e]
theorem bitsI_cong {n : Nat} {P R : Nat → Prop} (h : ∀ i, i < n → (P i ↔ R i)) : bitsI n P = bitsI n R := by
  induction n with
  | zero => rfl
  | succ n ih =>
    have e := ih (fun i hi => h i (by omega))
    by_cases hp : P n
    · rw [bitsI_t hp, bitsI_t ((h n (by omega)).mp hp), e]
    · rw [bitsI_f hp, bitsI_f (fun q => hp ((h n (by omega)).mpr q)), e]
theorem sumI_cong {n : Nat} {f g : Nat → Int32} (h : ∀ i, i < n → f i = g i) : sumI n f = sumI n g := by
  induction n with
  | zero => rfl
  | succ n ih => rw [sumI, sumI, ih (fun i hi => h i (by omega)), h n (by omega)]
theorem nI_cnt_t {n : Nat} {P : Nat → Prop} (h : P n) : nI (cntN n P) + 1 = nI (cntN (n + 1) P) := by rw [cntN_t h, nI_succ]
theorem nI_cnt_f {n : Nat} {P : Nat → Prop} (h : ¬ P n) : nI (cntN n P) = nI (cntN (n + 1) P) := by rw [cntN_f h]
/-- changed in one place -/
theorem sumI_add (n : Nat) (f g : Nat → Int32) : sumI n (fun i => f i + g i) = sumI n f + sumI n g := by
  induction n with
  | zero => rfl
  | succ n ih => rw [sumI, sumI, sumI, ih]; grind
theorem sumI_zero (n : Nat) : sumI n (fun _ => 0) = 0 := by
  induction n with
  | zero => rfl
  | succ n ih => rw [sumI, ih]; rfl
theorem sumI_at {n p : Nat} (hp : p < n) (v : Int32) : sumI n (fun i => if i = p then v else 0) = v := by
  induction n with
  | zero => omega
  | succ n ih =>
    rw [sumI]
    by_cases h : n = p
    · subst h
      rw [if_pos rfl, sumI_cong (g := fun _ => 0) (fun i hi => if_neg (by omega)), sumI_zero]
      grind
    · rw [if_neg h, ih (by omega)]
      grind
theorem sumI_chg {n p : Nat} (hp : p < n) {f g : Nat → Int32} {v : Int32} (hg : ∀ i, i < n → i ≠ p → g i = f i) (hv : g p = f p + v) : sumI n g = sumI n f + v := by
  rw [sumI_cong (g := fun i => f i + (if i = p then v else 0)) (fun i hi => ?_), sumI_add, sumI_at hp]
  show g i = f i + (if i = p then v else 0)
  by_cases h : i = p
  · subst h
    rw [if_pos rfl, hv]
  · rw [if_neg h, hg i hi h]
    grind
/-- memory's words -/
theorem mI_self (M : Mm) (k j : Nat) (v : Int32) : (mI M k j v).1 k = upd (M.1 k) j v := if_pos rfl
theorem mI_other {M : Mm} {k k' j : Nat} {v : Int32} (h : k' ≠ k) : (mI M k j v).1 k' = M.1 k' := if_neg h
theorem rI_self (M : Mm) (k : Nat) (f : Nat → Int32) : (rI M k f).1 k = f := if_pos rfl
theorem rI_other {M : Mm} {k k' : Nat} {f : Nat → Int32} (h : k' ≠ k) : (rI M k f).1 k' = M.1 k' := if_neg h
theorem mI_2 (M : Mm) (k j : Nat) (v : Int32) : (mI M k j v).2 = M.2 := rfl
theorem rI_2 (M : Mm) (k : Nat) (f : Nat → Int32) : (rI M k f).2 = M.2 := rfl
theorem mI_rI (M : Mm) (k j : Nat) (v : Int32) : mI M k j v = rI M k (upd (M.1 k) j v) := rfl
theorem rI_id (M : Mm) (k : Nat) : rI M k (M.1 k) = M := by
  refine Prod.ext (funext fun k' => ?_) rfl
  show (if k' = k then M.1 k else M.1 k') = M.1 k'
  by_cases h : k' = k
  · rw [if_pos h, h]
  · rw [if_neg h]
theorem rI_rI (M : Mm) (k : Nat) (f g : Nat → Int32) : rI (rI M k f) k g = rI M k g := by
  refine Prod.ext (funext fun k' => ?_) rfl
  show (if k' = k then g else if k' = k then f else M.1 k') = (if k' = k then g else M.1 k')
  by_cases h : k' = k
  · simp [h]
  · simp [h]
theorem rI_comm {M : Mm} {k k' : Nat} (h : k ≠ k') (f g : Nat → Int32) : rI (rI M k f) k' g = rI (rI M k' g) k f := by
  refine Prod.ext (funext fun q => ?_) rfl
  show (if q = k' then g else if q = k then f else M.1 q) = (if q = k then f else if q = k' then g else M.1 q)
  by_cases h1 : q = k'
  · subst h1
    rw [if_pos rfl, if_neg (fun z => h z.symm), if_pos rfl]
  · rw [if_neg h1, if_neg h1]
theorem upd_self (f : Nat → Int32) (k : Nat) (x : Int32) : upd f k x k = x := if_pos rfl
theorem upd_other {f : Nat → Int32} {k j : Nat} {x : Int32} (h : j ≠ k) : upd f k x j = f j := if_neg h
theorem upd_upd (f : Nat → Int32) (k : Nat) (x y : Int32) : upd (upd f k x) k y = upd f k y := by
  funext j
  by_cases h : j = k <;> simp [upd, h]
/-- the same but for some places -/
def Same (S : Nat → Prop) (M M' : Mm) : Prop := M'.2 = M.2 ∧ ∀ k, ¬ S k → M'.1 k = M.1 k
theorem Same.rf {S : Nat → Prop} {M : Mm} : Same S M M := ⟨rfl, fun _ _ => rfl⟩
theorem Same.tr {S : Nat → Prop} {M M' M'' : Mm} (h : Same S M M') (h2 : Same S M' M'') : Same S M M'' := ⟨h2.1.trans h.1, fun k hk => (h2.2 k hk).trans (h.2 k hk)⟩
theorem Same.mI {S : Nat → Prop} {M M' : Mm} {k j : Nat} {v : Int32} (h : Same S M M') (hk : S k) : Same S M (mI M' k j v) := ⟨h.1, fun q hq => (mI_other (fun e => hq (by rw [e]; exact hk))).trans (h.2 q hq)⟩
theorem Same.rI {S : Nat → Prop} {M M' : Mm} {k : Nat} {f : Nat → Int32} (h : Same S M M') (hk : S k) : Same S M (rI M' k f) := ⟨h.1, fun q hq => (rI_other (fun e => hq (by rw [e]; exact hk))).trans (h.2 q hq)⟩
theorem Same.mono {S T : Nat → Prop} {M M' : Mm} (h : Same S M M') (hs : ∀ k, S k → T k) : Same T M M' := ⟨h.1, fun k hk => h.2 k (fun q => hk (hs k q))⟩
/-- a row's first n places filled -/
def fillR (f : Nat → Int32) (n : Nat) (v : Int32) : Nat → Int32 := fun j => if j < n then v else f j
theorem fillR_succ (f : Nat → Int32) (n : Nat) (v : Int32) : upd (fillR f n v) n v = fillR f (n + 1) v := by
  funext j
  simp only [upd, fillR]
  by_cases h : j = n
  · subst h; simp
  · by_cases h2 : j < n
    · simp [h, h2, show j < n + 1 by omega]
    · simp [h, h2, show ¬ j < n + 1 by omega]
theorem fillR_0 (f : Nat → Int32) (v : Int32) : fillR f 0 v = f := by funext j; simp [fillR]
def fillL (f : Nat → Int64) (n : Nat) (v : Int64) : Nat → Int64 := fun j => if j < n then v else f j
theorem fillL_succ (f : Nat → Int64) (n : Nat) (v : Int64) : vp_updL (fillL f n v) n v = fillL f (n + 1) v := by
  funext j
  simp only [vp_updL, fillL]
  by_cases h : j = n
  · subst h; simp
  · by_cases h2 : j < n
    · simp [h, h2, show j < n + 1 by omega]
    · simp [h, h2, show ¬ j < n + 1 by omega]
theorem fillL_0 (f : Nat → Int64) (v : Int64) : fillL f 0 v = f := by funext j; simp [fillL]
theorem rL_id (M : Mm) (k : Nat) : rL M k (M.2 k) = M := by
  refine Prod.ext rfl (funext fun k' => ?_)
  show (if k' = k then M.2 k else M.2 k') = M.2 k'
  by_cases h : k' = k
  · rw [if_pos h, h]
  · rw [if_neg h]
theorem mL_rL (M : Mm) (k j : Nat) (v : Int64) : mL M k j v = rL M k (vp_updL (M.2 k) j v) := rfl
theorem rL_self (M : Mm) (k : Nat) (f : Nat → Int64) : (rL M k f).2 k = f := if_pos rfl
theorem rL_rL (M : Mm) (k : Nat) (f g : Nat → Int64) : rL (rL M k f) k g = rL M k g := by
  refine Prod.ext rfl (funext fun k' => ?_)
  show (if k' = k then g else if k' = k then f else M.2 k') = (if k' = k then g else M.2 k')
  by_cases h : k' = k
  · simp [h]
  · simp [h]
/-- HEARD of one, BESIDE one -/
def wgt (seat : Nat → Int32) (p o : Nat) : Int32 := loudI (farI (seat p) (seat o))
noncomputable def hearF (n : Nat) (seat : Nat → Int32) (mood : Nat → Int32) (p : Nat) : Int32 := sumI n (fun o => pIf (o ≠ p ∧ mood o = 1) (wgt seat p o) 0)
noncomputable def nearF (n : Nat) (seat : Nat → Int32) (mood : Nat → Int32) (p : Nat) : Int32 := sumI n (fun o => pIf (o ≠ p ∧ mood o = 1 ∧ farI (seat p) (seat o) = 1) 1 0)
