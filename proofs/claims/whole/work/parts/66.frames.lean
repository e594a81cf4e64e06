/-! what a call leaves alone -/
theorem pIf_c {c : Prop} {P Q R : Prop} (h : pIf c P Q) (h1 : c → P → R) (h2 : ¬ c → Q → R) : R := by
  by_cases q : c
  · rw [pIf_t q] at h; exact h1 q h
  · rw [pIf_f q] at h; exact h2 q h
theorem mL_o9 {M : Mm} {k j k2 : Nat} {v : Int64} (h : k2 ≠ k) : (mL M k j v).2 k2 = M.2 k2 := if_neg h
def oA (M X : Mm) : Prop := ∀ k, 105 ≤ k → X.1 k = M.1 k ∧ X.2 k = M.2 k
theorem oA.rf {M : Mm} : oA M M := fun _ _ => ⟨rfl, rfl⟩
theorem oA.tr {M X Y : Mm} (h : oA M X) (h2 : oA X Y) : oA M Y := fun k hk => ⟨(h2 k hk).1.trans (h k hk).1, (h2 k hk).2.trans (h k hk).2⟩
theorem oA.mI {M X : Mm} {p j : Nat} {v : Int32} (h : oA M X) (hp : p < 105) : oA M (mI X p j v) := fun k hk => ⟨(mI_other (by omega)).trans (h k hk).1, (h k hk).2⟩
theorem oA.rI {M X : Mm} {p : Nat} {f : Nat → Int32} (h : oA M X) (hp : p < 105) : oA M (rI X p f) := fun k hk => ⟨(rI_other (by omega)).trans (h k hk).1, (h k hk).2⟩
theorem oA.mL {M X : Mm} {p j : Nat} {v : Int64} (h : oA M X) (hp : p < 105) : oA M (mL X p j v) := fun k hk => ⟨(h k hk).1, (mL_o9 (by omega)).trans (h k hk).2⟩
theorem oA.rL {M X : Mm} {p : Nat} {f : Nat → Int64} (h : oA M X) (hp : p < 105) : oA M (rL X p f) := fun k hk => ⟨(h k hk).1, (rL_o (by omega)).trans (h k hk).2⟩
theorem oA.sm {M X : Mm} {T : Nat → Prop} (h : Same T M X) (hs : ∀ p, T p → p < 105) : oA M X := fun k hk => ⟨h.2 k (fun q => by have := hs k q; omega), by rw [h.1]⟩
def oB (M X : Mm) : Prop := ∀ k, k < 105 → X.1 k = M.1 k ∧ X.2 k = M.2 k
theorem oB.rf {M : Mm} : oB M M := fun _ _ => ⟨rfl, rfl⟩
theorem oB.tr {M X Y : Mm} (h : oB M X) (h2 : oB X Y) : oB M Y := fun k hk => ⟨(h2 k hk).1.trans (h k hk).1, (h2 k hk).2.trans (h k hk).2⟩
theorem oB.mI {M X : Mm} {p j : Nat} {v : Int32} (h : oB M X) (hp : 105 ≤ p) : oB M (mI X p j v) := fun k hk => ⟨(mI_other (by omega)).trans (h k hk).1, (h k hk).2⟩
theorem oB.rI {M X : Mm} {p : Nat} {f : Nat → Int32} (h : oB M X) (hp : 105 ≤ p) : oB M (rI X p f) := fun k hk => ⟨(rI_other (by omega)).trans (h k hk).1, (h k hk).2⟩
theorem oB.mL {M X : Mm} {p j : Nat} {v : Int64} (h : oB M X) (hp : 105 ≤ p) : oB M (mL X p j v) := fun k hk => ⟨(h k hk).1, (mL_o9 (by omega)).trans (h k hk).2⟩
theorem oB.rL {M X : Mm} {p : Nat} {f : Nat → Int64} (h : oB M X) (hp : 105 ≤ p) : oB M (rL X p f) := fun k hk => ⟨(h k hk).1, (rL_o (by omega)).trans (h k hk).2⟩
theorem oB.sm {M X : Mm} {T : Nat → Prop} (h : Same T M X) (hs : ∀ p, T p → 105 ≤ p) : oB M X := fun k hk => ⟨h.2 k (fun q => by have := hs k q; omega), by rw [h.1]⟩
theorem oA.rfx {M X : Mm} {k : Nat} (h : oA M X) : oA M (rfx X k) := h.mI (by decide)
theorem oA.rfA {M X : Mm} {a : Int32} (h : oA M X) : oA M (rfA X a) := h.rfx
theorem oB.nox {M X : Mm} {k : Nat} (h : oB M X) : oB M (nox X k) := h.mI (by decide)
theorem oB.noxA {M X : Mm} {a : Int32} (h : oB M X) : oB M (noxA X a) := h.nox
theorem oB.o8 {n : Nat} {M X : Mm} (h : out8 n M X) : oB M X := fun k hk => ⟨h.2.1 k (by omega), by rw [h.1]⟩
theorem oA.x {M X : Mm} (h : oA M X) {n : Nat} : eqB n M X := eqB.of_same (fun k hk => (h k hk).1) (fun k hk => (h k hk).2)
theorem oB.x {M X : Mm} (h : oB M X) : eqA M X := eqA.of_same (fun k hk => (h k hk).1) (fun k hk => (h k hk).2)
theorem oA.ls {n c : Nat} {M X : Mm} (hc : c ≤ 90) (h : lsM c n M X) : oA M X := oA.sm h.1 (fun p hp => by omega)
theorem oA.bec {c c2 : Nat} {M X : Mm} (hc : c ≤ 90) (h : becM c c2 M X) : oA M X := oA.sm h.1 (fun p hp => by omega)
theorem oA.out {v : Nat} {M X : Mm} (hv : v ≤ 80) (h : outE v M X) : oA M X := oA.sm h (fun p hp => by omega)
theorem oA.adm {n : Nat} {k s l p a : Int32} {M X : Mm} (h : admQ 14 n k s l p a M X) : oA M X := oA.sm h.1 (fun p hp => by omega)
theorem oA.trs {M : Mm} : ∀ (T : List Int32) (r : Nat) (X : Mm), oA M X → oA M (trs r T X)
  | [], _, _, h => h
  | b :: t, r, X, h => oA.trs t (r + 1) _ ((h.mI (by decide)).mI (by decide))
theorem oB.tr8 {M : Mm} : ∀ (T : List Int32) (r : Nat) (X : Mm), oB M X → oB M (tr8 r T X)
  | [], _, _, h => h
  | b :: t, r, X, h => oB.tr8 t (r + 1) _ ((h.mI (by decide)).mI (by decide))
theorem oA.tk {c n L : Nat} {M X : Mm} (hn : M.1 c 11 = nI n) {m : Nat} {M0 : Mm} (hc : c ≤ 80) (h1 : lsM c n M M0) (h2 : itR m (tickQ c n L) M0 X) : oA M X := oA.sm (itR_I (lsM_I hn h1) m X h2).1 (fun p hp => by omega)
theorem oA.adF {n : Nat} {s i v : Int32} {M X : Mm} (h : S_admitFrom n M s i v X) : oA M X := by
  unfold S_admitFrom at h
  repeat' (refine pIf_c h (fun c h => ?_) (fun c h => ?_))
  · exact oA.adm h.2
  · rw [h.2]; exact oA.rf
  · rw [h.2]; exact oA.rf
theorem oA.ppl {n a : Nat} {s : Int32} {M : Mm} : ∀ j X, pplI n s a j M X → oA M X
  | 0, X, h => by
    have e : X = M := h
    rw [e]; exact oA.rf
  | j + 1, X, ⟨Y, h1, h2⟩ => (oA.ppl j Y h1).tr (oA.adF h2)
theorem oB.com {n : Nat} {k s l c a : Int32} {M X : Mm} (h : oB M X) : oB M (comM n k s l c a X) := by
  unfold comM
  exact ((((((((((h.mI (by decide)).mI (by decide)).mI (by decide)).mI (by decide)).mI (by decide)).mI (by decide)).mI (by decide)).mI (by decide)).mI (by decide)).mI (by decide)).mI (by decide)
theorem oB.ppl {n k a : Nat} {M : Mm} : ∀ j X, ppl8 n k a j M X → oB M X
  | 0, X, h => by
    have e : X = M := h
    rw [e]; exact oB.rf
  | j + 1, X, ⟨Y, h1, h2, h3⟩ => by
    rw [h3]
    exact oB.com (oB.ppl j Y h1)
theorem oA.lw {M X : Mm} {k : Nat} (h : oA M X) : oA M (lwM X k) := by
  unfold lwM rdM rdB plM
  exact (((((h.rI (by decide)).rI (by decide)).mI (by decide)).mI (by decide)).rI (by decide)).mI (by decide)
theorem oB.lw {M X : Mm} {k : Nat} (h : oB M X) : oB M (lwX8 X k) := by
  unfold lwX8 cn8 lB8
  exact (((((h.mI (by decide)).mI (by decide)).mI (by decide)).mI (by decide)).rI (by decide)).rI (by decide)
theorem oA.gt {v n cnt m : Nat} {w : Int32} {M X : Mm} (hn : M.1 14 11 = nI n) (hv : v ≤ 80) (h : gtQ v n cnt w m M X) : oA M X := oA.out hv (gtQ_I hn h).1
theorem kRw_ge : ∀ t, t < 12 → 105 ≤ kRw t := by decide
theorem oB.bk {M X : Mm} (h : oB M X) : ∀ t, t ≤ 12 → oB M (bkM X t)
  | 0, _ => h
  | t + 1, ht => (oB.bk h t (by omega)).rI (kRw_ge t (by omega))
theorem fa_row {M X : Mm} {s o n v : Int32} (h : S_row M s o n v X) : oA M X := by
  unfold S_row at h
  refine pIf_c h (fun c h => ?_) (fun c h => ?_)
  · obtain ⟨k, hk, rfl⟩ := shf_k c
    repeat' (refine pIf_c h (fun c h => ?_) (fun c h => ?_))
    all_goals (rw [h.2]; first | exact oA.rf.rfx | (rw [nI_clamp (by omega)]; exact ((oA.rf.mI (by decide)).mI (by decide)).rL (by omega)))
  · rw [h.2]; exact oA.rf.rfx
theorem fa_set {M X : Mm} {s i v : Int32} {w : Int64} (h : S_set M s i w v X) : oA M X := by
  unfold S_set at h
  refine pIf_c h (fun c h => ?_) (fun c h => ?_)
  · refine pIf_c h (fun c h => ?_) (fun c h => ?_)
    · obtain ⟨k, hk, rfl, -⟩ := c
      rw [h.2, nI_clamp (by omega)]
      exact oA.rf.mL (by omega)
    · rw [h.2]; exact oA.rf.rfx
  · rw [h.2]; exact oA.rf.rfA
theorem fa_copy {M X : Mm} {s t i j n v : Int32} (h : S_copy M s t i j n v X) : oA M X := by
  unfold S_copy at h
  refine pIf_c h (fun c h => ?_) (fun c h => ?_)
  · refine pIf_c h (fun c h => ?_) (fun c h => ?_)
    · rw [h.2]; exact oA.rf.rfx
    · refine pIf_c h (fun c h => ?_) (fun c h => ?_)
      · refine pIf_c h (fun c h => ?_) (fun c h => ?_)
        · obtain ⟨k, hk, rfl, -⟩ := c
          rw [h.2, nI_clamp (show k < 2 ^ 31 by omega)]
          exact oA.rf.rL (by omega)
        · rw [h.2]; exact oA.rf.rfx
      · rw [h.2]; exact oA.rf.rfx
  · rw [h.2]; exact oA.rf.rfA
theorem fa_show {M X : Mm} {s x v : Int32} (h : S_show M s x v X) : oA M X := by
  unfold S_show at h
  repeat' (refine pIf_c h (fun c h => ?_) (fun c h => ?_))
  all_goals (rw [h.2]; first | exact oA.rf | exact oA.rf.rfx | exact oA.rf.rfA | exact oA.rf.mI (by decide) | exact (oA.rf.mI (by decide)).mI (by decide))
theorem fa_holds {M X : Mm} {s v : Int32} (h : S_holds M s v X) : oA M X := by
  unfold S_holds at h
  repeat' (refine pIf_c h (fun c h => ?_) (fun c h => ?_))
  all_goals (rw [h.2]; first | exact oA.rf | exact oA.rf.rfx | exact oA.rf.rfA | exact oA.rf.mI (by decide) | exact (oA.rf.mI (by decide)).mI (by decide))
theorem fa_move {M X : Mm} {n : Nat} {x s v : Int32} (h : S_move M n x s v X) : oA M X := by
  unfold S_move at h
  repeat' (refine pIf_c h (fun c h => ?_) (fun c h => ?_))
  all_goals (rw [h.2]; first | exact oA.rf | exact oA.rf.rfx | exact oA.rf.rfA | exact oA.rf.mI (by decide) | exact (oA.rf.mI (by decide)).mI (by decide))
theorem fa_glove {M X : Mm} {x : Int32} {g : Prop} {v : Int32} (h : S_glove M x g v X) : oA M X := by
  unfold S_glove at h
  repeat' (refine pIf_c h (fun c h => ?_) (fun c h => ?_))
  all_goals (rw [h.2]; first | exact oA.rf | exact oA.rf.rfx | exact oA.rf.rfA | exact oA.rf.mI (by decide) | exact (oA.rf.mI (by decide)).mI (by decide))
theorem fa_law {M X : Mm} {cnt : Nat} {l9 i v : Int32} (h : S_law M cnt l9 i v X) : oA M X := by
  unfold S_law at h
  repeat' (refine pIf_c h (fun c h => ?_) (fun c h => ?_))
  all_goals (rw [h.2]; first | exact oA.rf | exact oA.rf.rfx | exact oA.rf.rfA | exact oA.rf.mI (by decide) | exact (oA.rf.mI (by decide)).mI (by decide))
theorem fa_force {M X : Mm} {l9 v : Int32} (h : S_force M l9 v X) : oA M X := by
  unfold S_force at h
  repeat' (refine pIf_c h (fun c h => ?_) (fun c h => ?_))
  all_goals (rw [h.2]; first | exact oA.rf | exact oA.rf.rfx | exact oA.rf.rfA | exact oA.rf.mI (by decide) | exact (oA.rf.mI (by decide)).mI (by decide))
theorem fa_begin {M X : Mm} {x v : Int32} (h : S_begin M x v X) : oA M X := by
  unfold S_begin at h
  repeat' (refine pIf_c h (fun c h => ?_) (fun c h => ?_))
  all_goals (rw [h.2]; first | exact oA.rf | exact oA.rf.rfx | exact oA.rf.rfA | exact oA.rf.mI (by decide) | exact (oA.rf.mI (by decide)).mI (by decide))
theorem fa_personOf {M X : Mm} {x w v : Int32} (h : S_personOf M x w v X) : oA M X := by
  unfold S_personOf at h
  repeat' (refine pIf_c h (fun c h => ?_) (fun c h => ?_))
  all_goals (rw [h.2]; first | exact oA.rf | exact oA.rf.rfx | exact oA.rf.rfA | exact oA.rf.mI (by decide) | exact (oA.rf.mI (by decide)).mI (by decide))
theorem fa_alter {M X : Mm} {x w y v : Int32} (h : S_alter M x w y v X) : oA M X := by
  unfold S_alter at h
  repeat' (refine pIf_c h (fun c h => ?_) (fun c h => ?_))
  all_goals (rw [h.2]; first | exact oA.rf | exact oA.rf.rfx | exact oA.rf.rfA | exact oA.rf.mI (by decide) | exact (oA.rf.mI (by decide)).mI (by decide))
theorem fa_many {M X : Mm} {n : Nat} {x v : Int32} (h : S_many M n x v X) : oA M X := by
  unfold S_many at h
  repeat' (refine pIf_c h (fun c h => ?_) (fun c h => ?_))
  all_goals (rw [h.2]; first | exact oA.rf | exact oA.rf.rfx | exact oA.rf.rfA | exact oA.rf.mI (by decide) | exact (oA.rf.mI (by decide)).mI (by decide))
theorem fa_micro {M X : Mm} {mc : Nat} {s v : Int32} (h : S_micro M mc s v X) : oA M X := by
  unfold S_micro at h
  repeat' (refine pIf_c h (fun c h => ?_) (fun c h => ?_))
  all_goals (rw [h.2]; first | exact oA.rf | exact oA.rf.rfx | exact oA.rf.rfA | exact oA.rf.mI (by decide) | exact (oA.rf.mI (by decide)).mI (by decide))
theorem fa_sum {M X : Mm} {n : Nat} {x v : Int32} (h : S_sum M n x v X) : oA M X := by
  unfold S_sum at h
  repeat' (refine pIf_c h (fun c h => ?_) (fun c h => ?_))
  all_goals (rw [h.2]; first | exact oA.rf | exact oA.rf.rfx | exact oA.rf.rfA | exact oA.rf.mI (by decide) | exact (oA.rf.mI (by decide)).mI (by decide))
theorem fa_gloved {M X : Mm} {n : Nat} {x v : Int32} (h : S_gloved M n x v X) : oA M X := by
  unfold S_gloved at h
  repeat' (refine pIf_c h (fun c h => ?_) (fun c h => ?_))
  all_goals (rw [h.2]; first | exact oA.rf | exact oA.rf.rfx | exact oA.rf.rfA | exact oA.rf.mI (by decide) | exact (oA.rf.mI (by decide)).mI (by decide))
theorem fa_trace {M X : Mm} {x v : Int32} (h : S_trace M x v X) : oA M X := by
  unfold S_trace at h
  repeat' (refine pIf_c h (fun c h => ?_) (fun c h => ?_))
  all_goals (rw [h.2]; first | exact oA.rf | exact oA.rf.rfx | exact oA.rf.rfA | exact oA.rf.mI (by decide) | exact (oA.rf.mI (by decide)).mI (by decide))
theorem fa_seed {M X : Mm} {x v : Int32} (h : S_seed M x v X) : oA M X := by
  unfold S_seed at h
  rw [h.2]; exact oA.rf.mI (by decide)
theorem fa_hush {M X : Mm} {n : Nat} {v : Int32} (h : S_hush M n v X) : oA M X := by
  unfold S_hush at h
  rw [h.2]
  unfold calmM
  exact ((((((oA.rf.rI (by decide)).rI (by decide)).rI (by decide)).rI (by decide)).mI (by decide)).mI (by decide)).mI (by decide)
theorem fa_status {M X : Mm} {x v : Int32} (h : S_status M x v X) : oA M X := by
  unfold S_status at h
  rw [h.1]; exact oA.rf
theorem fa_judge {M X : Mm} {n mc : Nat} {s v : Int32} (h : S_judge M n mc s v X) : oA M X := by
  unfold S_judge at h
  refine pIf_c h (fun c h => ?_) (fun c h => ?_)
  · rw [h.1]; exact oA.rf
  · rw [h.2]; exact oA.rf.rfA
theorem fa_heard {M X : Mm} {n : Nat} {x v : Int32} (h : S_heard M n x v X) : oA M X := by
  unfold S_heard at h
  refine pIf_c h (fun c h => ?_) (fun c h => ?_)
  · exact oA.ls (by decide) h.1
  · rw [h.2]; exact oA.rf.rfx
theorem fa_beside {M X : Mm} {n : Nat} {x v : Int32} (h : S_beside M n x v X) : oA M X := by
  unfold S_beside at h
  refine pIf_c h (fun c h => ?_) (fun c h => ?_)
  · exact oA.ls (by decide) h.1
  · rw [h.2]; exact oA.rf.rfx
theorem fa_says {M X : Mm} {n : Nat} {s w v : Int32} (h : S_says M n s w v X) : oA M X := by
  unfold S_says S_wordOf at h
  repeat' (refine pIf_c h (fun c h => ?_) (fun c h => ?_))
  all_goals first | exact oA.ls (by decide) h.1 | (rw [h.2]; first | exact oA.rf | exact oA.rf.rfx) | (rw [h.1]; exact oA.rf)
theorem fa_person {M X : Mm} {n : Nat} {k s l p a v : Int32} (h : S_person M n k s l p a v X) : oA M X := by
  unfold S_person at h
  repeat' (refine pIf_c h (fun c h => ?_) (fun c h => ?_))
  all_goals first | exact oA.adm h.2 | (rw [h.2]; exact oA.rf.rfx)
theorem fa_people {M X : Mm} {n : Nat} {s i m v : Int32} (h : S_people M n s i m v X) : oA M X := by
  unfold S_people at h
  repeat' (refine pIf_c h (fun c h => ?_) (fun c h => ?_))
  all_goals first | (rw [h.2]; first | exact oA.rf.rfx | exact oA.rf.rfA) | skip
  obtain ⟨j, Y, h1, -, -, h4⟩ := h
  rcases h4 with h4 | h4
  · rw [h4.2]; exact oA.ppl j Y h1
  · exact (oA.ppl j Y h1).tr (oA.adF h4.2)
theorem fa_laws {M X : Mm} {cnt : Nat} {s v : Int32} (hc : cnt ≤ 6) (h : S_laws M cnt s v X) : oA M X := by
  unfold S_laws at h
  repeat' (refine pIf_c h (fun c h => ?_) (fun c h => ?_))
  all_goals (rw [h.2]; first | exact oA.rf.rfA | exact oA.rf.lw.rfx | (unfold bookAdd; exact (oA.rf.lw.rI (by omega)).mI (by decide)))
theorem fa_tick {M X : Mm} {n cnt : Nat} {x v : Int32} (hn : M.1 14 11 = nI n) (h : S_tick M n cnt x v X) : oA M X := by
  unfold S_tick at h
  repeat' (refine pIf_c h (fun c h => ?_) (fun c h => ?_))
  all_goals first | (rw [h.2]; exact oA.rf.rfx) | skip
  obtain ⟨M0, h1, h2, -⟩ := h
  exact oA.tk hn (by decide) h1 h2
theorem fa_act {M X : Mm} {x a y v : Int32} (h : S_act M x a y v X) : oA M X := by
  unfold S_act at h
  repeat' (refine pIf_c h (fun c h => ?_) (fun c h => ?_))
  all_goals (rw [h.2]; first | exact oA.rf.mI (by decide) | (refine oA.trs _ _ _ ?_; unfold perfM; exact (((oA.rf.mI (by decide)).mI (by decide)).mI (by decide)).mI (by decide)))
theorem fa_image {M X : Mm} {v : Int32} (h : S_image M v X) : oA M X := by
  unfold S_image at h
  obtain ⟨M1, M2, h1, h2, h3, -⟩ := h
  rw [h3]
  exact (((((oA.bec (by decide) h1).tr (oA.sm h2.1 (fun p hp => by omega))).rI (by decide)).mI (by decide)).mI (by decide))
theorem fa_restore {M X : Mm} {v : Int32} (h : S_restore M v X) : oA M X := by
  unfold S_restore at h
  refine pIf_c h (fun c h => ?_) (fun c h => ?_)
  · rw [h.2]; exact oA.rf.rfx
  · obtain ⟨M1, M2, M3, h1, h2, h3, h4, -⟩ := h
    rw [h4, h3]
    exact ((((oA.bec (by decide) h1).tr (oA.sm h2.1 (fun p hp => by omega))).rI (by decide)).mI (by decide)).rI (by decide)
theorem fa_length {M X : Mm} {n cnt : Nat} {w x v : Int32} (hn : M.1 14 11 = nI n) (h : S_length M n cnt w x v X) : oA M X := by
  unfold S_length at h
  repeat' (refine pIf_c h (fun c h => ?_) (fun c h => ?_))
  all_goals first | (rw [h.2]; exact oA.rf.rfx) | exact oA.gt hn (by decide) h.1
theorem fa_joined {M X : Mm} {n cnt : Nat} {w x v : Int32} (hn : M.1 14 11 = nI n) (h : S_joined M n cnt w x v X) : oA M X := by
  unfold S_joined at h
  repeat' (refine pIf_c h (fun c h => ?_) (fun c h => ?_))
  all_goals first | (rw [h.2]; exact oA.rf.rfx) | exact oA.gt hn (by decide) h.1
theorem fa_tally {M X : Mm} {n cnt : Nat} {w x i v : Int32} (hn : M.1 14 11 = nI n) (h : S_tally M n cnt w x i v X) : oA M X := by
  unfold S_tally at h
  repeat' (refine pIf_c h (fun c h => ?_) (fun c h => ?_))
  all_goals first | (rw [h.2]; exact oA.rf.rfx) | exact oA.gt hn (by decide) h.1
theorem fa_part {M X : Mm} {n cnt : Nat} {w q x v : Int32} (hn : M.1 14 11 = nI n) (h : S_part M n cnt w q x v X) : oA M X := by
  unfold S_part at h
  repeat' (refine pIf_c h (fun c h => ?_) (fun c h => ?_))
  all_goals first | (rw [h.2]; exact oA.rf.rfx) | skip
  obtain ⟨Y, j, h1, h2, -⟩ := h
  have e := oA.gt hn (by decide) h1
  exact e.tr (oA.gt (by rw [(gtQ_I hn h1).1.2 14 (by omega)]; exact hn) (by decide) h2)
theorem fa_grows {M X : Mm} {n cnt : Nat} {x v : Int32} (hn : M.1 14 11 = nI n) (h : S_grows M n cnt x v X) : oA M X := by
  unfold S_grows at h
  refine pIf_c h (fun c h => ?_) (fun c h => ?_)
  · obtain ⟨Y, h1, h2, -⟩ := h
    have e := (evQ_I (show (aloneM 46 x.toNatClampNeg Y).1 (44 + 2) 11 = nI n from alone_n.trans (bec_n (v := 44) hn h1)) h2).1
    refine (oA.bec (by decide) h1).tr (oA.tr ?_ (oA.out (by decide) e))
    unfold aloneM calmM
    exact (((((((((oA.rf.rI (by decide)).rI (by decide)).rI (by decide)).rI (by decide)).mI (by decide)).mI (by decide)).mI (by decide)).rI (by decide)).mI (by decide)).mI (by decide)
  · rw [h.2]; exact oA.rf.rfx
theorem fa_front {M X : Mm} {n cnt : Nat} {w v : Int32} (hn : M.1 14 11 = nI n) (h : S_front M n cnt w v X) : oA M X := by
  unfold S_front at h
  refine pIf_c h (fun c h => ?_) (fun c h => ?_)
  · obtain ⟨Y, M0, h1, h2, h3, -⟩ := h
    exact (oA.bec (by decide) h1).tr (oA.tk (bec_n (v := 44) hn h1) (by decide) h2 h3)
  · rw [h.2]; exact oA.rf.rfx
theorem fa_fit {M X : Mm} {T : Nat → Prop} {n cnt : Nat} {s x v : Int32} (h : S_fit T n cnt M s x v X) : oA M X := by
  unfold S_fit at h
  repeat' (refine pIf_c h (fun c h => ?_) (fun c h => ?_))
  all_goals first | (rw [h.2]; first | exact oA.rf.rfx | exact oA.rf.rfA) | exact oA.out (by decide) h.1
theorem fa_spread {M X : Mm} {ln : Nat → Int32} {n cnt : Nat} {x v : Int32} (h : S_spread ln n cnt M x v X) : oA M X := by
  unfold S_spread at h
  repeat' (refine pIf_c h (fun c h => ?_) (fun c h => ?_))
  all_goals first | (rw [h.2]; exact oA.rf.rfx) | exact oA.out (by decide) h.1
theorem fa_few {M X : Mm} {E : Int32 → Int32 → Prop} {n : Nat} {m v : Int32} (h : S_few E n M m v X) : oA M X := by
  unfold S_few at h
  repeat' (refine pIf_c h (fun c h => ?_) (fun c h => ?_))
  all_goals first | (rw [h.2]; exact oA.rf.rfx) | skip
  obtain ⟨Y, h1, h2⟩ := h
  have e := oA.out (by decide) h1
  rcases h2 with h2 | ⟨-, ⟨a, -, -, -, -, h2⟩ | ⟨-, ⟨b, a, -, -, -, -, -, -, -, h2⟩ | ⟨-, -, h2⟩⟩⟩
  · rw [h2.2.2]; exact e
  · rw [h2]; exact e
  · rw [h2]; exact e
  · rw [h2]; exact e.rfx
theorem fb_move {M X : Mm} {n : Nat} {x s v : Int32} (h : S8_move M n x s v X) : oB M X := by
  unfold S8_move at h
  repeat' (refine pIf_c h (fun c h => ?_) (fun c h => ?_))
  all_goals (rw [h.2]; first | exact oB.rf | exact oB.rf.nox | exact oB.rf.noxA | exact oB.rf.mI (by decide) | exact (oB.rf.mI (by decide)).mI (by decide))
theorem fb_glove {M X : Mm} {x : Int32} {g : Prop} {v : Int32} (h : S8_glove M x g v X) : oB M X := by
  unfold S8_glove at h
  repeat' (refine pIf_c h (fun c h => ?_) (fun c h => ?_))
  all_goals (rw [h.2]; first | exact oB.rf | exact oB.rf.nox | exact oB.rf.noxA | exact oB.rf.mI (by decide) | exact (oB.rf.mI (by decide)).mI (by decide))
theorem fb_law {M X : Mm} {cnt : Nat} {l9 i v : Int32} (h : S8_law M cnt l9 i v X) : oB M X := by
  unfold S8_law at h
  repeat' (refine pIf_c h (fun c h => ?_) (fun c h => ?_))
  all_goals (rw [h.2]; first | exact oB.rf | exact oB.rf.nox | exact oB.rf.noxA | exact oB.rf.mI (by decide) | exact (oB.rf.mI (by decide)).mI (by decide))
theorem fb_force {M X : Mm} {l9 v : Int32} (h : S8_force M l9 v X) : oB M X := by
  unfold S8_force at h
  repeat' (refine pIf_c h (fun c h => ?_) (fun c h => ?_))
  all_goals (rw [h.2]; first | exact oB.rf | exact oB.rf.nox | exact oB.rf.noxA | exact oB.rf.mI (by decide) | exact (oB.rf.mI (by decide)).mI (by decide))
theorem fb_begin {M X : Mm} {x v : Int32} (h : S8_begin M x v X) : oB M X := by
  unfold S8_begin at h
  repeat' (refine pIf_c h (fun c h => ?_) (fun c h => ?_))
  all_goals (rw [h.2]; first | exact oB.rf | exact oB.rf.nox | exact oB.rf.noxA | exact oB.rf.mI (by decide) | exact (oB.rf.mI (by decide)).mI (by decide))
theorem fb_personOf {M X : Mm} {x w v : Int32} (h : S8_personOf M x w v X) : oB M X := by
  unfold S8_personOf at h
  repeat' (refine pIf_c h (fun c h => ?_) (fun c h => ?_))
  all_goals (rw [h.2]; first | exact oB.rf | exact oB.rf.nox | exact oB.rf.noxA | exact oB.rf.mI (by decide) | exact (oB.rf.mI (by decide)).mI (by decide))
theorem fb_alter {M X : Mm} {x w y v : Int32} (h : S8_alter M x w y v X) : oB M X := by
  unfold S8_alter at h
  repeat' (refine pIf_c h (fun c h => ?_) (fun c h => ?_))
  all_goals (rw [h.2]; first | exact oB.rf | exact oB.rf.nox | exact oB.rf.noxA | exact oB.rf.mI (by decide) | exact (oB.rf.mI (by decide)).mI (by decide))
theorem fb_many {M X : Mm} {n : Nat} {x v : Int32} (h : S8_many M n x v X) : oB M X := by
  unfold S8_many at h
  repeat' (refine pIf_c h (fun c h => ?_) (fun c h => ?_))
  all_goals (rw [h.2]; first | exact oB.rf | exact oB.rf.nox | exact oB.rf.noxA | exact oB.rf.mI (by decide) | exact (oB.rf.mI (by decide)).mI (by decide))
theorem fb_micro {M X : Mm} {mc : Nat} {s v : Int32} (h : S8_micro M mc s v X) : oB M X := by
  unfold S8_micro at h
  repeat' (refine pIf_c h (fun c h => ?_) (fun c h => ?_))
  all_goals (rw [h.2]; first | exact oB.rf | exact oB.rf.nox | exact oB.rf.noxA | exact oB.rf.mI (by decide) | exact (oB.rf.mI (by decide)).mI (by decide))
theorem fb_sum {M X : Mm} {n : Nat} {x v : Int32} (h : S8_sum M n x v X) : oB M X := by
  unfold S8_sum at h
  repeat' (refine pIf_c h (fun c h => ?_) (fun c h => ?_))
  all_goals (rw [h.2]; first | exact oB.rf | exact oB.rf.nox | exact oB.rf.noxA | exact oB.rf.mI (by decide) | exact (oB.rf.mI (by decide)).mI (by decide))
theorem fb_gloved {M X : Mm} {n : Nat} {x v : Int32} (h : S8_gloved M n x v X) : oB M X := by
  unfold S8_gloved at h
  repeat' (refine pIf_c h (fun c h => ?_) (fun c h => ?_))
  all_goals (rw [h.2]; first | exact oB.rf | exact oB.rf.nox | exact oB.rf.noxA | exact oB.rf.mI (by decide) | exact (oB.rf.mI (by decide)).mI (by decide))
theorem fb_trace {M X : Mm} {x v : Int32} (h : S8_trace M x v X) : oB M X := by
  unfold S8_trace at h
  repeat' (refine pIf_c h (fun c h => ?_) (fun c h => ?_))
  all_goals (rw [h.2]; first | exact oB.rf | exact oB.rf.nox | exact oB.rf.noxA | exact oB.rf.mI (by decide) | exact (oB.rf.mI (by decide)).mI (by decide))
theorem fb_show {M X : Mm} {s x v : Int32} (h : S8_show M s x v X) : oB M X := by
  unfold S8_show at h
  repeat' (refine pIf_c h (fun c h => ?_) (fun c h => ?_))
  all_goals (rw [h.2]; first | exact oB.rf | exact oB.rf.nox | exact oB.rf.noxA | exact oB.rf.mI (by decide) | exact (oB.rf.mI (by decide)).mI (by decide))
theorem fb_heard {M X : Mm} {n : Nat} {x v : Int32} (h : S8_heard M n x v X) : oB M X := by
  unfold S8_heard at h
  repeat' (refine pIf_c h (fun c h => ?_) (fun c h => ?_))
  all_goals (rw [h.2]; first | exact oB.rf | exact oB.rf.nox | exact oB.rf.noxA | exact oB.rf.mI (by decide) | exact (oB.rf.mI (by decide)).mI (by decide))
theorem fb_beside {M X : Mm} {n : Nat} {x v : Int32} (h : S8_beside M n x v X) : oB M X := by
  unfold S8_beside at h
  repeat' (refine pIf_c h (fun c h => ?_) (fun c h => ?_))
  all_goals (rw [h.2]; first | exact oB.rf | exact oB.rf.nox | exact oB.rf.noxA | exact oB.rf.mI (by decide) | exact (oB.rf.mI (by decide)).mI (by decide))
theorem fb_says {M X : Mm} {n : Nat} {s w v : Int32} (h : S8_says M n s w v X) : oB M X := by
  unfold S8_says at h
  repeat' (refine pIf_c h (fun c h => ?_) (fun c h => ?_))
  all_goals (rw [h.2]; first | exact oB.rf | exact oB.rf.nox | exact oB.rf.noxA | exact oB.rf.mI (by decide) | exact (oB.rf.mI (by decide)).mI (by decide))
theorem fb_seed {M X : Mm} {x v : Int32} (h : S8_seed M x v X) : oB M X := by
  unfold S8_seed at h
  rw [h.2]; exact oB.rf.mI (by decide)
theorem fb_holds {M X : Mm} {s v : Int32} (h : S8_holds M s v X) : oB M X := by
  unfold S8_holds at h
  rw [h.1]; exact oB.rf
theorem fb_status {M X : Mm} {x v : Int32} (h : S8_status M x v X) : oB M X := by
  unfold S8_status at h
  rw [h.1]; exact oB.rf
theorem fb_judge {M X : Mm} {n mc : Nat} {s v : Int32} (h : S8_judge M n mc s v X) : oB M X := by
  unfold S8_judge at h
  refine pIf_c h (fun c h => ?_) (fun c h => ?_)
  · rw [h.1]; exact oB.rf
  · rw [h.2]; exact oB.rf.noxA
theorem fb_row {M X : Mm} {s q n v : Int32} (h : S8_row M s q n v X) : oB M X := by
  unfold S8_row at h
  repeat' (refine pIf_c h (fun c h => ?_) (fun c h => ?_))
  all_goals (rw [h.2]; first | exact oB.rf.nox | (unfold rowM8; exact (((oB.rf.mI (by decide)).mI (by decide)).mI (by decide)).rL (by decide)))
theorem fb_set {M X : Mm} {s i v : Int32} {w : Int64} (h : S8_set M s i w v X) : oB M X := by
  unfold S8_set at h
  repeat' (refine pIf_c h (fun c h => ?_) (fun c h => ?_))
  all_goals (rw [h.2]; first | exact oB.rf.nox | exact oB.rf.mL (by decide))
theorem fb_copy {M X : Mm} {s t i j n v : Int32} (h : S8_copy M s t i j n v X) : oB M X := by
  unfold S8_copy at h
  repeat' (refine pIf_c h (fun c h => ?_) (fun c h => ?_))
  all_goals (rw [h.2]; first | exact oB.rf.nox | (unfold cp2 cp1; exact (oB.rf.rL (by decide)).rL (by decide)))
theorem fb_person {M X : Mm} {n : Nat} {k s l p a v : Int32} (h : S8_person M n k s l p a v X) : oB M X := by
  unfold S8_person at h
  repeat' (refine pIf_c h (fun c h => ?_) (fun c h => ?_))
  all_goals (rw [h.2]; first | exact oB.rf.nox | exact oB.com oB.rf)
theorem fb_people {M X : Mm} {n : Nat} {s i m v : Int32} (h : S8_people M n s i m v X) : oB M X := by
  unfold S8_people at h
  repeat' (refine pIf_c h (fun c h => ?_) (fun c h => ?_))
  all_goals first | (rw [h.2]; first | exact oB.rf.nox | exact oB.rf.noxA) | skip
  obtain ⟨j, -, h1, -⟩ := h
  exact oB.ppl j X h1
theorem fb_hush {n : Nat} {M : Mm} : oB M (mI (mI (mI (qui8 n M) 105 3 0) 105 7 0) 105 8 0) := by
  unfold qui8
  exact ((((((oB.rf.rI (by decide)).rI (by decide)).rI (by decide)).rI (by decide)).mI (by decide)).mI (by decide)).mI (by decide)
theorem fb_image {M : Mm} : oB M (imM M) := by
  unfold imM imP
  exact ((((((((oB.rf.mI (by decide)).mI (by decide)).mI (by decide)).mI (by decide)).mI (by decide)).mI (by decide)).mI (by decide)).mI (by decide)).rI (by decide)
theorem fb_restore {M X : Mm} {v : Int32} (h : S8_restore M v X) : oB M X := by
  unfold S8_restore at h
  refine pIf_c h (fun c h => ?_) (fun c h => ?_)
  · rw [h.2]; exact oB.rf.nox
  · rw [h.1]
    unfold reM reX reP
    exact (oB.bk ((((((((oB.rf.mI (by decide)).mI (by decide)).mI (by decide)).mI (by decide)).mI (by decide)).mI (by decide)).mI (by decide)).mI (by decide)) 12 (by decide)).rI (by decide)
theorem fb_laws {M X : Mm} {cnt : Nat} {s v : Int32} (h : S8_laws M cnt s v X) : oB M X := by
  unfold S8_laws at h
  repeat' (refine pIf_c h (fun c h => ?_) (fun c h => ?_))
  all_goals (rw [h.2]; first | exact oB.rf.noxA | exact oB.rf.lw.nox | exact (oB.rf.lw.mI (by decide)).nox | exact (oB.rf.lw.rI (by decide)).mI (by decide))
theorem fb_tick {M X : Mm} {n : Nat} {x v : Int32} (h : S8_tick M n x v X) : oB M X := by
  unfold S8_tick at h
  repeat' (refine pIf_c h (fun c h => ?_) (fun c h => ?_))
  all_goals first | (rw [h.2]; exact oB.rf.nox) | skip
  have f := itR_fx _ X h.1
  exact fun k hk => ⟨(f.2.1 k (by unfold S8; omega)).trans (mI_other (by omega)), by rw [f.1]; rfl⟩
theorem fb_act {M X : Mm} {x a y v : Int32} (h : S8_act M x a y v X) : oB M X := by
  unfold S8_act at h
  repeat' (refine pIf_c h (fun c h => ?_) (fun c h => ?_))
  all_goals (rw [h.2]; first | exact oB.rf.mI (by decide) | exact oB.tr8 _ _ _ (oB.rf.mI (by decide)))
theorem fb_length {M X : Mm} {n : Nat} {w x v : Int32} (h : S8_length M n w x v X) : oB M X := by
  unfold S8_length at h
  repeat' (refine pIf_c h (fun c h => ?_) (fun c h => ?_))
  all_goals first | (rw [h.2]; exact oB.rf.nox) | exact oB.o8 (wb8_out h.1)
theorem fb_joined {M X : Mm} {n : Nat} {w x v : Int32} (h : S8_joined M n w x v X) : oB M X := by
  unfold S8_joined at h
  repeat' (refine pIf_c h (fun c h => ?_) (fun c h => ?_))
  all_goals first | (rw [h.2]; exact oB.rf.nox) | exact oB.o8 (wb8_out h.1)
theorem fb_tally {M X : Mm} {n : Nat} {w x i v : Int32} (h : S8_tally M n w x i v X) : oB M X := by
  unfold S8_tally at h
  repeat' (refine pIf_c h (fun c h => ?_) (fun c h => ?_))
  all_goals first | (rw [h.2]; exact oB.rf.nox) | exact oB.o8 (wb8_out h.1)
theorem fb_part {M X : Mm} {n : Nat} {w q x v : Int32} (h : S8_part M n w q x v X) : oB M X := by
  unfold S8_part at h
  repeat' (refine pIf_c h (fun c h => ?_) (fun c h => ?_))
  all_goals first | (rw [h.2]; exact oB.rf.nox) | skip
  obtain ⟨Y, j, h1, h2, -⟩ := h
  exact ((oB.o8 (wb8_out h1)).tr (show oB Y (oth8 _ Y) from oB.rf.rI (by decide))).tr (oB.o8 (wb8_out h2))
theorem fb_grows {M X : Mm} {n : Nat} {x v : Int32} (h36 : M.1 105 36 = 0) (h : S8_grows M n x v X) : oB M X := by
  unfold S8_grows at h
  repeat' (refine pIf_c h (fun c h => ?_) (fun c h => ?_))
  all_goals first | (rw [h.2]; exact oB.rf.nox) | exact oB.o8 (gw8_out h36 h.1)
theorem fb_front {M X : Mm} {n : Nat} {w v : Int32} (h : S8_front M n w v X) : oB M X := by
  unfold S8_front at h
  refine pIf_c h (fun c h => ?_) (fun c h => ?_)
  · obtain ⟨Y, h1, h2, -⟩ := h
    exact oB.o8 (wb8_out ⟨Y, h1, h2⟩)
  · rw [h.2]; exact oB.rf.nox
theorem fb_fit {M X : Mm} {T : Nat → Prop} {n cnt : Nat} {s x v : Int32} (h : S8_fit T n cnt M s x v X) : oB M X := by
  unfold S8_fit at h
  repeat' (refine pIf_c h (fun c h => ?_) (fun c h => ?_))
  all_goals first | (rw [h.2]; first | exact oB.rf.nox | exact oB.rf.noxA) | exact oB.o8 h.1
theorem fb_spread {M X : Mm} {ln : Nat → Int32} {n : Nat} {x v : Int32} (h : S8_spread ln n M x v X) : oB M X := by
  unfold S8_spread at h
  repeat' (refine pIf_c h (fun c h => ?_) (fun c h => ?_))
  all_goals first | (rw [h.2]; exact oB.rf.nox) | exact oB.o8 h.1
theorem fb_few {M X : Mm} {E : Int32 → Int32 → Int32} {n : Nat} {m v : Int32} (h : S8_few E n M m v X) : oB M X := by
  unfold S8_few at h
  repeat' (refine pIf_c h (fun c h => ?_) (fun c h => ?_))
  all_goals first | (rw [h.2]; exact oB.rf.nox) | skip
  obtain ⟨Y, h1, h2⟩ := h
  have e := oB.o8 h1
  rcases h2 with h2 | ⟨-, ⟨a, -, -, -, -, h2⟩ | ⟨-, ⟨b, a, -, -, -, -, -, -, h2⟩ | ⟨-, -, h2⟩⟩⟩
  · rw [h2.2.2]; exact e
  · rw [h2]; exact e
  · rw [h2]; exact e
  · rw [h2]; exact e.nox
