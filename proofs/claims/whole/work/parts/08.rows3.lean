/-- a truth as the machine has it -/
noncomputable def b01 (p : Prop) : Int32 := @ite _ p (Classical.propDecidable p) 1 0
theorem b01_t {p : Prop} (h : p) : b01 p = 1 := if_pos h
theorem b01_f {p : Prop} (h : ¬ p) : b01 p = 0 := if_neg h
theorem b01_0 {p : Prop} : b01 p = 0 ↔ ¬ p := by
  by_cases h : p
  · rw [b01_t h]; simp [h]
  · rw [b01_f h]; simp [h]
theorem b01_1 {p : Prop} : b01 p = 1 ↔ p := by
  by_cases h : p
  · rw [b01_t h]; simp [h]
  · rw [b01_f h]; simp [h]
theorem b01_ok {p : Prop} : b01 p = 0 ∨ b01 p = 1 := by
  by_cases h : p
  · exact Or.inr (b01_t h)
  · exact Or.inl (b01_f h)
theorem b01_c {p q : Prop} (h : p ↔ q) : b01 p = b01 q := by rw [propext h]
theorem nar01 {x : Int32} (h : x = 0 ∨ x = 1) : vp_nar .boolean x = x := by rcases h with rfl | rfl <;> rfl
theorem t01a {p : Prop} [Decidable p] : (if p then (0 : Int32) else 1) = b01 (¬ p) := by
  by_cases h : p
  · rw [if_pos h, b01_f (fun q => q h)]
  · rw [if_neg h, b01_t h]
theorem t01b {p : Prop} [Decidable p] : (if p then (1 : Int32) else 0) = b01 p := by
  by_cases h : p
  · rw [if_pos h, b01_t h]
  · rw [if_neg h, b01_f h]
theorem t01c {p : Prop} : (if b01 p = 0 then (0 : Int32) else 1) = b01 p := by
  by_cases h : p
  · rw [b01_t h, if_neg (by decide)]
  · rw [b01_f h, if_pos rfl]
theorem t01d {p : Prop} : (if ¬ b01 p = 0 then (0 : Int32) else 1) = b01 (¬ p) := by
  by_cases h : p
  · rw [b01_t h, b01_f (fun q => q h), if_pos (by decide)]
  · rw [b01_f h, b01_t h, if_neg (fun q => q rfl)]
theorem nar_b01 {p : Prop} : vp_nar .boolean (b01 p) = b01 p := nar01 b01_ok
section R3
variable {l : Launch} {d : Nat} {y : MethodName} {b : ByteArray} {nL : Nat} {ret : Option FieldType} {pc : Nat} {ls : List (Option Value)} {st : List Value} {M : Mm} {Q : Option Value → Mm → Prop}
theorem aw_top {x z : Int32} (h : x = z) (k : AW l d y b nL ret pc ls (.int z :: st) M Q) : AW l d y b nL ret pc ls (.int x :: st) M Q := h ▸ k
theorem aw_topL {x z : Int64} (h : x = z) (k : AW l d y b nL ret pc ls (.long z :: st) M Q) : AW l d y b nL ret pc ls (.long x :: st) M Q := h ▸ k
theorem aw_top2 {x z : Int32} {v : Value} (h : x = z) (k : AW l d y b nL ret pc ls (v :: .int z :: st) M Q) : AW l d y b nL ret pc ls (v :: .int x :: st) M Q := h ▸ k
theorem aw_ifeq_b {p : Prop} {off : Int} {tgt : Nat} (hd : decode b pc = .ok (.ifCond .eq off, 3)) (ht : (pc : Int) + off = (tgt : Int))
    (kt : ¬ p → AW l d y b nL ret tgt ls st M Q) (kf : p → AW l d y b nL ret (pc + 3) ls st M Q) : AW l d y b nL ret pc ls (.int (b01 p) :: st) M Q := aw_if_eq hd ht (fun h => kt (b01_0.mp h)) (fun h => kf (Classical.not_not.mp (fun q => h (b01_0.mpr q))))
theorem aw_ifne_b {p : Prop} {off : Int} {tgt : Nat} (hd : decode b pc = .ok (.ifCond .ne off, 3)) (ht : (pc : Int) + off = (tgt : Int))
    (kt : p → AW l d y b nL ret tgt ls st M Q) (kf : ¬ p → AW l d y b nL ret (pc + 3) ls st M Q) : AW l d y b nL ret pc ls (.int (b01 p) :: st) M Q := aw_if_ne hd ht (fun h => kt (Classical.not_not.mp (fun q => h (b01_0.mpr q)))) (fun h => kf (b01_0.mp h))
theorem aw_iinc1 {i : Nat} {x : Int32} (hd : decode b pc = .ok (.iinc i 1, 3)) (hl9 : ls[i]? = some (some (.int x))) (hn : i < nL) (k : AW l d y b nL ret (pc + 3) (lset ls i (.int (x + 1))) st M Q) : AW l d y b nL ret pc ls st M Q := aw_iinc hd hl9 rfl hn k
theorem aw_iincN {i x : Nat} (hd : decode b pc = .ok (.iinc i 1, 3)) (hl9 : ls[i]? = some (some (.int (nI x)))) (hn : i < nL) (k : AW l d y b nL ret (pc + 3) (lset ls i (.int (nI (x + 1)))) st M Q) : AW l d y b nL ret pc ls st M Q := by
  rw [nI_succ] at k
  exact aw_iinc hd hl9 rfl hn k
theorem aw_iincN5 {i x : Nat} (hd : decode b pc = .ok (.iinc i 5, 3)) (hl9 : ls[i]? = some (some (.int (nI x)))) (hn : i < nL) (k : AW l d y b nL ret (pc + 3) (lset ls i (.int (nI (x + 5)))) st M Q) : AW l d y b nL ret pc ls st M Q := by
  rw [← nI_add] at k
  exact aw_iinc hd hl9 rfl hn k
theorem aw_getN {o ci j index n : Nat} {fs : List (Option Nat)} (hg : GF y.cls index ci j) (hs : shp[o]? = some (.inl (ci, fs))) (hf : fs[j]? = some none) (hv : M.1 o j = nI n) (hd : decode b pc = .ok (.getfield index, 3)) (k : AW l d y b nL ret (pc + 3) ls (.int (nI n) :: st) M Q) : AW l d y b nL ret pc ls (.ref o :: st) M Q := by
  rw [← hv] at k
  exact aw_getI hg hs hf hd k
theorem aw_getX {o ci j index : Nat} {x : Int32} {fs : List (Option Nat)} (hg : GF y.cls index ci j) (hs : shp[o]? = some (.inl (ci, fs))) (hf : fs[j]? = some none) (hv : M.1 o j = x) (hd : decode b pc = .ok (.getfield index, 3)) (k : AW l d y b nL ret (pc + 3) ls (.int x :: st) M Q) : AW l d y b nL ret pc ls (.ref o :: st) M Q := by
  rw [← hv] at k
  exact aw_getI hg hs hf hd k
theorem aw_ialdN {a n q j : Nat} (hs : shp[a]? = some (.inr (0, n, q))) (hj : j < n) (hn : n < 2 ^ 31) (hd : decode b pc = .ok (.iaload, 1)) (k : AW l d y b nL ret (pc + 1) ls (.int (M.1 a j) :: st) M Q) : AW l d y b nL ret pc ls (.int (nI j) :: .ref a :: st) M Q := by
  refine aw_iald hs (vp_in_nI hj hn) hd ?_
  rw [nI_clamp (Nat.lt_trans hj hn)]
  exact k
theorem aw_ialdX {a n q j : Nat} {x : Int32} (hs : shp[a]? = some (.inr (0, n, q))) (hj : j < n) (hn : n < 2 ^ 31) (hv : M.1 a j = x) (hd : decode b pc = .ok (.iaload, 1)) (k : AW l d y b nL ret (pc + 1) ls (.int x :: st) M Q) : AW l d y b nL ret pc ls (.int (nI j) :: .ref a :: st) M Q := by
  rw [← hv] at k
  exact aw_ialdN hs hj hn hd k
theorem aw_zaldN {a n q j : Nat} (hs : shp[a]? = some (.inr (1, n, q))) (hj : j < n) (hn : n < 2 ^ 31) (hd : decode b pc = .ok (.baload, 1)) (k : AW l d y b nL ret (pc + 1) ls (.int (M.1 a j) :: st) M Q) : AW l d y b nL ret pc ls (.int (nI j) :: .ref a :: st) M Q := by
  refine aw_zald hs (vp_in_nI hj hn) hd ?_
  rw [nI_clamp (Nat.lt_trans hj hn)]
  exact k
theorem aw_laldN {a n q j : Nat} (hs : shp[a]? = some (.inr (2, n, q))) (hj : j < n) (hn : n < 2 ^ 31) (hd : decode b pc = .ok (.laload, 1)) (k : AW l d y b nL ret (pc + 1) ls (.long (M.2 a j) :: st) M Q) : AW l d y b nL ret pc ls (.int (nI j) :: .ref a :: st) M Q := by
  refine aw_lald hs (vp_in_nI hj hn) hd ?_
  rw [nI_clamp (Nat.lt_trans hj hn)]
  exact k
theorem aw_aaldN {a t n q j : Nat} (hs : shp[a]? = some (.inr (t + 3, n, q))) (ht5 : t + 3 < 5) (hj : j < n) (hn : n < 2 ^ 31) (hd : decode b pc = .ok (.aaload, 1)) (k : AW l d y b nL ret (pc + 1) ls (.ref (q + j) :: st) M Q) : AW l d y b nL ret pc ls (.int (nI j) :: .ref a :: st) M Q := aw_aald hs ht5 (vp_in_nI hj hn) (nI_clamp (Nat.lt_trans hj hn)) hd k
theorem aw_iastN {a n q j : Nat} {x : Int32} (hs : shp[a]? = some (.inr (0, n, q))) (hj : j < n) (hn : n < 2 ^ 31) (hd : decode b pc = .ok (.iastore, 1)) (k : AW l d y b nL ret (pc + 1) ls st (mI M a j x) Q) : AW l d y b nL ret pc ls (.int x :: .int (nI j) :: .ref a :: st) M Q := by
  refine aw_iast hs (vp_in_nI hj hn) hd ?_
  rw [nI_clamp (Nat.lt_trans hj hn)]
  exact k
theorem aw_zastN {a n q j : Nat} {x : Int32} (hs : shp[a]? = some (.inr (1, n, q))) (hj : j < n) (hn : n < 2 ^ 31) (hx : x = 0 ∨ x = 1) (hd : decode b pc = .ok (.bastore, 1)) (k : AW l d y b nL ret (pc + 1) ls st (mI M a j x) Q) : AW l d y b nL ret pc ls (.int x :: .int (nI j) :: .ref a :: st) M Q := by
  refine aw_zast hs (vp_in_nI hj hn) hd ?_
  rw [nI_clamp (Nat.lt_trans hj hn), nar01 hx]
  exact k
theorem aw_lastN {a n q j : Nat} {x : Int64} (hs : shp[a]? = some (.inr (2, n, q))) (hj : j < n) (hn : n < 2 ^ 31) (hd : decode b pc = .ok (.lastore, 1)) (k : AW l d y b nL ret (pc + 1) ls st (mL M a j x) Q) : AW l d y b nL ret pc ls (.long x :: .int (nI j) :: .ref a :: st) M Q := by
  refine aw_last hs (vp_in_nI hj hn) hd ?_
  rw [nI_clamp (Nat.lt_trans hj hn)]
  exact k

theorem aw_icmp_geN {x z : Nat} {off : Int} {tgt : Nat} (hx : x < 2 ^ 31) (hz : z < 2 ^ 31) (hd : decode b pc = .ok (.if_icmp .ge off, 3)) (ht : (pc : Int) + off = (tgt : Int))
    (kt : z ≤ x → AW l d y b nL ret tgt ls st M Q) (kf : x < z → AW l d y b nL ret (pc + 3) ls st M Q) : AW l d y b nL ret pc ls (.int (nI z) :: .int (nI x) :: st) M Q := aw_icmp_ge hd ht (fun h => kt ((nI_leI (a := z) (b := x) hz hx).mp h)) (fun h => kf (Nat.lt_of_not_le fun q => h ((nI_leI (a := z) (b := x) hz hx).mpr q)))
theorem aw_icmp_ltN {x z : Nat} {off : Int} {tgt : Nat} (hx : x < 2 ^ 31) (hz : z < 2 ^ 31) (hd : decode b pc = .ok (.if_icmp .lt off, 3)) (ht : (pc : Int) + off = (tgt : Int))
    (kt : x < z → AW l d y b nL ret tgt ls st M Q) (kf : z ≤ x → AW l d y b nL ret (pc + 3) ls st M Q) : AW l d y b nL ret pc ls (.int (nI z) :: .int (nI x) :: st) M Q := aw_icmp_lt hd ht (fun h => kt ((nI_ltI (a := x) (b := z) hx hz).mp h)) (fun h => kf (Nat.le_of_not_lt fun q => h ((nI_ltI (a := x) (b := z) hx hz).mpr q)))
theorem aw_icmp_gtN {x z : Nat} {off : Int} {tgt : Nat} (hx : x < 2 ^ 31) (hz : z < 2 ^ 31) (hd : decode b pc = .ok (.if_icmp .gt off, 3)) (ht : (pc : Int) + off = (tgt : Int))
    (kt : z < x → AW l d y b nL ret tgt ls st M Q) (kf : x ≤ z → AW l d y b nL ret (pc + 3) ls st M Q) : AW l d y b nL ret pc ls (.int (nI z) :: .int (nI x) :: st) M Q := aw_icmp_gt hd ht (fun h => kt ((nI_ltI (a := z) (b := x) hz hx).mp h)) (fun h => kf (Nat.le_of_not_lt fun q => h ((nI_ltI (a := z) (b := x) hz hx).mpr q)))
theorem aw_icmp_leN {x z : Nat} {off : Int} {tgt : Nat} (hx : x < 2 ^ 31) (hz : z < 2 ^ 31) (hd : decode b pc = .ok (.if_icmp .le off, 3)) (ht : (pc : Int) + off = (tgt : Int))
    (kt : x ≤ z → AW l d y b nL ret tgt ls st M Q) (kf : z < x → AW l d y b nL ret (pc + 3) ls st M Q) : AW l d y b nL ret pc ls (.int (nI z) :: .int (nI x) :: st) M Q := aw_icmp_le hd ht (fun h => kt ((nI_leI (a := x) (b := z) hx hz).mp h)) (fun h => kf (Nat.lt_of_not_le fun q => h ((nI_leI (a := x) (b := z) hx hz).mpr q)))
theorem aw_icmp_eqN {x z : Nat} {off : Int} {tgt : Nat} (hx : x < 2 ^ 31) (hz : z < 2 ^ 31) (hd : decode b pc = .ok (.if_icmp .eq off, 3)) (ht : (pc : Int) + off = (tgt : Int))
    (kt : x = z → AW l d y b nL ret tgt ls st M Q) (kf : ¬ x = z → AW l d y b nL ret (pc + 3) ls st M Q) : AW l d y b nL ret pc ls (.int (nI z) :: .int (nI x) :: st) M Q := aw_icmp_eq hd ht (fun h => kt ((nI_eq (a := x) (b := z) hx hz).mp h)) (fun h => kf (fun q => h ((nI_eq (a := x) (b := z) hx hz).mpr q)))
theorem aw_icmp_neN {x z : Nat} {off : Int} {tgt : Nat} (hx : x < 2 ^ 31) (hz : z < 2 ^ 31) (hd : decode b pc = .ok (.if_icmp .ne off, 3)) (ht : (pc : Int) + off = (tgt : Int))
    (kt : ¬ x = z → AW l d y b nL ret tgt ls st M Q) (kf : x = z → AW l d y b nL ret (pc + 3) ls st M Q) : AW l d y b nL ret pc ls (.int (nI z) :: .int (nI x) :: st) M Q := aw_icmp_ne hd ht (fun h => kt (fun q => h ((nI_eq (a := x) (b := z) hx hz).mpr q))) (fun h => kf ((nI_eq (a := x) (b := z) hx hz).mp h))
theorem aw_tern_eq {x v w : Int32} {n1 n2 off o2 : Int} {tgt j : Nat} (hd : decode b pc = .ok (.ifCond .eq off, 3)) (ht : (pc : Int) + off = (tgt : Int)) (d1 : decode b (pc + 3) = .ok (.iconst n1, 1)) (hv : Int32.ofInt n1 = v) (d2 : decode b (pc + 3 + 1) = .ok (.goto o2, 3)) (hj : ((pc + 3 + 1 : Nat) : Int) + o2 = (j : Int)) (d3 : decode b tgt = .ok (.iconst n2, 1)) (hw : Int32.ofInt n2 = w) (hj2 : tgt + 1 = j)
    (k : AW l d y b nL ret j ls (.int (if x = 0 then w else v) :: st) M Q) : AW l d y b nL ret pc ls (.int x :: st) M Q := by
  refine aw_if_eq hd ht (fun h => ?_) (fun h => ?_)
  · refine aw_iconst d3 hw ?_
    rw [hj2]
    rw [if_pos h] at k
    exact k
  · refine aw_iconst d1 hv (aw_goto d2 hj ?_)
    rw [if_neg h] at k
    exact k
theorem aw_tern_ne {x v w : Int32} {n1 n2 off o2 : Int} {tgt j : Nat} (hd : decode b pc = .ok (.ifCond .ne off, 3)) (ht : (pc : Int) + off = (tgt : Int)) (d1 : decode b (pc + 3) = .ok (.iconst n1, 1)) (hv : Int32.ofInt n1 = v) (d2 : decode b (pc + 3 + 1) = .ok (.goto o2, 3)) (hj : ((pc + 3 + 1 : Nat) : Int) + o2 = (j : Int)) (d3 : decode b tgt = .ok (.iconst n2, 1)) (hw : Int32.ofInt n2 = w) (hj2 : tgt + 1 = j)
    (k : AW l d y b nL ret j ls (.int (if ¬ x = 0 then w else v) :: st) M Q) : AW l d y b nL ret pc ls (.int x :: st) M Q := by
  refine aw_if_ne hd ht (fun h => ?_) (fun h => ?_)
  · refine aw_iconst d3 hw ?_
    rw [hj2]
    rw [if_pos h] at k
    exact k
  · refine aw_iconst d1 hv (aw_goto d2 hj ?_)
    rw [if_neg (fun q => q h)] at k
    exact k
theorem aw_tern_lt {x v w : Int32} {n1 n2 off o2 : Int} {tgt j : Nat} (hd : decode b pc = .ok (.ifCond .lt off, 3)) (ht : (pc : Int) + off = (tgt : Int)) (d1 : decode b (pc + 3) = .ok (.iconst n1, 1)) (hv : Int32.ofInt n1 = v) (d2 : decode b (pc + 3 + 1) = .ok (.goto o2, 3)) (hj : ((pc + 3 + 1 : Nat) : Int) + o2 = (j : Int)) (d3 : decode b tgt = .ok (.iconst n2, 1)) (hw : Int32.ofInt n2 = w) (hj2 : tgt + 1 = j)
    (k : AW l d y b nL ret j ls (.int (if x < 0 then w else v) :: st) M Q) : AW l d y b nL ret pc ls (.int x :: st) M Q := by
  refine aw_if_lt hd ht (fun h => ?_) (fun h => ?_)
  · refine aw_iconst d3 hw ?_
    rw [hj2]
    rw [if_pos h] at k
    exact k
  · refine aw_iconst d1 hv (aw_goto d2 hj ?_)
    rw [if_neg h] at k
    exact k
theorem aw_tern_ge {x v w : Int32} {n1 n2 off o2 : Int} {tgt j : Nat} (hd : decode b pc = .ok (.ifCond .ge off, 3)) (ht : (pc : Int) + off = (tgt : Int)) (d1 : decode b (pc + 3) = .ok (.iconst n1, 1)) (hv : Int32.ofInt n1 = v) (d2 : decode b (pc + 3 + 1) = .ok (.goto o2, 3)) (hj : ((pc + 3 + 1 : Nat) : Int) + o2 = (j : Int)) (d3 : decode b tgt = .ok (.iconst n2, 1)) (hw : Int32.ofInt n2 = w) (hj2 : tgt + 1 = j)
    (k : AW l d y b nL ret j ls (.int (if 0 ≤ x then w else v) :: st) M Q) : AW l d y b nL ret pc ls (.int x :: st) M Q := by
  refine aw_if_ge hd ht (fun h => ?_) (fun h => ?_)
  · refine aw_iconst d3 hw ?_
    rw [hj2]
    rw [if_pos h] at k
    exact k
  · refine aw_iconst d1 hv (aw_goto d2 hj ?_)
    rw [if_neg h] at k
    exact k
theorem aw_tern_gt {x v w : Int32} {n1 n2 off o2 : Int} {tgt j : Nat} (hd : decode b pc = .ok (.ifCond .gt off, 3)) (ht : (pc : Int) + off = (tgt : Int)) (d1 : decode b (pc + 3) = .ok (.iconst n1, 1)) (hv : Int32.ofInt n1 = v) (d2 : decode b (pc + 3 + 1) = .ok (.goto o2, 3)) (hj : ((pc + 3 + 1 : Nat) : Int) + o2 = (j : Int)) (d3 : decode b tgt = .ok (.iconst n2, 1)) (hw : Int32.ofInt n2 = w) (hj2 : tgt + 1 = j)
    (k : AW l d y b nL ret j ls (.int (if 0 < x then w else v) :: st) M Q) : AW l d y b nL ret pc ls (.int x :: st) M Q := by
  refine aw_if_gt hd ht (fun h => ?_) (fun h => ?_)
  · refine aw_iconst d3 hw ?_
    rw [hj2]
    rw [if_pos h] at k
    exact k
  · refine aw_iconst d1 hv (aw_goto d2 hj ?_)
    rw [if_neg h] at k
    exact k
theorem aw_tern_le {x v w : Int32} {n1 n2 off o2 : Int} {tgt j : Nat} (hd : decode b pc = .ok (.ifCond .le off, 3)) (ht : (pc : Int) + off = (tgt : Int)) (d1 : decode b (pc + 3) = .ok (.iconst n1, 1)) (hv : Int32.ofInt n1 = v) (d2 : decode b (pc + 3 + 1) = .ok (.goto o2, 3)) (hj : ((pc + 3 + 1 : Nat) : Int) + o2 = (j : Int)) (d3 : decode b tgt = .ok (.iconst n2, 1)) (hw : Int32.ofInt n2 = w) (hj2 : tgt + 1 = j)
    (k : AW l d y b nL ret j ls (.int (if x ≤ 0 then w else v) :: st) M Q) : AW l d y b nL ret pc ls (.int x :: st) M Q := by
  refine aw_if_le hd ht (fun h => ?_) (fun h => ?_)
  · refine aw_iconst d3 hw ?_
    rw [hj2]
    rw [if_pos h] at k
    exact k
  · refine aw_iconst d1 hv (aw_goto d2 hj ?_)
    rw [if_neg h] at k
    exact k
theorem aw_ternC_eq {x z v w : Int32} {n1 n2 off o2 : Int} {tgt j : Nat} (hd : decode b pc = .ok (.if_icmp .eq off, 3)) (ht : (pc : Int) + off = (tgt : Int)) (d1 : decode b (pc + 3) = .ok (.iconst n1, 1)) (hv : Int32.ofInt n1 = v) (d2 : decode b (pc + 3 + 1) = .ok (.goto o2, 3)) (hj : ((pc + 3 + 1 : Nat) : Int) + o2 = (j : Int)) (d3 : decode b tgt = .ok (.iconst n2, 1)) (hw : Int32.ofInt n2 = w) (hj2 : tgt + 1 = j)
    (k : AW l d y b nL ret j ls (.int (if x = z then w else v) :: st) M Q) : AW l d y b nL ret pc ls (.int z :: .int x :: st) M Q := by
  refine aw_icmp_eq hd ht (fun h => ?_) (fun h => ?_)
  · refine aw_iconst d3 hw ?_
    rw [hj2]
    rw [if_pos h] at k
    exact k
  · refine aw_iconst d1 hv (aw_goto d2 hj ?_)
    rw [if_neg h] at k
    exact k
theorem aw_ternC_ne {x z v w : Int32} {n1 n2 off o2 : Int} {tgt j : Nat} (hd : decode b pc = .ok (.if_icmp .ne off, 3)) (ht : (pc : Int) + off = (tgt : Int)) (d1 : decode b (pc + 3) = .ok (.iconst n1, 1)) (hv : Int32.ofInt n1 = v) (d2 : decode b (pc + 3 + 1) = .ok (.goto o2, 3)) (hj : ((pc + 3 + 1 : Nat) : Int) + o2 = (j : Int)) (d3 : decode b tgt = .ok (.iconst n2, 1)) (hw : Int32.ofInt n2 = w) (hj2 : tgt + 1 = j)
    (k : AW l d y b nL ret j ls (.int (if ¬ x = z then w else v) :: st) M Q) : AW l d y b nL ret pc ls (.int z :: .int x :: st) M Q := by
  refine aw_icmp_ne hd ht (fun h => ?_) (fun h => ?_)
  · refine aw_iconst d3 hw ?_
    rw [hj2]
    rw [if_pos h] at k
    exact k
  · refine aw_iconst d1 hv (aw_goto d2 hj ?_)
    rw [if_neg (fun q => q h)] at k
    exact k
theorem aw_ternC_lt {x z v w : Int32} {n1 n2 off o2 : Int} {tgt j : Nat} (hd : decode b pc = .ok (.if_icmp .lt off, 3)) (ht : (pc : Int) + off = (tgt : Int)) (d1 : decode b (pc + 3) = .ok (.iconst n1, 1)) (hv : Int32.ofInt n1 = v) (d2 : decode b (pc + 3 + 1) = .ok (.goto o2, 3)) (hj : ((pc + 3 + 1 : Nat) : Int) + o2 = (j : Int)) (d3 : decode b tgt = .ok (.iconst n2, 1)) (hw : Int32.ofInt n2 = w) (hj2 : tgt + 1 = j)
    (k : AW l d y b nL ret j ls (.int (if x < z then w else v) :: st) M Q) : AW l d y b nL ret pc ls (.int z :: .int x :: st) M Q := by
  refine aw_icmp_lt hd ht (fun h => ?_) (fun h => ?_)
  · refine aw_iconst d3 hw ?_
    rw [hj2]
    rw [if_pos h] at k
    exact k
  · refine aw_iconst d1 hv (aw_goto d2 hj ?_)
    rw [if_neg h] at k
    exact k
theorem aw_ternC_ge {x z v w : Int32} {n1 n2 off o2 : Int} {tgt j : Nat} (hd : decode b pc = .ok (.if_icmp .ge off, 3)) (ht : (pc : Int) + off = (tgt : Int)) (d1 : decode b (pc + 3) = .ok (.iconst n1, 1)) (hv : Int32.ofInt n1 = v) (d2 : decode b (pc + 3 + 1) = .ok (.goto o2, 3)) (hj : ((pc + 3 + 1 : Nat) : Int) + o2 = (j : Int)) (d3 : decode b tgt = .ok (.iconst n2, 1)) (hw : Int32.ofInt n2 = w) (hj2 : tgt + 1 = j)
    (k : AW l d y b nL ret j ls (.int (if z ≤ x then w else v) :: st) M Q) : AW l d y b nL ret pc ls (.int z :: .int x :: st) M Q := by
  refine aw_icmp_ge hd ht (fun h => ?_) (fun h => ?_)
  · refine aw_iconst d3 hw ?_
    rw [hj2]
    rw [if_pos h] at k
    exact k
  · refine aw_iconst d1 hv (aw_goto d2 hj ?_)
    rw [if_neg h] at k
    exact k
theorem aw_ternC_gt {x z v w : Int32} {n1 n2 off o2 : Int} {tgt j : Nat} (hd : decode b pc = .ok (.if_icmp .gt off, 3)) (ht : (pc : Int) + off = (tgt : Int)) (d1 : decode b (pc + 3) = .ok (.iconst n1, 1)) (hv : Int32.ofInt n1 = v) (d2 : decode b (pc + 3 + 1) = .ok (.goto o2, 3)) (hj : ((pc + 3 + 1 : Nat) : Int) + o2 = (j : Int)) (d3 : decode b tgt = .ok (.iconst n2, 1)) (hw : Int32.ofInt n2 = w) (hj2 : tgt + 1 = j)
    (k : AW l d y b nL ret j ls (.int (if z < x then w else v) :: st) M Q) : AW l d y b nL ret pc ls (.int z :: .int x :: st) M Q := by
  refine aw_icmp_gt hd ht (fun h => ?_) (fun h => ?_)
  · refine aw_iconst d3 hw ?_
    rw [hj2]
    rw [if_pos h] at k
    exact k
  · refine aw_iconst d1 hv (aw_goto d2 hj ?_)
    rw [if_neg h] at k
    exact k
theorem aw_ternC_le {x z v w : Int32} {n1 n2 off o2 : Int} {tgt j : Nat} (hd : decode b pc = .ok (.if_icmp .le off, 3)) (ht : (pc : Int) + off = (tgt : Int)) (d1 : decode b (pc + 3) = .ok (.iconst n1, 1)) (hv : Int32.ofInt n1 = v) (d2 : decode b (pc + 3 + 1) = .ok (.goto o2, 3)) (hj : ((pc + 3 + 1 : Nat) : Int) + o2 = (j : Int)) (d3 : decode b tgt = .ok (.iconst n2, 1)) (hw : Int32.ofInt n2 = w) (hj2 : tgt + 1 = j)
    (k : AW l d y b nL ret j ls (.int (if x ≤ z then w else v) :: st) M Q) : AW l d y b nL ret pc ls (.int z :: .int x :: st) M Q := by
  refine aw_icmp_le hd ht (fun h => ?_) (fun h => ?_)
  · refine aw_iconst d3 hw ?_
    rw [hj2]
    rw [if_pos h] at k
    exact k
  · refine aw_iconst d1 hv (aw_goto d2 hj ?_)
    rw [if_neg h] at k
    exact k
theorem aw_cVi {o ci N : Nat} {T : u_T} {fs : List (Option Nat)} {v : Int32} {d' n index nL' : Nat} {y' : MethodName} {b' : ByteArray} {ret' : Option FieldType} {as stk : List Value} {M0 : Mm} (ck : CKV y.cls index y' b' nL' ret' n) (hM : AMet l d' y' b' nL' ret' (.ref o :: as) M (QE (some (.int v)) M0)) (hs : shp[o]? = some (.inl (ci, fs))) (hc : vwCl[ci]? = some (y'.cls, T, N)) (hdd : d' + 1 ≤ d) (hnl : nL' ≤ 45) (hn : as.length = n) (hstk : stk = as.reverse ++ .ref o :: st) (hcat : (st.map fun v => v.category).sum ≤ 8) (hd : decode b pc = .ok (.invokevirtual index, 3))
    (k : AW l d y b nL ret (pc + 3) ls (.int v :: st) M0 Q) : AW l d y b nL ret pc ls stk M Q := aw_callV ck hM hs hc ⟨hdd, hnl, hn⟩ hstk hcat hd (fun r M' hq => by obtain ⟨rfl, rfl⟩ := hq; exact k)
theorem aw_cVl {o ci N : Nat} {T : u_T} {fs : List (Option Nat)} {v : Int64} {d' n index nL' : Nat} {y' : MethodName} {b' : ByteArray} {ret' : Option FieldType} {as stk : List Value} {M0 : Mm} (ck : CKV y.cls index y' b' nL' ret' n) (hM : AMet l d' y' b' nL' ret' (.ref o :: as) M (QE (some (.long v)) M0)) (hs : shp[o]? = some (.inl (ci, fs))) (hc : vwCl[ci]? = some (y'.cls, T, N)) (hdd : d' + 1 ≤ d) (hnl : nL' ≤ 45) (hn : as.length = n) (hstk : stk = as.reverse ++ .ref o :: st) (hcat : (st.map fun v => v.category).sum ≤ 8) (hd : decode b pc = .ok (.invokevirtual index, 3))
    (k : AW l d y b nL ret (pc + 3) ls (.long v :: st) M0 Q) : AW l d y b nL ret pc ls stk M Q := aw_callV ck hM hs hc ⟨hdd, hnl, hn⟩ hstk hcat hd (fun r M' hq => by obtain ⟨rfl, rfl⟩ := hq; exact k)
theorem aw_cVr {o ci N : Nat} {T : u_T} {fs : List (Option Nat)} {v : Nat} {d' n index nL' : Nat} {y' : MethodName} {b' : ByteArray} {ret' : Option FieldType} {as stk : List Value} {M0 : Mm} (ck : CKV y.cls index y' b' nL' ret' n) (hM : AMet l d' y' b' nL' ret' (.ref o :: as) M (QE (some (.ref v)) M0)) (hs : shp[o]? = some (.inl (ci, fs))) (hc : vwCl[ci]? = some (y'.cls, T, N)) (hdd : d' + 1 ≤ d) (hnl : nL' ≤ 45) (hn : as.length = n) (hstk : stk = as.reverse ++ .ref o :: st) (hcat : (st.map fun v => v.category).sum ≤ 8) (hd : decode b pc = .ok (.invokevirtual index, 3))
    (k : AW l d y b nL ret (pc + 3) ls (.ref v :: st) M0 Q) : AW l d y b nL ret pc ls stk M Q := aw_callV ck hM hs hc ⟨hdd, hnl, hn⟩ hstk hcat hd (fun r M' hq => by obtain ⟨rfl, rfl⟩ := hq; exact k)
theorem aw_cVv {o ci N : Nat} {T : u_T} {fs : List (Option Nat)} {d' n index nL' : Nat} {y' : MethodName} {b' : ByteArray} {ret' : Option FieldType} {as stk : List Value} {M0 : Mm} (ck : CKV y.cls index y' b' nL' ret' n) (hM : AMet l d' y' b' nL' ret' (.ref o :: as) M (QE none M0)) (hs : shp[o]? = some (.inl (ci, fs))) (hc : vwCl[ci]? = some (y'.cls, T, N)) (hdd : d' + 1 ≤ d) (hnl : nL' ≤ 45) (hn : as.length = n) (hstk : stk = as.reverse ++ .ref o :: st) (hcat : (st.map fun v => v.category).sum ≤ 8) (hd : decode b pc = .ok (.invokevirtual index, 3))
    (k : AW l d y b nL ret (pc + 3) ls st M0 Q) : AW l d y b nL ret pc ls stk M Q := aw_callV ck hM hs hc ⟨hdd, hnl, hn⟩ hstk hcat hd (fun r M' hq => by obtain ⟨rfl, rfl⟩ := hq; exact k)
theorem aw_cVQ {o ci N : Nat} {T : u_T} {fs : List (Option Nat)} {d' n index nL' : Nat} {y' : MethodName} {b' : ByteArray} {ret' : Option FieldType} {as stk : List Value} {Q' : Option Value → Mm → Prop} (ck : CKV y.cls index y' b' nL' ret' n) (hM : AMet l d' y' b' nL' ret' (.ref o :: as) M Q') (hs : shp[o]? = some (.inl (ci, fs))) (hc : vwCl[ci]? = some (y'.cls, T, N)) (hdd : d' + 1 ≤ d) (hnl : nL' ≤ 45) (hn : as.length = n) (hstk : stk = as.reverse ++ .ref o :: st) (hcat : (st.map fun v => v.category).sum ≤ 8) (hd : decode b pc = .ok (.invokevirtual index, 3))
    (k : ∀ r M', Q' r M' → AW l d y b nL ret (pc + 3) ls (r.toList ++ st) M' Q) : AW l d y b nL ret pc ls stk M Q := aw_callV ck hM hs hc ⟨hdd, hnl, hn⟩ hstk hcat hd k
theorem aw_cSi {v : Int32} {d' n index nL' : Nat} {y' : MethodName} {b' : ByteArray} {ret' : Option FieldType} {as stk : List Value} {M0 : Mm} (ck : CKS y.cls index y' b' nL' ret' n) (hM : AMet l d' y' b' nL' ret' (as) M (QE (some (.int v)) M0)) (hdd : d' + 1 ≤ d) (hnl : nL' ≤ 45) (hn : as.length = n) (hstk : stk = as.reverse ++ st) (hcat : (st.map fun v => v.category).sum ≤ 8) (hd : decode b pc = .ok (.invokestatic index, 3))
    (k : AW l d y b nL ret (pc + 3) ls (.int v :: st) M0 Q) : AW l d y b nL ret pc ls stk M Q := aw_callS ck hM ⟨hdd, hnl, hn⟩ hstk hcat hd (fun r M' hq => by obtain ⟨rfl, rfl⟩ := hq; exact k)
theorem aw_cSl {v : Int64} {d' n index nL' : Nat} {y' : MethodName} {b' : ByteArray} {ret' : Option FieldType} {as stk : List Value} {M0 : Mm} (ck : CKS y.cls index y' b' nL' ret' n) (hM : AMet l d' y' b' nL' ret' (as) M (QE (some (.long v)) M0)) (hdd : d' + 1 ≤ d) (hnl : nL' ≤ 45) (hn : as.length = n) (hstk : stk = as.reverse ++ st) (hcat : (st.map fun v => v.category).sum ≤ 8) (hd : decode b pc = .ok (.invokestatic index, 3))
    (k : AW l d y b nL ret (pc + 3) ls (.long v :: st) M0 Q) : AW l d y b nL ret pc ls stk M Q := aw_callS ck hM ⟨hdd, hnl, hn⟩ hstk hcat hd (fun r M' hq => by obtain ⟨rfl, rfl⟩ := hq; exact k)
theorem aw_cSr {v : Nat} {d' n index nL' : Nat} {y' : MethodName} {b' : ByteArray} {ret' : Option FieldType} {as stk : List Value} {M0 : Mm} (ck : CKS y.cls index y' b' nL' ret' n) (hM : AMet l d' y' b' nL' ret' (as) M (QE (some (.ref v)) M0)) (hdd : d' + 1 ≤ d) (hnl : nL' ≤ 45) (hn : as.length = n) (hstk : stk = as.reverse ++ st) (hcat : (st.map fun v => v.category).sum ≤ 8) (hd : decode b pc = .ok (.invokestatic index, 3))
    (k : AW l d y b nL ret (pc + 3) ls (.ref v :: st) M0 Q) : AW l d y b nL ret pc ls stk M Q := aw_callS ck hM ⟨hdd, hnl, hn⟩ hstk hcat hd (fun r M' hq => by obtain ⟨rfl, rfl⟩ := hq; exact k)
theorem aw_cSv {d' n index nL' : Nat} {y' : MethodName} {b' : ByteArray} {ret' : Option FieldType} {as stk : List Value} {M0 : Mm} (ck : CKS y.cls index y' b' nL' ret' n) (hM : AMet l d' y' b' nL' ret' (as) M (QE none M0)) (hdd : d' + 1 ≤ d) (hnl : nL' ≤ 45) (hn : as.length = n) (hstk : stk = as.reverse ++ st) (hcat : (st.map fun v => v.category).sum ≤ 8) (hd : decode b pc = .ok (.invokestatic index, 3))
    (k : AW l d y b nL ret (pc + 3) ls st M0 Q) : AW l d y b nL ret pc ls stk M Q := aw_callS ck hM ⟨hdd, hnl, hn⟩ hstk hcat hd (fun r M' hq => by obtain ⟨rfl, rfl⟩ := hq; exact k)
theorem aw_cSQ {d' n index nL' : Nat} {y' : MethodName} {b' : ByteArray} {ret' : Option FieldType} {as stk : List Value} {Q' : Option Value → Mm → Prop} (ck : CKS y.cls index y' b' nL' ret' n) (hM : AMet l d' y' b' nL' ret' (as) M Q') (hdd : d' + 1 ≤ d) (hnl : nL' ≤ 45) (hn : as.length = n) (hstk : stk = as.reverse ++ st) (hcat : (st.map fun v => v.category).sum ≤ 8) (hd : decode b pc = .ok (.invokestatic index, 3))
    (k : ∀ r M', Q' r M' → AW l d y b nL ret (pc + 3) ls (r.toList ++ st) M' Q) : AW l d y b nL ret pc ls stk M Q := aw_callS ck hM ⟨hdd, hnl, hn⟩ hstk hcat hd k
end R3
