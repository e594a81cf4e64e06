/-! pieces of a world, moved to their places -/
def shS (o : Nat) (s : Sh) : Sh := match s with
  | .inl x => .inl (x.1, x.2.map (fun f => match f with | some p => some (o + p) | none => none))
  | .inr x => .inr (x.1, x.2.1, if x.1 < 3 then x.2.2 else o + x.2.2)
def okB (n : Nat) (s : Sh) : Bool := match s with
  | .inl x => x.2.all (fun f => match f with | some p => decide (p < n) | none => true)
  | .inr x => decide (x.1 < 3) || decide (x.2.2 + x.2.1 ≤ n)
theorem ce_shift {a aR : Nat → Nat} {ca : Nat → ClassId} {M MR : Mm} {o n k : Nat} {s : Sh} (hA : ∀ p, p < n → a (o + p) = aR p) (h1 : M.1 (o + k) = MR.1 k) (h2 : M.2 (o + k) = MR.2 k) (hs : okB n s = true) : ce a ca M (o + k) (shS o s) = ce aR ca MR k s := by
  rw [ceS_eq, ceS_eq]
  cases s with
  | inl x =>
    show (.inr (x.1, cfS a (M.1 (o + k)) 0 (x.2.map (fun f => match f with | some p => some (o + p) | none => none))) : va_E) = .inr (x.1, cfS aR (MR.1 k) 0 x.2)
    rw [h1]
    have e : cfS a (MR.1 k) 0 (x.2.map (fun f => match f with | some p => some (o + p) | none => none)) = cfS aR (MR.1 k) 0 x.2 := by
      apply List.ext_getElem?
      intro i
      rw [cfS_get, cfS_get, List.getElem?_map]
      cases hx : x.2[i]? with
      | none => rfl
      | some f =>
        have hb := List.all_eq_true.mp (show x.2.all (fun f => match f with | some p => decide (p < n) | none => true) = true from hs) f (List.mem_of_getElem? hx)
        cases f with
        | none => rfl
        | some p =>
          have hp : p < n := of_decide_eq_true hb
          show some (Value.ref (a (o + p))) = some (Value.ref (aR p))
          rw [hA p hp]
    rw [e]
  | inr x =>
    obtain ⟨t, m, b⟩ := x
    have hb : t < 3 ∨ b + m ≤ n := by
      have h9 : (decide (t < 3) || decide (b + m ≤ n)) = true := hs
      rw [Bool.or_eq_true, decide_eq_true_eq, decide_eq_true_eq] at h9
      exact h9
    show (.inl (ca t, ca_arr a M (o + k) t m (if t < 3 then b else o + b)) : va_E) = .inl (ca t, ca_arr aR MR k t m b)
    have e : ca_arr a M (o + k) t m (if t < 3 then b else o + b) = ca_arr aR MR k t m b := by
      match t, hb with
      | 0, _ => show ((m, .inl (M.1 (o + k))) : vp_A) = (m, .inl (MR.1 k)); rw [h1]
      | 1, _ => show ((m, .inl (M.1 (o + k))) : vp_A) = (m, .inl (MR.1 k)); rw [h1]
      | 2, _ => show ((m, .inr (.inl (M.2 (o + k)))) : vp_A) = (m, .inr (.inl (MR.2 k))); rw [h2]
      | t + 3, hb =>
        rw [if_neg (by omega)]
        have hm : b + m ≤ n := hb.resolve_left (by omega)
        show ((m, .inr (.inr (.inr (.inr (fun i => if i < m then some (a (o + b + i)) else none))))) : vp_A) = (m, .inr (.inr (.inr (.inr (fun i => if i < m then some (aR (b + i)) else none)))))
        have ef : (fun i => if i < m then some (a (o + b + i)) else none) = (fun i => if i < m then some (aR (b + i)) else none) := by
          funext i
          by_cases hi : i < m
          · rw [if_pos hi, if_pos hi, ← hA (b + i) (by omega), Nat.add_assoc]
          · rw [if_neg hi, if_neg hi]
        rw [ef]
    rw [e]
theorem piece_shift {sh shR : List Sh} {a aR : Nat → Nat} {ca : Nat → ClassId} {M MR : Mm} {o n : Nat} (h1 : ∀ j, j < n → sh[o + j]? = (shR[j]?).map (shS o)) (hA : ∀ p, p < n → a (o + p) = aR p) (hM : ∀ j, j < n → M.1 (o + j) = MR.1 j ∧ M.2 (o + j) = MR.2 j) (hok : shR.all (okB n) = true) {j : Nat} (hj : j < n) : (pieceW sh a ca M)[o + j]? = (pieceW shR aR ca MR)[j]? := by
  rw [piece_get, piece_get, h1 j hj]
  cases hs : shR[j]? with
  | none => rfl
  | some s =>
    show some (a (o + j), ce a ca M (o + j) (shS o s)) = some (aR j, ce aR ca MR j s)
    rw [hA j hj, ce_shift hA (hM j hj).1 (hM j hj).2 (List.all_eq_true.mp hok s (List.mem_of_getElem? hs))]
theorem flat_get : ∀ (zs : List va_W) (i j : Nat) (P : va_W), zs[i]? = some P → j < P.length → zs.flatten[((zs.take i).map List.length).sum + j]? = P[j]?
  | [], i, j, P, h, _ => by simp at h
  | z :: t, 0, j, P, h, hj => by
    have e : z = P := by simpa using h
    subst e
    rw [List.flatten_cons, List.take_zero, List.map_nil, List.sum_nil, Nat.zero_add, List.getElem?_append_left hj]
  | z :: t, i + 1, j, P, h, hj => by
    have h2 : t[i]? = some P := by simpa using h
    rw [List.flatten_cons, List.take_succ_cons, List.map_cons, List.sum_cons, Nat.add_assoc, List.getElem?_append_right (Nat.le_add_right _ _), Nat.add_sub_cancel_left]
    exact flat_get t i j P h2 hj
