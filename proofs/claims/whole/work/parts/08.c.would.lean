/-- he settles in q -/
def xq_set (S : xt_S) (s q : Nat) : xt_S := (xsd S, fun j => if j = s then 0 else xsh S j, fun j => if j = s then q else xsq S j, xss S, xsm S, xsp S)
def xq_out (S : xt_S) (s : Nat) : xt_S := (xsd S, fun j => if j = s then 1 else xsh S j, xsq S, fun j => if j = s then 0 else xss S j, xsm S, xsp S)
theorem xi_set {T : xt_T} {S : xt_S} {s q : Nat} (iT : xi_T T) (iS : xi_S T S) (hh : xsh S s ≤ 1) (hq : q < xC T) (hs : s < xnS T) : xi_S T (xq_set S s q) := by
  obtain ⟨⟨b1, -⟩, -⟩ := iT
  obtain ⟨d0, ds, dp⟩ := iS
  refine ⟨d0, fun j hj => ?_, dp⟩
  have d := ds j hj
  show (if j = s then 0 else xsh S j) ≤ 3 ∧ (if j = s then q else xsq S j) < xC T ∧ xss S j ≤ 61 ∧ xsm S j ≤ 2 ∧ ((if j = s then 0 else xsh S j) = 0 → xss S j < xN T ∧ xsm S j ≤ 1) ∧ ((if j = s then 0 else xsh S j) = 1 → xss S j = 0 ∧ xsm S j ≤ 1)
  by_cases e : j = s
  · subst e
    rw [if_pos rfl, if_pos rfl]
    refine ⟨by omega, hq, d.2.2.1, d.2.2.2.1, fun _ => ?_, fun h => by omega⟩
    rcases (show xsh S j = 0 ∨ xsh S j = 1 by omega) with h | h
    · exact d.2.2.2.2.1 h
    · have := d.2.2.2.2.2 h
      omega
  · rw [if_neg e, if_neg e]
    exact d
theorem xi_out {T : xt_T} {S : xt_S} {s : Nat} (iS : xi_S T S) (hh : xsh S s ≤ 1) : xi_S T (xq_out S s) := by
  obtain ⟨d0, ds, dp⟩ := iS
  refine ⟨d0, fun j hj => ?_, dp⟩
  have d := ds j hj
  show (if j = s then 1 else xsh S j) ≤ 3 ∧ xsq S j < xC T ∧ (if j = s then 0 else xss S j) ≤ 61 ∧ xsm S j ≤ 2 ∧ ((if j = s then 1 else xsh S j) = 0 → (if j = s then 0 else xss S j) < xN T ∧ xsm S j ≤ 1) ∧ ((if j = s then 1 else xsh S j) = 1 → (if j = s then 0 else xss S j) = 0 ∧ xsm S j ≤ 1)
  by_cases e : j = s
  · subst e
    rw [if_pos rfl, if_pos rfl]
    refine ⟨by omega, d.2.1, by omega, d.2.2.2.1, fun h => by omega, fun _ => ⟨rfl, ?_⟩⟩
    rcases (show xsh S j = 0 ∨ xsh S j = 1 by omega) with h | h
    · exact (d.2.2.2.2.1 h).2
    · exact (d.2.2.2.2.2 h).2
  · rw [if_neg e, if_neg e]
    exact d
