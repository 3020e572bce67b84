-- bounds are kept
theorem xi_mk {A : xt_A} {T : xt_T} {S : xt_S} (h : xi_A A) (e : T = yT A) (iS : xi_S T S) (iD : xsd S ≤ 999) : xi_A (T, S, yX A, yU A, yK A, yG A) := by
  subst e
  obtain ⟨a, b, c, d, -, f⟩ := h
  exact ⟨a, b, c, d, ⟨iS, iD⟩, f⟩
theorem xi_pu {A : xt_A} (h : xi_A A) : (xq_pu A).1 ≤ 8 ∧ ∀ i, i < (xq_pu A).1 → xi_S (yT A) ((xq_pu A).2 i) ∧ xsd ((xq_pu A).2 i) ≤ 999 := by
  obtain ⟨-, -, -, -, iS, -, ⟨u1, u2⟩, -⟩ := h
  unfold xq_pu xq_pz xq_put
  by_cases c : (yU A).1 < 8
  · rw [if_pos c, if_pos c]
    refine ⟨by show (yU A).1 + 1 ≤ 8; omega, fun i hi => ?_⟩
    have hi : i < (yU A).1 + 1 := hi
    show xi_S _ (if i = (yU A).1 then _ else _) ∧ xsd (if i = (yU A).1 then _ else _) ≤ 999
    by_cases e : i = (yU A).1
    · rw [if_pos e]; exact iS
    · rw [if_neg e]; exact u2 i (by omega)
  · rw [if_neg c, if_neg c]
    refine ⟨Nat.le_refl _, fun i hi => ?_⟩
    have hi : i < 8 := hi
    show xi_S _ (if i = 8 - 1 then _ else _) ∧ xsd (if i = 8 - 1 then _ else _) ≤ 999
    by_cases e : i = 8 - 1
    · rw [if_pos e]; exact iS
    · rw [if_neg e]; exact u2 (i + 1) (by omega)
theorem xi_note {A : xt_A} {S : xt_S} (h : xi_A A) (iS : xi_S (yT A) S) (iD : xsd S ≤ 999) : xi_A (yT A, S, yX A, xq_pu A, yK A, yG A) := by
  have p := xi_pu h
  obtain ⟨a, b, c, d, -, f, -, k⟩ := h
  exact ⟨a, b, c, d, ⟨iS, iD⟩, f, p, k⟩
theorem xi_poS {T : xt_T} {S : xt_S} {m q : Nat} (iS : xi_S T S) (hq : q < xC T) : xi_S T (xq_po S m q) := by
  obtain ⟨a, b, c⟩ := iS
  refine ⟨a, b, fun j hj => ?_⟩
  show (if j = m then q else xsp S j) < xC T
  by_cases e : j = m
  · rw [if_pos e]; exact hq
  · rw [if_neg e]; exact c j hj
theorem xi_write {A : xt_A} {k : Nat} (h : xi_A A) (h1 : 32 ≤ k) (h2 : k ≤ 126) : xi_A (xs_write A k).2 := by
  unfold xs_write
  by_cases c : (yX A).1 < 200
  · rw [if_pos c]
    obtain ⟨a, b, cc, d, e, ⟨f1, f2⟩, g⟩ := h
    refine ⟨a, b, cc, d, e, ⟨by show (yX A).1 + 1 ≤ 200; omega, fun j hj => ?_⟩, g⟩
    have hj : j < (yX A).1 + 1 := hj
    show 32 ≤ (if j = (yX A).1 then k else (yX A).2 j) ∧ (if j = (yX A).1 then k else (yX A).2 j) ≤ 126
    by_cases ej : j = (yX A).1
    · rw [if_pos ej]; exact ⟨h1, h2⟩
    · rw [if_neg ej]; exact f2 j (by omega)
  · rw [if_neg c]; exact h
theorem xi_wipe {A : xt_A} (h : xi_A A) : xi_A (xs_wipe A).2 := by
  obtain ⟨a, b, cc, d, e, -, g⟩ := h
  exact ⟨a, b, cc, d, e, ⟨Nat.zero_le _, fun j hj => absurd hj (Nat.not_lt_zero j)⟩, g⟩
theorem xi_lay {A : xt_A} (h : xi_A A) : xi_A (xs_lay A).2 := by
  unfold xs_lay
  by_cases c : (xq_rd A).1 = none ∧ xnS (xq_rd A).2 ≠ 0
  · rw [if_pos c]
    have i1 : xi_T (xq_rd A).2 ∧ xnM (xq_rd A).2 ≤ 5 := xi_ri 200 0 xq_T0 xi_T0 (by decide)
    have i2 : xN (xq_rd A).2 ≤ 60 := xi_ri60 200 0 xq_T0 xi_T0 (by decide) (by decide)
    obtain ⟨-, -, -, -, -, f, -⟩ := h
    exact ⟨i1.1, i1.2, i2, Nat.one_le_iff_ne_zero.mpr c.2, ⟨xi_b i1.1, Nat.zero_le _⟩, f, ⟨Nat.zero_le _, fun j hj => absurd hj (Nat.not_lt_zero j)⟩, ⟨Nat.zero_le _, fun j hj => absurd hj (Nat.not_lt_zero j)⟩, Nat.zero_le _, fun j hj => absurd hj (Nat.not_lt_zero j)⟩
  · rw [if_neg c]; exact h
theorem xi_move {A : xt_A} {s q : Nat} (h : xi_A A) (hs : s < xnS (yT A)) (hq : q < xC (yT A)) : xi_A (xs_move A s q).2 := by
  unfold xs_move
  split
  · exact h
  · rename_i c
    exact xi_note h (xi_set h.1 h.2.2.2.2.1.1 (by omega) hq hs) h.2.2.2.2.1.2
theorem xi_leave {A : xt_A} {s : Nat} (h : xi_A A) : xi_A (xs_leave A s).2 := by
  unfold xs_leave
  split
  · rename_i c
    exact xi_note h (xi_out h.2.2.2.2.1.1 (by omega)) h.2.2.2.2.1.2
  · exact h
theorem xi_send {A : xt_A} {m q : Nat} (h : xi_A A) (hq : q < xC (yT A)) : xi_A (xs_send A m q).2 := xi_note h (xi_poS h.2.2.2.2.1.1 hq) h.2.2.2.2.1.2
theorem xi_pass {A : xt_A} {n : Nat} (h : xi_A A) : xi_A (xs_pass A n).2 := by
  unfold xs_pass
  split
  · rename_i c
    have := xi_days h.1 n h.2.2.2.2.1.1 (by omega)
    exact xi_note h this.1 (by rw [this.2]; exact c)
  · exact h
theorem xi_undo {A : xt_A} (h : xi_A A) : xi_A (xs_undo A).2 := by
  unfold xs_undo
  split
  · exact h
  · rename_i c
    obtain ⟨a, b, cc, d, e, f, ⟨u1, u2⟩, k⟩ := h
    exact ⟨a, b, cc, d, u2 _ (by omega), f, ⟨by show (yU A).1 - 1 ≤ 8; omega, fun i hi => u2 i (by have : i < (yU A).1 - 1 := hi; omega)⟩, k⟩
theorem xi_back {A : xt_A} (h : xi_A A) : xi_A (xs_back A).2 := by
  unfold xs_back
  split
  · exact h
  · rename_i c
    obtain ⟨a, b, cc, d, e, f, u, ⟨k1, k2⟩, g⟩ := h
    exact ⟨a, b, cc, d, k2 _ (by omega), f, ⟨Nat.zero_le _, fun j hj => absurd hj (Nat.not_lt_zero j)⟩, ⟨by show (yK A).1 - 1 ≤ 2; omega, fun i hi => k2 i (by have : i < (yK A).1 - 1 := hi; omega)⟩, g⟩
theorem xi_keep {A : xt_A} (h : xi_A A) : xi_A (xs_keep A).2 := by
  unfold xs_keep
  split
  · exact h
  · rename_i c
    obtain ⟨a, b, cc, d, e, f, u, ⟨k1, k2⟩, g⟩ := h
    have ep : xq_pz 2 (yK A).1 = (yK A).1 + 1 := by unfold xq_pz; rw [if_pos (by omega)]
    have eq : xq_put 2 (yK A).1 (yK A).2 (yS A) = (fun i => if i = (yK A).1 then yS A else (yK A).2 i) := by unfold xq_put; rw [if_pos (by omega)]
    rw [ep, eq]
    refine ⟨a, b, cc, d, e, f, u, ⟨by show (yK A).1 + 1 ≤ 2; omega, fun i hi => ?_⟩, g⟩
    have hi : i < (yK A).1 + 1 := hi
    show xi_S _ (if i = (yK A).1 then yS A else (yK A).2 i) ∧ xsd (if i = (yK A).1 then yS A else (yK A).2 i) ≤ 999
    by_cases ei : i = (yK A).1
    · rw [if_pos ei]; exact e
    · rw [if_neg ei]; exact k2 i (by omega)
theorem xi_seen {A : xt_A} {s n w : Nat} (h : xi_A A) (hs : s < xnS (yT A)) (hn : n ≤ 99) (hw : w ≤ 3) : xi_A (xs_seen A s n w).2 := by
  unfold xs_seen
  split
  · rename_i c
    have b6 := h.1.1.2.2.2.2.2.1
    obtain ⟨a, b, cc, d, e, f, u, k, g1, g2⟩ := h
    refine ⟨a, b, cc, d, e, f, u, k, by show (yG A).1 + 1 ≤ 8; omega, fun i hi => ?_⟩
    have hi : i < (yG A).1 + 1 := hi
    show (if i = (yG A).1 then s else (yG A).2.1 i) < 6 ∧ (if i = (yG A).1 then n else (yG A).2.2.1 i) ≤ 99 ∧ (if i = (yG A).1 then w else (yG A).2.2.2 i) ≤ 3
    by_cases ei : i = (yG A).1
    · rw [if_pos ei, if_pos ei, if_pos ei]; exact ⟨by omega, hn, hw⟩
    · rw [if_neg ei, if_neg ei, if_neg ei]; exact g2 i (by omega)
  · exact h
theorem xi_forget {A : xt_A} (h : xi_A A) : xi_A (xs_forget A).2 := by
  obtain ⟨a, b, cc, d, e, f, u, k, g1, g2⟩ := h
  exact ⟨a, b, cc, d, e, f, u, k, Nat.zero_le _, fun j hj => absurd hj (Nat.not_lt_zero j)⟩
-- class and model side by side
theorem xh_B_fr {M M1 : xa_M} {b c : Nat} {A : xt_A} (h : xh_B M c A) (f : xa_fr b (b + 107) M M1) (hc : b + 107 ≤ c) : xh_B M1 c A := by
  obtain ⟨r, g, h1, h2⟩ := h
  exact ⟨r, g, xb_sm h1 (fun a x y => f.1 a (by omega)), h2⟩
theorem xh_A_fr {M M1 : xa_M} {b c : Nat} {A : xt_A} (h : xh_A M b A) (f : xa_fr c (c + 10) M M1) (hc : b + 107 ≤ c) : xh_A M1 b A := by
  obtain ⟨hO, hX, hT, ⟨T0, hU⟩, hS, ⟨S0, hN⟩, hP, hK, hG, hW⟩ := h
  exact ⟨(f.1 b (by omega)).trans hO, xh_X_fr hX f (by omega), xh_T_fr hT f (by omega), ⟨_, xh_T_fr hU f (by omega)⟩, xh_S_fr hS f (by omega), ⟨_, xh_S_fr hN f (by omega)⟩, xh_P_fr hP f (by omega), xh_P_fr hK f (by omega), xh_G_fr hG f (by omega), xh_W0_fr hW f (by omega)⟩
def xj (m1 m2 b c : Nat) (as : List Value) (M : xa_M) : Prop := ∃ (v : Int32) (M1 M2 : xa_M) (A2 : xt_A), xa_E m1 0 (xa_ent (.ref b :: as)) [] M (some (.int v), M1) ∧ xa_E m2 0 (xa_ent (.ref c :: as)) [] M1 (some (.int v), M2) ∧ M1.2 = M.2 ∧ M2.2 = M.2 ∧ (∃ fs, M1.1 c = some (.inr (7, fs))) ∧ xh_A M2 b A2 ∧ xh_B M2 c A2 ∧ xi_A A2
theorem xj_mk {m1 m2 b c : Nat} {as : List Value} {M : xa_M} {A A2 : xt_A} {v : Int32} (hB : xh_B M c A) (hc : b + 107 ≤ c) (h1 : ∃ z, xa_E m1 0 (xa_ent (.ref b :: as)) [] M z ∧ xm b M v A2 z) (h2 : ∀ M1, xh_B M1 c A → ∃ z, xa_E m2 0 (xa_ent (.ref c :: as)) [] M1 z ∧ xm2 c M1 v A2 z) (i2 : xi_A A2) : xj m1 m2 b c as M := by
  obtain ⟨⟨z1, M1⟩, e1, a1, a2, a3⟩ := h1
  have a1 : z1 = _ := a1
  subst a1
  have hB1 := xh_B_fr hB a2 hc
  obtain ⟨⟨z2, M2⟩, e2, c1, c2, c3⟩ := h2 M1 hB1
  have c1 : z2 = _ := c1
  subst c1
  obtain ⟨r, g, q, -⟩ := id hB1
  exact ⟨v, M1, M2, A2, e1, e2, a2.2, c2.2.trans a2.2, ⟨_, q.1⟩, xh_A_fr a3 c2 hc, c3, i2⟩
theorem xj_n {m1 m2 b c : Nat} {as : List Value} {M : xa_M} {A : xt_A} {v : Int32} (hA : xh_A M b A) (hB : xh_B M c A) (h1 : xa_E m1 0 (xa_ent (.ref b :: as)) [] M (some (.int v), M)) (h2 : xa_E m2 0 (xa_ent (.ref c :: as)) [] M (some (.int v), M)) (iA : xi_A A) : xj m1 m2 b c as M := by
  obtain ⟨r, g, q, -⟩ := id hB
  exact ⟨v, M, M, A, h1, h2, rfl, rfl, ⟨_, q.1⟩, hA, hB, iA⟩
theorem xj_write {M : xa_M} {b c : Nat} {A : xt_A} (hA : xh_A M b A) (hB : xh_B M c A) (iA : xi_A A) (hc : b + 107 ≤ c) (x : Int32) : xj 50 105 b c [.int x] M := by
  by_cases h : xt_k x 32 (126 + 1)
  · obtain ⟨k0, p0, l0, rfl⟩ := h
    exact xj_mk hB hc (pm_write hA iA k0 p0 (by omega)) (fun M1 h => pe_write h iA k0 p0 (by omega)) (xi_write iA p0 (by omega))
  · exact xj_n hA hB (pm_write_n  h) (pe_write_n hB iA h) iA
theorem xj_wipe {M : xa_M} {b c : Nat} {A : xt_A} (hA : xh_A M b A) (hB : xh_B M c A) (iA : xi_A A) (hc : b + 107 ≤ c) : xj 51 106 b c [] M := by
  exact xj_mk hB hc (pm_wipe hA) (fun M1 h => pe_wipe h iA) (xi_wipe iA)
theorem xj_lay {M : xa_M} {b c : Nat} {A : xt_A} (hA : xh_A M b A) (hB : xh_B M c A) (iA : xi_A A) (hc : b + 107 ≤ c) : xj 53 115 b c [] M := by
  exact xj_mk hB hc (pm_lay hA iA) (fun M1 h => pe_lay h iA) (xi_lay iA)
theorem xj_undo {M : xa_M} {b c : Nat} {A : xt_A} (hA : xh_A M b A) (hB : xh_B M c A) (iA : xi_A A) (hc : b + 107 ≤ c) : xj 60 131 b c [] M := by
  exact xj_mk hB hc (pm_undo hA iA) (fun M1 h => pe_undo h iA) (xi_undo iA)
theorem xj_forget {M : xa_M} {b c : Nat} {A : xt_A} (hA : xh_A M b A) (hB : xh_B M c A) (iA : xi_A A) (hc : b + 107 ≤ c) : xj 69 147 b c [] M := by
  exact xj_mk hB hc (pm_forget hA iA) (fun M1 h => pe_forget h iA) (xi_forget iA)
theorem xj_keep {M : xa_M} {b c : Nat} {A : xt_A} (hA : xh_A M b A) (hB : xh_B M c A) (iA : xi_A A) (hc : b + 107 ≤ c) : xj 74 154 b c [] M := by
  exact xj_mk hB hc (pm_keep hA iA) (fun M1 h => pe_keep h iA) (xi_keep iA)
theorem xj_back {M : xa_M} {b c : Nat} {A : xt_A} (hA : xh_A M b A) (hB : xh_B M c A) (iA : xi_A A) (hc : b + 107 ≤ c) : xj 75 155 b c [] M := by
  exact xj_mk hB hc (pm_back hA iA) (fun M1 h => pe_back h iA) (xi_back iA)
theorem xj_fault {M : xa_M} {b c : Nat} {A : xt_A} (hA : xh_A M b A) (hB : xh_B M c A) (iA : xi_A A) (hc : b + 107 ≤ c) : xj 52 114 b c [] M := by
  exact xj_mk hB hc (pm_fault hA iA) (fun M1 h => pe_fault h iA) iA
theorem xj_serf {M : xa_M} {b c : Nat} {A : xt_A} (hA : xh_A M b A) (hB : xh_B M c A) (iA : xi_A A) (hc : b + 107 ≤ c) (x y : Int32) : xj 54 122 b c [.int x, .int y] M := by
  by_cases h : xt_k x 0 (xnS (yT A)) ∧ xt_k y 0 (6 + 1)
  · obtain ⟨⟨k0, p0, l0, rfl⟩, ⟨k1, p1, l1, rfl⟩⟩ := h
    exact xj_mk hB hc ⟨_, pm_serf hA iA k0 k1 l0 (by omega), xm_r hA⟩ (fun M1 h => pe_serf h iA k0 k1 l0 (by omega)) iA
  · exact xj_n hA hB (pm_serf_n hA iA h) (pe_serf_n hB iA h) iA
theorem xj_man {M : xa_M} {b c : Nat} {A : xt_A} (hA : xh_A M b A) (hB : xh_B M c A) (iA : xi_A A) (hc : b + 107 ≤ c) (x y : Int32) : xj 55 123 b c [.int x, .int y] M := by
  by_cases h : xt_k x 0 (xnM (yT A)) ∧ xt_k y 0 (2 + 1)
  · obtain ⟨⟨k0, p0, l0, rfl⟩, ⟨k1, p1, l1, rfl⟩⟩ := h
    exact xj_mk hB hc ⟨_, pm_man hA iA k0 k1 l0 (by omega), xm_r hA⟩ (fun M1 h => pe_man h iA k0 k1 l0 (by omega)) iA
  · exact xj_n hA hB (pm_man_n hA iA h) (pe_man_n hB iA h) iA
theorem xj_move {M : xa_M} {b c : Nat} {A : xt_A} (hA : xh_A M b A) (hB : xh_B M c A) (iA : xi_A A) (hc : b + 107 ≤ c) (x y : Int32) : xj 56 127 b c [.int x, .int y] M := by
  by_cases h : xt_k x 0 (xnS (yT A)) ∧ xt_k y 0 (xC (yT A))
  · obtain ⟨⟨k0, p0, l0, rfl⟩, ⟨k1, p1, l1, rfl⟩⟩ := h
    exact xj_mk hB hc (pm_move hA iA k0 k1 l0 l1) (fun M1 h => pe_move h iA k0 k1 l0 l1) (xi_move iA l0 l1)
  · exact xj_n hA hB (pm_move_n hA iA h) (pe_move_n hB iA h) iA
theorem xj_leave {M : xa_M} {b c : Nat} {A : xt_A} (hA : xh_A M b A) (hB : xh_B M c A) (iA : xi_A A) (hc : b + 107 ≤ c) (x : Int32) : xj 57 128 b c [.int x] M := by
  by_cases h : xt_k x 0 (xnS (yT A))
  · obtain ⟨k0, p0, l0, rfl⟩ := h
    exact xj_mk hB hc (pm_leave hA iA k0 l0) (fun M1 h => pe_leave h iA k0 l0) (xi_leave iA)
  · exact xj_n hA hB (pm_leave_n hA iA h) (pe_leave_n hB iA h) iA
theorem xj_send {M : xa_M} {b c : Nat} {A : xt_A} (hA : xh_A M b A) (hB : xh_B M c A) (iA : xi_A A) (hc : b + 107 ≤ c) (x y : Int32) : xj 58 129 b c [.int x, .int y] M := by
  by_cases h : xt_k x 0 (xnM (yT A)) ∧ xt_k y 0 (xC (yT A))
  · obtain ⟨⟨k0, p0, l0, rfl⟩, ⟨k1, p1, l1, rfl⟩⟩ := h
    exact xj_mk hB hc (pm_send hA iA k0 k1 l0 l1) (fun M1 h => pe_send h iA k0 k1 l0 l1) (xi_send iA l1)
  · exact xj_n hA hB (pm_send_n hA iA h) (pe_send_n hB iA h) iA
theorem xj_pass {M : xa_M} {b c : Nat} {A : xt_A} (hA : xh_A M b A) (hB : xh_B M c A) (iA : xi_A A) (hc : b + 107 ≤ c) (x : Int32) : xj 59 130 b c [.int x] M := by
  by_cases h : xt_k x 1 (60 + 1)
  · obtain ⟨k0, p0, l0, rfl⟩ := h
    exact xj_mk hB hc (pm_pass hA iA k0 p0 (by omega)) (fun M1 h => pe_pass h iA k0 p0 (by omega)) (xi_pass iA)
  · exact xj_n hA hB (pm_pass_n  h) (pe_pass_n hB iA h) iA
theorem xj_behind {M : xa_M} {b c : Nat} {A : xt_A} (hA : xh_A M b A) (hB : xh_B M c A) (iA : xi_A A) (hc : b + 107 ≤ c) (x y w : Int32) : xj 61 134 b c [.int x, .int y, .int w] M := by
  by_cases h : xt_k x 0 (xnS (yT A)) ∧ xt_k y 0 (99 + 1) ∧ xt_k w 0 (2 + 1)
  · obtain ⟨⟨k0, p0, l0, rfl⟩, ⟨k1, p1, l1, rfl⟩, ⟨k2, p2, l2, rfl⟩⟩ := h
    exact xj_mk hB hc (pm_behind hA iA k0 k1 k2 l0 (by omega) (by omega)) (fun M1 h => pe_behind h iA k0 k1 k2 l0 (by omega) (by omega)) iA
  · exact xj_n hA hB (pm_behind_n hA iA h) (pe_behind_n hB iA h) iA
theorem xj_ends {M : xa_M} {b c : Nat} {A : xt_A} (hA : xh_A M b A) (hB : xh_B M c A) (iA : xi_A A) (hc : b + 107 ≤ c) (x : Int32) : xj 62 135 b c [.int x] M := by
  by_cases h : xt_k x 0 (xnS (yT A))
  · obtain ⟨k0, p0, l0, rfl⟩ := h
    exact xj_mk hB hc (pm_ends hA iA k0 l0) (fun M1 h => pe_ends h iA k0 l0) iA
  · exact xj_n hA hB (pm_ends_n hA iA h) (pe_ends_n hB iA h) iA
theorem xj_live {M : xa_M} {b c : Nat} {A : xt_A} (hA : xh_A M b A) (hB : xh_B M c A) (iA : xi_A A) (hc : b + 107 ≤ c) (x y : Int32) : xj 63 137 b c [.int x, .int y] M := by
  by_cases h : xt_k x 0 (xnS (yT A)) ∧ xt_k y 0 (1 + 1)
  · obtain ⟨⟨k0, p0, l0, rfl⟩, ⟨k1, p1, l1, rfl⟩⟩ := h
    exact xj_mk hB hc (pm_live hA iA k0 k1 l0 (by omega)) (fun M1 h => pe_live h iA k0 k1 l0 (by omega)) iA
  · exact xj_n hA hB (pm_live_n hA iA h) (pe_live_n hB iA h) iA
theorem xj_way {M : xa_M} {b c : Nat} {A : xt_A} (hA : xh_A M b A) (hB : xh_B M c A) (iA : xi_A A) (hc : b + 107 ≤ c) (x y : Int32) : xj 64 140 b c [.int x, .int y] M := by
  by_cases h : xt_k x 0 (xnS (yT A)) ∧ xt_k y 1 (60 + 1)
  · obtain ⟨⟨k0, p0, l0, rfl⟩, ⟨k1, p1, l1, rfl⟩⟩ := h
    exact xj_mk hB hc (pm_way hA iA k0 k1 l0 p1 (by omega)) (fun M1 h => pe_way h iA k0 k1 l0 p1 (by omega)) iA
  · exact xj_n hA hB (pm_way_n hA iA h) (pe_way_n hB iA h) iA
theorem xj_hunt {M : xa_M} {b c : Nat} {A : xt_A} (hA : xh_A M b A) (hB : xh_B M c A) (iA : xi_A A) (hc : b + 107 ≤ c) (x y : Int32) : xj 65 141 b c [.int x, .int y] M := by
  by_cases h : xt_k x 0 (2 + 1) ∧ xt_k y 0 (1 + 1)
  · obtain ⟨⟨k0, p0, l0, rfl⟩, ⟨k1, p1, l1, rfl⟩⟩ := h
    exact xj_mk hB hc (pm_hunt hA iA k0 k1 (by omega) (by omega)) (fun M1 h => pe_hunt h iA k0 k1 (by omega) (by omega)) iA
  · exact xj_n hA hB (pm_hunt_n hA iA h) (pe_hunt_n hB iA h) iA
theorem xj_proof {M : xa_M} {b c : Nat} {A : xt_A} (hA : xh_A M b A) (hB : xh_B M c A) (iA : xi_A A) (hc : b + 107 ≤ c) (x y : Int32) : xj 66 144 b c [.int x, .int y] M := by
  by_cases h : ∃ f t : Nat, f ≤ t ∧ t ≤ 99 ∧ x = nI f ∧ y = nI t
  · obtain ⟨f, t, h1, h2, rfl, rfl⟩ := h
    exact xj_mk hB hc ⟨_, pm_proof hA iA f t h1 h2, xm_r hA⟩ (fun M1 h => pe_proof h iA f t h1 h2) iA
  · exact xj_n hA hB (pm_proof_n hA iA h) (pe_proof_n hB iA h) iA
theorem xj_gap {M : xa_M} {b c : Nat} {A : xt_A} (hA : xh_A M b A) (hB : xh_B M c A) (iA : xi_A A) (hc : b + 107 ≤ c) (x y : Int32) : xj 67 145 b c [.int x, .int y] M := by
  by_cases h : ∃ f t : Nat, f ≤ t ∧ t ≤ 99 ∧ x = nI f ∧ y = nI t
  · obtain ⟨f, t, h1, h2, rfl, rfl⟩ := h
    exact xj_mk hB hc ⟨_, pm_gap hA iA f t h1 h2, xm_r hA⟩ (fun M1 h => pe_gap h iA f t h1 h2) iA
  · exact xj_n hA hB (pm_gap_n hA iA h) (pe_gap_n hB iA h) iA
theorem xj_seen {M : xa_M} {b c : Nat} {A : xt_A} (hA : xh_A M b A) (hB : xh_B M c A) (iA : xi_A A) (hc : b + 107 ≤ c) (x y w : Int32) : xj 68 146 b c [.int x, .int y, .int w] M := by
  by_cases h : xt_k x 0 (xnS (yT A)) ∧ xt_k y 1 (99 + 1) ∧ xt_k w 0 (3 + 1)
  · obtain ⟨⟨k0, p0, l0, rfl⟩, ⟨k1, p1, l1, rfl⟩, ⟨k2, p2, l2, rfl⟩⟩ := h
    exact xj_mk hB hc (pm_seen hA iA k0 k1 k2 l0 p1 (by omega) (by omega)) (fun M1 h => pe_seen h iA k0 k1 k2 l0 p1 (by omega) (by omega)) (xi_seen iA l0 (by omega) (by omega))
  · exact xj_n hA hB (pm_seen_n hA iA h) (pe_seen_n hB iA h) iA
theorem xj_lords {M : xa_M} {b c : Nat} {A : xt_A} (hA : xh_A M b A) (hB : xh_B M c A) (iA : xi_A A) (hc : b + 107 ≤ c) (x : Int32) : xj 70 149 b c [.int x] M := by
  by_cases h : xt_k x 0 (xnS (yT A))
  · obtain ⟨k0, p0, l0, rfl⟩ := h
    exact xj_mk hB hc (pm_lords hA iA k0 l0) (fun M1 h => pe_lords h iA k0 l0) iA
  · exact xj_n hA hB (pm_lords_n hA iA h) (pe_lords_n hB iA h) iA
theorem xj_leap {M : xa_M} {b c : Nat} {A : xt_A} (hA : xh_A M b A) (hB : xh_B M c A) (iA : xi_A A) (hc : b + 107 ≤ c) (x : Int32) : xj 71 151 b c [.int x] M := by
  by_cases h : xt_k x 1 (99 + 1)
  · obtain ⟨k0, p0, l0, rfl⟩ := h
    exact xj_mk hB hc (pm_leap hA iA k0 p0 (by omega)) (fun M1 h => pe_leap h iA k0 p0 (by omega)) iA
  · exact xj_n hA hB (pm_leap_n hA iA h) (pe_leap_n hB iA h) iA
theorem xj_sure {M : xa_M} {b c : Nat} {A : xt_A} (hA : xh_A M b A) (hB : xh_B M c A) (iA : xi_A A) (hc : b + 107 ≤ c) (x y w v : Int32) : xj 72 152 b c [.int x, .int y, .int w, .int v] M := by
  by_cases h : xt_k x 0 (8 + 1) ∧ xt_k y 0 (10 + 1) ∧ xt_k w 0 (1 + 1) ∧ xt_k v 0 (1 + 1)
  · obtain ⟨⟨k0, p0, l0, rfl⟩, ⟨k1, p1, l1, rfl⟩, ⟨k2, p2, l2, rfl⟩, ⟨k3, p3, l3, rfl⟩⟩ := h
    exact xj_mk hB hc (pm_sure hA iA k0 k1 k2 k3 (by omega) (by omega) (by omega) (by omega)) (fun M1 h => pe_sure h iA k0 k1 k2 k3 (by omega) (by omega) (by omega) (by omega)) iA
  · exact xj_n hA hB (pm_sure_n hA iA h) (pe_sure_n hB iA h) iA
theorem xj_year {M : xa_M} {b c : Nat} {A : xt_A} (hA : xh_A M b A) (hB : xh_B M c A) (iA : xi_A A) (hc : b + 107 ≤ c) (x y w : Int32) : xj 73 153 b c [.int x, .int y, .int w] M := by
  by_cases h : xt_k x 0 (9999 + 1) ∧ xt_k y 1 (60 + 1) ∧ xt_k w 0 (1 + 1)
  · obtain ⟨⟨k0, p0, l0, rfl⟩, ⟨k1, p1, l1, rfl⟩, ⟨k2, p2, l2, rfl⟩⟩ := h
    exact xj_mk hB hc (pm_year hA iA k0 k1 k2 (by omega) p1 (by omega) (by omega)) (fun M1 h => pe_year h iA k0 k1 k2 (by omega) p1 (by omega) (by omega)) iA
  · exact xj_n hA hB (pm_year_n hA iA h) (pe_year_n hB iA h) iA
theorem xj_count {M : xa_M} {b c : Nat} {A : xt_A} (hA : xh_A M b A) (hB : xh_B M c A) (iA : xi_A A) (hc : b + 107 ≤ c) (x : Int32) : xj 76 156 b c [.int x] M := by
  by_cases h : xt_k x 0 (10 + 1)
  · obtain ⟨k0, p0, l0, rfl⟩ := h
    exact xj_mk hB hc ⟨_, pm_count hA iA k0 (by omega), xm_r hA⟩ (fun M1 h => pe_count h iA k0 (by omega)) iA
  · exact xj_n hA hB (pm_count_n  h) (pe_count_n  h) iA
