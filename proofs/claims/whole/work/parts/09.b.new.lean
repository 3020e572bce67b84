theorem xh_P_0 {M : xa_M} {p n nS nM : Nat} {L : Nat → xt_S} (h : xh_P M p n nS nM 0 L) (nS' nM' : Nat) (L' : Nat → xt_S) : xh_P M p n nS' nM' 0 L' := by
  obtain ⟨a, σ, h0, h1, h2, h3, h4, h5, h6⟩ := h
  exact ⟨a, σ, h0, h1, h2, h3, fun i hi => absurd hi (Nat.not_lt_zero i), h5, h6⟩
theorem xh_X_cg {M : xa_M} {x len : Nat} {t t2 : Nat → Nat} (h : xh_X M x len t) (e : ∀ j, j < len → t j = t2 j) : xh_X M x len t2 := by
  obtain ⟨w, g, g2, h0, h1, h2, h3⟩ := h
  exact ⟨w, g, g2, h0, h1, fun j hj => by rw [h2 j hj, e j hj], h3⟩
def xq_tx (j : Nat) : Nat := xa_tx.getD j 0
theorem xt_txl : ∀ j, j < 78 → 32 ≤ xq_tx j ∧ xq_tx j ≤ 126 := by decide +kernel
/-- the first town -/
def xq_1 : xt_T := (xq_ri 78 xq_tx 200 0 xq_T0).2
def xs_0 : xt_A := (xq_1, xq_b xq_1, (0, xq_tx), (0, fun _ => xq_b xq_1), (0, fun _ => xq_b xq_1), (0, fun _ => 0, fun _ => 0, fun _ => 0))
theorem xi_1 : xi_T xq_1 ∧ xnM xq_1 ≤ 5 := xi_ri 200 0 xq_T0 xi_T0 (by decide)
theorem xi_0 : xi_A xs_0 := by
  refine ⟨xi_1.1, xi_1.2, by decide +kernel, by decide +kernel, ⟨xi_b xi_1.1, by decide +kernel⟩, ⟨Nat.zero_le _, fun j hj => absurd hj (Nat.not_lt_zero j)⟩, ⟨Nat.zero_le _, fun j hj => absurd hj (Nat.not_lt_zero j)⟩, ⟨Nat.zero_le _, fun j hj => absurd hj (Nat.not_lt_zero j)⟩, Nat.zero_le _, fun j hj => absurd hj (Nat.not_lt_zero j)⟩
theorem pn_O {M0 : xa_M} {b : Nat} (hc : M0.1 b = some (.inr (6, xa_df 6))) (m0 : M0.2.1 = b + 1) : ∃ z, xa_E 49 0 (xa_ent [.ref b]) [] M0 z ∧ z.1 = none ∧ xa_nw b 107 993 M0 z.2 ∧ xh_A z.2 b xs_0 := by
  have c0 : M0.1 b = some (.inr (6, [.null, .null, .null, .null, .null, .null, .null, .null, .null])) := hc
  have n0 : xa_nw b 1 0 M0 M0 := ⟨fun _ _ => rfl, m0, rfl, rfl⟩
  refine xa_ge1 (fun lv h0 => ?_)
  simp (disch := omega) only [↓ra_49_0, ↓ra_49_1, xa_kli, xa_klr, xa_kll, xa_ki, xa_kl, xa_kr, xa_kii, xa_kk, xa_kir, xa_krr, xa_kiir, xa_krir, xa_kdup, xa_kdup2, xa_kcp, xa_gf, xa_pf, xa_ga, xa_pa, xa_gq, xa_pq, xa_gl, xa_args, xa_ri, xa_rz, xa_rv, xa_s1, xa_s2, xa_c1, eq_self, List.getElem?_cons_succ, List.getElem?_cons_zero, true_and, and_true, nI_add, pk_mul, xt_in, xt_cl, xt_i0, xt_i1, xa_kc, xa_w8, xa_fit, lg_sl, List.flatMap_cons, List.flatMap_nil, List.map_cons, List.map_nil, List.sum_cons, List.sum_nil, Value.category, List.length_cons, List.length_nil, List.length_append, xa_rc, xa_rf, exists_eq_left, exists_eq', Option.some.injEq, Sum.inr.injEq, Prod.mk.injEq, Option.toList_some, Option.toList_none, List.cons_append, List.nil_append, Nat.reduceAdd, Nat.reduceLeDiff, Nat.reduceLT, List.set_cons_zero, List.set_cons_succ, eq_self, or_true, true_or, reduceIte, xt_ne, h0]
  obtain ⟨⟨z, N0⟩, cE, c, nw, kX⟩ := pn_X (M0 := xa_al M0 (.inr (3, xa_df 3)) 4) (a := b + 1) (by rw [xt_al, if_pos m0.symm]) (by rw [xt_al1, m0])
  have c : z = none := c
  subst c
  dsimp only at nw kX
  have q : ∀ q, q < b + 1 → N0.1 q = M0.1 q := fun q hq => by rw [nw.1 q hq, xt_al, if_neg (by omega)]
  have cb := (q b (by omega)).trans c0
  simp (disch := omega) only [↓ra_49_4, ↓ra_49_5, ↓ra_49_8, ↓ra_49_9, ↓ra_49_12, xa_kli, xa_klr, xa_kll, xa_ki, xa_kl, xa_kr, xa_kii, xa_kk, xa_kir, xa_krr, xa_kiir, xa_krir, xa_kdup, xa_kdup2, xa_kcp, xa_gf, xa_pf, xa_ga, xa_pa, xa_gq, xa_pq, xa_gl, xa_args, xa_ri, xa_rz, xa_rv, xa_s1, xa_s2, xa_c1, eq_self, List.getElem?_cons_succ, List.getElem?_cons_zero, true_and, and_true, nI_add, pk_mul, xt_in, xt_cl, xt_i0, xt_i1, xa_kc, xa_w8, xa_fit, lg_sl, List.flatMap_cons, List.flatMap_nil, List.map_cons, List.map_nil, List.sum_cons, List.sum_nil, Value.category, List.length_cons, List.length_nil, List.length_append, xa_rc, xa_rf, exists_eq_left, exists_eq', Option.some.injEq, Sum.inr.injEq, Prod.mk.injEq, Option.toList_some, Option.toList_none, List.cons_append, List.nil_append, Nat.reduceAdd, Nat.reduceLeDiff, Nat.reduceLT, List.set_cons_zero, List.set_cons_succ, eq_self, or_true, true_or, reduceIte, xt_ne, h0, c0, cb, m0, xa_iff cE, mx_21]
  have c1 : (xa_st N0 b (.inr (6, [.ref (b + 1), .null, .null, .null, .null, .null, .null, .null, .null]))).1 b = _ := xa_st_eq
  have n1 : xa_nw b 4 207 M0 (xa_st N0 b (.inr (6, [.ref (b + 1), .null, .null, .null, .null, .null, .null, .null, .null]))) := ⟨fun x hx => ((xa_st_ne (by omega)).trans (q x (by omega))).trans (n0.1 x hx), by rw [xt_st2, nw.2.1], by rw [xt_st2, nw.2.2.1, xt_al2, n0.2.2.1], by rw [xt_st2, nw.2.2.2, xt_al3, n0.2.2.2]⟩
  have hX := xh_X_sm kX (M1 := xa_st N0 b (.inr (6, [.ref (b + 1), .null, .null, .null, .null, .null, .null, .null, .null]))) (fun c x y => xa_st_ne (by omega))
  clear kX cE nw q cb
  generalize xa_st N0 b (.inr (6, [.ref (b + 1), .null, .null, .null, .null, .null, .null, .null, .null])) = M1 at c1 n1 hX ⊢
  have m1 : M1.2.1 = b + 4 := n1.2.1
  obtain ⟨⟨z, N1⟩, cE, c, nw, kT⟩ := pn_T (M0 := xa_al M1 (.inr (4, xa_df 4)) 14) (a := b + 4) (by rw [xt_al, if_pos m1.symm]) (by rw [xt_al1, m1])
  have c : z = none := c
  subst c
  dsimp only at nw kT
  have q : ∀ q, q < b + 4 → N1.1 q = M1.1 q := fun q hq => by rw [nw.1 q hq, xt_al, if_neg (by omega)]
  have cb := (q b (by omega)).trans c1
  simp (disch := omega) only [↓ra_49_15, ↓ra_49_16, ↓ra_49_19, ↓ra_49_20, ↓ra_49_23, xa_kli, xa_klr, xa_kll, xa_ki, xa_kl, xa_kr, xa_kii, xa_kk, xa_kir, xa_krr, xa_kiir, xa_krir, xa_kdup, xa_kdup2, xa_kcp, xa_gf, xa_pf, xa_ga, xa_pa, xa_gq, xa_pq, xa_gl, xa_args, xa_ri, xa_rz, xa_rv, xa_s1, xa_s2, xa_c1, eq_self, List.getElem?_cons_succ, List.getElem?_cons_zero, true_and, and_true, nI_add, pk_mul, xt_in, xt_cl, xt_i0, xt_i1, xa_kc, xa_w8, xa_fit, lg_sl, List.flatMap_cons, List.flatMap_nil, List.map_cons, List.map_nil, List.sum_cons, List.sum_nil, Value.category, List.length_cons, List.length_nil, List.length_append, xa_rc, xa_rf, exists_eq_left, exists_eq', Option.some.injEq, Sum.inr.injEq, Prod.mk.injEq, Option.toList_some, Option.toList_none, List.cons_append, List.nil_append, Nat.reduceAdd, Nat.reduceLeDiff, Nat.reduceLT, List.set_cons_zero, List.set_cons_succ, eq_self, or_true, true_or, reduceIte, xt_ne, h0, c1, cb, m1, xa_iff cE, mx_28]
  have c2 : (xa_st N1 b (.inr (6, [.ref (b + 1), .ref (b + 4), .null, .null, .null, .null, .null, .null, .null]))).1 b = _ := xa_st_eq
  have n2 : xa_nw b 13 269 M0 (xa_st N1 b (.inr (6, [.ref (b + 1), .ref (b + 4), .null, .null, .null, .null, .null, .null, .null]))) := ⟨fun x hx => ((xa_st_ne (by omega)).trans (q x (by omega))).trans (n1.1 x hx), by rw [xt_st2, nw.2.1], by rw [xt_st2, nw.2.2.1, xt_al2, n1.2.2.1], by rw [xt_st2, nw.2.2.2, xt_al3, n1.2.2.2]⟩
  have hX := xh_X_sm hX (M1 := xa_st N1 b (.inr (6, [.ref (b + 1), .ref (b + 4), .null, .null, .null, .null, .null, .null, .null]))) (fun c x y => (xa_st_ne (by omega)).trans (q c (by omega)))
  have hT := xh_T_sm kT (M1 := xa_st N1 b (.inr (6, [.ref (b + 1), .ref (b + 4), .null, .null, .null, .null, .null, .null, .null]))) (fun c x y => xa_st_ne (by omega))
  clear kT cE nw q cb
  generalize xa_st N1 b (.inr (6, [.ref (b + 1), .ref (b + 4), .null, .null, .null, .null, .null, .null, .null])) = M2 at c2 n2 hX hT ⊢
  have m2 : M2.2.1 = b + 13 := n2.2.1
  obtain ⟨⟨z, N2⟩, cE, c, nw, kU⟩ := pn_T (M0 := xa_al M2 (.inr (4, xa_df 4)) 14) (a := b + 13) (by rw [xt_al, if_pos m2.symm]) (by rw [xt_al1, m2])
  have c : z = none := c
  subst c
  dsimp only at nw kU
  have q : ∀ q, q < b + 13 → N2.1 q = M2.1 q := fun q hq => by rw [nw.1 q hq, xt_al, if_neg (by omega)]
  have cb := (q b (by omega)).trans c2
  simp (disch := omega) only [↓ra_49_26, ↓ra_49_27, ↓ra_49_30, ↓ra_49_31, ↓ra_49_34, xa_kli, xa_klr, xa_kll, xa_ki, xa_kl, xa_kr, xa_kii, xa_kk, xa_kir, xa_krr, xa_kiir, xa_krir, xa_kdup, xa_kdup2, xa_kcp, xa_gf, xa_pf, xa_ga, xa_pa, xa_gq, xa_pq, xa_gl, xa_args, xa_ri, xa_rz, xa_rv, xa_s1, xa_s2, xa_c1, eq_self, List.getElem?_cons_succ, List.getElem?_cons_zero, true_and, and_true, nI_add, pk_mul, xt_in, xt_cl, xt_i0, xt_i1, xa_kc, xa_w8, xa_fit, lg_sl, List.flatMap_cons, List.flatMap_nil, List.map_cons, List.map_nil, List.sum_cons, List.sum_nil, Value.category, List.length_cons, List.length_nil, List.length_append, xa_rc, xa_rf, exists_eq_left, exists_eq', Option.some.injEq, Sum.inr.injEq, Prod.mk.injEq, Option.toList_some, Option.toList_none, List.cons_append, List.nil_append, Nat.reduceAdd, Nat.reduceLeDiff, Nat.reduceLT, List.set_cons_zero, List.set_cons_succ, eq_self, or_true, true_or, reduceIte, xt_ne, h0, c2, cb, m2, xa_iff cE, mx_28]
  have c3 : (xa_st N2 b (.inr (6, [.ref (b + 1), .ref (b + 4), .ref (b + 13), .null, .null, .null, .null, .null, .null]))).1 b = _ := xa_st_eq
  have n3 : xa_nw b 22 331 M0 (xa_st N2 b (.inr (6, [.ref (b + 1), .ref (b + 4), .ref (b + 13), .null, .null, .null, .null, .null, .null]))) := ⟨fun x hx => ((xa_st_ne (by omega)).trans (q x (by omega))).trans (n2.1 x hx), by rw [xt_st2, nw.2.1], by rw [xt_st2, nw.2.2.1, xt_al2, n2.2.2.1], by rw [xt_st2, nw.2.2.2, xt_al3, n2.2.2.2]⟩
  have hX := xh_X_sm hX (M1 := xa_st N2 b (.inr (6, [.ref (b + 1), .ref (b + 4), .ref (b + 13), .null, .null, .null, .null, .null, .null]))) (fun c x y => (xa_st_ne (by omega)).trans (q c (by omega)))
  have hT := xh_T_sm hT (M1 := xa_st N2 b (.inr (6, [.ref (b + 1), .ref (b + 4), .ref (b + 13), .null, .null, .null, .null, .null, .null]))) (fun c x y => (xa_st_ne (by omega)).trans (q c (by omega)))
  have hU := xh_T_sm kU (M1 := xa_st N2 b (.inr (6, [.ref (b + 1), .ref (b + 4), .ref (b + 13), .null, .null, .null, .null, .null, .null]))) (fun c x y => xa_st_ne (by omega))
  clear kU cE nw q cb
  generalize xa_st N2 b (.inr (6, [.ref (b + 1), .ref (b + 4), .ref (b + 13), .null, .null, .null, .null, .null, .null])) = M3 at c3 n3 hX hT hU ⊢
  have m3 : M3.2.1 = b + 22 := n3.2.1
  obtain ⟨⟨z, N3⟩, cE, c, nw, kS⟩ := pn_S (M0 := xa_al M3 (.inr (2, xa_df 2)) 6) (a := b + 22) (by rw [xt_al, if_pos m3.symm]) (by rw [xt_al1, m3])
  have c : z = none := c
  subst c
  dsimp only at nw kS
  have q : ∀ q, q < b + 22 → N3.1 q = M3.1 q := fun q hq => by rw [nw.1 q hq, xt_al, if_neg (by omega)]
  have cb := (q b (by omega)).trans c3
  simp (disch := omega) only [↓ra_49_37, ↓ra_49_38, ↓ra_49_41, ↓ra_49_42, ↓ra_49_45, xa_kli, xa_klr, xa_kll, xa_ki, xa_kl, xa_kr, xa_kii, xa_kk, xa_kir, xa_krr, xa_kiir, xa_krir, xa_kdup, xa_kdup2, xa_kcp, xa_gf, xa_pf, xa_ga, xa_pa, xa_gq, xa_pq, xa_gl, xa_args, xa_ri, xa_rz, xa_rv, xa_s1, xa_s2, xa_c1, eq_self, List.getElem?_cons_succ, List.getElem?_cons_zero, true_and, and_true, nI_add, pk_mul, xt_in, xt_cl, xt_i0, xt_i1, xa_kc, xa_w8, xa_fit, lg_sl, List.flatMap_cons, List.flatMap_nil, List.map_cons, List.map_nil, List.sum_cons, List.sum_nil, Value.category, List.length_cons, List.length_nil, List.length_append, xa_rc, xa_rf, exists_eq_left, exists_eq', Option.some.injEq, Sum.inr.injEq, Prod.mk.injEq, Option.toList_some, Option.toList_none, List.cons_append, List.nil_append, Nat.reduceAdd, Nat.reduceLeDiff, Nat.reduceLT, List.set_cons_zero, List.set_cons_succ, eq_self, or_true, true_or, reduceIte, xt_ne, h0, c3, cb, m3, xa_iff cE, mx_7]
  have c4 : (xa_st N3 b (.inr (6, [.ref (b + 1), .ref (b + 4), .ref (b + 13), .ref (b + 22), .null, .null, .null, .null, .null]))).1 b = _ := xa_st_eq
  have n4 : xa_nw b 28 367 M0 (xa_st N3 b (.inr (6, [.ref (b + 1), .ref (b + 4), .ref (b + 13), .ref (b + 22), .null, .null, .null, .null, .null]))) := ⟨fun x hx => ((xa_st_ne (by omega)).trans (q x (by omega))).trans (n3.1 x hx), by rw [xt_st2, nw.2.1], by rw [xt_st2, nw.2.2.1, xt_al2, n3.2.2.1], by rw [xt_st2, nw.2.2.2, xt_al3, n3.2.2.2]⟩
  have hX := xh_X_sm hX (M1 := xa_st N3 b (.inr (6, [.ref (b + 1), .ref (b + 4), .ref (b + 13), .ref (b + 22), .null, .null, .null, .null, .null]))) (fun c x y => (xa_st_ne (by omega)).trans (q c (by omega)))
  have hT := xh_T_sm hT (M1 := xa_st N3 b (.inr (6, [.ref (b + 1), .ref (b + 4), .ref (b + 13), .ref (b + 22), .null, .null, .null, .null, .null]))) (fun c x y => (xa_st_ne (by omega)).trans (q c (by omega)))
  have hU := xh_T_sm hU (M1 := xa_st N3 b (.inr (6, [.ref (b + 1), .ref (b + 4), .ref (b + 13), .ref (b + 22), .null, .null, .null, .null, .null]))) (fun c x y => (xa_st_ne (by omega)).trans (q c (by omega)))
  have hS := xh_S_sm kS (M1 := xa_st N3 b (.inr (6, [.ref (b + 1), .ref (b + 4), .ref (b + 13), .ref (b + 22), .null, .null, .null, .null, .null]))) (fun c x y => xa_st_ne (by omega))
  clear kS cE nw q cb
  generalize xa_st N3 b (.inr (6, [.ref (b + 1), .ref (b + 4), .ref (b + 13), .ref (b + 22), .null, .null, .null, .null, .null])) = M4 at c4 n4 hX hT hU hS ⊢
  have m4 : M4.2.1 = b + 28 := n4.2.1
  obtain ⟨⟨z, N4⟩, cE, c, nw, kN⟩ := pn_S (M0 := xa_al M4 (.inr (2, xa_df 2)) 6) (a := b + 28) (by rw [xt_al, if_pos m4.symm]) (by rw [xt_al1, m4])
  have c : z = none := c
  subst c
  dsimp only at nw kN
  have q : ∀ q, q < b + 28 → N4.1 q = M4.1 q := fun q hq => by rw [nw.1 q hq, xt_al, if_neg (by omega)]
  have cb := (q b (by omega)).trans c4
  simp (disch := omega) only [↓ra_49_48, ↓ra_49_49, ↓ra_49_52, ↓ra_49_53, ↓ra_49_56, xa_kli, xa_klr, xa_kll, xa_ki, xa_kl, xa_kr, xa_kii, xa_kk, xa_kir, xa_krr, xa_kiir, xa_krir, xa_kdup, xa_kdup2, xa_kcp, xa_gf, xa_pf, xa_ga, xa_pa, xa_gq, xa_pq, xa_gl, xa_args, xa_ri, xa_rz, xa_rv, xa_s1, xa_s2, xa_c1, eq_self, List.getElem?_cons_succ, List.getElem?_cons_zero, true_and, and_true, nI_add, pk_mul, xt_in, xt_cl, xt_i0, xt_i1, xa_kc, xa_w8, xa_fit, lg_sl, List.flatMap_cons, List.flatMap_nil, List.map_cons, List.map_nil, List.sum_cons, List.sum_nil, Value.category, List.length_cons, List.length_nil, List.length_append, xa_rc, xa_rf, exists_eq_left, exists_eq', Option.some.injEq, Sum.inr.injEq, Prod.mk.injEq, Option.toList_some, Option.toList_none, List.cons_append, List.nil_append, Nat.reduceAdd, Nat.reduceLeDiff, Nat.reduceLT, List.set_cons_zero, List.set_cons_succ, eq_self, or_true, true_or, reduceIte, xt_ne, h0, c4, cb, m4, xa_iff cE, mx_7]
  have c5 : (xa_st N4 b (.inr (6, [.ref (b + 1), .ref (b + 4), .ref (b + 13), .ref (b + 22), .ref (b + 28), .null, .null, .null, .null]))).1 b = _ := xa_st_eq
  have n5 : xa_nw b 34 403 M0 (xa_st N4 b (.inr (6, [.ref (b + 1), .ref (b + 4), .ref (b + 13), .ref (b + 22), .ref (b + 28), .null, .null, .null, .null]))) := ⟨fun x hx => ((xa_st_ne (by omega)).trans (q x (by omega))).trans (n4.1 x hx), by rw [xt_st2, nw.2.1], by rw [xt_st2, nw.2.2.1, xt_al2, n4.2.2.1], by rw [xt_st2, nw.2.2.2, xt_al3, n4.2.2.2]⟩
  have hX := xh_X_sm hX (M1 := xa_st N4 b (.inr (6, [.ref (b + 1), .ref (b + 4), .ref (b + 13), .ref (b + 22), .ref (b + 28), .null, .null, .null, .null]))) (fun c x y => (xa_st_ne (by omega)).trans (q c (by omega)))
  have hT := xh_T_sm hT (M1 := xa_st N4 b (.inr (6, [.ref (b + 1), .ref (b + 4), .ref (b + 13), .ref (b + 22), .ref (b + 28), .null, .null, .null, .null]))) (fun c x y => (xa_st_ne (by omega)).trans (q c (by omega)))
  have hU := xh_T_sm hU (M1 := xa_st N4 b (.inr (6, [.ref (b + 1), .ref (b + 4), .ref (b + 13), .ref (b + 22), .ref (b + 28), .null, .null, .null, .null]))) (fun c x y => (xa_st_ne (by omega)).trans (q c (by omega)))
  have hS := xh_S_sm hS (M1 := xa_st N4 b (.inr (6, [.ref (b + 1), .ref (b + 4), .ref (b + 13), .ref (b + 22), .ref (b + 28), .null, .null, .null, .null]))) (fun c x y => (xa_st_ne (by omega)).trans (q c (by omega)))
  have hN := xh_S_sm kN (M1 := xa_st N4 b (.inr (6, [.ref (b + 1), .ref (b + 4), .ref (b + 13), .ref (b + 22), .ref (b + 28), .null, .null, .null, .null]))) (fun c x y => xa_st_ne (by omega))
  clear kN cE nw q cb
  generalize xa_st N4 b (.inr (6, [.ref (b + 1), .ref (b + 4), .ref (b + 13), .ref (b + 22), .ref (b + 28), .null, .null, .null, .null])) = M5 at c5 n5 hX hT hU hS hN ⊢
  have m5 : M5.2.1 = b + 34 := n5.2.1
  obtain ⟨⟨z, N5⟩, cE, c, nw, kP⟩ := pn_P (M0 := xa_al M5 (.inr (0, xa_df 0)) 2) (a := b + 34) (n := 8) (by rw [xt_al, if_pos m5.symm]) (by rw [xt_al1, m5]) (by omega) (by omega)
  have c : z = none := c
  subst c
  dsimp only at nw kP
  have q : ∀ q, q < b + 34 → N5.1 q = M5.1 q := fun q hq => by rw [nw.1 q hq, xt_al, if_neg (by omega)]
  have cb := (q b (by omega)).trans c5
  simp (disch := omega) only [↓ra_49_59, ↓ra_49_60, ↓ra_49_63, ↓ra_49_64, ↓ra_49_66, ↓ra_49_69, xa_kli, xa_klr, xa_kll, xa_ki, xa_kl, xa_kr, xa_kii, xa_kk, xa_kir, xa_krr, xa_kiir, xa_krir, xa_kdup, xa_kdup2, xa_kcp, xa_gf, xa_pf, xa_ga, xa_pa, xa_gq, xa_pq, xa_gl, xa_args, xa_ri, xa_rz, xa_rv, xa_s1, xa_s2, xa_c1, eq_self, List.getElem?_cons_succ, List.getElem?_cons_zero, true_and, and_true, nI_add, pk_mul, xt_in, xt_cl, xt_i0, xt_i1, xa_kc, xa_w8, xa_fit, lg_sl, List.flatMap_cons, List.flatMap_nil, List.map_cons, List.map_nil, List.sum_cons, List.sum_nil, Value.category, List.length_cons, List.length_nil, List.length_append, xa_rc, xa_rf, exists_eq_left, exists_eq', Option.some.injEq, Sum.inr.injEq, Prod.mk.injEq, Option.toList_some, Option.toList_none, List.cons_append, List.nil_append, Nat.reduceAdd, Nat.reduceLeDiff, Nat.reduceLT, List.set_cons_zero, List.set_cons_succ, eq_self, or_true, true_or, reduceIte, xt_ne, h0, c5, cb, m5, xa_iff cE, mx_0]
  have c6 : (xa_st N5 b (.inr (6, [.ref (b + 1), .ref (b + 4), .ref (b + 13), .ref (b + 22), .ref (b + 28), .ref (b + 34), .null, .null, .null]))).1 b = _ := xa_st_eq
  have n6 : xa_nw b 84 701 M0 (xa_st N5 b (.inr (6, [.ref (b + 1), .ref (b + 4), .ref (b + 13), .ref (b + 22), .ref (b + 28), .ref (b + 34), .null, .null, .null]))) := ⟨fun x hx => ((xa_st_ne (by omega)).trans (q x (by omega))).trans (n5.1 x hx), by rw [xt_st2, nw.2.1], by rw [xt_st2, nw.2.2.1, xt_al2, n5.2.2.1], by rw [xt_st2, nw.2.2.2, xt_al3, n5.2.2.2]⟩
  have hX := xh_X_sm hX (M1 := xa_st N5 b (.inr (6, [.ref (b + 1), .ref (b + 4), .ref (b + 13), .ref (b + 22), .ref (b + 28), .ref (b + 34), .null, .null, .null]))) (fun c x y => (xa_st_ne (by omega)).trans (q c (by omega)))
  have hT := xh_T_sm hT (M1 := xa_st N5 b (.inr (6, [.ref (b + 1), .ref (b + 4), .ref (b + 13), .ref (b + 22), .ref (b + 28), .ref (b + 34), .null, .null, .null]))) (fun c x y => (xa_st_ne (by omega)).trans (q c (by omega)))
  have hU := xh_T_sm hU (M1 := xa_st N5 b (.inr (6, [.ref (b + 1), .ref (b + 4), .ref (b + 13), .ref (b + 22), .ref (b + 28), .ref (b + 34), .null, .null, .null]))) (fun c x y => (xa_st_ne (by omega)).trans (q c (by omega)))
  have hS := xh_S_sm hS (M1 := xa_st N5 b (.inr (6, [.ref (b + 1), .ref (b + 4), .ref (b + 13), .ref (b + 22), .ref (b + 28), .ref (b + 34), .null, .null, .null]))) (fun c x y => (xa_st_ne (by omega)).trans (q c (by omega)))
  have hN := xh_S_sm hN (M1 := xa_st N5 b (.inr (6, [.ref (b + 1), .ref (b + 4), .ref (b + 13), .ref (b + 22), .ref (b + 28), .ref (b + 34), .null, .null, .null]))) (fun c x y => (xa_st_ne (by omega)).trans (q c (by omega)))
  have hP := xh_P_sm kP (M1 := xa_st N5 b (.inr (6, [.ref (b + 1), .ref (b + 4), .ref (b + 13), .ref (b + 22), .ref (b + 28), .ref (b + 34), .null, .null, .null]))) (fun c x y => xa_st_ne (by omega))
  clear kP cE nw q cb
  generalize xa_st N5 b (.inr (6, [.ref (b + 1), .ref (b + 4), .ref (b + 13), .ref (b + 22), .ref (b + 28), .ref (b + 34), .null, .null, .null])) = M6 at c6 n6 hX hT hU hS hN hP ⊢
  have m6 : M6.2.1 = b + 84 := n6.2.1
  obtain ⟨⟨z, N6⟩, cE, c, nw, kK⟩ := pn_P (M0 := xa_al M6 (.inr (0, xa_df 0)) 2) (a := b + 84) (n := 2) (by rw [xt_al, if_pos m6.symm]) (by rw [xt_al1, m6]) (by omega) (by omega)
  have c : z = none := c
  subst c
  dsimp only at nw kK
  have q : ∀ q, q < b + 84 → N6.1 q = M6.1 q := fun q hq => by rw [nw.1 q hq, xt_al, if_neg (by omega)]
  have cb := (q b (by omega)).trans c6
  simp (disch := omega) only [↓ra_49_72, ↓ra_49_73, ↓ra_49_76, ↓ra_49_77, ↓ra_49_78, ↓ra_49_81, xa_kli, xa_klr, xa_kll, xa_ki, xa_kl, xa_kr, xa_kii, xa_kk, xa_kir, xa_krr, xa_kiir, xa_krir, xa_kdup, xa_kdup2, xa_kcp, xa_gf, xa_pf, xa_ga, xa_pa, xa_gq, xa_pq, xa_gl, xa_args, xa_ri, xa_rz, xa_rv, xa_s1, xa_s2, xa_c1, eq_self, List.getElem?_cons_succ, List.getElem?_cons_zero, true_and, and_true, nI_add, pk_mul, xt_in, xt_cl, xt_i0, xt_i1, xa_kc, xa_w8, xa_fit, lg_sl, List.flatMap_cons, List.flatMap_nil, List.map_cons, List.map_nil, List.sum_cons, List.sum_nil, Value.category, List.length_cons, List.length_nil, List.length_append, xa_rc, xa_rf, exists_eq_left, exists_eq', Option.some.injEq, Sum.inr.injEq, Prod.mk.injEq, Option.toList_some, Option.toList_none, List.cons_append, List.nil_append, Nat.reduceAdd, Nat.reduceLeDiff, Nat.reduceLT, List.set_cons_zero, List.set_cons_succ, eq_self, or_true, true_or, reduceIte, xt_ne, h0, c6, cb, m6, xa_iff cE, mx_0]
  have c7 : (xa_st N6 b (.inr (6, [.ref (b + 1), .ref (b + 4), .ref (b + 13), .ref (b + 22), .ref (b + 28), .ref (b + 34), .ref (b + 84), .null, .null]))).1 b = _ := xa_st_eq
  have n7 : xa_nw b 98 777 M0 (xa_st N6 b (.inr (6, [.ref (b + 1), .ref (b + 4), .ref (b + 13), .ref (b + 22), .ref (b + 28), .ref (b + 34), .ref (b + 84), .null, .null]))) := ⟨fun x hx => ((xa_st_ne (by omega)).trans (q x (by omega))).trans (n6.1 x hx), by rw [xt_st2, nw.2.1], by rw [xt_st2, nw.2.2.1, xt_al2, n6.2.2.1], by rw [xt_st2, nw.2.2.2, xt_al3, n6.2.2.2]⟩
  have hX := xh_X_sm hX (M1 := xa_st N6 b (.inr (6, [.ref (b + 1), .ref (b + 4), .ref (b + 13), .ref (b + 22), .ref (b + 28), .ref (b + 34), .ref (b + 84), .null, .null]))) (fun c x y => (xa_st_ne (by omega)).trans (q c (by omega)))
  have hT := xh_T_sm hT (M1 := xa_st N6 b (.inr (6, [.ref (b + 1), .ref (b + 4), .ref (b + 13), .ref (b + 22), .ref (b + 28), .ref (b + 34), .ref (b + 84), .null, .null]))) (fun c x y => (xa_st_ne (by omega)).trans (q c (by omega)))
  have hU := xh_T_sm hU (M1 := xa_st N6 b (.inr (6, [.ref (b + 1), .ref (b + 4), .ref (b + 13), .ref (b + 22), .ref (b + 28), .ref (b + 34), .ref (b + 84), .null, .null]))) (fun c x y => (xa_st_ne (by omega)).trans (q c (by omega)))
  have hS := xh_S_sm hS (M1 := xa_st N6 b (.inr (6, [.ref (b + 1), .ref (b + 4), .ref (b + 13), .ref (b + 22), .ref (b + 28), .ref (b + 34), .ref (b + 84), .null, .null]))) (fun c x y => (xa_st_ne (by omega)).trans (q c (by omega)))
  have hN := xh_S_sm hN (M1 := xa_st N6 b (.inr (6, [.ref (b + 1), .ref (b + 4), .ref (b + 13), .ref (b + 22), .ref (b + 28), .ref (b + 34), .ref (b + 84), .null, .null]))) (fun c x y => (xa_st_ne (by omega)).trans (q c (by omega)))
  have hP := xh_P_sm hP (M1 := xa_st N6 b (.inr (6, [.ref (b + 1), .ref (b + 4), .ref (b + 13), .ref (b + 22), .ref (b + 28), .ref (b + 34), .ref (b + 84), .null, .null]))) (fun c x y => (xa_st_ne (by omega)).trans (q c (by omega)))
  have hK := xh_P_sm kK (M1 := xa_st N6 b (.inr (6, [.ref (b + 1), .ref (b + 4), .ref (b + 13), .ref (b + 22), .ref (b + 28), .ref (b + 34), .ref (b + 84), .null, .null]))) (fun c x y => xa_st_ne (by omega))
  clear kK cE nw q cb
  generalize xa_st N6 b (.inr (6, [.ref (b + 1), .ref (b + 4), .ref (b + 13), .ref (b + 22), .ref (b + 28), .ref (b + 34), .ref (b + 84), .null, .null])) = M7 at c7 n7 hX hT hU hS hN hP hK ⊢
  have m7 : M7.2.1 = b + 98 := n7.2.1
  obtain ⟨⟨z, N7⟩, cE, c, nw, kG⟩ := pn_G (M0 := xa_al M7 (.inr (1, xa_df 1)) 4) (a := b + 98) (by rw [xt_al, if_pos m7.symm]) (by rw [xt_al1, m7])
  have c : z = none := c
  subst c
  dsimp only at nw kG
  have q : ∀ q, q < b + 98 → N7.1 q = M7.1 q := fun q hq => by rw [nw.1 q hq, xt_al, if_neg (by omega)]
  have cb := (q b (by omega)).trans c7
  simp (disch := omega) only [↓ra_49_84, ↓ra_49_85, ↓ra_49_88, ↓ra_49_89, ↓ra_49_92, xa_kli, xa_klr, xa_kll, xa_ki, xa_kl, xa_kr, xa_kii, xa_kk, xa_kir, xa_krr, xa_kiir, xa_krir, xa_kdup, xa_kdup2, xa_kcp, xa_gf, xa_pf, xa_ga, xa_pa, xa_gq, xa_pq, xa_gl, xa_args, xa_ri, xa_rz, xa_rv, xa_s1, xa_s2, xa_c1, eq_self, List.getElem?_cons_succ, List.getElem?_cons_zero, true_and, and_true, nI_add, pk_mul, xt_in, xt_cl, xt_i0, xt_i1, xa_kc, xa_w8, xa_fit, lg_sl, List.flatMap_cons, List.flatMap_nil, List.map_cons, List.map_nil, List.sum_cons, List.sum_nil, Value.category, List.length_cons, List.length_nil, List.length_append, xa_rc, xa_rf, exists_eq_left, exists_eq', Option.some.injEq, Sum.inr.injEq, Prod.mk.injEq, Option.toList_some, Option.toList_none, List.cons_append, List.nil_append, Nat.reduceAdd, Nat.reduceLeDiff, Nat.reduceLT, List.set_cons_zero, List.set_cons_succ, eq_self, or_true, true_or, reduceIte, xt_ne, h0, c7, cb, m7, xa_iff cE, mx_4]
  have c8 : (xa_st N7 b (.inr (6, [.ref (b + 1), .ref (b + 4), .ref (b + 13), .ref (b + 22), .ref (b + 28), .ref (b + 34), .ref (b + 84), .ref (b + 98), .null]))).1 b = _ := xa_st_eq
  have n8 : xa_nw b 102 805 M0 (xa_st N7 b (.inr (6, [.ref (b + 1), .ref (b + 4), .ref (b + 13), .ref (b + 22), .ref (b + 28), .ref (b + 34), .ref (b + 84), .ref (b + 98), .null]))) := ⟨fun x hx => ((xa_st_ne (by omega)).trans (q x (by omega))).trans (n7.1 x hx), by rw [xt_st2, nw.2.1], by rw [xt_st2, nw.2.2.1, xt_al2, n7.2.2.1], by rw [xt_st2, nw.2.2.2, xt_al3, n7.2.2.2]⟩
  have hX := xh_X_sm hX (M1 := xa_st N7 b (.inr (6, [.ref (b + 1), .ref (b + 4), .ref (b + 13), .ref (b + 22), .ref (b + 28), .ref (b + 34), .ref (b + 84), .ref (b + 98), .null]))) (fun c x y => (xa_st_ne (by omega)).trans (q c (by omega)))
  have hT := xh_T_sm hT (M1 := xa_st N7 b (.inr (6, [.ref (b + 1), .ref (b + 4), .ref (b + 13), .ref (b + 22), .ref (b + 28), .ref (b + 34), .ref (b + 84), .ref (b + 98), .null]))) (fun c x y => (xa_st_ne (by omega)).trans (q c (by omega)))
  have hU := xh_T_sm hU (M1 := xa_st N7 b (.inr (6, [.ref (b + 1), .ref (b + 4), .ref (b + 13), .ref (b + 22), .ref (b + 28), .ref (b + 34), .ref (b + 84), .ref (b + 98), .null]))) (fun c x y => (xa_st_ne (by omega)).trans (q c (by omega)))
  have hS := xh_S_sm hS (M1 := xa_st N7 b (.inr (6, [.ref (b + 1), .ref (b + 4), .ref (b + 13), .ref (b + 22), .ref (b + 28), .ref (b + 34), .ref (b + 84), .ref (b + 98), .null]))) (fun c x y => (xa_st_ne (by omega)).trans (q c (by omega)))
  have hN := xh_S_sm hN (M1 := xa_st N7 b (.inr (6, [.ref (b + 1), .ref (b + 4), .ref (b + 13), .ref (b + 22), .ref (b + 28), .ref (b + 34), .ref (b + 84), .ref (b + 98), .null]))) (fun c x y => (xa_st_ne (by omega)).trans (q c (by omega)))
  have hP := xh_P_sm hP (M1 := xa_st N7 b (.inr (6, [.ref (b + 1), .ref (b + 4), .ref (b + 13), .ref (b + 22), .ref (b + 28), .ref (b + 34), .ref (b + 84), .ref (b + 98), .null]))) (fun c x y => (xa_st_ne (by omega)).trans (q c (by omega)))
  have hK := xh_P_sm hK (M1 := xa_st N7 b (.inr (6, [.ref (b + 1), .ref (b + 4), .ref (b + 13), .ref (b + 22), .ref (b + 28), .ref (b + 34), .ref (b + 84), .ref (b + 98), .null]))) (fun c x y => (xa_st_ne (by omega)).trans (q c (by omega)))
  have hG := xh_G_sm kG (M1 := xa_st N7 b (.inr (6, [.ref (b + 1), .ref (b + 4), .ref (b + 13), .ref (b + 22), .ref (b + 28), .ref (b + 34), .ref (b + 84), .ref (b + 98), .null]))) (fun c x y => xa_st_ne (by omega))
  clear kG cE nw q cb
  generalize xa_st N7 b (.inr (6, [.ref (b + 1), .ref (b + 4), .ref (b + 13), .ref (b + 22), .ref (b + 28), .ref (b + 34), .ref (b + 84), .ref (b + 98), .null])) = M8 at c8 n8 hX hT hU hS hN hP hK hG ⊢
  have m8 : M8.2.1 = b + 102 := n8.2.1
  obtain ⟨⟨z, N8⟩, cE, c, nw, kW⟩ := pn_W (M0 := xa_al M8 (.inr (5, xa_df 5)) 4) (a := b + 102) (by rw [xt_al, if_pos m8.symm]) (by rw [xt_al1, m8])
  have c : z = none := c
  subst c
  dsimp only at nw kW
  have q : ∀ q, q < b + 102 → N8.1 q = M8.1 q := fun q hq => by rw [nw.1 q hq, xt_al, if_neg (by omega)]
  have cb := (q b (by omega)).trans c8
  simp (disch := omega) only [↓ra_49_95, ↓ra_49_96, ↓ra_49_99, ↓ra_49_100, ↓ra_49_103, xa_kli, xa_klr, xa_kll, xa_ki, xa_kl, xa_kr, xa_kii, xa_kk, xa_kir, xa_krr, xa_kiir, xa_krir, xa_kdup, xa_kdup2, xa_kcp, xa_gf, xa_pf, xa_ga, xa_pa, xa_gq, xa_pq, xa_gl, xa_args, xa_ri, xa_rz, xa_rv, xa_s1, xa_s2, xa_c1, eq_self, List.getElem?_cons_succ, List.getElem?_cons_zero, true_and, and_true, nI_add, pk_mul, xt_in, xt_cl, xt_i0, xt_i1, xa_kc, xa_w8, xa_fit, lg_sl, List.flatMap_cons, List.flatMap_nil, List.map_cons, List.map_nil, List.sum_cons, List.sum_nil, Value.category, List.length_cons, List.length_nil, List.length_append, xa_rc, xa_rf, exists_eq_left, exists_eq', Option.some.injEq, Sum.inr.injEq, Prod.mk.injEq, Option.toList_some, Option.toList_none, List.cons_append, List.nil_append, Nat.reduceAdd, Nat.reduceLeDiff, Nat.reduceLT, List.set_cons_zero, List.set_cons_succ, eq_self, or_true, true_or, reduceIte, xt_ne, h0, c8, cb, m8, xa_iff cE, mx_43]
  have c9 : (xa_st N8 b (.inr (6, [.ref (b + 1), .ref (b + 4), .ref (b + 13), .ref (b + 22), .ref (b + 28), .ref (b + 34), .ref (b + 84), .ref (b + 98), .ref (b + 102)]))).1 b = _ := xa_st_eq
  have n9 : xa_nw b 107 993 M0 (xa_st N8 b (.inr (6, [.ref (b + 1), .ref (b + 4), .ref (b + 13), .ref (b + 22), .ref (b + 28), .ref (b + 34), .ref (b + 84), .ref (b + 98), .ref (b + 102)]))) := ⟨fun x hx => ((xa_st_ne (by omega)).trans (q x (by omega))).trans (n8.1 x hx), by rw [xt_st2, nw.2.1], by rw [xt_st2, nw.2.2.1, xt_al2, n8.2.2.1], by rw [xt_st2, nw.2.2.2, xt_al3, n8.2.2.2]⟩
  have hX := xh_X_sm hX (M1 := xa_st N8 b (.inr (6, [.ref (b + 1), .ref (b + 4), .ref (b + 13), .ref (b + 22), .ref (b + 28), .ref (b + 34), .ref (b + 84), .ref (b + 98), .ref (b + 102)]))) (fun c x y => (xa_st_ne (by omega)).trans (q c (by omega)))
  have hT := xh_T_sm hT (M1 := xa_st N8 b (.inr (6, [.ref (b + 1), .ref (b + 4), .ref (b + 13), .ref (b + 22), .ref (b + 28), .ref (b + 34), .ref (b + 84), .ref (b + 98), .ref (b + 102)]))) (fun c x y => (xa_st_ne (by omega)).trans (q c (by omega)))
  have hU := xh_T_sm hU (M1 := xa_st N8 b (.inr (6, [.ref (b + 1), .ref (b + 4), .ref (b + 13), .ref (b + 22), .ref (b + 28), .ref (b + 34), .ref (b + 84), .ref (b + 98), .ref (b + 102)]))) (fun c x y => (xa_st_ne (by omega)).trans (q c (by omega)))
  have hS := xh_S_sm hS (M1 := xa_st N8 b (.inr (6, [.ref (b + 1), .ref (b + 4), .ref (b + 13), .ref (b + 22), .ref (b + 28), .ref (b + 34), .ref (b + 84), .ref (b + 98), .ref (b + 102)]))) (fun c x y => (xa_st_ne (by omega)).trans (q c (by omega)))
  have hN := xh_S_sm hN (M1 := xa_st N8 b (.inr (6, [.ref (b + 1), .ref (b + 4), .ref (b + 13), .ref (b + 22), .ref (b + 28), .ref (b + 34), .ref (b + 84), .ref (b + 98), .ref (b + 102)]))) (fun c x y => (xa_st_ne (by omega)).trans (q c (by omega)))
  have hP := xh_P_sm hP (M1 := xa_st N8 b (.inr (6, [.ref (b + 1), .ref (b + 4), .ref (b + 13), .ref (b + 22), .ref (b + 28), .ref (b + 34), .ref (b + 84), .ref (b + 98), .ref (b + 102)]))) (fun c x y => (xa_st_ne (by omega)).trans (q c (by omega)))
  have hK := xh_P_sm hK (M1 := xa_st N8 b (.inr (6, [.ref (b + 1), .ref (b + 4), .ref (b + 13), .ref (b + 22), .ref (b + 28), .ref (b + 34), .ref (b + 84), .ref (b + 98), .ref (b + 102)]))) (fun c x y => (xa_st_ne (by omega)).trans (q c (by omega)))
  have hG := xh_G_sm hG (M1 := xa_st N8 b (.inr (6, [.ref (b + 1), .ref (b + 4), .ref (b + 13), .ref (b + 22), .ref (b + 28), .ref (b + 34), .ref (b + 84), .ref (b + 98), .ref (b + 102)]))) (fun c x y => (xa_st_ne (by omega)).trans (q c (by omega)))
  have hW := xh_W0_sm kW (M1 := xa_st N8 b (.inr (6, [.ref (b + 1), .ref (b + 4), .ref (b + 13), .ref (b + 22), .ref (b + 28), .ref (b + 34), .ref (b + 84), .ref (b + 98), .ref (b + 102)]))) (fun c x y => xa_st_ne (by omega))
  clear kW cE nw q cb
  generalize xa_st N8 b (.inr (6, [.ref (b + 1), .ref (b + 4), .ref (b + 13), .ref (b + 22), .ref (b + 28), .ref (b + 34), .ref (b + 84), .ref (b + 98), .ref (b + 102)])) = M9 at c9 n9 hX hT hU hS hN hP hK hG hW ⊢
  have m9 : M9.2.1 = b + 107 := n9.2.1
  have fin : ∀ (lv : xa_L) (M : xa_M), lv 0 = some (.ref b) → xa_fr (b + 1) (b + 4) M9 M → xh_X M (b + 1) 78 xq_tx → ∃ z, xa_E 49 137 lv [] M z ∧ z.1 = none ∧ xa_nw b 107 993 M0 z.2 ∧ xh_A z.2 b xs_0 := by
    intro lv M h0 f hX
    have o0 := (f.1 b (by omega)).trans c9
    obtain ⟨⟨z1, M1⟩, cE1, e1, f1, hX1, hT1⟩ := pc_readInto hX ⟨by omega, fun j hj => xt_txl j hj⟩ (xh_T_fr hT f (by omega)) (by omega)
    have e1 : z1 = _ := e1
    subst e1
    dsimp only at f1 hX1 hT1
    have o1 := (f1.1 b (by omega) (by omega)).trans o0
    obtain ⟨w, g, g2, x0, -⟩ := id hX
    obtain ⟨w1, g1, g3, x1, x2, x3, x4⟩ := id hX1
    have t0 := (xh_T_fr hT f (by omega)).1
    have kk : ∀ lo hi, b + 13 ≤ lo → xa_sm lo hi M9 M1 := fun lo hi c a x y => (f1.1 a (by omega) (by omega)).trans (f.1 a (by omega))
    have f2 : xa_fr (b + 1) (b + 4) M1 (xa_st M1 (b + 1) (.inr (3, [.ref (b + 1 + 1), .int (nI 0), .ref (b + 1 + 2), .int w1]))) := xa_fr_st (by omega) (by omega)
    have hX2 : xh_X (xa_st M1 (b + 1) (.inr (3, [.ref (b + 1 + 1), .int (nI 0), .ref (b + 1 + 2), .int w1]))) (b + 1) 0 xq_tx := ⟨w1, g1, g3, xa_st_eq, (xa_st_ne (by omega)).trans x2, fun j hj => absurd hj (Nat.not_lt_zero j), (xa_st_ne (by omega)).trans x4⟩
    simp (disch := omega) only [↓ra_49_137, ↓ra_49_138, ↓ra_49_141, ↓ra_49_142, ↓ra_49_145, ↓ra_49_148, ↓ra_49_149, ↓ra_49_150, ↓ra_49_153, ↓ra_49_154, xa_kli, xa_klr, xa_kll, xa_ki, xa_kl, xa_kr, xa_kii, xa_kk, xa_kir, xa_krr, xa_kiir, xa_krir, xa_kdup, xa_kdup2, xa_kcp, xa_gf, xa_pf, xa_ga, xa_pa, xa_gq, xa_pq, xa_gl, xa_args, xa_ri, xa_rz, xa_rv, xa_s1, xa_s2, xa_c1, eq_self, List.getElem?_cons_succ, List.getElem?_cons_zero, true_and, and_true, nI_add, pk_mul, xt_in, xt_cl, xt_i0, xt_i1, xa_kc, xa_w8, xa_fit, lg_sl, List.flatMap_cons, List.flatMap_nil, List.map_cons, List.map_nil, List.sum_cons, List.sum_nil, Value.category, List.length_cons, List.length_nil, List.length_append, xa_rc, xa_rf, exists_eq_left, exists_eq', Option.some.injEq, Sum.inr.injEq, Prod.mk.injEq, Option.toList_some, Option.toList_none, List.cons_append, List.nil_append, Nat.reduceAdd, Nat.reduceLeDiff, Nat.reduceLT, List.set_cons_zero, List.set_cons_succ, eq_self, or_true, true_or, reduceIte, xt_ne, h0, o0, o1, x0, x1, t0, xa_iff cE1, mx_23]
    generalize xa_st M1 (b + 1) (.inr (3, [.ref (b + 1 + 1), .int (nI 0), .ref (b + 1 + 2), .int w1])) = M2 at f2 hX2 ⊢
    have o2 := (f2.1 b (by omega)).trans o1
    have hT2 : xh_T M2 (b + 4) xq_1 := xh_T_fr hT1 f2 (by omega)
    have i1 := xi_1
    obtain ⟨⟨b1, b2, b3, b4, b5, b6, b7, b8⟩, -⟩ := id i1.1
    have hS2 := xh_S_fr (xh_S_sm hS (kk _ _ (by omega))) f2 (by omega)
    obtain ⟨⟨z3, M3⟩, cE3, e3, f3, hS3⟩ := pc_begin hS2 hT2 (by omega) b6 b7
    have e3 : z3 = none := e3
    subst e3
    dsimp only at f3 hS3
    have s2 := hS2.1
    have t2 := hT2.1
    simp (disch := omega) only [↓ra_49_157, ↓ra_49_158, ↓ra_49_161, ↓ra_49_162, ↓ra_49_165, ↓ra_49_168, xa_kli, xa_klr, xa_kll, xa_ki, xa_kl, xa_kr, xa_kii, xa_kk, xa_kir, xa_krr, xa_kiir, xa_krir, xa_kdup, xa_kdup2, xa_kcp, xa_gf, xa_pf, xa_ga, xa_pa, xa_gq, xa_pq, xa_gl, xa_args, xa_ri, xa_rz, xa_rv, xa_s1, xa_s2, xa_c1, eq_self, List.getElem?_cons_succ, List.getElem?_cons_zero, true_and, and_true, nI_add, pk_mul, xt_in, xt_cl, xt_i0, xt_i1, xa_kc, xa_w8, xa_fit, lg_sl, List.flatMap_cons, List.flatMap_nil, List.map_cons, List.map_nil, List.sum_cons, List.sum_nil, Value.category, List.length_cons, List.length_nil, List.length_append, xa_rc, xa_rf, exists_eq_left, exists_eq', Option.some.injEq, Sum.inr.injEq, Prod.mk.injEq, Option.toList_some, Option.toList_none, List.cons_append, List.nil_append, Nat.reduceAdd, Nat.reduceLeDiff, Nat.reduceLT, List.set_cons_zero, List.set_cons_succ, eq_self, or_true, true_or, reduceIte, xt_ne, h0, o2, s2, t2, xa_iff cE3, mx_8]
    refine ⟨⟨fun q hq => ?_, ?_, ?_, ?_⟩, (f3.1 b (by omega)).trans o2, xh_X_fr hX2 f3 (by omega), xh_T_fr hT2 f3 (by omega), ⟨_, xh_T_fr (xh_T_fr (xh_T_sm hU (kk _ _ (by omega))) f2 (by omega)) f3 (by omega)⟩, hS3, ⟨_, xh_S_fr (xh_S_fr (xh_S_sm hN (kk _ _ (by omega))) f2 (by omega)) f3 (by omega)⟩, ?_, ?_, ?_, ?_⟩
    · rw [f3.1 q (by omega), f2.1 q (by omega), f1.1 q (by omega) (by omega), f.1 q (by omega)]; exact n9.1 q hq
    · rw [f3.2, f2.2, f1.2, f.2]; exact n9.2.1
    · rw [f3.2, f2.2, f1.2, f.2]; exact n9.2.2.1
    · rw [f3.2, f2.2, f1.2, f.2]; exact n9.2.2.2
    · exact xh_P_fr (xh_P_fr (xh_P_0 (xh_P_sm hP (kk _ _ (by omega))) _ _ _) f2 (by omega)) f3 (by omega)
    · exact xh_P_fr (xh_P_fr (xh_P_0 (xh_P_sm hK (kk _ _ (by omega))) _ _ _) f2 (by omega)) f3 (by omega)
    · exact xh_G_fr (xh_G_fr (xh_G_sm hG (kk _ _ (by omega))) f2 (by omega)) f3 (by omega)
    · exact xh_W0_fr (xh_W0_fr (xh_W0_sm hW (kk _ _ (by omega))) f2 (by omega)) f3 (by omega)
  have loop : ∀ (r i : Nat) (lv : xa_L) (M : xa_M), lv 0 = some (.ref b) → lv 1 = some (.int (nI i)) → i + r = 78 → xa_fr (b + 1) (b + 4) M9 M → xh_X M (b + 1) i xq_tx → ∃ z, xa_E 49 108 lv [] M z ∧ z.1 = none ∧ xa_nw b 107 993 M0 z.2 ∧ xh_A z.2 b xs_0 := by
    intro r
    induction r with
    | zero =>
      intro i lv M h0 h1 e f hX
      have e : i = 78 := by omega
      subst e
      simp (disch := omega) only [↓ra_49_108, ↓ra_49_109, ↓ra_49_111, ↓ra_49_114, xa_kli, xa_klr, xa_kll, xa_ki, xa_kl, xa_kr, xa_kii, xa_kk, xa_kir, xa_krr, xa_kiir, xa_krir, xa_kdup, xa_kdup2, xa_kcp, xa_gf, xa_pf, xa_ga, xa_pa, xa_gq, xa_pq, xa_gl, xa_args, xa_ri, xa_rz, xa_rv, xa_s1, xa_s2, xa_c1, eq_self, List.getElem?_cons_succ, List.getElem?_cons_zero, true_and, and_true, nI_add, pk_mul, xt_in, xt_cl, xt_i0, xt_i1, xa_kc, xa_w8, xa_fit, lg_sl, List.flatMap_cons, List.flatMap_nil, List.map_cons, List.map_nil, List.sum_cons, List.sum_nil, Value.category, List.length_cons, List.length_nil, List.length_append, xa_rc, xa_rf, exists_eq_left, exists_eq', Option.some.injEq, Sum.inr.injEq, Prod.mk.injEq, Option.toList_some, Option.toList_none, List.cons_append, List.nil_append, Nat.reduceAdd, Nat.reduceLeDiff, Nat.reduceLT, List.set_cons_zero, List.set_cons_succ, eq_self, or_true, true_or, reduceIte, xt_ne, h0, h1, xt_le, Nat.le_refl]
      exact fin lv M h0 f hX
    | succ r ih =>
      intro i lv M h0 h1 e f hX
      have tl := xt_txl i (by omega)
      obtain ⟨⟨z1, M1⟩, cE1, e1, f1, hX1⟩ := pc_xadd hX (by omega) (xq_tx i) (by omega)
      have e1 : z1 = _ := e1
      subst e1
      dsimp only at f1 hX1
      have o0 := (f.1 b (by omega)).trans c9
      obtain ⟨w, g, g2, x0, -⟩ := id hX
      have ex : xa_tx.getD i 0 = xq_tx i := rfl
      simp (disch := omega) only [↓ra_49_108, ↓ra_49_109, ↓ra_49_111, ↓ra_49_114, xa_kli, xa_klr, xa_kll, xa_ki, xa_kl, xa_kr, xa_kii, xa_kk, xa_kir, xa_krr, xa_kiir, xa_krir, xa_kdup, xa_kdup2, xa_kcp, xa_gf, xa_pf, xa_ga, xa_pa, xa_gq, xa_pq, xa_gl, xa_args, xa_ri, xa_rz, xa_rv, xa_s1, xa_s2, xa_c1, eq_self, List.getElem?_cons_succ, List.getElem?_cons_zero, true_and, and_true, nI_add, pk_mul, xt_in, xt_cl, xt_i0, xt_i1, xa_kc, xa_w8, xa_fit, lg_sl, List.flatMap_cons, List.flatMap_nil, List.map_cons, List.map_nil, List.sum_cons, List.sum_nil, Value.category, List.length_cons, List.length_nil, List.length_append, xa_rc, xa_rf, exists_eq_left, exists_eq', Option.some.injEq, Sum.inr.injEq, Prod.mk.injEq, Option.toList_some, Option.toList_none, List.cons_append, List.nil_append, Nat.reduceAdd, Nat.reduceLeDiff, Nat.reduceLT, List.set_cons_zero, List.set_cons_succ, eq_self, or_true, true_or, reduceIte, xt_ne, h0, h1, xt_le]
      simp only [if_neg (show ¬ 78 ≤ i by omega)]
      simp (disch := omega) only [↓ra_49_117, ↓ra_49_118, ↓ra_49_121, ↓ra_49_123, ↓ra_49_124, ↓ra_49_127, ↓ra_49_130, ↓ra_49_131, ↓ra_49_134, xa_kli, xa_klr, xa_kll, xa_ki, xa_kl, xa_kr, xa_kii, xa_kk, xa_kir, xa_krr, xa_kiir, xa_krir, xa_kdup, xa_kdup2, xa_kcp, xa_gf, xa_pf, xa_ga, xa_pa, xa_gq, xa_pq, xa_gl, xa_args, xa_ri, xa_rz, xa_rv, xa_s1, xa_s2, xa_c1, eq_self, List.getElem?_cons_succ, List.getElem?_cons_zero, true_and, and_true, nI_add, pk_mul, xt_in, xt_cl, xt_i0, xt_i1, xa_kc, xa_w8, xa_fit, lg_sl, List.flatMap_cons, List.flatMap_nil, List.map_cons, List.map_nil, List.sum_cons, List.sum_nil, Value.category, List.length_cons, List.length_nil, List.length_append, xa_rc, xa_rf, exists_eq_left, exists_eq', Option.some.injEq, Sum.inr.injEq, Prod.mk.injEq, Option.toList_some, Option.toList_none, List.cons_append, List.nil_append, Nat.reduceAdd, Nat.reduceLeDiff, Nat.reduceLT, List.set_cons_zero, List.set_cons_succ, eq_self, or_true, true_or, reduceIte, xt_ne, h0, h1, o0, x0, ex, xa_iff cE1, mx_22]
      refine ih (i + 1) _ M1 (by simp [xa_s1, xa_c1, h0]) (by simp [xa_s1, xa_c1]) (by omega) (xa_fr_tr f f1) (xh_X_cg hX1 (fun j hj => ?_))
      by_cases c : j = i
      · rw [if_pos c, c]
      · rw [if_neg c]
  simp (disch := omega) only [↓ra_49_106, ↓ra_49_107, xa_kli, xa_klr, xa_kll, xa_ki, xa_kl, xa_kr, xa_kii, xa_kk, xa_kir, xa_krr, xa_kiir, xa_krir, xa_kdup, xa_kdup2, xa_kcp, xa_gf, xa_pf, xa_ga, xa_pa, xa_gq, xa_pq, xa_gl, xa_args, xa_ri, xa_rz, xa_rv, xa_s1, xa_s2, xa_c1, eq_self, List.getElem?_cons_succ, List.getElem?_cons_zero, true_and, and_true, nI_add, pk_mul, xt_in, xt_cl, xt_i0, xt_i1, xa_kc, xa_w8, xa_fit, lg_sl, List.flatMap_cons, List.flatMap_nil, List.map_cons, List.map_nil, List.sum_cons, List.sum_nil, Value.category, List.length_cons, List.length_nil, List.length_append, xa_rc, xa_rf, exists_eq_left, exists_eq', Option.some.injEq, Sum.inr.injEq, Prod.mk.injEq, Option.toList_some, Option.toList_none, List.cons_append, List.nil_append, Nat.reduceAdd, Nat.reduceLeDiff, Nat.reduceLT, List.set_cons_zero, List.set_cons_succ, eq_self, or_true, true_or, reduceIte, xt_ne, h0]
  exact loop 78 0 _ M9 (by simp [xa_s1, xa_c1, h0]) (by simp [xa_s1, xa_c1]) (by omega) xa_fr_rf (xh_X_cg hX (fun j hj => absurd hj (Nat.not_lt_zero j)))
