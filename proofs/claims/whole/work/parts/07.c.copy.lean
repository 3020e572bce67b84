/-- one Standing into another -/
theorem pc_copyS {M : xa_M} {a b nS nM : Nat} {S S0 : xt_S} (hA : xh_S M a 0 0 S0) (hB : xh_S M b nS nM S) (hab : a + 6 ≤ b ∨ b + 6 ≤ a) (hn : nS ≤ 6) (hm : nM ≤ 6) :
    ∃ z, xa_E 9 0 (xa_ent [.ref a, .ref b]) [] M z ∧ z.1 = none ∧ xa_fr a (a + 6) M z.2 ∧ xh_S z.2 a nS nM S := by
  obtain ⟨a0, ⟨g1, a1, -⟩, ⟨g2, a2, -⟩, ⟨g3, a3, -⟩, ⟨g4, a4, -⟩, ⟨g5, a5, -⟩⟩ := hA
  have hB0 := hB
  obtain ⟨b0, -⟩ := hB
  refine xa_ge2 (fun lv h0 h1 => ?_)
  simp (disch := omega) only [↓ra_9_0, ↓ra_9_1, ↓ra_9_2, ↓ra_9_5, xa_kli, xa_klr, xa_kll, xa_ki, xa_kl, xa_kr, xa_kii, xa_kk, xa_kir, xa_krr, xa_kiir, xa_krir, xa_kdup, xa_kdup2, xa_kcp, xa_gf, xa_pf, xa_ga, xa_pa, xa_gq, xa_pq, xa_gl, xa_args, xa_ri, xa_rz, xa_rv, xa_s1, xa_s2, xa_c1, eq_self, List.getElem?_cons_succ, List.getElem?_cons_zero, true_and, and_true, nI_add, pk_mul, xt_in, xt_cl, xt_i0, xt_i1, h0, h1, a0, b0, List.set_cons_zero, List.length_cons, List.length_nil, Nat.zero_lt_succ]
  generalize hM0 : xa_st M a _ = M0
  have fr : xa_fr a (a + 6) M M0 := by rw [← hM0]; exact xa_fr_st (by omega) (by omega)
  have n0 : M0.1 a = some (.inr (2, [.int (nI (xsd S)), .ref (a + 1), .ref (a + 2), .ref (a + 3), .ref (a + 4), .ref (a + 5)])) := by rw [← hM0]; exact xa_st_eq
  have n1 : M0.1 (a + 1) = some (.inl (0, 6, .inl g1)) := by rw [← hM0]; exact (xa_st_ne (by omega)).trans a1
  have n2 : M0.1 (a + 2) = some (.inl (0, 6, .inl g2)) := by rw [← hM0]; exact (xa_st_ne (by omega)).trans a2
  have n3 : M0.1 (a + 3) = some (.inl (0, 6, .inl g3)) := by rw [← hM0]; exact (xa_st_ne (by omega)).trans a3
  have n4 : M0.1 (a + 4) = some (.inl (0, 6, .inl g4)) := by rw [← hM0]; exact (xa_st_ne (by omega)).trans a4
  have n5 : M0.1 (a + 5) = some (.inl (0, 6, .inl g5)) := by rw [← hM0]; exact (xa_st_ne (by omega)).trans a5
  have hB1 := xh_S_fr hB0 fr hab.symm
  obtain ⟨⟨z1, M1⟩, cE1, c1, f1, r1⟩ := pc_copyRow hB1.2.1 n1 (by decide) (hn)
  have c1 : z1 = none := c1
  subst c1
  dsimp only at f1 r1
  simp (disch := omega) only [↓ra_9_8, ↓ra_9_9, ↓ra_9_12, ↓ra_9_13, ↓ra_9_16, xa_kli, xa_klr, xa_kll, xa_ki, xa_kl, xa_kr, xa_kii, xa_kk, xa_kir, xa_krr, xa_kiir, xa_krir, xa_kdup, xa_kdup2, xa_kcp, xa_gf, xa_pf, xa_ga, xa_pa, xa_gq, xa_pq, xa_gl, xa_args, xa_ri, xa_rz, xa_rv, xa_s1, xa_s2, xa_c1, eq_self, List.getElem?_cons_succ, List.getElem?_cons_zero, true_and, and_true, nI_add, pk_mul, xt_in, xt_cl, xt_i0, xt_i1, xa_kc, xa_w8, xa_fit, lg_sl, List.flatMap_cons, List.flatMap_nil, List.map_cons, List.map_nil, List.sum_cons, List.sum_nil, Value.category, List.length_cons, List.length_nil, List.length_append, xa_rc, xa_rf, exists_eq_left, exists_eq', Option.some.injEq, Sum.inr.injEq, Prod.mk.injEq, Option.toList_some, Option.toList_none, List.cons_append, List.nil_append, Nat.reduceAdd, Nat.reduceLeDiff, Nat.reduceLT, List.set_cons_zero, List.set_cons_succ, eq_self, or_true, true_or, reduceIte, xt_ne, h0, h1, n0, hB1.1, xa_iff cE1, mx_91]
  have fr := xa_fr_tr fr (xa_fr_w f1 (lo2 := a) (hi2 := a + 6) (by omega) (by omega))
  have n0 := (f1.1 a (by omega)).trans n0
  have n2 := (f1.1 (a + 2) (by omega)).trans n2
  have n3 := (f1.1 (a + 3) (by omega)).trans n3
  have n4 := (f1.1 (a + 4) (by omega)).trans n4
  have n5 := (f1.1 (a + 5) (by omega)).trans n5
  have hB2 := xh_S_fr hB0 fr hab.symm
  obtain ⟨⟨z2, M2⟩, cE2, c2, f2, r2⟩ := pc_copyRow hB2.2.2.1 n2 (by decide) (hn)
  have c2 : z2 = none := c2
  subst c2
  dsimp only at f2 r2
  simp (disch := omega) only [↓ra_9_19, ↓ra_9_20, ↓ra_9_23, ↓ra_9_24, ↓ra_9_27, xa_kli, xa_klr, xa_kll, xa_ki, xa_kl, xa_kr, xa_kii, xa_kk, xa_kir, xa_krr, xa_kiir, xa_krir, xa_kdup, xa_kdup2, xa_kcp, xa_gf, xa_pf, xa_ga, xa_pa, xa_gq, xa_pq, xa_gl, xa_args, xa_ri, xa_rz, xa_rv, xa_s1, xa_s2, xa_c1, eq_self, List.getElem?_cons_succ, List.getElem?_cons_zero, true_and, and_true, nI_add, pk_mul, xt_in, xt_cl, xt_i0, xt_i1, xa_kc, xa_w8, xa_fit, lg_sl, List.flatMap_cons, List.flatMap_nil, List.map_cons, List.map_nil, List.sum_cons, List.sum_nil, Value.category, List.length_cons, List.length_nil, List.length_append, xa_rc, xa_rf, exists_eq_left, exists_eq', Option.some.injEq, Sum.inr.injEq, Prod.mk.injEq, Option.toList_some, Option.toList_none, List.cons_append, List.nil_append, Nat.reduceAdd, Nat.reduceLeDiff, Nat.reduceLT, List.set_cons_zero, List.set_cons_succ, eq_self, or_true, true_or, reduceIte, xt_ne, h0, h1, n0, hB2.1, xa_iff cE2, mx_91]
  have fr := xa_fr_tr fr (xa_fr_w f2 (lo2 := a) (hi2 := a + 6) (by omega) (by omega))
  have n0 := (f2.1 a (by omega)).trans n0
  have n3 := (f2.1 (a + 3) (by omega)).trans n3
  have n4 := (f2.1 (a + 4) (by omega)).trans n4
  have n5 := (f2.1 (a + 5) (by omega)).trans n5
  have r1 := xa_ar_fr r1 f2 (by omega)
  have hB3 := xh_S_fr hB0 fr hab.symm
  obtain ⟨⟨z3, M3⟩, cE3, c3, f3, r3⟩ := pc_copyRow hB3.2.2.2.1 n3 (by decide) (hn)
  have c3 : z3 = none := c3
  subst c3
  dsimp only at f3 r3
  simp (disch := omega) only [↓ra_9_30, ↓ra_9_31, ↓ra_9_34, ↓ra_9_35, ↓ra_9_38, xa_kli, xa_klr, xa_kll, xa_ki, xa_kl, xa_kr, xa_kii, xa_kk, xa_kir, xa_krr, xa_kiir, xa_krir, xa_kdup, xa_kdup2, xa_kcp, xa_gf, xa_pf, xa_ga, xa_pa, xa_gq, xa_pq, xa_gl, xa_args, xa_ri, xa_rz, xa_rv, xa_s1, xa_s2, xa_c1, eq_self, List.getElem?_cons_succ, List.getElem?_cons_zero, true_and, and_true, nI_add, pk_mul, xt_in, xt_cl, xt_i0, xt_i1, xa_kc, xa_w8, xa_fit, lg_sl, List.flatMap_cons, List.flatMap_nil, List.map_cons, List.map_nil, List.sum_cons, List.sum_nil, Value.category, List.length_cons, List.length_nil, List.length_append, xa_rc, xa_rf, exists_eq_left, exists_eq', Option.some.injEq, Sum.inr.injEq, Prod.mk.injEq, Option.toList_some, Option.toList_none, List.cons_append, List.nil_append, Nat.reduceAdd, Nat.reduceLeDiff, Nat.reduceLT, List.set_cons_zero, List.set_cons_succ, eq_self, or_true, true_or, reduceIte, xt_ne, h0, h1, n0, hB3.1, xa_iff cE3, mx_91]
  have fr := xa_fr_tr fr (xa_fr_w f3 (lo2 := a) (hi2 := a + 6) (by omega) (by omega))
  have n0 := (f3.1 a (by omega)).trans n0
  have n4 := (f3.1 (a + 4) (by omega)).trans n4
  have n5 := (f3.1 (a + 5) (by omega)).trans n5
  have r1 := xa_ar_fr r1 f3 (by omega)
  have r2 := xa_ar_fr r2 f3 (by omega)
  have hB4 := xh_S_fr hB0 fr hab.symm
  obtain ⟨⟨z4, M4⟩, cE4, c4, f4, r4⟩ := pc_copyRow hB4.2.2.2.2.1 n4 (by decide) (hn)
  have c4 : z4 = none := c4
  subst c4
  dsimp only at f4 r4
  simp (disch := omega) only [↓ra_9_41, ↓ra_9_42, ↓ra_9_45, ↓ra_9_46, ↓ra_9_49, xa_kli, xa_klr, xa_kll, xa_ki, xa_kl, xa_kr, xa_kii, xa_kk, xa_kir, xa_krr, xa_kiir, xa_krir, xa_kdup, xa_kdup2, xa_kcp, xa_gf, xa_pf, xa_ga, xa_pa, xa_gq, xa_pq, xa_gl, xa_args, xa_ri, xa_rz, xa_rv, xa_s1, xa_s2, xa_c1, eq_self, List.getElem?_cons_succ, List.getElem?_cons_zero, true_and, and_true, nI_add, pk_mul, xt_in, xt_cl, xt_i0, xt_i1, xa_kc, xa_w8, xa_fit, lg_sl, List.flatMap_cons, List.flatMap_nil, List.map_cons, List.map_nil, List.sum_cons, List.sum_nil, Value.category, List.length_cons, List.length_nil, List.length_append, xa_rc, xa_rf, exists_eq_left, exists_eq', Option.some.injEq, Sum.inr.injEq, Prod.mk.injEq, Option.toList_some, Option.toList_none, List.cons_append, List.nil_append, Nat.reduceAdd, Nat.reduceLeDiff, Nat.reduceLT, List.set_cons_zero, List.set_cons_succ, eq_self, or_true, true_or, reduceIte, xt_ne, h0, h1, n0, hB4.1, xa_iff cE4, mx_91]
  have fr := xa_fr_tr fr (xa_fr_w f4 (lo2 := a) (hi2 := a + 6) (by omega) (by omega))
  have n0 := (f4.1 a (by omega)).trans n0
  have n5 := (f4.1 (a + 5) (by omega)).trans n5
  have r1 := xa_ar_fr r1 f4 (by omega)
  have r2 := xa_ar_fr r2 f4 (by omega)
  have r3 := xa_ar_fr r3 f4 (by omega)
  have hB5 := xh_S_fr hB0 fr hab.symm
  obtain ⟨⟨z5, M5⟩, cE5, c5, f5, r5⟩ := pc_copyRow hB5.2.2.2.2.2 n5 (by decide) (hm)
  have c5 : z5 = none := c5
  subst c5
  dsimp only at f5 r5
  simp (disch := omega) only [↓ra_9_52, ↓ra_9_53, ↓ra_9_56, ↓ra_9_57, ↓ra_9_60, xa_kli, xa_klr, xa_kll, xa_ki, xa_kl, xa_kr, xa_kii, xa_kk, xa_kir, xa_krr, xa_kiir, xa_krir, xa_kdup, xa_kdup2, xa_kcp, xa_gf, xa_pf, xa_ga, xa_pa, xa_gq, xa_pq, xa_gl, xa_args, xa_ri, xa_rz, xa_rv, xa_s1, xa_s2, xa_c1, eq_self, List.getElem?_cons_succ, List.getElem?_cons_zero, true_and, and_true, nI_add, pk_mul, xt_in, xt_cl, xt_i0, xt_i1, xa_kc, xa_w8, xa_fit, lg_sl, List.flatMap_cons, List.flatMap_nil, List.map_cons, List.map_nil, List.sum_cons, List.sum_nil, Value.category, List.length_cons, List.length_nil, List.length_append, xa_rc, xa_rf, exists_eq_left, exists_eq', Option.some.injEq, Sum.inr.injEq, Prod.mk.injEq, Option.toList_some, Option.toList_none, List.cons_append, List.nil_append, Nat.reduceAdd, Nat.reduceLeDiff, Nat.reduceLT, List.set_cons_zero, List.set_cons_succ, eq_self, or_true, true_or, reduceIte, xt_ne, h0, h1, n0, hB5.1, xa_iff cE5, mx_91]
  have fr := xa_fr_tr fr (xa_fr_w f5 (lo2 := a) (hi2 := a + 6) (by omega) (by omega))
  have n0 := (f5.1 a (by omega)).trans n0
  have r1 := xa_ar_fr r1 f5 (by omega)
  have r2 := xa_ar_fr r2 f5 (by omega)
  have r3 := xa_ar_fr r3 f5 (by omega)
  have r4 := xa_ar_fr r4 f5 (by omega)
  simp (disch := omega) only [↓ra_9_63, xa_kli, xa_klr, xa_kll, xa_ki, xa_kl, xa_kr, xa_kii, xa_kk, xa_kir, xa_krr, xa_kiir, xa_krir, xa_kdup, xa_kdup2, xa_kcp, xa_gf, xa_pf, xa_ga, xa_pa, xa_gq, xa_pq, xa_gl, xa_args, xa_ri, xa_rz, xa_rv, xa_s1, xa_s2, xa_c1, eq_self, List.getElem?_cons_succ, List.getElem?_cons_zero, true_and, and_true, nI_add, pk_mul, xt_in, xt_cl, xt_i0, xt_i1, exists_eq_left]
  exact ⟨fr, n0, r1, r2, r3, r4, r5⟩
/-- what a TEXT tells into another place -/
theorem pc_copyT {M : xa_M} {a b : Nat} {T T0 : xt_T} (hA : xh_T M a T0) (hB : xh_T M b T) (hab : a + 9 ≤ b ∨ b + 9 ≤ a) (hn : xnS T ≤ 6) (hm : xnM T ≤ 6) (hw : xnW T ≤ 6) :
    ∃ z, xa_E 30 0 (xa_ent [.ref a, .ref b]) [] M z ∧ z.1 = none ∧ xa_fr a (a + 9) M z.2 ∧ xh_T z.2 a T := by
  obtain ⟨a0, ⟨g1, a1, -⟩, ⟨g2, a2, -⟩, ⟨g3, a3, -⟩, ⟨g4, a4, -⟩, ⟨g5, a5, -⟩, ⟨g6, a6, -⟩, ⟨g7, a7, -⟩, ⟨g8, a8, -⟩⟩ := hA
  have hB0 := hB
  obtain ⟨b0, -⟩ := hB
  refine xa_ge2 (fun lv h0 h1 => ?_)
  simp (disch := omega) only [↓ra_30_0, ↓ra_30_1, ↓ra_30_2, ↓ra_30_5, ↓ra_30_8, ↓ra_30_9, ↓ra_30_10, ↓ra_30_13, ↓ra_30_16, ↓ra_30_17, ↓ra_30_18, ↓ra_30_21, ↓ra_30_24, ↓ra_30_25, ↓ra_30_26, ↓ra_30_29, ↓ra_30_32, ↓ra_30_33, ↓ra_30_34, ↓ra_30_37, ↓ra_30_40, ↓ra_30_41, ↓ra_30_42, ↓ra_30_45, xa_kli, xa_klr, xa_kll, xa_ki, xa_kl, xa_kr, xa_kii, xa_kk, xa_kir, xa_krr, xa_kiir, xa_krir, xa_kdup, xa_kdup2, xa_kcp, xa_gf, xa_pf, xa_ga, xa_pa, xa_gq, xa_pq, xa_gl, xa_args, xa_ri, xa_rz, xa_rv, xa_s1, xa_s2, xa_c1, eq_self, List.getElem?_cons_succ, List.getElem?_cons_zero, true_and, and_true, nI_add, pk_mul, xt_in, xt_cl, xt_i0, xt_i1, h0, h1, a0, b0, xt_st, xt_ne, reduceIte, List.set_cons_zero, List.set_cons_succ, List.length_cons, List.length_nil, Nat.zero_lt_succ, Nat.reduceAdd, Nat.reduceLT]
  generalize hM0 : xa_st (xa_st (xa_st (xa_st (xa_st (xa_st M a _) a _) a _) a _) a _) a _ = M0
  have fr : xa_fr a (a + 9) M M0 := by rw [← hM0]; exact xa_fr_tr (xa_fr_tr (xa_fr_tr (xa_fr_tr (xa_fr_tr (xa_fr_st (by omega) (by omega)) (xa_fr_st (by omega) (by omega))) (xa_fr_st (by omega) (by omega))) (xa_fr_st (by omega) (by omega))) (xa_fr_st (by omega) (by omega))) (xa_fr_st (by omega) (by omega))
  have n0 : M0.1 a = some (.inr (4, [.int (nI (xN T)), .int (nI (xC T)), .int (nI (xG T)), .int (nI (xnS T)), .ref (a + 1), .ref (a + 2), .ref (a + 3), .int (nI (xnM T)), .ref (a + 4), .ref (a + 5), .ref (a + 6), .int (nI (xnW T)), .ref (a + 7), .ref (a + 8)])) := by rw [← hM0]; exact xa_st_eq
  have n1 : M0.1 (a + 1) = some (.inl (0, 6, .inl g1)) := by rw [← hM0]; exact (xa_st_ne (by omega)).trans ((xa_st_ne (by omega)).trans ((xa_st_ne (by omega)).trans ((xa_st_ne (by omega)).trans ((xa_st_ne (by omega)).trans ((xa_st_ne (by omega)).trans a1)))))
  have n2 : M0.1 (a + 2) = some (.inl (0, 6, .inl g2)) := by rw [← hM0]; exact (xa_st_ne (by omega)).trans ((xa_st_ne (by omega)).trans ((xa_st_ne (by omega)).trans ((xa_st_ne (by omega)).trans ((xa_st_ne (by omega)).trans ((xa_st_ne (by omega)).trans a2)))))
  have n3 : M0.1 (a + 3) = some (.inl (0, 6, .inl g3)) := by rw [← hM0]; exact (xa_st_ne (by omega)).trans ((xa_st_ne (by omega)).trans ((xa_st_ne (by omega)).trans ((xa_st_ne (by omega)).trans ((xa_st_ne (by omega)).trans ((xa_st_ne (by omega)).trans a3)))))
  have n4 : M0.1 (a + 4) = some (.inl (0, 6, .inl g4)) := by rw [← hM0]; exact (xa_st_ne (by omega)).trans ((xa_st_ne (by omega)).trans ((xa_st_ne (by omega)).trans ((xa_st_ne (by omega)).trans ((xa_st_ne (by omega)).trans ((xa_st_ne (by omega)).trans a4)))))
  have n5 : M0.1 (a + 5) = some (.inl (0, 6, .inl g5)) := by rw [← hM0]; exact (xa_st_ne (by omega)).trans ((xa_st_ne (by omega)).trans ((xa_st_ne (by omega)).trans ((xa_st_ne (by omega)).trans ((xa_st_ne (by omega)).trans ((xa_st_ne (by omega)).trans a5)))))
  have n6 : M0.1 (a + 6) = some (.inl (0, 6, .inl g6)) := by rw [← hM0]; exact (xa_st_ne (by omega)).trans ((xa_st_ne (by omega)).trans ((xa_st_ne (by omega)).trans ((xa_st_ne (by omega)).trans ((xa_st_ne (by omega)).trans ((xa_st_ne (by omega)).trans a6)))))
  have n7 : M0.1 (a + 7) = some (.inl (0, 6, .inl g7)) := by rw [← hM0]; exact (xa_st_ne (by omega)).trans ((xa_st_ne (by omega)).trans ((xa_st_ne (by omega)).trans ((xa_st_ne (by omega)).trans ((xa_st_ne (by omega)).trans ((xa_st_ne (by omega)).trans a7)))))
  have n8 : M0.1 (a + 8) = some (.inl (0, 6, .inl g8)) := by rw [← hM0]; exact (xa_st_ne (by omega)).trans ((xa_st_ne (by omega)).trans ((xa_st_ne (by omega)).trans ((xa_st_ne (by omega)).trans ((xa_st_ne (by omega)).trans ((xa_st_ne (by omega)).trans a8)))))
  have hB1 := xh_T_fr hB0 fr hab.symm
  obtain ⟨⟨z1, M1⟩, cE1, c1, f1, r1⟩ := pc_copyRow hB1.2.1 n1 (by decide) (hn)
  have c1 : z1 = none := c1
  subst c1
  dsimp only at f1 r1
  simp (disch := omega) only [↓ra_30_48, ↓ra_30_49, ↓ra_30_52, ↓ra_30_53, ↓ra_30_56, xa_kli, xa_klr, xa_kll, xa_ki, xa_kl, xa_kr, xa_kii, xa_kk, xa_kir, xa_krr, xa_kiir, xa_krir, xa_kdup, xa_kdup2, xa_kcp, xa_gf, xa_pf, xa_ga, xa_pa, xa_gq, xa_pq, xa_gl, xa_args, xa_ri, xa_rz, xa_rv, xa_s1, xa_s2, xa_c1, eq_self, List.getElem?_cons_succ, List.getElem?_cons_zero, true_and, and_true, nI_add, pk_mul, xt_in, xt_cl, xt_i0, xt_i1, xa_kc, xa_w8, xa_fit, lg_sl, List.flatMap_cons, List.flatMap_nil, List.map_cons, List.map_nil, List.sum_cons, List.sum_nil, Value.category, List.length_cons, List.length_nil, List.length_append, xa_rc, xa_rf, exists_eq_left, exists_eq', Option.some.injEq, Sum.inr.injEq, Prod.mk.injEq, Option.toList_some, Option.toList_none, List.cons_append, List.nil_append, Nat.reduceAdd, Nat.reduceLeDiff, Nat.reduceLT, List.set_cons_zero, List.set_cons_succ, eq_self, or_true, true_or, reduceIte, xt_ne, h0, h1, n0, hB1.1, xa_iff cE1, mx_91]
  have fr := xa_fr_tr fr (xa_fr_w f1 (lo2 := a) (hi2 := a + 9) (by omega) (by omega))
  have n0 := (f1.1 a (by omega)).trans n0
  have n2 := (f1.1 (a + 2) (by omega)).trans n2
  have n3 := (f1.1 (a + 3) (by omega)).trans n3
  have n4 := (f1.1 (a + 4) (by omega)).trans n4
  have n5 := (f1.1 (a + 5) (by omega)).trans n5
  have n6 := (f1.1 (a + 6) (by omega)).trans n6
  have n7 := (f1.1 (a + 7) (by omega)).trans n7
  have n8 := (f1.1 (a + 8) (by omega)).trans n8
  have hB2 := xh_T_fr hB0 fr hab.symm
  obtain ⟨⟨z2, M2⟩, cE2, c2, f2, r2⟩ := pc_copyRow hB2.2.2.1 n2 (by decide) (hn)
  have c2 : z2 = none := c2
  subst c2
  dsimp only at f2 r2
  simp (disch := omega) only [↓ra_30_59, ↓ra_30_60, ↓ra_30_63, ↓ra_30_64, ↓ra_30_67, xa_kli, xa_klr, xa_kll, xa_ki, xa_kl, xa_kr, xa_kii, xa_kk, xa_kir, xa_krr, xa_kiir, xa_krir, xa_kdup, xa_kdup2, xa_kcp, xa_gf, xa_pf, xa_ga, xa_pa, xa_gq, xa_pq, xa_gl, xa_args, xa_ri, xa_rz, xa_rv, xa_s1, xa_s2, xa_c1, eq_self, List.getElem?_cons_succ, List.getElem?_cons_zero, true_and, and_true, nI_add, pk_mul, xt_in, xt_cl, xt_i0, xt_i1, xa_kc, xa_w8, xa_fit, lg_sl, List.flatMap_cons, List.flatMap_nil, List.map_cons, List.map_nil, List.sum_cons, List.sum_nil, Value.category, List.length_cons, List.length_nil, List.length_append, xa_rc, xa_rf, exists_eq_left, exists_eq', Option.some.injEq, Sum.inr.injEq, Prod.mk.injEq, Option.toList_some, Option.toList_none, List.cons_append, List.nil_append, Nat.reduceAdd, Nat.reduceLeDiff, Nat.reduceLT, List.set_cons_zero, List.set_cons_succ, eq_self, or_true, true_or, reduceIte, xt_ne, h0, h1, n0, hB2.1, xa_iff cE2, mx_91]
  have fr := xa_fr_tr fr (xa_fr_w f2 (lo2 := a) (hi2 := a + 9) (by omega) (by omega))
  have n0 := (f2.1 a (by omega)).trans n0
  have n3 := (f2.1 (a + 3) (by omega)).trans n3
  have n4 := (f2.1 (a + 4) (by omega)).trans n4
  have n5 := (f2.1 (a + 5) (by omega)).trans n5
  have n6 := (f2.1 (a + 6) (by omega)).trans n6
  have n7 := (f2.1 (a + 7) (by omega)).trans n7
  have n8 := (f2.1 (a + 8) (by omega)).trans n8
  have r1 := xa_ar_fr r1 f2 (by omega)
  have hB3 := xh_T_fr hB0 fr hab.symm
  obtain ⟨⟨z3, M3⟩, cE3, c3, f3, r3⟩ := pc_copyRow hB3.2.2.2.1 n3 (by decide) (hn)
  have c3 : z3 = none := c3
  subst c3
  dsimp only at f3 r3
  simp (disch := omega) only [↓ra_30_70, ↓ra_30_71, ↓ra_30_74, ↓ra_30_75, ↓ra_30_78, xa_kli, xa_klr, xa_kll, xa_ki, xa_kl, xa_kr, xa_kii, xa_kk, xa_kir, xa_krr, xa_kiir, xa_krir, xa_kdup, xa_kdup2, xa_kcp, xa_gf, xa_pf, xa_ga, xa_pa, xa_gq, xa_pq, xa_gl, xa_args, xa_ri, xa_rz, xa_rv, xa_s1, xa_s2, xa_c1, eq_self, List.getElem?_cons_succ, List.getElem?_cons_zero, true_and, and_true, nI_add, pk_mul, xt_in, xt_cl, xt_i0, xt_i1, xa_kc, xa_w8, xa_fit, lg_sl, List.flatMap_cons, List.flatMap_nil, List.map_cons, List.map_nil, List.sum_cons, List.sum_nil, Value.category, List.length_cons, List.length_nil, List.length_append, xa_rc, xa_rf, exists_eq_left, exists_eq', Option.some.injEq, Sum.inr.injEq, Prod.mk.injEq, Option.toList_some, Option.toList_none, List.cons_append, List.nil_append, Nat.reduceAdd, Nat.reduceLeDiff, Nat.reduceLT, List.set_cons_zero, List.set_cons_succ, eq_self, or_true, true_or, reduceIte, xt_ne, h0, h1, n0, hB3.1, xa_iff cE3, mx_91]
  have fr := xa_fr_tr fr (xa_fr_w f3 (lo2 := a) (hi2 := a + 9) (by omega) (by omega))
  have n0 := (f3.1 a (by omega)).trans n0
  have n4 := (f3.1 (a + 4) (by omega)).trans n4
  have n5 := (f3.1 (a + 5) (by omega)).trans n5
  have n6 := (f3.1 (a + 6) (by omega)).trans n6
  have n7 := (f3.1 (a + 7) (by omega)).trans n7
  have n8 := (f3.1 (a + 8) (by omega)).trans n8
  have r1 := xa_ar_fr r1 f3 (by omega)
  have r2 := xa_ar_fr r2 f3 (by omega)
  have hB4 := xh_T_fr hB0 fr hab.symm
  obtain ⟨⟨z4, M4⟩, cE4, c4, f4, r4⟩ := pc_copyRow hB4.2.2.2.2.1 n4 (by decide) (hm)
  have c4 : z4 = none := c4
  subst c4
  dsimp only at f4 r4
  simp (disch := omega) only [↓ra_30_81, ↓ra_30_82, ↓ra_30_85, ↓ra_30_86, ↓ra_30_89, xa_kli, xa_klr, xa_kll, xa_ki, xa_kl, xa_kr, xa_kii, xa_kk, xa_kir, xa_krr, xa_kiir, xa_krir, xa_kdup, xa_kdup2, xa_kcp, xa_gf, xa_pf, xa_ga, xa_pa, xa_gq, xa_pq, xa_gl, xa_args, xa_ri, xa_rz, xa_rv, xa_s1, xa_s2, xa_c1, eq_self, List.getElem?_cons_succ, List.getElem?_cons_zero, true_and, and_true, nI_add, pk_mul, xt_in, xt_cl, xt_i0, xt_i1, xa_kc, xa_w8, xa_fit, lg_sl, List.flatMap_cons, List.flatMap_nil, List.map_cons, List.map_nil, List.sum_cons, List.sum_nil, Value.category, List.length_cons, List.length_nil, List.length_append, xa_rc, xa_rf, exists_eq_left, exists_eq', Option.some.injEq, Sum.inr.injEq, Prod.mk.injEq, Option.toList_some, Option.toList_none, List.cons_append, List.nil_append, Nat.reduceAdd, Nat.reduceLeDiff, Nat.reduceLT, List.set_cons_zero, List.set_cons_succ, eq_self, or_true, true_or, reduceIte, xt_ne, h0, h1, n0, hB4.1, xa_iff cE4, mx_91]
  have fr := xa_fr_tr fr (xa_fr_w f4 (lo2 := a) (hi2 := a + 9) (by omega) (by omega))
  have n0 := (f4.1 a (by omega)).trans n0
  have n5 := (f4.1 (a + 5) (by omega)).trans n5
  have n6 := (f4.1 (a + 6) (by omega)).trans n6
  have n7 := (f4.1 (a + 7) (by omega)).trans n7
  have n8 := (f4.1 (a + 8) (by omega)).trans n8
  have r1 := xa_ar_fr r1 f4 (by omega)
  have r2 := xa_ar_fr r2 f4 (by omega)
  have r3 := xa_ar_fr r3 f4 (by omega)
  have hB5 := xh_T_fr hB0 fr hab.symm
  obtain ⟨⟨z5, M5⟩, cE5, c5, f5, r5⟩ := pc_copyRow hB5.2.2.2.2.2.1 n5 (by decide) (hm)
  have c5 : z5 = none := c5
  subst c5
  dsimp only at f5 r5
  simp (disch := omega) only [↓ra_30_92, ↓ra_30_93, ↓ra_30_96, ↓ra_30_97, ↓ra_30_100, xa_kli, xa_klr, xa_kll, xa_ki, xa_kl, xa_kr, xa_kii, xa_kk, xa_kir, xa_krr, xa_kiir, xa_krir, xa_kdup, xa_kdup2, xa_kcp, xa_gf, xa_pf, xa_ga, xa_pa, xa_gq, xa_pq, xa_gl, xa_args, xa_ri, xa_rz, xa_rv, xa_s1, xa_s2, xa_c1, eq_self, List.getElem?_cons_succ, List.getElem?_cons_zero, true_and, and_true, nI_add, pk_mul, xt_in, xt_cl, xt_i0, xt_i1, xa_kc, xa_w8, xa_fit, lg_sl, List.flatMap_cons, List.flatMap_nil, List.map_cons, List.map_nil, List.sum_cons, List.sum_nil, Value.category, List.length_cons, List.length_nil, List.length_append, xa_rc, xa_rf, exists_eq_left, exists_eq', Option.some.injEq, Sum.inr.injEq, Prod.mk.injEq, Option.toList_some, Option.toList_none, List.cons_append, List.nil_append, Nat.reduceAdd, Nat.reduceLeDiff, Nat.reduceLT, List.set_cons_zero, List.set_cons_succ, eq_self, or_true, true_or, reduceIte, xt_ne, h0, h1, n0, hB5.1, xa_iff cE5, mx_91]
  have fr := xa_fr_tr fr (xa_fr_w f5 (lo2 := a) (hi2 := a + 9) (by omega) (by omega))
  have n0 := (f5.1 a (by omega)).trans n0
  have n6 := (f5.1 (a + 6) (by omega)).trans n6
  have n7 := (f5.1 (a + 7) (by omega)).trans n7
  have n8 := (f5.1 (a + 8) (by omega)).trans n8
  have r1 := xa_ar_fr r1 f5 (by omega)
  have r2 := xa_ar_fr r2 f5 (by omega)
  have r3 := xa_ar_fr r3 f5 (by omega)
  have r4 := xa_ar_fr r4 f5 (by omega)
  have hB6 := xh_T_fr hB0 fr hab.symm
  obtain ⟨⟨z6, M6⟩, cE6, c6, f6, r6⟩ := pc_copyRow hB6.2.2.2.2.2.2.1 n6 (by decide) (hm)
  have c6 : z6 = none := c6
  subst c6
  dsimp only at f6 r6
  simp (disch := omega) only [↓ra_30_103, ↓ra_30_104, ↓ra_30_107, ↓ra_30_108, ↓ra_30_111, xa_kli, xa_klr, xa_kll, xa_ki, xa_kl, xa_kr, xa_kii, xa_kk, xa_kir, xa_krr, xa_kiir, xa_krir, xa_kdup, xa_kdup2, xa_kcp, xa_gf, xa_pf, xa_ga, xa_pa, xa_gq, xa_pq, xa_gl, xa_args, xa_ri, xa_rz, xa_rv, xa_s1, xa_s2, xa_c1, eq_self, List.getElem?_cons_succ, List.getElem?_cons_zero, true_and, and_true, nI_add, pk_mul, xt_in, xt_cl, xt_i0, xt_i1, xa_kc, xa_w8, xa_fit, lg_sl, List.flatMap_cons, List.flatMap_nil, List.map_cons, List.map_nil, List.sum_cons, List.sum_nil, Value.category, List.length_cons, List.length_nil, List.length_append, xa_rc, xa_rf, exists_eq_left, exists_eq', Option.some.injEq, Sum.inr.injEq, Prod.mk.injEq, Option.toList_some, Option.toList_none, List.cons_append, List.nil_append, Nat.reduceAdd, Nat.reduceLeDiff, Nat.reduceLT, List.set_cons_zero, List.set_cons_succ, eq_self, or_true, true_or, reduceIte, xt_ne, h0, h1, n0, hB6.1, xa_iff cE6, mx_91]
  have fr := xa_fr_tr fr (xa_fr_w f6 (lo2 := a) (hi2 := a + 9) (by omega) (by omega))
  have n0 := (f6.1 a (by omega)).trans n0
  have n7 := (f6.1 (a + 7) (by omega)).trans n7
  have n8 := (f6.1 (a + 8) (by omega)).trans n8
  have r1 := xa_ar_fr r1 f6 (by omega)
  have r2 := xa_ar_fr r2 f6 (by omega)
  have r3 := xa_ar_fr r3 f6 (by omega)
  have r4 := xa_ar_fr r4 f6 (by omega)
  have r5 := xa_ar_fr r5 f6 (by omega)
  have hB7 := xh_T_fr hB0 fr hab.symm
  obtain ⟨⟨z7, M7⟩, cE7, c7, f7, r7⟩ := pc_copyRow hB7.2.2.2.2.2.2.2.1 n7 (by decide) (hw)
  have c7 : z7 = none := c7
  subst c7
  dsimp only at f7 r7
  simp (disch := omega) only [↓ra_30_114, ↓ra_30_115, ↓ra_30_118, ↓ra_30_119, ↓ra_30_122, xa_kli, xa_klr, xa_kll, xa_ki, xa_kl, xa_kr, xa_kii, xa_kk, xa_kir, xa_krr, xa_kiir, xa_krir, xa_kdup, xa_kdup2, xa_kcp, xa_gf, xa_pf, xa_ga, xa_pa, xa_gq, xa_pq, xa_gl, xa_args, xa_ri, xa_rz, xa_rv, xa_s1, xa_s2, xa_c1, eq_self, List.getElem?_cons_succ, List.getElem?_cons_zero, true_and, and_true, nI_add, pk_mul, xt_in, xt_cl, xt_i0, xt_i1, xa_kc, xa_w8, xa_fit, lg_sl, List.flatMap_cons, List.flatMap_nil, List.map_cons, List.map_nil, List.sum_cons, List.sum_nil, Value.category, List.length_cons, List.length_nil, List.length_append, xa_rc, xa_rf, exists_eq_left, exists_eq', Option.some.injEq, Sum.inr.injEq, Prod.mk.injEq, Option.toList_some, Option.toList_none, List.cons_append, List.nil_append, Nat.reduceAdd, Nat.reduceLeDiff, Nat.reduceLT, List.set_cons_zero, List.set_cons_succ, eq_self, or_true, true_or, reduceIte, xt_ne, h0, h1, n0, hB7.1, xa_iff cE7, mx_91]
  have fr := xa_fr_tr fr (xa_fr_w f7 (lo2 := a) (hi2 := a + 9) (by omega) (by omega))
  have n0 := (f7.1 a (by omega)).trans n0
  have n8 := (f7.1 (a + 8) (by omega)).trans n8
  have r1 := xa_ar_fr r1 f7 (by omega)
  have r2 := xa_ar_fr r2 f7 (by omega)
  have r3 := xa_ar_fr r3 f7 (by omega)
  have r4 := xa_ar_fr r4 f7 (by omega)
  have r5 := xa_ar_fr r5 f7 (by omega)
  have r6 := xa_ar_fr r6 f7 (by omega)
  have hB8 := xh_T_fr hB0 fr hab.symm
  obtain ⟨⟨z8, M8⟩, cE8, c8, f8, r8⟩ := pc_copyRow hB8.2.2.2.2.2.2.2.2 n8 (by decide) (hw)
  have c8 : z8 = none := c8
  subst c8
  dsimp only at f8 r8
  simp (disch := omega) only [↓ra_30_125, ↓ra_30_126, ↓ra_30_129, ↓ra_30_130, ↓ra_30_133, xa_kli, xa_klr, xa_kll, xa_ki, xa_kl, xa_kr, xa_kii, xa_kk, xa_kir, xa_krr, xa_kiir, xa_krir, xa_kdup, xa_kdup2, xa_kcp, xa_gf, xa_pf, xa_ga, xa_pa, xa_gq, xa_pq, xa_gl, xa_args, xa_ri, xa_rz, xa_rv, xa_s1, xa_s2, xa_c1, eq_self, List.getElem?_cons_succ, List.getElem?_cons_zero, true_and, and_true, nI_add, pk_mul, xt_in, xt_cl, xt_i0, xt_i1, xa_kc, xa_w8, xa_fit, lg_sl, List.flatMap_cons, List.flatMap_nil, List.map_cons, List.map_nil, List.sum_cons, List.sum_nil, Value.category, List.length_cons, List.length_nil, List.length_append, xa_rc, xa_rf, exists_eq_left, exists_eq', Option.some.injEq, Sum.inr.injEq, Prod.mk.injEq, Option.toList_some, Option.toList_none, List.cons_append, List.nil_append, Nat.reduceAdd, Nat.reduceLeDiff, Nat.reduceLT, List.set_cons_zero, List.set_cons_succ, eq_self, or_true, true_or, reduceIte, xt_ne, h0, h1, n0, hB8.1, xa_iff cE8, mx_91]
  have fr := xa_fr_tr fr (xa_fr_w f8 (lo2 := a) (hi2 := a + 9) (by omega) (by omega))
  have n0 := (f8.1 a (by omega)).trans n0
  have r1 := xa_ar_fr r1 f8 (by omega)
  have r2 := xa_ar_fr r2 f8 (by omega)
  have r3 := xa_ar_fr r3 f8 (by omega)
  have r4 := xa_ar_fr r4 f8 (by omega)
  have r5 := xa_ar_fr r5 f8 (by omega)
  have r6 := xa_ar_fr r6 f8 (by omega)
  have r7 := xa_ar_fr r7 f8 (by omega)
  simp (disch := omega) only [↓ra_30_136, xa_kli, xa_klr, xa_kll, xa_ki, xa_kl, xa_kr, xa_kii, xa_kk, xa_kir, xa_krr, xa_kiir, xa_krir, xa_kdup, xa_kdup2, xa_kcp, xa_gf, xa_pf, xa_ga, xa_pa, xa_gq, xa_pq, xa_gl, xa_args, xa_ri, xa_rz, xa_rv, xa_s1, xa_s2, xa_c1, eq_self, List.getElem?_cons_succ, List.getElem?_cons_zero, true_and, and_true, nI_add, pk_mul, xt_in, xt_cl, xt_i0, xt_i1, exists_eq_left]
  exact ⟨fr, n0, r1, r2, r3, r4, r5, r6, r7, r8⟩
