theorem xa_ar_pz {M : xa_M} {a n k : Nat} {g : Nat → Int32} (hg : ∀ j, j < k → g j = nI 0) : xa_ar (xa_st M a (.inl (0, n, .inl (upd g k (nI 0))))) a n (k + 1) (fun _ => 0) :=
  xa_ar_cg (xa_ar_ps (f := fun _ => 0) hg) (fun j _ => by split <;> rfl)
/-- how things stand on the first day -/
def xq_b (T : xt_T) : xt_S := (0, fun _ => 0, xth T, fun _ => 0, fun _ => 0, xtp T)
theorem pc_begin {M : xa_M} {k t : Nat} {S0 : xt_S} {T : xt_T} (hS : xh_S M k 0 0 S0) (hT : xh_T M t T) (ht : t + 9 ≤ k ∨ k + 6 ≤ t) (hn : xnS T ≤ 6) (hm : xnM T ≤ 6) :
    ∃ z, xa_E 8 0 (xa_ent [.ref k, .ref t]) [] M z ∧ z.1 = none ∧ xa_fr k (k + 6) M z.2 ∧ xh_S z.2 k (xnS T) (xnM T) (xq_b T) := by
  obtain ⟨s0, ⟨g1, s1, -⟩, ⟨g2, s2, -⟩, ⟨g3, s3, -⟩, ⟨g4, s4, -⟩, ⟨g5, s5, -⟩⟩ := hS
  refine xa_ge2 (fun lv h0 h1 => ?_)
  have loop : ∀ (n i : Nat) (lv : xa_L) (M1 : xa_M), lv 0 = some (.ref k) → lv 1 = some (.ref t) → lv 2 = some (.int (nI i)) → i + n = 6 → xa_fr k (k + 6) M M1 → M1.1 k = some (.inr (2, [.int (nI 0), .ref (k + 1), .ref (k + 2), .ref (k + 3), .ref (k + 4), .ref (k + 5)])) → xa_ar M1 (k + 1) 6 i (fun _ => 0) → xa_ar M1 (k + 3) 6 i (fun _ => 0) → xa_ar M1 (k + 4) 6 i (fun _ => 0) → M1.1 (k + 2) = some (.inl (0, 6, .inl g2)) → M1.1 (k + 5) = some (.inl (0, 6, .inl g5)) → ∃ z, xa_E 8 7 lv [] M1 z ∧ z.1 = none ∧ xa_fr k (k + 6) M z.2 ∧ xh_S z.2 k (xnS T) (xnM T) (xq_b T) := by
    intro n
    induction n with
    | zero =>
      intro i lv M1 h0 h1 h2 e fr m0 m1 m3 m4 m2 m5
      have e : i = 6 := by omega
      subst e
      have hT1 := xh_T_fr hT fr ht
      obtain ⟨⟨z1, M2⟩, cE1, c1, f1, r1⟩ := pc_copyRow hT1.2.2.2.1 m2 (by decide) hn
      have c1 : z1 = none := c1
      subst c1
      dsimp only at f1 r1
      have fr2 := xa_fr_tr fr (xa_fr_w f1 (lo2 := k) (hi2 := k + 6) (by omega) (by omega))
      have hT2 := xh_T_fr hT fr2 ht
      have n5 := (f1.1 (k + 5) (by omega)).trans m5
      have n0 := (f1.1 k (by omega)).trans m0
      obtain ⟨⟨z2, M3⟩, cE2, c2, f2, r2⟩ := pc_copyRow hT2.2.2.2.2.2.1 n5 (by decide) hm
      have c2 : z2 = none := c2
      subst c2
      dsimp only at f2 r2
      simp (disch := omega) only [↓ra_8_7, ↓ra_8_8, ↓ra_8_10, ↓ra_8_40, ↓ra_8_41, ↓ra_8_44, ↓ra_8_45, ↓ra_8_48, ↓ra_8_51, ↓ra_8_52, ↓ra_8_55, ↓ra_8_56, ↓ra_8_59, ↓ra_8_62, xa_kli, xa_klr, xa_kll, xa_ki, xa_kl, xa_kr, xa_kii, xa_kk, xa_kir, xa_krr, xa_kiir, xa_krir, xa_kdup, xa_kdup2, xa_kcp, xa_gf, xa_pf, xa_ga, xa_pa, xa_gq, xa_pq, xa_gl, xa_args, xa_ri, xa_rz, xa_rv, xa_s1, xa_s2, xa_c1, eq_self, List.getElem?_cons_succ, List.getElem?_cons_zero, true_and, and_true, nI_add, pk_mul, xt_in, xt_cl, xt_i0, xt_i1, xa_kc, xa_w8, xa_fit, lg_sl, List.flatMap_cons, List.flatMap_nil, List.map_cons, List.map_nil, List.sum_cons, List.sum_nil, Value.category, List.length_cons, List.length_nil, List.length_append, xa_rc, xa_rf, exists_eq_left, exists_eq', Option.some.injEq, Sum.inr.injEq, Prod.mk.injEq, Option.toList_some, Option.toList_none, List.cons_append, List.nil_append, Nat.reduceAdd, Nat.reduceLeDiff, Nat.reduceLT, List.set_cons_zero, List.set_cons_succ, eq_self, or_true, true_or, reduceIte, xt_ne, h0, h1, h2, m0, n0, hT1.1, hT2.1, xt_le, Nat.le_refl, xa_iff cE1, xa_iff cE2, mx_91, exists_eq_left]
      exact ⟨xa_fr_tr fr2 (xa_fr_w f2 (by omega) (by omega)), (f2.1 k (by omega)).trans n0, xa_ar_mono (xa_ar_fr (xa_ar_fr m1 f1 (by omega)) f2 (by omega)) hn, xa_ar_fr r1 f2 (by omega), xa_ar_mono (xa_ar_fr (xa_ar_fr m3 f1 (by omega)) f2 (by omega)) hn, xa_ar_mono (xa_ar_fr (xa_ar_fr m4 f1 (by omega)) f2 (by omega)) hn, r2⟩
    | succ n ih =>
      intro i lv M1 h0 h1 h2 e fr m0 m1 m3 m4 m2 m5
      obtain ⟨a1, m1, e1⟩ := m1
      obtain ⟨a3, m3, e3⟩ := m3
      obtain ⟨a4, m4, e4⟩ := m4
      simp (disch := omega) only [↓ra_8_7, ↓ra_8_8, ↓ra_8_10, xa_kli, xa_klr, xa_kll, xa_ki, xa_kl, xa_kr, xa_kii, xa_kk, xa_kir, xa_krr, xa_kiir, xa_krir, xa_kdup, xa_kdup2, xa_kcp, xa_gf, xa_pf, xa_ga, xa_pa, xa_gq, xa_pq, xa_gl, xa_args, xa_ri, xa_rz, xa_rv, xa_s1, xa_s2, xa_c1, eq_self, List.getElem?_cons_succ, List.getElem?_cons_zero, true_and, and_true, nI_add, pk_mul, xt_in, xt_cl, xt_i0, xt_i1, h0, h1, h2, xt_le]
      simp only [if_neg (show ¬ 6 ≤ i by omega)]
      simp (disch := omega) only [↓ra_8_13, ↓ra_8_14, ↓ra_8_17, ↓ra_8_18, ↓ra_8_19, ↓ra_8_20, ↓ra_8_21, ↓ra_8_24, ↓ra_8_25, ↓ra_8_26, ↓ra_8_27, ↓ra_8_28, ↓ra_8_31, ↓ra_8_32, ↓ra_8_33, ↓ra_8_34, ↓ra_8_37, xa_kli, xa_klr, xa_kll, xa_ki, xa_kl, xa_kr, xa_kii, xa_kk, xa_kir, xa_krr, xa_kiir, xa_krir, xa_kdup, xa_kdup2, xa_kcp, xa_gf, xa_pf, xa_ga, xa_pa, xa_gq, xa_pq, xa_gl, xa_args, xa_ri, xa_rz, xa_rv, xa_s1, xa_s2, xa_c1, eq_self, List.getElem?_cons_succ, List.getElem?_cons_zero, true_and, and_true, nI_add, pk_mul, xt_in, xt_cl, xt_i0, xt_i1, xa_kc, xa_w8, xa_fit, lg_sl, List.flatMap_cons, List.flatMap_nil, List.map_cons, List.map_nil, List.sum_cons, List.sum_nil, Value.category, List.length_cons, List.length_nil, List.length_append, xa_rc, xa_rf, exists_eq_left, exists_eq', Option.some.injEq, Sum.inr.injEq, Prod.mk.injEq, Option.toList_some, Option.toList_none, List.cons_append, List.nil_append, Nat.reduceAdd, Nat.reduceLeDiff, Nat.reduceLT, List.set_cons_zero, List.set_cons_succ, eq_self, or_true, true_or, reduceIte, xt_ne, h0, h1, h2, m0, m1, m3, m4, xt_st]
      refine ih (i + 1) _ _ (by simp [xa_s1, h0]) (by simp [xa_s1, xa_c1, h1]) (by simp [xa_s1]) (by omega) (xa_fr_tr (xa_fr_tr (xa_fr_tr fr (xa_fr_st (by omega) (by omega))) (xa_fr_st (by omega) (by omega))) (xa_fr_st (by omega) (by omega))) ?_ ?_ ?_ ?_ ?_ ?_
      · exact (xa_st_ne (by omega)).trans ((xa_st_ne (by omega)).trans ((xa_st_ne (by omega)).trans m0))
      · exact xa_ar_ne (xa_ar_ne (xa_ar_pz e1) (by omega)) (by omega)
      · exact xa_ar_ne (xa_ar_pz e3) (by omega)
      · exact xa_ar_pz e4
      · exact (xa_st_ne (by omega)).trans ((xa_st_ne (by omega)).trans ((xa_st_ne (by omega)).trans m2))
      · exact (xa_st_ne (by omega)).trans ((xa_st_ne (by omega)).trans ((xa_st_ne (by omega)).trans m5))
  simp (disch := omega) only [↓ra_8_0, ↓ra_8_1, ↓ra_8_2, ↓ra_8_5, ↓ra_8_6, xa_kli, xa_klr, xa_kll, xa_ki, xa_kl, xa_kr, xa_kii, xa_kk, xa_kir, xa_krr, xa_kiir, xa_krir, xa_kdup, xa_kdup2, xa_kcp, xa_gf, xa_pf, xa_ga, xa_pa, xa_gq, xa_pq, xa_gl, xa_args, xa_ri, xa_rz, xa_rv, xa_s1, xa_s2, xa_c1, eq_self, List.getElem?_cons_succ, List.getElem?_cons_zero, true_and, and_true, nI_add, pk_mul, xt_in, xt_cl, xt_i0, xt_i1, xa_kc, xa_w8, xa_fit, lg_sl, List.flatMap_cons, List.flatMap_nil, List.map_cons, List.map_nil, List.sum_cons, List.sum_nil, Value.category, List.length_cons, List.length_nil, List.length_append, xa_rc, xa_rf, exists_eq_left, exists_eq', Option.some.injEq, Sum.inr.injEq, Prod.mk.injEq, Option.toList_some, Option.toList_none, List.cons_append, List.nil_append, Nat.reduceAdd, Nat.reduceLeDiff, Nat.reduceLT, List.set_cons_zero, List.set_cons_succ, eq_self, or_true, true_or, reduceIte, xt_ne, h0, h1, s0]
  refine loop 6 0 _ _ (by simp [xa_s1, h0]) (by simp [xa_s1, xa_c1, h1]) (by simp [xa_s1]) (by omega) (xa_fr_st (by omega) (by omega)) xa_st_eq ⟨g1, (xa_st_ne (by omega)).trans s1, fun _ h => by omega⟩ ⟨g3, (xa_st_ne (by omega)).trans s3, fun _ h => by omega⟩ ⟨g4, (xa_st_ne (by omega)).trans s4, fun _ h => by omega⟩ ((xa_st_ne (by omega)).trans s2) ((xa_st_ne (by omega)).trans s5)
/-- before any item -/
def xq_T0 : xt_T := ((20, 4, 0, 0, 0, 0), fun _ => 0, fun _ => 0, fun _ => 0, fun _ => 0, fun _ => 0, fun _ => 0, fun _ => 0, fun _ => 0)
theorem xh_Tc {M M1 : xa_M} {t : Nat} {T T1 : xt_T} {e : xa_C} (h : xh_T M t T) (e1 : M1.1 t = some e) (fr : ∀ a, a ≠ t → M1.1 a = M.1 a) (e0 : e = .inr (4, [.int (nI (xN T1)), .int (nI (xC T1)), .int (nI (xG T1)), .int (nI (xnS T1)), .ref (t + 1), .ref (t + 2), .ref (t + 3), .int (nI (xnM T1)), .ref (t + 4), .ref (t + 5), .ref (t + 6), .int (nI (xnW T1)), .ref (t + 7), .ref (t + 8)]))
    (n1 : xnS T1 ≤ xnS T) (n2 : xnM T1 ≤ xnM T) (n3 : xnW T1 ≤ xnW T) (hS : ∀ j, j < xnS T1 → xtk T j = xtk T1 j ∧ xtl T j = xtl T1 j ∧ xth T j = xth T1 j) (hM : ∀ j, j < xnM T1 → xtm T j = xtm T1 j ∧ xtp T j = xtp T1 j ∧ xts T j = xts T1 j) (hW : ∀ j, j < xnW T1 → xtf T j = xtf T1 j ∧ xtt T j = xtt T1 j) : xh_T M1 t T1 := by
  obtain ⟨h0, h1, h2, h3, h4, h5, h6, h7, h8⟩ := h
  have cv : ∀ {a n k k2 : Nat} {f f2 : Nat → Nat}, xa_ar M a n k f → a ≠ t → k2 ≤ k → (∀ j, j < k2 → f j = f2 j) → xa_ar M1 a n k2 f2 := by
    intro a n k k2 f f2 h ha hk hf
    obtain ⟨g, q1, q2⟩ := xa_ar_cg (xa_ar_mono h hk) hf
    exact ⟨g, (fr a ha).trans q1, q2⟩
  exact ⟨by rw [e1, e0], cv h1 (by omega) n1 (fun j hj => (hS j hj).1), cv h2 (by omega) n1 (fun j hj => (hS j hj).2.1), cv h3 (by omega) n1 (fun j hj => (hS j hj).2.2), cv h4 (by omega) n2 (fun j hj => (hM j hj).1), cv h5 (by omega) n2 (fun j hj => (hM j hj).2.1), cv h6 (by omega) n2 (fun j hj => (hM j hj).2.2), cv h7 (by omega) n3 (fun j hj => (hW j hj).1), cv h8 (by omega) n3 (fun j hj => (hW j hj).2)⟩
theorem pc_clear {M : xa_M} {t : Nat} {T : xt_T} (hT : xh_T M t T) :
    ∃ z, xa_E 29 0 (xa_ent [.ref t]) [] M z ∧ z.1 = none ∧ xa_fr t (t + 9) M z.2 ∧ xh_T z.2 t xq_T0 := by
  refine xa_ge1 (fun lv h0 => ?_)
  have t0 := hT.1
  simp (disch := omega) only [↓ra_29_0, ↓ra_29_1, ↓ra_29_3, ↓ra_29_6, ↓ra_29_7, ↓ra_29_8, ↓ra_29_11, ↓ra_29_12, ↓ra_29_13, ↓ra_29_16, ↓ra_29_17, ↓ra_29_18, ↓ra_29_21, ↓ra_29_22, ↓ra_29_23, ↓ra_29_26, ↓ra_29_27, ↓ra_29_28, ↓ra_29_31, xa_kli, xa_klr, xa_kll, xa_ki, xa_kl, xa_kr, xa_kii, xa_kk, xa_kir, xa_krr, xa_kiir, xa_krir, xa_kdup, xa_kdup2, xa_kcp, xa_gf, xa_pf, xa_ga, xa_pa, xa_gq, xa_pq, xa_gl, xa_args, xa_ri, xa_rz, xa_rv, xa_s1, xa_s2, xa_c1, eq_self, List.getElem?_cons_succ, List.getElem?_cons_zero, true_and, and_true, nI_add, pk_mul, xt_in, xt_cl, xt_i0, xt_i1, xa_kc, xa_w8, xa_fit, lg_sl, List.flatMap_cons, List.flatMap_nil, List.map_cons, List.map_nil, List.sum_cons, List.sum_nil, Value.category, List.length_cons, List.length_nil, List.length_append, xa_rc, xa_rf, exists_eq_left, exists_eq', Option.some.injEq, Sum.inr.injEq, Prod.mk.injEq, Option.toList_some, Option.toList_none, List.cons_append, List.nil_append, Nat.reduceAdd, Nat.reduceLeDiff, Nat.reduceLT, List.set_cons_zero, List.set_cons_succ, eq_self, or_true, true_or, reduceIte, xt_ne, h0, t0, xt_st, exists_eq_left]
  refine ⟨xa_fr_tr (xa_fr_tr (xa_fr_tr (xa_fr_tr (xa_fr_tr (xa_fr_st (by omega) (by omega)) (xa_fr_st (by omega) (by omega))) (xa_fr_st (by omega) (by omega))) (xa_fr_st (by omega) (by omega))) (xa_fr_st (by omega) (by omega))) (xa_fr_st (by omega) (by omega)), ?_⟩
  exact xh_Tc hT xa_st_eq (fun a ha => (xa_st_ne ha).trans ((xa_st_ne ha).trans ((xa_st_ne ha).trans ((xa_st_ne ha).trans ((xa_st_ne ha).trans (xa_st_ne ha)))))) rfl (Nat.zero_le _) (Nat.zero_le _) (Nat.zero_le _) (fun j hj => absurd hj (Nat.not_lt_zero j)) (fun j hj => absurd hj (Nat.not_lt_zero j)) (fun j hj => absurd hj (Nat.not_lt_zero j))
/-- one man more -/
def xq_am (T : xt_T) (l a b : Nat) : xt_T := ((xN T, xC T, xG T, xnS T, xnM T + 1, xnW T), xtk T, xtl T, xth T, fun j => if j = xnM T then l else xtm T j, fun j => if j = xnM T then a else xtp T j, fun j => if j = xnM T then b else xts T j, xtf T, xtt T)
theorem pc_addMan {M : xa_M} {t : Nat} {T : xt_T} (hT : xh_T M t T) (hm : xnM T ≤ 5) (l a b : Nat) :
    ∃ z, xa_E 37 0 (xa_ent [.ref t, .int (nI l), .int (nI a), .int (nI b)]) [] M z ∧ z.1 = some (.int (nI 1)) ∧ xa_fr t (t + 9) M z.2 ∧ xh_T z.2 t (xq_am T l a b) := by
  refine xa_ge4 (fun lv h0 h1 h2 h3 => ?_)
  obtain ⟨t0, t1, t2, t3, ⟨g4, t4, e4⟩, ⟨g5, t5, e5⟩, ⟨g6, t6, e6⟩, t7, t8⟩ := hT
  simp (disch := omega) only [↓ra_37_0, ↓ra_37_1, ↓ra_37_4, ↓ra_37_5, xa_kli, xa_klr, xa_kll, xa_ki, xa_kl, xa_kr, xa_kii, xa_kk, xa_kir, xa_krr, xa_kiir, xa_krir, xa_kdup, xa_kdup2, xa_kcp, xa_gf, xa_pf, xa_ga, xa_pa, xa_gq, xa_pq, xa_gl, xa_args, xa_ri, xa_rz, xa_rv, xa_s1, xa_s2, xa_c1, eq_self, List.getElem?_cons_succ, List.getElem?_cons_zero, true_and, and_true, nI_add, pk_mul, xt_in, xt_cl, xt_i0, xt_i1, h0, h1, h2, h3, t0, xt_le]
  simp only [if_pos hm]
  simp (disch := omega) only [↓ra_37_10, ↓ra_37_11, ↓ra_37_14, ↓ra_37_15, ↓ra_37_18, ↓ra_37_19, ↓ra_37_20, ↓ra_37_21, ↓ra_37_24, ↓ra_37_25, ↓ra_37_28, ↓ra_37_29, ↓ra_37_30, ↓ra_37_31, ↓ra_37_34, ↓ra_37_35, ↓ra_37_38, ↓ra_37_39, ↓ra_37_40, ↓ra_37_41, ↓ra_37_42, ↓ra_37_45, ↓ra_37_46, ↓ra_37_47, ↓ra_37_50, ↓ra_37_51, xa_kli, xa_klr, xa_kll, xa_ki, xa_kl, xa_kr, xa_kii, xa_kk, xa_kir, xa_krr, xa_kiir, xa_krir, xa_kdup, xa_kdup2, xa_kcp, xa_gf, xa_pf, xa_ga, xa_pa, xa_gq, xa_pq, xa_gl, xa_args, xa_ri, xa_rz, xa_rv, xa_s1, xa_s2, xa_c1, eq_self, List.getElem?_cons_succ, List.getElem?_cons_zero, true_and, and_true, nI_add, pk_mul, xt_in, xt_cl, xt_i0, xt_i1, xa_kc, xa_w8, xa_fit, lg_sl, List.flatMap_cons, List.flatMap_nil, List.map_cons, List.map_nil, List.sum_cons, List.sum_nil, Value.category, List.length_cons, List.length_nil, List.length_append, xa_rc, xa_rf, exists_eq_left, exists_eq', Option.some.injEq, Sum.inr.injEq, Prod.mk.injEq, Option.toList_some, Option.toList_none, List.cons_append, List.nil_append, Nat.reduceAdd, Nat.reduceLeDiff, Nat.reduceLT, List.set_cons_zero, List.set_cons_succ, eq_self, or_true, true_or, reduceIte, xt_ne, h0, h1, h2, h3, t0, t4, t5, t6, xt_st, exists_eq_left]
  refine ⟨xa_fr_tr (xa_fr_tr (xa_fr_tr (xa_fr_st (by omega) (by omega)) (xa_fr_st (by omega) (by omega))) (xa_fr_st (by omega) (by omega))) (xa_fr_st (by omega) (by omega)), xa_st_eq, ?_, ?_, ?_, ?_, ?_, ?_, ?_, ?_⟩
  · exact xa_ar_ne (xa_ar_ne (xa_ar_ne (xa_ar_ne t1 (by omega)) (by omega)) (by omega)) (by omega)
  · exact xa_ar_ne (xa_ar_ne (xa_ar_ne (xa_ar_ne t2 (by omega)) (by omega)) (by omega)) (by omega)
  · exact xa_ar_ne (xa_ar_ne (xa_ar_ne (xa_ar_ne t3 (by omega)) (by omega)) (by omega)) (by omega)
  · exact xa_ar_ne (xa_ar_ne (xa_ar_ne (xa_ar_ps e4) (by omega)) (by omega)) (by omega)
  · exact xa_ar_ne (xa_ar_ne (xa_ar_ps e5) (by omega)) (by omega)
  · exact xa_ar_ne (xa_ar_ps e6) (by omega)
  · exact xa_ar_ne (xa_ar_ne (xa_ar_ne (xa_ar_ne t7 (by omega)) (by omega)) (by omega)) (by omega)
  · exact xa_ar_ne (xa_ar_ne (xa_ar_ne (xa_ar_ne t8 (by omega)) (by omega)) (by omega)) (by omega)
