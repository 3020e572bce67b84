theorem pm_behind_n {M : xa_M} {b : Nat} {A : xt_A} (hA : xh_A M b A) (iA : xi_A A) {x y w : Int32} (h : ¬ (xt_k x 0 (xnS (yT A)) ∧ xt_k y 0 (99 + 1) ∧ xt_k w 0 (2 + 1))) : xa_E 61 0 (xa_ent [.ref b, .int x, .int y, .int w]) [] M (some (.int (Int32.ofInt (-1))), M) := by
  obtain ⟨hO, hX, hT, ⟨T0, hU⟩, hS, ⟨S0, hN⟩, hP, hK, hG, hW⟩ := id hA
  obtain ⟨iT, i5, i60, i1, ⟨iS, iD⟩, iX, iU, iK, iG⟩ := id iA
  obtain ⟨⟨b1, b2, b3, b4, b5, b6, b7, b8⟩, bs, bm, bw⟩ := id iT
  have o0 : xh_O M b := hO
  unfold xh_O at o0
  have t0 := hT.1
  have s0 := hS.1
  have n0 := hN.1
  have u0 := hU.1
  refine xa_go4 (fun lv h0 h1 h2 h3 => ?_)
  by_cases a0 : xt_k x 0 (xnS (yT A))
  · by_cases a1 : xt_k y 0 (99 + 1)
    · have a2 : ¬ xt_k w 0 (2 + 1) := fun a => h ⟨a0, a1, a⟩
      obtain ⟨k0, -, l0, rfl⟩ := a0
      have c0 := xa_iff (pc_noSerf_y hO hT k0 l0 b6)
      obtain ⟨k1, m1, l1, rfl⟩ := a1
      have c1 := xa_iff (pc_isNot_y (M := M) k1 0 99 m1 (by omega) (by omega))
      have c2 := xa_iff (pc_isNot_n (M := M) 0 2 a2 (by omega) (by omega))
      simp (disch := omega) only [↓ra_61_0, ↓ra_61_1, ↓ra_61_2, ↓ra_61_5, ↓ra_61_8, ↓ra_61_9, ↓ra_61_10, ↓ra_61_12, ↓ra_61_15, ↓ra_61_18, ↓ra_61_19, ↓ra_61_20, ↓ra_61_21, ↓ra_61_24, ↓ra_61_27, ↓ra_61_28, xa_kli, xa_klr, xa_kll, xa_ki, xa_kl, xa_kr, xa_kii, xa_kk, xa_kir, xa_krr, xa_kiir, xa_krir, xa_kdup, xa_kdup2, xa_kcp, xa_gf, xa_pf, xa_ga, xa_pa, xa_gq, xa_pq, xa_gl, xa_args, xa_ri, xa_rz, xa_rv, xa_s1, xa_s2, xa_c1, eq_self, List.getElem?_cons_succ, List.getElem?_cons_zero, true_and, and_true, nI_add, pk_mul, xt_in, xt_cl, xt_i0, xt_i1, xa_kc, xa_w8, xa_fit, lg_sl, List.flatMap_cons, List.flatMap_nil, List.map_cons, List.map_nil, List.sum_cons, List.sum_nil, Value.category, List.length_cons, List.length_nil, List.length_append, xa_rc, xa_rf, exists_eq_left, exists_eq', Option.some.injEq, Sum.inr.injEq, Prod.mk.injEq, Option.toList_some, Option.toList_none, List.cons_append, List.nil_append, Nat.reduceAdd, Nat.reduceLeDiff, Nat.reduceLT, List.set_cons_zero, List.set_cons_succ, eq_self, or_true, true_or, reduceIte, xt_ne, xt_eq, Nat.reduceEqDiff, Nat.one_ne_zero, if_false, h0, h1, h2, h3, c0, c1, c2, mx_78, mx_77, o0]
    · obtain ⟨k0, -, l0, rfl⟩ := a0
      have c0 := xa_iff (pc_noSerf_y hO hT k0 l0 b6)
      have c1 := xa_iff (pc_isNot_n (M := M) 0 99 a1 (by omega) (by omega))
      simp (disch := omega) only [↓ra_61_0, ↓ra_61_1, ↓ra_61_2, ↓ra_61_5, ↓ra_61_8, ↓ra_61_9, ↓ra_61_10, ↓ra_61_12, ↓ra_61_15, ↓ra_61_18, ↓ra_61_19, ↓ra_61_20, ↓ra_61_21, ↓ra_61_24, ↓ra_61_27, ↓ra_61_28, xa_kli, xa_klr, xa_kll, xa_ki, xa_kl, xa_kr, xa_kii, xa_kk, xa_kir, xa_krr, xa_kiir, xa_krir, xa_kdup, xa_kdup2, xa_kcp, xa_gf, xa_pf, xa_ga, xa_pa, xa_gq, xa_pq, xa_gl, xa_args, xa_ri, xa_rz, xa_rv, xa_s1, xa_s2, xa_c1, eq_self, List.getElem?_cons_succ, List.getElem?_cons_zero, true_and, and_true, nI_add, pk_mul, xt_in, xt_cl, xt_i0, xt_i1, xa_kc, xa_w8, xa_fit, lg_sl, List.flatMap_cons, List.flatMap_nil, List.map_cons, List.map_nil, List.sum_cons, List.sum_nil, Value.category, List.length_cons, List.length_nil, List.length_append, xa_rc, xa_rf, exists_eq_left, exists_eq', Option.some.injEq, Sum.inr.injEq, Prod.mk.injEq, Option.toList_some, Option.toList_none, List.cons_append, List.nil_append, Nat.reduceAdd, Nat.reduceLeDiff, Nat.reduceLT, List.set_cons_zero, List.set_cons_succ, eq_self, or_true, true_or, reduceIte, xt_ne, xt_eq, Nat.reduceEqDiff, Nat.one_ne_zero, if_false, h0, h1, h2, h3, c0, c1, mx_78, mx_77, o0]
  · have c0 := xa_iff (pc_noSerf_n hO hT a0 b6)
    simp (disch := omega) only [↓ra_61_0, ↓ra_61_1, ↓ra_61_2, ↓ra_61_5, ↓ra_61_8, ↓ra_61_9, ↓ra_61_10, ↓ra_61_12, ↓ra_61_15, ↓ra_61_18, ↓ra_61_19, ↓ra_61_20, ↓ra_61_21, ↓ra_61_24, ↓ra_61_27, ↓ra_61_28, xa_kli, xa_klr, xa_kll, xa_ki, xa_kl, xa_kr, xa_kii, xa_kk, xa_kir, xa_krr, xa_kiir, xa_krir, xa_kdup, xa_kdup2, xa_kcp, xa_gf, xa_pf, xa_ga, xa_pa, xa_gq, xa_pq, xa_gl, xa_args, xa_ri, xa_rz, xa_rv, xa_s1, xa_s2, xa_c1, eq_self, List.getElem?_cons_succ, List.getElem?_cons_zero, true_and, and_true, nI_add, pk_mul, xt_in, xt_cl, xt_i0, xt_i1, xa_kc, xa_w8, xa_fit, lg_sl, List.flatMap_cons, List.flatMap_nil, List.map_cons, List.map_nil, List.sum_cons, List.sum_nil, Value.category, List.length_cons, List.length_nil, List.length_append, xa_rc, xa_rf, exists_eq_left, exists_eq', Option.some.injEq, Sum.inr.injEq, Prod.mk.injEq, Option.toList_some, Option.toList_none, List.cons_append, List.nil_append, Nat.reduceAdd, Nat.reduceLeDiff, Nat.reduceLT, List.set_cons_zero, List.set_cons_succ, eq_self, or_true, true_or, reduceIte, xt_ne, xt_eq, Nat.reduceEqDiff, Nat.one_ne_zero, if_false, h0, h1, h2, h3, c0, mx_78, mx_77, o0]
def xs_behind (A : xt_A) (s n k : Nat) : Int32 := if k = 0 then nI (xsh (xq_days (yT A) n (yS A)) s) else if k = 1 then nI (xss (xq_days (yT A) n (yS A)) s) else nI (xq_n (yT A) (xq_days (yT A) n (yS A)) 2)
theorem pm_behind {M : xa_M} {b : Nat} {A : xt_A} (hA : xh_A M b A) (iA : xi_A A) (s n k : Nat) (hs : s < xnS (yT A)) (hn : n ≤ 99) (hk : k ≤ 2) : ∃ z, xa_E 61 0 (xa_ent [.ref b, .int (nI s), .int (nI n), .int (nI k)]) [] M z ∧ xm b M (xs_behind A s n k) A z := by
  obtain ⟨hO, hX, hT, ⟨T0, hU⟩, hS, ⟨S0, hN⟩, hP, hK, hG, hW⟩ := id hA
  obtain ⟨iT, i5, i60, i1, ⟨iS, iD⟩, iX, iU, iK, iG⟩ := id iA
  obtain ⟨⟨b1, b2, b3, b4, b5, b6, b7, b8⟩, bs, bm, bw⟩ := id iT
  have o0 : xh_O M b := hO
  unfold xh_O at o0
  have t0 := hT.1
  have s0 := hS.1
  have n0 := hN.1
  have u0 := hU.1
  have cn := xa_iff (pc_noSerf_y hO hT s hs b6)
  have ca := xa_iff (pc_isNot_y (M := M) n 0 99 (by omega) hn (by omega))
  have cb := xa_iff (pc_isNot_y (M := M) k 0 2 (by omega) hk (by omega))
  obtain ⟨⟨z1, M1⟩, cE1, c1, f1, hS1⟩ := pc_copyS hN hS (by omega) b6 b7
  have c1 : z1 = none := c1
  subst c1
  dsimp only at f1 hS1
  have o1 := (f1.1 b (by omega)).trans o0
  have hT1 := xh_T_fr hT f1 (by omega)
  have s1 := hS1.1
  have t1 := hT1.1
  obtain ⟨⟨z2, M2⟩, cE2, c2, f2, hS2⟩ := pc_goDays hS1 hT1 (by omega) iT iS n (by omega)
  have c2 : z2 = none := c2
  subst c2
  dsimp only at f2 hS2
  have o2 := (f2.1 b (by omega)).trans o1
  have hT2 := xh_T_fr hT1 f2 (by omega)
  have i2 := (xi_days iT n iS (by omega)).1
  have f12 := xa_fr_tr f1 (xa_fr_w f2 (lo2 := b + 28) (hi2 := b + 34) (by omega) (by omega))
  have hA2 := xA_N ⟨_, xh_S0 hS2⟩ hA f12
  have h2b := xa_iff (pc_howMany hS2 hT2 b6 (fun s hs => Nat.lt_of_le_of_lt (i2.2.1 s hs).1 (by decide)) 2 (by omega))
  have t2 := hT2.1
  obtain ⟨v0, ⟨g1, v1, e1⟩, -, ⟨g3, v3, e3⟩, -⟩ := id hS2
  have e1 := e1 s hs
  have e3 := e3 s hs
  refine xa_ge4 (fun lv h0 h1 h2 h3 => ?_)
  rcases (show k = 0 ∨ k = 1 ∨ k = 2 by omega) with rfl | rfl | rfl
  · simp (disch := omega) only [↓ra_61_0, ↓ra_61_1, ↓ra_61_2, ↓ra_61_5, ↓ra_61_8, ↓ra_61_9, ↓ra_61_10, ↓ra_61_12, ↓ra_61_15, ↓ra_61_18, ↓ra_61_19, ↓ra_61_20, ↓ra_61_21, ↓ra_61_24, ↓ra_61_29, ↓ra_61_30, ↓ra_61_33, ↓ra_61_34, ↓ra_61_37, ↓ra_61_40, ↓ra_61_41, ↓ra_61_44, ↓ra_61_45, ↓ra_61_48, ↓ra_61_49, ↓ra_61_52, ↓ra_61_53, ↓ra_61_56, ↓ra_61_57, ↓ra_61_60, ↓ra_61_63, ↓ra_61_64, ↓ra_61_65, xa_kli, xa_klr, xa_kll, xa_ki, xa_kl, xa_kr, xa_kii, xa_kk, xa_kir, xa_krr, xa_kiir, xa_krir, xa_kdup, xa_kdup2, xa_kcp, xa_gf, xa_pf, xa_ga, xa_pa, xa_gq, xa_pq, xa_gl, xa_args, xa_ri, xa_rz, xa_rv, xa_s1, xa_s2, xa_c1, eq_self, List.getElem?_cons_succ, List.getElem?_cons_zero, true_and, and_true, nI_add, pk_mul, xt_in, xt_cl, xt_i0, xt_i1, xa_kc, xa_w8, xa_fit, lg_sl, List.flatMap_cons, List.flatMap_nil, List.map_cons, List.map_nil, List.sum_cons, List.sum_nil, Value.category, List.length_cons, List.length_nil, List.length_append, xa_rc, xa_rf, exists_eq_left, exists_eq', Option.some.injEq, Sum.inr.injEq, Prod.mk.injEq, Option.toList_some, Option.toList_none, List.cons_append, List.nil_append, Nat.reduceAdd, Nat.reduceLeDiff, Nat.reduceLT, List.set_cons_zero, List.set_cons_succ, eq_self, or_true, true_or, reduceIte, xt_ne, xt_eq, Nat.reduceEqDiff, Nat.one_ne_zero, if_false, h0, h1, h2, h3, cn, mx_78, ca, cb, mx_77, o0, o1, o2, s0, n0, s1, t1, v0, v1, e1, xa_iff cE1, mx_9, xa_iff cE2, mx_17]
    exact ⟨rfl, xa_fr_w f12 (by omega) (by omega), hA2⟩
  · simp (disch := omega) only [↓ra_61_0, ↓ra_61_1, ↓ra_61_2, ↓ra_61_5, ↓ra_61_8, ↓ra_61_9, ↓ra_61_10, ↓ra_61_12, ↓ra_61_15, ↓ra_61_18, ↓ra_61_19, ↓ra_61_20, ↓ra_61_21, ↓ra_61_24, ↓ra_61_29, ↓ra_61_30, ↓ra_61_33, ↓ra_61_34, ↓ra_61_37, ↓ra_61_40, ↓ra_61_41, ↓ra_61_44, ↓ra_61_45, ↓ra_61_48, ↓ra_61_49, ↓ra_61_52, ↓ra_61_53, ↓ra_61_66, ↓ra_61_67, ↓ra_61_68, ↓ra_61_71, ↓ra_61_72, ↓ra_61_75, ↓ra_61_78, ↓ra_61_79, ↓ra_61_80, ↓ra_61_95, xa_kli, xa_klr, xa_kll, xa_ki, xa_kl, xa_kr, xa_kii, xa_kk, xa_kir, xa_krr, xa_kiir, xa_krir, xa_kdup, xa_kdup2, xa_kcp, xa_gf, xa_pf, xa_ga, xa_pa, xa_gq, xa_pq, xa_gl, xa_args, xa_ri, xa_rz, xa_rv, xa_s1, xa_s2, xa_c1, eq_self, List.getElem?_cons_succ, List.getElem?_cons_zero, true_and, and_true, nI_add, pk_mul, xt_in, xt_cl, xt_i0, xt_i1, xa_kc, xa_w8, xa_fit, lg_sl, List.flatMap_cons, List.flatMap_nil, List.map_cons, List.map_nil, List.sum_cons, List.sum_nil, Value.category, List.length_cons, List.length_nil, List.length_append, xa_rc, xa_rf, exists_eq_left, exists_eq', Option.some.injEq, Sum.inr.injEq, Prod.mk.injEq, Option.toList_some, Option.toList_none, List.cons_append, List.nil_append, Nat.reduceAdd, Nat.reduceLeDiff, Nat.reduceLT, List.set_cons_zero, List.set_cons_succ, eq_self, or_true, true_or, reduceIte, xt_ne, xt_eq, Nat.reduceEqDiff, Nat.one_ne_zero, if_false, h0, h1, h2, h3, cn, mx_78, ca, cb, mx_77, o0, o1, o2, s0, n0, s1, t1, v0, v3, e3, xa_iff cE1, mx_9, xa_iff cE2, mx_17]
    exact ⟨rfl, xa_fr_w f12 (by omega) (by omega), hA2⟩
  · simp (disch := omega) only [↓ra_61_0, ↓ra_61_1, ↓ra_61_2, ↓ra_61_5, ↓ra_61_8, ↓ra_61_9, ↓ra_61_10, ↓ra_61_12, ↓ra_61_15, ↓ra_61_18, ↓ra_61_19, ↓ra_61_20, ↓ra_61_21, ↓ra_61_24, ↓ra_61_29, ↓ra_61_30, ↓ra_61_33, ↓ra_61_34, ↓ra_61_37, ↓ra_61_40, ↓ra_61_41, ↓ra_61_44, ↓ra_61_45, ↓ra_61_48, ↓ra_61_49, ↓ra_61_52, ↓ra_61_53, ↓ra_61_66, ↓ra_61_67, ↓ra_61_68, ↓ra_61_83, ↓ra_61_84, ↓ra_61_87, ↓ra_61_88, ↓ra_61_91, ↓ra_61_92, ↓ra_61_95, xa_kli, xa_klr, xa_kll, xa_ki, xa_kl, xa_kr, xa_kii, xa_kk, xa_kir, xa_krr, xa_kiir, xa_krir, xa_kdup, xa_kdup2, xa_kcp, xa_gf, xa_pf, xa_ga, xa_pa, xa_gq, xa_pq, xa_gl, xa_args, xa_ri, xa_rz, xa_rv, xa_s1, xa_s2, xa_c1, eq_self, List.getElem?_cons_succ, List.getElem?_cons_zero, true_and, and_true, nI_add, pk_mul, xt_in, xt_cl, xt_i0, xt_i1, xa_kc, xa_w8, xa_fit, lg_sl, List.flatMap_cons, List.flatMap_nil, List.map_cons, List.map_nil, List.sum_cons, List.sum_nil, Value.category, List.length_cons, List.length_nil, List.length_append, xa_rc, xa_rf, exists_eq_left, exists_eq', Option.some.injEq, Sum.inr.injEq, Prod.mk.injEq, Option.toList_some, Option.toList_none, List.cons_append, List.nil_append, Nat.reduceAdd, Nat.reduceLeDiff, Nat.reduceLT, List.set_cons_zero, List.set_cons_succ, eq_self, or_true, true_or, reduceIte, xt_ne, xt_eq, Nat.reduceEqDiff, Nat.one_ne_zero, if_false, h0, h1, h2, h3, cn, mx_78, ca, cb, mx_77, o0, o1, o2, s0, n0, s1, t1, v0, t2, h2b, mx_14, xa_iff cE1, mx_9, xa_iff cE2, mx_17]
    exact ⟨rfl, xa_fr_w f12 (by omega) (by omega), hA2⟩
theorem pm_ends_n {M : xa_M} {b : Nat} {A : xt_A} (hA : xh_A M b A) (iA : xi_A A) {x : Int32} (h : ¬ (xt_k x 0 (xnS (yT A)))) : xa_E 62 0 (xa_ent [.ref b, .int x]) [] M (some (.int (Int32.ofInt (-1))), M) := by
  obtain ⟨hO, hX, hT, ⟨T0, hU⟩, hS, ⟨S0, hN⟩, hP, hK, hG, hW⟩ := id hA
  obtain ⟨iT, i5, i60, i1, ⟨iS, iD⟩, iX, iU, iK, iG⟩ := id iA
  obtain ⟨⟨b1, b2, b3, b4, b5, b6, b7, b8⟩, bs, bm, bw⟩ := id iT
  have o0 : xh_O M b := hO
  unfold xh_O at o0
  have t0 := hT.1
  have s0 := hS.1
  have n0 := hN.1
  have u0 := hU.1
  refine xa_go2 (fun lv h0 h1 => ?_)
  have a0 : ¬ xt_k x 0 (xnS (yT A)) := h
  have c0 := xa_iff (pc_noSerf_n hO hT a0 b6)
  simp (disch := omega) only [↓ra_62_0, ↓ra_62_1, ↓ra_62_2, ↓ra_62_5, ↓ra_62_8, ↓ra_62_9, xa_kli, xa_klr, xa_kll, xa_ki, xa_kl, xa_kr, xa_kii, xa_kk, xa_kir, xa_krr, xa_kiir, xa_krir, xa_kdup, xa_kdup2, xa_kcp, xa_gf, xa_pf, xa_ga, xa_pa, xa_gq, xa_pq, xa_gl, xa_args, xa_ri, xa_rz, xa_rv, xa_s1, xa_s2, xa_c1, eq_self, List.getElem?_cons_succ, List.getElem?_cons_zero, true_and, and_true, nI_add, pk_mul, xt_in, xt_cl, xt_i0, xt_i1, xa_kc, xa_w8, xa_fit, lg_sl, List.flatMap_cons, List.flatMap_nil, List.map_cons, List.map_nil, List.sum_cons, List.sum_nil, Value.category, List.length_cons, List.length_nil, List.length_append, xa_rc, xa_rf, exists_eq_left, exists_eq', Option.some.injEq, Sum.inr.injEq, Prod.mk.injEq, Option.toList_some, Option.toList_none, List.cons_append, List.nil_append, Nat.reduceAdd, Nat.reduceLeDiff, Nat.reduceLT, List.set_cons_zero, List.set_cons_succ, eq_self, or_true, true_or, reduceIte, xt_ne, xt_eq, Nat.reduceEqDiff, Nat.one_ne_zero, if_false, h0, h1, c0, mx_78, mx_77, o0]
def xs_ends (A : xt_A) (s : Nat) : Int32 := xt_o (xq_end (yT A) s 99 0 (yS A)).1
theorem pm_ends {M : xa_M} {b : Nat} {A : xt_A} (hA : xh_A M b A) (iA : xi_A A) (s : Nat) (hs : s < xnS (yT A)) : ∃ z, xa_E 62 0 (xa_ent [.ref b, .int (nI s)]) [] M z ∧ xm b M (xs_ends A s) A z := by
  obtain ⟨hO, hX, hT, ⟨T0, hU⟩, hS, ⟨S0, hN⟩, hP, hK, hG, hW⟩ := id hA
  obtain ⟨iT, i5, i60, i1, ⟨iS, iD⟩, iX, iU, iK, iG⟩ := id iA
  obtain ⟨⟨b1, b2, b3, b4, b5, b6, b7, b8⟩, bs, bm, bw⟩ := id iT
  have o0 : xh_O M b := hO
  unfold xh_O at o0
  have t0 := hT.1
  have s0 := hS.1
  have n0 := hN.1
  have u0 := hU.1
  have cn := xa_iff (pc_noSerf_y hO hT s hs b6)
  obtain ⟨⟨z1, M1⟩, cE1, c1, f1, hS1⟩ := pc_copyS hN hS (by omega) b6 b7
  have c1 : z1 = none := c1
  subst c1
  dsimp only at f1 hS1
  have o1 := (f1.1 b (by omega)).trans o0
  have hT1 := xh_T_fr hT f1 (by omega)
  have s1 := hS1.1
  have t1 := hT1.1
  obtain ⟨⟨z2, M2⟩, cE2, c2, f2, hS2⟩ := pc_daysToEnd (b := b) o1 hT1 hS1 iT iS (by omega) s hs
  have c2 : z2 = _ := c2
  subst c2
  dsimp only at f2 hS2
  have f12 := xa_fr_tr f1 (xa_fr_w f2 (lo2 := b + 28) (hi2 := b + 34) (by omega) (by omega))
  refine xa_ge2 (fun lv h0 h1 => ?_)
  simp (disch := omega) only [↓ra_62_0, ↓ra_62_1, ↓ra_62_2, ↓ra_62_5, ↓ra_62_10, ↓ra_62_11, ↓ra_62_14, ↓ra_62_15, ↓ra_62_18, ↓ra_62_21, ↓ra_62_22, ↓ra_62_23, ↓ra_62_26, xa_kli, xa_klr, xa_kll, xa_ki, xa_kl, xa_kr, xa_kii, xa_kk, xa_kir, xa_krr, xa_kiir, xa_krir, xa_kdup, xa_kdup2, xa_kcp, xa_gf, xa_pf, xa_ga, xa_pa, xa_gq, xa_pq, xa_gl, xa_args, xa_ri, xa_rz, xa_rv, xa_s1, xa_s2, xa_c1, eq_self, List.getElem?_cons_succ, List.getElem?_cons_zero, true_and, and_true, nI_add, pk_mul, xt_in, xt_cl, xt_i0, xt_i1, xa_kc, xa_w8, xa_fit, lg_sl, List.flatMap_cons, List.flatMap_nil, List.map_cons, List.map_nil, List.sum_cons, List.sum_nil, Value.category, List.length_cons, List.length_nil, List.length_append, xa_rc, xa_rf, exists_eq_left, exists_eq', Option.some.injEq, Sum.inr.injEq, Prod.mk.injEq, Option.toList_some, Option.toList_none, List.cons_append, List.nil_append, Nat.reduceAdd, Nat.reduceLeDiff, Nat.reduceLT, List.set_cons_zero, List.set_cons_succ, eq_self, or_true, true_or, reduceIte, xt_ne, xt_eq, Nat.reduceEqDiff, Nat.one_ne_zero, if_false, h0, h1, cn, mx_78, o0, o1, s0, n0, xa_iff cE1, mx_9, xa_iff cE2, mx_82]
  exact ⟨rfl, xa_fr_w f12 (by omega) (by omega), xA_N ⟨_, xh_S0 hS2⟩ hA f12⟩
theorem xq_end_le {T : xt_T} {s : Nat} : ∀ (r d : Nat) (S : xt_S) (n : Nat), (xq_end T s r d S).1 = some n → n ≤ d + r
  | 0, d, S, n, h => by
    unfold xq_end at h
    dsimp only at h
    split at h
    · cases h; omega
    · cases h
  | r + 1, d, S, n, h => by
    unfold xq_end at h
    split at h
    · cases h; omega
    · have := xq_end_le r (d + 1) _ n h
      omega
theorem xq_fr_le {T : xt_T} {S : xt_S} {s q n : Nat} (h : (xq_fr T S s q).1 = some n) : n ≤ 99 := by
  unfold xq_fr at h
  generalize (if xsh S s = 0 ∧ xsq S s = q then S else xq_set S s q) = S2 at h
  dsimp only at h
  split at h
  · have := xq_end_le 99 0 _ n h
    omega
  · cases h
/-- where he had best live of the first quarters, and behind how many days he is free -/
def xq_lv (T : xt_T) (S : xt_S) (s : Nat) : Nat → Option (Nat × Nat)
  | 0 => none
  | q + 1 => match (xq_fr T S s q).1 with
    | none => xq_lv T S s q
    | some d => match xq_lv T S s q with
      | none => some (q, d)
      | some (w, f) => if d < f then some (q, d) else some (w, f)
theorem xq_lv_le {T : xt_T} {S : xt_S} {s : Nat} : ∀ q w f, xq_lv T S s q = some (w, f) → f ≤ 99 ∧ w < q
  | 0, _, _, h => by cases h
  | q + 1, w, f, h => by
    unfold xq_lv at h
    split at h
    · have := xq_lv_le q w f h; omega
    · rename_i d hd
      have l := xq_fr_le hd
      split at h
      · cases h; omega
      · rename_i w' f' hp
        have := xq_lv_le q w' f' hp
        split at h
        · cases h; omega
        · cases h; omega
theorem pm_live_n {M : xa_M} {b : Nat} {A : xt_A} (hA : xh_A M b A) (iA : xi_A A) {x y : Int32} (h : ¬ (xt_k x 0 (xnS (yT A)) ∧ xt_k y 0 (1 + 1))) : xa_E 63 0 (xa_ent [.ref b, .int x, .int y]) [] M (some (.int (Int32.ofInt (-1))), M) := by
  obtain ⟨hO, hX, hT, ⟨T0, hU⟩, hS, ⟨S0, hN⟩, hP, hK, hG, hW⟩ := id hA
  obtain ⟨iT, i5, i60, i1, ⟨iS, iD⟩, iX, iU, iK, iG⟩ := id iA
  obtain ⟨⟨b1, b2, b3, b4, b5, b6, b7, b8⟩, bs, bm, bw⟩ := id iT
  have o0 : xh_O M b := hO
  unfold xh_O at o0
  have t0 := hT.1
  have s0 := hS.1
  have n0 := hN.1
  have u0 := hU.1
  refine xa_go3 (fun lv h0 h1 h2 => ?_)
  by_cases a0 : xt_k x 0 (xnS (yT A))
  · have a1 : ¬ xt_k y 0 (1 + 1) := fun a => h ⟨a0, a⟩
    obtain ⟨k0, -, l0, rfl⟩ := a0
    have c0 := xa_iff (pc_noSerf_y hO hT k0 l0 b6)
    have c1 := xa_iff (pc_isNot_n (M := M) 0 1 a1 (by omega) (by omega))
    simp (disch := omega) only [↓ra_63_0, ↓ra_63_1, ↓ra_63_2, ↓ra_63_5, ↓ra_63_8, ↓ra_63_9, ↓ra_63_10, ↓ra_63_11, ↓ra_63_14, ↓ra_63_17, ↓ra_63_18, xa_kli, xa_klr, xa_kll, xa_ki, xa_kl, xa_kr, xa_kii, xa_kk, xa_kir, xa_krr, xa_kiir, xa_krir, xa_kdup, xa_kdup2, xa_kcp, xa_gf, xa_pf, xa_ga, xa_pa, xa_gq, xa_pq, xa_gl, xa_args, xa_ri, xa_rz, xa_rv, xa_s1, xa_s2, xa_c1, eq_self, List.getElem?_cons_succ, List.getElem?_cons_zero, true_and, and_true, nI_add, pk_mul, xt_in, xt_cl, xt_i0, xt_i1, xa_kc, xa_w8, xa_fit, lg_sl, List.flatMap_cons, List.flatMap_nil, List.map_cons, List.map_nil, List.sum_cons, List.sum_nil, Value.category, List.length_cons, List.length_nil, List.length_append, xa_rc, xa_rf, exists_eq_left, exists_eq', Option.some.injEq, Sum.inr.injEq, Prod.mk.injEq, Option.toList_some, Option.toList_none, List.cons_append, List.nil_append, Nat.reduceAdd, Nat.reduceLeDiff, Nat.reduceLT, List.set_cons_zero, List.set_cons_succ, eq_self, or_true, true_or, reduceIte, xt_ne, xt_eq, Nat.reduceEqDiff, Nat.one_ne_zero, if_false, h0, h1, h2, c0, c1, mx_78, mx_77, o0]
  · have c0 := xa_iff (pc_noSerf_n hO hT a0 b6)
    simp (disch := omega) only [↓ra_63_0, ↓ra_63_1, ↓ra_63_2, ↓ra_63_5, ↓ra_63_8, ↓ra_63_9, ↓ra_63_10, ↓ra_63_11, ↓ra_63_14, ↓ra_63_17, ↓ra_63_18, xa_kli, xa_klr, xa_kll, xa_ki, xa_kl, xa_kr, xa_kii, xa_kk, xa_kir, xa_krr, xa_kiir, xa_krir, xa_kdup, xa_kdup2, xa_kcp, xa_gf, xa_pf, xa_ga, xa_pa, xa_gq, xa_pq, xa_gl, xa_args, xa_ri, xa_rz, xa_rv, xa_s1, xa_s2, xa_c1, eq_self, List.getElem?_cons_succ, List.getElem?_cons_zero, true_and, and_true, nI_add, pk_mul, xt_in, xt_cl, xt_i0, xt_i1, xa_kc, xa_w8, xa_fit, lg_sl, List.flatMap_cons, List.flatMap_nil, List.map_cons, List.map_nil, List.sum_cons, List.sum_nil, Value.category, List.length_cons, List.length_nil, List.length_append, xa_rc, xa_rf, exists_eq_left, exists_eq', Option.some.injEq, Sum.inr.injEq, Prod.mk.injEq, Option.toList_some, Option.toList_none, List.cons_append, List.nil_append, Nat.reduceAdd, Nat.reduceLeDiff, Nat.reduceLT, List.set_cons_zero, List.set_cons_succ, eq_self, or_true, true_or, reduceIte, xt_ne, xt_eq, Nat.reduceEqDiff, Nat.one_ne_zero, if_false, h0, h1, h2, c0, mx_78, mx_77, o0]
def xs_live (A : xt_A) (s k : Nat) : Int32 := if 2 ≤ xsh (yS A) s then Int32.ofInt (-2) else xt_o (if k = 0 then (xq_lv (yT A) (yS A) s (xC (yT A))).map Prod.fst else (xq_lv (yT A) (yS A) s (xC (yT A))).map Prod.snd)
theorem pm_live {M : xa_M} {b : Nat} {A : xt_A} (hA : xh_A M b A) (iA : xi_A A) (s k : Nat) (hs : s < xnS (yT A)) (hk : k ≤ 1) : ∃ z, xa_E 63 0 (xa_ent [.ref b, .int (nI s), .int (nI k)]) [] M z ∧ xm b M (xs_live A s k) A z := by
  obtain ⟨hO, hX, hT, ⟨T0, hU⟩, hS, ⟨S0, hN⟩, hP, hK, hG, hW⟩ := id hA
  obtain ⟨iT, i5, i60, i1, ⟨iS, iD⟩, iX, iU, iK, iG⟩ := id iA
  obtain ⟨⟨b1, b2, b3, b4, b5, b6, b7, b8⟩, bs, bm, bw⟩ := id iT
  have o0 : xh_O M b := hO
  unfold xh_O at o0
  have t0 := hT.1
  have s0 := hS.1
  have n0 := hN.1
  have u0 := hU.1
  have cn := xa_iff (pc_noSerf_y hO hT s hs b6)
  have cb := xa_iff (pc_isNot_y (M := M) k 0 1 (by omega) hk (by omega))
  have dd := iS.2.1 s hs
  have co := xa_iff (pc_isOver hS s hs b6 dd.1)
  refine xa_ge3 (fun lv h0 h1 h2 => ?_)
  simp (disch := omega) only [↓ra_63_0, ↓ra_63_1, ↓ra_63_2, ↓ra_63_5, ↓ra_63_8, ↓ra_63_9, ↓ra_63_10, ↓ra_63_11, ↓ra_63_14, ↓ra_63_19, ↓ra_63_20, ↓ra_63_23, ↓ra_63_24, ↓ra_63_27, xa_kli, xa_klr, xa_kll, xa_ki, xa_kl, xa_kr, xa_kii, xa_kk, xa_kir, xa_krr, xa_kiir, xa_krir, xa_kdup, xa_kdup2, xa_kcp, xa_gf, xa_pf, xa_ga, xa_pa, xa_gq, xa_pq, xa_gl, xa_args, xa_ri, xa_rz, xa_rv, xa_s1, xa_s2, xa_c1, eq_self, List.getElem?_cons_succ, List.getElem?_cons_zero, true_and, and_true, nI_add, pk_mul, xt_in, xt_cl, xt_i0, xt_i1, xa_kc, xa_w8, xa_fit, lg_sl, List.flatMap_cons, List.flatMap_nil, List.map_cons, List.map_nil, List.sum_cons, List.sum_nil, Value.category, List.length_cons, List.length_nil, List.length_append, xa_rc, xa_rf, exists_eq_left, exists_eq', Option.some.injEq, Sum.inr.injEq, Prod.mk.injEq, Option.toList_some, Option.toList_none, List.cons_append, List.nil_append, Nat.reduceAdd, Nat.reduceLeDiff, Nat.reduceLT, List.set_cons_zero, List.set_cons_succ, eq_self, or_true, true_or, reduceIte, xt_ne, xt_eq, Nat.reduceEqDiff, Nat.one_ne_zero, if_false, h0, h1, h2, cn, mx_78, cb, mx_77, o0, s0, co, mx_10, xt_b0]
  unfold xs_live
  by_cases c : 2 ≤ xsh (yS A) s
  · simp only [c, not_true_eq_false, if_false, if_true]
    simp (disch := omega) only [↓ra_63_30, ↓ra_63_32, xa_kli, xa_klr, xa_kll, xa_ki, xa_kl, xa_kr, xa_kii, xa_kk, xa_kir, xa_krr, xa_kiir, xa_krir, xa_kdup, xa_kdup2, xa_kcp, xa_gf, xa_pf, xa_ga, xa_pa, xa_gq, xa_pq, xa_gl, xa_args, xa_ri, xa_rz, xa_rv, xa_s1, xa_s2, xa_c1, eq_self, List.getElem?_cons_succ, List.getElem?_cons_zero, true_and, and_true, nI_add, pk_mul, xt_in, xt_cl, xt_i0, xt_i1, xa_kc, xa_w8, xa_fit, lg_sl, List.flatMap_cons, List.flatMap_nil, List.map_cons, List.map_nil, List.sum_cons, List.sum_nil, Value.category, List.length_cons, List.length_nil, List.length_append, xa_rc, xa_rf, exists_eq_left, exists_eq', Option.some.injEq, Sum.inr.injEq, Prod.mk.injEq, Option.toList_some, Option.toList_none, List.cons_append, List.nil_append, Nat.reduceAdd, Nat.reduceLeDiff, Nat.reduceLT, List.set_cons_zero, List.set_cons_succ, eq_self, or_true, true_or, reduceIte, xt_ne]
    exact xm_r hA
  · simp only [c, not_false_eq_true, if_false, if_true]
    have loop : ∀ (r q : Nat) (lv : xa_L) (M1 : xa_M), lv 0 = some (.ref b) → lv 1 = some (.int (nI s)) → lv 2 = some (.int (nI k)) → lv 3 = some (.int (xt_o ((xq_lv (yT A) (yS A) s q).map Prod.fst))) → lv 4 = some (.int (xt_o ((xq_lv (yT A) (yS A) s q).map Prod.snd))) → lv 5 = some (.int (nI q)) → q + r = xC (yT A) → xa_fr (b + 28) (b + 34) M M1 → xh_A M1 b A → ∃ z, xa_E 63 43 lv [] M1 z ∧ xm b M (xt_o (if k = 0 then (xq_lv (yT A) (yS A) s (xC (yT A))).map Prod.fst else (xq_lv (yT A) (yS A) s (xC (yT A))).map Prod.snd)) A z := by
      intro r
      induction r with
      | zero =>
        intro q lv M1 h0 h1 h2 h3 h4 h5 e fr hA1
        have e : q = xC (yT A) := by omega
        subst e
        have o1 := (fr.1 b (by omega)).trans o0
        have t1 := (xh_T_fr hT fr (by omega)).1
        simp (disch := omega) only [↓ra_63_43, ↓ra_63_45, ↓ra_63_46, ↓ra_63_49, ↓ra_63_52, ↓ra_63_98, ↓ra_63_99, xa_kli, xa_klr, xa_kll, xa_ki, xa_kl, xa_kr, xa_kii, xa_kk, xa_kir, xa_krr, xa_kiir, xa_krir, xa_kdup, xa_kdup2, xa_kcp, xa_gf, xa_pf, xa_ga, xa_pa, xa_gq, xa_pq, xa_gl, xa_args, xa_ri, xa_rz, xa_rv, xa_s1, xa_s2, xa_c1, eq_self, List.getElem?_cons_succ, List.getElem?_cons_zero, true_and, and_true, nI_add, pk_mul, xt_in, xt_cl, xt_i0, xt_i1, xa_kc, xa_w8, xa_fit, lg_sl, List.flatMap_cons, List.flatMap_nil, List.map_cons, List.map_nil, List.sum_cons, List.sum_nil, Value.category, List.length_cons, List.length_nil, List.length_append, xa_rc, xa_rf, exists_eq_left, exists_eq', Option.some.injEq, Sum.inr.injEq, Prod.mk.injEq, Option.toList_some, Option.toList_none, List.cons_append, List.nil_append, Nat.reduceAdd, Nat.reduceLeDiff, Nat.reduceLT, List.set_cons_zero, List.set_cons_succ, eq_self, or_true, true_or, reduceIte, xt_ne, h0, h1, h2, h3, h4, h5, o1, t1, xt_le, Nat.le_refl, xt_eq]
        by_cases ck : k = 0
        · simp only [if_pos ck]
          simp (disch := omega) only [↓ra_63_102, ↓ra_63_103, ↓ra_63_108, xa_kli, xa_klr, xa_kll, xa_ki, xa_kl, xa_kr, xa_kii, xa_kk, xa_kir, xa_krr, xa_kiir, xa_krir, xa_kdup, xa_kdup2, xa_kcp, xa_gf, xa_pf, xa_ga, xa_pa, xa_gq, xa_pq, xa_gl, xa_args, xa_ri, xa_rz, xa_rv, xa_s1, xa_s2, xa_c1, eq_self, List.getElem?_cons_succ, List.getElem?_cons_zero, true_and, and_true, nI_add, pk_mul, xt_in, xt_cl, xt_i0, xt_i1, xa_kc, xa_w8, xa_fit, lg_sl, List.flatMap_cons, List.flatMap_nil, List.map_cons, List.map_nil, List.sum_cons, List.sum_nil, Value.category, List.length_cons, List.length_nil, List.length_append, xa_rc, xa_rf, exists_eq_left, exists_eq', Option.some.injEq, Sum.inr.injEq, Prod.mk.injEq, Option.toList_some, Option.toList_none, List.cons_append, List.nil_append, Nat.reduceAdd, Nat.reduceLeDiff, Nat.reduceLT, List.set_cons_zero, List.set_cons_succ, eq_self, or_true, true_or, reduceIte, xt_ne, h3]
          exact ⟨rfl, xa_fr_w fr (by omega) (by omega), hA1⟩
        · simp only [if_neg ck]
          simp (disch := omega) only [↓ra_63_106, ↓ra_63_108, xa_kli, xa_klr, xa_kll, xa_ki, xa_kl, xa_kr, xa_kii, xa_kk, xa_kir, xa_krr, xa_kiir, xa_krir, xa_kdup, xa_kdup2, xa_kcp, xa_gf, xa_pf, xa_ga, xa_pa, xa_gq, xa_pq, xa_gl, xa_args, xa_ri, xa_rz, xa_rv, xa_s1, xa_s2, xa_c1, eq_self, List.getElem?_cons_succ, List.getElem?_cons_zero, true_and, and_true, nI_add, pk_mul, xt_in, xt_cl, xt_i0, xt_i1, xa_kc, xa_w8, xa_fit, lg_sl, List.flatMap_cons, List.flatMap_nil, List.map_cons, List.map_nil, List.sum_cons, List.sum_nil, Value.category, List.length_cons, List.length_nil, List.length_append, xa_rc, xa_rf, exists_eq_left, exists_eq', Option.some.injEq, Sum.inr.injEq, Prod.mk.injEq, Option.toList_some, Option.toList_none, List.cons_append, List.nil_append, Nat.reduceAdd, Nat.reduceLeDiff, Nat.reduceLT, List.set_cons_zero, List.set_cons_succ, eq_self, or_true, true_or, reduceIte, xt_ne, h4]
          exact ⟨rfl, xa_fr_w fr (by omega) (by omega), hA1⟩
      | succ r ih =>
        intro q lv M1 h0 h1 h2 h3 h4 h5 e fr hA1
        obtain ⟨hO1, -, hT1, -, hS1, ⟨S1, hN1⟩, -⟩ := id hA1
        have o1 : xh_O M1 b := hO1
        unfold xh_O at o1
        have t1 := hT1.1
        obtain ⟨⟨z2, M2⟩, cE2, c2, f2, hN2⟩ := pc_daysToFree hO1 hT1 hS1 hN1 iT iS (by omega) s q hs (by omega) (by omega)
        have c2 : z2 = _ := c2
        subst c2
        dsimp only at f2 hN2
        have fr2 := xa_fr_tr fr f2
        have hA2 := xA_N hN2 hA1 f2
        simp (disch := omega) only [↓ra_63_43, ↓ra_63_45, ↓ra_63_46, ↓ra_63_49, ↓ra_63_52, xa_kli, xa_klr, xa_kll, xa_ki, xa_kl, xa_kr, xa_kii, xa_kk, xa_kir, xa_krr, xa_kiir, xa_krir, xa_kdup, xa_kdup2, xa_kcp, xa_gf, xa_pf, xa_ga, xa_pa, xa_gq, xa_pq, xa_gl, xa_args, xa_ri, xa_rz, xa_rv, xa_s1, xa_s2, xa_c1, eq_self, List.getElem?_cons_succ, List.getElem?_cons_zero, true_and, and_true, nI_add, pk_mul, xt_in, xt_cl, xt_i0, xt_i1, xa_kc, xa_w8, xa_fit, lg_sl, List.flatMap_cons, List.flatMap_nil, List.map_cons, List.map_nil, List.sum_cons, List.sum_nil, Value.category, List.length_cons, List.length_nil, List.length_append, xa_rc, xa_rf, exists_eq_left, exists_eq', Option.some.injEq, Sum.inr.injEq, Prod.mk.injEq, Option.toList_some, Option.toList_none, List.cons_append, List.nil_append, Nat.reduceAdd, Nat.reduceLeDiff, Nat.reduceLT, List.set_cons_zero, List.set_cons_succ, eq_self, or_true, true_or, reduceIte, xt_ne, h0, h1, h2, h3, h4, h5, o1, t1, xt_le]
        simp only [if_neg (show ¬ xC (yT A) ≤ q by omega)]
        simp (disch := omega) only [↓ra_63_55, ↓ra_63_56, ↓ra_63_57, ↓ra_63_59, ↓ra_63_62, ↓ra_63_64, ↓ra_63_66, ↓ra_63_68, xa_kli, xa_klr, xa_kll, xa_ki, xa_kl, xa_kr, xa_kii, xa_kk, xa_kir, xa_krr, xa_kiir, xa_krir, xa_kdup, xa_kdup2, xa_kcp, xa_gf, xa_pf, xa_ga, xa_pa, xa_gq, xa_pq, xa_gl, xa_args, xa_ri, xa_rz, xa_rv, xa_s1, xa_s2, xa_c1, eq_self, List.getElem?_cons_succ, List.getElem?_cons_zero, true_and, and_true, nI_add, pk_mul, xt_in, xt_cl, xt_i0, xt_i1, xa_kc, xa_w8, xa_fit, lg_sl, List.flatMap_cons, List.flatMap_nil, List.map_cons, List.map_nil, List.sum_cons, List.sum_nil, Value.category, List.length_cons, List.length_nil, List.length_append, xa_rc, xa_rf, exists_eq_left, exists_eq', Option.some.injEq, Sum.inr.injEq, Prod.mk.injEq, Option.toList_some, Option.toList_none, List.cons_append, List.nil_append, Nat.reduceAdd, Nat.reduceLeDiff, Nat.reduceLT, List.set_cons_zero, List.set_cons_succ, eq_self, or_true, true_or, reduceIte, xt_ne, h0, h1, h2, h3, h4, h5, o1, xa_iff cE2, mx_83]
        have nxt : ∀ lv' : xa_L, lv' 0 = some (.ref b) → lv' 1 = some (.int (nI s)) → lv' 2 = some (.int (nI k)) → lv' 3 = some (.int (xt_o ((xq_lv (yT A) (yS A) s (q + 1)).map Prod.fst))) → lv' 4 = some (.int (xt_o ((xq_lv (yT A) (yS A) s (q + 1)).map Prod.snd))) → lv' 5 = some (.int (nI q)) → ∃ z, xa_E 63 92 lv' [] M2 z ∧ xm b M (xt_o (if k = 0 then (xq_lv (yT A) (yS A) s (xC (yT A))).map Prod.fst else (xq_lv (yT A) (yS A) s (xC (yT A))).map Prod.snd)) A z := by
          intro lv' g0 g1 g2 g3 g4 g5
          simp (disch := omega) only [↓ra_63_92, ↓ra_63_95, xa_kli, xa_klr, xa_kll, xa_ki, xa_kl, xa_kr, xa_kii, xa_kk, xa_kir, xa_krr, xa_kiir, xa_krir, xa_kdup, xa_kdup2, xa_kcp, xa_gf, xa_pf, xa_ga, xa_pa, xa_gq, xa_pq, xa_gl, xa_args, xa_ri, xa_rz, xa_rv, xa_s1, xa_s2, xa_c1, eq_self, List.getElem?_cons_succ, List.getElem?_cons_zero, true_and, and_true, nI_add, pk_mul, xt_in, xt_cl, xt_i0, xt_i1, xa_kc, xa_w8, xa_fit, lg_sl, List.flatMap_cons, List.flatMap_nil, List.map_cons, List.map_nil, List.sum_cons, List.sum_nil, Value.category, List.length_cons, List.length_nil, List.length_append, xa_rc, xa_rf, exists_eq_left, exists_eq', Option.some.injEq, Sum.inr.injEq, Prod.mk.injEq, Option.toList_some, Option.toList_none, List.cons_append, List.nil_append, Nat.reduceAdd, Nat.reduceLeDiff, Nat.reduceLT, List.set_cons_zero, List.set_cons_succ, eq_self, or_true, true_or, reduceIte, xt_ne, g5]
          exact ih (q + 1) _ M2 (by simp [xa_s1, xa_c1, g0]) (by simp [xa_s1, xa_c1, g1]) (by simp [xa_s1, xa_c1, g2]) (by simp [xa_s1, xa_c1, g3]) (by simp [xa_s1, xa_c1, g4]) (by simp [xa_s1, xa_c1]) (by omega) fr2 hA2
        cases hq : (xq_fr (yT A) (yS A) s q).1 with
        | none =>
          have e1 : xq_lv (yT A) (yS A) s (q + 1) = xq_lv (yT A) (yS A) s q := by simp only [xq_lv, hq]
          simp only [xt_o, if_true]
          exact nxt _ (by simp [xa_s1, xa_c1, h0]) (by simp [xa_s1, xa_c1, h1]) (by simp [xa_s1, xa_c1, h2]) (by simp [xa_s1, xa_c1, h3, e1]) (by simp [xa_s1, xa_c1, h4, e1]) (by simp [xa_s1, xa_c1, h5])
        | some d =>
          have ld := xq_fr_le hq
          have hd : xt_o (some d) = nI d := rfl
          simp (disch := omega) only [hd, xt_m4n, if_false]
          have win : xq_lv (yT A) (yS A) s (q + 1) = some (q, d) → ∃ z, xa_E 63 85 (xa_s1 lv 6 (.int (nI d))) [] M2 z ∧ xm b M (xt_o (if k = 0 then (xq_lv (yT A) (yS A) s (xC (yT A))).map Prod.fst else (xq_lv (yT A) (yS A) s (xC (yT A))).map Prod.snd)) A z := by
            intro e1
            simp (disch := omega) only [↓ra_63_85, ↓ra_63_87, ↓ra_63_88, ↓ra_63_90, xa_kli, xa_klr, xa_kll, xa_ki, xa_kl, xa_kr, xa_kii, xa_kk, xa_kir, xa_krr, xa_kiir, xa_krir, xa_kdup, xa_kdup2, xa_kcp, xa_gf, xa_pf, xa_ga, xa_pa, xa_gq, xa_pq, xa_gl, xa_args, xa_ri, xa_rz, xa_rv, xa_s1, xa_s2, xa_c1, eq_self, List.getElem?_cons_succ, List.getElem?_cons_zero, true_and, and_true, nI_add, pk_mul, xt_in, xt_cl, xt_i0, xt_i1, xa_kc, xa_w8, xa_fit, lg_sl, List.flatMap_cons, List.flatMap_nil, List.map_cons, List.map_nil, List.sum_cons, List.sum_nil, Value.category, List.length_cons, List.length_nil, List.length_append, xa_rc, xa_rf, exists_eq_left, exists_eq', Option.some.injEq, Sum.inr.injEq, Prod.mk.injEq, Option.toList_some, Option.toList_none, List.cons_append, List.nil_append, Nat.reduceAdd, Nat.reduceLeDiff, Nat.reduceLT, List.set_cons_zero, List.set_cons_succ, eq_self, or_true, true_or, reduceIte, xt_ne, h5]
            exact nxt _ (by simp [xa_s1, xa_c1, h0]) (by simp [xa_s1, xa_c1, h1]) (by simp [xa_s1, xa_c1, h2]) (by simp [xa_s1, xa_c1, e1, xt_o]) (by simp [xa_s1, xa_c1, e1, xt_o]) (by simp [xa_s1, xa_c1, h5])
          cases hp : xq_lv (yT A) (yS A) s q with
          | none =>
            have e1 : xq_lv (yT A) (yS A) s (q + 1) = some (q, d) := by simp only [xq_lv, hq, hp]
            simp (disch := omega) only [↓ra_63_71, ↓ra_63_73, ↓ra_63_75, xa_kli, xa_klr, xa_kll, xa_ki, xa_kl, xa_kr, xa_kii, xa_kk, xa_kir, xa_krr, xa_kiir, xa_krir, xa_kdup, xa_kdup2, xa_kcp, xa_gf, xa_pf, xa_ga, xa_pa, xa_gq, xa_pq, xa_gl, xa_args, xa_ri, xa_rz, xa_rv, xa_s1, xa_s2, xa_c1, eq_self, List.getElem?_cons_succ, List.getElem?_cons_zero, true_and, and_true, nI_add, pk_mul, xt_in, xt_cl, xt_i0, xt_i1, xa_kc, xa_w8, xa_fit, lg_sl, List.flatMap_cons, List.flatMap_nil, List.map_cons, List.map_nil, List.sum_cons, List.sum_nil, Value.category, List.length_cons, List.length_nil, List.length_append, xa_rc, xa_rf, exists_eq_left, exists_eq', Option.some.injEq, Sum.inr.injEq, Prod.mk.injEq, Option.toList_some, Option.toList_none, List.cons_append, List.nil_append, Nat.reduceAdd, Nat.reduceLeDiff, Nat.reduceLT, List.set_cons_zero, List.set_cons_succ, eq_self, or_true, true_or, reduceIte, xt_ne, h4, hp, Option.map_none, xt_o]
            exact win e1
          | some wf =>
            obtain ⟨w, f⟩ := wf
            have lf := xq_lv_le q w f hp
            have hf : xt_o (some f) = nI f := rfl
            have hw : xt_o (some w) = nI w := rfl
            simp (disch := omega) only [↓ra_63_71, ↓ra_63_73, ↓ra_63_75, ↓ra_63_78, ↓ra_63_80, ↓ra_63_82, xa_kli, xa_klr, xa_kll, xa_ki, xa_kl, xa_kr, xa_kii, xa_kk, xa_kir, xa_krr, xa_kiir, xa_krir, xa_kdup, xa_kdup2, xa_kcp, xa_gf, xa_pf, xa_ga, xa_pa, xa_gq, xa_pq, xa_gl, xa_args, xa_ri, xa_rz, xa_rv, xa_s1, xa_s2, xa_c1, eq_self, List.getElem?_cons_succ, List.getElem?_cons_zero, true_and, and_true, nI_add, pk_mul, xt_in, xt_cl, xt_i0, xt_i1, xa_kc, xa_w8, xa_fit, lg_sl, List.flatMap_cons, List.flatMap_nil, List.map_cons, List.map_nil, List.sum_cons, List.sum_nil, Value.category, List.length_cons, List.length_nil, List.length_append, xa_rc, xa_rf, exists_eq_left, exists_eq', Option.some.injEq, Sum.inr.injEq, Prod.mk.injEq, Option.toList_some, Option.toList_none, List.cons_append, List.nil_append, Nat.reduceAdd, Nat.reduceLeDiff, Nat.reduceLT, List.set_cons_zero, List.set_cons_succ, eq_self, or_true, true_or, reduceIte, xt_ne, h4, hp, Option.map_some, hf, xt_m4n, if_false, xt_le]
            by_cases cf : d < f
            · simp only [if_neg (show ¬ f ≤ d by omega)]
              exact win (by simp only [xq_lv, hq, hp, if_pos cf])
            · simp only [if_pos (show f ≤ d by omega)]
              have e1 : xq_lv (yT A) (yS A) s (q + 1) = some (w, f) := by simp only [xq_lv, hq, hp, if_neg cf]
              exact nxt _ (by simp [xa_s1, xa_c1, h0]) (by simp [xa_s1, xa_c1, h1]) (by simp [xa_s1, xa_c1, h2]) (by simp [xa_s1, xa_c1, h3, hp, e1]) (by simp [xa_s1, xa_c1, h4, hp, e1]) (by simp [xa_s1, xa_c1, h5])
    simp (disch := omega) only [↓ra_63_33, ↓ra_63_35, ↓ra_63_36, ↓ra_63_38, ↓ra_63_40, ↓ra_63_41, xa_kli, xa_klr, xa_kll, xa_ki, xa_kl, xa_kr, xa_kii, xa_kk, xa_kir, xa_krr, xa_kiir, xa_krir, xa_kdup, xa_kdup2, xa_kcp, xa_gf, xa_pf, xa_ga, xa_pa, xa_gq, xa_pq, xa_gl, xa_args, xa_ri, xa_rz, xa_rv, xa_s1, xa_s2, xa_c1, eq_self, List.getElem?_cons_succ, List.getElem?_cons_zero, true_and, and_true, nI_add, pk_mul, xt_in, xt_cl, xt_i0, xt_i1, xa_kc, xa_w8, xa_fit, lg_sl, List.flatMap_cons, List.flatMap_nil, List.map_cons, List.map_nil, List.sum_cons, List.sum_nil, Value.category, List.length_cons, List.length_nil, List.length_append, xa_rc, xa_rf, exists_eq_left, exists_eq', Option.some.injEq, Sum.inr.injEq, Prod.mk.injEq, Option.toList_some, Option.toList_none, List.cons_append, List.nil_append, Nat.reduceAdd, Nat.reduceLeDiff, Nat.reduceLT, List.set_cons_zero, List.set_cons_succ, eq_self, or_true, true_or, reduceIte, xt_ne]
    exact loop (xC (yT A)) 0 _ M (by simp [xa_s1, xa_c1, h0]) (by simp [xa_s1, xa_c1, h1]) (by simp [xa_s1, xa_c1, h2]) (by simp [xa_s1, xa_c1, xq_lv, xt_o]) (by simp [xa_s1, xa_c1, xq_lv, xt_o]) (by simp [xa_s1, xa_c1]) (by omega) xa_fr_rf hA
theorem pm_way_n {M : xa_M} {b : Nat} {A : xt_A} (hA : xh_A M b A) (iA : xi_A A) {x y : Int32} (h : ¬ (xt_k x 0 (xnS (yT A)) ∧ xt_k y 1 (60 + 1))) : xa_E 64 0 (xa_ent [.ref b, .int x, .int y]) [] M (some (.int (Int32.ofInt (-1))), M) := by
  obtain ⟨hO, hX, hT, ⟨T0, hU⟩, hS, ⟨S0, hN⟩, hP, hK, hG, hW⟩ := id hA
  obtain ⟨iT, i5, i60, i1, ⟨iS, iD⟩, iX, iU, iK, iG⟩ := id iA
  obtain ⟨⟨b1, b2, b3, b4, b5, b6, b7, b8⟩, bs, bm, bw⟩ := id iT
  have o0 : xh_O M b := hO
  unfold xh_O at o0
  have t0 := hT.1
  have s0 := hS.1
  have n0 := hN.1
  have u0 := hU.1
  refine xa_go3 (fun lv h0 h1 h2 => ?_)
  by_cases a0 : xt_k x 0 (xnS (yT A))
  · have a1 : ¬ xt_k y 1 (60 + 1) := fun a => h ⟨a0, a⟩
    obtain ⟨k0, -, l0, rfl⟩ := a0
    have c0 := xa_iff (pc_noSerf_y hO hT k0 l0 b6)
    have c1 := xa_iff (pc_isNot_n (M := M) 1 60 a1 (by omega) (by omega))
    simp (disch := omega) only [↓ra_64_0, ↓ra_64_1, ↓ra_64_2, ↓ra_64_5, ↓ra_64_8, ↓ra_64_9, ↓ra_64_10, ↓ra_64_12, ↓ra_64_15, ↓ra_64_18, ↓ra_64_19, xa_kli, xa_klr, xa_kll, xa_ki, xa_kl, xa_kr, xa_kii, xa_kk, xa_kir, xa_krr, xa_kiir, xa_krir, xa_kdup, xa_kdup2, xa_kcp, xa_gf, xa_pf, xa_ga, xa_pa, xa_gq, xa_pq, xa_gl, xa_args, xa_ri, xa_rz, xa_rv, xa_s1, xa_s2, xa_c1, eq_self, List.getElem?_cons_succ, List.getElem?_cons_zero, true_and, and_true, nI_add, pk_mul, xt_in, xt_cl, xt_i0, xt_i1, xa_kc, xa_w8, xa_fit, lg_sl, List.flatMap_cons, List.flatMap_nil, List.map_cons, List.map_nil, List.sum_cons, List.sum_nil, Value.category, List.length_cons, List.length_nil, List.length_append, xa_rc, xa_rf, exists_eq_left, exists_eq', Option.some.injEq, Sum.inr.injEq, Prod.mk.injEq, Option.toList_some, Option.toList_none, List.cons_append, List.nil_append, Nat.reduceAdd, Nat.reduceLeDiff, Nat.reduceLT, List.set_cons_zero, List.set_cons_succ, eq_self, or_true, true_or, reduceIte, xt_ne, xt_eq, Nat.reduceEqDiff, Nat.one_ne_zero, if_false, h0, h1, h2, c0, c1, mx_78, mx_77, o0]
  · have c0 := xa_iff (pc_noSerf_n hO hT a0 b6)
    simp (disch := omega) only [↓ra_64_0, ↓ra_64_1, ↓ra_64_2, ↓ra_64_5, ↓ra_64_8, ↓ra_64_9, ↓ra_64_10, ↓ra_64_12, ↓ra_64_15, ↓ra_64_18, ↓ra_64_19, xa_kli, xa_klr, xa_kll, xa_ki, xa_kl, xa_kr, xa_kii, xa_kk, xa_kir, xa_krr, xa_kiir, xa_krir, xa_kdup, xa_kdup2, xa_kcp, xa_gf, xa_pf, xa_ga, xa_pa, xa_gq, xa_pq, xa_gl, xa_args, xa_ri, xa_rz, xa_rv, xa_s1, xa_s2, xa_c1, eq_self, List.getElem?_cons_succ, List.getElem?_cons_zero, true_and, and_true, nI_add, pk_mul, xt_in, xt_cl, xt_i0, xt_i1, xa_kc, xa_w8, xa_fit, lg_sl, List.flatMap_cons, List.flatMap_nil, List.map_cons, List.map_nil, List.sum_cons, List.sum_nil, Value.category, List.length_cons, List.length_nil, List.length_append, xa_rc, xa_rf, exists_eq_left, exists_eq', Option.some.injEq, Sum.inr.injEq, Prod.mk.injEq, Option.toList_some, Option.toList_none, List.cons_append, List.nil_append, Nat.reduceAdd, Nat.reduceLeDiff, Nat.reduceLT, List.set_cons_zero, List.set_cons_succ, eq_self, or_true, true_or, reduceIte, xt_ne, xt_eq, Nat.reduceEqDiff, Nat.one_ne_zero, if_false, h0, h1, h2, c0, mx_78, mx_77, o0]
def xs_way (A : xt_A) (s k : Nat) : Int32 := if xsh (yS A) s = 0 then xt_o (if xN (yT A) - xss (yS A) s < k then none else xq_go (xC (yT A)) (xq_F (yT A) (xsp (yS A)) s) (xN (yT A) - xss (yS A) s) k 0 (xq_sp (yT A) (yS A) s) (xsq (yS A) s)) else Int32.ofInt (-2)
theorem pm_way {M : xa_M} {b : Nat} {A : xt_A} (hA : xh_A M b A) (iA : xi_A A) (s k : Nat) (hs : s < xnS (yT A)) (k1 : 1 ≤ k) (hk : k ≤ 60) : ∃ z, xa_E 64 0 (xa_ent [.ref b, .int (nI s), .int (nI k)]) [] M z ∧ xm b M (xs_way A s k) A z := by
  obtain ⟨hO, hX, hT, ⟨T0, hU⟩, hS, ⟨S0, hN⟩, hP, hK, hG, hW⟩ := id hA
  obtain ⟨iT, i5, i60, i1, ⟨iS, iD⟩, iX, iU, iK, iG⟩ := id iA
  obtain ⟨⟨b1, b2, b3, b4, b5, b6, b7, b8⟩, bs, bm, bw⟩ := id iT
  have o0 : xh_O M b := hO
  unfold xh_O at o0
  have t0 := hT.1
  have s0 := hS.1
  have n0 := hN.1
  have u0 := hU.1
  have cn := xa_iff (pc_noSerf_y hO hT s hs b6)
  have cb := xa_iff (pc_isNot_y (M := M) k 1 60 k1 hk (by omega))
  have dd := iS.2.1 s hs
  obtain ⟨-, ⟨ga, q1, ea⟩, -⟩ := id hS
  have ea := ea s hs
  refine xa_ge3 (fun lv h0 h1 h2 => ?_)
  simp (disch := omega) only [↓ra_64_0, ↓ra_64_1, ↓ra_64_2, ↓ra_64_5, ↓ra_64_8, ↓ra_64_9, ↓ra_64_10, ↓ra_64_12, ↓ra_64_15, ↓ra_64_20, ↓ra_64_21, ↓ra_64_24, ↓ra_64_27, ↓ra_64_28, ↓ra_64_29, xa_kli, xa_klr, xa_kll, xa_ki, xa_kl, xa_kr, xa_kii, xa_kk, xa_kir, xa_krr, xa_kiir, xa_krir, xa_kdup, xa_kdup2, xa_kcp, xa_gf, xa_pf, xa_ga, xa_pa, xa_gq, xa_pq, xa_gl, xa_args, xa_ri, xa_rz, xa_rv, xa_s1, xa_s2, xa_c1, eq_self, List.getElem?_cons_succ, List.getElem?_cons_zero, true_and, and_true, nI_add, pk_mul, xt_in, xt_cl, xt_i0, xt_i1, xa_kc, xa_w8, xa_fit, lg_sl, List.flatMap_cons, List.flatMap_nil, List.map_cons, List.map_nil, List.sum_cons, List.sum_nil, Value.category, List.length_cons, List.length_nil, List.length_append, xa_rc, xa_rf, exists_eq_left, exists_eq', Option.some.injEq, Sum.inr.injEq, Prod.mk.injEq, Option.toList_some, Option.toList_none, List.cons_append, List.nil_append, Nat.reduceAdd, Nat.reduceLeDiff, Nat.reduceLT, List.set_cons_zero, List.set_cons_succ, eq_self, or_true, true_or, reduceIte, xt_ne, h0, h1, h2, cn, mx_78, cb, mx_77, o0, s0, q1, ea, xt_eq]
  unfold xs_way
  by_cases c : xsh (yS A) s = 0
  · simp only [if_pos c]
    obtain ⟨⟨z1, M1⟩, cE1, c1, f1, hS1⟩ := pc_copyS hN hS (by omega) b6 b7
    have c1 : z1 = none := c1
    subst c1
    dsimp only at f1 hS1
    have o1 := (f1.1 b (by omega)).trans o0
    have hT1 := xh_T_fr hT f1 (by omega)
    have s1 := hS1.1
    have t1 := hT1.1
    have dc := dd.2.2.2.2.1 c
    have hW1 := xh_W0_fr hW f1 (by omega)
    obtain ⟨⟨z2, M2⟩, cE2, c2, f2, hW2, hS2⟩ := pc_look hW1 hS1 hT1 (by omega) (by omega) (by omega) iT iS.2.2 i60 s hs dc.1 (by omega)
    have c2 : z2 = none := c2
    subst c2
    dsimp only at f2 hW2 hS2
    have o2 := (f2.1 b (by omega) (by omega)).trans o1
    have hT2 := xh_T_sm hT1 (M1 := M2) (fun a x y => f2.1 a (by omega) (by omega))
    have sp1 : xq_sp (yT A) (yS A) s ≤ 1 := by unfold xq_sp; split <;> omega
    have cq := xa_iff (pc_quarterOn hW2 hT2 b3 b4 (by omega) sp1 (xsq (yS A) s) k dd.2.1 hk)
    have w0 : ∃ fs, M1.1 (b + 102) = some (.inr (5, fs)) := by obtain ⟨_, _, _, _, _, _, w, _⟩ := hW1; exact ⟨_, w⟩
    obtain ⟨fs, w0⟩ := w0
    have w2 : ∃ fs, M2.1 (b + 102) = some (.inr (5, fs)) := by obtain ⟨_, _, _, w, _⟩ := hW2; exact ⟨_, w⟩
    obtain ⟨fs2, w2⟩ := w2
    obtain ⟨v0, -, ⟨g2, v2, e2⟩, -⟩ := id hS2
    have e2 := e2 s hs
    simp (disch := omega) only [↓ra_64_35, ↓ra_64_36, ↓ra_64_39, ↓ra_64_40, ↓ra_64_43, ↓ra_64_46, ↓ra_64_47, ↓ra_64_50, ↓ra_64_51, ↓ra_64_54, ↓ra_64_55, ↓ra_64_58, ↓ra_64_59, ↓ra_64_62, ↓ra_64_63, ↓ra_64_66, ↓ra_64_67, ↓ra_64_70, ↓ra_64_71, ↓ra_64_74, ↓ra_64_77, ↓ra_64_78, ↓ra_64_79, ↓ra_64_80, ↓ra_64_83, xa_kli, xa_klr, xa_kll, xa_ki, xa_kl, xa_kr, xa_kii, xa_kk, xa_kir, xa_krr, xa_kiir, xa_krir, xa_kdup, xa_kdup2, xa_kcp, xa_gf, xa_pf, xa_ga, xa_pa, xa_gq, xa_pq, xa_gl, xa_args, xa_ri, xa_rz, xa_rv, xa_s1, xa_s2, xa_c1, eq_self, List.getElem?_cons_succ, List.getElem?_cons_zero, true_and, and_true, nI_add, pk_mul, xt_in, xt_cl, xt_i0, xt_i1, xa_kc, xa_w8, xa_fit, lg_sl, List.flatMap_cons, List.flatMap_nil, List.map_cons, List.map_nil, List.sum_cons, List.sum_nil, Value.category, List.length_cons, List.length_nil, List.length_append, xa_rc, xa_rf, exists_eq_left, exists_eq', Option.some.injEq, Sum.inr.injEq, Prod.mk.injEq, Option.toList_some, Option.toList_none, List.cons_append, List.nil_append, Nat.reduceAdd, Nat.reduceLeDiff, Nat.reduceLT, List.set_cons_zero, List.set_cons_succ, eq_self, or_true, true_or, reduceIte, xt_ne, xt_eq, Nat.reduceEqDiff, Nat.one_ne_zero, if_false, h0, h1, h2, o0, o1, o2, s0, n0, v0, v2, e2, w0, w2, xa_iff cE1, mx_9, xa_iff cE2, mx_44, cq, mx_48]
    have hA1 := xA_N ⟨_, xh_S0 hS1⟩ hA f1
    obtain ⟨-, -, -, ⟨TU, hU1⟩, -⟩ := id hA1
    exact ⟨rfl, xa_fr_tr (xa_fr_w f1 (by omega) (by omega)) (xa_f2_fr f2 (by omega) (by omega) (by omega) (by omega)), xA_2 hA1 f2 (by omega) (by omega) (by omega) (by omega) ⟨_, xh_T_sm hU1 (fun a x y => f2.1 a (by omega) (by omega))⟩ ⟨_, xh_S0 hS2⟩ (xh_W_W0 hW2)⟩
  · simp only [if_neg c]
    simp (disch := omega) only [↓ra_64_32, ↓ra_64_34, xa_kli, xa_klr, xa_kll, xa_ki, xa_kl, xa_kr, xa_kii, xa_kk, xa_kir, xa_krr, xa_kiir, xa_krir, xa_kdup, xa_kdup2, xa_kcp, xa_gf, xa_pf, xa_ga, xa_pa, xa_gq, xa_pq, xa_gl, xa_args, xa_ri, xa_rz, xa_rv, xa_s1, xa_s2, xa_c1, eq_self, List.getElem?_cons_succ, List.getElem?_cons_zero, true_and, and_true, nI_add, pk_mul, xt_in, xt_cl, xt_i0, xt_i1, xa_kc, xa_w8, xa_fit, lg_sl, List.flatMap_cons, List.flatMap_nil, List.map_cons, List.map_nil, List.sum_cons, List.sum_nil, Value.category, List.length_cons, List.length_nil, List.length_append, xa_rc, xa_rf, exists_eq_left, exists_eq', Option.some.injEq, Sum.inr.injEq, Prod.mk.injEq, Option.toList_some, Option.toList_none, List.cons_append, List.nil_append, Nat.reduceAdd, Nat.reduceLeDiff, Nat.reduceLT, List.set_cons_zero, List.set_cons_succ, eq_self, or_true, true_or, reduceIte, xt_ne]
    exact xm_r hA
