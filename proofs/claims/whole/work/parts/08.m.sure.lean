theorem pm_lords_n {M : xa_M} {b : Nat} {A : xt_A} (hA : xh_A M b A) (iA : xi_A A) {x : Int32} (h : ¬ (xt_k x 0 (xnS (yT A)))) : xa_E 70 0 (xa_ent [.ref b, .int x]) [] M (some (.int (Int32.ofInt (-1))), M) := by
  obtain ⟨hO, hX, hT, ⟨T0, hU⟩, hS, ⟨S0, hN⟩, hP, hK, hG, hW⟩ := id hA
  obtain ⟨iT, i5, i60, i1, ⟨iS, iD⟩, iX, iU, iK, iG⟩ := id iA
  obtain ⟨⟨b1, b2, b3, b4, b5, b6, b7, b8⟩, bs, bm, bw⟩ := id iT
  have o0 : xh_O M b := hO
  unfold xh_O at o0
  have t0 := hT.1
  have s0 := hS.1
  have n0 := hN.1
  have u0 := hU.1
  refine xa_go2 (fun lv h0 h1 => ?_)
  have a0 : ¬ xt_k x 0 (xnS (yT A)) := h
  have c0 := xa_iff (pc_noSerf_n hO hT a0 b6)
  simp (disch := omega) only [↓ra_70_0, ↓ra_70_1, ↓ra_70_2, ↓ra_70_5, ↓ra_70_8, ↓ra_70_9, xa_kli, xa_klr, xa_kll, xa_ki, xa_kl, xa_kr, xa_kii, xa_kk, xa_kir, xa_krr, xa_kiir, xa_krir, xa_kdup, xa_kdup2, xa_kcp, xa_gf, xa_pf, xa_ga, xa_pa, xa_gq, xa_pq, xa_gl, xa_args, xa_ri, xa_rz, xa_rv, xa_s1, xa_s2, xa_c1, eq_self, List.getElem?_cons_succ, List.getElem?_cons_zero, true_and, and_true, nI_add, pk_mul, xt_in, xt_cl, xt_i0, xt_i1, xa_kc, xa_w8, xa_fit, lg_sl, List.flatMap_cons, List.flatMap_nil, List.map_cons, List.map_nil, List.sum_cons, List.sum_nil, Value.category, List.length_cons, List.length_nil, List.length_append, xa_rc, xa_rf, exists_eq_left, exists_eq', Option.some.injEq, Sum.inr.injEq, Prod.mk.injEq, Option.toList_some, Option.toList_none, List.cons_append, List.nil_append, Nat.reduceAdd, Nat.reduceLeDiff, Nat.reduceLT, List.set_cons_zero, List.set_cons_succ, eq_self, or_true, true_or, reduceIte, xt_ne, xt_eq, Nat.reduceEqDiff, Nat.one_ne_zero, if_false, h0, h1, c0, mx_78, mx_77, o0]
def xq_isl (A : xt_A) (s l : Nat) : Bool := xq_cb (xq_lo (yT A) s l) (yG A).1 (yG A).2.1 (yG A).2.2.1 (yG A).2.2.2 s 99 (xq_b (xq_lo (yT A) s l))
def xs_lords (A : xt_A) (s : Nat) : Int32 := nI (xt_bs (xq_isl A s) 3)
theorem pm_lords {M : xa_M} {b : Nat} {A : xt_A} (hA : xh_A M b A) (iA : xi_A A) (s : Nat) (hs : s < xnS (yT A)) : ∃ y0, xa_E 70 0 (xa_ent [.ref b, .int (nI s)]) [] M y0 ∧ xm b M (xs_lords A s) A y0 := by
  obtain ⟨hO, hX, hT, ⟨T0, hU⟩, hS, ⟨S0, hN⟩, hP, hK, hG, hW⟩ := id hA
  obtain ⟨iT, i5, i60, i1, ⟨iS, iD⟩, iX, iU, iK, iG⟩ := id iA
  obtain ⟨⟨b1, b2, b3, b4, b5, b6, b7, b8⟩, bs, bm, bw⟩ := id iT
  have o0 : xh_O M b := hO
  unfold xh_O at o0
  have t0 := hT.1
  have s0 := hS.1
  have n0 := hN.1
  have u0 := hU.1
  have cn := xa_iff (pc_noSerf_y hO hT s hs b6)
  have ig : ∀ i, i < (yG A).1 → (yG A).2.1 i < 2147483648 ∧ (yG A).2.2.1 i < 2147483648 ∧ (yG A).2.2.2 i < 2147483648 := fun i hi => by have := iG.2 i hi; omega
  refine xa_ge2 (fun lv h0 h1 => ?_)
  have loop : ∀ (r l : Nat) (lv : xa_L) (M1 : xa_M), lv 0 = some (.ref b) → lv 1 = some (.int (nI s)) → lv 2 = some (.int (nI (xt_bs (xq_isl A s) l))) → lv 3 = some (.int (nI l)) → l + r = 3 → xa_fr b (b + 107) M M1 → xh_A M1 b A → ∃ z, xa_E 70 14 lv [] M1 z ∧ xm b M (xs_lords A s) A z := by
    intro r
    induction r with
    | zero =>
      intro l lv M1 h0 h1 h2 h3 e fr hA1
      have e : l = 3 := by omega
      subst e
      simp (disch := omega) only [↓ra_70_14, ↓ra_70_15, ↓ra_70_16, ↓ra_70_40, ↓ra_70_41, xa_kli, xa_klr, xa_kll, xa_ki, xa_kl, xa_kr, xa_kii, xa_kk, xa_kir, xa_krr, xa_kiir, xa_krir, xa_kdup, xa_kdup2, xa_kcp, xa_gf, xa_pf, xa_ga, xa_pa, xa_gq, xa_pq, xa_gl, xa_args, xa_ri, xa_rz, xa_rv, xa_s1, xa_s2, xa_c1, eq_self, List.getElem?_cons_succ, List.getElem?_cons_zero, true_and, and_true, nI_add, pk_mul, xt_in, xt_cl, xt_i0, xt_i1, xa_kc, xa_w8, xa_fit, lg_sl, List.flatMap_cons, List.flatMap_nil, List.map_cons, List.map_nil, List.sum_cons, List.sum_nil, Value.category, List.length_cons, List.length_nil, List.length_append, xa_rc, xa_rf, exists_eq_left, exists_eq', Option.some.injEq, Sum.inr.injEq, Prod.mk.injEq, Option.toList_some, Option.toList_none, List.cons_append, List.nil_append, Nat.reduceAdd, Nat.reduceLeDiff, Nat.reduceLT, List.set_cons_zero, List.set_cons_succ, eq_self, or_true, true_or, reduceIte, xt_ne, h0, h1, h2, h3, xt_le, Nat.le_refl]
      exact ⟨rfl, fr, hA1⟩
    | succ r ih =>
      intro l lv M1 h0 h1 h2 h3 e fr hA1
      obtain ⟨hO1, -, hT1, ⟨TU, hU1⟩, hS1, ⟨S1, hN1⟩, -, -, hG1, hW1⟩ := id hA1
      have o1 : xh_O M1 b := hO1
      unfold xh_O at o1
      obtain ⟨⟨z2, M2⟩, cE2, c2, f2, hU2, hN2⟩ := pc_couldBeOf hO1 hT1 hU1 hN1 hG1 iT iG.1 ig s l hs (by omega)
      have c2 : z2 = _ := c2
      subst c2
      dsimp only at f2 hN2 hU2
      change xa_E _ _ _ _ _ (some (.int (nI (if xq_isl A s l = true then 1 else 0))), M2) at cE2
      have fr2 := xa_fr_tr fr (xa_f2_fr f2 (lo := b) (hi := b + 107) (by omega) (by omega) (by omega) (by omega))
      have hA2 := xA_2 hA1 f2 (by omega) (by omega) (by omega) (by omega) hU2 hN2 (xh_W0_sm hW1 (fun a x y => f2.1 a (by omega) (by omega)))
      simp (disch := omega) only [↓ra_70_14, ↓ra_70_15, ↓ra_70_16, xa_kli, xa_klr, xa_kll, xa_ki, xa_kl, xa_kr, xa_kii, xa_kk, xa_kir, xa_krr, xa_kiir, xa_krir, xa_kdup, xa_kdup2, xa_kcp, xa_gf, xa_pf, xa_ga, xa_pa, xa_gq, xa_pq, xa_gl, xa_args, xa_ri, xa_rz, xa_rv, xa_s1, xa_s2, xa_c1, eq_self, List.getElem?_cons_succ, List.getElem?_cons_zero, true_and, and_true, nI_add, pk_mul, xt_in, xt_cl, xt_i0, xt_i1, xa_kc, xa_w8, xa_fit, lg_sl, List.flatMap_cons, List.flatMap_nil, List.map_cons, List.map_nil, List.sum_cons, List.sum_nil, Value.category, List.length_cons, List.length_nil, List.length_append, xa_rc, xa_rf, exists_eq_left, exists_eq', Option.some.injEq, Sum.inr.injEq, Prod.mk.injEq, Option.toList_some, Option.toList_none, List.cons_append, List.nil_append, Nat.reduceAdd, Nat.reduceLeDiff, Nat.reduceLT, List.set_cons_zero, List.set_cons_succ, eq_self, or_true, true_or, reduceIte, xt_ne, h0, h1, h2, h3, xt_le]
      simp only [if_neg (show ¬ 3 ≤ l by omega)]
      simp (disch := omega) only [↓ra_70_19, ↓ra_70_20, ↓ra_70_21, ↓ra_70_22, ↓ra_70_25, xa_kli, xa_klr, xa_kll, xa_ki, xa_kl, xa_kr, xa_kii, xa_kk, xa_kir, xa_krr, xa_kiir, xa_krir, xa_kdup, xa_kdup2, xa_kcp, xa_gf, xa_pf, xa_ga, xa_pa, xa_gq, xa_pq, xa_gl, xa_args, xa_ri, xa_rz, xa_rv, xa_s1, xa_s2, xa_c1, eq_self, List.getElem?_cons_succ, List.getElem?_cons_zero, true_and, and_true, nI_add, pk_mul, xt_in, xt_cl, xt_i0, xt_i1, xa_kc, xa_w8, xa_fit, lg_sl, List.flatMap_cons, List.flatMap_nil, List.map_cons, List.map_nil, List.sum_cons, List.sum_nil, Value.category, List.length_cons, List.length_nil, List.length_append, xa_rc, xa_rf, exists_eq_left, exists_eq', Option.some.injEq, Sum.inr.injEq, Prod.mk.injEq, Option.toList_some, Option.toList_none, List.cons_append, List.nil_append, Nat.reduceAdd, Nat.reduceLeDiff, Nat.reduceLT, List.set_cons_zero, List.set_cons_succ, eq_self, or_true, true_or, reduceIte, xt_ne, h0, h1, h2, h3, o1, xa_iff cE2, mx_85, xt_b0]
      by_cases c : xq_isl A s l = true
      · simp only [c, not_true_eq_false, if_false]
        simp (disch := omega) only [↓ra_70_28, ↓ra_70_29, ↓ra_70_30, ↓ra_70_31, ↓ra_70_32, ↓ra_70_33, ↓ra_70_34, ↓ra_70_37, xa_kli, xa_klr, xa_kll, xa_ki, xa_kl, xa_kr, xa_kii, xa_kk, xa_kir, xa_krr, xa_kiir, xa_krir, xa_kdup, xa_kdup2, xa_kcp, xa_gf, xa_pf, xa_ga, xa_pa, xa_gq, xa_pq, xa_gl, xa_args, xa_ri, xa_rz, xa_rv, xa_s1, xa_s2, xa_c1, eq_self, List.getElem?_cons_succ, List.getElem?_cons_zero, true_and, and_true, nI_add, pk_mul, xt_in, xt_cl, xt_i0, xt_i1, xa_kc, xa_w8, xa_fit, lg_sl, List.flatMap_cons, List.flatMap_nil, List.map_cons, List.map_nil, List.sum_cons, List.sum_nil, Value.category, List.length_cons, List.length_nil, List.length_append, xa_rc, xa_rf, exists_eq_left, exists_eq', Option.some.injEq, Sum.inr.injEq, Prod.mk.injEq, Option.toList_some, Option.toList_none, List.cons_append, List.nil_append, Nat.reduceAdd, Nat.reduceLeDiff, Nat.reduceLT, List.set_cons_zero, List.set_cons_succ, eq_self, or_true, true_or, reduceIte, xt_ne, h0, h2, h3, xt_bit, xt_or]
        exact ih (l + 1) _ M2 (by simp [xa_s1, xa_c1, h0]) (by simp [xa_s1, xa_c1, h1]) (by simp [xa_s1, xa_c1, xt_bs, c]) (by simp [xa_s1, xa_c1]) (by omega) fr2 hA2
      · simp only [c, not_false_eq_true, if_true]
        simp (disch := omega) only [↓ra_70_34, ↓ra_70_37, xa_kli, xa_klr, xa_kll, xa_ki, xa_kl, xa_kr, xa_kii, xa_kk, xa_kir, xa_krr, xa_kiir, xa_krir, xa_kdup, xa_kdup2, xa_kcp, xa_gf, xa_pf, xa_ga, xa_pa, xa_gq, xa_pq, xa_gl, xa_args, xa_ri, xa_rz, xa_rv, xa_s1, xa_s2, xa_c1, eq_self, List.getElem?_cons_succ, List.getElem?_cons_zero, true_and, and_true, nI_add, pk_mul, xt_in, xt_cl, xt_i0, xt_i1, xa_kc, xa_w8, xa_fit, lg_sl, List.flatMap_cons, List.flatMap_nil, List.map_cons, List.map_nil, List.sum_cons, List.sum_nil, Value.category, List.length_cons, List.length_nil, List.length_append, xa_rc, xa_rf, exists_eq_left, exists_eq', Option.some.injEq, Sum.inr.injEq, Prod.mk.injEq, Option.toList_some, Option.toList_none, List.cons_append, List.nil_append, Nat.reduceAdd, Nat.reduceLeDiff, Nat.reduceLT, List.set_cons_zero, List.set_cons_succ, eq_self, or_true, true_or, reduceIte, xt_ne, h0, h2, h3]
        exact ih (l + 1) _ M2 (by simp [xa_s1, xa_c1, h0]) (by simp [xa_s1, xa_c1, h1]) (by simp [xa_s1, xa_c1, xt_bs, c, h2]) (by simp [xa_s1, xa_c1]) (by omega) fr2 hA2
  simp (disch := omega) only [↓ra_70_0, ↓ra_70_1, ↓ra_70_2, ↓ra_70_5, ↓ra_70_10, ↓ra_70_11, ↓ra_70_12, ↓ra_70_13, xa_kli, xa_klr, xa_kll, xa_ki, xa_kl, xa_kr, xa_kii, xa_kk, xa_kir, xa_krr, xa_kiir, xa_krir, xa_kdup, xa_kdup2, xa_kcp, xa_gf, xa_pf, xa_ga, xa_pa, xa_gq, xa_pq, xa_gl, xa_args, xa_ri, xa_rz, xa_rv, xa_s1, xa_s2, xa_c1, eq_self, List.getElem?_cons_succ, List.getElem?_cons_zero, true_and, and_true, nI_add, pk_mul, xt_in, xt_cl, xt_i0, xt_i1, xa_kc, xa_w8, xa_fit, lg_sl, List.flatMap_cons, List.flatMap_nil, List.map_cons, List.map_nil, List.sum_cons, List.sum_nil, Value.category, List.length_cons, List.length_nil, List.length_append, xa_rc, xa_rf, exists_eq_left, exists_eq', Option.some.injEq, Sum.inr.injEq, Prod.mk.injEq, Option.toList_some, Option.toList_none, List.cons_append, List.nil_append, Nat.reduceAdd, Nat.reduceLeDiff, Nat.reduceLT, List.set_cons_zero, List.set_cons_succ, eq_self, or_true, true_or, reduceIte, xt_ne, xt_eq, Nat.reduceEqDiff, Nat.one_ne_zero, if_false, h0, h1, cn, mx_78, o0]
  exact loop 3 0 _ M (by simp [xa_s1, xa_c1, h0]) (by simp [xa_s1, xa_c1, h1]) (by simp [xa_s1, xa_c1, xt_bs]) (by simp [xa_s1, xa_c1]) (by omega) xa_fr_rf hA
theorem pm_leap_n {M : xa_M} {b : Nat} {A : xt_A} (hA : xh_A M b A) (iA : xi_A A) {x : Int32} (h : ¬ (xt_k x 1 (99 + 1))) : xa_E 71 0 (xa_ent [.ref b, .int x]) [] M (some (.int (Int32.ofInt (-1))), M) := by
  obtain ⟨hO, hX, hT, ⟨T0, hU⟩, hS, ⟨S0, hN⟩, hP, hK, hG, hW⟩ := id hA
  obtain ⟨iT, i5, i60, i1, ⟨iS, iD⟩, iX, iU, iK, iG⟩ := id iA
  obtain ⟨⟨b1, b2, b3, b4, b5, b6, b7, b8⟩, bs, bm, bw⟩ := id iT
  have o0 : xh_O M b := hO
  unfold xh_O at o0
  have t0 := hT.1
  have s0 := hS.1
  have n0 := hN.1
  have u0 := hU.1
  refine xa_go2 (fun lv h0 h1 => ?_)
  have a0 : ¬ xt_k x 1 (99 + 1) := h
  have c0 := xa_iff (pc_isNot_n (M := M) 1 99 a0 (by omega) (by omega))
  simp (disch := omega) only [↓ra_71_0, ↓ra_71_1, ↓ra_71_2, ↓ra_71_4, ↓ra_71_7, ↓ra_71_10, ↓ra_71_11, xa_kli, xa_klr, xa_kll, xa_ki, xa_kl, xa_kr, xa_kii, xa_kk, xa_kir, xa_krr, xa_kiir, xa_krir, xa_kdup, xa_kdup2, xa_kcp, xa_gf, xa_pf, xa_ga, xa_pa, xa_gq, xa_pq, xa_gl, xa_args, xa_ri, xa_rz, xa_rv, xa_s1, xa_s2, xa_c1, eq_self, List.getElem?_cons_succ, List.getElem?_cons_zero, true_and, and_true, nI_add, pk_mul, xt_in, xt_cl, xt_i0, xt_i1, xa_kc, xa_w8, xa_fit, lg_sl, List.flatMap_cons, List.flatMap_nil, List.map_cons, List.map_nil, List.sum_cons, List.sum_nil, Value.category, List.length_cons, List.length_nil, List.length_append, xa_rc, xa_rf, exists_eq_left, exists_eq', Option.some.injEq, Sum.inr.injEq, Prod.mk.injEq, Option.toList_some, Option.toList_none, List.cons_append, List.nil_append, Nat.reduceAdd, Nat.reduceLeDiff, Nat.reduceLT, List.set_cons_zero, List.set_cons_succ, eq_self, or_true, true_or, reduceIte, xt_ne, xt_eq, Nat.reduceEqDiff, Nat.one_ne_zero, if_false, h0, h1, c0, mx_78, mx_77, o0]
/-- one day more is wanted -/
def xq_n1 (T : xt_T) : xt_T := ((xN T + 1, xC T, xG T, xnS T, xnM T, xnW T), T.2)
def xs_leap (A : xt_A) (n : Nat) : Int32 := nI (xq_fb (yT A) n (yS A) &&& (63 ^^^ xq_fb (xq_n1 (yT A)) n (yS A)))
theorem xi_n1 {T : xt_T} (iT : xi_T T) (h : xN T ≤ 60) : xi_T (xq_n1 T) := by
  obtain ⟨⟨b1, b2, b3, b4, b5, b6, b7, b8⟩, bs, bm, bw⟩ := iT
  exact ⟨⟨by show 2 ≤ xN T + 1; omega, by show xN T + 1 ≤ 61; omega, b3, b4, b5, b6, b7, b8⟩, bs, bm, bw⟩
theorem xi_n1S {T : xt_T} {S : xt_S} (iS : xi_S T S) : xi_S (xq_n1 T) S := by
  obtain ⟨a, c, d⟩ := iS
  refine ⟨a, fun s hs => ?_, d⟩
  have := c s hs
  exact ⟨this.1, this.2.1, this.2.2.1, this.2.2.2.1, fun h => ⟨Nat.lt_succ_of_lt (this.2.2.2.2.1 h).1, (this.2.2.2.2.1 h).2⟩, this.2.2.2.2.2⟩
theorem pm_leap {M : xa_M} {b : Nat} {A : xt_A} (hA : xh_A M b A) (iA : xi_A A) (n : Nat) (n1 : 1 ≤ n) (n2 : n ≤ 99) : ∃ y0, xa_E 71 0 (xa_ent [.ref b, .int (nI n)]) [] M y0 ∧ xm b M (xs_leap A n) A y0 := by
  obtain ⟨hO, hX, hT, ⟨T0, hU⟩, hS, ⟨S0, hN⟩, hP, hK, hG, hW⟩ := id hA
  obtain ⟨iT, i5, i60, i1, ⟨iS, iD⟩, iX, iU, iK, iG⟩ := id iA
  obtain ⟨⟨b1, b2, b3, b4, b5, b6, b7, b8⟩, bs, bm, bw⟩ := id iT
  have o0 : xh_O M b := hO
  unfold xh_O at o0
  have t0 := hT.1
  have s0 := hS.1
  have n0 := hN.1
  have u0 := hU.1
  have ca := xa_iff (pc_isNot_y (M := M) n 1 99 n1 n2 (by omega))
  refine xa_ge2 (fun lv h0 h1 => ?_)
  obtain ⟨⟨z1, M1⟩, cE1, c1, f1, hU1⟩ := pc_copyT hU hT (by omega) b6 b7 b8
  have c1 : z1 = none := c1
  subst c1
  dsimp only at f1 hU1
  have o1 := (f1.1 b (by omega)).trans o0
  obtain ⟨⟨z2, M2⟩, cE2, c2, f2, ⟨S2, hN2⟩⟩ := pc_freeBehind (b := b) o1 hU1 (xh_S_fr hS f1 (by omega)) (xh_S_fr hN f1 (by omega)) iT iS (by omega) n n2
  have c2 : z2 = _ := c2
  subst c2
  dsimp only at f2 hN2
  have o2 := (f2.1 b (by omega)).trans o1
  have hU2 := xh_T_fr hU1 f2 (by omega)
  have u2 := hU2.1
  have hS2 := xh_S_fr (xh_S_fr hS f1 (by omega)) f2 (by omega)
  simp (disch := omega) only [↓ra_71_0, ↓ra_71_1, ↓ra_71_2, ↓ra_71_4, ↓ra_71_7, ↓ra_71_12, ↓ra_71_13, ↓ra_71_16, ↓ra_71_17, ↓ra_71_20, ↓ra_71_23, ↓ra_71_24, ↓ra_71_25, ↓ra_71_28, ↓ra_71_29, ↓ra_71_30, ↓ra_71_33, ↓ra_71_34, ↓ra_71_37, ↓ra_71_38, ↓ra_71_39, xa_kli, xa_klr, xa_kll, xa_ki, xa_kl, xa_kr, xa_kii, xa_kk, xa_kir, xa_krr, xa_kiir, xa_krir, xa_kdup, xa_kdup2, xa_kcp, xa_gf, xa_pf, xa_ga, xa_pa, xa_gq, xa_pq, xa_gl, xa_args, xa_ri, xa_rz, xa_rv, xa_s1, xa_s2, xa_c1, eq_self, List.getElem?_cons_succ, List.getElem?_cons_zero, true_and, and_true, nI_add, pk_mul, xt_in, xt_cl, xt_i0, xt_i1, xa_kc, xa_w8, xa_fit, lg_sl, List.flatMap_cons, List.flatMap_nil, List.map_cons, List.map_nil, List.sum_cons, List.sum_nil, Value.category, List.length_cons, List.length_nil, List.length_append, xa_rc, xa_rf, exists_eq_left, exists_eq', Option.some.injEq, Sum.inr.injEq, Prod.mk.injEq, Option.toList_some, Option.toList_none, List.cons_append, List.nil_append, Nat.reduceAdd, Nat.reduceLeDiff, Nat.reduceLT, List.set_cons_zero, List.set_cons_succ, eq_self, or_true, true_or, reduceIte, xt_ne, xt_eq, Nat.reduceEqDiff, Nat.one_ne_zero, if_false, h0, h1, ca, mx_77, o0, o1, o2, t0, u0, u2, xa_iff cE1, mx_30, xa_iff cE2, mx_86]
  have hU3 : xh_T (xa_st M2 (b + 13) (.inr (4, [.int (nI (xN (yT A) + 1)), .int (nI (xC (yT A))), .int (nI (xG (yT A))), .int (nI (xnS (yT A))), .ref (b + 13 + 1), .ref (b + 13 + 2), .ref (b + 13 + 3), .int (nI (xnM (yT A))), .ref (b + 13 + 4), .ref (b + 13 + 5), .ref (b + 13 + 6), .int (nI (xnW (yT A))), .ref (b + 13 + 7), .ref (b + 13 + 8)]))) (b + 13) (xq_n1 (yT A)) := by
    obtain ⟨-, v1, v2, v3, v4, v5, v6, v7, v8⟩ := hU2
    exact ⟨xa_st_eq, xa_ar_ne v1 (by omega), xa_ar_ne v2 (by omega), xa_ar_ne v3 (by omega), xa_ar_ne v4 (by omega), xa_ar_ne v5 (by omega), xa_ar_ne v6 (by omega), xa_ar_ne v7 (by omega), xa_ar_ne v8 (by omega)⟩
  generalize hM3 : xa_st M2 (b + 13) _ = M3 at hU3 ⊢
  have f3 : xa_fr (b + 13) (b + 22) M2 M3 := by rw [← hM3]; exact xa_fr_st (by omega) (by omega)
  have o3 := (f3.1 b (by omega)).trans o2
  obtain ⟨⟨z4, M4⟩, cE4, c4, f4, ⟨S4, hN4⟩⟩ := pc_freeBehind (b := b) o3 hU3 (xh_S_fr hS2 f3 (by omega)) (xh_S_fr hN2 f3 (by omega)) (xi_n1 iT i60) (xi_n1S iS) (by omega) n n2
  have c4 : z4 = _ := c4
  subst c4
  dsimp only at f4 hN4
  have l1 : xq_fb (yT A) n (yS A) < 64 := xt_bs_64 _ _ b6
  have l2 : xq_fb (xq_n1 (yT A)) n (yS A) < 64 := xt_bs_64 _ _ b6
  simp (disch := omega) only [↓ra_71_42, ↓ra_71_43, ↓ra_71_44, ↓ra_71_45, ↓ra_71_48, ↓ra_71_49, ↓ra_71_50, ↓ra_71_51, xa_kli, xa_klr, xa_kll, xa_ki, xa_kl, xa_kr, xa_kii, xa_kk, xa_kir, xa_krr, xa_kiir, xa_krir, xa_kdup, xa_kdup2, xa_kcp, xa_gf, xa_pf, xa_ga, xa_pa, xa_gq, xa_pq, xa_gl, xa_args, xa_ri, xa_rz, xa_rv, xa_s1, xa_s2, xa_c1, eq_self, List.getElem?_cons_succ, List.getElem?_cons_zero, true_and, and_true, nI_add, pk_mul, xt_in, xt_cl, xt_i0, xt_i1, xa_kc, xa_w8, xa_fit, lg_sl, List.flatMap_cons, List.flatMap_nil, List.map_cons, List.map_nil, List.sum_cons, List.sum_nil, Value.category, List.length_cons, List.length_nil, List.length_append, xa_rc, xa_rf, exists_eq_left, exists_eq', Option.some.injEq, Sum.inr.injEq, Prod.mk.injEq, Option.toList_some, Option.toList_none, List.cons_append, List.nil_append, Nat.reduceAdd, Nat.reduceLeDiff, Nat.reduceLT, List.set_cons_zero, List.set_cons_succ, eq_self, or_true, true_or, reduceIte, xt_ne, xt_eq, Nat.reduceEqDiff, Nat.one_ne_zero, if_false, h0, h1, o3, xa_iff cE4, mx_86, xt_andn]
  have hA1 := xA_U ⟨_, hU1⟩ hA f1
  have hA2 := xA_N ⟨_, hN2⟩ hA1 f2
  have hA3 := xA_U ⟨_, hU3⟩ hA2 f3
  have hA4 := xA_N ⟨_, hN4⟩ hA3 f4
  exact ⟨rfl, xa_fr_tr (xa_fr_tr (xa_fr_tr (xa_fr_w f1 (by omega) (by omega)) (xa_fr_w f2 (by omega) (by omega))) (xa_fr_w f3 (by omega) (by omega))) (xa_fr_w f4 (by omega) (by omega)), hA4⟩
theorem pm_sure_n {M : xa_M} {b : Nat} {A : xt_A} (hA : xh_A M b A) (iA : xi_A A) {x y w v : Int32} (h : ¬ (xt_k x 0 (8 + 1) ∧ xt_k y 0 (10 + 1) ∧ xt_k w 0 (1 + 1) ∧ xt_k v 0 (1 + 1))) : xa_E 72 0 (xa_ent [.ref b, .int x, .int y, .int w, .int v]) [] M (some (.int (Int32.ofInt (-1))), M) := by
  obtain ⟨hO, hX, hT, ⟨T0, hU⟩, hS, ⟨S0, hN⟩, hP, hK, hG, hW⟩ := id hA
  obtain ⟨iT, i5, i60, i1, ⟨iS, iD⟩, iX, iU, iK, iG⟩ := id iA
  obtain ⟨⟨b1, b2, b3, b4, b5, b6, b7, b8⟩, bs, bm, bw⟩ := id iT
  have o0 : xh_O M b := hO
  unfold xh_O at o0
  have t0 := hT.1
  have s0 := hS.1
  have n0 := hN.1
  have u0 := hU.1
  refine xa_go5 (fun lv h0 h1 h2 h3 h4 => ?_)
  by_cases a0 : xt_k x 0 (8 + 1)
  · by_cases a1 : xt_k y 0 (10 + 1)
    · by_cases a2 : xt_k w 0 (1 + 1)
      · have a3 : ¬ xt_k v 0 (1 + 1) := fun a => h ⟨a0, a1, a2, a⟩
        obtain ⟨k0, m0, l0, rfl⟩ := a0
        have c0 := xa_iff (pc_isNot_y (M := M) k0 0 8 m0 (by omega) (by omega))
        obtain ⟨k1, m1, l1, rfl⟩ := a1
        have c1 := xa_iff (pc_isNot_y (M := M) k1 0 10 m1 (by omega) (by omega))
        obtain ⟨k2, m2, l2, rfl⟩ := a2
        have c2 := xa_iff (pc_isNot_y (M := M) k2 0 1 m2 (by omega) (by omega))
        have c3 := xa_iff (pc_isNot_n (M := M) 0 1 a3 (by omega) (by omega))
        simp (disch := omega) only [↓ra_72_0, ↓ra_72_1, ↓ra_72_2, ↓ra_72_4, ↓ra_72_7, ↓ra_72_10, ↓ra_72_11, ↓ra_72_12, ↓ra_72_14, ↓ra_72_17, ↓ra_72_20, ↓ra_72_21, ↓ra_72_22, ↓ra_72_23, ↓ra_72_26, ↓ra_72_29, ↓ra_72_31, ↓ra_72_32, ↓ra_72_33, ↓ra_72_36, ↓ra_72_39, ↓ra_72_40, xa_kli, xa_klr, xa_kll, xa_ki, xa_kl, xa_kr, xa_kii, xa_kk, xa_kir, xa_krr, xa_kiir, xa_krir, xa_kdup, xa_kdup2, xa_kcp, xa_gf, xa_pf, xa_ga, xa_pa, xa_gq, xa_pq, xa_gl, xa_args, xa_ri, xa_rz, xa_rv, xa_s1, xa_s2, xa_c1, eq_self, List.getElem?_cons_succ, List.getElem?_cons_zero, true_and, and_true, nI_add, pk_mul, xt_in, xt_cl, xt_i0, xt_i1, xa_kc, xa_w8, xa_fit, lg_sl, List.flatMap_cons, List.flatMap_nil, List.map_cons, List.map_nil, List.sum_cons, List.sum_nil, Value.category, List.length_cons, List.length_nil, List.length_append, xa_rc, xa_rf, exists_eq_left, exists_eq', Option.some.injEq, Sum.inr.injEq, Prod.mk.injEq, Option.toList_some, Option.toList_none, List.cons_append, List.nil_append, Nat.reduceAdd, Nat.reduceLeDiff, Nat.reduceLT, List.set_cons_zero, List.set_cons_succ, eq_self, or_true, true_or, reduceIte, xt_ne, xt_eq, Nat.reduceEqDiff, Nat.one_ne_zero, if_false, h0, h1, h2, h3, h4, c0, c1, c2, c3, mx_78, mx_77, o0]
      · obtain ⟨k0, m0, l0, rfl⟩ := a0
        have c0 := xa_iff (pc_isNot_y (M := M) k0 0 8 m0 (by omega) (by omega))
        obtain ⟨k1, m1, l1, rfl⟩ := a1
        have c1 := xa_iff (pc_isNot_y (M := M) k1 0 10 m1 (by omega) (by omega))
        have c2 := xa_iff (pc_isNot_n (M := M) 0 1 a2 (by omega) (by omega))
        simp (disch := omega) only [↓ra_72_0, ↓ra_72_1, ↓ra_72_2, ↓ra_72_4, ↓ra_72_7, ↓ra_72_10, ↓ra_72_11, ↓ra_72_12, ↓ra_72_14, ↓ra_72_17, ↓ra_72_20, ↓ra_72_21, ↓ra_72_22, ↓ra_72_23, ↓ra_72_26, ↓ra_72_29, ↓ra_72_31, ↓ra_72_32, ↓ra_72_33, ↓ra_72_36, ↓ra_72_39, ↓ra_72_40, xa_kli, xa_klr, xa_kll, xa_ki, xa_kl, xa_kr, xa_kii, xa_kk, xa_kir, xa_krr, xa_kiir, xa_krir, xa_kdup, xa_kdup2, xa_kcp, xa_gf, xa_pf, xa_ga, xa_pa, xa_gq, xa_pq, xa_gl, xa_args, xa_ri, xa_rz, xa_rv, xa_s1, xa_s2, xa_c1, eq_self, List.getElem?_cons_succ, List.getElem?_cons_zero, true_and, and_true, nI_add, pk_mul, xt_in, xt_cl, xt_i0, xt_i1, xa_kc, xa_w8, xa_fit, lg_sl, List.flatMap_cons, List.flatMap_nil, List.map_cons, List.map_nil, List.sum_cons, List.sum_nil, Value.category, List.length_cons, List.length_nil, List.length_append, xa_rc, xa_rf, exists_eq_left, exists_eq', Option.some.injEq, Sum.inr.injEq, Prod.mk.injEq, Option.toList_some, Option.toList_none, List.cons_append, List.nil_append, Nat.reduceAdd, Nat.reduceLeDiff, Nat.reduceLT, List.set_cons_zero, List.set_cons_succ, eq_self, or_true, true_or, reduceIte, xt_ne, xt_eq, Nat.reduceEqDiff, Nat.one_ne_zero, if_false, h0, h1, h2, h3, h4, c0, c1, c2, mx_78, mx_77, o0]
    · obtain ⟨k0, m0, l0, rfl⟩ := a0
      have c0 := xa_iff (pc_isNot_y (M := M) k0 0 8 m0 (by omega) (by omega))
      have c1 := xa_iff (pc_isNot_n (M := M) 0 10 a1 (by omega) (by omega))
      simp (disch := omega) only [↓ra_72_0, ↓ra_72_1, ↓ra_72_2, ↓ra_72_4, ↓ra_72_7, ↓ra_72_10, ↓ra_72_11, ↓ra_72_12, ↓ra_72_14, ↓ra_72_17, ↓ra_72_20, ↓ra_72_21, ↓ra_72_22, ↓ra_72_23, ↓ra_72_26, ↓ra_72_29, ↓ra_72_31, ↓ra_72_32, ↓ra_72_33, ↓ra_72_36, ↓ra_72_39, ↓ra_72_40, xa_kli, xa_klr, xa_kll, xa_ki, xa_kl, xa_kr, xa_kii, xa_kk, xa_kir, xa_krr, xa_kiir, xa_krir, xa_kdup, xa_kdup2, xa_kcp, xa_gf, xa_pf, xa_ga, xa_pa, xa_gq, xa_pq, xa_gl, xa_args, xa_ri, xa_rz, xa_rv, xa_s1, xa_s2, xa_c1, eq_self, List.getElem?_cons_succ, List.getElem?_cons_zero, true_and, and_true, nI_add, pk_mul, xt_in, xt_cl, xt_i0, xt_i1, xa_kc, xa_w8, xa_fit, lg_sl, List.flatMap_cons, List.flatMap_nil, List.map_cons, List.map_nil, List.sum_cons, List.sum_nil, Value.category, List.length_cons, List.length_nil, List.length_append, xa_rc, xa_rf, exists_eq_left, exists_eq', Option.some.injEq, Sum.inr.injEq, Prod.mk.injEq, Option.toList_some, Option.toList_none, List.cons_append, List.nil_append, Nat.reduceAdd, Nat.reduceLeDiff, Nat.reduceLT, List.set_cons_zero, List.set_cons_succ, eq_self, or_true, true_or, reduceIte, xt_ne, xt_eq, Nat.reduceEqDiff, Nat.one_ne_zero, if_false, h0, h1, h2, h3, h4, c0, c1, mx_78, mx_77, o0]
  · have c0 := xa_iff (pc_isNot_n (M := M) 0 8 a0 (by omega) (by omega))
    simp (disch := omega) only [↓ra_72_0, ↓ra_72_1, ↓ra_72_2, ↓ra_72_4, ↓ra_72_7, ↓ra_72_10, ↓ra_72_11, ↓ra_72_12, ↓ra_72_14, ↓ra_72_17, ↓ra_72_20, ↓ra_72_21, ↓ra_72_22, ↓ra_72_23, ↓ra_72_26, ↓ra_72_29, ↓ra_72_31, ↓ra_72_32, ↓ra_72_33, ↓ra_72_36, ↓ra_72_39, ↓ra_72_40, xa_kli, xa_klr, xa_kll, xa_ki, xa_kl, xa_kr, xa_kii, xa_kk, xa_kir, xa_krr, xa_kiir, xa_krir, xa_kdup, xa_kdup2, xa_kcp, xa_gf, xa_pf, xa_ga, xa_pa, xa_gq, xa_pq, xa_gl, xa_args, xa_ri, xa_rz, xa_rv, xa_s1, xa_s2, xa_c1, eq_self, List.getElem?_cons_succ, List.getElem?_cons_zero, true_and, and_true, nI_add, pk_mul, xt_in, xt_cl, xt_i0, xt_i1, xa_kc, xa_w8, xa_fit, lg_sl, List.flatMap_cons, List.flatMap_nil, List.map_cons, List.map_nil, List.sum_cons, List.sum_nil, Value.category, List.length_cons, List.length_nil, List.length_append, xa_rc, xa_rf, exists_eq_left, exists_eq', Option.some.injEq, Sum.inr.injEq, Prod.mk.injEq, Option.toList_some, Option.toList_none, List.cons_append, List.nil_append, Nat.reduceAdd, Nat.reduceLeDiff, Nat.reduceLT, List.set_cons_zero, List.set_cons_succ, eq_self, or_true, true_or, reduceIte, xt_ne, xt_eq, Nat.reduceEqDiff, Nat.one_ne_zero, if_false, h0, h1, h2, h3, h4, c0, mx_78, mx_77, o0]
def xq_ab (d x tw : Nat) : Nat := (10 - x) ^ d + (if tw = 1 ∧ 0 < d then d * x * (10 - x) ^ (d - 1) else 0)
def xs_sure (d x tw p : Nat) : Int32 := if xq_cd 64 (xq_ab d x tw) (10 ^ d) = 0 then Int32.ofInt (-4) else nI (if p = 0 then xq_ab d x tw / xq_cd 64 (xq_ab d x tw) (10 ^ d) else 10 ^ d / xq_cd 64 (xq_ab d x tw) (10 ^ d))
theorem xt_abl : ∀ d, d < 9 → ∀ x, x < 11 → ∀ tw, tw < 2 → xq_ab d x tw < 2147483648 ∧ 10 ^ d < 2147483648 ∧ xq_cd 64 (xq_ab d x tw) (10 ^ d) < 2147483648 := by decide +kernel
theorem pm_sure {M : xa_M} {b : Nat} {A : xt_A} (hA : xh_A M b A) (iA : xi_A A) (d x tw p : Nat) (hd : d ≤ 8) (hx : x ≤ 10) (ht : tw ≤ 1) (hp : p ≤ 1) : ∃ y0, xa_E 72 0 (xa_ent [.ref b, .int (nI d), .int (nI x), .int (nI tw), .int (nI p)]) [] M y0 ∧ xm b M (xs_sure d x tw p) A y0 := by
  obtain ⟨hO, hX, hT, ⟨T0, hU⟩, hS, ⟨S0, hN⟩, hP, hK, hG, hW⟩ := id hA
  obtain ⟨iT, i5, i60, i1, ⟨iS, iD⟩, iX, iU, iK, iG⟩ := id iA
  obtain ⟨⟨b1, b2, b3, b4, b5, b6, b7, b8⟩, bs, bm, bw⟩ := id iT
  have o0 : xh_O M b := hO
  unfold xh_O at o0
  have t0 := hT.1
  have s0 := hS.1
  have n0 := hN.1
  have u0 := hU.1
  have ca := xa_iff (pc_isNot_y (M := M) d 0 8 (by omega) hd (by omega))
  have cb := xa_iff (pc_isNot_y (M := M) x 0 10 (by omega) hx (by omega))
  have cc := xa_iff (pc_isNot_y (M := M) tw 0 1 (by omega) ht (by omega))
  have ce := xa_iff (pc_isNot_y (M := M) p 0 1 (by omega) hp (by omega))
  have p1 := xa_iff (pc_power (M := M) 10 d (by omega))
  have p2 := xa_iff (pc_power (M := M) (10 - x) d (by omega))
  have p3 := xa_iff (pc_power (M := M) (10 - x) (d - 1) (by omega))
  have ll := xt_abl d (by omega) x (by omega) tw (by omega)
  have cd := xa_iff (pc_commonDivisor (M := M) (xq_ab d x tw) (10 ^ d) ll.1 ll.2.1)
  refine xa_ge5 (fun lv h0 h1 h2 h3 h4 => ?_)
  have rest : ∀ lv' : xa_L, lv' 4 = some (.int (nI p)) → lv' 5 = some (.int (nI (10 ^ d))) → lv' 6 = some (.int (nI (xq_ab d x tw))) → ∃ z, xa_E 72 87 lv' [] M z ∧ xm b M (xs_sure d x tw p) A z := by
    intro lv' g4 g5 g6
    unfold xs_sure
    generalize xq_cd 64 (xq_ab d x tw) (10 ^ d) = g at cd ll ⊢
    simp (disch := omega) only [↓ra_72_87, ↓ra_72_89, ↓ra_72_91, ↓ra_72_94, ↓ra_72_96, ↓ra_72_98, xa_kli, xa_klr, xa_kll, xa_ki, xa_kl, xa_kr, xa_kii, xa_kk, xa_kir, xa_krr, xa_kiir, xa_krir, xa_kdup, xa_kdup2, xa_kcp, xa_gf, xa_pf, xa_ga, xa_pa, xa_gq, xa_pq, xa_gl, xa_args, xa_ri, xa_rz, xa_rv, xa_s1, xa_s2, xa_c1, eq_self, List.getElem?_cons_succ, List.getElem?_cons_zero, true_and, and_true, nI_add, pk_mul, xt_in, xt_cl, xt_i0, xt_i1, xa_kc, xa_w8, xa_fit, lg_sl, List.flatMap_cons, List.flatMap_nil, List.map_cons, List.map_nil, List.sum_cons, List.sum_nil, Value.category, List.length_cons, List.length_nil, List.length_append, xa_rc, xa_rf, exists_eq_left, exists_eq', Option.some.injEq, Sum.inr.injEq, Prod.mk.injEq, Option.toList_some, Option.toList_none, List.cons_append, List.nil_append, Nat.reduceAdd, Nat.reduceLeDiff, Nat.reduceLT, List.set_cons_zero, List.set_cons_succ, eq_self, or_true, true_or, reduceIte, xt_ne, g4, g5, g6, cd, mx_90, xt_eq]
    by_cases c : g = 0
    · simp only [if_pos c]
      simp (disch := omega) only [↓ra_72_101, ↓ra_72_103, xa_kli, xa_klr, xa_kll, xa_ki, xa_kl, xa_kr, xa_kii, xa_kk, xa_kir, xa_krr, xa_kiir, xa_krir, xa_kdup, xa_kdup2, xa_kcp, xa_gf, xa_pf, xa_ga, xa_pa, xa_gq, xa_pq, xa_gl, xa_args, xa_ri, xa_rz, xa_rv, xa_s1, xa_s2, xa_c1, eq_self, List.getElem?_cons_succ, List.getElem?_cons_zero, true_and, and_true, nI_add, pk_mul, xt_in, xt_cl, xt_i0, xt_i1, xa_kc, xa_w8, xa_fit, lg_sl, List.flatMap_cons, List.flatMap_nil, List.map_cons, List.map_nil, List.sum_cons, List.sum_nil, Value.category, List.length_cons, List.length_nil, List.length_append, xa_rc, xa_rf, exists_eq_left, exists_eq', Option.some.injEq, Sum.inr.injEq, Prod.mk.injEq, Option.toList_some, Option.toList_none, List.cons_append, List.nil_append, Nat.reduceAdd, Nat.reduceLeDiff, Nat.reduceLT, List.set_cons_zero, List.set_cons_succ, eq_self, or_true, true_or, reduceIte, xt_ne]
      exact xm_r hA
    · simp only [if_neg c]
      simp (disch := omega) only [↓ra_72_104, ↓ra_72_106, xa_kli, xa_klr, xa_kll, xa_ki, xa_kl, xa_kr, xa_kii, xa_kk, xa_kir, xa_krr, xa_kiir, xa_krir, xa_kdup, xa_kdup2, xa_kcp, xa_gf, xa_pf, xa_ga, xa_pa, xa_gq, xa_pq, xa_gl, xa_args, xa_ri, xa_rz, xa_rv, xa_s1, xa_s2, xa_c1, eq_self, List.getElem?_cons_succ, List.getElem?_cons_zero, true_and, and_true, nI_add, pk_mul, xt_in, xt_cl, xt_i0, xt_i1, xa_kc, xa_w8, xa_fit, lg_sl, List.flatMap_cons, List.flatMap_nil, List.map_cons, List.map_nil, List.sum_cons, List.sum_nil, Value.category, List.length_cons, List.length_nil, List.length_append, xa_rc, xa_rf, exists_eq_left, exists_eq', Option.some.injEq, Sum.inr.injEq, Prod.mk.injEq, Option.toList_some, Option.toList_none, List.cons_append, List.nil_append, Nat.reduceAdd, Nat.reduceLeDiff, Nat.reduceLT, List.set_cons_zero, List.set_cons_succ, eq_self, or_true, true_or, reduceIte, xt_ne, g4, xt_eq]
      by_cases c2 : p = 0
      · simp only [if_pos c2]
        simp (disch := omega) only [↓ra_72_109, ↓ra_72_111, ↓ra_72_113, ↓ra_72_114, ↓ra_72_122, xa_kli, xa_klr, xa_kll, xa_ki, xa_kl, xa_kr, xa_kii, xa_kk, xa_kir, xa_krr, xa_kiir, xa_krir, xa_kdup, xa_kdup2, xa_kcp, xa_gf, xa_pf, xa_ga, xa_pa, xa_gq, xa_pq, xa_gl, xa_args, xa_ri, xa_rz, xa_rv, xa_s1, xa_s2, xa_c1, eq_self, List.getElem?_cons_succ, List.getElem?_cons_zero, true_and, and_true, nI_add, pk_mul, xt_in, xt_cl, xt_i0, xt_i1, xa_kc, xa_w8, xa_fit, lg_sl, List.flatMap_cons, List.flatMap_nil, List.map_cons, List.map_nil, List.sum_cons, List.sum_nil, Value.category, List.length_cons, List.length_nil, List.length_append, xa_rc, xa_rf, exists_eq_left, exists_eq', Option.some.injEq, Sum.inr.injEq, Prod.mk.injEq, Option.toList_some, Option.toList_none, List.cons_append, List.nil_append, Nat.reduceAdd, Nat.reduceLeDiff, Nat.reduceLT, List.set_cons_zero, List.set_cons_succ, eq_self, or_true, true_or, reduceIte, xt_ne, xt_n0, not_false_eq_true, xt_div, xt_remA, g4, g5, g6]
        exact xm_r hA
      · simp only [if_neg c2]
        simp (disch := omega) only [↓ra_72_117, ↓ra_72_119, ↓ra_72_121, ↓ra_72_122, xa_kli, xa_klr, xa_kll, xa_ki, xa_kl, xa_kr, xa_kii, xa_kk, xa_kir, xa_krr, xa_kiir, xa_krir, xa_kdup, xa_kdup2, xa_kcp, xa_gf, xa_pf, xa_ga, xa_pa, xa_gq, xa_pq, xa_gl, xa_args, xa_ri, xa_rz, xa_rv, xa_s1, xa_s2, xa_c1, eq_self, List.getElem?_cons_succ, List.getElem?_cons_zero, true_and, and_true, nI_add, pk_mul, xt_in, xt_cl, xt_i0, xt_i1, xa_kc, xa_w8, xa_fit, lg_sl, List.flatMap_cons, List.flatMap_nil, List.map_cons, List.map_nil, List.sum_cons, List.sum_nil, Value.category, List.length_cons, List.length_nil, List.length_append, xa_rc, xa_rf, exists_eq_left, exists_eq', Option.some.injEq, Sum.inr.injEq, Prod.mk.injEq, Option.toList_some, Option.toList_none, List.cons_append, List.nil_append, Nat.reduceAdd, Nat.reduceLeDiff, Nat.reduceLT, List.set_cons_zero, List.set_cons_succ, eq_self, or_true, true_or, reduceIte, xt_ne, xt_n0, not_false_eq_true, xt_div, xt_remA, g4, g5, g6]
        exact xm_r hA
  simp (disch := omega) only [↓ra_72_0, ↓ra_72_1, ↓ra_72_2, ↓ra_72_4, ↓ra_72_7, ↓ra_72_10, ↓ra_72_11, ↓ra_72_12, ↓ra_72_14, ↓ra_72_17, ↓ra_72_20, ↓ra_72_21, ↓ra_72_22, ↓ra_72_23, ↓ra_72_26, ↓ra_72_29, ↓ra_72_31, ↓ra_72_32, ↓ra_72_33, ↓ra_72_36, ↓ra_72_41, ↓ra_72_43, ↓ra_72_44, ↓ra_72_47, ↓ra_72_49, ↓ra_72_51, ↓ra_72_52, ↓ra_72_53, ↓ra_72_54, ↓ra_72_57, ↓ra_72_59, ↓ra_72_60, ↓ra_72_61, xa_kli, xa_klr, xa_kll, xa_ki, xa_kl, xa_kr, xa_kii, xa_kk, xa_kir, xa_krr, xa_kiir, xa_krir, xa_kdup, xa_kdup2, xa_kcp, xa_gf, xa_pf, xa_ga, xa_pa, xa_gq, xa_pq, xa_gl, xa_args, xa_ri, xa_rz, xa_rv, xa_s1, xa_s2, xa_c1, eq_self, List.getElem?_cons_succ, List.getElem?_cons_zero, true_and, and_true, nI_add, pk_mul, xt_in, xt_cl, xt_i0, xt_i1, xa_kc, xa_w8, xa_fit, lg_sl, List.flatMap_cons, List.flatMap_nil, List.map_cons, List.map_nil, List.sum_cons, List.sum_nil, Value.category, List.length_cons, List.length_nil, List.length_append, xa_rc, xa_rf, exists_eq_left, exists_eq', Option.some.injEq, Sum.inr.injEq, Prod.mk.injEq, Option.toList_some, Option.toList_none, List.cons_append, List.nil_append, Nat.reduceAdd, Nat.reduceLeDiff, Nat.reduceLT, List.set_cons_zero, List.set_cons_succ, eq_self, or_true, true_or, reduceIte, xt_ne, xt_eq, Nat.reduceEqDiff, Nat.one_ne_zero, if_false, h0, h1, h2, h3, h4, ca, cb, cc, ce, mx_77, xt_sub, p1, p2, mx_89]
  by_cases c : tw = 1
  · simp only [if_pos c]
    simp (disch := omega) only [↓ra_72_64, ↓ra_72_65, xa_kli, xa_klr, xa_kll, xa_ki, xa_kl, xa_kr, xa_kii, xa_kk, xa_kir, xa_krr, xa_kiir, xa_krir, xa_kdup, xa_kdup2, xa_kcp, xa_gf, xa_pf, xa_ga, xa_pa, xa_gq, xa_pq, xa_gl, xa_args, xa_ri, xa_rz, xa_rv, xa_s1, xa_s2, xa_c1, eq_self, List.getElem?_cons_succ, List.getElem?_cons_zero, true_and, and_true, nI_add, pk_mul, xt_in, xt_cl, xt_i0, xt_i1, xa_kc, xa_w8, xa_fit, lg_sl, List.flatMap_cons, List.flatMap_nil, List.map_cons, List.map_nil, List.sum_cons, List.sum_nil, Value.category, List.length_cons, List.length_nil, List.length_append, xa_rc, xa_rf, exists_eq_left, exists_eq', Option.some.injEq, Sum.inr.injEq, Prod.mk.injEq, Option.toList_some, Option.toList_none, List.cons_append, List.nil_append, Nat.reduceAdd, Nat.reduceLeDiff, Nat.reduceLT, List.set_cons_zero, List.set_cons_succ, eq_self, or_true, true_or, reduceIte, xt_ne, h1, xt_le]
    by_cases c2 : d ≤ 0
    · simp only [if_pos c2]
      refine rest _ (by simp [xa_s1, xa_c1, h4]) (by simp [xa_s1, xa_c1]) ?_
      have : ¬ (tw = 1 ∧ 0 < d) := by omega
      simp [xa_s1, xa_c1, xq_ab, this]
    · simp only [if_neg c2]
      simp (disch := omega) only [↓ra_72_68, ↓ra_72_70, ↓ra_72_71, ↓ra_72_72, ↓ra_72_73, ↓ra_72_75, ↓ra_72_76, ↓ra_72_77, ↓ra_72_78, ↓ra_72_79, ↓ra_72_80, ↓ra_72_83, ↓ra_72_84, ↓ra_72_85, xa_kli, xa_klr, xa_kll, xa_ki, xa_kl, xa_kr, xa_kii, xa_kk, xa_kir, xa_krr, xa_kiir, xa_krir, xa_kdup, xa_kdup2, xa_kcp, xa_gf, xa_pf, xa_ga, xa_pa, xa_gq, xa_pq, xa_gl, xa_args, xa_ri, xa_rz, xa_rv, xa_s1, xa_s2, xa_c1, eq_self, List.getElem?_cons_succ, List.getElem?_cons_zero, true_and, and_true, nI_add, pk_mul, xt_in, xt_cl, xt_i0, xt_i1, xa_kc, xa_w8, xa_fit, lg_sl, List.flatMap_cons, List.flatMap_nil, List.map_cons, List.map_nil, List.sum_cons, List.sum_nil, Value.category, List.length_cons, List.length_nil, List.length_append, xa_rc, xa_rf, exists_eq_left, exists_eq', Option.some.injEq, Sum.inr.injEq, Prod.mk.injEq, Option.toList_some, Option.toList_none, List.cons_append, List.nil_append, Nat.reduceAdd, Nat.reduceLeDiff, Nat.reduceLT, List.set_cons_zero, List.set_cons_succ, eq_self, or_true, true_or, reduceIte, xt_ne, h1, h2, xt_sub, p3, mx_89]
      refine rest _ (by simp [xa_s1, xa_c1, h4]) (by simp [xa_s1, xa_c1]) ?_
      have : tw = 1 ∧ 0 < d := by omega
      simp [xa_s1, xa_c1, xq_ab, this]
  · simp only [if_neg c]
    refine rest _ (by simp [xa_s1, xa_c1, h4]) (by simp [xa_s1, xa_c1]) ?_
    simp [xa_s1, xa_c1, xq_ab, c]
theorem pm_year_n {M : xa_M} {b : Nat} {A : xt_A} (hA : xh_A M b A) (iA : xi_A A) {x y w : Int32} (h : ¬ (xt_k x 0 (9999 + 1) ∧ xt_k y 1 (60 + 1) ∧ xt_k w 0 (1 + 1))) : xa_E 73 0 (xa_ent [.ref b, .int x, .int y, .int w]) [] M (some (.int (Int32.ofInt (-1))), M) := by
  obtain ⟨hO, hX, hT, ⟨T0, hU⟩, hS, ⟨S0, hN⟩, hP, hK, hG, hW⟩ := id hA
  obtain ⟨iT, i5, i60, i1, ⟨iS, iD⟩, iX, iU, iK, iG⟩ := id iA
  obtain ⟨⟨b1, b2, b3, b4, b5, b6, b7, b8⟩, bs, bm, bw⟩ := id iT
  have o0 : xh_O M b := hO
  unfold xh_O at o0
  have t0 := hT.1
  have s0 := hS.1
  have n0 := hN.1
  have u0 := hU.1
  refine xa_go4 (fun lv h0 h1 h2 h3 => ?_)
  by_cases a0 : xt_k x 0 (9999 + 1)
  · by_cases a1 : xt_k y 1 (60 + 1)
    · have a2 : ¬ xt_k w 0 (1 + 1) := fun a => h ⟨a0, a1, a⟩
      obtain ⟨k0, m0, l0, rfl⟩ := a0
      have c0 := xa_iff (pc_isNot_y (M := M) k0 0 9999 m0 (by omega) (by omega))
      obtain ⟨k1, m1, l1, rfl⟩ := a1
      have c1 := xa_iff (pc_isNot_y (M := M) k1 1 60 m1 (by omega) (by omega))
      have c2 := xa_iff (pc_isNot_n (M := M) 0 1 a2 (by omega) (by omega))
      simp (disch := omega) only [↓ra_73_0, ↓ra_73_1, ↓ra_73_2, ↓ra_73_5, ↓ra_73_8, ↓ra_73_11, ↓ra_73_12, ↓ra_73_13, ↓ra_73_15, ↓ra_73_18, ↓ra_73_21, ↓ra_73_22, ↓ra_73_23, ↓ra_73_24, ↓ra_73_27, ↓ra_73_30, ↓ra_73_31, xa_kli, xa_klr, xa_kll, xa_ki, xa_kl, xa_kr, xa_kii, xa_kk, xa_kir, xa_krr, xa_kiir, xa_krir, xa_kdup, xa_kdup2, xa_kcp, xa_gf, xa_pf, xa_ga, xa_pa, xa_gq, xa_pq, xa_gl, xa_args, xa_ri, xa_rz, xa_rv, xa_s1, xa_s2, xa_c1, eq_self, List.getElem?_cons_succ, List.getElem?_cons_zero, true_and, and_true, nI_add, pk_mul, xt_in, xt_cl, xt_i0, xt_i1, xa_kc, xa_w8, xa_fit, lg_sl, List.flatMap_cons, List.flatMap_nil, List.map_cons, List.map_nil, List.sum_cons, List.sum_nil, Value.category, List.length_cons, List.length_nil, List.length_append, xa_rc, xa_rf, exists_eq_left, exists_eq', Option.some.injEq, Sum.inr.injEq, Prod.mk.injEq, Option.toList_some, Option.toList_none, List.cons_append, List.nil_append, Nat.reduceAdd, Nat.reduceLeDiff, Nat.reduceLT, List.set_cons_zero, List.set_cons_succ, eq_self, or_true, true_or, reduceIte, xt_ne, xt_eq, Nat.reduceEqDiff, Nat.one_ne_zero, if_false, h0, h1, h2, h3, c0, c1, c2, mx_78, mx_77, o0]
    · obtain ⟨k0, m0, l0, rfl⟩ := a0
      have c0 := xa_iff (pc_isNot_y (M := M) k0 0 9999 m0 (by omega) (by omega))
      have c1 := xa_iff (pc_isNot_n (M := M) 1 60 a1 (by omega) (by omega))
      simp (disch := omega) only [↓ra_73_0, ↓ra_73_1, ↓ra_73_2, ↓ra_73_5, ↓ra_73_8, ↓ra_73_11, ↓ra_73_12, ↓ra_73_13, ↓ra_73_15, ↓ra_73_18, ↓ra_73_21, ↓ra_73_22, ↓ra_73_23, ↓ra_73_24, ↓ra_73_27, ↓ra_73_30, ↓ra_73_31, xa_kli, xa_klr, xa_kll, xa_ki, xa_kl, xa_kr, xa_kii, xa_kk, xa_kir, xa_krr, xa_kiir, xa_krir, xa_kdup, xa_kdup2, xa_kcp, xa_gf, xa_pf, xa_ga, xa_pa, xa_gq, xa_pq, xa_gl, xa_args, xa_ri, xa_rz, xa_rv, xa_s1, xa_s2, xa_c1, eq_self, List.getElem?_cons_succ, List.getElem?_cons_zero, true_and, and_true, nI_add, pk_mul, xt_in, xt_cl, xt_i0, xt_i1, xa_kc, xa_w8, xa_fit, lg_sl, List.flatMap_cons, List.flatMap_nil, List.map_cons, List.map_nil, List.sum_cons, List.sum_nil, Value.category, List.length_cons, List.length_nil, List.length_append, xa_rc, xa_rf, exists_eq_left, exists_eq', Option.some.injEq, Sum.inr.injEq, Prod.mk.injEq, Option.toList_some, Option.toList_none, List.cons_append, List.nil_append, Nat.reduceAdd, Nat.reduceLeDiff, Nat.reduceLT, List.set_cons_zero, List.set_cons_succ, eq_self, or_true, true_or, reduceIte, xt_ne, xt_eq, Nat.reduceEqDiff, Nat.one_ne_zero, if_false, h0, h1, h2, h3, c0, c1, mx_78, mx_77, o0]
  · have c0 := xa_iff (pc_isNot_n (M := M) 0 9999 a0 (by omega) (by omega))
    simp (disch := omega) only [↓ra_73_0, ↓ra_73_1, ↓ra_73_2, ↓ra_73_5, ↓ra_73_8, ↓ra_73_11, ↓ra_73_12, ↓ra_73_13, ↓ra_73_15, ↓ra_73_18, ↓ra_73_21, ↓ra_73_22, ↓ra_73_23, ↓ra_73_24, ↓ra_73_27, ↓ra_73_30, ↓ra_73_31, xa_kli, xa_klr, xa_kll, xa_ki, xa_kl, xa_kr, xa_kii, xa_kk, xa_kir, xa_krr, xa_kiir, xa_krir, xa_kdup, xa_kdup2, xa_kcp, xa_gf, xa_pf, xa_ga, xa_pa, xa_gq, xa_pq, xa_gl, xa_args, xa_ri, xa_rz, xa_rv, xa_s1, xa_s2, xa_c1, eq_self, List.getElem?_cons_succ, List.getElem?_cons_zero, true_and, and_true, nI_add, pk_mul, xt_in, xt_cl, xt_i0, xt_i1, xa_kc, xa_w8, xa_fit, lg_sl, List.flatMap_cons, List.flatMap_nil, List.map_cons, List.map_nil, List.sum_cons, List.sum_nil, Value.category, List.length_cons, List.length_nil, List.length_append, xa_rc, xa_rf, exists_eq_left, exists_eq', Option.some.injEq, Sum.inr.injEq, Prod.mk.injEq, Option.toList_some, Option.toList_none, List.cons_append, List.nil_append, Nat.reduceAdd, Nat.reduceLeDiff, Nat.reduceLT, List.set_cons_zero, List.set_cons_succ, eq_self, or_true, true_or, reduceIte, xt_ne, xt_eq, Nat.reduceEqDiff, Nat.one_ne_zero, if_false, h0, h1, h2, h3, c0, mx_78, mx_77, o0]
def xq_yr (T : xt_T) (z : Nat) : Nat → Nat → xt_S → xt_S
  | 0, _, S => S
  | r + 1, d, S => xq_yr T z r (d + 1) (xq_day T (xq_act T S (xq_dr z d)))
def xs_year (A : xt_A) (z n k : Nat) : Int32 := nI (xq_n (yT A) (xq_yr (yT A) z n 0 (yS A)) (if k = 0 then 2 else 3))
theorem pm_year {M : xa_M} {b : Nat} {A : xt_A} (hA : xh_A M b A) (iA : xi_A A) (z n k : Nat) (hz : z ≤ 9999) (n1 : 1 ≤ n) (n2 : n ≤ 60) (hk : k ≤ 1) : ∃ y0, xa_E 73 0 (xa_ent [.ref b, .int (nI z), .int (nI n), .int (nI k)]) [] M y0 ∧ xm b M (xs_year A z n k) A y0 := by
  obtain ⟨hO, hX, hT, ⟨T0, hU⟩, hS, ⟨S0, hN⟩, hP, hK, hG, hW⟩ := id hA
  obtain ⟨iT, i5, i60, i1, ⟨iS, iD⟩, iX, iU, iK, iG⟩ := id iA
  obtain ⟨⟨b1, b2, b3, b4, b5, b6, b7, b8⟩, bs, bm, bw⟩ := id iT
  have o0 : xh_O M b := hO
  unfold xh_O at o0
  have t0 := hT.1
  have s0 := hS.1
  have n0 := hN.1
  have u0 := hU.1
  have ca := xa_iff (pc_isNot_y (M := M) z 0 9999 (by omega) hz (by omega))
  have cb := xa_iff (pc_isNot_y (M := M) n 1 60 n1 n2 (by omega))
  have cc := xa_iff (pc_isNot_y (M := M) k 0 1 (by omega) hk (by omega))
  obtain ⟨⟨z1, M1⟩, cE1, c1, f1, hS1⟩ := pc_copyS hN hS (by omega) b6 b7
  have c1 : z1 = none := c1
  subst c1
  dsimp only at f1 hS1
  have o1 := (f1.1 b (by omega)).trans o0
  have hT1 := xh_T_fr hT f1 (by omega)
  have s1 := hS1.1
  have t1 := hT1.1
  refine xa_ge4 (fun lv h0 h1 h2 h3 => ?_)
  have loop : ∀ (r d : Nat) (lv : xa_L) (M2 : xa_M) (S2 : xt_S), lv 0 = some (.ref b) → lv 1 = some (.int (nI z)) → lv 2 = some (.int (nI n)) → lv 3 = some (.int (nI k)) → lv 4 = some (.int (nI d)) → d + r = n → xa_fr (b + 28) (b + 34) M M2 → xh_S M2 (b + 28) (xnS (yT A)) (xnM (yT A)) S2 → xi_S (yT A) S2 → xsd S2 + r ≤ 100000 → ∃ y, xa_E 73 46 lv [] M2 y ∧ xm b M (nI (xq_n (yT A) (xq_yr (yT A) z r d S2) (if k = 0 then 2 else 3))) A y := by
    intro r
    induction r with
    | zero =>
      intro d lv M2 S2 h0 h1 h2 h3 h4 e fr hS2 iS2 hd2
      have e : d = n := by omega
      subst e
      have o2 := (fr.1 b (by omega)).trans o0
      have hT2 := xh_T_fr hT fr (by omega)
      have t2 := hT2.1
      have s2 := hS2.1
      have hm := fun (w : Nat) (hw : w < 2147483648) => xa_iff (pc_howMany hS2 hT2 b6 (fun s hs => Nat.lt_of_le_of_lt (iS2.2.1 s hs).1 (by decide)) w hw)
      simp (disch := omega) only [↓ra_73_46, ↓ra_73_48, ↓ra_73_49, ↓ra_73_79, ↓ra_73_80, ↓ra_73_83, ↓ra_73_84, ↓ra_73_87, ↓ra_73_88, xa_kli, xa_klr, xa_kll, xa_ki, xa_kl, xa_kr, xa_kii, xa_kk, xa_kir, xa_krr, xa_kiir, xa_krir, xa_kdup, xa_kdup2, xa_kcp, xa_gf, xa_pf, xa_ga, xa_pa, xa_gq, xa_pq, xa_gl, xa_args, xa_ri, xa_rz, xa_rv, xa_s1, xa_s2, xa_c1, eq_self, List.getElem?_cons_succ, List.getElem?_cons_zero, true_and, and_true, nI_add, pk_mul, xt_in, xt_cl, xt_i0, xt_i1, xa_kc, xa_w8, xa_fit, lg_sl, List.flatMap_cons, List.flatMap_nil, List.map_cons, List.map_nil, List.sum_cons, List.sum_nil, Value.category, List.length_cons, List.length_nil, List.length_append, xa_rc, xa_rf, exists_eq_left, exists_eq', Option.some.injEq, Sum.inr.injEq, Prod.mk.injEq, Option.toList_some, Option.toList_none, List.cons_append, List.nil_append, Nat.reduceAdd, Nat.reduceLeDiff, Nat.reduceLT, List.set_cons_zero, List.set_cons_succ, eq_self, or_true, true_or, reduceIte, xt_ne, h0, h1, h2, h3, h4, o2, t2, s2, xt_le, Nat.le_refl, xt_eq]
      by_cases ck : k = 0
      · simp only [if_pos ck]
        simp (disch := omega) only [↓ra_73_91, ↓ra_73_92, ↓ra_73_96, ↓ra_73_99, xa_kli, xa_klr, xa_kll, xa_ki, xa_kl, xa_kr, xa_kii, xa_kk, xa_kir, xa_krr, xa_kiir, xa_krir, xa_kdup, xa_kdup2, xa_kcp, xa_gf, xa_pf, xa_ga, xa_pa, xa_gq, xa_pq, xa_gl, xa_args, xa_ri, xa_rz, xa_rv, xa_s1, xa_s2, xa_c1, eq_self, List.getElem?_cons_succ, List.getElem?_cons_zero, true_and, and_true, nI_add, pk_mul, xt_in, xt_cl, xt_i0, xt_i1, xa_kc, xa_w8, xa_fit, lg_sl, List.flatMap_cons, List.flatMap_nil, List.map_cons, List.map_nil, List.sum_cons, List.sum_nil, Value.category, List.length_cons, List.length_nil, List.length_append, xa_rc, xa_rf, exists_eq_left, exists_eq', Option.some.injEq, Sum.inr.injEq, Prod.mk.injEq, Option.toList_some, Option.toList_none, List.cons_append, List.nil_append, Nat.reduceAdd, Nat.reduceLeDiff, Nat.reduceLT, List.set_cons_zero, List.set_cons_succ, eq_self, or_true, true_or, reduceIte, xt_ne, s2, hm, mx_14]
        exact ⟨rfl, xa_fr_w fr (by omega) (by omega), xA_N ⟨_, xh_S0 hS2⟩ hA fr⟩
      · simp only [if_neg ck]
        simp (disch := omega) only [↓ra_73_95, ↓ra_73_96, ↓ra_73_99, xa_kli, xa_klr, xa_kll, xa_ki, xa_kl, xa_kr, xa_kii, xa_kk, xa_kir, xa_krr, xa_kiir, xa_krir, xa_kdup, xa_kdup2, xa_kcp, xa_gf, xa_pf, xa_ga, xa_pa, xa_gq, xa_pq, xa_gl, xa_args, xa_ri, xa_rz, xa_rv, xa_s1, xa_s2, xa_c1, eq_self, List.getElem?_cons_succ, List.getElem?_cons_zero, true_and, and_true, nI_add, pk_mul, xt_in, xt_cl, xt_i0, xt_i1, xa_kc, xa_w8, xa_fit, lg_sl, List.flatMap_cons, List.flatMap_nil, List.map_cons, List.map_nil, List.sum_cons, List.sum_nil, Value.category, List.length_cons, List.length_nil, List.length_append, xa_rc, xa_rf, exists_eq_left, exists_eq', Option.some.injEq, Sum.inr.injEq, Prod.mk.injEq, Option.toList_some, Option.toList_none, List.cons_append, List.nil_append, Nat.reduceAdd, Nat.reduceLeDiff, Nat.reduceLT, List.set_cons_zero, List.set_cons_succ, eq_self, or_true, true_or, reduceIte, xt_ne, s2, hm, mx_14]
        exact ⟨rfl, xa_fr_w fr (by omega) (by omega), xA_N ⟨_, xh_S0 hS2⟩ hA fr⟩
    | succ r ih =>
      intro d lv M2 S2 h0 h1 h2 h3 h4 e fr hS2 iS2 hd2
      have o2 := (fr.1 b (by omega)).trans o0
      have hT2 := xh_T_fr hT fr (by omega)
      have cd := xa_iff (pc_draw (M := M2) z d hz (by omega))
      have dl := xq_dr_lt z d
      obtain ⟨⟨z3, M3⟩, cE3, c3, f3, hS3⟩ := pc_actByDraw (b := b) o2 hT2 hS2 iT iS2 i1 (xq_dr z d) (by omega)
      have c3 : z3 = none := c3
      subst c3
      dsimp only at f3 hS3
      have iS3 := xi_act (d := xq_dr z d) iT iS2 i1
      have o3 := (f3.1 b (by omega)).trans o2
      have hT3 := xh_T_fr hT2 f3 (by omega)
      obtain ⟨⟨z4, M4⟩, cE4, c4, f4, hS4⟩ := pc_goDay hS3 hT3 (by omega) iT iS3
      have c4 : z4 = none := c4
      subst c4
      dsimp only at f4 hS4
      have t3 := hT3.1
      have s3 := hS3.1
      have de := xq_act_d (yT A) S2 (xq_dr z d)
      simp (disch := omega) only [↓ra_73_46, ↓ra_73_48, ↓ra_73_49, xa_kli, xa_klr, xa_kll, xa_ki, xa_kl, xa_kr, xa_kii, xa_kk, xa_kir, xa_krr, xa_kiir, xa_krir, xa_kdup, xa_kdup2, xa_kcp, xa_gf, xa_pf, xa_ga, xa_pa, xa_gq, xa_pq, xa_gl, xa_args, xa_ri, xa_rz, xa_rv, xa_s1, xa_s2, xa_c1, eq_self, List.getElem?_cons_succ, List.getElem?_cons_zero, true_and, and_true, nI_add, pk_mul, xt_in, xt_cl, xt_i0, xt_i1, xa_kc, xa_w8, xa_fit, lg_sl, List.flatMap_cons, List.flatMap_nil, List.map_cons, List.map_nil, List.sum_cons, List.sum_nil, Value.category, List.length_cons, List.length_nil, List.length_append, xa_rc, xa_rf, exists_eq_left, exists_eq', Option.some.injEq, Sum.inr.injEq, Prod.mk.injEq, Option.toList_some, Option.toList_none, List.cons_append, List.nil_append, Nat.reduceAdd, Nat.reduceLeDiff, Nat.reduceLT, List.set_cons_zero, List.set_cons_succ, eq_self, or_true, true_or, reduceIte, xt_ne, h0, h1, h2, h3, h4, xt_le]
      simp only [if_neg (show ¬ n ≤ d by omega)]
      simp (disch := omega) only [↓ra_73_52, ↓ra_73_53, ↓ra_73_54, ↓ra_73_56, ↓ra_73_59, ↓ra_73_62, ↓ra_73_63, ↓ra_73_66, ↓ra_73_67, ↓ra_73_70, ↓ra_73_73, ↓ra_73_76, xa_kli, xa_klr, xa_kll, xa_ki, xa_kl, xa_kr, xa_kii, xa_kk, xa_kir, xa_krr, xa_kiir, xa_krir, xa_kdup, xa_kdup2, xa_kcp, xa_gf, xa_pf, xa_ga, xa_pa, xa_gq, xa_pq, xa_gl, xa_args, xa_ri, xa_rz, xa_rv, xa_s1, xa_s2, xa_c1, eq_self, List.getElem?_cons_succ, List.getElem?_cons_zero, true_and, and_true, nI_add, pk_mul, xt_in, xt_cl, xt_i0, xt_i1, xa_kc, xa_w8, xa_fit, lg_sl, List.flatMap_cons, List.flatMap_nil, List.map_cons, List.map_nil, List.sum_cons, List.sum_nil, Value.category, List.length_cons, List.length_nil, List.length_append, xa_rc, xa_rf, exists_eq_left, exists_eq', Option.some.injEq, Sum.inr.injEq, Prod.mk.injEq, Option.toList_some, Option.toList_none, List.cons_append, List.nil_append, Nat.reduceAdd, Nat.reduceLeDiff, Nat.reduceLT, List.set_cons_zero, List.set_cons_succ, eq_self, or_true, true_or, reduceIte, xt_ne, h0, h1, h2, h3, h4, o2, o3, t3, s3, cd, mx_87, xa_iff cE3, mx_88, xa_iff cE4, mx_18]
      exact ih (d + 1) _ M4 _ (by simp [xa_s1, xa_c1, h0]) (by simp [xa_s1, xa_c1, h1]) (by simp [xa_s1, xa_c1, h2]) (by simp [xa_s1, xa_c1, h3]) (by simp [xa_s1, xa_c1]) (by omega) (xa_fr_tr fr (xa_fr_tr f3 (xa_fr_w f4 (by omega) (by omega)))) hS4 (xi_day iT iS3 (by omega)) (by show xsd (xq_act (yT A) S2 (xq_dr z d)) + 1 + r ≤ _; omega)
  simp (disch := omega) only [↓ra_73_0, ↓ra_73_1, ↓ra_73_2, ↓ra_73_5, ↓ra_73_8, ↓ra_73_11, ↓ra_73_12, ↓ra_73_13, ↓ra_73_15, ↓ra_73_18, ↓ra_73_21, ↓ra_73_22, ↓ra_73_23, ↓ra_73_24, ↓ra_73_27, ↓ra_73_32, ↓ra_73_33, ↓ra_73_36, ↓ra_73_37, ↓ra_73_40, ↓ra_73_43, ↓ra_73_44, xa_kli, xa_klr, xa_kll, xa_ki, xa_kl, xa_kr, xa_kii, xa_kk, xa_kir, xa_krr, xa_kiir, xa_krir, xa_kdup, xa_kdup2, xa_kcp, xa_gf, xa_pf, xa_ga, xa_pa, xa_gq, xa_pq, xa_gl, xa_args, xa_ri, xa_rz, xa_rv, xa_s1, xa_s2, xa_c1, eq_self, List.getElem?_cons_succ, List.getElem?_cons_zero, true_and, and_true, nI_add, pk_mul, xt_in, xt_cl, xt_i0, xt_i1, xa_kc, xa_w8, xa_fit, lg_sl, List.flatMap_cons, List.flatMap_nil, List.map_cons, List.map_nil, List.sum_cons, List.sum_nil, Value.category, List.length_cons, List.length_nil, List.length_append, xa_rc, xa_rf, exists_eq_left, exists_eq', Option.some.injEq, Sum.inr.injEq, Prod.mk.injEq, Option.toList_some, Option.toList_none, List.cons_append, List.nil_append, Nat.reduceAdd, Nat.reduceLeDiff, Nat.reduceLT, List.set_cons_zero, List.set_cons_succ, eq_self, or_true, true_or, reduceIte, xt_ne, xt_eq, Nat.reduceEqDiff, Nat.one_ne_zero, if_false, h0, h1, h2, h3, ca, cb, cc, mx_77, o0, s0, n0, xa_iff cE1, mx_9]
  exact loop n 0 _ M1 (yS A) (by simp [xa_s1, xa_c1, h0]) (by simp [xa_s1, xa_c1, h1]) (by simp [xa_s1, xa_c1, h2]) (by simp [xa_s1, xa_c1, h3]) (by simp [xa_s1, xa_c1]) (by omega) f1 hS1 iS (by omega)
