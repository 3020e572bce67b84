theorem xA_SP {M M1 : xa_M} {b p : Nat} {A : xt_A} {S : xt_S} {P K : Nat × (Nat → xt_S)} (hA : xh_A M b A) (f : ∀ a, a ≠ p → (a < b + 22 ∨ b + 22 + 6 ≤ a) → M1.1 a = M.1 a) (hp : p = b + 34 ∨ p = b + 84) (hS : xh_S M1 (b + 22) (xnS (yT A)) (xnM (yT A)) S) (hP : xh_P M1 (b + 34) 8 (xnS (yT A)) (xnM (yT A)) P.1 P.2) (hK : xh_P M1 (b + 84) 2 (xnS (yT A)) (xnM (yT A)) K.1 K.2) : xh_A M1 b (yT A, S, yX A, P, K, yG A) := by
  obtain ⟨hO, hX, hT, ⟨T0, hU⟩, -, ⟨S0, hN⟩, -, -, hG, hW⟩ := hA
  have k : ∀ lo hi, hi ≤ b + 22 ∨ (b + 28 ≤ lo ∧ hi ≤ b + 34) ∨ b + 98 ≤ lo → xa_sm lo hi M M1 := fun lo hi c a x y => f a (by omega) (by omega)
  exact ⟨(k b (b + 1) (by omega) b (by omega) (by omega)).trans hO, xh_X_sm hX (k _ _ (by omega)), xh_T_sm hT (k _ _ (by omega)), ⟨_, xh_T_sm hU (k _ _ (by omega))⟩, hS, ⟨_, xh_S_sm hN (k _ _ (by omega))⟩, hP, hK, xh_G_sm hG (k _ _ (by omega)), xh_W0_sm hW (k _ _ (by omega))⟩
/-- how things stand is noted, to be undone -/
def xq_pu (A : xt_A) : Nat × (Nat → xt_S) := (xq_pz 8 (yU A).1, xq_put 8 (yU A).1 (yU A).2 (yS A))
theorem pc_note {M : xa_M} {b : Nat} {A : xt_A} (hA : xh_A M b A) (iA : xi_A A) : ∃ z, xa_E 1 0 (xa_ent [.ref (b + 34), .ref (b + 22)]) [] M z ∧ z.1 = none ∧ xa_fr (b + 34) (b + 84) M z.2 ∧ xh_A z.2 b (yT A, yS A, yX A, xq_pu A, yK A, yG A) := by
  obtain ⟨hO, hX, hT, hU, hS, hN, hP, hK, hG, hW⟩ := id hA
  obtain ⟨z, h1, h2, h3, h4⟩ := pc_put hP hS (by omega) (by omega) (by omega) iA.1.1.2.2.2.2.2.1 iA.1.1.2.2.2.2.2.2.1
  exact ⟨z, h1, h2, h3, xA_P (P := (_, _)) h4 hA h3⟩
-- move
def xs_move (A : xt_A) (s q : Nat) : Int32 × xt_A := if 2 ≤ xsh (yS A) s ∨ (xsh (yS A) s = 0 ∧ xsq (yS A) s = q) then (Int32.ofInt (-2), A) else (nI (xss (yS A) s), yT A, xq_set (yS A) s q, yX A, xq_pu A, yK A, yG A)
theorem pm_move_n {M : xa_M} {b : Nat} {A : xt_A} (hA : xh_A M b A) (iA : xi_A A) {x y : Int32} (h : ¬ (xt_k x 0 (xnS (yT A)) ∧ xt_k y 0 (xC (yT A)))) : xa_E 56 0 (xa_ent [.ref b, .int x, .int y]) [] M (some (.int (Int32.ofInt (-1))), M) := by
  obtain ⟨hO, hX, hT, ⟨T0, hU⟩, hS, ⟨S0, hN⟩, hP, hK, hG, hW⟩ := id hA
  obtain ⟨iT, i5, i60, i1, ⟨iS, iD⟩, iX, iU, iK, iG⟩ := id iA
  obtain ⟨⟨b1, b2, b3, b4, b5, b6, b7, b8⟩, bs, bm, bw⟩ := id iT
  have o0 : xh_O M b := hO
  unfold xh_O at o0
  have t0 := hT.1
  have s0 := hS.1
  have n0 := hN.1
  have u0 := hU.1
  refine xa_go3 (fun lv h0 h1 h2 => ?_)
  by_cases a : xt_k x 0 (xnS (yT A))
  · have a2 : ¬ xt_k y 0 (xC (yT A)) := fun a2 => h ⟨a, a2⟩
    obtain ⟨s, -, hs, rfl⟩ := a
    have cn := xa_iff (pc_noSerf_y hO hT s hs b6)
    have cq := xa_iff (pc_noQ_n hO hT a2 b4)
    simp (disch := omega) only [↓ra_56_0, ↓ra_56_1, ↓ra_56_2, ↓ra_56_5, ↓ra_56_8, ↓ra_56_9, ↓ra_56_10, ↓ra_56_13, ↓ra_56_16, ↓ra_56_17, xa_kli, xa_klr, xa_kll, xa_ki, xa_kl, xa_kr, xa_kii, xa_kk, xa_kir, xa_krr, xa_kiir, xa_krir, xa_kdup, xa_kdup2, xa_kcp, xa_gf, xa_pf, xa_ga, xa_pa, xa_gq, xa_pq, xa_gl, xa_args, xa_ri, xa_rz, xa_rv, xa_s1, xa_s2, xa_c1, eq_self, List.getElem?_cons_succ, List.getElem?_cons_zero, true_and, and_true, nI_add, pk_mul, xt_in, xt_cl, xt_i0, xt_i1, xa_kc, xa_w8, xa_fit, lg_sl, List.flatMap_cons, List.flatMap_nil, List.map_cons, List.map_nil, List.sum_cons, List.sum_nil, Value.category, List.length_cons, List.length_nil, List.length_append, xa_rc, xa_rf, exists_eq_left, exists_eq', Option.some.injEq, Sum.inr.injEq, Prod.mk.injEq, Option.toList_some, Option.toList_none, List.cons_append, List.nil_append, Nat.reduceAdd, Nat.reduceLeDiff, Nat.reduceLT, List.set_cons_zero, List.set_cons_succ, eq_self, or_true, true_or, reduceIte, xt_ne, xt_eq, Nat.reduceEqDiff, Nat.one_ne_zero, if_false, h0, h1, h2, cn, mx_78, cq, mx_80, o0]
  · have cn := xa_iff (pc_noSerf_n hO hT a b6)
    simp (disch := omega) only [↓ra_56_0, ↓ra_56_1, ↓ra_56_2, ↓ra_56_5, ↓ra_56_16, ↓ra_56_17, xa_kli, xa_klr, xa_kll, xa_ki, xa_kl, xa_kr, xa_kii, xa_kk, xa_kir, xa_krr, xa_kiir, xa_krir, xa_kdup, xa_kdup2, xa_kcp, xa_gf, xa_pf, xa_ga, xa_pa, xa_gq, xa_pq, xa_gl, xa_args, xa_ri, xa_rz, xa_rv, xa_s1, xa_s2, xa_c1, eq_self, List.getElem?_cons_succ, List.getElem?_cons_zero, true_and, and_true, nI_add, pk_mul, xt_in, xt_cl, xt_i0, xt_i1, xa_kc, xa_w8, xa_fit, lg_sl, List.flatMap_cons, List.flatMap_nil, List.map_cons, List.map_nil, List.sum_cons, List.sum_nil, Value.category, List.length_cons, List.length_nil, List.length_append, xa_rc, xa_rf, exists_eq_left, exists_eq', Option.some.injEq, Sum.inr.injEq, Prod.mk.injEq, Option.toList_some, Option.toList_none, List.cons_append, List.nil_append, Nat.reduceAdd, Nat.reduceLeDiff, Nat.reduceLT, List.set_cons_zero, List.set_cons_succ, eq_self, or_true, true_or, reduceIte, xt_ne, xt_eq, Nat.reduceEqDiff, Nat.one_ne_zero, if_false, h0, h1, h2, cn, mx_78, o0]
theorem pm_move {M : xa_M} {b : Nat} {A : xt_A} (hA : xh_A M b A) (iA : xi_A A) (s q : Nat) (hs : s < xnS (yT A)) (hq : q < xC (yT A)) : ∃ z, xa_E 56 0 (xa_ent [.ref b, .int (nI s), .int (nI q)]) [] M z ∧ xm b M (xs_move A s q).1 (xs_move A s q).2 z := by
  obtain ⟨hO, hX, hT, ⟨T0, hU⟩, hS, ⟨S0, hN⟩, hP, hK, hG, hW⟩ := id hA
  obtain ⟨iT, i5, i60, i1, ⟨iS, iD⟩, iX, iU, iK, iG⟩ := id iA
  obtain ⟨⟨b1, b2, b3, b4, b5, b6, b7, b8⟩, bs, bm, bw⟩ := id iT
  have o0 : xh_O M b := hO
  unfold xh_O at o0
  have t0 := hT.1
  have s0 := hS.1
  have n0 := hN.1
  have u0 := hU.1
  have cn := xa_iff (pc_noSerf_y hO hT s hs b6)
  have cq := xa_iff (pc_noQ_y hO hT q hq b4)
  have dd := iS.2.1 s hs
  have co := xa_iff (pc_isOver hS s hs b6 dd.1)
  have cl := xa_iff (pc_livesIn hS s q hs b6 dd.1 (by omega) (by omega))
  refine xa_ge3 (fun lv h0 h1 h2 => ?_)
  simp (disch := omega) only [↓ra_56_0, ↓ra_56_1, ↓ra_56_2, ↓ra_56_5, ↓ra_56_8, ↓ra_56_9, ↓ra_56_10, ↓ra_56_13, ↓ra_56_18, ↓ra_56_19, ↓ra_56_22, ↓ra_56_23, ↓ra_56_26, xa_kli, xa_klr, xa_kll, xa_ki, xa_kl, xa_kr, xa_kii, xa_kk, xa_kir, xa_krr, xa_kiir, xa_krir, xa_kdup, xa_kdup2, xa_kcp, xa_gf, xa_pf, xa_ga, xa_pa, xa_gq, xa_pq, xa_gl, xa_args, xa_ri, xa_rz, xa_rv, xa_s1, xa_s2, xa_c1, eq_self, List.getElem?_cons_succ, List.getElem?_cons_zero, true_and, and_true, nI_add, pk_mul, xt_in, xt_cl, xt_i0, xt_i1, xa_kc, xa_w8, xa_fit, lg_sl, List.flatMap_cons, List.flatMap_nil, List.map_cons, List.map_nil, List.sum_cons, List.sum_nil, Value.category, List.length_cons, List.length_nil, List.length_append, xa_rc, xa_rf, exists_eq_left, exists_eq', Option.some.injEq, Sum.inr.injEq, Prod.mk.injEq, Option.toList_some, Option.toList_none, List.cons_append, List.nil_append, Nat.reduceAdd, Nat.reduceLeDiff, Nat.reduceLT, List.set_cons_zero, List.set_cons_succ, eq_self, or_true, true_or, reduceIte, xt_ne, xt_eq, Nat.reduceEqDiff, Nat.one_ne_zero, if_false, h0, h1, h2, cn, mx_78, cq, mx_80, o0, s0, co, mx_10, xt_b0]
  have no : ∃ z, xa_E 56 41 lv [] M z ∧ xm b M (Int32.ofInt (-2)) A z := by
    simp (disch := omega) only [↓ra_56_41, ↓ra_56_43, xa_kli, xa_klr, xa_kll, xa_ki, xa_kl, xa_kr, xa_kii, xa_kk, xa_kir, xa_krr, xa_kiir, xa_krir, xa_kdup, xa_kdup2, xa_kcp, xa_gf, xa_pf, xa_ga, xa_pa, xa_gq, xa_pq, xa_gl, xa_args, xa_ri, xa_rz, xa_rv, xa_s1, xa_s2, xa_c1, eq_self, List.getElem?_cons_succ, List.getElem?_cons_zero, true_and, and_true, nI_add, pk_mul, xt_in, xt_cl, xt_i0, xt_i1, xa_kc, xa_w8, xa_fit, lg_sl, List.flatMap_cons, List.flatMap_nil, List.map_cons, List.map_nil, List.sum_cons, List.sum_nil, Value.category, List.length_cons, List.length_nil, List.length_append, xa_rc, xa_rf, exists_eq_left, exists_eq', Option.some.injEq, Sum.inr.injEq, Prod.mk.injEq, Option.toList_some, Option.toList_none, List.cons_append, List.nil_append, Nat.reduceAdd, Nat.reduceLeDiff, Nat.reduceLT, List.set_cons_zero, List.set_cons_succ, eq_self, or_true, true_or, reduceIte, xt_ne]
    exact xm_r hA
  unfold xs_move
  by_cases c : 2 ≤ xsh (yS A) s
  · simp only [c, not_true_eq_false, if_false]
    rw [if_pos (Or.inl trivial)]
    exact no
  · simp only [c, not_false_eq_true, if_true]
    simp (disch := omega) only [↓ra_56_29, ↓ra_56_30, ↓ra_56_33, ↓ra_56_34, ↓ra_56_35, ↓ra_56_38, xa_kli, xa_klr, xa_kll, xa_ki, xa_kl, xa_kr, xa_kii, xa_kk, xa_kir, xa_krr, xa_kiir, xa_krir, xa_kdup, xa_kdup2, xa_kcp, xa_gf, xa_pf, xa_ga, xa_pa, xa_gq, xa_pq, xa_gl, xa_args, xa_ri, xa_rz, xa_rv, xa_s1, xa_s2, xa_c1, eq_self, List.getElem?_cons_succ, List.getElem?_cons_zero, true_and, and_true, nI_add, pk_mul, xt_in, xt_cl, xt_i0, xt_i1, xa_kc, xa_w8, xa_fit, lg_sl, List.flatMap_cons, List.flatMap_nil, List.map_cons, List.map_nil, List.sum_cons, List.sum_nil, Value.category, List.length_cons, List.length_nil, List.length_append, xa_rc, xa_rf, exists_eq_left, exists_eq', Option.some.injEq, Sum.inr.injEq, Prod.mk.injEq, Option.toList_some, Option.toList_none, List.cons_append, List.nil_append, Nat.reduceAdd, Nat.reduceLeDiff, Nat.reduceLT, List.set_cons_zero, List.set_cons_succ, eq_self, or_true, true_or, reduceIte, xt_ne, xt_eq, Nat.reduceEqDiff, Nat.one_ne_zero, if_false, h0, h1, h2, o0, s0, cl, mx_11, xt_b0]
    by_cases c2 : xsh (yS A) s = 0 ∧ xsq (yS A) s = q
    · simp only [c2, and_self, not_true_eq_false, if_false]
      rw [if_pos (Or.inr trivial)]
      exact no
    · rw [if_neg (fun h => h.elim (fun h => h) (fun h => c2 h))]
      simp only [if_pos c2]
      obtain ⟨⟨z1, M1⟩, cE1, c1, f1, hA1⟩ := pc_note hA iA
      have c1 : z1 = none := c1
      subst c1
      dsimp only at f1 hA1
      obtain ⟨hO1, hX1, hT1, ⟨T1, hU1⟩, hS1, ⟨S1, hN1⟩, hP1, hK1, hG1, hW1⟩ := id hA1
      have o1 := (f1.1 b (by omega)).trans o0
      obtain ⟨-, -, p0, -⟩ := id hP
      have t1 := hT1.1
      have s1 := hS1.1
      obtain ⟨⟨z2, M2⟩, cE2, c2', f2, hS2⟩ := pc_settle hS1 s q hs b6
      have c2' : z2 = none := c2'
      subst c2'
      dsimp only at f2 hS2
      have o2 := (f2.1 b (by omega)).trans o1
      have hA2 := xA_S (S := xq_set (yS A) s q) hS2 hA1 f2
      obtain ⟨v0, -, -, ⟨g3, v3, e3⟩, -⟩ := id hS2
      have e3 := e3 s hs
      simp (disch := omega) only [↓ra_56_44, ↓ra_56_45, ↓ra_56_48, ↓ra_56_49, ↓ra_56_52, ↓ra_56_55, ↓ra_56_56, ↓ra_56_59, ↓ra_56_60, ↓ra_56_61, ↓ra_56_64, ↓ra_56_65, ↓ra_56_68, ↓ra_56_71, ↓ra_56_72, ↓ra_56_73, xa_kli, xa_klr, xa_kll, xa_ki, xa_kl, xa_kr, xa_kii, xa_kk, xa_kir, xa_krr, xa_kiir, xa_krir, xa_kdup, xa_kdup2, xa_kcp, xa_gf, xa_pf, xa_ga, xa_pa, xa_gq, xa_pq, xa_gl, xa_args, xa_ri, xa_rz, xa_rv, xa_s1, xa_s2, xa_c1, eq_self, List.getElem?_cons_succ, List.getElem?_cons_zero, true_and, and_true, nI_add, pk_mul, xt_in, xt_cl, xt_i0, xt_i1, xa_kc, xa_w8, xa_fit, lg_sl, List.flatMap_cons, List.flatMap_nil, List.map_cons, List.map_nil, List.sum_cons, List.sum_nil, Value.category, List.length_cons, List.length_nil, List.length_append, xa_rc, xa_rf, exists_eq_left, exists_eq', Option.some.injEq, Sum.inr.injEq, Prod.mk.injEq, Option.toList_some, Option.toList_none, List.cons_append, List.nil_append, Nat.reduceAdd, Nat.reduceLeDiff, Nat.reduceLT, List.set_cons_zero, List.set_cons_succ, eq_self, or_true, true_or, reduceIte, xt_ne, xt_eq, Nat.reduceEqDiff, Nat.one_ne_zero, if_false, h0, h1, h2, o0, o1, o2, s0, s1, p0, v0, v3, e3, xa_iff cE1, mx_1, xa_iff cE2, mx_12]
      exact ⟨rfl, xa_fr_tr (xa_fr_w f1 (by omega) (by omega)) (xa_fr_w f2 (by omega) (by omega)), hA2⟩
-- leave
def xs_leave (A : xt_A) (s : Nat) : Int32 × xt_A := if xsh (yS A) s = 0 then (nI (xss (yS A) s), yT A, xq_out (yS A) s, yX A, xq_pu A, yK A, yG A) else (Int32.ofInt (-2), A)
theorem pm_leave_n {M : xa_M} {b : Nat} {A : xt_A} (hA : xh_A M b A) (iA : xi_A A) {x : Int32} (h : ¬ xt_k x 0 (xnS (yT A))) : xa_E 57 0 (xa_ent [.ref b, .int x]) [] M (some (.int (Int32.ofInt (-1))), M) := by
  obtain ⟨hO, hX, hT, ⟨T0, hU⟩, hS, ⟨S0, hN⟩, hP, hK, hG, hW⟩ := id hA
  obtain ⟨iT, i5, i60, i1, ⟨iS, iD⟩, iX, iU, iK, iG⟩ := id iA
  obtain ⟨⟨b1, b2, b3, b4, b5, b6, b7, b8⟩, bs, bm, bw⟩ := id iT
  have o0 : xh_O M b := hO
  unfold xh_O at o0
  have t0 := hT.1
  have s0 := hS.1
  have n0 := hN.1
  have u0 := hU.1
  refine xa_go2 (fun lv h0 h1 => ?_)
  have cn := xa_iff (pc_noSerf_n hO hT h b6)
  simp (disch := omega) only [↓ra_57_0, ↓ra_57_1, ↓ra_57_2, ↓ra_57_5, ↓ra_57_8, ↓ra_57_9, xa_kli, xa_klr, xa_kll, xa_ki, xa_kl, xa_kr, xa_kii, xa_kk, xa_kir, xa_krr, xa_kiir, xa_krir, xa_kdup, xa_kdup2, xa_kcp, xa_gf, xa_pf, xa_ga, xa_pa, xa_gq, xa_pq, xa_gl, xa_args, xa_ri, xa_rz, xa_rv, xa_s1, xa_s2, xa_c1, eq_self, List.getElem?_cons_succ, List.getElem?_cons_zero, true_and, and_true, nI_add, pk_mul, xt_in, xt_cl, xt_i0, xt_i1, xa_kc, xa_w8, xa_fit, lg_sl, List.flatMap_cons, List.flatMap_nil, List.map_cons, List.map_nil, List.sum_cons, List.sum_nil, Value.category, List.length_cons, List.length_nil, List.length_append, xa_rc, xa_rf, exists_eq_left, exists_eq', Option.some.injEq, Sum.inr.injEq, Prod.mk.injEq, Option.toList_some, Option.toList_none, List.cons_append, List.nil_append, Nat.reduceAdd, Nat.reduceLeDiff, Nat.reduceLT, List.set_cons_zero, List.set_cons_succ, eq_self, or_true, true_or, reduceIte, xt_ne, xt_eq, Nat.reduceEqDiff, Nat.one_ne_zero, if_false, h0, h1, cn, mx_78, o0]
theorem pm_leave {M : xa_M} {b : Nat} {A : xt_A} (hA : xh_A M b A) (iA : xi_A A) (s : Nat) (hs : s < xnS (yT A)) : ∃ z, xa_E 57 0 (xa_ent [.ref b, .int (nI s)]) [] M z ∧ xm b M (xs_leave A s).1 (xs_leave A s).2 z := by
  obtain ⟨hO, hX, hT, ⟨T0, hU⟩, hS, ⟨S0, hN⟩, hP, hK, hG, hW⟩ := id hA
  obtain ⟨iT, i5, i60, i1, ⟨iS, iD⟩, iX, iU, iK, iG⟩ := id iA
  obtain ⟨⟨b1, b2, b3, b4, b5, b6, b7, b8⟩, bs, bm, bw⟩ := id iT
  have o0 : xh_O M b := hO
  unfold xh_O at o0
  have t0 := hT.1
  have s0 := hS.1
  have n0 := hN.1
  have u0 := hU.1
  have cn := xa_iff (pc_noSerf_y hO hT s hs b6)
  have dd := iS.2.1 s hs
  obtain ⟨-, ⟨g1, q1, e1⟩, -⟩ := id hS
  have e1 := e1 s hs
  refine xa_ge2 (fun lv h0 h1 => ?_)
  simp (disch := omega) only [↓ra_57_0, ↓ra_57_1, ↓ra_57_2, ↓ra_57_5, ↓ra_57_10, ↓ra_57_11, ↓ra_57_14, ↓ra_57_17, ↓ra_57_18, ↓ra_57_19, xa_kli, xa_klr, xa_kll, xa_ki, xa_kl, xa_kr, xa_kii, xa_kk, xa_kir, xa_krr, xa_kiir, xa_krir, xa_kdup, xa_kdup2, xa_kcp, xa_gf, xa_pf, xa_ga, xa_pa, xa_gq, xa_pq, xa_gl, xa_args, xa_ri, xa_rz, xa_rv, xa_s1, xa_s2, xa_c1, eq_self, List.getElem?_cons_succ, List.getElem?_cons_zero, true_and, and_true, nI_add, pk_mul, xt_in, xt_cl, xt_i0, xt_i1, xa_kc, xa_w8, xa_fit, lg_sl, List.flatMap_cons, List.flatMap_nil, List.map_cons, List.map_nil, List.sum_cons, List.sum_nil, Value.category, List.length_cons, List.length_nil, List.length_append, xa_rc, xa_rf, exists_eq_left, exists_eq', Option.some.injEq, Sum.inr.injEq, Prod.mk.injEq, Option.toList_some, Option.toList_none, List.cons_append, List.nil_append, Nat.reduceAdd, Nat.reduceLeDiff, Nat.reduceLT, List.set_cons_zero, List.set_cons_succ, eq_self, or_true, true_or, reduceIte, xt_ne, h0, h1, cn, mx_78, o0, s0, q1, e1, xt_eq]
  unfold xs_leave
  by_cases c : xsh (yS A) s = 0
  · simp only [if_pos c]
    obtain ⟨⟨z1, M1⟩, cE1, c1, f1, hA1⟩ := pc_note hA iA
    have c1 : z1 = none := c1
    subst c1
    dsimp only at f1 hA1
    obtain ⟨hO1, hX1, hT1, ⟨T1, hU1⟩, hS1, ⟨S1, hN1⟩, hP1, hK1, hG1, hW1⟩ := id hA1
    have o1 := (f1.1 b (by omega)).trans o0
    obtain ⟨-, -, p0, -⟩ := id hP
    have t1 := hT1.1
    have s1 := hS1.1
    obtain ⟨⟨z2, M2⟩, cE2, c2', f2, hS2⟩ := pc_goOut hS1 s hs b6
    have c2' : z2 = none := c2'
    subst c2'
    dsimp only at f2 hS2
    have hA2 := xA_S (S := xq_out (yS A) s) hS2 hA1 f2
    obtain ⟨v0, -, -, ⟨g3, v3, e3⟩, -⟩ := id hS1
    have e3 := e3 s hs
    simp (disch := omega) only [↓ra_57_25, ↓ra_57_26, ↓ra_57_29, ↓ra_57_30, ↓ra_57_33, ↓ra_57_36, ↓ra_57_37, ↓ra_57_40, ↓ra_57_43, ↓ra_57_44, ↓ra_57_45, ↓ra_57_46, ↓ra_57_47, ↓ra_57_50, ↓ra_57_51, ↓ra_57_54, ↓ra_57_55, xa_kli, xa_klr, xa_kll, xa_ki, xa_kl, xa_kr, xa_kii, xa_kk, xa_kir, xa_krr, xa_kiir, xa_krir, xa_kdup, xa_kdup2, xa_kcp, xa_gf, xa_pf, xa_ga, xa_pa, xa_gq, xa_pq, xa_gl, xa_args, xa_ri, xa_rz, xa_rv, xa_s1, xa_s2, xa_c1, eq_self, List.getElem?_cons_succ, List.getElem?_cons_zero, true_and, and_true, nI_add, pk_mul, xt_in, xt_cl, xt_i0, xt_i1, xa_kc, xa_w8, xa_fit, lg_sl, List.flatMap_cons, List.flatMap_nil, List.map_cons, List.map_nil, List.sum_cons, List.sum_nil, Value.category, List.length_cons, List.length_nil, List.length_append, xa_rc, xa_rf, exists_eq_left, exists_eq', Option.some.injEq, Sum.inr.injEq, Prod.mk.injEq, Option.toList_some, Option.toList_none, List.cons_append, List.nil_append, Nat.reduceAdd, Nat.reduceLeDiff, Nat.reduceLT, List.set_cons_zero, List.set_cons_succ, eq_self, or_true, true_or, reduceIte, xt_ne, xt_eq, Nat.reduceEqDiff, Nat.one_ne_zero, if_false, h0, h1, o0, o1, s0, s1, p0, v0, v3, e3, xa_iff cE1, mx_1, xa_iff cE2, mx_13]
    exact ⟨rfl, xa_fr_tr (xa_fr_w f1 (by omega) (by omega)) (xa_fr_w f2 (by omega) (by omega)), hA2⟩
  · simp only [if_neg c]
    simp (disch := omega) only [↓ra_57_22, ↓ra_57_24, xa_kli, xa_klr, xa_kll, xa_ki, xa_kl, xa_kr, xa_kii, xa_kk, xa_kir, xa_krr, xa_kiir, xa_krir, xa_kdup, xa_kdup2, xa_kcp, xa_gf, xa_pf, xa_ga, xa_pa, xa_gq, xa_pq, xa_gl, xa_args, xa_ri, xa_rz, xa_rv, xa_s1, xa_s2, xa_c1, eq_self, List.getElem?_cons_succ, List.getElem?_cons_zero, true_and, and_true, nI_add, pk_mul, xt_in, xt_cl, xt_i0, xt_i1, xa_kc, xa_w8, xa_fit, lg_sl, List.flatMap_cons, List.flatMap_nil, List.map_cons, List.map_nil, List.sum_cons, List.sum_nil, Value.category, List.length_cons, List.length_nil, List.length_append, xa_rc, xa_rf, exists_eq_left, exists_eq', Option.some.injEq, Sum.inr.injEq, Prod.mk.injEq, Option.toList_some, Option.toList_none, List.cons_append, List.nil_append, Nat.reduceAdd, Nat.reduceLeDiff, Nat.reduceLT, List.set_cons_zero, List.set_cons_succ, eq_self, or_true, true_or, reduceIte, xt_ne]
    exact xm_r hA
-- send
def xs_send (A : xt_A) (m q : Nat) : Int32 × xt_A := (nI (xsp (yS A) m), yT A, xq_po (yS A) m q, yX A, xq_pu A, yK A, yG A)
theorem pm_send_n {M : xa_M} {b : Nat} {A : xt_A} (hA : xh_A M b A) (iA : xi_A A) {x y : Int32} (h : ¬ (xt_k x 0 (xnM (yT A)) ∧ xt_k y 0 (xC (yT A)))) : xa_E 58 0 (xa_ent [.ref b, .int x, .int y]) [] M (some (.int (Int32.ofInt (-1))), M) := by
  obtain ⟨hO, hX, hT, ⟨T0, hU⟩, hS, ⟨S0, hN⟩, hP, hK, hG, hW⟩ := id hA
  obtain ⟨iT, i5, i60, i1, ⟨iS, iD⟩, iX, iU, iK, iG⟩ := id iA
  obtain ⟨⟨b1, b2, b3, b4, b5, b6, b7, b8⟩, bs, bm, bw⟩ := id iT
  have o0 : xh_O M b := hO
  unfold xh_O at o0
  have t0 := hT.1
  have s0 := hS.1
  have n0 := hN.1
  have u0 := hU.1
  refine xa_go3 (fun lv h0 h1 h2 => ?_)
  by_cases a : xt_k x 0 (xnM (yT A))
  · have a2 : ¬ xt_k y 0 (xC (yT A)) := fun a2 => h ⟨a, a2⟩
    obtain ⟨s, -, hs, rfl⟩ := a
    have cn := xa_iff (pc_noMan_y hO hT s hs b7)
    have cq := xa_iff (pc_noQ_n hO hT a2 b4)
    simp (disch := omega) only [↓ra_58_0, ↓ra_58_1, ↓ra_58_2, ↓ra_58_5, ↓ra_58_8, ↓ra_58_9, ↓ra_58_10, ↓ra_58_13, ↓ra_58_16, ↓ra_58_17, xa_kli, xa_klr, xa_kll, xa_ki, xa_kl, xa_kr, xa_kii, xa_kk, xa_kir, xa_krr, xa_kiir, xa_krir, xa_kdup, xa_kdup2, xa_kcp, xa_gf, xa_pf, xa_ga, xa_pa, xa_gq, xa_pq, xa_gl, xa_args, xa_ri, xa_rz, xa_rv, xa_s1, xa_s2, xa_c1, eq_self, List.getElem?_cons_succ, List.getElem?_cons_zero, true_and, and_true, nI_add, pk_mul, xt_in, xt_cl, xt_i0, xt_i1, xa_kc, xa_w8, xa_fit, lg_sl, List.flatMap_cons, List.flatMap_nil, List.map_cons, List.map_nil, List.sum_cons, List.sum_nil, Value.category, List.length_cons, List.length_nil, List.length_append, xa_rc, xa_rf, exists_eq_left, exists_eq', Option.some.injEq, Sum.inr.injEq, Prod.mk.injEq, Option.toList_some, Option.toList_none, List.cons_append, List.nil_append, Nat.reduceAdd, Nat.reduceLeDiff, Nat.reduceLT, List.set_cons_zero, List.set_cons_succ, eq_self, or_true, true_or, reduceIte, xt_ne, xt_eq, Nat.reduceEqDiff, Nat.one_ne_zero, if_false, h0, h1, h2, cn, mx_79, cq, mx_80, o0]
  · have cn := xa_iff (pc_noMan_n hO hT a b7)
    simp (disch := omega) only [↓ra_58_0, ↓ra_58_1, ↓ra_58_2, ↓ra_58_5, ↓ra_58_16, ↓ra_58_17, xa_kli, xa_klr, xa_kll, xa_ki, xa_kl, xa_kr, xa_kii, xa_kk, xa_kir, xa_krr, xa_kiir, xa_krir, xa_kdup, xa_kdup2, xa_kcp, xa_gf, xa_pf, xa_ga, xa_pa, xa_gq, xa_pq, xa_gl, xa_args, xa_ri, xa_rz, xa_rv, xa_s1, xa_s2, xa_c1, eq_self, List.getElem?_cons_succ, List.getElem?_cons_zero, true_and, and_true, nI_add, pk_mul, xt_in, xt_cl, xt_i0, xt_i1, xa_kc, xa_w8, xa_fit, lg_sl, List.flatMap_cons, List.flatMap_nil, List.map_cons, List.map_nil, List.sum_cons, List.sum_nil, Value.category, List.length_cons, List.length_nil, List.length_append, xa_rc, xa_rf, exists_eq_left, exists_eq', Option.some.injEq, Sum.inr.injEq, Prod.mk.injEq, Option.toList_some, Option.toList_none, List.cons_append, List.nil_append, Nat.reduceAdd, Nat.reduceLeDiff, Nat.reduceLT, List.set_cons_zero, List.set_cons_succ, eq_self, or_true, true_or, reduceIte, xt_ne, xt_eq, Nat.reduceEqDiff, Nat.one_ne_zero, if_false, h0, h1, h2, cn, mx_79, o0]
theorem pm_send {M : xa_M} {b : Nat} {A : xt_A} (hA : xh_A M b A) (iA : xi_A A) (m q : Nat) (hm : m < xnM (yT A)) (hq : q < xC (yT A)) : ∃ z, xa_E 58 0 (xa_ent [.ref b, .int (nI m), .int (nI q)]) [] M z ∧ xm b M (xs_send A m q).1 (xs_send A m q).2 z := by
  obtain ⟨hO, hX, hT, ⟨T0, hU⟩, hS, ⟨S0, hN⟩, hP, hK, hG, hW⟩ := id hA
  obtain ⟨iT, i5, i60, i1, ⟨iS, iD⟩, iX, iU, iK, iG⟩ := id iA
  obtain ⟨⟨b1, b2, b3, b4, b5, b6, b7, b8⟩, bs, bm, bw⟩ := id iT
  have o0 : xh_O M b := hO
  unfold xh_O at o0
  have t0 := hT.1
  have s0 := hS.1
  have n0 := hN.1
  have u0 := hU.1
  have cn := xa_iff (pc_noMan_y hO hT m hm b7)
  have cq := xa_iff (pc_noQ_y hO hT q hq b4)
  refine xa_ge3 (fun lv h0 h1 h2 => ?_)
  obtain ⟨⟨z1, M1⟩, cE1, c1, f1, hA1⟩ := pc_note hA iA
  have c1 : z1 = none := c1
  subst c1
  dsimp only at f1 hA1
  obtain ⟨hO1, hX1, hT1, ⟨T1, hU1⟩, hS1, ⟨S1, hN1⟩, hP1, hK1, hG1, hW1⟩ := id hA1
  have o1 := (f1.1 b (by omega)).trans o0
  obtain ⟨-, -, p0, -⟩ := id hP
  have t1 := hT1.1
  have s1 := hS1.1
  obtain ⟨v0, v1, v2, v3, v4, ⟨g5, v5, e5⟩⟩ := id hS1
  have e5' := e5 m hm
  simp (disch := omega) only [↓ra_58_0, ↓ra_58_1, ↓ra_58_2, ↓ra_58_5, ↓ra_58_8, ↓ra_58_9, ↓ra_58_10, ↓ra_58_13, ↓ra_58_18, ↓ra_58_19, ↓ra_58_22, ↓ra_58_23, ↓ra_58_26, ↓ra_58_29, ↓ra_58_30, ↓ra_58_33, ↓ra_58_36, ↓ra_58_37, ↓ra_58_38, ↓ra_58_39, ↓ra_58_40, ↓ra_58_43, ↓ra_58_46, ↓ra_58_47, ↓ra_58_48, ↓ra_58_49, ↓ra_58_50, xa_kli, xa_klr, xa_kll, xa_ki, xa_kl, xa_kr, xa_kii, xa_kk, xa_kir, xa_krr, xa_kiir, xa_krir, xa_kdup, xa_kdup2, xa_kcp, xa_gf, xa_pf, xa_ga, xa_pa, xa_gq, xa_pq, xa_gl, xa_args, xa_ri, xa_rz, xa_rv, xa_s1, xa_s2, xa_c1, eq_self, List.getElem?_cons_succ, List.getElem?_cons_zero, true_and, and_true, nI_add, pk_mul, xt_in, xt_cl, xt_i0, xt_i1, xa_kc, xa_w8, xa_fit, lg_sl, List.flatMap_cons, List.flatMap_nil, List.map_cons, List.map_nil, List.sum_cons, List.sum_nil, Value.category, List.length_cons, List.length_nil, List.length_append, xa_rc, xa_rf, exists_eq_left, exists_eq', Option.some.injEq, Sum.inr.injEq, Prod.mk.injEq, Option.toList_some, Option.toList_none, List.cons_append, List.nil_append, Nat.reduceAdd, Nat.reduceLeDiff, Nat.reduceLT, List.set_cons_zero, List.set_cons_succ, eq_self, or_true, true_or, reduceIte, xt_ne, xt_eq, Nat.reduceEqDiff, Nat.one_ne_zero, if_false, h0, h1, h2, cn, mx_79, cq, mx_80, o0, o1, s0, p0, v0, v5, e5', xa_iff cE1, mx_1]
  have f2 : xa_fr (b + 22) (b + 28) M1 (xa_st M1 (b + 22 + 5) (.inl (0, 6, .inl (upd g5 m (nI q))))) := xa_fr_st (by omega) (by omega)
  have hA2 := xA_S (S := xq_po (yS A) m q) ⟨(xa_st_ne (by omega)).trans v0, xa_ar_ne v1 (by omega), xa_ar_ne v2 (by omega), xa_ar_ne v3 (by omega), xa_ar_ne v4 (by omega), xa_ar_up e5 (if_pos rfl) (fun j _ h => if_neg h)⟩ hA1 f2
  exact ⟨rfl, xa_fr_tr (xa_fr_w f1 (by omega) (by omega)) (xa_fr_w f2 (by omega) (by omega)), hA2⟩
-- pass
def xs_pass (A : xt_A) (n : Nat) : Int32 × xt_A := if xsd (yS A) + n ≤ 999 then (nI (xq_n (yT A) (xq_days (yT A) n (yS A)) 2) - nI (xq_n (yT A) (yS A) 2), yT A, xq_days (yT A) n (yS A), yX A, xq_pu A, yK A, yG A) else (Int32.ofInt (-2), A)
theorem pm_pass_n {M : xa_M} {b : Nat} {x : Int32} (h : ¬ xt_k x 1 (60 + 1)) : xa_E 59 0 (xa_ent [.ref b, .int x]) [] M (some (.int (Int32.ofInt (-1))), M) := by
  have cn := xa_iff (pc_isNot_n (M := M) 1 60 h (by omega) (by omega))
  refine xa_go2 (fun lv h0 h1 => ?_)
  simp (disch := omega) only [↓ra_59_0, ↓ra_59_1, ↓ra_59_2, ↓ra_59_4, ↓ra_59_7, ↓ra_59_10, ↓ra_59_11, xa_kli, xa_klr, xa_kll, xa_ki, xa_kl, xa_kr, xa_kii, xa_kk, xa_kir, xa_krr, xa_kiir, xa_krir, xa_kdup, xa_kdup2, xa_kcp, xa_gf, xa_pf, xa_ga, xa_pa, xa_gq, xa_pq, xa_gl, xa_args, xa_ri, xa_rz, xa_rv, xa_s1, xa_s2, xa_c1, eq_self, List.getElem?_cons_succ, List.getElem?_cons_zero, true_and, and_true, nI_add, pk_mul, xt_in, xt_cl, xt_i0, xt_i1, xa_kc, xa_w8, xa_fit, lg_sl, List.flatMap_cons, List.flatMap_nil, List.map_cons, List.map_nil, List.sum_cons, List.sum_nil, Value.category, List.length_cons, List.length_nil, List.length_append, xa_rc, xa_rf, exists_eq_left, exists_eq', Option.some.injEq, Sum.inr.injEq, Prod.mk.injEq, Option.toList_some, Option.toList_none, List.cons_append, List.nil_append, Nat.reduceAdd, Nat.reduceLeDiff, Nat.reduceLT, List.set_cons_zero, List.set_cons_succ, eq_self, or_true, true_or, reduceIte, xt_ne, xt_eq, Nat.reduceEqDiff, Nat.one_ne_zero, if_false, h0, h1, cn, mx_77]
theorem pm_pass {M : xa_M} {b : Nat} {A : xt_A} (hA : xh_A M b A) (iA : xi_A A) (n : Nat) (h1n : 1 ≤ n) (h2n : n ≤ 60) : ∃ z, xa_E 59 0 (xa_ent [.ref b, .int (nI n)]) [] M z ∧ xm b M (xs_pass A n).1 (xs_pass A n).2 z := by
  obtain ⟨hO, hX, hT, ⟨T0, hU⟩, hS, ⟨S0, hN⟩, hP, hK, hG, hW⟩ := id hA
  obtain ⟨iT, i5, i60, i1, ⟨iS, iD⟩, iX, iU, iK, iG⟩ := id iA
  obtain ⟨⟨b1, b2, b3, b4, b5, b6, b7, b8⟩, bs, bm, bw⟩ := id iT
  have o0 : xh_O M b := hO
  unfold xh_O at o0
  have t0 := hT.1
  have s0 := hS.1
  have n0 := hN.1
  have u0 := hU.1
  have cn := xa_iff (pc_isNot_y (M := M) n 1 60 h1n h2n (by omega))
  refine xa_ge2 (fun lv h0 h1 => ?_)
  simp (disch := omega) only [↓ra_59_0, ↓ra_59_1, ↓ra_59_2, ↓ra_59_4, ↓ra_59_7, ↓ra_59_12, ↓ra_59_13, ↓ra_59_16, ↓ra_59_19, ↓ra_59_20, ↓ra_59_21, ↓ra_59_24, xa_kli, xa_klr, xa_kll, xa_ki, xa_kl, xa_kr, xa_kii, xa_kk, xa_kir, xa_krr, xa_kiir, xa_krir, xa_kdup, xa_kdup2, xa_kcp, xa_gf, xa_pf, xa_ga, xa_pa, xa_gq, xa_pq, xa_gl, xa_args, xa_ri, xa_rz, xa_rv, xa_s1, xa_s2, xa_c1, eq_self, List.getElem?_cons_succ, List.getElem?_cons_zero, true_and, and_true, nI_add, pk_mul, xt_in, xt_cl, xt_i0, xt_i1, xa_kc, xa_w8, xa_fit, lg_sl, List.flatMap_cons, List.flatMap_nil, List.map_cons, List.map_nil, List.sum_cons, List.sum_nil, Value.category, List.length_cons, List.length_nil, List.length_append, xa_rc, xa_rf, exists_eq_left, exists_eq', Option.some.injEq, Sum.inr.injEq, Prod.mk.injEq, Option.toList_some, Option.toList_none, List.cons_append, List.nil_append, Nat.reduceAdd, Nat.reduceLeDiff, Nat.reduceLT, List.set_cons_zero, List.set_cons_succ, eq_self, or_true, true_or, reduceIte, xt_ne, h0, h1, cn, mx_77, o0, s0, xt_le]
  unfold xs_pass
  by_cases c : xsd (yS A) + n ≤ 999
  · simp only [if_pos c]
    obtain ⟨⟨z1, M1⟩, cE1, c1, f1, hA1⟩ := pc_note hA iA
    have c1 : z1 = none := c1
    subst c1
    dsimp only at f1 hA1
    obtain ⟨hO1, hX1, hT1, ⟨T1, hU1⟩, hS1, ⟨S1, hN1⟩, hP1, hK1, hG1, hW1⟩ := id hA1
    have o1 := (f1.1 b (by omega)).trans o0
    obtain ⟨-, -, p0, -⟩ := id hP
    have t1 := hT1.1
    have s1 := hS1.1
    obtain ⟨⟨z2, M2⟩, cE2, c2', f2, hS2⟩ := pc_goDays hS1 hT1 (by omega) iT iS n (by show xsd (yS A) + n ≤ _; omega)
    have c2' : z2 = none := c2'
    subst c2'
    dsimp only at f2 hS2
    have hA2 := xA_S hS2 hA1 (xa_fr_w f2 (by omega) (by omega))
    have o2 := (f2.1 b (by omega)).trans o1
    have hT2 := xh_T_fr hT1 f2 (by omega)
    have i2 := (xi_days iT n iS (by omega)).1
    have h2a := xa_iff (pc_howMany hS1 hT1 b6 (fun s hs => Nat.lt_of_le_of_lt (iS.2.1 s hs).1 (by decide)) 2 (by omega))
    have h2b := xa_iff (pc_howMany hS2 hT2 b6 (fun s hs => Nat.lt_of_le_of_lt (i2.2.1 s hs).1 (by decide)) 2 (by omega))
    have t2 := hT2.1
    have s2 := hS2.1
    simp (disch := omega) only [↓ra_59_30, ↓ra_59_31, ↓ra_59_34, ↓ra_59_35, ↓ra_59_38, ↓ra_59_41, ↓ra_59_42, ↓ra_59_45, ↓ra_59_46, ↓ra_59_49, ↓ra_59_50, ↓ra_59_53, ↓ra_59_54, ↓ra_59_55, ↓ra_59_58, ↓ra_59_59, ↓ra_59_62, ↓ra_59_63, ↓ra_59_66, ↓ra_59_67, ↓ra_59_70, ↓ra_59_71, ↓ra_59_74, ↓ra_59_75, ↓ra_59_78, ↓ra_59_79, ↓ra_59_80, xa_kli, xa_klr, xa_kll, xa_ki, xa_kl, xa_kr, xa_kii, xa_kk, xa_kir, xa_krr, xa_kiir, xa_krir, xa_kdup, xa_kdup2, xa_kcp, xa_gf, xa_pf, xa_ga, xa_pa, xa_gq, xa_pq, xa_gl, xa_args, xa_ri, xa_rz, xa_rv, xa_s1, xa_s2, xa_c1, eq_self, List.getElem?_cons_succ, List.getElem?_cons_zero, true_and, and_true, nI_add, pk_mul, xt_in, xt_cl, xt_i0, xt_i1, xa_kc, xa_w8, xa_fit, lg_sl, List.flatMap_cons, List.flatMap_nil, List.map_cons, List.map_nil, List.sum_cons, List.sum_nil, Value.category, List.length_cons, List.length_nil, List.length_append, xa_rc, xa_rf, exists_eq_left, exists_eq', Option.some.injEq, Sum.inr.injEq, Prod.mk.injEq, Option.toList_some, Option.toList_none, List.cons_append, List.nil_append, Nat.reduceAdd, Nat.reduceLeDiff, Nat.reduceLT, List.set_cons_zero, List.set_cons_succ, eq_self, or_true, true_or, reduceIte, xt_ne, xt_eq, Nat.reduceEqDiff, Nat.one_ne_zero, if_false, h0, h1, o0, o1, o2, s0, s1, s2, t1, t2, p0, xa_iff cE1, mx_1, xa_iff cE2, mx_17, h2a, h2b, mx_14]
    exact ⟨rfl, xa_fr_tr (xa_fr_w f1 (by omega) (by omega)) (xa_fr_w f2 (by omega) (by omega)), hA2⟩
  · simp only [if_neg c]
    simp (disch := omega) only [↓ra_59_27, ↓ra_59_29, xa_kli, xa_klr, xa_kll, xa_ki, xa_kl, xa_kr, xa_kii, xa_kk, xa_kir, xa_krr, xa_kiir, xa_krir, xa_kdup, xa_kdup2, xa_kcp, xa_gf, xa_pf, xa_ga, xa_pa, xa_gq, xa_pq, xa_gl, xa_args, xa_ri, xa_rz, xa_rv, xa_s1, xa_s2, xa_c1, eq_self, List.getElem?_cons_succ, List.getElem?_cons_zero, true_and, and_true, nI_add, pk_mul, xt_in, xt_cl, xt_i0, xt_i1, xa_kc, xa_w8, xa_fit, lg_sl, List.flatMap_cons, List.flatMap_nil, List.map_cons, List.map_nil, List.sum_cons, List.sum_nil, Value.category, List.length_cons, List.length_nil, List.length_append, xa_rc, xa_rf, exists_eq_left, exists_eq', Option.some.injEq, Sum.inr.injEq, Prod.mk.injEq, Option.toList_some, Option.toList_none, List.cons_append, List.nil_append, Nat.reduceAdd, Nat.reduceLeDiff, Nat.reduceLT, List.set_cons_zero, List.set_cons_succ, eq_self, or_true, true_or, reduceIte, xt_ne]
    exact xm_r hA
-- undo
def xs_undo (A : xt_A) : Int32 × xt_A := if (yU A).1 = 0 then (Int32.ofInt (-2), A) else (nI ((yU A).1 - 1), yT A, (yU A).2 ((yU A).1 - 1), yX A, ((yU A).1 - 1, (yU A).2), yK A, yG A)
theorem pm_undo {M : xa_M} {b : Nat} {A : xt_A} (hA : xh_A M b A) (iA : xi_A A) : ∃ z, xa_E 60 0 (xa_ent [.ref b]) [] M z ∧ xm b M (xs_undo A).1 (xs_undo A).2 z := by
  obtain ⟨hO, hX, hT, ⟨T0, hU⟩, hS, ⟨S0, hN⟩, hP, hK, hG, hW⟩ := id hA
  obtain ⟨iT, i5, i60, i1, ⟨iS, iD⟩, iX, iU, iK, iG⟩ := id iA
  obtain ⟨⟨b1, b2, b3, b4, b5, b6, b7, b8⟩, bs, bm, bw⟩ := id iT
  have o0 : xh_O M b := hO
  unfold xh_O at o0
  have t0 := hT.1
  have s0 := hS.1
  have n0 := hN.1
  have u0 := hU.1
  have iu := iU.1
  obtain ⟨-, -, p0, -⟩ := id hP
  refine xa_ge1 (fun lv h0 => ?_)
  simp (disch := omega) only [↓ra_60_0, ↓ra_60_1, ↓ra_60_4, ↓ra_60_7, xa_kli, xa_klr, xa_kll, xa_ki, xa_kl, xa_kr, xa_kii, xa_kk, xa_kir, xa_krr, xa_kiir, xa_krir, xa_kdup, xa_kdup2, xa_kcp, xa_gf, xa_pf, xa_ga, xa_pa, xa_gq, xa_pq, xa_gl, xa_args, xa_ri, xa_rz, xa_rv, xa_s1, xa_s2, xa_c1, eq_self, List.getElem?_cons_succ, List.getElem?_cons_zero, true_and, and_true, nI_add, pk_mul, xt_in, xt_cl, xt_i0, xt_i1, xa_kc, xa_w8, xa_fit, lg_sl, List.flatMap_cons, List.flatMap_nil, List.map_cons, List.map_nil, List.sum_cons, List.sum_nil, Value.category, List.length_cons, List.length_nil, List.length_append, xa_rc, xa_rf, exists_eq_left, exists_eq', Option.some.injEq, Sum.inr.injEq, Prod.mk.injEq, Option.toList_some, Option.toList_none, List.cons_append, List.nil_append, Nat.reduceAdd, Nat.reduceLeDiff, Nat.reduceLT, List.set_cons_zero, List.set_cons_succ, eq_self, or_true, true_or, reduceIte, xt_ne, h0, o0, p0, xt_eq]
  unfold xs_undo
  by_cases c : (yU A).1 = 0
  · simp only [if_pos c]
    simp (disch := omega) only [↓ra_60_10, ↓ra_60_12, xa_kli, xa_klr, xa_kll, xa_ki, xa_kl, xa_kr, xa_kii, xa_kk, xa_kir, xa_krr, xa_kiir, xa_krir, xa_kdup, xa_kdup2, xa_kcp, xa_gf, xa_pf, xa_ga, xa_pa, xa_gq, xa_pq, xa_gl, xa_args, xa_ri, xa_rz, xa_rv, xa_s1, xa_s2, xa_c1, eq_self, List.getElem?_cons_succ, List.getElem?_cons_zero, true_and, and_true, nI_add, pk_mul, xt_in, xt_cl, xt_i0, xt_i1, xa_kc, xa_w8, xa_fit, lg_sl, List.flatMap_cons, List.flatMap_nil, List.map_cons, List.map_nil, List.sum_cons, List.sum_nil, Value.category, List.length_cons, List.length_nil, List.length_append, xa_rc, xa_rf, exists_eq_left, exists_eq', Option.some.injEq, Sum.inr.injEq, Prod.mk.injEq, Option.toList_some, Option.toList_none, List.cons_append, List.nil_append, Nat.reduceAdd, Nat.reduceLeDiff, Nat.reduceLT, List.set_cons_zero, List.set_cons_succ, eq_self, or_true, true_or, reduceIte, xt_ne]
    exact xm_r hA
  · simp only [if_neg c]
    obtain ⟨⟨z1, M1⟩, cE1, c1, f1, f1', hP1, hS1⟩ := pc_takeInto hP (xh_S0 hS) (by omega) (by omega) (by omega) b6 b7
    have c1 : z1 = none := c1
    subst c1
    dsimp only at f1 f1' hP1 hS1
    have hK1 := xh_P_sm hK (M1 := M1) (fun a x y => f1 a (by omega) (by omega))
    have hA1 := xA_SP (P := (_, _)) (K := yK A) hA f1 (Or.inl rfl) hS1 hP1 hK1
    have o1 := (f1 b (by omega) (by omega)).trans o0
    obtain ⟨-, -, p1, -⟩ := id hP1
    simp (disch := omega) only [↓ra_60_13, ↓ra_60_14, ↓ra_60_17, ↓ra_60_18, ↓ra_60_21, ↓ra_60_24, ↓ra_60_25, ↓ra_60_28, ↓ra_60_31, xa_kli, xa_klr, xa_kll, xa_ki, xa_kl, xa_kr, xa_kii, xa_kk, xa_kir, xa_krr, xa_kiir, xa_krir, xa_kdup, xa_kdup2, xa_kcp, xa_gf, xa_pf, xa_ga, xa_pa, xa_gq, xa_pq, xa_gl, xa_args, xa_ri, xa_rz, xa_rv, xa_s1, xa_s2, xa_c1, eq_self, List.getElem?_cons_succ, List.getElem?_cons_zero, true_and, and_true, nI_add, pk_mul, xt_in, xt_cl, xt_i0, xt_i1, xa_kc, xa_w8, xa_fit, lg_sl, List.flatMap_cons, List.flatMap_nil, List.map_cons, List.map_nil, List.sum_cons, List.sum_nil, Value.category, List.length_cons, List.length_nil, List.length_append, xa_rc, xa_rf, exists_eq_left, exists_eq', Option.some.injEq, Sum.inr.injEq, Prod.mk.injEq, Option.toList_some, Option.toList_none, List.cons_append, List.nil_append, Nat.reduceAdd, Nat.reduceLeDiff, Nat.reduceLT, List.set_cons_zero, List.set_cons_succ, eq_self, or_true, true_or, reduceIte, xt_ne, xt_eq, Nat.reduceEqDiff, Nat.one_ne_zero, if_false, h0, o0, o1, s0, p0, p1, xa_iff cE1, mx_3]
    exact ⟨rfl, ⟨fun a ha => f1 a (by omega) (by omega), f1'⟩, hA1⟩
-- back
def xs_back (A : xt_A) : Int32 × xt_A := if (yK A).1 = 0 then (Int32.ofInt (-2), A) else (nI ((yK A).1 - 1), yT A, (yK A).2 ((yK A).1 - 1), yX A, (0, (yU A).2), ((yK A).1 - 1, (yK A).2), yG A)
theorem pm_back {M : xa_M} {b : Nat} {A : xt_A} (hA : xh_A M b A) (iA : xi_A A) : ∃ z, xa_E 75 0 (xa_ent [.ref b]) [] M z ∧ xm b M (xs_back A).1 (xs_back A).2 z := by
  obtain ⟨hO, hX, hT, ⟨T0, hU⟩, hS, ⟨S0, hN⟩, hP, hK, hG, hW⟩ := id hA
  obtain ⟨iT, i5, i60, i1, ⟨iS, iD⟩, iX, iU, iK, iG⟩ := id iA
  obtain ⟨⟨b1, b2, b3, b4, b5, b6, b7, b8⟩, bs, bm, bw⟩ := id iT
  have o0 : xh_O M b := hO
  unfold xh_O at o0
  have t0 := hT.1
  have s0 := hS.1
  have n0 := hN.1
  have u0 := hU.1
  have iu := iK.1
  obtain ⟨-, -, k0, -⟩ := id hK
  refine xa_ge1 (fun lv h0 => ?_)
  simp (disch := omega) only [↓ra_75_0, ↓ra_75_1, ↓ra_75_4, ↓ra_75_7, xa_kli, xa_klr, xa_kll, xa_ki, xa_kl, xa_kr, xa_kii, xa_kk, xa_kir, xa_krr, xa_kiir, xa_krir, xa_kdup, xa_kdup2, xa_kcp, xa_gf, xa_pf, xa_ga, xa_pa, xa_gq, xa_pq, xa_gl, xa_args, xa_ri, xa_rz, xa_rv, xa_s1, xa_s2, xa_c1, eq_self, List.getElem?_cons_succ, List.getElem?_cons_zero, true_and, and_true, nI_add, pk_mul, xt_in, xt_cl, xt_i0, xt_i1, xa_kc, xa_w8, xa_fit, lg_sl, List.flatMap_cons, List.flatMap_nil, List.map_cons, List.map_nil, List.sum_cons, List.sum_nil, Value.category, List.length_cons, List.length_nil, List.length_append, xa_rc, xa_rf, exists_eq_left, exists_eq', Option.some.injEq, Sum.inr.injEq, Prod.mk.injEq, Option.toList_some, Option.toList_none, List.cons_append, List.nil_append, Nat.reduceAdd, Nat.reduceLeDiff, Nat.reduceLT, List.set_cons_zero, List.set_cons_succ, eq_self, or_true, true_or, reduceIte, xt_ne, h0, o0, k0, xt_eq]
  unfold xs_back
  by_cases c : (yK A).1 = 0
  · simp only [if_pos c]
    simp (disch := omega) only [↓ra_75_10, ↓ra_75_12, xa_kli, xa_klr, xa_kll, xa_ki, xa_kl, xa_kr, xa_kii, xa_kk, xa_kir, xa_krr, xa_kiir, xa_krir, xa_kdup, xa_kdup2, xa_kcp, xa_gf, xa_pf, xa_ga, xa_pa, xa_gq, xa_pq, xa_gl, xa_args, xa_ri, xa_rz, xa_rv, xa_s1, xa_s2, xa_c1, eq_self, List.getElem?_cons_succ, List.getElem?_cons_zero, true_and, and_true, nI_add, pk_mul, xt_in, xt_cl, xt_i0, xt_i1, xa_kc, xa_w8, xa_fit, lg_sl, List.flatMap_cons, List.flatMap_nil, List.map_cons, List.map_nil, List.sum_cons, List.sum_nil, Value.category, List.length_cons, List.length_nil, List.length_append, xa_rc, xa_rf, exists_eq_left, exists_eq', Option.some.injEq, Sum.inr.injEq, Prod.mk.injEq, Option.toList_some, Option.toList_none, List.cons_append, List.nil_append, Nat.reduceAdd, Nat.reduceLeDiff, Nat.reduceLT, List.set_cons_zero, List.set_cons_succ, eq_self, or_true, true_or, reduceIte, xt_ne]
    exact xm_r hA
  · simp only [if_neg c]
    obtain ⟨⟨z1, M1⟩, cE1, c1, f1, f1', hK1, hS1⟩ := pc_takeInto hK (xh_S0 hS) (by omega) (by omega) (by omega) b6 b7
    have c1 : z1 = none := c1
    subst c1
    dsimp only at f1 f1' hK1 hS1
    have hP1 := xh_P_sm hP (M1 := M1) (fun a x y => f1 a (by omega) (by omega))
    have hA1 := xA_SP (P := yU A) (K := (_, _)) hA f1 (Or.inr rfl) hS1 hP1 hK1
    have o1 := (f1 b (by omega) (by omega)).trans o0
    obtain ⟨-, -, p1, -⟩ := id hP1
    obtain ⟨-, -, k1, -⟩ := id hK1
    simp (disch := omega) only [↓ra_75_13, ↓ra_75_14, ↓ra_75_17, ↓ra_75_18, ↓ra_75_21, ↓ra_75_24, ↓ra_75_25, ↓ra_75_28, ↓ra_75_29, ↓ra_75_32, ↓ra_75_33, ↓ra_75_36, ↓ra_75_39, xa_kli, xa_klr, xa_kll, xa_ki, xa_kl, xa_kr, xa_kii, xa_kk, xa_kir, xa_krr, xa_kiir, xa_krir, xa_kdup, xa_kdup2, xa_kcp, xa_gf, xa_pf, xa_ga, xa_pa, xa_gq, xa_pq, xa_gl, xa_args, xa_ri, xa_rz, xa_rv, xa_s1, xa_s2, xa_c1, eq_self, List.getElem?_cons_succ, List.getElem?_cons_zero, true_and, and_true, nI_add, pk_mul, xt_in, xt_cl, xt_i0, xt_i1, xa_kc, xa_w8, xa_fit, lg_sl, List.flatMap_cons, List.flatMap_nil, List.map_cons, List.map_nil, List.sum_cons, List.sum_nil, Value.category, List.length_cons, List.length_nil, List.length_append, xa_rc, xa_rf, exists_eq_left, exists_eq', Option.some.injEq, Sum.inr.injEq, Prod.mk.injEq, Option.toList_some, Option.toList_none, List.cons_append, List.nil_append, Nat.reduceAdd, Nat.reduceLeDiff, Nat.reduceLT, List.set_cons_zero, List.set_cons_succ, eq_self, or_true, true_or, reduceIte, xt_ne, xt_eq, Nat.reduceEqDiff, Nat.one_ne_zero, if_false, h0, o0, o1, s0, k0, k1, p1, xt_st, xa_iff cE1, mx_3]
    have f2 : xa_fr (b + 34) (b + 84) M1 (xa_st M1 (b + 34) (.inr (0, [.ref (b + 34 + 1), .int (nI 0)]))) := xa_fr_st (by omega) (by omega)
    exact ⟨rfl, xa_fr_tr ⟨fun a ha => f1 a (by omega) (by omega), f1'⟩ (xa_fr_w f2 (by omega) (by omega)), xA_P (P := (0, _)) (xh_P_z hP1 _ _) hA1 f2⟩
-- keep
def xs_keep (A : xt_A) : Int32 × xt_A := if (yK A).1 = 2 then (Int32.ofInt (-3), A) else (nI (xq_pz 2 (yK A).1), yT A, yS A, yX A, yU A, (xq_pz 2 (yK A).1, xq_put 2 (yK A).1 (yK A).2 (yS A)), yG A)
theorem pm_keep {M : xa_M} {b : Nat} {A : xt_A} (hA : xh_A M b A) (iA : xi_A A) : ∃ z, xa_E 74 0 (xa_ent [.ref b]) [] M z ∧ xm b M (xs_keep A).1 (xs_keep A).2 z := by
  obtain ⟨hO, hX, hT, ⟨T0, hU⟩, hS, ⟨S0, hN⟩, hP, hK, hG, hW⟩ := id hA
  obtain ⟨iT, i5, i60, i1, ⟨iS, iD⟩, iX, iU, iK, iG⟩ := id iA
  obtain ⟨⟨b1, b2, b3, b4, b5, b6, b7, b8⟩, bs, bm, bw⟩ := id iT
  have o0 : xh_O M b := hO
  unfold xh_O at o0
  have t0 := hT.1
  have s0 := hS.1
  have n0 := hN.1
  have u0 := hU.1
  have iu := iK.1
  obtain ⟨-, -, k0, -⟩ := id hK
  refine xa_ge1 (fun lv h0 => ?_)
  simp (disch := omega) only [↓ra_74_0, ↓ra_74_1, ↓ra_74_4, ↓ra_74_7, ↓ra_74_8, xa_kli, xa_klr, xa_kll, xa_ki, xa_kl, xa_kr, xa_kii, xa_kk, xa_kir, xa_krr, xa_kiir, xa_krir, xa_kdup, xa_kdup2, xa_kcp, xa_gf, xa_pf, xa_ga, xa_pa, xa_gq, xa_pq, xa_gl, xa_args, xa_ri, xa_rz, xa_rv, xa_s1, xa_s2, xa_c1, eq_self, List.getElem?_cons_succ, List.getElem?_cons_zero, true_and, and_true, nI_add, pk_mul, xt_in, xt_cl, xt_i0, xt_i1, xa_kc, xa_w8, xa_fit, lg_sl, List.flatMap_cons, List.flatMap_nil, List.map_cons, List.map_nil, List.sum_cons, List.sum_nil, Value.category, List.length_cons, List.length_nil, List.length_append, xa_rc, xa_rf, exists_eq_left, exists_eq', Option.some.injEq, Sum.inr.injEq, Prod.mk.injEq, Option.toList_some, Option.toList_none, List.cons_append, List.nil_append, Nat.reduceAdd, Nat.reduceLeDiff, Nat.reduceLT, List.set_cons_zero, List.set_cons_succ, eq_self, or_true, true_or, reduceIte, xt_ne, h0, o0, k0, xt_eq]
  unfold xs_keep
  by_cases c : (yK A).1 = 2
  · simp only [if_pos c]
    simp (disch := omega) only [↓ra_74_11, ↓ra_74_13, xa_kli, xa_klr, xa_kll, xa_ki, xa_kl, xa_kr, xa_kii, xa_kk, xa_kir, xa_krr, xa_kiir, xa_krir, xa_kdup, xa_kdup2, xa_kcp, xa_gf, xa_pf, xa_ga, xa_pa, xa_gq, xa_pq, xa_gl, xa_args, xa_ri, xa_rz, xa_rv, xa_s1, xa_s2, xa_c1, eq_self, List.getElem?_cons_succ, List.getElem?_cons_zero, true_and, and_true, nI_add, pk_mul, xt_in, xt_cl, xt_i0, xt_i1, xa_kc, xa_w8, xa_fit, lg_sl, List.flatMap_cons, List.flatMap_nil, List.map_cons, List.map_nil, List.sum_cons, List.sum_nil, Value.category, List.length_cons, List.length_nil, List.length_append, xa_rc, xa_rf, exists_eq_left, exists_eq', Option.some.injEq, Sum.inr.injEq, Prod.mk.injEq, Option.toList_some, Option.toList_none, List.cons_append, List.nil_append, Nat.reduceAdd, Nat.reduceLeDiff, Nat.reduceLT, List.set_cons_zero, List.set_cons_succ, eq_self, or_true, true_or, reduceIte, xt_ne]
    exact xm_r hA
  · simp only [if_neg c]
    obtain ⟨⟨z1, M1⟩, cE1, c1, f1, hK1⟩ := pc_put hK hS (by omega) (by omega) (by omega) b6 b7
    have c1 : z1 = none := c1
    subst c1
    dsimp only at f1 hK1
    have hA1 := xA_K (P := (_, _)) hK1 hA f1
    have o1 := (f1.1 b (by omega)).trans o0
    obtain ⟨-, -, k1, -⟩ := id hK1
    simp (disch := omega) only [↓ra_74_14, ↓ra_74_15, ↓ra_74_18, ↓ra_74_19, ↓ra_74_22, ↓ra_74_25, ↓ra_74_26, ↓ra_74_29, ↓ra_74_32, xa_kli, xa_klr, xa_kll, xa_ki, xa_kl, xa_kr, xa_kii, xa_kk, xa_kir, xa_krr, xa_kiir, xa_krir, xa_kdup, xa_kdup2, xa_kcp, xa_gf, xa_pf, xa_ga, xa_pa, xa_gq, xa_pq, xa_gl, xa_args, xa_ri, xa_rz, xa_rv, xa_s1, xa_s2, xa_c1, eq_self, List.getElem?_cons_succ, List.getElem?_cons_zero, true_and, and_true, nI_add, pk_mul, xt_in, xt_cl, xt_i0, xt_i1, xa_kc, xa_w8, xa_fit, lg_sl, List.flatMap_cons, List.flatMap_nil, List.map_cons, List.map_nil, List.sum_cons, List.sum_nil, Value.category, List.length_cons, List.length_nil, List.length_append, xa_rc, xa_rf, exists_eq_left, exists_eq', Option.some.injEq, Sum.inr.injEq, Prod.mk.injEq, Option.toList_some, Option.toList_none, List.cons_append, List.nil_append, Nat.reduceAdd, Nat.reduceLeDiff, Nat.reduceLT, List.set_cons_zero, List.set_cons_succ, eq_self, or_true, true_or, reduceIte, xt_ne, xt_eq, Nat.reduceEqDiff, Nat.one_ne_zero, if_false, h0, o0, o1, s0, k0, k1, xa_iff cE1, mx_1]
    exact ⟨rfl, xa_fr_w f1 (by omega) (by omega), hA1⟩
-- seen
def xs_seen (A : xt_A) (s n h : Nat) : Int32 × xt_A := if (yG A).1 < 8 then (nI ((yG A).1 + 1), yT A, yS A, yX A, yU A, yK A, ((yG A).1 + 1, fun j => if j = (yG A).1 then s else (yG A).2.1 j, fun j => if j = (yG A).1 then n else (yG A).2.2.1 j, fun j => if j = (yG A).1 then h else (yG A).2.2.2 j)) else (Int32.ofInt (-3), A)
theorem pm_seen_n {M : xa_M} {b : Nat} {A : xt_A} (hA : xh_A M b A) (iA : xi_A A) {x y w : Int32} (h : ¬ (xt_k x 0 (xnS (yT A)) ∧ xt_k y 1 (99 + 1) ∧ xt_k w 0 (3 + 1))) : xa_E 68 0 (xa_ent [.ref b, .int x, .int y, .int w]) [] M (some (.int (Int32.ofInt (-1))), M) := by
  obtain ⟨hO, hX, hT, ⟨T0, hU⟩, hS, ⟨S0, hN⟩, hP, hK, hG, hW⟩ := id hA
  obtain ⟨iT, i5, i60, i1, ⟨iS, iD⟩, iX, iU, iK, iG⟩ := id iA
  obtain ⟨⟨b1, b2, b3, b4, b5, b6, b7, b8⟩, bs, bm, bw⟩ := id iT
  have o0 : xh_O M b := hO
  unfold xh_O at o0
  have t0 := hT.1
  have s0 := hS.1
  have n0 := hN.1
  have u0 := hU.1
  refine xa_go4 (fun lv h0 h1 h2 h3 => ?_)
  by_cases a : xt_k x 0 (xnS (yT A))
  · by_cases a2 : xt_k y 1 (99 + 1)
    · have a3 : ¬ xt_k w 0 (3 + 1) := fun a3 => h ⟨a, a2, a3⟩
      obtain ⟨s, -, hs, rfl⟩ := a
      obtain ⟨n, n1, n2, rfl⟩ := a2
      have cn := xa_iff (pc_noSerf_y hO hT s hs b6)
      have ca := xa_iff (pc_isNot_y (M := M) n 1 99 n1 (by omega) (by omega))
      have cb := xa_iff (pc_isNot_n (M := M) 0 3 a3 (by omega) (by omega))
      simp (disch := omega) only [↓ra_68_0, ↓ra_68_1, ↓ra_68_2, ↓ra_68_5, ↓ra_68_8, ↓ra_68_9, ↓ra_68_10, ↓ra_68_12, ↓ra_68_15, ↓ra_68_18, ↓ra_68_19, ↓ra_68_20, ↓ra_68_21, ↓ra_68_24, ↓ra_68_27, ↓ra_68_28, xa_kli, xa_klr, xa_kll, xa_ki, xa_kl, xa_kr, xa_kii, xa_kk, xa_kir, xa_krr, xa_kiir, xa_krir, xa_kdup, xa_kdup2, xa_kcp, xa_gf, xa_pf, xa_ga, xa_pa, xa_gq, xa_pq, xa_gl, xa_args, xa_ri, xa_rz, xa_rv, xa_s1, xa_s2, xa_c1, eq_self, List.getElem?_cons_succ, List.getElem?_cons_zero, true_and, and_true, nI_add, pk_mul, xt_in, xt_cl, xt_i0, xt_i1, xa_kc, xa_w8, xa_fit, lg_sl, List.flatMap_cons, List.flatMap_nil, List.map_cons, List.map_nil, List.sum_cons, List.sum_nil, Value.category, List.length_cons, List.length_nil, List.length_append, xa_rc, xa_rf, exists_eq_left, exists_eq', Option.some.injEq, Sum.inr.injEq, Prod.mk.injEq, Option.toList_some, Option.toList_none, List.cons_append, List.nil_append, Nat.reduceAdd, Nat.reduceLeDiff, Nat.reduceLT, List.set_cons_zero, List.set_cons_succ, eq_self, or_true, true_or, reduceIte, xt_ne, xt_eq, Nat.reduceEqDiff, Nat.one_ne_zero, if_false, h0, h1, h2, h3, cn, mx_78, ca, cb, mx_77, o0]
    · obtain ⟨s, -, hs, rfl⟩ := a
      have cn := xa_iff (pc_noSerf_y hO hT s hs b6)
      have ca := xa_iff (pc_isNot_n (M := M) 1 99 a2 (by omega) (by omega))
      simp (disch := omega) only [↓ra_68_0, ↓ra_68_1, ↓ra_68_2, ↓ra_68_5, ↓ra_68_8, ↓ra_68_9, ↓ra_68_10, ↓ra_68_12, ↓ra_68_15, ↓ra_68_27, ↓ra_68_28, xa_kli, xa_klr, xa_kll, xa_ki, xa_kl, xa_kr, xa_kii, xa_kk, xa_kir, xa_krr, xa_kiir, xa_krir, xa_kdup, xa_kdup2, xa_kcp, xa_gf, xa_pf, xa_ga, xa_pa, xa_gq, xa_pq, xa_gl, xa_args, xa_ri, xa_rz, xa_rv, xa_s1, xa_s2, xa_c1, eq_self, List.getElem?_cons_succ, List.getElem?_cons_zero, true_and, and_true, nI_add, pk_mul, xt_in, xt_cl, xt_i0, xt_i1, xa_kc, xa_w8, xa_fit, lg_sl, List.flatMap_cons, List.flatMap_nil, List.map_cons, List.map_nil, List.sum_cons, List.sum_nil, Value.category, List.length_cons, List.length_nil, List.length_append, xa_rc, xa_rf, exists_eq_left, exists_eq', Option.some.injEq, Sum.inr.injEq, Prod.mk.injEq, Option.toList_some, Option.toList_none, List.cons_append, List.nil_append, Nat.reduceAdd, Nat.reduceLeDiff, Nat.reduceLT, List.set_cons_zero, List.set_cons_succ, eq_self, or_true, true_or, reduceIte, xt_ne, xt_eq, Nat.reduceEqDiff, Nat.one_ne_zero, if_false, h0, h1, h2, h3, cn, mx_78, ca, mx_77, o0]
  · have cn := xa_iff (pc_noSerf_n hO hT a b6)
    simp (disch := omega) only [↓ra_68_0, ↓ra_68_1, ↓ra_68_2, ↓ra_68_5, ↓ra_68_27, ↓ra_68_28, xa_kli, xa_klr, xa_kll, xa_ki, xa_kl, xa_kr, xa_kii, xa_kk, xa_kir, xa_krr, xa_kiir, xa_krir, xa_kdup, xa_kdup2, xa_kcp, xa_gf, xa_pf, xa_ga, xa_pa, xa_gq, xa_pq, xa_gl, xa_args, xa_ri, xa_rz, xa_rv, xa_s1, xa_s2, xa_c1, eq_self, List.getElem?_cons_succ, List.getElem?_cons_zero, true_and, and_true, nI_add, pk_mul, xt_in, xt_cl, xt_i0, xt_i1, xa_kc, xa_w8, xa_fit, lg_sl, List.flatMap_cons, List.flatMap_nil, List.map_cons, List.map_nil, List.sum_cons, List.sum_nil, Value.category, List.length_cons, List.length_nil, List.length_append, xa_rc, xa_rf, exists_eq_left, exists_eq', Option.some.injEq, Sum.inr.injEq, Prod.mk.injEq, Option.toList_some, Option.toList_none, List.cons_append, List.nil_append, Nat.reduceAdd, Nat.reduceLeDiff, Nat.reduceLT, List.set_cons_zero, List.set_cons_succ, eq_self, or_true, true_or, reduceIte, xt_ne, xt_eq, Nat.reduceEqDiff, Nat.one_ne_zero, if_false, h0, h1, h2, h3, cn, mx_78, o0]
theorem pm_seen {M : xa_M} {b : Nat} {A : xt_A} (hA : xh_A M b A) (iA : xi_A A) (s n w : Nat) (hs : s < xnS (yT A)) (n1 : 1 ≤ n) (n2 : n ≤ 99) (hw : w ≤ 3) : ∃ z, xa_E 68 0 (xa_ent [.ref b, .int (nI s), .int (nI n), .int (nI w)]) [] M z ∧ xm b M (xs_seen A s n w).1 (xs_seen A s n w).2 z := by
  obtain ⟨hO, hX, hT, ⟨T0, hU⟩, hS, ⟨S0, hN⟩, hP, hK, hG, hW⟩ := id hA
  obtain ⟨iT, i5, i60, i1, ⟨iS, iD⟩, iX, iU, iK, iG⟩ := id iA
  obtain ⟨⟨b1, b2, b3, b4, b5, b6, b7, b8⟩, bs, bm, bw⟩ := id iT
  have o0 : xh_O M b := hO
  unfold xh_O at o0
  have t0 := hT.1
  have s0 := hS.1
  have n0 := hN.1
  have u0 := hU.1
  have cn := xa_iff (pc_noSerf_y hO hT s hs b6)
  have ca := xa_iff (pc_isNot_y (M := M) n 1 99 n1 n2 (by omega))
  have cb := xa_iff (pc_isNot_y (M := M) w 0 3 (by omega) hw (by omega))
  have g0 := hG.1
  have ig := iG.1
  refine xa_ge4 (fun lv h0 h1 h2 h3 => ?_)
  unfold xs_seen
  by_cases c : (yG A).1 < 8
  · rw [if_pos c]
    obtain ⟨⟨z1, M1⟩, cE1, c1, f1, hG1⟩ := pc_gadd hG c s n w
    have c1 : z1 = _ := c1
    subst c1
    dsimp only at f1 hG1
    have o1 := (f1.1 b (by omega)).trans o0
    have g1 := hG1.1
    simp (disch := omega) only [↓ra_68_0, ↓ra_68_1, ↓ra_68_2, ↓ra_68_5, ↓ra_68_8, ↓ra_68_9, ↓ra_68_10, ↓ra_68_12, ↓ra_68_15, ↓ra_68_18, ↓ra_68_19, ↓ra_68_20, ↓ra_68_21, ↓ra_68_24, ↓ra_68_29, ↓ra_68_30, ↓ra_68_33, ↓ra_68_34, ↓ra_68_35, ↓ra_68_36, ↓ra_68_39, ↓ra_68_42, ↓ra_68_43, ↓ra_68_46, ↓ra_68_49, ↓ra_68_54, xa_kli, xa_klr, xa_kll, xa_ki, xa_kl, xa_kr, xa_kii, xa_kk, xa_kir, xa_krr, xa_kiir, xa_krir, xa_kdup, xa_kdup2, xa_kcp, xa_gf, xa_pf, xa_ga, xa_pa, xa_gq, xa_pq, xa_gl, xa_args, xa_ri, xa_rz, xa_rv, xa_s1, xa_s2, xa_c1, eq_self, List.getElem?_cons_succ, List.getElem?_cons_zero, true_and, and_true, nI_add, pk_mul, xt_in, xt_cl, xt_i0, xt_i1, xa_kc, xa_w8, xa_fit, lg_sl, List.flatMap_cons, List.flatMap_nil, List.map_cons, List.map_nil, List.sum_cons, List.sum_nil, Value.category, List.length_cons, List.length_nil, List.length_append, xa_rc, xa_rf, exists_eq_left, exists_eq', Option.some.injEq, Sum.inr.injEq, Prod.mk.injEq, Option.toList_some, Option.toList_none, List.cons_append, List.nil_append, Nat.reduceAdd, Nat.reduceLeDiff, Nat.reduceLT, List.set_cons_zero, List.set_cons_succ, eq_self, or_true, true_or, reduceIte, xt_ne, xt_eq, Nat.reduceEqDiff, Nat.one_ne_zero, if_false, h0, h1, h2, h3, cn, mx_78, ca, cb, mx_77, o0, o1, g0, g1, xa_iff cE1, mx_5]
    exact ⟨rfl, xa_fr_w f1 (by omega) (by omega), xA_G (G := (_, _, _, _)) hG1 hA f1⟩
  · rw [if_neg c]
    have e : (yG A).1 = 8 := by omega
    have cf := xa_iff (pc_gfull (e ▸ hG) (nI s) (nI n) (nI w))
    simp (disch := omega) only [↓ra_68_0, ↓ra_68_1, ↓ra_68_2, ↓ra_68_5, ↓ra_68_8, ↓ra_68_9, ↓ra_68_10, ↓ra_68_12, ↓ra_68_15, ↓ra_68_18, ↓ra_68_19, ↓ra_68_20, ↓ra_68_21, ↓ra_68_24, ↓ra_68_29, ↓ra_68_30, ↓ra_68_33, ↓ra_68_34, ↓ra_68_35, ↓ra_68_36, ↓ra_68_39, ↓ra_68_52, ↓ra_68_54, xa_kli, xa_klr, xa_kll, xa_ki, xa_kl, xa_kr, xa_kii, xa_kk, xa_kir, xa_krr, xa_kiir, xa_krir, xa_kdup, xa_kdup2, xa_kcp, xa_gf, xa_pf, xa_ga, xa_pa, xa_gq, xa_pq, xa_gl, xa_args, xa_ri, xa_rz, xa_rv, xa_s1, xa_s2, xa_c1, eq_self, List.getElem?_cons_succ, List.getElem?_cons_zero, true_and, and_true, nI_add, pk_mul, xt_in, xt_cl, xt_i0, xt_i1, xa_kc, xa_w8, xa_fit, lg_sl, List.flatMap_cons, List.flatMap_nil, List.map_cons, List.map_nil, List.sum_cons, List.sum_nil, Value.category, List.length_cons, List.length_nil, List.length_append, xa_rc, xa_rf, exists_eq_left, exists_eq', Option.some.injEq, Sum.inr.injEq, Prod.mk.injEq, Option.toList_some, Option.toList_none, List.cons_append, List.nil_append, Nat.reduceAdd, Nat.reduceLeDiff, Nat.reduceLT, List.set_cons_zero, List.set_cons_succ, eq_self, or_true, true_or, reduceIte, xt_ne, xt_eq, Nat.reduceEqDiff, Nat.one_ne_zero, if_false, h0, h1, h2, h3, cn, mx_78, ca, cb, mx_77, o0, g0, cf, mx_5]
    exact xm_r hA
-- forget
def xs_forget (A : xt_A) : Int32 × xt_A := (nI (yG A).1, yT A, yS A, yX A, yU A, yK A, (0, (yG A).2))
theorem pm_forget {M : xa_M} {b : Nat} {A : xt_A} (hA : xh_A M b A) (iA : xi_A A) : ∃ z, xa_E 69 0 (xa_ent [.ref b]) [] M z ∧ xm b M (xs_forget A).1 (xs_forget A).2 z := by
  obtain ⟨hO, hX, hT, ⟨T0, hU⟩, hS, ⟨S0, hN⟩, hP, hK, hG, hW⟩ := id hA
  obtain ⟨iT, i5, i60, i1, ⟨iS, iD⟩, iX, iU, iK, iG⟩ := id iA
  obtain ⟨⟨b1, b2, b3, b4, b5, b6, b7, b8⟩, bs, bm, bw⟩ := id iT
  have o0 : xh_O M b := hO
  unfold xh_O at o0
  have t0 := hT.1
  have s0 := hS.1
  have n0 := hN.1
  have u0 := hU.1
  have g0 := hG.1
  refine xa_ge1 (fun lv h0 => ?_)
  simp (disch := omega) only [↓ra_69_0, ↓ra_69_1, ↓ra_69_4, ↓ra_69_7, ↓ra_69_8, ↓ra_69_9, ↓ra_69_12, ↓ra_69_13, ↓ra_69_16, ↓ra_69_17, xa_kli, xa_klr, xa_kll, xa_ki, xa_kl, xa_kr, xa_kii, xa_kk, xa_kir, xa_krr, xa_kiir, xa_krir, xa_kdup, xa_kdup2, xa_kcp, xa_gf, xa_pf, xa_ga, xa_pa, xa_gq, xa_pq, xa_gl, xa_args, xa_ri, xa_rz, xa_rv, xa_s1, xa_s2, xa_c1, eq_self, List.getElem?_cons_succ, List.getElem?_cons_zero, true_and, and_true, nI_add, pk_mul, xt_in, xt_cl, xt_i0, xt_i1, xa_kc, xa_w8, xa_fit, lg_sl, List.flatMap_cons, List.flatMap_nil, List.map_cons, List.map_nil, List.sum_cons, List.sum_nil, Value.category, List.length_cons, List.length_nil, List.length_append, xa_rc, xa_rf, exists_eq_left, exists_eq', Option.some.injEq, Sum.inr.injEq, Prod.mk.injEq, Option.toList_some, Option.toList_none, List.cons_append, List.nil_append, Nat.reduceAdd, Nat.reduceLeDiff, Nat.reduceLT, List.set_cons_zero, List.set_cons_succ, eq_self, or_true, true_or, reduceIte, xt_ne, xt_eq, Nat.reduceEqDiff, Nat.one_ne_zero, if_false, h0, o0, g0]
  have f : xa_fr (b + 98) (b + 102) M (xa_st M (b + 98) (.inr (1, [.ref (b + 98 + 1), .ref (b + 98 + 2), .ref (b + 98 + 3), .int (nI 0)]))) := xa_fr_st (by omega) (by omega)
  exact ⟨rfl, xa_fr_w f (by omega) (by omega), xA_G (G := (0, _, _, _)) (xh_G_z hG) hA f⟩
