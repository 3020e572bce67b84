theorem pe_live_n {M : xa_M} {c : Nat} {A : xt_A} (hh : xh_B M c A) (iA : xi_A A) {x y : Int32} (h : ¬ (xt_k x 0 (xnS (yT A)) ∧ xt_k y 0 (1 + 1))) : xa_E 137 0 (xa_ent [.ref c, .int x, .int y]) [] M (some (.int (Int32.ofInt (-1))), M) := by
  obtain ⟨r, g, hB, hw⟩ := id hh
  have hA := xw_A hB hw
  obtain ⟨⟨r2, r3, r5, r6⟩, hV, hS, ⟨hx1, hx2⟩, ⟨hu1, hu2⟩, ⟨hk1, hk2⟩, ⟨hg1, hg2⟩⟩ := id hw
  obtain ⟨iT, i5, i60, i1, ⟨iS, iD⟩, iX, iU, iK, iG⟩ := id iA
  obtain ⟨⟨b1, b2, b3, b4, b5, b6, b7, b8⟩, bs, bm, bw⟩ := id iT
  have ix := iX.1
  have iu := iU.1
  have ik := iK.1
  have ig := iG.1
  obtain ⟨⟨v0, v1, v2, v3, v4, v5⟩, vs, vm, -, vw⟩ := id hV
  obtain ⟨m0, m1, m2, m3, m4, m5, m6, m7, m8, m9⟩ := id hB
  unfold xb_c at m0
  refine xa_go3 (fun lv h0 h1 h2 => ?_)
  by_cases a0 : xt_k x 0 (xnS (yT A))
  · have a1 : ¬ xt_k y 0 (1 + 1) := fun a => h ⟨a0, a⟩
    obtain ⟨k0, -, l0, rfl⟩ := a0
    have c0 := xa_iff (pd_isSerf_y hB hV k0 l0 b6)
    have c1 := xa_iff (pd_in_x (M := M) 0 1 a1 (by omega) (by omega))
    simp (disch := omega) only [↓ra_137_0, ↓ra_137_1, ↓ra_137_2, ↓ra_137_5, ↓ra_137_8, ↓ra_137_9, ↓ra_137_10, ↓ra_137_11, ↓ra_137_12, ↓ra_137_15, ↓ra_137_18, ↓ra_137_19, xa_kli, xa_klr, xa_kll, xa_ki, xa_kl, xa_kr, xa_kii, xa_kk, xa_kir, xa_krr, xa_kiir, xa_krir, xa_kdup, xa_kdup2, xa_kcp, xa_gf, xa_pf, xa_ga, xa_pa, xa_gq, xa_pq, xa_gl, xa_args, xa_ri, xa_rz, xa_rv, xa_s1, xa_s2, xa_c1, eq_self, List.getElem?_cons_succ, List.getElem?_cons_zero, true_and, and_true, nI_add, pk_mul, xt_in, xt_cl, xt_i0, xt_i1, xa_kc, xa_w8, xa_fit, lg_sl, List.flatMap_cons, List.flatMap_nil, List.map_cons, List.map_nil, List.sum_cons, List.sum_nil, Value.category, List.length_cons, List.length_nil, List.length_append, xa_rc, xa_rf, exists_eq_left, exists_eq', Option.some.injEq, Sum.inr.injEq, Prod.mk.injEq, Option.toList_some, Option.toList_none, List.cons_append, List.nil_append, Nat.reduceAdd, Nat.reduceLeDiff, Nat.reduceLT, List.set_cons_zero, List.set_cons_succ, eq_self, or_true, true_or, reduceIte, xt_ne, xt_eq, Nat.reduceEqDiff, Nat.one_ne_zero, if_false, h0, h1, h2, c0, c1, mx_96, mx_97, mx_98, mx_92, m0, nI_l]
  · have c0 := xa_iff (pd_isSerf_n hB hV a0 b6)
    simp (disch := omega) only [↓ra_137_0, ↓ra_137_1, ↓ra_137_2, ↓ra_137_5, ↓ra_137_8, ↓ra_137_9, ↓ra_137_10, ↓ra_137_11, ↓ra_137_12, ↓ra_137_15, ↓ra_137_18, ↓ra_137_19, xa_kli, xa_klr, xa_kll, xa_ki, xa_kl, xa_kr, xa_kii, xa_kk, xa_kir, xa_krr, xa_kiir, xa_krir, xa_kdup, xa_kdup2, xa_kcp, xa_gf, xa_pf, xa_ga, xa_pa, xa_gq, xa_pq, xa_gl, xa_args, xa_ri, xa_rz, xa_rv, xa_s1, xa_s2, xa_c1, eq_self, List.getElem?_cons_succ, List.getElem?_cons_zero, true_and, and_true, nI_add, pk_mul, xt_in, xt_cl, xt_i0, xt_i1, xa_kc, xa_w8, xa_fit, lg_sl, List.flatMap_cons, List.flatMap_nil, List.map_cons, List.map_nil, List.sum_cons, List.sum_nil, Value.category, List.length_cons, List.length_nil, List.length_append, xa_rc, xa_rf, exists_eq_left, exists_eq', Option.some.injEq, Sum.inr.injEq, Prod.mk.injEq, Option.toList_some, Option.toList_none, List.cons_append, List.nil_append, Nat.reduceAdd, Nat.reduceLeDiff, Nat.reduceLT, List.set_cons_zero, List.set_cons_succ, eq_self, or_true, true_or, reduceIte, xt_ne, xt_eq, Nat.reduceEqDiff, Nat.one_ne_zero, if_false, h0, h1, h2, c0, mx_96, mx_97, mx_98, mx_92, m0, nI_l]
theorem pe_live {M : xa_M} {c : Nat} {A : xt_A} (hh : xh_B M c A) (iA : xi_A A) (s k : Nat) (hs : s < xnS (yT A)) (hk : k ≤ 1) : ∃ y0, xa_E 137 0 (xa_ent [.ref c, .int (nI s), .int (nI k)]) [] M y0 ∧ xm2 c M (xs_live A s k) A y0 := by
  obtain ⟨r, g, hB, hw⟩ := id hh
  have hA := xw_A hB hw
  obtain ⟨⟨r2, r3, r5, r6⟩, hV, hS, ⟨hx1, hx2⟩, ⟨hu1, hu2⟩, ⟨hk1, hk2⟩, ⟨hg1, hg2⟩⟩ := id hw
  obtain ⟨iT, i5, i60, i1, ⟨iS, iD⟩, iX, iU, iK, iG⟩ := id iA
  obtain ⟨⟨b1, b2, b3, b4, b5, b6, b7, b8⟩, bs, bm, bw⟩ := id iT
  have ix := iX.1
  have iu := iU.1
  have ik := iK.1
  have ig := iG.1
  obtain ⟨⟨v0, v1, v2, v3, v4, v5⟩, vs, vm, -, vw⟩ := id hV
  obtain ⟨m0, m1, m2, m3, m4, m5, m6, m7, m8, m9⟩ := id hB
  unfold xb_c at m0
  have cn := xa_iff (pd_isSerf_y hB hV s hs b6)
  have ca := xa_iff (pd_in_k (M := M) k 0 1 (by omega) (by omega))
  have ch := xa_iff (pd_how hA b6 s hs)
  have dd := iS.2.1 s hs
  refine xa_ge3 (fun lv h0 h1 h2 => ?_)
  simp (disch := omega) only [↓ra_137_0, ↓ra_137_1, ↓ra_137_2, ↓ra_137_5, ↓ra_137_8, ↓ra_137_9, ↓ra_137_10, ↓ra_137_11, ↓ra_137_12, ↓ra_137_15, ↓ra_137_20, ↓ra_137_21, ↓ra_137_22, ↓ra_137_25, ↓ra_137_26, xa_kli, xa_klr, xa_kll, xa_ki, xa_kl, xa_kr, xa_kii, xa_kk, xa_kir, xa_krr, xa_kiir, xa_krir, xa_kdup, xa_kdup2, xa_kcp, xa_gf, xa_pf, xa_ga, xa_pa, xa_gq, xa_pq, xa_gl, xa_args, xa_ri, xa_rz, xa_rv, xa_s1, xa_s2, xa_c1, eq_self, List.getElem?_cons_succ, List.getElem?_cons_zero, true_and, and_true, nI_add, pk_mul, xt_in, xt_cl, xt_i0, xt_i1, xa_kc, xa_w8, xa_fit, lg_sl, List.flatMap_cons, List.flatMap_nil, List.map_cons, List.map_nil, List.sum_cons, List.sum_nil, Value.category, List.length_cons, List.length_nil, List.length_append, xa_rc, xa_rf, exists_eq_left, exists_eq', Option.some.injEq, Sum.inr.injEq, Prod.mk.injEq, Option.toList_some, Option.toList_none, List.cons_append, List.nil_append, Nat.reduceAdd, Nat.reduceLeDiff, Nat.reduceLT, List.set_cons_zero, List.set_cons_succ, eq_self, or_true, true_or, reduceIte, xt_ne, xt_eq, Nat.reduceEqDiff, Nat.one_ne_zero, if_false, h0, h1, h2, nI_l, cn, ca, mx_96, mx_92, m0, ch, mx_99, xt_le]
  unfold xs_live
  by_cases cc : xsh (yS A) s ≤ 1
  · simp only [if_pos cc]
    rw [if_neg (by omega)]
    obtain ⟨⟨z1, M1⟩, cE1, c1, h6, hn1, e6⟩ := pd_asides hB
    have c1 : z1 = none := c1
    subst c1
    dsimp only at hn1
    have z0 := xz_0 e6
    have hA1 : xv_A M1 c r (xb_u g 6 h6) (yT A) (xnM (yT A)) (yS A) := ⟨hn1.2, hV, hS, fun h => by omega⟩
    obtain ⟨n0, n1, n2, -⟩ := id hn1.2
    unfold xb_c at n0
    have loop : ∀ (t q : Nat) (lv : xa_L) (M2 : xa_M) (g2 : Nat → Nat → Int32), lv 0 = some (.ref c) → lv 1 = some (.int (nI s)) → lv 2 = some (.int (nI k)) → lv 3 = some (.int (xt_o ((xq_lv (yT A) (yS A) s q).map Prod.fst))) → lv 4 = some (.int (xt_o ((xq_lv (yT A) (yS A) s q).map Prod.snd))) → lv 5 = some (.int (nI q)) → q + t = xC (yT A) → xn c M r g2 M2 → xz g g2 → ∃ y0, xa_E 137 46 lv [] M2 y0 ∧ xm2 c M (xt_o (if k = 0 then (xq_lv (yT A) (yS A) s (xC (yT A))).map Prod.fst else (xq_lv (yT A) (yS A) s (xC (yT A))).map Prod.snd)) A y0 := by
      intro t
      induction t with
      | zero =>
        intro q lv M2 g2 h0 h1 h2 h3 h4 h5 e hn zz
        have e : q = xC (yT A) := by omega
        subst e
        obtain ⟨k0, k1, -⟩ := id hn.2
        unfold xb_c at k0
        rw [zz.1] at k1
        simp (disch := omega) only [↓ra_137_46, ↓ra_137_48, ↓ra_137_49, ↓ra_137_52, ↓ra_137_53, ↓ra_137_54, ↓ra_137_130, ↓ra_137_131, xa_kli, xa_klr, xa_kll, xa_ki, xa_kl, xa_kr, xa_kii, xa_kk, xa_kir, xa_krr, xa_kiir, xa_krir, xa_kdup, xa_kdup2, xa_kcp, xa_gf, xa_pf, xa_ga, xa_pa, xa_gq, xa_pq, xa_gl, xa_args, xa_ri, xa_rz, xa_rv, xa_s1, xa_s2, xa_c1, eq_self, List.getElem?_cons_succ, List.getElem?_cons_zero, true_and, and_true, nI_add, pk_mul, xt_in, xt_cl, xt_i0, xt_i1, xa_kc, xa_w8, xa_fit, lg_sl, List.flatMap_cons, List.flatMap_nil, List.map_cons, List.map_nil, List.sum_cons, List.sum_nil, Value.category, List.length_cons, List.length_nil, List.length_append, xa_rc, xa_rf, exists_eq_left, exists_eq', Option.some.injEq, Sum.inr.injEq, Prod.mk.injEq, Option.toList_some, Option.toList_none, List.cons_append, List.nil_append, Nat.reduceAdd, Nat.reduceLeDiff, Nat.reduceLT, List.set_cons_zero, List.set_cons_succ, eq_self, or_true, true_or, reduceIte, xt_ne, h0, h1, h2, h3, h4, h5, k0, k1, v1, xt_le, Nat.le_refl, xt_eq]
        have fin : ∀ v, xm2 c M v A (some (.int v), M2) := fun v => xm2_n hn (xz_w hw iA zz rfl rfl rfl rfl rfl rfl rfl rfl)
        by_cases ck : k = 0
        · simp only [if_pos ck]
          simp (disch := omega) only [↓ra_137_134, ↓ra_137_135, ↓ra_137_140, xa_kli, xa_klr, xa_kll, xa_ki, xa_kl, xa_kr, xa_kii, xa_kk, xa_kir, xa_krr, xa_kiir, xa_krir, xa_kdup, xa_kdup2, xa_kcp, xa_gf, xa_pf, xa_ga, xa_pa, xa_gq, xa_pq, xa_gl, xa_args, xa_ri, xa_rz, xa_rv, xa_s1, xa_s2, xa_c1, eq_self, List.getElem?_cons_succ, List.getElem?_cons_zero, true_and, and_true, nI_add, pk_mul, xt_in, xt_cl, xt_i0, xt_i1, xa_kc, xa_w8, xa_fit, lg_sl, List.flatMap_cons, List.flatMap_nil, List.map_cons, List.map_nil, List.sum_cons, List.sum_nil, Value.category, List.length_cons, List.length_nil, List.length_append, xa_rc, xa_rf, exists_eq_left, exists_eq', Option.some.injEq, Sum.inr.injEq, Prod.mk.injEq, Option.toList_some, Option.toList_none, List.cons_append, List.nil_append, Nat.reduceAdd, Nat.reduceLeDiff, Nat.reduceLT, List.set_cons_zero, List.set_cons_succ, eq_self, or_true, true_or, reduceIte, xt_ne, h3]
          exact fin _
        · simp only [if_neg ck]
          simp (disch := omega) only [↓ra_137_138, ↓ra_137_140, xa_kli, xa_klr, xa_kll, xa_ki, xa_kl, xa_kr, xa_kii, xa_kk, xa_kir, xa_krr, xa_kiir, xa_krir, xa_kdup, xa_kdup2, xa_kcp, xa_gf, xa_pf, xa_ga, xa_pa, xa_gq, xa_pq, xa_gl, xa_args, xa_ri, xa_rz, xa_rv, xa_s1, xa_s2, xa_c1, eq_self, List.getElem?_cons_succ, List.getElem?_cons_zero, true_and, and_true, nI_add, pk_mul, xt_in, xt_cl, xt_i0, xt_i1, xa_kc, xa_w8, xa_fit, lg_sl, List.flatMap_cons, List.flatMap_nil, List.map_cons, List.map_nil, List.sum_cons, List.sum_nil, Value.category, List.length_cons, List.length_nil, List.length_append, xa_rc, xa_rf, exists_eq_left, exists_eq', Option.some.injEq, Sum.inr.injEq, Prod.mk.injEq, Option.toList_some, Option.toList_none, List.cons_append, List.nil_append, Nat.reduceAdd, Nat.reduceLeDiff, Nat.reduceLT, List.set_cons_zero, List.set_cons_succ, eq_self, or_true, true_or, reduceIte, xt_ne, h4]
          exact fin _
      | succ t ih =>
        intro q lv M2 g2 h0 h1 h2 h3 h4 h5 e hn zz
        obtain ⟨k0, k1, -⟩ := id hn.2
        unfold xb_c at k0
        rw [zz.1] at k1
        have hA2 : xv_A M2 c r g2 (yT A) (xnM (yT A)) (yS A) := ⟨hn.2, by rw [zz.1]; exact hV, xv_S_cg hS zz.2.1 b6 b7, fun h => by omega⟩
        obtain ⟨⟨z3, M3⟩, cE3, c3, h3', hn3, hA3⟩ := pd_moves hA2 b6 s q hs dd.1 (fun h => (dd.2.2.2.2.2 h).1)
        have c3 : z3 = none := c3
        subst c3
        dsimp only at hn3 hA3
        obtain ⟨⟨z4, M4⟩, cE4, c4, h4', h5', hn4, e4⟩ := pd_freeBehind hA3 iT (xi_set iT iS (by omega) (by omega) hs) (by show xsd (yS A) ≤ _; omega) s q hs rfl
        have c4 : z4 = _ := c4
        subst c4
        dsimp only at hn4
        rw [xb_u2 g2 2 h3'] at hn4
        have zz4 : xz g (xb_u (xb_u g2 2 h4') 2 h5') := xz_b zz (fun k hk => by rw [e4 k hk]; rfl)
        have hnf := xn_t (xn_t hn hn3) hn4
        obtain ⟨l0, -⟩ := id hn3.2
        unfold xb_c at l0
        simp (disch := omega) only [↓ra_137_46, ↓ra_137_48, ↓ra_137_49, ↓ra_137_52, ↓ra_137_53, ↓ra_137_54, xa_kli, xa_klr, xa_kll, xa_ki, xa_kl, xa_kr, xa_kii, xa_kk, xa_kir, xa_krr, xa_kiir, xa_krir, xa_kdup, xa_kdup2, xa_kcp, xa_gf, xa_pf, xa_ga, xa_pa, xa_gq, xa_pq, xa_gl, xa_args, xa_ri, xa_rz, xa_rv, xa_s1, xa_s2, xa_c1, eq_self, List.getElem?_cons_succ, List.getElem?_cons_zero, true_and, and_true, nI_add, pk_mul, xt_in, xt_cl, xt_i0, xt_i1, xa_kc, xa_w8, xa_fit, lg_sl, List.flatMap_cons, List.flatMap_nil, List.map_cons, List.map_nil, List.sum_cons, List.sum_nil, Value.category, List.length_cons, List.length_nil, List.length_append, xa_rc, xa_rf, exists_eq_left, exists_eq', Option.some.injEq, Sum.inr.injEq, Prod.mk.injEq, Option.toList_some, Option.toList_none, List.cons_append, List.nil_append, Nat.reduceAdd, Nat.reduceLeDiff, Nat.reduceLT, List.set_cons_zero, List.set_cons_succ, eq_self, or_true, true_or, reduceIte, xt_ne, h0, h1, h2, h3, h4, h5, k0, k1, v1, xt_le]
        simp only [if_neg (show ¬ xC (yT A) ≤ q by omega)]
        simp (disch := omega) only [↓ra_137_57, ↓ra_137_58, ↓ra_137_59, ↓ra_137_61, ↓ra_137_64, ↓ra_137_65, ↓ra_137_66, ↓ra_137_69, ↓ra_137_71, ↓ra_137_73, ↓ra_137_75, xa_kli, xa_klr, xa_kll, xa_ki, xa_kl, xa_kr, xa_kii, xa_kk, xa_kir, xa_krr, xa_kiir, xa_krir, xa_kdup, xa_kdup2, xa_kcp, xa_gf, xa_pf, xa_ga, xa_pa, xa_gq, xa_pq, xa_gl, xa_args, xa_ri, xa_rz, xa_rv, xa_s1, xa_s2, xa_c1, eq_self, List.getElem?_cons_succ, List.getElem?_cons_zero, true_and, and_true, nI_add, pk_mul, xt_in, xt_cl, xt_i0, xt_i1, xa_kc, xa_w8, xa_fit, lg_sl, List.flatMap_cons, List.flatMap_nil, List.map_cons, List.map_nil, List.sum_cons, List.sum_nil, Value.category, List.length_cons, List.length_nil, List.length_append, xa_rc, xa_rf, exists_eq_left, exists_eq', Option.some.injEq, Sum.inr.injEq, Prod.mk.injEq, Option.toList_some, Option.toList_none, List.cons_append, List.nil_append, Nat.reduceAdd, Nat.reduceLeDiff, Nat.reduceLT, List.set_cons_zero, List.set_cons_succ, eq_self, or_true, true_or, reduceIte, xt_ne, h0, h1, h2, h3, h4, h5, k0, l0, xa_iff cE3, mx_125, xa_iff cE4, mx_136]
        have lose : ∀ lv : xa_L, lv 0 = some (.ref c) → lv 1 = some (.int (nI s)) → lv 2 = some (.int (nI k)) → lv 3 = some (.int (xt_o ((xq_lv (yT A) (yS A) s q).map Prod.fst))) → lv 4 = some (.int (xt_o ((xq_lv (yT A) (yS A) s q).map Prod.snd))) → lv 5 = some (.int (nI q)) → xq_lv (yT A) (yS A) s (q + 1) = xq_lv (yT A) (yS A) s q → ∃ y0, xa_E 137 95 lv [] M4 y0 ∧ xm2 c M (xt_o (if k = 0 then (xq_lv (yT A) (yS A) s (xC (yT A))).map Prod.fst else (xq_lv (yT A) (yS A) s (xC (yT A))).map Prod.snd)) A y0 := by
          intro lv h0 h1 h2 h3 h4 h5 el
          simp (disch := omega) only [↓ra_137_95, ↓ra_137_96, ↓ra_137_98, ↓ra_137_100, ↓ra_137_108, ↓ra_137_109, ↓ra_137_110, ↓ra_137_112, ↓ra_137_120, ↓ra_137_122, ↓ra_137_124, ↓ra_137_127, xa_kli, xa_klr, xa_kll, xa_ki, xa_kl, xa_kr, xa_kii, xa_kk, xa_kir, xa_krr, xa_kiir, xa_krir, xa_kdup, xa_kdup2, xa_kcp, xa_gf, xa_pf, xa_ga, xa_pa, xa_gq, xa_pq, xa_gl, xa_args, xa_ri, xa_rz, xa_rv, xa_s1, xa_s2, xa_c1, eq_self, List.getElem?_cons_succ, List.getElem?_cons_zero, true_and, and_true, nI_add, pk_mul, xt_in, xt_cl, xt_i0, xt_i1, xa_kc, xa_w8, xa_fit, lg_sl, List.flatMap_cons, List.flatMap_nil, List.map_cons, List.map_nil, List.sum_cons, List.sum_nil, Value.category, List.length_cons, List.length_nil, List.length_append, xa_rc, xa_rf, exists_eq_left, exists_eq', Option.some.injEq, Sum.inr.injEq, Prod.mk.injEq, Option.toList_some, Option.toList_none, List.cons_append, List.nil_append, Nat.reduceAdd, Nat.reduceLeDiff, Nat.reduceLT, List.set_cons_zero, List.set_cons_succ, eq_self, or_true, true_or, reduceIte, xt_ne, xt_eq, Nat.reduceEqDiff, Nat.one_ne_zero, if_false, h0, h1, h2, h3, h4, h5]
          exact ih (q + 1) _ M4 _ (by simp [xa_s1, xa_c1, h0]) (by simp [xa_s1, xa_c1, h1]) (by simp [xa_s1, xa_c1, h2]) (by simp [xa_s1, xa_c1, el]) (by simp [xa_s1, xa_c1, el]) (by simp [xa_s1, xa_c1]) (by omega) hnf zz4
        cases hq : (xq_fr (yT A) (yS A) s q).1 with
        | none =>
          have e1 : xq_lv (yT A) (yS A) s (q + 1) = xq_lv (yT A) (yS A) s q := by simp only [xq_lv, hq]
          simp only [xt_o, if_true]
          exact lose _ (by simp [xa_s1, xa_c1, h0]) (by simp [xa_s1, xa_c1, h1]) (by simp [xa_s1, xa_c1, h2]) (by simp [xa_s1, xa_c1, h3]) (by simp [xa_s1, xa_c1, h4]) (by simp [xa_s1, xa_c1, h5]) e1
        | some d =>
          have ld := xq_fr_le hq
          have hd : xt_o (some d) = nI d := rfl
          simp (disch := omega) only [hd, xt_m4n, if_false]
          have win : xq_lv (yT A) (yS A) s (q + 1) = some (q, d) → ∃ y0, xa_E 137 91 (xa_s1 lv 6 (.int (nI d))) [] M4 y0 ∧ xm2 c M (xt_o (if k = 0 then (xq_lv (yT A) (yS A) s (xC (yT A))).map Prod.fst else (xq_lv (yT A) (yS A) s (xC (yT A))).map Prod.snd)) A y0 := by
            intro e1
            simp (disch := omega) only [↓ra_137_91, ↓ra_137_92, ↓ra_137_96, ↓ra_137_98, ↓ra_137_100, ↓ra_137_103, ↓ra_137_105, ↓ra_137_109, ↓ra_137_110, ↓ra_137_112, ↓ra_137_115, ↓ra_137_117, ↓ra_137_122, ↓ra_137_124, ↓ra_137_127, xa_kli, xa_klr, xa_kll, xa_ki, xa_kl, xa_kr, xa_kii, xa_kk, xa_kir, xa_krr, xa_kiir, xa_krir, xa_kdup, xa_kdup2, xa_kcp, xa_gf, xa_pf, xa_ga, xa_pa, xa_gq, xa_pq, xa_gl, xa_args, xa_ri, xa_rz, xa_rv, xa_s1, xa_s2, xa_c1, eq_self, List.getElem?_cons_succ, List.getElem?_cons_zero, true_and, and_true, nI_add, pk_mul, xt_in, xt_cl, xt_i0, xt_i1, xa_kc, xa_w8, xa_fit, lg_sl, List.flatMap_cons, List.flatMap_nil, List.map_cons, List.map_nil, List.sum_cons, List.sum_nil, Value.category, List.length_cons, List.length_nil, List.length_append, xa_rc, xa_rf, exists_eq_left, exists_eq', Option.some.injEq, Sum.inr.injEq, Prod.mk.injEq, Option.toList_some, Option.toList_none, List.cons_append, List.nil_append, Nat.reduceAdd, Nat.reduceLeDiff, Nat.reduceLT, List.set_cons_zero, List.set_cons_succ, eq_self, or_true, true_or, reduceIte, xt_ne, xt_eq, Nat.reduceEqDiff, Nat.one_ne_zero, if_false, h0, h1, h2, h3, h4, h5]
            exact ih (q + 1) _ M4 _ (by simp [xa_s1, xa_c1, h0]) (by simp [xa_s1, xa_c1, h1]) (by simp [xa_s1, xa_c1, h2]) (by simp [xa_s1, xa_c1, e1, xt_o]) (by simp [xa_s1, xa_c1, e1, xt_o]) (by simp [xa_s1, xa_c1]) (by omega) hnf zz4
          cases hp : xq_lv (yT A) (yS A) s q with
          | none =>
            have e1 : xq_lv (yT A) (yS A) s (q + 1) = some (q, d) := by simp only [xq_lv, hq, hp]
            simp (disch := omega) only [↓ra_137_78, ↓ra_137_79, ↓ra_137_81, xa_kli, xa_klr, xa_kll, xa_ki, xa_kl, xa_kr, xa_kii, xa_kk, xa_kir, xa_krr, xa_kiir, xa_krir, xa_kdup, xa_kdup2, xa_kcp, xa_gf, xa_pf, xa_ga, xa_pa, xa_gq, xa_pq, xa_gl, xa_args, xa_ri, xa_rz, xa_rv, xa_s1, xa_s2, xa_c1, eq_self, List.getElem?_cons_succ, List.getElem?_cons_zero, true_and, and_true, nI_add, pk_mul, xt_in, xt_cl, xt_i0, xt_i1, xa_kc, xa_w8, xa_fit, lg_sl, List.flatMap_cons, List.flatMap_nil, List.map_cons, List.map_nil, List.sum_cons, List.sum_nil, Value.category, List.length_cons, List.length_nil, List.length_append, xa_rc, xa_rf, exists_eq_left, exists_eq', Option.some.injEq, Sum.inr.injEq, Prod.mk.injEq, Option.toList_some, Option.toList_none, List.cons_append, List.nil_append, Nat.reduceAdd, Nat.reduceLeDiff, Nat.reduceLT, List.set_cons_zero, List.set_cons_succ, eq_self, or_true, true_or, reduceIte, xt_ne, h3, hp, Option.map_none, xt_o]
            exact win e1
          | some wf =>
            obtain ⟨w, f⟩ := wf
            have lf := xq_lv_le q w f hp
            have hf : xt_o (some f) = nI f := rfl
            have hw' : xt_o (some w) = nI w := rfl
            simp (disch := omega) only [↓ra_137_78, ↓ra_137_79, ↓ra_137_81, ↓ra_137_84, ↓ra_137_86, ↓ra_137_88, xa_kli, xa_klr, xa_kll, xa_ki, xa_kl, xa_kr, xa_kii, xa_kk, xa_kir, xa_krr, xa_kiir, xa_krir, xa_kdup, xa_kdup2, xa_kcp, xa_gf, xa_pf, xa_ga, xa_pa, xa_gq, xa_pq, xa_gl, xa_args, xa_ri, xa_rz, xa_rv, xa_s1, xa_s2, xa_c1, eq_self, List.getElem?_cons_succ, List.getElem?_cons_zero, true_and, and_true, nI_add, pk_mul, xt_in, xt_cl, xt_i0, xt_i1, xa_kc, xa_w8, xa_fit, lg_sl, List.flatMap_cons, List.flatMap_nil, List.map_cons, List.map_nil, List.sum_cons, List.sum_nil, Value.category, List.length_cons, List.length_nil, List.length_append, xa_rc, xa_rf, exists_eq_left, exists_eq', Option.some.injEq, Sum.inr.injEq, Prod.mk.injEq, Option.toList_some, Option.toList_none, List.cons_append, List.nil_append, Nat.reduceAdd, Nat.reduceLeDiff, Nat.reduceLT, List.set_cons_zero, List.set_cons_succ, eq_self, or_true, true_or, reduceIte, xt_ne, h3, h4, hp, Option.map_some, hf, hw', xt_m4n, if_false, xt_le]
            by_cases cf : d < f
            · simp only [if_neg (show ¬ f ≤ d by omega)]
              exact win (by simp only [xq_lv, hq, hp, if_pos cf])
            · simp only [if_pos (show f ≤ d by omega)]
              have e1 : xq_lv (yT A) (yS A) s (q + 1) = xq_lv (yT A) (yS A) s q := by simp only [xq_lv, hq, hp, if_neg cf]
              exact lose _ (by simp [xa_s1, xa_c1, h0]) (by simp [xa_s1, xa_c1, h1]) (by simp [xa_s1, xa_c1, h2]) (by simp [xa_s1, xa_c1, h3]) (by simp [xa_s1, xa_c1, h4]) (by simp [xa_s1, xa_c1, h5]) e1
    simp (disch := omega) only [↓ra_137_32, ↓ra_137_34, ↓ra_137_35, ↓ra_137_37, ↓ra_137_39, ↓ra_137_40, ↓ra_137_43, ↓ra_137_44, xa_kli, xa_klr, xa_kll, xa_ki, xa_kl, xa_kr, xa_kii, xa_kk, xa_kir, xa_krr, xa_kiir, xa_krir, xa_kdup, xa_kdup2, xa_kcp, xa_gf, xa_pf, xa_ga, xa_pa, xa_gq, xa_pq, xa_gl, xa_args, xa_ri, xa_rz, xa_rv, xa_s1, xa_s2, xa_c1, eq_self, List.getElem?_cons_succ, List.getElem?_cons_zero, true_and, and_true, nI_add, pk_mul, xt_in, xt_cl, xt_i0, xt_i1, xa_kc, xa_w8, xa_fit, lg_sl, List.flatMap_cons, List.flatMap_nil, List.map_cons, List.map_nil, List.sum_cons, List.sum_nil, Value.category, List.length_cons, List.length_nil, List.length_append, xa_rc, xa_rf, exists_eq_left, exists_eq', Option.some.injEq, Sum.inr.injEq, Prod.mk.injEq, Option.toList_some, Option.toList_none, List.cons_append, List.nil_append, Nat.reduceAdd, Nat.reduceLeDiff, Nat.reduceLT, List.set_cons_zero, List.set_cons_succ, eq_self, or_true, true_or, reduceIte, xt_ne, h0, m0, xa_iff cE1, mx_132]
    exact loop (xC (yT A)) 0 _ M1 _ (by simp [xa_s1, xa_c1, h0]) (by simp [xa_s1, xa_c1, h1]) (by simp [xa_s1, xa_c1, h2]) (by simp [xa_s1, xa_c1, xq_lv, xt_o]) (by simp [xa_s1, xa_c1, xq_lv, xt_o]) (by simp [xa_s1, xa_c1]) (by omega) hn1 z0
  · simp only [if_neg cc]
    rw [if_pos (by omega)]
    simp (disch := omega) only [↓ra_137_29, ↓ra_137_31, xa_kli, xa_klr, xa_kll, xa_ki, xa_kl, xa_kr, xa_kii, xa_kk, xa_kir, xa_krr, xa_kiir, xa_krir, xa_kdup, xa_kdup2, xa_kcp, xa_gf, xa_pf, xa_ga, xa_pa, xa_gq, xa_pq, xa_gl, xa_args, xa_ri, xa_rz, xa_rv, xa_s1, xa_s2, xa_c1, eq_self, List.getElem?_cons_succ, List.getElem?_cons_zero, true_and, and_true, nI_add, pk_mul, xt_in, xt_cl, xt_i0, xt_i1, xa_kc, xa_w8, xa_fit, lg_sl, List.flatMap_cons, List.flatMap_nil, List.map_cons, List.map_nil, List.sum_cons, List.sum_nil, Value.category, List.length_cons, List.length_nil, List.length_append, xa_rc, xa_rf, exists_eq_left, exists_eq', Option.some.injEq, Sum.inr.injEq, Prod.mk.injEq, Option.toList_some, Option.toList_none, List.cons_append, List.nil_append, Nat.reduceAdd, Nat.reduceLeDiff, Nat.reduceLT, List.set_cons_zero, List.set_cons_succ, eq_self, or_true, true_or, reduceIte, xt_ne]
    exact xm2_r hh
theorem xq_days_s {T : xt_T} : ∀ (n : Nat) (S : xt_S), xq_days T (n + 1) S = xq_days T n (xq_day T S)
  | 0, _ => rfl
  | n + 1, S => by
    show xq_day T (xq_days T (n + 1) S) = xq_day T (xq_days T n (xq_day T S))
    rw [xq_days_s n S]
theorem xq_days_o {T : xt_T} {S : xt_S} (h : ∀ s, s < xnS T → xsh S s ≠ 0) : ∀ (n s : Nat), s < xnS T → xsh (xq_days T n S) s = xsh S s
  | 0, _, _ => rfl
  | n + 1, s, hs => by
    have ih := xq_days_o h n s hs
    show (xq_dd T (xq_days T n S) s).1 = _
    unfold xq_dd xq_d
    rw [if_neg (by rw [ih]; exact h s hs)]
    exact ih
theorem xq_n_cg {T : xt_T} {S S2 : xt_S} {w : Nat} (h : ∀ s, s < xnS T → xsh S s = xsh S2 s) : xq_n T S w = xq_n T S2 w := xt_cc (fun j hj => by rw [h j hj])
theorem xq_hn_n {T : xt_T} : ∀ (r : Nat) (S : xt_S), xq_n T (xq_days T r S) 2 = xq_n T (xq_hn T r S) 2
  | 0, _ => rfl
  | r + 1, S => by
    unfold xq_hn
    by_cases c : 0 < xq_n T S 0
    · rw [if_pos c, xq_days_s]; exact xq_hn_n r (xq_day T S)
    · rw [if_neg c]
      refine xq_n_cg (fun s hs => xq_days_o (fun j hj e => c ?_) (r + 1) s hs)
      exact xt_cpos.mpr ⟨j, hj, by simp [e]⟩
theorem xq_hu_some {T : xt_T} {S : xt_S} {l : Nat} (i : Nat) : ∃ m w, xq_hu T S l (i + 1) = some (m, w) := by
  unfold xq_hu
  cases xq_hu T S l i with
  | none => exact ⟨_, _, rfl⟩
  | some p =>
    obtain ⟨m, w⟩ := p
    dsimp only
    split
    · exact ⟨_, _, rfl⟩
    · exact ⟨_, _, rfl⟩
def xt_o1 (o : Option Nat) : Int32 := match o with
  | none => Int32.ofInt (-1)
  | some n => nI n
theorem xt_m1l (n : Nat) (h : n < 2147483648) : (nI n ≤ Int32.ofInt (-1)) = False := by
  refine eq_false (fun e => ?_)
  rw [Int32.le_iff_toInt_le, nI_toInt (by omega)] at e
  have h4 : (Int32.ofInt (-1)).toInt = -1 := by decide
  omega
/-- with one man more -/
theorem xv_am {r r2 t : Nat → Int32} {T : xt_T} {l q st : Nat} (hv : xv_T r t T (xnM T)) (h5 : xnM T ≤ 5) (e2 : r2 2 = r 2) (e3 : r2 3 = r 3) (e4 : r2 4 = r 4) (e5 : r2 5 = nI l) (e6 : r2 6 = nI st) : xv_T r2 t (xq_am T l q st) (xnM T) := by
  obtain ⟨⟨v0, v1, v2, v3, v4, v5⟩, vs, vm, -, vw⟩ := hv
  refine ⟨⟨by rw [e2]; exact v0, v1, v2, v3, v4, v5⟩, fun s hs => by rw [e3, e4]; exact vs s hs, fun m hm => ?_, ⟨h5, Or.inr ⟨rfl, ?_, ?_⟩⟩, vw⟩
  · show _ = nI (if m = xnM T then l else xtm T m) ∧ _ = nI (if m = xnM T then q else xtp T m) ∧ _ = nI (if m = xnM T then st else xts T m)
    rw [if_neg (by omega), if_neg (by omega), if_neg (by omega)]
    exact vm m hm
  · rw [e5]; show _ = nI (if xnM T = xnM T then l else _); rw [if_pos rfl]
  · rw [e6]; show _ = nI (if xnM T = xnM T then st else _); rw [if_pos rfl]
theorem pe_hunt_n {M : xa_M} {c : Nat} {A : xt_A} (hh : xh_B M c A) (iA : xi_A A) {x y : Int32} (h : ¬ (xt_k x 0 (2 + 1) ∧ xt_k y 0 (1 + 1))) : xa_E 141 0 (xa_ent [.ref c, .int x, .int y]) [] M (some (.int (Int32.ofInt (-1))), M) := by
  obtain ⟨r, g, hB, hw⟩ := id hh
  have hA := xw_A hB hw
  obtain ⟨⟨r2, r3, r5, r6⟩, hV, hS, ⟨hx1, hx2⟩, ⟨hu1, hu2⟩, ⟨hk1, hk2⟩, ⟨hg1, hg2⟩⟩ := id hw
  obtain ⟨iT, i5, i60, i1, ⟨iS, iD⟩, iX, iU, iK, iG⟩ := id iA
  obtain ⟨⟨b1, b2, b3, b4, b5, b6, b7, b8⟩, bs, bm, bw⟩ := id iT
  have ix := iX.1
  have iu := iU.1
  have ik := iK.1
  have ig := iG.1
  obtain ⟨⟨v0, v1, v2, v3, v4, v5⟩, vs, vm, -, vw⟩ := id hV
  obtain ⟨m0, m1, m2, m3, m4, m5, m6, m7, m8, m9⟩ := id hB
  unfold xb_c at m0
  refine xa_go3 (fun lv h0 h1 h2 => ?_)
  by_cases a0 : xt_k x 0 (2 + 1)
  · have a1 : ¬ xt_k y 0 (1 + 1) := fun a => h ⟨a0, a⟩
    obtain ⟨k0, p0, l0, rfl⟩ := a0
    have c0 := xa_iff (pd_in_k (M := M) k0 0 2 (by omega) (by omega))
    have c1 := xa_iff (pd_in_x (M := M) 0 1 a1 (by omega) (by omega))
    simp (disch := omega) only [↓ra_141_0, ↓ra_141_1, ↓ra_141_2, ↓ra_141_3, ↓ra_141_6, ↓ra_141_9, ↓ra_141_12, ↓ra_141_13, ↓ra_141_14, ↓ra_141_15, ↓ra_141_16, ↓ra_141_19, ↓ra_141_22, ↓ra_141_23, xa_kli, xa_klr, xa_kll, xa_ki, xa_kl, xa_kr, xa_kii, xa_kk, xa_kir, xa_krr, xa_kiir, xa_krir, xa_kdup, xa_kdup2, xa_kcp, xa_gf, xa_pf, xa_ga, xa_pa, xa_gq, xa_pq, xa_gl, xa_args, xa_ri, xa_rz, xa_rv, xa_s1, xa_s2, xa_c1, eq_self, List.getElem?_cons_succ, List.getElem?_cons_zero, true_and, and_true, nI_add, pk_mul, xt_in, xt_cl, xt_i0, xt_i1, xa_kc, xa_w8, xa_fit, lg_sl, List.flatMap_cons, List.flatMap_nil, List.map_cons, List.map_nil, List.sum_cons, List.sum_nil, Value.category, List.length_cons, List.length_nil, List.length_append, xa_rc, xa_rf, exists_eq_left, exists_eq', Option.some.injEq, Sum.inr.injEq, Prod.mk.injEq, Option.toList_some, Option.toList_none, List.cons_append, List.nil_append, Nat.reduceAdd, Nat.reduceLeDiff, Nat.reduceLT, List.set_cons_zero, List.set_cons_succ, eq_self, or_true, true_or, reduceIte, xt_ne, xt_eq, Nat.reduceEqDiff, Nat.one_ne_zero, if_false, h0, h1, h2, c0, c1, mx_96, mx_97, mx_98, mx_92, m0, nI_l]
  · have c0 := xa_iff (pd_in_x (M := M) 0 2 a0 (by omega) (by omega))
    simp (disch := omega) only [↓ra_141_0, ↓ra_141_1, ↓ra_141_2, ↓ra_141_3, ↓ra_141_6, ↓ra_141_9, ↓ra_141_12, ↓ra_141_13, ↓ra_141_14, ↓ra_141_15, ↓ra_141_16, ↓ra_141_19, ↓ra_141_22, ↓ra_141_23, xa_kli, xa_klr, xa_kll, xa_ki, xa_kl, xa_kr, xa_kii, xa_kk, xa_kir, xa_krr, xa_kiir, xa_krir, xa_kdup, xa_kdup2, xa_kcp, xa_gf, xa_pf, xa_ga, xa_pa, xa_gq, xa_pq, xa_gl, xa_args, xa_ri, xa_rz, xa_rv, xa_s1, xa_s2, xa_c1, eq_self, List.getElem?_cons_succ, List.getElem?_cons_zero, true_and, and_true, nI_add, pk_mul, xt_in, xt_cl, xt_i0, xt_i1, xa_kc, xa_w8, xa_fit, lg_sl, List.flatMap_cons, List.flatMap_nil, List.map_cons, List.map_nil, List.sum_cons, List.sum_nil, Value.category, List.length_cons, List.length_nil, List.length_append, xa_rc, xa_rf, exists_eq_left, exists_eq', Option.some.injEq, Sum.inr.injEq, Prod.mk.injEq, Option.toList_some, Option.toList_none, List.cons_append, List.nil_append, Nat.reduceAdd, Nat.reduceLeDiff, Nat.reduceLT, List.set_cons_zero, List.set_cons_succ, eq_self, or_true, true_or, reduceIte, xt_ne, xt_eq, Nat.reduceEqDiff, Nat.one_ne_zero, if_false, h0, h1, h2, c0, mx_96, mx_97, mx_98, mx_92, m0, nI_l]
theorem pe_hunt {M : xa_M} {c : Nat} {A : xt_A} (hh : xh_B M c A) (iA : xi_A A) (l k : Nat) (hl : l ≤ 2) (hk : k ≤ 1) : ∃ y0, xa_E 141 0 (xa_ent [.ref c, .int (nI l), .int (nI k)]) [] M y0 ∧ xm2 c M (xs_hunt A l k) A y0 := by
  obtain ⟨r, g, hB, hw⟩ := id hh
  have hA := xw_A hB hw
  obtain ⟨⟨ra2, ra3, ra5, ra6⟩, hV, hS, ⟨hx1, hx2⟩, ⟨hu1, hu2⟩, ⟨hk1, hk2⟩, ⟨hg1, hg2⟩⟩ := id hw
  obtain ⟨iT, i5, i60, i1, ⟨iS, iD⟩, iX, iU, iK, iG⟩ := id iA
  obtain ⟨⟨b1, b2, b3, b4, b5, b6, b7, b8⟩, bs, bm, bw⟩ := id iT
  have ix := iX.1
  have iu := iU.1
  have ik := iK.1
  have ig := iG.1
  obtain ⟨⟨v0, v1, v2, v3, v4, v5⟩, vs, vm, -, vw⟩ := id hV
  obtain ⟨m0, m1, m2, m3, m4, m5, m6, m7, m8, m9⟩ := id hB
  unfold xb_c at m0
  have ca := xa_iff (pd_in_k (M := M) l 0 2 (by omega) (by omega))
  have cb := xa_iff (pd_in_k (M := M) k 0 1 (by omega) (by omega))
  obtain ⟨⟨z1, M1⟩, cE1, c1, h6, hn1, e6⟩ := pd_asides hB
  have c1 : z1 = none := c1
  subst c1
  dsimp only at hn1
  have z0 := xz_0 e6
  have hA1 : xv_A M1 c r (xb_u g 6 h6) (yT A) (xnM (yT A)) (yS A) := ⟨hn1.2, hV, hS, fun h => by omega⟩
  obtain ⟨n0, n1, n2, -⟩ := id hn1.2
  unfold xb_c at n0
  refine xa_ge3 (fun lv h0 h1 h2 => ?_)
  have turn : ∀ (q st : Nat) (lv : xa_L) (M2 : xa_M) (r2 : Nat → Int32) (g2 : Nat → Nat → Int32), lv 0 = some (.ref c) → lv 1 = some (.int (nI l)) → lv 2 = some (.int (nI k)) → lv 3 = some (.int (xt_o ((xq_hu (yT A) (yS A) l (6 * q + st)).map Prod.snd))) → lv 4 = some (.int (xt_o1 ((xq_hu (yT A) (yS A) l (6 * q + st)).map Prod.fst))) → lv 5 = some (.int (nI q)) → lv 6 = some (.int (nI st)) → q < xC (yT A) → st ≤ 5 → xn c M r2 g2 M2 → xz g g2 → (∀ j, j ≠ 5 → j ≠ 6 → r2 j = r j) → r2 5 = nI l → ∀ Q : xa_Z → Prop, (∀ (lv : xa_L) (M2 : xa_M) (r2 : Nat → Int32) (g2 : Nat → Nat → Int32), lv 0 = some (.ref c) → lv 1 = some (.int (nI l)) → lv 2 = some (.int (nI k)) → lv 3 = some (.int (xt_o ((xq_hu (yT A) (yS A) l (6 * q + (st + 1))).map Prod.snd))) → lv 4 = some (.int (xt_o1 ((xq_hu (yT A) (yS A) l (6 * q + (st + 1))).map Prod.fst))) → lv 5 = some (.int (nI q)) → lv 6 = some (.int (nI (st + 1))) → xn c M r2 g2 M2 → xz g g2 → (∀ j, j ≠ 5 → j ≠ 6 → r2 j = r j) → r2 5 = nI l → ∃ z, xa_E 141 56 lv [] M2 z ∧ Q z) → ∃ z, xa_E 141 63 lv [] M2 z ∧ Q z := by
    intro q st lv M2 r2 g2 h0 h1 h2 h3 h4 h5 h6 hq hst hn zz er e5 Q K
    have iT1 := xi_am (l := l) (st := st) iT i5 hl hq hst
    have iS1 := xi_po (l := l) (st := st) iS hq
    have hn3 := xn_s2 (h2 := upd (g2 2) 30 (nI q)) (xn_f (r2 := upd r2 6 (nI st)) hn)
    have hA3 : xv_A (xa_st (xa_st M2 c (.inr (7, xb_c c (upd r2 6 (nI st))))) (c + 2) (.inl (0, 31, .inl (upd (g2 2) 30 (nI q))))) c (upd r2 6 (nI st)) (xb_u g2 2 (upd (g2 2) 30 (nI q))) (xq_am (yT A) l q st) (xnM (yT A)) (xq_po (yS A) (xnM (yT A)) q) := by
      refine ⟨hn3.2, ?_, ⟨?_, fun s hs => ?_, fun m hm => ?_⟩, fun _ => ?_⟩
      · show xv_T _ (g2 1) _ _
        rw [zz.1]
        exact xv_am hV i5 (er 2 (by omega) (by omega)) (er 3 (by omega) (by omega)) (er 4 (by omega) (by omega)) e5 rfl
      · show upd (g2 2) 30 (nI q) 0 = _
        rw [xt_us, if_neg (by omega), zz.2.1 0 (by omega)]; exact hS.1
      · have hs : s < xnS (yT A) := hs
        show upd (g2 2) 30 (nI q) _ = _ ∧ upd (g2 2) 30 (nI q) _ = _ ∧ upd (g2 2) 30 (nI q) _ = _ ∧ upd (g2 2) 30 (nI q) _ = _
        rw [xt_us, xt_us, xt_us, xt_us, if_neg (by omega), if_neg (by omega), if_neg (by omega), if_neg (by omega), zz.2.1 _ (by omega), zz.2.1 _ (by omega), zz.2.1 _ (by omega), zz.2.1 _ (by omega)]
        exact hS.2.1 s hs
      · show upd (g2 2) 30 (nI q) (25 + m) = nI (if m = xnM (yT A) then q else xsp (yS A) m)
        rw [xt_us, if_neg (by omega), if_neg (by omega), zz.2.1 _ (by omega)]; exact hS.2.2 m hm
      · show upd (g2 2) 30 (nI q) 30 = nI (if xnM (yT A) = xnM (yT A) then q else _)
        rw [xt_us, if_pos rfl, if_pos rfl]
    obtain ⟨⟨z4, M4⟩, cE4, c4, h4', hn4, hA4⟩ := pd_goesOn hA3 iT1 iS1 60 (by show xsd (yS A) + 60 ≤ _; omega)
    have c4 : z4 = none := c4
    subst c4
    dsimp only at hn4 hA4
    rw [xb_u2] at hn4 hA4
    have i4 := (xi_days iT1 60 iS1 (by show xsd (yS A) + 60 ≤ _; omega)).1
    have cm := xa_iff (pd_many hA4 b6 (fun s hs => Nat.lt_of_le_of_lt (i4.2.1 s hs).1 (by decide)) 2 (by omega))
    rw [xq_hn_n] at cm
    change ∀ z, xa_E _ _ _ _ _ z ↔ z = (some (.int (nI (xq_tk (yT A) (yS A) l q st))), M4) at cm
    obtain ⟨⟨z5, M5⟩, cE5, c5, h5', hn5, e5'⟩ := pd_backs hA4.1
    have c5 : z5 = none := c5
    subst c5
    dsimp only at hn5
    have zf := xz_b zz e5'
    have hnf := xn_t (xn_t hn3 hn4) hn5
    have tl := xq_tk_le (yT A) (yS A) l q st
    have ed : (6 * q + st) / 6 = q := by omega
    have em : (6 * q + st) % 6 = st := by omega
    obtain ⟨k0, k1, k2, -⟩ := id hn.2
    unfold xb_c at k0
    obtain ⟨l0, -⟩ := id hn3.2
    obtain ⟨j0, -⟩ := id hn4.2
    have erf : ∀ j, j ≠ 5 → j ≠ 6 → upd r2 6 (nI st) j = r j := fun j a b => by rw [xt_us, if_neg b]; exact er j a b
    have erg : upd r2 6 (nI st) 5 = nI l := by rw [xt_us, if_neg (by omega)]; exact e5
    simp (disch := omega) only [↓ra_141_63, ↓ra_141_64, ↓ra_141_66, ↓ra_141_69, ↓ra_141_70, ↓ra_141_73, ↓ra_141_75, ↓ra_141_77, xa_kli, xa_klr, xa_kll, xa_ki, xa_kl, xa_kr, xa_kii, xa_kk, xa_kir, xa_krr, xa_kiir, xa_krir, xa_kdup, xa_kdup2, xa_kcp, xa_gf, xa_pf, xa_ga, xa_pa, xa_gq, xa_pq, xa_gl, xa_args, xa_ri, xa_rz, xa_rv, xa_s1, xa_s2, xa_c1, eq_self, List.getElem?_cons_succ, List.getElem?_cons_zero, true_and, and_true, nI_add, pk_mul, xt_in, xt_cl, xt_i0, xt_i1, xa_kc, xa_w8, xa_fit, lg_sl, List.flatMap_cons, List.flatMap_nil, List.map_cons, List.map_nil, List.sum_cons, List.sum_nil, Value.category, List.length_cons, List.length_nil, List.length_append, xa_rc, xa_rf, exists_eq_left, exists_eq', Option.some.injEq, Sum.inr.injEq, Prod.mk.injEq, Option.toList_some, Option.toList_none, List.cons_append, List.nil_append, Nat.reduceAdd, Nat.reduceLeDiff, Nat.reduceLT, List.set_cons_zero, List.set_cons_succ, eq_self, or_true, true_or, reduceIte, xt_ne, h0, h1, h2, h3, h4, h5, h6, k0, k2, xt_st]
    have cE4' : xa_E 120 0 (xa_ent [.ref c, .int (nI 60)]) [] (xa_st (xa_st M2 c (.inr (7, [.ref (c + 1), .ref (c + 2), .int (r2 2), .int (r2 3), .int (r2 4), .int (r2 5), .int (nI st), .ref (c + 3), .int (r2 8), .int (r2 9), .ref (c + 4), .int (r2 11), .int (r2 12), .ref (c + 5), .int (r2 14), .ref (c + 6), .ref (c + 7), .ref (c + 8), .int (r2 18), .ref (c + 9), .int (r2 20)]))) (c + 2) (.inl (0, 31, .inl (upd (g2 2) 30 (nI q))))) (none, M4) := cE4
    have l0' : (xa_st (xa_st M2 c (.inr (7, [.ref (c + 1), .ref (c + 2), .int (r2 2), .int (r2 3), .int (r2 4), .int (r2 5), .int (nI st), .ref (c + 3), .int (r2 8), .int (r2 9), .ref (c + 4), .int (r2 11), .int (r2 12), .ref (c + 5), .int (r2 14), .ref (c + 6), .ref (c + 7), .ref (c + 8), .int (r2 18), .ref (c + 9), .int (r2 20)]))) (c + 2) (.inl (0, 31, .inl (upd (g2 2) 30 (nI q))))).1 c = _ := l0
    generalize xa_st (xa_st M2 c _) (c + 2) _ = M3 at cE4' l0' ⊢
    simp (disch := omega) only [↓ra_141_78, ↓ra_141_79, ↓ra_141_81, ↓ra_141_84, ↓ra_141_85, ↓ra_141_86, ↓ra_141_89, ↓ra_141_91, ↓ra_141_92, ↓ra_141_95, xa_kli, xa_klr, xa_kll, xa_ki, xa_kl, xa_kr, xa_kii, xa_kk, xa_kir, xa_krr, xa_kiir, xa_krir, xa_kdup, xa_kdup2, xa_kcp, xa_gf, xa_pf, xa_ga, xa_pa, xa_gq, xa_pq, xa_gl, xa_args, xa_ri, xa_rz, xa_rv, xa_s1, xa_s2, xa_c1, eq_self, List.getElem?_cons_succ, List.getElem?_cons_zero, true_and, and_true, nI_add, pk_mul, xt_in, xt_cl, xt_i0, xt_i1, xa_kc, xa_w8, xa_fit, lg_sl, List.flatMap_cons, List.flatMap_nil, List.map_cons, List.map_nil, List.sum_cons, List.sum_nil, Value.category, List.length_cons, List.length_nil, List.length_append, xa_rc, xa_rf, exists_eq_left, exists_eq', Option.some.injEq, Sum.inr.injEq, Prod.mk.injEq, Option.toList_some, Option.toList_none, List.cons_append, List.nil_append, Nat.reduceAdd, Nat.reduceLeDiff, Nat.reduceLT, List.set_cons_zero, List.set_cons_succ, eq_self, or_true, true_or, reduceIte, xt_ne, h0, h1, h2, h3, h4, h5, h6, l0', j0, xa_iff cE4', mx_120, cm, mx_121, xa_iff cE5, mx_133]
    have nxt : ∀ lv : xa_L, lv 0 = some (.ref c) → lv 1 = some (.int (nI l)) → lv 2 = some (.int (nI k)) → lv 3 = some (.int (xt_o ((xq_hu (yT A) (yS A) l (6 * q + (st + 1))).map Prod.snd))) → lv 4 = some (.int (xt_o1 ((xq_hu (yT A) (yS A) l (6 * q + (st + 1))).map Prod.fst))) → lv 5 = some (.int (nI q)) → lv 6 = some (.int (nI st)) → ∃ z, xa_E 141 131 lv [] M5 z ∧ Q z := by
      intro lv g0 g1 g2' g3 g4 g5 g6
      simp (disch := omega) only [↓ra_141_131, ↓ra_141_134, xa_kli, xa_klr, xa_kll, xa_ki, xa_kl, xa_kr, xa_kii, xa_kk, xa_kir, xa_krr, xa_kiir, xa_krir, xa_kdup, xa_kdup2, xa_kcp, xa_gf, xa_pf, xa_ga, xa_pa, xa_gq, xa_pq, xa_gl, xa_args, xa_ri, xa_rz, xa_rv, xa_s1, xa_s2, xa_c1, eq_self, List.getElem?_cons_succ, List.getElem?_cons_zero, true_and, and_true, nI_add, pk_mul, xt_in, xt_cl, xt_i0, xt_i1, xa_kc, xa_w8, xa_fit, lg_sl, List.flatMap_cons, List.flatMap_nil, List.map_cons, List.map_nil, List.sum_cons, List.sum_nil, Value.category, List.length_cons, List.length_nil, List.length_append, xa_rc, xa_rf, exists_eq_left, exists_eq', Option.some.injEq, Sum.inr.injEq, Prod.mk.injEq, Option.toList_some, Option.toList_none, List.cons_append, List.nil_append, Nat.reduceAdd, Nat.reduceLeDiff, Nat.reduceLT, List.set_cons_zero, List.set_cons_succ, eq_self, or_true, true_or, reduceIte, xt_ne, g6]
      exact K _ M5 _ _ (by simp [xa_s1, xa_c1, g0]) (by simp [xa_s1, xa_c1, g1]) (by simp [xa_s1, xa_c1, g2']) (by simp [xa_s1, xa_c1, g3]) (by simp [xa_s1, xa_c1, g4]) (by simp [xa_s1, xa_c1, g5]) (by simp [xa_s1, xa_c1]) hnf zf erf erg
    have win : xq_hu (yT A) (yS A) l (6 * q + (st + 1)) = some (xq_tk (yT A) (yS A) l q st, 10 * q + st) → (nI (xq_tk (yT A) (yS A) l q st) ≤ xt_o1 ((xq_hu (yT A) (yS A) l (6 * q + st)).map Prod.fst)) = False → ∃ z, xa_E 141 97 (xa_s1 lv 7 (.int (nI (xq_tk (yT A) (yS A) l q st)))) [.int (nI (xq_tk (yT A) (yS A) l q st))] M5 z ∧ Q z := by
      intro e1 e2
      simp (disch := omega) only [↓ra_141_97, ↓ra_141_99, ↓ra_141_102, ↓ra_141_104, ↓ra_141_106, ↓ra_141_107, ↓ra_141_109, ↓ra_141_110, ↓ra_141_114, ↓ra_141_115, ↓ra_141_117, ↓ra_141_119, xa_kli, xa_klr, xa_kll, xa_ki, xa_kl, xa_kr, xa_kii, xa_kk, xa_kir, xa_krr, xa_kiir, xa_krir, xa_kdup, xa_kdup2, xa_kcp, xa_gf, xa_pf, xa_ga, xa_pa, xa_gq, xa_pq, xa_gl, xa_args, xa_ri, xa_rz, xa_rv, xa_s1, xa_s2, xa_c1, eq_self, List.getElem?_cons_succ, List.getElem?_cons_zero, true_and, and_true, nI_add, pk_mul, xt_in, xt_cl, xt_i0, xt_i1, xa_kc, xa_w8, xa_fit, lg_sl, List.flatMap_cons, List.flatMap_nil, List.map_cons, List.map_nil, List.sum_cons, List.sum_nil, Value.category, List.length_cons, List.length_nil, List.length_append, xa_rc, xa_rf, exists_eq_left, exists_eq', Option.some.injEq, Sum.inr.injEq, Prod.mk.injEq, Option.toList_some, Option.toList_none, List.cons_append, List.nil_append, Nat.reduceAdd, Nat.reduceLeDiff, Nat.reduceLT, List.set_cons_zero, List.set_cons_succ, eq_self, or_true, true_or, reduceIte, xt_ne, h0, h1, h2, h3, h4, h5, h6, e2, if_false]
      simp (disch := omega) only [↓ra_141_122, ↓ra_141_124, ↓ra_141_129, xa_kli, xa_klr, xa_kll, xa_ki, xa_kl, xa_kr, xa_kii, xa_kk, xa_kir, xa_krr, xa_kiir, xa_krir, xa_kdup, xa_kdup2, xa_kcp, xa_gf, xa_pf, xa_ga, xa_pa, xa_gq, xa_pq, xa_gl, xa_args, xa_ri, xa_rz, xa_rv, xa_s1, xa_s2, xa_c1, eq_self, List.getElem?_cons_succ, List.getElem?_cons_zero, true_and, and_true, nI_add, pk_mul, xt_in, xt_cl, xt_i0, xt_i1, xa_kc, xa_w8, xa_fit, lg_sl, List.flatMap_cons, List.flatMap_nil, List.map_cons, List.map_nil, List.sum_cons, List.sum_nil, Value.category, List.length_cons, List.length_nil, List.length_append, xa_rc, xa_rf, exists_eq_left, exists_eq', Option.some.injEq, Sum.inr.injEq, Prod.mk.injEq, Option.toList_some, Option.toList_none, List.cons_append, List.nil_append, Nat.reduceAdd, Nat.reduceLeDiff, Nat.reduceLT, List.set_cons_zero, List.set_cons_succ, eq_self, or_true, true_or, reduceIte, xt_ne, h0, h1, h2, h3, h4, h5, h6]
      exact nxt _ (by simp [xa_s1, xa_c1, h0]) (by simp [xa_s1, xa_c1, h1]) (by simp [xa_s1, xa_c1, h2]) (by simp [xa_s1, xa_c1, e1, xt_o]) (by simp [xa_s1, xa_c1, e1, xt_o1]) (by simp [xa_s1, xa_c1, h5]) (by simp [xa_s1, xa_c1, h6])
    have lose : xq_hu (yT A) (yS A) l (6 * q + (st + 1)) = xq_hu (yT A) (yS A) l (6 * q + st) → (nI (xq_tk (yT A) (yS A) l q st) ≤ xt_o1 ((xq_hu (yT A) (yS A) l (6 * q + st)).map Prod.fst)) = True → ∃ z, xa_E 141 97 (xa_s1 lv 7 (.int (nI (xq_tk (yT A) (yS A) l q st)))) [.int (nI (xq_tk (yT A) (yS A) l q st))] M5 z ∧ Q z := by
      intro e1 e2
      simp (disch := omega) only [↓ra_141_97, ↓ra_141_99, ↓ra_141_113, ↓ra_141_114, ↓ra_141_115, ↓ra_141_117, ↓ra_141_119, ↓ra_141_127, ↓ra_141_129, xa_kli, xa_klr, xa_kll, xa_ki, xa_kl, xa_kr, xa_kii, xa_kk, xa_kir, xa_krr, xa_kiir, xa_krir, xa_kdup, xa_kdup2, xa_kcp, xa_gf, xa_pf, xa_ga, xa_pa, xa_gq, xa_pq, xa_gl, xa_args, xa_ri, xa_rz, xa_rv, xa_s1, xa_s2, xa_c1, eq_self, List.getElem?_cons_succ, List.getElem?_cons_zero, true_and, and_true, nI_add, pk_mul, xt_in, xt_cl, xt_i0, xt_i1, xa_kc, xa_w8, xa_fit, lg_sl, List.flatMap_cons, List.flatMap_nil, List.map_cons, List.map_nil, List.sum_cons, List.sum_nil, Value.category, List.length_cons, List.length_nil, List.length_append, xa_rc, xa_rf, exists_eq_left, exists_eq', Option.some.injEq, Sum.inr.injEq, Prod.mk.injEq, Option.toList_some, Option.toList_none, List.cons_append, List.nil_append, Nat.reduceAdd, Nat.reduceLeDiff, Nat.reduceLT, List.set_cons_zero, List.set_cons_succ, eq_self, or_true, true_or, reduceIte, xt_ne, h0, h1, h2, h3, h4, h5, h6, e2, if_true]
      exact nxt _ (by simp [xa_s1, xa_c1, h0]) (by simp [xa_s1, xa_c1, h1]) (by simp [xa_s1, xa_c1, h2]) (by simp [xa_s1, xa_c1, e1]) (by simp [xa_s1, xa_c1, e1]) (by simp [xa_s1, xa_c1, h5]) (by simp [xa_s1, xa_c1, h6])
    have es : xq_hu (yT A) (yS A) l (6 * q + (st + 1)) = xq_hu (yT A) (yS A) l ((6 * q + st) + 1) := rfl
    cases hp : xq_hu (yT A) (yS A) l (6 * q + st) with
    | none =>
      refine win (by rw [es]; simp only [xq_hu, hp, ed, em]) ?_
      rw [hp]
      exact xt_m1l _ (by omega)
    | some wf =>
      obtain ⟨m, w⟩ := wf
      have lf := xq_hu_le _ m w hp
      have hf : xt_o1 (some m) = nI m := rfl
      by_cases cf : m < xq_tk (yT A) (yS A) l q st
      · refine win (by rw [es]; simp only [xq_hu, hp, ed, em, if_pos cf]) ?_
        rw [hp]
        show (_ ≤ nI m) = False
        rw [xt_le _ _ (by omega) (by omega)]
        exact eq_false (by omega)
      · refine lose (by rw [es, hp]; simp only [xq_hu, hp, ed, em, if_neg cf]) ?_
        rw [hp]
        show (_ ≤ nI m) = True
        rw [xt_le _ _ (by omega) (by omega)]
        exact eq_true (by omega)
  have inner : ∀ (t q st : Nat) (lv : xa_L) (M2 : xa_M) (r2 : Nat → Int32) (g2 : Nat → Nat → Int32), lv 0 = some (.ref c) → lv 1 = some (.int (nI l)) → lv 2 = some (.int (nI k)) → lv 3 = some (.int (xt_o ((xq_hu (yT A) (yS A) l (6 * q + st)).map Prod.snd))) → lv 4 = some (.int (xt_o1 ((xq_hu (yT A) (yS A) l (6 * q + st)).map Prod.fst))) → lv 5 = some (.int (nI q)) → lv 6 = some (.int (nI st)) → q < xC (yT A) → st + t = 6 → xn c M r2 g2 M2 → xz g g2 → (∀ j, j ≠ 5 → j ≠ 6 → r2 j = r j) → r2 5 = nI l → ∀ Q : xa_Z → Prop, (∀ (lv : xa_L) (M2 : xa_M) (r2 : Nat → Int32) (g2 : Nat → Nat → Int32), lv 0 = some (.ref c) → lv 1 = some (.int (nI l)) → lv 2 = some (.int (nI k)) → lv 3 = some (.int (xt_o ((xq_hu (yT A) (yS A) l (6 * (q + 1))).map Prod.snd))) → lv 4 = some (.int (xt_o1 ((xq_hu (yT A) (yS A) l (6 * (q + 1))).map Prod.fst))) → lv 5 = some (.int (nI (q + 1))) → xn c M r2 g2 M2 → xz g g2 → (∀ j, j ≠ 5 → j ≠ 6 → r2 j = r j) → r2 5 = nI l → ∃ z, xa_E 141 42 lv [] M2 z ∧ Q z) → ∃ z, xa_E 141 56 lv [] M2 z ∧ Q z := by
    intro t
    induction t with
    | zero =>
      intro q st lv M2 r2 g2 h0 h1 h2 h3 h4 h5 h6 hq e hn zz er e5 Q K
      have e : st = 6 := by omega
      subst e
      simp (disch := omega) only [↓ra_141_56, ↓ra_141_58, ↓ra_141_60, ↓ra_141_137, ↓ra_141_140, xa_kli, xa_klr, xa_kll, xa_ki, xa_kl, xa_kr, xa_kii, xa_kk, xa_kir, xa_krr, xa_kiir, xa_krir, xa_kdup, xa_kdup2, xa_kcp, xa_gf, xa_pf, xa_ga, xa_pa, xa_gq, xa_pq, xa_gl, xa_args, xa_ri, xa_rz, xa_rv, xa_s1, xa_s2, xa_c1, eq_self, List.getElem?_cons_succ, List.getElem?_cons_zero, true_and, and_true, nI_add, pk_mul, xt_in, xt_cl, xt_i0, xt_i1, xa_kc, xa_w8, xa_fit, lg_sl, List.flatMap_cons, List.flatMap_nil, List.map_cons, List.map_nil, List.sum_cons, List.sum_nil, Value.category, List.length_cons, List.length_nil, List.length_append, xa_rc, xa_rf, exists_eq_left, exists_eq', Option.some.injEq, Sum.inr.injEq, Prod.mk.injEq, Option.toList_some, Option.toList_none, List.cons_append, List.nil_append, Nat.reduceAdd, Nat.reduceLeDiff, Nat.reduceLT, List.set_cons_zero, List.set_cons_succ, eq_self, or_true, true_or, reduceIte, xt_ne, h5, h6, xt_le, Nat.le_refl]
      have e6 : 6 * (q + 1) = 6 * q + 6 := by omega
      exact K _ M2 r2 g2 (by simp [xa_s1, xa_c1, h0]) (by simp [xa_s1, xa_c1, h1]) (by simp [xa_s1, xa_c1, h2]) (by simp [xa_s1, xa_c1, h3, e6]) (by simp [xa_s1, xa_c1, h4, e6]) (by simp [xa_s1, xa_c1]) hn zz er e5
    | succ t ih =>
      intro q st lv M2 r2 g2 h0 h1 h2 h3 h4 h5 h6 hq e hn zz er e5 Q K
      simp (disch := omega) only [↓ra_141_56, ↓ra_141_58, ↓ra_141_60, xa_kli, xa_klr, xa_kll, xa_ki, xa_kl, xa_kr, xa_kii, xa_kk, xa_kir, xa_krr, xa_kiir, xa_krir, xa_kdup, xa_kdup2, xa_kcp, xa_gf, xa_pf, xa_ga, xa_pa, xa_gq, xa_pq, xa_gl, xa_args, xa_ri, xa_rz, xa_rv, xa_s1, xa_s2, xa_c1, eq_self, List.getElem?_cons_succ, List.getElem?_cons_zero, true_and, and_true, nI_add, pk_mul, xt_in, xt_cl, xt_i0, xt_i1, xa_kc, xa_w8, xa_fit, lg_sl, List.flatMap_cons, List.flatMap_nil, List.map_cons, List.map_nil, List.sum_cons, List.sum_nil, Value.category, List.length_cons, List.length_nil, List.length_append, xa_rc, xa_rf, exists_eq_left, exists_eq', Option.some.injEq, Sum.inr.injEq, Prod.mk.injEq, Option.toList_some, Option.toList_none, List.cons_append, List.nil_append, Nat.reduceAdd, Nat.reduceLeDiff, Nat.reduceLT, List.set_cons_zero, List.set_cons_succ, eq_self, or_true, true_or, reduceIte, xt_ne, h5, h6, xt_le]
      simp only [if_neg (show ¬ 6 ≤ st by omega)]
      exact turn q st lv M2 r2 g2 h0 h1 h2 h3 h4 h5 h6 hq (by omega) hn zz er e5 Q (fun lv M2 r2 g2 g0 g1 g2' g3 g4 g5 g6 hn zz er e5 => ih q (st + 1) lv M2 r2 g2 g0 g1 g2' g3 g4 g5 g6 hq (by omega) hn zz er e5 Q K)
  have outer : ∀ (t q : Nat) (lv : xa_L) (M2 : xa_M) (r2 : Nat → Int32) (g2 : Nat → Nat → Int32), lv 0 = some (.ref c) → lv 1 = some (.int (nI l)) → lv 2 = some (.int (nI k)) → lv 3 = some (.int (xt_o ((xq_hu (yT A) (yS A) l (6 * q)).map Prod.snd))) → lv 4 = some (.int (xt_o1 ((xq_hu (yT A) (yS A) l (6 * q)).map Prod.fst))) → lv 5 = some (.int (nI q)) → q + t = xC (yT A) → xn c M r2 g2 M2 → xz g g2 → (∀ j, j ≠ 5 → j ≠ 6 → r2 j = r j) → r2 5 = nI l → ∃ z, xa_E 141 42 lv [] M2 z ∧ xm2 c M (xs_hunt A l k) A z := by
    intro t
    induction t with
    | zero =>
      intro q lv M2 r2 g2 h0 h1 h2 h3 h4 h5 e hn zz er e5
      have e : q = xC (yT A) := by omega
      subst e
      obtain ⟨k0, k1, -⟩ := id hn.2
      unfold xb_c at k0
      rw [zz.1] at k1
      simp (disch := omega) only [↓ra_141_42, ↓ra_141_44, ↓ra_141_45, ↓ra_141_48, ↓ra_141_49, ↓ra_141_50, ↓ra_141_143, ↓ra_141_144, ↓ra_141_146, ↓ra_141_149, ↓ra_141_150, ↓ra_141_151, ↓ra_141_154, ↓ra_141_155, xa_kli, xa_klr, xa_kll, xa_ki, xa_kl, xa_kr, xa_kii, xa_kk, xa_kir, xa_krr, xa_kiir, xa_krir, xa_kdup, xa_kdup2, xa_kcp, xa_gf, xa_pf, xa_ga, xa_pa, xa_gq, xa_pq, xa_gl, xa_args, xa_ri, xa_rz, xa_rv, xa_s1, xa_s2, xa_c1, eq_self, List.getElem?_cons_succ, List.getElem?_cons_zero, true_and, and_true, nI_add, pk_mul, xt_in, xt_cl, xt_i0, xt_i1, xa_kc, xa_w8, xa_fit, lg_sl, List.flatMap_cons, List.flatMap_nil, List.map_cons, List.map_nil, List.sum_cons, List.sum_nil, Value.category, List.length_cons, List.length_nil, List.length_append, xa_rc, xa_rf, exists_eq_left, exists_eq', Option.some.injEq, Sum.inr.injEq, Prod.mk.injEq, Option.toList_some, Option.toList_none, List.cons_append, List.nil_append, Nat.reduceAdd, Nat.reduceLeDiff, Nat.reduceLT, List.set_cons_zero, List.set_cons_succ, eq_self, or_true, true_or, reduceIte, xt_ne, h0, h1, h2, h3, h4, h5, k0, k1, v1, xt_st, xt_le, Nat.le_refl, xt_eq]
      have hnf := xn_f (r2 := upd (upd r2 5 (Int32.ofInt (-4))) 6 (nI 0)) (xn_f (r2 := upd r2 5 (Int32.ofInt (-4))) hn)
      have fin : ∀ v, xm2 c M v A (some (.int v), _) := fun v => xm2_n hnf (xz_w hw iA zz (er 2 (by omega) (by omega)) (er 3 (by omega) (by omega)) ra5.symm ra6.symm (er 8 (by omega) (by omega)) (er 14 (by omega) (by omega)) (er 18 (by omega) (by omega)) (er 20 (by omega) (by omega)))
      unfold xs_hunt
      by_cases ck : k = 0
      · simp only [if_pos ck]
        simp (disch := omega) only [↓ra_141_158, ↓ra_141_159, ↓ra_141_164, xa_kli, xa_klr, xa_kll, xa_ki, xa_kl, xa_kr, xa_kii, xa_kk, xa_kir, xa_krr, xa_kiir, xa_krir, xa_kdup, xa_kdup2, xa_kcp, xa_gf, xa_pf, xa_ga, xa_pa, xa_gq, xa_pq, xa_gl, xa_args, xa_ri, xa_rz, xa_rv, xa_s1, xa_s2, xa_c1, eq_self, List.getElem?_cons_succ, List.getElem?_cons_zero, true_and, and_true, nI_add, pk_mul, xt_in, xt_cl, xt_i0, xt_i1, xa_kc, xa_w8, xa_fit, lg_sl, List.flatMap_cons, List.flatMap_nil, List.map_cons, List.map_nil, List.sum_cons, List.sum_nil, Value.category, List.length_cons, List.length_nil, List.length_append, xa_rc, xa_rf, exists_eq_left, exists_eq', Option.some.injEq, Sum.inr.injEq, Prod.mk.injEq, Option.toList_some, Option.toList_none, List.cons_append, List.nil_append, Nat.reduceAdd, Nat.reduceLeDiff, Nat.reduceLT, List.set_cons_zero, List.set_cons_succ, eq_self, or_true, true_or, reduceIte, xt_ne, h3]
        exact fin _
      · simp only [if_neg ck]
        simp (disch := omega) only [↓ra_141_162, ↓ra_141_164, xa_kli, xa_klr, xa_kll, xa_ki, xa_kl, xa_kr, xa_kii, xa_kk, xa_kir, xa_krr, xa_kiir, xa_krir, xa_kdup, xa_kdup2, xa_kcp, xa_gf, xa_pf, xa_ga, xa_pa, xa_gq, xa_pq, xa_gl, xa_args, xa_ri, xa_rz, xa_rv, xa_s1, xa_s2, xa_c1, eq_self, List.getElem?_cons_succ, List.getElem?_cons_zero, true_and, and_true, nI_add, pk_mul, xt_in, xt_cl, xt_i0, xt_i1, xa_kc, xa_w8, xa_fit, lg_sl, List.flatMap_cons, List.flatMap_nil, List.map_cons, List.map_nil, List.sum_cons, List.sum_nil, Value.category, List.length_cons, List.length_nil, List.length_append, xa_rc, xa_rf, exists_eq_left, exists_eq', Option.some.injEq, Sum.inr.injEq, Prod.mk.injEq, Option.toList_some, Option.toList_none, List.cons_append, List.nil_append, Nat.reduceAdd, Nat.reduceLeDiff, Nat.reduceLT, List.set_cons_zero, List.set_cons_succ, eq_self, or_true, true_or, reduceIte, xt_ne, h4]
        obtain ⟨m, w, hp⟩ := xq_hu_some (T := yT A) (S := yS A) (l := l) (6 * xC (yT A) - 1)
        rw [show 6 * xC (yT A) - 1 + 1 = 6 * xC (yT A) by omega] at hp
        rw [hp]
        exact fin _
    | succ t ih =>
      intro q lv M2 r2 g2 h0 h1 h2 h3 h4 h5 e hn zz er e5
      obtain ⟨k0, k1, -⟩ := id hn.2
      unfold xb_c at k0
      rw [zz.1] at k1
      simp (disch := omega) only [↓ra_141_42, ↓ra_141_44, ↓ra_141_45, ↓ra_141_48, ↓ra_141_49, ↓ra_141_50, xa_kli, xa_klr, xa_kll, xa_ki, xa_kl, xa_kr, xa_kii, xa_kk, xa_kir, xa_krr, xa_kiir, xa_krir, xa_kdup, xa_kdup2, xa_kcp, xa_gf, xa_pf, xa_ga, xa_pa, xa_gq, xa_pq, xa_gl, xa_args, xa_ri, xa_rz, xa_rv, xa_s1, xa_s2, xa_c1, eq_self, List.getElem?_cons_succ, List.getElem?_cons_zero, true_and, and_true, nI_add, pk_mul, xt_in, xt_cl, xt_i0, xt_i1, xa_kc, xa_w8, xa_fit, lg_sl, List.flatMap_cons, List.flatMap_nil, List.map_cons, List.map_nil, List.sum_cons, List.sum_nil, Value.category, List.length_cons, List.length_nil, List.length_append, xa_rc, xa_rf, exists_eq_left, exists_eq', Option.some.injEq, Sum.inr.injEq, Prod.mk.injEq, Option.toList_some, Option.toList_none, List.cons_append, List.nil_append, Nat.reduceAdd, Nat.reduceLeDiff, Nat.reduceLT, List.set_cons_zero, List.set_cons_succ, eq_self, or_true, true_or, reduceIte, xt_ne, h0, h1, h2, h3, h4, h5, k0, k1, v1, xt_le]
      simp only [if_neg (show ¬ xC (yT A) ≤ q by omega)]
      simp (disch := omega) only [↓ra_141_53, ↓ra_141_54, xa_kli, xa_klr, xa_kll, xa_ki, xa_kl, xa_kr, xa_kii, xa_kk, xa_kir, xa_krr, xa_kiir, xa_krir, xa_kdup, xa_kdup2, xa_kcp, xa_gf, xa_pf, xa_ga, xa_pa, xa_gq, xa_pq, xa_gl, xa_args, xa_ri, xa_rz, xa_rv, xa_s1, xa_s2, xa_c1, eq_self, List.getElem?_cons_succ, List.getElem?_cons_zero, true_and, and_true, nI_add, pk_mul, xt_in, xt_cl, xt_i0, xt_i1, xa_kc, xa_w8, xa_fit, lg_sl, List.flatMap_cons, List.flatMap_nil, List.map_cons, List.map_nil, List.sum_cons, List.sum_nil, Value.category, List.length_cons, List.length_nil, List.length_append, xa_rc, xa_rf, exists_eq_left, exists_eq', Option.some.injEq, Sum.inr.injEq, Prod.mk.injEq, Option.toList_some, Option.toList_none, List.cons_append, List.nil_append, Nat.reduceAdd, Nat.reduceLeDiff, Nat.reduceLT, List.set_cons_zero, List.set_cons_succ, eq_self, or_true, true_or, reduceIte, xt_ne]
      exact inner 6 q 0 _ M2 r2 g2 (by simp [xa_s1, xa_c1, h0]) (by simp [xa_s1, xa_c1, h1]) (by simp [xa_s1, xa_c1, h2]) (by simp [xa_s1, xa_c1, h3]) (by simp [xa_s1, xa_c1, h4]) (by simp [xa_s1, xa_c1, h5]) (by simp [xa_s1, xa_c1]) (by omega) (by omega) hn zz er e5 _ (fun lv M2 r2 g2 g0 g1 g2' g3 g4 g5 hn zz er e5 => ih (q + 1) lv M2 r2 g2 g0 g1 g2' g3 g4 g5 (by omega) hn zz er e5)
  simp (disch := omega) only [↓ra_141_0, ↓ra_141_1, ↓ra_141_2, ↓ra_141_3, ↓ra_141_6, ↓ra_141_9, ↓ra_141_12, ↓ra_141_13, ↓ra_141_14, ↓ra_141_15, ↓ra_141_16, ↓ra_141_19, ↓ra_141_24, ↓ra_141_26, ↓ra_141_27, ↓ra_141_28, ↓ra_141_30, ↓ra_141_31, ↓ra_141_34, ↓ra_141_35, ↓ra_141_36, ↓ra_141_39, ↓ra_141_40, xa_kli, xa_klr, xa_kll, xa_ki, xa_kl, xa_kr, xa_kii, xa_kk, xa_kir, xa_krr, xa_kiir, xa_krir, xa_kdup, xa_kdup2, xa_kcp, xa_gf, xa_pf, xa_ga, xa_pa, xa_gq, xa_pq, xa_gl, xa_args, xa_ri, xa_rz, xa_rv, xa_s1, xa_s2, xa_c1, eq_self, List.getElem?_cons_succ, List.getElem?_cons_zero, true_and, and_true, nI_add, pk_mul, xt_in, xt_cl, xt_i0, xt_i1, xa_kc, xa_w8, xa_fit, lg_sl, List.flatMap_cons, List.flatMap_nil, List.map_cons, List.map_nil, List.sum_cons, List.sum_nil, Value.category, List.length_cons, List.length_nil, List.length_append, xa_rc, xa_rf, exists_eq_left, exists_eq', Option.some.injEq, Sum.inr.injEq, Prod.mk.injEq, Option.toList_some, Option.toList_none, List.cons_append, List.nil_append, Nat.reduceAdd, Nat.reduceLeDiff, Nat.reduceLT, List.set_cons_zero, List.set_cons_succ, eq_self, or_true, true_or, reduceIte, xt_ne, xt_eq, Nat.reduceEqDiff, Nat.one_ne_zero, if_false, h0, h1, h2, nI_l, ca, cb, mx_92, m0, n0, xa_iff cE1, mx_132]
  exact outer (xC (yT A)) 0 _ _ (upd r 5 (nI l)) _ (by simp [xa_s1, xa_c1, h0]) (by simp [xa_s1, xa_c1, h1]) (by simp [xa_s1, xa_c1, h2]) (by simp [xa_s1, xa_c1, xq_hu, xt_o]) (by simp [xa_s1, xa_c1, xq_hu, xt_o1]) (by simp [xa_s1, xa_c1]) (by omega) (xn_f (r2 := upd r 5 (nI l)) hn1) z0 (fun j a _ => by rw [xt_us, if_neg a]) (by rw [xt_us, if_pos rfl])
