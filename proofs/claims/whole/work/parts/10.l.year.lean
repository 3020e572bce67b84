theorem xq_out_id {S : xt_S} {s : Nat} (h1 : xsh S s = 1) (h2 : xss S s = 0) : xq_out S s = S := by
  have e1 : (fun j => if j = s then 1 else xsh S j) = xsh S := by funext j; by_cases e : j = s
                                                                  · rw [if_pos e, e, h1]
                                                                  · rw [if_neg e]
  have e2 : (fun j => if j = s then 0 else xss S j) = xss S := by funext j; by_cases e : j = s
                                                                  · rw [if_pos e, e, h2]
                                                                  · rw [if_neg e]
  unfold xq_out
  rw [e1, e2]
theorem pe_year_n {M : xa_M} {c : Nat} {A : xt_A} (hh : xh_B M c A) (iA : xi_A A) {x y w : Int32} (h : ¬ (xt_k x 0 (9999 + 1) ∧ xt_k y 1 (60 + 1) ∧ xt_k w 0 (1 + 1))) : xa_E 153 0 (xa_ent [.ref c, .int x, .int y, .int w]) [] M (some (.int (Int32.ofInt (-1))), M) := by
  obtain ⟨r, g, hB, hw⟩ := id hh
  have hA := xw_A hB hw
  obtain ⟨⟨r2, r3, r5, r6⟩, hV, hS, ⟨hx1, hx2⟩, ⟨hu1, hu2⟩, ⟨hk1, hk2⟩, ⟨hg1, hg2⟩⟩ := id hw
  obtain ⟨iT, i5, i60, i1, ⟨iS, iD⟩, iX, iU, iK, iG⟩ := id iA
  obtain ⟨⟨b1, b2, b3, b4, b5, b6, b7, b8⟩, bs, bm, bw⟩ := id iT
  have ix := iX.1
  have iu := iU.1
  have ik := iK.1
  have ig := iG.1
  obtain ⟨⟨v0, v1, v2, v3, v4, v5⟩, vs, vm, -, vw⟩ := id hV
  obtain ⟨m0, m1, m2, m3, m4, m5, m6, m7, m8, m9⟩ := id hB
  unfold xb_c at m0
  refine xa_go4 (fun lv h0 h1 h2 h3 => ?_)
  by_cases a0 : xt_k x 0 (9999 + 1)
  · by_cases a1 : xt_k y 1 (60 + 1)
    · have a2 : ¬ xt_k w 0 (1 + 1) := fun a => h ⟨a0, a1, a⟩
      obtain ⟨k0, p0, l0, rfl⟩ := a0
      have c0 := xa_iff (pd_in_k (M := M) k0 0 9999 (by omega) (by omega))
      obtain ⟨k1, p1, l1, rfl⟩ := a1
      have c1 := xa_iff (pd_in_k (M := M) k1 1 60 (by omega) (by omega))
      have c2 := xa_iff (pd_in_x (M := M) 0 1 a2 (by omega) (by omega))
      simp (disch := omega) only [↓ra_153_0, ↓ra_153_1, ↓ra_153_2, ↓ra_153_3, ↓ra_153_6, ↓ra_153_9, ↓ra_153_12, ↓ra_153_13, ↓ra_153_14, ↓ra_153_15, ↓ra_153_18, ↓ra_153_21, ↓ra_153_24, ↓ra_153_25, ↓ra_153_26, ↓ra_153_27, ↓ra_153_28, ↓ra_153_31, ↓ra_153_34, ↓ra_153_35, xa_kli, xa_klr, xa_kll, xa_ki, xa_kl, xa_kr, xa_kii, xa_kk, xa_kir, xa_krr, xa_kiir, xa_krir, xa_kdup, xa_kdup2, xa_kcp, xa_gf, xa_pf, xa_ga, xa_pa, xa_gq, xa_pq, xa_gl, xa_args, xa_ri, xa_rz, xa_rv, xa_s1, xa_s2, xa_c1, eq_self, List.getElem?_cons_succ, List.getElem?_cons_zero, true_and, and_true, nI_add, pk_mul, xt_in, xt_cl, xt_i0, xt_i1, xa_kc, xa_w8, xa_fit, lg_sl, List.flatMap_cons, List.flatMap_nil, List.map_cons, List.map_nil, List.sum_cons, List.sum_nil, Value.category, List.length_cons, List.length_nil, List.length_append, xa_rc, xa_rf, exists_eq_left, exists_eq', Option.some.injEq, Sum.inr.injEq, Prod.mk.injEq, Option.toList_some, Option.toList_none, List.cons_append, List.nil_append, Nat.reduceAdd, Nat.reduceLeDiff, Nat.reduceLT, List.set_cons_zero, List.set_cons_succ, eq_self, or_true, true_or, reduceIte, xt_ne, xt_eq, Nat.reduceEqDiff, Nat.one_ne_zero, if_false, h0, h1, h2, h3, c0, c1, c2, mx_96, mx_97, mx_98, mx_92, m0, nI_l]
    · obtain ⟨k0, p0, l0, rfl⟩ := a0
      have c0 := xa_iff (pd_in_k (M := M) k0 0 9999 (by omega) (by omega))
      have c1 := xa_iff (pd_in_x (M := M) 1 60 a1 (by omega) (by omega))
      simp (disch := omega) only [↓ra_153_0, ↓ra_153_1, ↓ra_153_2, ↓ra_153_3, ↓ra_153_6, ↓ra_153_9, ↓ra_153_12, ↓ra_153_13, ↓ra_153_14, ↓ra_153_15, ↓ra_153_18, ↓ra_153_21, ↓ra_153_24, ↓ra_153_25, ↓ra_153_26, ↓ra_153_27, ↓ra_153_28, ↓ra_153_31, ↓ra_153_34, ↓ra_153_35, xa_kli, xa_klr, xa_kll, xa_ki, xa_kl, xa_kr, xa_kii, xa_kk, xa_kir, xa_krr, xa_kiir, xa_krir, xa_kdup, xa_kdup2, xa_kcp, xa_gf, xa_pf, xa_ga, xa_pa, xa_gq, xa_pq, xa_gl, xa_args, xa_ri, xa_rz, xa_rv, xa_s1, xa_s2, xa_c1, eq_self, List.getElem?_cons_succ, List.getElem?_cons_zero, true_and, and_true, nI_add, pk_mul, xt_in, xt_cl, xt_i0, xt_i1, xa_kc, xa_w8, xa_fit, lg_sl, List.flatMap_cons, List.flatMap_nil, List.map_cons, List.map_nil, List.sum_cons, List.sum_nil, Value.category, List.length_cons, List.length_nil, List.length_append, xa_rc, xa_rf, exists_eq_left, exists_eq', Option.some.injEq, Sum.inr.injEq, Prod.mk.injEq, Option.toList_some, Option.toList_none, List.cons_append, List.nil_append, Nat.reduceAdd, Nat.reduceLeDiff, Nat.reduceLT, List.set_cons_zero, List.set_cons_succ, eq_self, or_true, true_or, reduceIte, xt_ne, xt_eq, Nat.reduceEqDiff, Nat.one_ne_zero, if_false, h0, h1, h2, h3, c0, c1, mx_96, mx_97, mx_98, mx_92, m0, nI_l]
  · have c0 := xa_iff (pd_in_x (M := M) 0 9999 a0 (by omega) (by omega))
    simp (disch := omega) only [↓ra_153_0, ↓ra_153_1, ↓ra_153_2, ↓ra_153_3, ↓ra_153_6, ↓ra_153_9, ↓ra_153_12, ↓ra_153_13, ↓ra_153_14, ↓ra_153_15, ↓ra_153_18, ↓ra_153_21, ↓ra_153_24, ↓ra_153_25, ↓ra_153_26, ↓ra_153_27, ↓ra_153_28, ↓ra_153_31, ↓ra_153_34, ↓ra_153_35, xa_kli, xa_klr, xa_kll, xa_ki, xa_kl, xa_kr, xa_kii, xa_kk, xa_kir, xa_krr, xa_kiir, xa_krir, xa_kdup, xa_kdup2, xa_kcp, xa_gf, xa_pf, xa_ga, xa_pa, xa_gq, xa_pq, xa_gl, xa_args, xa_ri, xa_rz, xa_rv, xa_s1, xa_s2, xa_c1, eq_self, List.getElem?_cons_succ, List.getElem?_cons_zero, true_and, and_true, nI_add, pk_mul, xt_in, xt_cl, xt_i0, xt_i1, xa_kc, xa_w8, xa_fit, lg_sl, List.flatMap_cons, List.flatMap_nil, List.map_cons, List.map_nil, List.sum_cons, List.sum_nil, Value.category, List.length_cons, List.length_nil, List.length_append, xa_rc, xa_rf, exists_eq_left, exists_eq', Option.some.injEq, Sum.inr.injEq, Prod.mk.injEq, Option.toList_some, Option.toList_none, List.cons_append, List.nil_append, Nat.reduceAdd, Nat.reduceLeDiff, Nat.reduceLT, List.set_cons_zero, List.set_cons_succ, eq_self, or_true, true_or, reduceIte, xt_ne, xt_eq, Nat.reduceEqDiff, Nat.one_ne_zero, if_false, h0, h1, h2, h3, c0, mx_96, mx_97, mx_98, mx_92, m0, nI_l]
theorem pe_year {M : xa_M} {c : Nat} {A : xt_A} (hh : xh_B M c A) (iA : xi_A A) (zz k w : Nat) (hz : zz ≤ 9999) (k1 : 1 ≤ k) (k2 : k ≤ 60) (hw2 : w ≤ 1) : ∃ y0, xa_E 153 0 (xa_ent [.ref c, .int (nI zz), .int (nI k), .int (nI w)]) [] M y0 ∧ xm2 c M (xs_year A zz k w) A y0 := by
  obtain ⟨r, g, hB, hw⟩ := id hh
  have hA := xw_A hB hw
  obtain ⟨⟨r2, r3, r5, r6⟩, hV, hS, ⟨hx1, hx2⟩, ⟨hu1, hu2⟩, ⟨hk1, hk2⟩, ⟨hg1, hg2⟩⟩ := id hw
  obtain ⟨iT, i5, i60, i1, ⟨iS, iD⟩, iX, iU, iK, iG⟩ := id iA
  obtain ⟨⟨b1, b2, b3, b4, b5, b6, b7, b8⟩, bs, bm, bw⟩ := id iT
  have ix := iX.1
  have iu := iU.1
  have ik := iK.1
  have ig := iG.1
  obtain ⟨⟨v0, v1, v2, v3, v4, v5⟩, vs, vm, -, vw⟩ := id hV
  obtain ⟨m0, m1, m2, m3, m4, m5, m6, m7, m8, m9⟩ := id hB
  unfold xb_c at m0
  have ca := xa_iff (pd_in_k (M := M) zz 0 9999 (by omega) (by omega))
  have cb := xa_iff (pd_in_k (M := M) k 1 60 (by omega) (by omega))
  have cc := xa_iff (pd_in_k (M := M) w 0 1 (by omega) (by omega))
  obtain ⟨⟨z1, M1⟩, cE1, c1, h6, hn1, e6⟩ := pd_asides hB
  have c1 : z1 = none := c1
  subst c1
  dsimp only at hn1
  have z0 := xz_0 e6
  have hA1 : xv_A M1 c r (xb_u g 6 h6) (yT A) (xnM (yT A)) (yS A) := ⟨hn1.2, hV, hS, fun h => by omega⟩
  obtain ⟨n0, n1, n2, -⟩ := id hn1.2
  unfold xb_c at n0
  refine xa_ge4 (fun lv h0 h1 h2 h3 => ?_)
  have loop : ∀ (t d : Nat) (lv : xa_L) (M2 : xa_M) (h : Nat → Int32) (S2 : xt_S), lv 0 = some (.ref c) → lv 1 = some (.int (nI zz)) → lv 2 = some (.int (nI k)) → lv 3 = some (.int (nI w)) → lv 4 = some (.int (nI d)) → d + t = k → xa_fr c (c + 10) M M2 → xv_A M2 c r (xb_u (xb_u g 6 h6) 2 h) (yT A) (xnM (yT A)) S2 → xi_S (yT A) S2 → xsd S2 + t ≤ 100000 → ∃ y0, xa_E 153 43 lv [] M2 y0 ∧ xm2 c M (nI (xq_n (yT A) (xq_yr (yT A) zz t d S2) (if w = 0 then 2 else 3))) A y0 := by
    intro t
    induction t with
    | zero =>
      intro d lv M2 h S2 h0 h1 h2 h3 h4 e fr hA2 iS2 hd2
      have e : d = k := by omega
      subst e
      obtain ⟨k0, -⟩ := id hA2.1
      unfold xb_c at k0
      have hm := fun (w : Nat) (hw : w < 2147483648) => xa_iff (pd_many hA2 b6 (fun s hs => Nat.lt_of_le_of_lt (iS2.2.1 s hs).1 (by decide)) w hw)
      obtain ⟨⟨z3, M3⟩, cE3, c3, h3', hn3, e3⟩ := pd_backs hA2.1
      have c3 : z3 = none := c3
      subst c3
      dsimp only at hn3
      have zf := xz_b z0 e3
      have fin : ∀ v, xm2 c M v A (some (.int v), M3) := fun v => xm2_n (⟨xa_fr_tr fr hn3.1, hn3.2⟩ : xn c M r _ M3) (xz_w hw iA zf rfl rfl rfl rfl rfl rfl rfl rfl)
      simp (disch := omega) only [↓ra_153_43, ↓ra_153_45, ↓ra_153_46, ↓ra_153_186, ↓ra_153_187, ↓ra_153_188, xa_kli, xa_klr, xa_kll, xa_ki, xa_kl, xa_kr, xa_kii, xa_kk, xa_kir, xa_krr, xa_kiir, xa_krir, xa_kdup, xa_kdup2, xa_kcp, xa_gf, xa_pf, xa_ga, xa_pa, xa_gq, xa_pq, xa_gl, xa_args, xa_ri, xa_rz, xa_rv, xa_s1, xa_s2, xa_c1, eq_self, List.getElem?_cons_succ, List.getElem?_cons_zero, true_and, and_true, nI_add, pk_mul, xt_in, xt_cl, xt_i0, xt_i1, xa_kc, xa_w8, xa_fit, lg_sl, List.flatMap_cons, List.flatMap_nil, List.map_cons, List.map_nil, List.sum_cons, List.sum_nil, Value.category, List.length_cons, List.length_nil, List.length_append, xa_rc, xa_rf, exists_eq_left, exists_eq', Option.some.injEq, Sum.inr.injEq, Prod.mk.injEq, Option.toList_some, Option.toList_none, List.cons_append, List.nil_append, Nat.reduceAdd, Nat.reduceLeDiff, Nat.reduceLT, List.set_cons_zero, List.set_cons_succ, eq_self, or_true, true_or, reduceIte, xt_ne, h0, h1, h2, h3, h4, xt_le, Nat.le_refl, xt_eq]
      by_cases ck : w = 0
      · simp only [if_pos ck]
        simp (disch := omega) only [↓ra_153_191, ↓ra_153_192, ↓ra_153_196, ↓ra_153_199, ↓ra_153_201, ↓ra_153_202, ↓ra_153_205, ↓ra_153_207, xa_kli, xa_klr, xa_kll, xa_ki, xa_kl, xa_kr, xa_kii, xa_kk, xa_kir, xa_krr, xa_kiir, xa_krir, xa_kdup, xa_kdup2, xa_kcp, xa_gf, xa_pf, xa_ga, xa_pa, xa_gq, xa_pq, xa_gl, xa_args, xa_ri, xa_rz, xa_rv, xa_s1, xa_s2, xa_c1, eq_self, List.getElem?_cons_succ, List.getElem?_cons_zero, true_and, and_true, nI_add, pk_mul, xt_in, xt_cl, xt_i0, xt_i1, xa_kc, xa_w8, xa_fit, lg_sl, List.flatMap_cons, List.flatMap_nil, List.map_cons, List.map_nil, List.sum_cons, List.sum_nil, Value.category, List.length_cons, List.length_nil, List.length_append, xa_rc, xa_rf, exists_eq_left, exists_eq', Option.some.injEq, Sum.inr.injEq, Prod.mk.injEq, Option.toList_some, Option.toList_none, List.cons_append, List.nil_append, Nat.reduceAdd, Nat.reduceLeDiff, Nat.reduceLT, List.set_cons_zero, List.set_cons_succ, eq_self, or_true, true_or, reduceIte, xt_ne, h0, k0, hm, mx_121, xa_iff cE3, mx_133]
        exact fin _
      · simp only [if_neg ck]
        simp (disch := omega) only [↓ra_153_195, ↓ra_153_196, ↓ra_153_199, ↓ra_153_201, ↓ra_153_202, ↓ra_153_205, ↓ra_153_207, xa_kli, xa_klr, xa_kll, xa_ki, xa_kl, xa_kr, xa_kii, xa_kk, xa_kir, xa_krr, xa_kiir, xa_krir, xa_kdup, xa_kdup2, xa_kcp, xa_gf, xa_pf, xa_ga, xa_pa, xa_gq, xa_pq, xa_gl, xa_args, xa_ri, xa_rz, xa_rv, xa_s1, xa_s2, xa_c1, eq_self, List.getElem?_cons_succ, List.getElem?_cons_zero, true_and, and_true, nI_add, pk_mul, xt_in, xt_cl, xt_i0, xt_i1, xa_kc, xa_w8, xa_fit, lg_sl, List.flatMap_cons, List.flatMap_nil, List.map_cons, List.map_nil, List.sum_cons, List.sum_nil, Value.category, List.length_cons, List.length_nil, List.length_append, xa_rc, xa_rf, exists_eq_left, exists_eq', Option.some.injEq, Sum.inr.injEq, Prod.mk.injEq, Option.toList_some, Option.toList_none, List.cons_append, List.nil_append, Nat.reduceAdd, Nat.reduceLeDiff, Nat.reduceLT, List.set_cons_zero, List.set_cons_succ, eq_self, or_true, true_or, reduceIte, xt_ne, h0, k0, hm, mx_121, xa_iff cE3, mx_133]
        exact fin _
    | succ t ih =>
      intro d lv M2 h S2 h0 h1 h2 h3 h4 e fr hA2 iS2 hd2
      obtain ⟨k0, k1, -⟩ := id hA2.1
      unfold xb_c at k0
      rw [xb_un _ _ _ _ (by omega), xb_un _ _ _ _ (by omega)] at k1
      have hb := xt_drb hz (show d ≤ 60 by omega)
      have dl := xq_dr_lt zz d
      have hs : xq_dr zz d % xnS (yT A) < xnS (yT A) := Nat.mod_lt _ (by omega)
      have hq : xq_dr zz d / 8 % xC (yT A) < xC (yT A) := Nat.mod_lt _ (by omega)
      have dd := iS2.2.1 _ hs
      have ch := xa_iff (pd_how hA2 b6 _ hs)
      have ia := xi_act (d := xq_dr zz d) iT iS2 i1
      have de := xq_act_d (yT A) S2 (xq_dr zz d)
      have xdr : nI ((7919 * zz + 6151 * d + 1) * (7919 * zz + 6151 * d + 1) % 65521 / 2) = nI (xq_dr zz d) := rfl
      simp (disch := omega) only [↓ra_153_43, ↓ra_153_45, ↓ra_153_46, xa_kli, xa_klr, xa_kll, xa_ki, xa_kl, xa_kr, xa_kii, xa_kk, xa_kir, xa_krr, xa_kiir, xa_krir, xa_kdup, xa_kdup2, xa_kcp, xa_gf, xa_pf, xa_ga, xa_pa, xa_gq, xa_pq, xa_gl, xa_args, xa_ri, xa_rz, xa_rv, xa_s1, xa_s2, xa_c1, eq_self, List.getElem?_cons_succ, List.getElem?_cons_zero, true_and, and_true, nI_add, pk_mul, xt_in, xt_cl, xt_i0, xt_i1, xa_kc, xa_w8, xa_fit, lg_sl, List.flatMap_cons, List.flatMap_nil, List.map_cons, List.map_nil, List.sum_cons, List.sum_nil, Value.category, List.length_cons, List.length_nil, List.length_append, xa_rc, xa_rf, exists_eq_left, exists_eq', Option.some.injEq, Sum.inr.injEq, Prod.mk.injEq, Option.toList_some, Option.toList_none, List.cons_append, List.nil_append, Nat.reduceAdd, Nat.reduceLeDiff, Nat.reduceLT, List.set_cons_zero, List.set_cons_succ, eq_self, or_true, true_or, reduceIte, xt_ne, h0, h1, h2, h3, h4, xt_le]
      simp only [if_neg (show ¬ k ≤ d by omega)]
      simp (disch := omega) only [↓ra_153_49, ↓ra_153_52, ↓ra_153_53, ↓ra_153_54, ↓ra_153_55, ↓ra_153_58, ↓ra_153_60, ↓ra_153_61, ↓ra_153_62, ↓ra_153_63, ↓ra_153_64, ↓ra_153_65, xa_kli, xa_klr, xa_kll, xa_ki, xa_kl, xa_kr, xa_kii, xa_kk, xa_kir, xa_krr, xa_kiir, xa_krir, xa_kdup, xa_kdup2, xa_kcp, xa_gf, xa_pf, xa_ga, xa_pa, xa_gq, xa_pq, xa_gl, xa_args, xa_ri, xa_rz, xa_rv, xa_s1, xa_s2, xa_c1, eq_self, List.getElem?_cons_succ, List.getElem?_cons_zero, true_and, and_true, nI_add, pk_mul, xt_in, xt_cl, xt_i0, xt_i1, xa_kc, xa_w8, xa_fit, lg_sl, List.flatMap_cons, List.flatMap_nil, List.map_cons, List.map_nil, List.sum_cons, List.sum_nil, Value.category, List.length_cons, List.length_nil, List.length_append, xa_rc, xa_rf, exists_eq_left, exists_eq', Option.some.injEq, Sum.inr.injEq, Prod.mk.injEq, Option.toList_some, Option.toList_none, List.cons_append, List.nil_append, Nat.reduceAdd, Nat.reduceLeDiff, Nat.reduceLT, List.set_cons_zero, List.set_cons_succ, eq_self, or_true, true_or, reduceIte, xt_ne, h0, h1, h2, h3, h4, nI_l, lN_mul, lN_add]
      simp (disch := omega) only [↓ra_153_67, ↓ra_153_69, ↓ra_153_71, xa_kli, xa_klr, xa_kll, xa_ki, xa_kl, xa_kr, xa_kii, xa_kk, xa_kir, xa_krr, xa_kiir, xa_krir, xa_kdup, xa_kdup2, xa_kcp, xa_gf, xa_pf, xa_ga, xa_pa, xa_gq, xa_pq, xa_gl, xa_args, xa_ri, xa_rz, xa_rv, xa_s1, xa_s2, xa_c1, eq_self, List.getElem?_cons_succ, List.getElem?_cons_zero, true_and, and_true, nI_add, pk_mul, xt_in, xt_cl, xt_i0, xt_i1, xa_kc, xa_w8, xa_fit, lg_sl, List.flatMap_cons, List.flatMap_nil, List.map_cons, List.map_nil, List.sum_cons, List.sum_nil, Value.category, List.length_cons, List.length_nil, List.length_append, xa_rc, xa_rf, exists_eq_left, exists_eq', Option.some.injEq, Sum.inr.injEq, Prod.mk.injEq, Option.toList_some, Option.toList_none, List.cons_append, List.nil_append, Nat.reduceAdd, Nat.reduceLeDiff, Nat.reduceLT, List.set_cons_zero, List.set_cons_succ, eq_self, or_true, true_or, reduceIte, xt_ne, lN_mul]
      simp (disch := omega) only [↓ra_153_72, ↓ra_153_75, ↓ra_153_76, ↓ra_153_79, ↓ra_153_80, ↓ra_153_81, xa_kli, xa_klr, xa_kll, xa_ki, xa_kl, xa_kr, xa_kii, xa_kk, xa_kir, xa_krr, xa_kiir, xa_krir, xa_kdup, xa_kdup2, xa_kcp, xa_gf, xa_pf, xa_ga, xa_pa, xa_gq, xa_pq, xa_gl, xa_args, xa_ri, xa_rz, xa_rv, xa_s1, xa_s2, xa_c1, eq_self, List.getElem?_cons_succ, List.getElem?_cons_zero, true_and, and_true, nI_add, pk_mul, xt_in, xt_cl, xt_i0, xt_i1, xa_kc, xa_w8, xa_fit, lg_sl, List.flatMap_cons, List.flatMap_nil, List.map_cons, List.map_nil, List.sum_cons, List.sum_nil, Value.category, List.length_cons, List.length_nil, List.length_append, xa_rc, xa_rf, exists_eq_left, exists_eq', Option.some.injEq, Sum.inr.injEq, Prod.mk.injEq, Option.toList_some, Option.toList_none, List.cons_append, List.nil_append, Nat.reduceAdd, Nat.reduceLeDiff, Nat.reduceLT, List.set_cons_zero, List.set_cons_succ, eq_self, or_true, true_or, reduceIte, xt_ne, xt_l0, not_false_eq_true, pk_lDiv hb, lN_mul, xt_remL, pk_lDiv, lN_i, xdr]
      -- what comes behind the act
      have rest : ∀ (lv : xa_L) (M3 : xa_M) (h : Nat → Int32), lv 0 = some (.ref c) → lv 1 = some (.int (nI zz)) → lv 2 = some (.int (nI k)) → lv 3 = some (.int (nI w)) → lv 4 = some (.int (nI d)) → xa_fr c (c + 10) M M3 → xv_A M3 c r (xb_u (xb_u g 6 h6) 2 h) (yT A) (xnM (yT A)) (xq_act (yT A) S2 (xq_dr zz d)) → ∃ y0, xa_E 153 176 lv [] M3 y0 ∧ xm2 c M (nI (xq_n (yT A) (xq_yr (yT A) zz (t + 1) d S2) (if w = 0 then 2 else 3))) A y0 := by
        intro lv M3 h h0 h1 h2 h3 h4 fr3 hA3
        obtain ⟨j0, -⟩ := id hA3.1
        unfold xb_c at j0
        obtain ⟨⟨z4, M4⟩, cE4, c4, h4', hn4, hA4⟩ := pd_goesBy hA3 iT ia
        have c4 : z4 = none := c4
        subst c4
        dsimp only at hn4 hA4
        rw [xb_u2] at hn4 hA4
        simp (disch := omega) only [↓ra_153_176, ↓ra_153_177, ↓ra_153_180, ↓ra_153_183, xa_kli, xa_klr, xa_kll, xa_ki, xa_kl, xa_kr, xa_kii, xa_kk, xa_kir, xa_krr, xa_kiir, xa_krir, xa_kdup, xa_kdup2, xa_kcp, xa_gf, xa_pf, xa_ga, xa_pa, xa_gq, xa_pq, xa_gl, xa_args, xa_ri, xa_rz, xa_rv, xa_s1, xa_s2, xa_c1, eq_self, List.getElem?_cons_succ, List.getElem?_cons_zero, true_and, and_true, nI_add, pk_mul, xt_in, xt_cl, xt_i0, xt_i1, xa_kc, xa_w8, xa_fit, lg_sl, List.flatMap_cons, List.flatMap_nil, List.map_cons, List.map_nil, List.sum_cons, List.sum_nil, Value.category, List.length_cons, List.length_nil, List.length_append, xa_rc, xa_rf, exists_eq_left, exists_eq', Option.some.injEq, Sum.inr.injEq, Prod.mk.injEq, Option.toList_some, Option.toList_none, List.cons_append, List.nil_append, Nat.reduceAdd, Nat.reduceLeDiff, Nat.reduceLT, List.set_cons_zero, List.set_cons_succ, eq_self, or_true, true_or, reduceIte, xt_ne, h0, h4, j0, xa_iff cE4, mx_118]
        exact ih (d + 1) _ M4 h4' _ (by simp [xa_s1, xa_c1, h0]) (by simp [xa_s1, xa_c1, h1]) (by simp [xa_s1, xa_c1, h2]) (by simp [xa_s1, xa_c1, h3]) (by simp [xa_s1, xa_c1]) (by omega) (xa_fr_tr fr3 hn4.1) hA4 (xi_day iT ia (by omega)) (by show xsd (xq_act (yT A) S2 (xq_dr zz d)) + 1 + t ≤ _; omega)
      generalize hx : xq_dr zz d = x at *
      simp (disch := omega) only [↓ra_153_83, ↓ra_153_85, ↓ra_153_86, ↓ra_153_89, ↓ra_153_90, ↓ra_153_91, ↓ra_153_92, ↓ra_153_94, ↓ra_153_96, ↓ra_153_98, ↓ra_153_99, ↓ra_153_100, ↓ra_153_103, ↓ra_153_104, ↓ra_153_105, ↓ra_153_106, ↓ra_153_108, ↓ra_153_109, ↓ra_153_111, ↓ra_153_114, ↓ra_153_115, xa_kli, xa_klr, xa_kll, xa_ki, xa_kl, xa_kr, xa_kii, xa_kk, xa_kir, xa_krr, xa_kiir, xa_krir, xa_kdup, xa_kdup2, xa_kcp, xa_gf, xa_pf, xa_ga, xa_pa, xa_gq, xa_pq, xa_gl, xa_args, xa_ri, xa_rz, xa_rv, xa_s1, xa_s2, xa_c1, eq_self, List.getElem?_cons_succ, List.getElem?_cons_zero, true_and, and_true, nI_add, pk_mul, xt_in, xt_cl, xt_i0, xt_i1, xa_kc, xa_w8, xa_fit, lg_sl, List.flatMap_cons, List.flatMap_nil, List.map_cons, List.map_nil, List.sum_cons, List.sum_nil, Value.category, List.length_cons, List.length_nil, List.length_append, xa_rc, xa_rf, exists_eq_left, exists_eq', Option.some.injEq, Sum.inr.injEq, Prod.mk.injEq, Option.toList_some, Option.toList_none, List.cons_append, List.nil_append, Nat.reduceAdd, Nat.reduceLeDiff, Nat.reduceLT, List.set_cons_zero, List.set_cons_succ, eq_self, or_true, true_or, reduceIte, xt_ne, xt_n0, not_false_eq_true, xt_div, xt_remA, h0, h1, h2, h3, h4, k0, k1, v1, v3, ch, mx_99, xt_le]
      have skip : ∀ lv : xa_L, lv 0 = some (.ref c) → lv 1 = some (.int (nI zz)) → lv 2 = some (.int (nI k)) → lv 3 = some (.int (nI w)) → lv 4 = some (.int (nI d)) → lv 7 = some (.int (nI x)) → lv 8 = some (.int (nI (x % xnS (yT A)))) → ¬ (xsh S2 (x % xnS (yT A)) ≤ 1 ∧ x / 64 % 3 = 0) → ∃ y0, xa_E 153 139 lv [] M2 y0 ∧ xm2 c M (nI (xq_n (yT A) (xq_yr (yT A) zz (t + 1) d S2) (if w = 0 then 2 else 3))) A y0 := by
        intro lv h0 h1 h2 h3 h4 h7 h8 hne
        simp (disch := omega) only [↓ra_153_139, ↓ra_153_140, ↓ra_153_142, ↓ra_153_145, xa_kli, xa_klr, xa_kll, xa_ki, xa_kl, xa_kr, xa_kii, xa_kk, xa_kir, xa_krr, xa_kiir, xa_krir, xa_kdup, xa_kdup2, xa_kcp, xa_gf, xa_pf, xa_ga, xa_pa, xa_gq, xa_pq, xa_gl, xa_args, xa_ri, xa_rz, xa_rv, xa_s1, xa_s2, xa_c1, eq_self, List.getElem?_cons_succ, List.getElem?_cons_zero, true_and, and_true, nI_add, pk_mul, xt_in, xt_cl, xt_i0, xt_i1, xa_kc, xa_w8, xa_fit, lg_sl, List.flatMap_cons, List.flatMap_nil, List.map_cons, List.map_nil, List.sum_cons, List.sum_nil, Value.category, List.length_cons, List.length_nil, List.length_append, xa_rc, xa_rf, exists_eq_left, exists_eq', Option.some.injEq, Sum.inr.injEq, Prod.mk.injEq, Option.toList_some, Option.toList_none, List.cons_append, List.nil_append, Nat.reduceAdd, Nat.reduceLeDiff, Nat.reduceLT, List.set_cons_zero, List.set_cons_succ, eq_self, or_true, true_or, reduceIte, xt_ne, h0, h7, h8, k0, ch, mx_99, xt_eq]
        have same : xq_act (yT A) S2 x = S2 → ∃ y0, xa_E 153 176 lv [] M2 y0 ∧ xm2 c M (nI (xq_n (yT A) (xq_yr (yT A) zz (t + 1) d S2) (if w = 0 then 2 else 3))) A y0 := fun es => rest lv M2 h h0 h1 h2 h3 h4 fr (by rw [es]; exact hA2)
        by_cases c0 : xsh S2 (x % xnS (yT A)) = 0
        · simp only [if_pos c0]
          simp (disch := omega) only [↓ra_153_148, ↓ra_153_150, ↓ra_153_152, ↓ra_153_153, ↓ra_153_154, ↓ra_153_155, ↓ra_153_156, xa_kli, xa_klr, xa_kll, xa_ki, xa_kl, xa_kr, xa_kii, xa_kk, xa_kir, xa_krr, xa_kiir, xa_krir, xa_kdup, xa_kdup2, xa_kcp, xa_gf, xa_pf, xa_ga, xa_pa, xa_gq, xa_pq, xa_gl, xa_args, xa_ri, xa_rz, xa_rv, xa_s1, xa_s2, xa_c1, eq_self, List.getElem?_cons_succ, List.getElem?_cons_zero, true_and, and_true, nI_add, pk_mul, xt_in, xt_cl, xt_i0, xt_i1, xa_kc, xa_w8, xa_fit, lg_sl, List.flatMap_cons, List.flatMap_nil, List.map_cons, List.map_nil, List.sum_cons, List.sum_nil, Value.category, List.length_cons, List.length_nil, List.length_append, xa_rc, xa_rf, exists_eq_left, exists_eq', Option.some.injEq, Sum.inr.injEq, Prod.mk.injEq, Option.toList_some, Option.toList_none, List.cons_append, List.nil_append, Nat.reduceAdd, Nat.reduceLeDiff, Nat.reduceLT, List.set_cons_zero, List.set_cons_succ, eq_self, or_true, true_or, reduceIte, xt_ne, xt_n0, not_false_eq_true, xt_div, xt_remA, h7, h8, xt_eq]
          by_cases c2 : x / 64 % 3 = 1
          · simp only [if_pos c2]
            simp (disch := omega) only [↓ra_153_159, ↓ra_153_161, ↓ra_153_164, ↓ra_153_165, ↓ra_153_166, ↓ra_153_167, xa_kli, xa_klr, xa_kll, xa_ki, xa_kl, xa_kr, xa_kii, xa_kk, xa_kir, xa_krr, xa_kiir, xa_krir, xa_kdup, xa_kdup2, xa_kcp, xa_gf, xa_pf, xa_ga, xa_pa, xa_gq, xa_pq, xa_gl, xa_args, xa_ri, xa_rz, xa_rv, xa_s1, xa_s2, xa_c1, eq_self, List.getElem?_cons_succ, List.getElem?_cons_zero, true_and, and_true, nI_add, pk_mul, xt_in, xt_cl, xt_i0, xt_i1, xa_kc, xa_w8, xa_fit, lg_sl, List.flatMap_cons, List.flatMap_nil, List.map_cons, List.map_nil, List.sum_cons, List.sum_nil, Value.category, List.length_cons, List.length_nil, List.length_append, xa_rc, xa_rf, exists_eq_left, exists_eq', Option.some.injEq, Sum.inr.injEq, Prod.mk.injEq, Option.toList_some, Option.toList_none, List.cons_append, List.nil_append, Nat.reduceAdd, Nat.reduceLeDiff, Nat.reduceLT, List.set_cons_zero, List.set_cons_succ, eq_self, or_true, true_or, reduceIte, xt_ne, xt_n0, not_false_eq_true, xt_div, xt_remA, h7, h8, xt_eq]
            by_cases c3 : x / 256 % 4 = 0
            · simp only [if_pos c3]
              obtain ⟨⟨z5, M5⟩, cE5, c5, h5', hn5, hA5⟩ := pd_leaves hA2 b6 (x % xnS (yT A)) hs
              have c5 : z5 = none := c5
              subst c5
              dsimp only at hn5 hA5
              rw [xb_u2] at hn5 hA5
              simp (disch := omega) only [↓ra_153_170, ↓ra_153_171, ↓ra_153_173, xa_kli, xa_klr, xa_kll, xa_ki, xa_kl, xa_kr, xa_kii, xa_kk, xa_kir, xa_krr, xa_kiir, xa_krir, xa_kdup, xa_kdup2, xa_kcp, xa_gf, xa_pf, xa_ga, xa_pa, xa_gq, xa_pq, xa_gl, xa_args, xa_ri, xa_rz, xa_rv, xa_s1, xa_s2, xa_c1, eq_self, List.getElem?_cons_succ, List.getElem?_cons_zero, true_and, and_true, nI_add, pk_mul, xt_in, xt_cl, xt_i0, xt_i1, xa_kc, xa_w8, xa_fit, lg_sl, List.flatMap_cons, List.flatMap_nil, List.map_cons, List.map_nil, List.sum_cons, List.sum_nil, Value.category, List.length_cons, List.length_nil, List.length_append, xa_rc, xa_rf, exists_eq_left, exists_eq', Option.some.injEq, Sum.inr.injEq, Prod.mk.injEq, Option.toList_some, Option.toList_none, List.cons_append, List.nil_append, Nat.reduceAdd, Nat.reduceLeDiff, Nat.reduceLT, List.set_cons_zero, List.set_cons_succ, eq_self, or_true, true_or, reduceIte, xt_ne, h0, h8, k0, xa_iff cE5, mx_126]
              refine rest lv M5 h5' h0 h1 h2 h3 h4 (xa_fr_tr fr hn5.1) ?_
              have es : xq_act (yT A) S2 x = xq_out S2 (x % xnS (yT A)) := by
                unfold xq_act
                rw [if_neg (by omega), if_neg (by omega), if_pos ⟨c2, c3⟩]
              rw [es]
              exact hA5
            · simp only [if_neg c3]
              refine same ?_
              unfold xq_act
              rw [if_neg (by omega), if_neg (by omega), if_neg (fun h => c3 h.2)]
          · simp only [if_neg c2]
            refine same ?_
            unfold xq_act
            rw [if_neg (by omega), if_neg (by omega), if_neg (fun h => c2 h.1)]
        · simp only [if_neg c0]
          refine same ?_
          unfold xq_act
          by_cases c5 : 2 ≤ xsh S2 (x % xnS (yT A))
          · rw [if_pos c5]
          · rw [if_neg c5, if_neg (by omega)]
            split
            · exact xq_out_id (by omega) (dd.2.2.2.2.2 (by omega)).1
            · rfl
      by_cases c2 : 2 ≤ xsh S2 (x % xnS (yT A))
      · simp only [if_pos c2]
        exact skip _ (by simp [xa_s1, xa_s2, xa_c1, h0]) (by simp [xa_s1, xa_s2, xa_c1, h1]) (by simp [xa_s1, xa_s2, xa_c1, h2]) (by simp [xa_s1, xa_s2, xa_c1, h3]) (by simp [xa_s1, xa_s2, xa_c1, h4]) (by simp [xa_s1, xa_s2, xa_c1]) (by simp [xa_s1, xa_s2, xa_c1]) (by omega)
      · simp only [if_neg c2]
        simp (disch := omega) only [↓ra_153_118, ↓ra_153_120, ↓ra_153_122, ↓ra_153_123, ↓ra_153_124, ↓ra_153_125, xa_kli, xa_klr, xa_kll, xa_ki, xa_kl, xa_kr, xa_kii, xa_kk, xa_kir, xa_krr, xa_kiir, xa_krir, xa_kdup, xa_kdup2, xa_kcp, xa_gf, xa_pf, xa_ga, xa_pa, xa_gq, xa_pq, xa_gl, xa_args, xa_ri, xa_rz, xa_rv, xa_s1, xa_s2, xa_c1, eq_self, List.getElem?_cons_succ, List.getElem?_cons_zero, true_and, and_true, nI_add, pk_mul, xt_in, xt_cl, xt_i0, xt_i1, xa_kc, xa_w8, xa_fit, lg_sl, List.flatMap_cons, List.flatMap_nil, List.map_cons, List.map_nil, List.sum_cons, List.sum_nil, Value.category, List.length_cons, List.length_nil, List.length_append, xa_rc, xa_rf, exists_eq_left, exists_eq', Option.some.injEq, Sum.inr.injEq, Prod.mk.injEq, Option.toList_some, Option.toList_none, List.cons_append, List.nil_append, Nat.reduceAdd, Nat.reduceLeDiff, Nat.reduceLT, List.set_cons_zero, List.set_cons_succ, eq_self, or_true, true_or, reduceIte, xt_ne, xt_n0, not_false_eq_true, xt_div, xt_remA, xt_eq]
        by_cases c3 : x / 64 % 3 = 0
        · simp only [if_pos c3]
          obtain ⟨⟨z5, M5⟩, cE5, c5, h5', hn5, hA5⟩ := pd_moves hA2 b6 (x % xnS (yT A)) (x / 8 % xC (yT A)) hs dd.1 (fun h => (dd.2.2.2.2.2 h).1)
          have c5 : z5 = none := c5
          subst c5
          dsimp only at hn5 hA5
          rw [xb_u2] at hn5 hA5
          simp (disch := omega) only [↓ra_153_128, ↓ra_153_129, ↓ra_153_131, ↓ra_153_133, ↓ra_153_136, xa_kli, xa_klr, xa_kll, xa_ki, xa_kl, xa_kr, xa_kii, xa_kk, xa_kir, xa_krr, xa_kiir, xa_krir, xa_kdup, xa_kdup2, xa_kcp, xa_gf, xa_pf, xa_ga, xa_pa, xa_gq, xa_pq, xa_gl, xa_args, xa_ri, xa_rz, xa_rv, xa_s1, xa_s2, xa_c1, eq_self, List.getElem?_cons_succ, List.getElem?_cons_zero, true_and, and_true, nI_add, pk_mul, xt_in, xt_cl, xt_i0, xt_i1, xa_kc, xa_w8, xa_fit, lg_sl, List.flatMap_cons, List.flatMap_nil, List.map_cons, List.map_nil, List.sum_cons, List.sum_nil, Value.category, List.length_cons, List.length_nil, List.length_append, xa_rc, xa_rf, exists_eq_left, exists_eq', Option.some.injEq, Sum.inr.injEq, Prod.mk.injEq, Option.toList_some, Option.toList_none, List.cons_append, List.nil_append, Nat.reduceAdd, Nat.reduceLeDiff, Nat.reduceLT, List.set_cons_zero, List.set_cons_succ, eq_self, or_true, true_or, reduceIte, xt_ne, h0, k0, xa_iff cE5, mx_125]
          refine rest _ M5 h5' (by simp [xa_s1, xa_s2, xa_c1, h0]) (by simp [xa_s1, xa_s2, xa_c1, h1]) (by simp [xa_s1, xa_s2, xa_c1, h2]) (by simp [xa_s1, xa_s2, xa_c1, h3]) (by simp [xa_s1, xa_s2, xa_c1, h4]) (xa_fr_tr fr hn5.1) ?_
          have es : xq_act (yT A) S2 x = xq_set S2 (x % xnS (yT A)) (x / 8 % xC (yT A)) := by
            unfold xq_act
            rw [if_neg c2, if_pos c3]
          rw [es]
          exact hA5
        · simp only [if_neg c3]
          exact skip _ (by simp [xa_s1, xa_s2, xa_c1, h0]) (by simp [xa_s1, xa_s2, xa_c1, h1]) (by simp [xa_s1, xa_s2, xa_c1, h2]) (by simp [xa_s1, xa_s2, xa_c1, h3]) (by simp [xa_s1, xa_s2, xa_c1, h4]) (by simp [xa_s1, xa_s2, xa_c1]) (by simp [xa_s1, xa_s2, xa_c1]) (by omega)
  simp (disch := omega) only [↓ra_153_0, ↓ra_153_1, ↓ra_153_2, ↓ra_153_3, ↓ra_153_6, ↓ra_153_9, ↓ra_153_12, ↓ra_153_13, ↓ra_153_14, ↓ra_153_15, ↓ra_153_18, ↓ra_153_21, ↓ra_153_24, ↓ra_153_25, ↓ra_153_26, ↓ra_153_27, ↓ra_153_28, ↓ra_153_31, ↓ra_153_36, ↓ra_153_37, ↓ra_153_40, ↓ra_153_41, xa_kli, xa_klr, xa_kll, xa_ki, xa_kl, xa_kr, xa_kii, xa_kk, xa_kir, xa_krr, xa_kiir, xa_krir, xa_kdup, xa_kdup2, xa_kcp, xa_gf, xa_pf, xa_ga, xa_pa, xa_gq, xa_pq, xa_gl, xa_args, xa_ri, xa_rz, xa_rv, xa_s1, xa_s2, xa_c1, eq_self, List.getElem?_cons_succ, List.getElem?_cons_zero, true_and, and_true, nI_add, pk_mul, xt_in, xt_cl, xt_i0, xt_i1, xa_kc, xa_w8, xa_fit, lg_sl, List.flatMap_cons, List.flatMap_nil, List.map_cons, List.map_nil, List.sum_cons, List.sum_nil, Value.category, List.length_cons, List.length_nil, List.length_append, xa_rc, xa_rf, exists_eq_left, exists_eq', Option.some.injEq, Sum.inr.injEq, Prod.mk.injEq, Option.toList_some, Option.toList_none, List.cons_append, List.nil_append, Nat.reduceAdd, Nat.reduceLeDiff, Nat.reduceLT, List.set_cons_zero, List.set_cons_succ, eq_self, or_true, true_or, reduceIte, xt_ne, xt_eq, Nat.reduceEqDiff, Nat.one_ne_zero, if_false, h0, h1, h2, h3, nI_l, ca, cb, cc, mx_92, m0, xa_iff cE1, mx_132]
  exact loop k 0 _ M1 (g 2) (yS A) (by simp [xa_s1, xa_c1, h0]) (by simp [xa_s1, xa_c1, h1]) (by simp [xa_s1, xa_c1, h2]) (by simp [xa_s1, xa_c1, h3]) (by simp [xa_s1, xa_c1]) (by omega) hn1.1 (by have := hA1; rw [← xb_ui (xb_u g 6 h6) 2] at this; exact this) iS (by omega)
def xq_on (x : Nat) : Nat → Nat
  | 0 => 0
  | k + 1 => xq_on x k * (10 - x) + (10 - x) ^ k * x
theorem xt_sur : ∀ d, d < 9 → ∀ x, x < 11 → ∀ tw, tw < 2 → (10 - x) ^ d + (if tw = 1 then xq_on x d else 0) = xq_ab d x tw ∧ xq_cd 64 (xq_ab d x tw) (10 ^ d) = Nat.gcd (xq_ab d x tw) (10 ^ d) ∧ xq_ab d x tw < 2147483648 ∧ 10 ^ d < 2147483648 := by decide +kernel
theorem pe_sure_n {M : xa_M} {c : Nat} {A : xt_A} (hh : xh_B M c A) (iA : xi_A A) {x y w v : Int32} (h : ¬ (xt_k x 0 (8 + 1) ∧ xt_k y 0 (10 + 1) ∧ xt_k w 0 (1 + 1) ∧ xt_k v 0 (1 + 1))) : xa_E 152 0 (xa_ent [.ref c, .int x, .int y, .int w, .int v]) [] M (some (.int (Int32.ofInt (-1))), M) := by
  obtain ⟨r, g, hB, hw⟩ := id hh
  have hA := xw_A hB hw
  obtain ⟨⟨r2, r3, r5, r6⟩, hV, hS, ⟨hx1, hx2⟩, ⟨hu1, hu2⟩, ⟨hk1, hk2⟩, ⟨hg1, hg2⟩⟩ := id hw
  obtain ⟨iT, i5, i60, i1, ⟨iS, iD⟩, iX, iU, iK, iG⟩ := id iA
  obtain ⟨⟨b1, b2, b3, b4, b5, b6, b7, b8⟩, bs, bm, bw⟩ := id iT
  have ix := iX.1
  have iu := iU.1
  have ik := iK.1
  have ig := iG.1
  obtain ⟨⟨v0, v1, v2, v3, v4, v5⟩, vs, vm, -, vw⟩ := id hV
  obtain ⟨m0, m1, m2, m3, m4, m5, m6, m7, m8, m9⟩ := id hB
  unfold xb_c at m0
  refine xa_go5 (fun lv h0 h1 h2 h3 h4 => ?_)
  by_cases a0 : xt_k x 0 (8 + 1)
  · by_cases a1 : xt_k y 0 (10 + 1)
    · by_cases a2 : xt_k w 0 (1 + 1)
      · have a3 : ¬ xt_k v 0 (1 + 1) := fun a => h ⟨a0, a1, a2, a⟩
        obtain ⟨k0, p0, l0, rfl⟩ := a0
        have c0 := xa_iff (pd_in_k (M := M) k0 0 8 (by omega) (by omega))
        obtain ⟨k1, p1, l1, rfl⟩ := a1
        have c1 := xa_iff (pd_in_k (M := M) k1 0 10 (by omega) (by omega))
        obtain ⟨k2, p2, l2, rfl⟩ := a2
        have c2 := xa_iff (pd_in_k (M := M) k2 0 1 (by omega) (by omega))
        have c3 := xa_iff (pd_in_x (M := M) 0 1 a3 (by omega) (by omega))
        simp (disch := omega) only [↓ra_152_0, ↓ra_152_1, ↓ra_152_2, ↓ra_152_3, ↓ra_152_6, ↓ra_152_9, ↓ra_152_12, ↓ra_152_13, ↓ra_152_14, ↓ra_152_15, ↓ra_152_18, ↓ra_152_21, ↓ra_152_24, ↓ra_152_25, ↓ra_152_26, ↓ra_152_27, ↓ra_152_28, ↓ra_152_31, ↓ra_152_34, ↓ra_152_36, ↓ra_152_37, ↓ra_152_38, ↓ra_152_39, ↓ra_152_42, ↓ra_152_45, ↓ra_152_46, xa_kli, xa_klr, xa_kll, xa_ki, xa_kl, xa_kr, xa_kii, xa_kk, xa_kir, xa_krr, xa_kiir, xa_krir, xa_kdup, xa_kdup2, xa_kcp, xa_gf, xa_pf, xa_ga, xa_pa, xa_gq, xa_pq, xa_gl, xa_args, xa_ri, xa_rz, xa_rv, xa_s1, xa_s2, xa_c1, eq_self, List.getElem?_cons_succ, List.getElem?_cons_zero, true_and, and_true, nI_add, pk_mul, xt_in, xt_cl, xt_i0, xt_i1, xa_kc, xa_w8, xa_fit, lg_sl, List.flatMap_cons, List.flatMap_nil, List.map_cons, List.map_nil, List.sum_cons, List.sum_nil, Value.category, List.length_cons, List.length_nil, List.length_append, xa_rc, xa_rf, exists_eq_left, exists_eq', Option.some.injEq, Sum.inr.injEq, Prod.mk.injEq, Option.toList_some, Option.toList_none, List.cons_append, List.nil_append, Nat.reduceAdd, Nat.reduceLeDiff, Nat.reduceLT, List.set_cons_zero, List.set_cons_succ, eq_self, or_true, true_or, reduceIte, xt_ne, xt_eq, Nat.reduceEqDiff, Nat.one_ne_zero, if_false, h0, h1, h2, h3, h4, c0, c1, c2, c3, mx_96, mx_97, mx_98, mx_92, m0, nI_l]
      · obtain ⟨k0, p0, l0, rfl⟩ := a0
        have c0 := xa_iff (pd_in_k (M := M) k0 0 8 (by omega) (by omega))
        obtain ⟨k1, p1, l1, rfl⟩ := a1
        have c1 := xa_iff (pd_in_k (M := M) k1 0 10 (by omega) (by omega))
        have c2 := xa_iff (pd_in_x (M := M) 0 1 a2 (by omega) (by omega))
        simp (disch := omega) only [↓ra_152_0, ↓ra_152_1, ↓ra_152_2, ↓ra_152_3, ↓ra_152_6, ↓ra_152_9, ↓ra_152_12, ↓ra_152_13, ↓ra_152_14, ↓ra_152_15, ↓ra_152_18, ↓ra_152_21, ↓ra_152_24, ↓ra_152_25, ↓ra_152_26, ↓ra_152_27, ↓ra_152_28, ↓ra_152_31, ↓ra_152_34, ↓ra_152_36, ↓ra_152_37, ↓ra_152_38, ↓ra_152_39, ↓ra_152_42, ↓ra_152_45, ↓ra_152_46, xa_kli, xa_klr, xa_kll, xa_ki, xa_kl, xa_kr, xa_kii, xa_kk, xa_kir, xa_krr, xa_kiir, xa_krir, xa_kdup, xa_kdup2, xa_kcp, xa_gf, xa_pf, xa_ga, xa_pa, xa_gq, xa_pq, xa_gl, xa_args, xa_ri, xa_rz, xa_rv, xa_s1, xa_s2, xa_c1, eq_self, List.getElem?_cons_succ, List.getElem?_cons_zero, true_and, and_true, nI_add, pk_mul, xt_in, xt_cl, xt_i0, xt_i1, xa_kc, xa_w8, xa_fit, lg_sl, List.flatMap_cons, List.flatMap_nil, List.map_cons, List.map_nil, List.sum_cons, List.sum_nil, Value.category, List.length_cons, List.length_nil, List.length_append, xa_rc, xa_rf, exists_eq_left, exists_eq', Option.some.injEq, Sum.inr.injEq, Prod.mk.injEq, Option.toList_some, Option.toList_none, List.cons_append, List.nil_append, Nat.reduceAdd, Nat.reduceLeDiff, Nat.reduceLT, List.set_cons_zero, List.set_cons_succ, eq_self, or_true, true_or, reduceIte, xt_ne, xt_eq, Nat.reduceEqDiff, Nat.one_ne_zero, if_false, h0, h1, h2, h3, h4, c0, c1, c2, mx_96, mx_97, mx_98, mx_92, m0, nI_l]
    · obtain ⟨k0, p0, l0, rfl⟩ := a0
      have c0 := xa_iff (pd_in_k (M := M) k0 0 8 (by omega) (by omega))
      have c1 := xa_iff (pd_in_x (M := M) 0 10 a1 (by omega) (by omega))
      simp (disch := omega) only [↓ra_152_0, ↓ra_152_1, ↓ra_152_2, ↓ra_152_3, ↓ra_152_6, ↓ra_152_9, ↓ra_152_12, ↓ra_152_13, ↓ra_152_14, ↓ra_152_15, ↓ra_152_18, ↓ra_152_21, ↓ra_152_24, ↓ra_152_25, ↓ra_152_26, ↓ra_152_27, ↓ra_152_28, ↓ra_152_31, ↓ra_152_34, ↓ra_152_36, ↓ra_152_37, ↓ra_152_38, ↓ra_152_39, ↓ra_152_42, ↓ra_152_45, ↓ra_152_46, xa_kli, xa_klr, xa_kll, xa_ki, xa_kl, xa_kr, xa_kii, xa_kk, xa_kir, xa_krr, xa_kiir, xa_krir, xa_kdup, xa_kdup2, xa_kcp, xa_gf, xa_pf, xa_ga, xa_pa, xa_gq, xa_pq, xa_gl, xa_args, xa_ri, xa_rz, xa_rv, xa_s1, xa_s2, xa_c1, eq_self, List.getElem?_cons_succ, List.getElem?_cons_zero, true_and, and_true, nI_add, pk_mul, xt_in, xt_cl, xt_i0, xt_i1, xa_kc, xa_w8, xa_fit, lg_sl, List.flatMap_cons, List.flatMap_nil, List.map_cons, List.map_nil, List.sum_cons, List.sum_nil, Value.category, List.length_cons, List.length_nil, List.length_append, xa_rc, xa_rf, exists_eq_left, exists_eq', Option.some.injEq, Sum.inr.injEq, Prod.mk.injEq, Option.toList_some, Option.toList_none, List.cons_append, List.nil_append, Nat.reduceAdd, Nat.reduceLeDiff, Nat.reduceLT, List.set_cons_zero, List.set_cons_succ, eq_self, or_true, true_or, reduceIte, xt_ne, xt_eq, Nat.reduceEqDiff, Nat.one_ne_zero, if_false, h0, h1, h2, h3, h4, c0, c1, mx_96, mx_97, mx_98, mx_92, m0, nI_l]
  · have c0 := xa_iff (pd_in_x (M := M) 0 8 a0 (by omega) (by omega))
    simp (disch := omega) only [↓ra_152_0, ↓ra_152_1, ↓ra_152_2, ↓ra_152_3, ↓ra_152_6, ↓ra_152_9, ↓ra_152_12, ↓ra_152_13, ↓ra_152_14, ↓ra_152_15, ↓ra_152_18, ↓ra_152_21, ↓ra_152_24, ↓ra_152_25, ↓ra_152_26, ↓ra_152_27, ↓ra_152_28, ↓ra_152_31, ↓ra_152_34, ↓ra_152_36, ↓ra_152_37, ↓ra_152_38, ↓ra_152_39, ↓ra_152_42, ↓ra_152_45, ↓ra_152_46, xa_kli, xa_klr, xa_kll, xa_ki, xa_kl, xa_kr, xa_kii, xa_kk, xa_kir, xa_krr, xa_kiir, xa_krir, xa_kdup, xa_kdup2, xa_kcp, xa_gf, xa_pf, xa_ga, xa_pa, xa_gq, xa_pq, xa_gl, xa_args, xa_ri, xa_rz, xa_rv, xa_s1, xa_s2, xa_c1, eq_self, List.getElem?_cons_succ, List.getElem?_cons_zero, true_and, and_true, nI_add, pk_mul, xt_in, xt_cl, xt_i0, xt_i1, xa_kc, xa_w8, xa_fit, lg_sl, List.flatMap_cons, List.flatMap_nil, List.map_cons, List.map_nil, List.sum_cons, List.sum_nil, Value.category, List.length_cons, List.length_nil, List.length_append, xa_rc, xa_rf, exists_eq_left, exists_eq', Option.some.injEq, Sum.inr.injEq, Prod.mk.injEq, Option.toList_some, Option.toList_none, List.cons_append, List.nil_append, Nat.reduceAdd, Nat.reduceLeDiff, Nat.reduceLT, List.set_cons_zero, List.set_cons_succ, eq_self, or_true, true_or, reduceIte, xt_ne, xt_eq, Nat.reduceEqDiff, Nat.one_ne_zero, if_false, h0, h1, h2, h3, h4, c0, mx_96, mx_97, mx_98, mx_92, m0, nI_l]
theorem pe_sure {M : xa_M} {c : Nat} {A : xt_A} (hh : xh_B M c A) (iA : xi_A A) (d x tw p : Nat) (hd : d ≤ 8) (hx : x ≤ 10) (ht : tw ≤ 1) (hp : p ≤ 1) : ∃ y0, xa_E 152 0 (xa_ent [.ref c, .int (nI d), .int (nI x), .int (nI tw), .int (nI p)]) [] M y0 ∧ xm2 c M (xs_sure d x tw p) A y0 := by
  obtain ⟨r, g, hB, hw⟩ := id hh
  have hA := xw_A hB hw
  obtain ⟨⟨r2, r3, r5, r6⟩, hV, hS, ⟨hx1, hx2⟩, ⟨hu1, hu2⟩, ⟨hk1, hk2⟩, ⟨hg1, hg2⟩⟩ := id hw
  obtain ⟨iT, i5, i60, i1, ⟨iS, iD⟩, iX, iU, iK, iG⟩ := id iA
  obtain ⟨⟨b1, b2, b3, b4, b5, b6, b7, b8⟩, bs, bm, bw⟩ := id iT
  have ix := iX.1
  have iu := iU.1
  have ik := iK.1
  have ig := iG.1
  obtain ⟨⟨v0, v1, v2, v3, v4, v5⟩, vs, vm, -, vw⟩ := id hV
  obtain ⟨m0, m1, m2, m3, m4, m5, m6, m7, m8, m9⟩ := id hB
  unfold xb_c at m0
  have ca := xa_iff (pd_in_k (M := M) d 0 8 (by omega) (by omega))
  have cb := xa_iff (pd_in_k (M := M) x 0 10 (by omega) (by omega))
  have cc := xa_iff (pd_in_k (M := M) tw 0 1 (by omega) (by omega))
  have ce := xa_iff (pd_in_k (M := M) p 0 1 (by omega) (by omega))
  obtain ⟨s1, s2, s3, s4⟩ := xt_sur d (by omega) x (by omega) tw (by omega)
  have gp : 0 < Nat.gcd (xq_ab d x tw) (10 ^ d) := Nat.gcd_pos_of_pos_right _ (Nat.pow_pos (by omega))
  have gl : Nat.gcd (xq_ab d x tw) (10 ^ d) ≤ 10 ^ d := Nat.gcd_le_right _ (Nat.pow_pos (by omega))
  refine xa_ge5 (fun lv h0 h1 h2 h3 h4 => ?_)
  have fin : ∀ lv : xa_L, lv 4 = some (.int (nI p)) → lv 5 = some (.int (nI (10 ^ d))) → lv 8 = some (.int (nI (xq_ab d x tw))) → lv 9 = some (.int (nI (Nat.gcd (xq_ab d x tw) (10 ^ d)))) → ∃ y0, xa_E 152 148 lv [] M y0 ∧ xm2 c M (xs_sure d x tw p) A y0 := by
    intro lv h4 h5 h8 h9
    unfold xs_sure
    rw [s2]
    generalize Nat.gcd (xq_ab d x tw) (10 ^ d) = G at *
    rw [if_neg (by omega)]
    simp (disch := omega) only [↓ra_152_148, ↓ra_152_150, xa_kli, xa_klr, xa_kll, xa_ki, xa_kl, xa_kr, xa_kii, xa_kk, xa_kir, xa_krr, xa_kiir, xa_krir, xa_kdup, xa_kdup2, xa_kcp, xa_gf, xa_pf, xa_ga, xa_pa, xa_gq, xa_pq, xa_gl, xa_args, xa_ri, xa_rz, xa_rv, xa_s1, xa_s2, xa_c1, eq_self, List.getElem?_cons_succ, List.getElem?_cons_zero, true_and, and_true, nI_add, pk_mul, xt_in, xt_cl, xt_i0, xt_i1, xa_kc, xa_w8, xa_fit, lg_sl, List.flatMap_cons, List.flatMap_nil, List.map_cons, List.map_nil, List.sum_cons, List.sum_nil, Value.category, List.length_cons, List.length_nil, List.length_append, xa_rc, xa_rf, exists_eq_left, exists_eq', Option.some.injEq, Sum.inr.injEq, Prod.mk.injEq, Option.toList_some, Option.toList_none, List.cons_append, List.nil_append, Nat.reduceAdd, Nat.reduceLeDiff, Nat.reduceLT, List.set_cons_zero, List.set_cons_succ, eq_self, or_true, true_or, reduceIte, xt_ne, h4, xt_eq]
    by_cases c2 : p = 0
    · simp only [if_pos c2]
      simp (disch := omega) only [↓ra_152_153, ↓ra_152_155, ↓ra_152_157, ↓ra_152_158, ↓ra_152_166, xa_kli, xa_klr, xa_kll, xa_ki, xa_kl, xa_kr, xa_kii, xa_kk, xa_kir, xa_krr, xa_kiir, xa_krir, xa_kdup, xa_kdup2, xa_kcp, xa_gf, xa_pf, xa_ga, xa_pa, xa_gq, xa_pq, xa_gl, xa_args, xa_ri, xa_rz, xa_rv, xa_s1, xa_s2, xa_c1, eq_self, List.getElem?_cons_succ, List.getElem?_cons_zero, true_and, and_true, nI_add, pk_mul, xt_in, xt_cl, xt_i0, xt_i1, xa_kc, xa_w8, xa_fit, lg_sl, List.flatMap_cons, List.flatMap_nil, List.map_cons, List.map_nil, List.sum_cons, List.sum_nil, Value.category, List.length_cons, List.length_nil, List.length_append, xa_rc, xa_rf, exists_eq_left, exists_eq', Option.some.injEq, Sum.inr.injEq, Prod.mk.injEq, Option.toList_some, Option.toList_none, List.cons_append, List.nil_append, Nat.reduceAdd, Nat.reduceLeDiff, Nat.reduceLT, List.set_cons_zero, List.set_cons_succ, eq_self, or_true, true_or, reduceIte, xt_ne, xt_n0, not_false_eq_true, xt_div, xt_remA, h5, h8, h9]
      exact xm2_r hh
    · simp only [if_neg c2]
      simp (disch := omega) only [↓ra_152_161, ↓ra_152_163, ↓ra_152_165, ↓ra_152_166, xa_kli, xa_klr, xa_kll, xa_ki, xa_kl, xa_kr, xa_kii, xa_kk, xa_kir, xa_krr, xa_kiir, xa_krir, xa_kdup, xa_kdup2, xa_kcp, xa_gf, xa_pf, xa_ga, xa_pa, xa_gq, xa_pq, xa_gl, xa_args, xa_ri, xa_rz, xa_rv, xa_s1, xa_s2, xa_c1, eq_self, List.getElem?_cons_succ, List.getElem?_cons_zero, true_and, and_true, nI_add, pk_mul, xt_in, xt_cl, xt_i0, xt_i1, xa_kc, xa_w8, xa_fit, lg_sl, List.flatMap_cons, List.flatMap_nil, List.map_cons, List.map_nil, List.sum_cons, List.sum_nil, Value.category, List.length_cons, List.length_nil, List.length_append, xa_rc, xa_rf, exists_eq_left, exists_eq', Option.some.injEq, Sum.inr.injEq, Prod.mk.injEq, Option.toList_some, Option.toList_none, List.cons_append, List.nil_append, Nat.reduceAdd, Nat.reduceLeDiff, Nat.reduceLT, List.set_cons_zero, List.set_cons_succ, eq_self, or_true, true_or, reduceIte, xt_ne, xt_n0, not_false_eq_true, xt_div, xt_remA, h5, h8, h9]
      exact xm2_r hh
  have gcd : ∀ (t b a : Nat) (lv : xa_L), b ≤ t → a < 2147483648 → b < 2147483648 → lv 4 = some (.int (nI p)) → lv 5 = some (.int (nI (10 ^ d))) → lv 8 = some (.int (nI (xq_ab d x tw))) → lv 9 = some (.int (nI a)) → lv 10 = some (.int (nI b)) → Nat.gcd a b = Nat.gcd (xq_ab d x tw) (10 ^ d) → ∃ y0, xa_E 152 125 lv [] M y0 ∧ xm2 c M (xs_sure d x tw p) A y0 := by
    intro t
    induction t with
    | zero =>
      intro b a lv hb ha hb2 h4 h5 h8 h9 h10 eg
      have e : b = 0 := by omega
      subst e
      simp (disch := omega) only [↓ra_152_125, ↓ra_152_127, xa_kli, xa_klr, xa_kll, xa_ki, xa_kl, xa_kr, xa_kii, xa_kk, xa_kir, xa_krr, xa_kiir, xa_krir, xa_kdup, xa_kdup2, xa_kcp, xa_gf, xa_pf, xa_ga, xa_pa, xa_gq, xa_pq, xa_gl, xa_args, xa_ri, xa_rz, xa_rv, xa_s1, xa_s2, xa_c1, eq_self, List.getElem?_cons_succ, List.getElem?_cons_zero, true_and, and_true, nI_add, pk_mul, xt_in, xt_cl, xt_i0, xt_i1, xa_kc, xa_w8, xa_fit, lg_sl, List.flatMap_cons, List.flatMap_nil, List.map_cons, List.map_nil, List.sum_cons, List.sum_nil, Value.category, List.length_cons, List.length_nil, List.length_append, xa_rc, xa_rf, exists_eq_left, exists_eq', Option.some.injEq, Sum.inr.injEq, Prod.mk.injEq, Option.toList_some, Option.toList_none, List.cons_append, List.nil_append, Nat.reduceAdd, Nat.reduceLeDiff, Nat.reduceLT, List.set_cons_zero, List.set_cons_succ, eq_self, or_true, true_or, reduceIte, xt_ne, h10]
      rw [Nat.gcd_zero_right] at eg
      rw [eg] at h9
      exact fin lv h4 h5 h8 h9
    | succ t ih =>
      intro b a lv hb ha hb2 h4 h5 h8 h9 h10 eg
      simp (disch := omega) only [↓ra_152_125, ↓ra_152_127, xa_kli, xa_klr, xa_kll, xa_ki, xa_kl, xa_kr, xa_kii, xa_kk, xa_kir, xa_krr, xa_kiir, xa_krir, xa_kdup, xa_kdup2, xa_kcp, xa_gf, xa_pf, xa_ga, xa_pa, xa_gq, xa_pq, xa_gl, xa_args, xa_ri, xa_rz, xa_rv, xa_s1, xa_s2, xa_c1, eq_self, List.getElem?_cons_succ, List.getElem?_cons_zero, true_and, and_true, nI_add, pk_mul, xt_in, xt_cl, xt_i0, xt_i1, xa_kc, xa_w8, xa_fit, lg_sl, List.flatMap_cons, List.flatMap_nil, List.map_cons, List.map_nil, List.sum_cons, List.sum_nil, Value.category, List.length_cons, List.length_nil, List.length_append, xa_rc, xa_rf, exists_eq_left, exists_eq', Option.some.injEq, Sum.inr.injEq, Prod.mk.injEq, Option.toList_some, Option.toList_none, List.cons_append, List.nil_append, Nat.reduceAdd, Nat.reduceLeDiff, Nat.reduceLT, List.set_cons_zero, List.set_cons_succ, eq_self, or_true, true_or, reduceIte, xt_ne, h10, xt_eq]
      by_cases c0 : b = 0
      · simp only [if_pos c0]
        rw [c0, Nat.gcd_zero_right] at eg
        rw [eg] at h9
        exact fin lv h4 h5 h8 h9
      · simp only [if_neg c0]
        have hm := Nat.mod_lt a (show 0 < b by omega)
        simp (disch := omega) only [↓ra_152_130, ↓ra_152_132, ↓ra_152_134, ↓ra_152_135, ↓ra_152_137, ↓ra_152_139, ↓ra_152_141, ↓ra_152_143, ↓ra_152_145, xa_kli, xa_klr, xa_kll, xa_ki, xa_kl, xa_kr, xa_kii, xa_kk, xa_kir, xa_krr, xa_kiir, xa_krir, xa_kdup, xa_kdup2, xa_kcp, xa_gf, xa_pf, xa_ga, xa_pa, xa_gq, xa_pq, xa_gl, xa_args, xa_ri, xa_rz, xa_rv, xa_s1, xa_s2, xa_c1, eq_self, List.getElem?_cons_succ, List.getElem?_cons_zero, true_and, and_true, nI_add, pk_mul, xt_in, xt_cl, xt_i0, xt_i1, xa_kc, xa_w8, xa_fit, lg_sl, List.flatMap_cons, List.flatMap_nil, List.map_cons, List.map_nil, List.sum_cons, List.sum_nil, Value.category, List.length_cons, List.length_nil, List.length_append, xa_rc, xa_rf, exists_eq_left, exists_eq', Option.some.injEq, Sum.inr.injEq, Prod.mk.injEq, Option.toList_some, Option.toList_none, List.cons_append, List.nil_append, Nat.reduceAdd, Nat.reduceLeDiff, Nat.reduceLT, List.set_cons_zero, List.set_cons_succ, eq_self, or_true, true_or, reduceIte, xt_ne, xt_n0, not_false_eq_true, xt_div, xt_remA, h9, h10]
        exact ih (a % b) b _ (by omega) hb2 (by omega) (by simp [xa_s1, xa_c1, h4]) (by simp [xa_s1, xa_c1, h5]) (by simp [xa_s1, xa_c1, h8]) (by simp [xa_s1, xa_c1]) (by simp [xa_s1, xa_c1]) (by rw [← eg, Nat.gcd_comm a b, Nat.gcd_rec b a, Nat.gcd_comm])
  have loop : ∀ (t i : Nat) (lv : xa_L), lv 1 = some (.int (nI d)) → lv 2 = some (.int (nI x)) → lv 3 = some (.int (nI tw)) → lv 4 = some (.int (nI p)) → lv 5 = some (.int (nI (10 ^ i))) → lv 6 = some (.int (nI ((10 - x) ^ i))) → lv 7 = some (.int (nI (xq_on x i))) → lv 8 = some (.int (nI i)) → i + t = d → ∃ y0, xa_E 152 59 lv [] M y0 ∧ xm2 c M (xs_sure d x tw p) A y0 := by
    intro t
    induction t with
    | zero =>
      intro i lv h1 h2 h3 h4 h5 h6 h7 h8 e
      have e : i = d := by omega
      subst e
      simp (disch := omega) only [↓ra_152_59, ↓ra_152_61, ↓ra_152_62, ↓ra_152_101, ↓ra_152_103, ↓ra_152_104, ↓ra_152_105, xa_kli, xa_klr, xa_kll, xa_ki, xa_kl, xa_kr, xa_kii, xa_kk, xa_kir, xa_krr, xa_kiir, xa_krir, xa_kdup, xa_kdup2, xa_kcp, xa_gf, xa_pf, xa_ga, xa_pa, xa_gq, xa_pq, xa_gl, xa_args, xa_ri, xa_rz, xa_rv, xa_s1, xa_s2, xa_c1, eq_self, List.getElem?_cons_succ, List.getElem?_cons_zero, true_and, and_true, nI_add, pk_mul, xt_in, xt_cl, xt_i0, xt_i1, xa_kc, xa_w8, xa_fit, lg_sl, List.flatMap_cons, List.flatMap_nil, List.map_cons, List.map_nil, List.sum_cons, List.sum_nil, Value.category, List.length_cons, List.length_nil, List.length_append, xa_rc, xa_rf, exists_eq_left, exists_eq', Option.some.injEq, Sum.inr.injEq, Prod.mk.injEq, Option.toList_some, Option.toList_none, List.cons_append, List.nil_append, Nat.reduceAdd, Nat.reduceLeDiff, Nat.reduceLT, List.set_cons_zero, List.set_cons_succ, eq_self, or_true, true_or, reduceIte, xt_ne, h1, h2, h3, h4, h5, h6, h7, h8, xt_le, Nat.le_refl, xt_eq]
      by_cases c1 : tw = 1
      · simp only [if_pos c1]
        simp (disch := omega) only [↓ra_152_108, ↓ra_152_110, ↓ra_152_114, ↓ra_152_115, ↓ra_152_117, ↓ra_152_119, ↓ra_152_121, ↓ra_152_123, xa_kli, xa_klr, xa_kll, xa_ki, xa_kl, xa_kr, xa_kii, xa_kk, xa_kir, xa_krr, xa_kiir, xa_krir, xa_kdup, xa_kdup2, xa_kcp, xa_gf, xa_pf, xa_ga, xa_pa, xa_gq, xa_pq, xa_gl, xa_args, xa_ri, xa_rz, xa_rv, xa_s1, xa_s2, xa_c1, eq_self, List.getElem?_cons_succ, List.getElem?_cons_zero, true_and, and_true, nI_add, pk_mul, xt_in, xt_cl, xt_i0, xt_i1, xa_kc, xa_w8, xa_fit, lg_sl, List.flatMap_cons, List.flatMap_nil, List.map_cons, List.map_nil, List.sum_cons, List.sum_nil, Value.category, List.length_cons, List.length_nil, List.length_append, xa_rc, xa_rf, exists_eq_left, exists_eq', Option.some.injEq, Sum.inr.injEq, Prod.mk.injEq, Option.toList_some, Option.toList_none, List.cons_append, List.nil_append, Nat.reduceAdd, Nat.reduceLeDiff, Nat.reduceLT, List.set_cons_zero, List.set_cons_succ, eq_self, or_true, true_or, reduceIte, xt_ne, h5, h7]
        rw [if_pos c1] at s1
        rw [s1]
        exact gcd (10 ^ i) (10 ^ i) (xq_ab i x tw) _ (Nat.le_refl _) s3 s4 (by simp [xa_s1, xa_c1, h4]) (by simp [xa_s1, xa_c1, h5]) (by simp [xa_s1, xa_c1]) (by simp [xa_s1, xa_c1]) (by simp [xa_s1, xa_c1]) rfl
      · simp only [if_neg c1]
        simp (disch := omega) only [↓ra_152_113, ↓ra_152_114, ↓ra_152_115, ↓ra_152_117, ↓ra_152_119, ↓ra_152_121, ↓ra_152_123, xa_kli, xa_klr, xa_kll, xa_ki, xa_kl, xa_kr, xa_kii, xa_kk, xa_kir, xa_krr, xa_kiir, xa_krir, xa_kdup, xa_kdup2, xa_kcp, xa_gf, xa_pf, xa_ga, xa_pa, xa_gq, xa_pq, xa_gl, xa_args, xa_ri, xa_rz, xa_rv, xa_s1, xa_s2, xa_c1, eq_self, List.getElem?_cons_succ, List.getElem?_cons_zero, true_and, and_true, nI_add, pk_mul, xt_in, xt_cl, xt_i0, xt_i1, xa_kc, xa_w8, xa_fit, lg_sl, List.flatMap_cons, List.flatMap_nil, List.map_cons, List.map_nil, List.sum_cons, List.sum_nil, Value.category, List.length_cons, List.length_nil, List.length_append, xa_rc, xa_rf, exists_eq_left, exists_eq', Option.some.injEq, Sum.inr.injEq, Prod.mk.injEq, Option.toList_some, Option.toList_none, List.cons_append, List.nil_append, Nat.reduceAdd, Nat.reduceLeDiff, Nat.reduceLT, List.set_cons_zero, List.set_cons_succ, eq_self, or_true, true_or, reduceIte, xt_ne, h5, h7]
        rw [if_neg c1] at s1
        rw [s1]
        exact gcd (10 ^ i) (10 ^ i) (xq_ab i x tw) _ (Nat.le_refl _) s3 s4 (by simp [xa_s1, xa_c1, h4]) (by simp [xa_s1, xa_c1, h5]) (by simp [xa_s1, xa_c1]) (by simp [xa_s1, xa_c1]) (by simp [xa_s1, xa_c1]) rfl
    | succ t ih =>
      intro i lv h1 h2 h3 h4 h5 h6 h7 h8 e
      simp (disch := omega) only [↓ra_152_59, ↓ra_152_61, ↓ra_152_62, xa_kli, xa_klr, xa_kll, xa_ki, xa_kl, xa_kr, xa_kii, xa_kk, xa_kir, xa_krr, xa_kiir, xa_krir, xa_kdup, xa_kdup2, xa_kcp, xa_gf, xa_pf, xa_ga, xa_pa, xa_gq, xa_pq, xa_gl, xa_args, xa_ri, xa_rz, xa_rv, xa_s1, xa_s2, xa_c1, eq_self, List.getElem?_cons_succ, List.getElem?_cons_zero, true_and, and_true, nI_add, pk_mul, xt_in, xt_cl, xt_i0, xt_i1, xa_kc, xa_w8, xa_fit, lg_sl, List.flatMap_cons, List.flatMap_nil, List.map_cons, List.map_nil, List.sum_cons, List.sum_nil, Value.category, List.length_cons, List.length_nil, List.length_append, xa_rc, xa_rf, exists_eq_left, exists_eq', Option.some.injEq, Sum.inr.injEq, Prod.mk.injEq, Option.toList_some, Option.toList_none, List.cons_append, List.nil_append, Nat.reduceAdd, Nat.reduceLeDiff, Nat.reduceLT, List.set_cons_zero, List.set_cons_succ, eq_self, or_true, true_or, reduceIte, xt_ne, h1, h2, h3, h4, h5, h6, h7, h8, xt_le]
      simp only [if_neg (show ¬ d ≤ i by omega)]
      simp (disch := omega) only [↓ra_152_65, ↓ra_152_67, ↓ra_152_69, ↓ra_152_70, ↓ra_152_72, ↓ra_152_74, ↓ra_152_76, ↓ra_152_77, ↓ra_152_78, ↓ra_152_79, ↓ra_152_81, ↓ra_152_82, ↓ra_152_83, ↓ra_152_84, ↓ra_152_86, ↓ra_152_88, ↓ra_152_90, ↓ra_152_91, ↓ra_152_92, ↓ra_152_93, ↓ra_152_95, ↓ra_152_98, xa_kli, xa_klr, xa_kll, xa_ki, xa_kl, xa_kr, xa_kii, xa_kk, xa_kir, xa_krr, xa_kiir, xa_krir, xa_kdup, xa_kdup2, xa_kcp, xa_gf, xa_pf, xa_ga, xa_pa, xa_gq, xa_pq, xa_gl, xa_args, xa_ri, xa_rz, xa_rv, xa_s1, xa_s2, xa_c1, eq_self, List.getElem?_cons_succ, List.getElem?_cons_zero, true_and, and_true, nI_add, pk_mul, xt_in, xt_cl, xt_i0, xt_i1, xa_kc, xa_w8, xa_fit, lg_sl, List.flatMap_cons, List.flatMap_nil, List.map_cons, List.map_nil, List.sum_cons, List.sum_nil, Value.category, List.length_cons, List.length_nil, List.length_append, xa_rc, xa_rf, exists_eq_left, exists_eq', Option.some.injEq, Sum.inr.injEq, Prod.mk.injEq, Option.toList_some, Option.toList_none, List.cons_append, List.nil_append, Nat.reduceAdd, Nat.reduceLeDiff, Nat.reduceLT, List.set_cons_zero, List.set_cons_succ, eq_self, or_true, true_or, reduceIte, xt_ne, h1, h2, h3, h4, h5, h6, h7, h8, xt_sub]
      exact ih (i + 1) _ (by simp [xa_s1, xa_c1, h1]) (by simp [xa_s1, xa_c1, h2]) (by simp [xa_s1, xa_c1, h3]) (by simp [xa_s1, xa_c1, h4]) (by simp [xa_s1, xa_c1, Nat.pow_succ]) (by simp [xa_s1, xa_c1, Nat.pow_succ]) (by simp [xa_s1, xa_c1, xq_on]) (by simp [xa_s1, xa_c1]) (by omega)
  simp (disch := omega) only [↓ra_152_0, ↓ra_152_1, ↓ra_152_2, ↓ra_152_3, ↓ra_152_6, ↓ra_152_9, ↓ra_152_12, ↓ra_152_13, ↓ra_152_14, ↓ra_152_15, ↓ra_152_18, ↓ra_152_21, ↓ra_152_24, ↓ra_152_25, ↓ra_152_26, ↓ra_152_27, ↓ra_152_28, ↓ra_152_31, ↓ra_152_34, ↓ra_152_36, ↓ra_152_37, ↓ra_152_38, ↓ra_152_39, ↓ra_152_42, ↓ra_152_47, ↓ra_152_48, ↓ra_152_50, ↓ra_152_51, ↓ra_152_53, ↓ra_152_54, ↓ra_152_56, ↓ra_152_57, xa_kli, xa_klr, xa_kll, xa_ki, xa_kl, xa_kr, xa_kii, xa_kk, xa_kir, xa_krr, xa_kiir, xa_krir, xa_kdup, xa_kdup2, xa_kcp, xa_gf, xa_pf, xa_ga, xa_pa, xa_gq, xa_pq, xa_gl, xa_args, xa_ri, xa_rz, xa_rv, xa_s1, xa_s2, xa_c1, eq_self, List.getElem?_cons_succ, List.getElem?_cons_zero, true_and, and_true, nI_add, pk_mul, xt_in, xt_cl, xt_i0, xt_i1, xa_kc, xa_w8, xa_fit, lg_sl, List.flatMap_cons, List.flatMap_nil, List.map_cons, List.map_nil, List.sum_cons, List.sum_nil, Value.category, List.length_cons, List.length_nil, List.length_append, xa_rc, xa_rf, exists_eq_left, exists_eq', Option.some.injEq, Sum.inr.injEq, Prod.mk.injEq, Option.toList_some, Option.toList_none, List.cons_append, List.nil_append, Nat.reduceAdd, Nat.reduceLeDiff, Nat.reduceLT, List.set_cons_zero, List.set_cons_succ, eq_self, or_true, true_or, reduceIte, xt_ne, xt_eq, Nat.reduceEqDiff, Nat.one_ne_zero, if_false, h0, h1, h2, h3, h4, nI_l, ca, cb, cc, ce, mx_92]
  exact loop d 0 _ (by simp [xa_s1, xa_c1, h1]) (by simp [xa_s1, xa_c1, h2]) (by simp [xa_s1, xa_c1, h3]) (by simp [xa_s1, xa_c1, h4]) (by simp [xa_s1, xa_c1]) (by simp [xa_s1, xa_c1]) (by simp [xa_s1, xa_c1, xq_on]) (by simp [xa_s1, xa_c1]) (by omega)
