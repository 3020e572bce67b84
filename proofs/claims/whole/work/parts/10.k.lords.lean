/-- another lord -/
theorem xv_lo {r r2 t : Nat → Int32} {T : xt_T} {s l : Nat} (hv : xv_T r t T (xnM T)) (h6 : xnS T ≤ 6) (hs : s < xnS T) (h3 : r 3 = Int32.ofInt (-4)) (e2 : r2 2 = r 2) (e3 : r2 3 = nI s) (e4 : r2 4 = nI l) (e5 : r2 5 = r 5) (e6 : r2 6 = r 6) : xv_T r2 t (xq_lo T s l) (xnM T) := by
  obtain ⟨⟨v0, v1, v2, v3, v4, v5⟩, vs, vm, ⟨vn, ve⟩, vw⟩ := hv
  refine ⟨⟨by rw [e2]; exact v0, v1, v2, v3, v4, v5⟩, fun j hj => ?_, vm, ⟨vn, by rw [e5, e6]; exact ve⟩, vw⟩
  have hj : j < xnS T := hj
  obtain ⟨p1, p2, p3⟩ := vs j hj
  rw [h3, if_neg (of_eq_false (xt_m4n j (by omega)))] at p2
  refine ⟨p1, ?_, p3⟩
  rw [e3, e4]
  show _ = nI (if j = s then l else xtl T j)
  by_cases e : j = s
  · rw [if_pos e, if_pos (by rw [e])]
  · rw [if_neg e, if_neg (fun h => e (of_eq_true ((xt_eq j s (by omega) (by omega)).symm.trans (eq_true h))))]
    exact p2
theorem pe_lords_n {M : xa_M} {c : Nat} {A : xt_A} (hh : xh_B M c A) (iA : xi_A A) {x : Int32} (h : ¬ (xt_k x 0 (xnS (yT A)))) : xa_E 149 0 (xa_ent [.ref c, .int x]) [] M (some (.int (Int32.ofInt (-1))), M) := by
  obtain ⟨r, g, hB, hw⟩ := id hh
  have hA := xw_A hB hw
  obtain ⟨⟨r2, r3, r5, r6⟩, hV, hS, ⟨hx1, hx2⟩, ⟨hu1, hu2⟩, ⟨hk1, hk2⟩, ⟨hg1, hg2⟩⟩ := id hw
  obtain ⟨iT, i5, i60, i1, ⟨iS, iD⟩, iX, iU, iK, iG⟩ := id iA
  obtain ⟨⟨b1, b2, b3, b4, b5, b6, b7, b8⟩, bs, bm, bw⟩ := id iT
  have ix := iX.1
  have iu := iU.1
  have ik := iK.1
  have ig := iG.1
  obtain ⟨⟨v0, v1, v2, v3, v4, v5⟩, vs, vm, -, vw⟩ := id hV
  obtain ⟨m0, m1, m2, m3, m4, m5, m6, m7, m8, m9⟩ := id hB
  unfold xb_c at m0
  refine xa_go2 (fun lv h0 h1 => ?_)
  have a0 : ¬ xt_k x 0 (xnS (yT A)) := h
  have c0 := xa_iff (pd_isSerf_n hB hV a0 b6)
  simp (disch := omega) only [↓ra_149_0, ↓ra_149_1, ↓ra_149_2, ↓ra_149_5, ↓ra_149_8, ↓ra_149_9, xa_kli, xa_klr, xa_kll, xa_ki, xa_kl, xa_kr, xa_kii, xa_kk, xa_kir, xa_krr, xa_kiir, xa_krir, xa_kdup, xa_kdup2, xa_kcp, xa_gf, xa_pf, xa_ga, xa_pa, xa_gq, xa_pq, xa_gl, xa_args, xa_ri, xa_rz, xa_rv, xa_s1, xa_s2, xa_c1, eq_self, List.getElem?_cons_succ, List.getElem?_cons_zero, true_and, and_true, nI_add, pk_mul, xt_in, xt_cl, xt_i0, xt_i1, xa_kc, xa_w8, xa_fit, lg_sl, List.flatMap_cons, List.flatMap_nil, List.map_cons, List.map_nil, List.sum_cons, List.sum_nil, Value.category, List.length_cons, List.length_nil, List.length_append, xa_rc, xa_rf, exists_eq_left, exists_eq', Option.some.injEq, Sum.inr.injEq, Prod.mk.injEq, Option.toList_some, Option.toList_none, List.cons_append, List.nil_append, Nat.reduceAdd, Nat.reduceLeDiff, Nat.reduceLT, List.set_cons_zero, List.set_cons_succ, eq_self, or_true, true_or, reduceIte, xt_ne, xt_eq, Nat.reduceEqDiff, Nat.one_ne_zero, if_false, h0, h1, c0, mx_96, mx_97, mx_98, mx_92, m0, nI_l]
theorem pe_lords {M : xa_M} {c : Nat} {A : xt_A} (hh : xh_B M c A) (iA : xi_A A) (s : Nat) (hs : s < xnS (yT A)) : ∃ y0, xa_E 149 0 (xa_ent [.ref c, .int (nI s)]) [] M y0 ∧ xm2 c M (xs_lords A s) A y0 := by
  obtain ⟨r, g, hB, hw⟩ := id hh
  have hA := xw_A hB hw
  obtain ⟨⟨ra2, ra3, ra5, ra6⟩, hV, hS, ⟨hx1, hx2⟩, ⟨hu1, hu2⟩, ⟨hk1, hk2⟩, ⟨hg1, hg2⟩⟩ := id hw
  obtain ⟨iT, i5, i60, i1, ⟨iS, iD⟩, iX, iU, iK, iG⟩ := id iA
  obtain ⟨⟨b1, b2, b3, b4, b5, b6, b7, b8⟩, bs, bm, bw⟩ := id iT
  have ix := iX.1
  have iu := iU.1
  have ik := iK.1
  have ig := iG.1
  obtain ⟨⟨v0, v1, v2, v3, v4, v5⟩, vs, vm, -, vw⟩ := id hV
  obtain ⟨m0, m1, m2, m3, m4, m5, m6, m7, m8, m9⟩ := id hB
  unfold xb_c at m0
  have cn := xa_iff (pd_isSerf_y hB hV s hs b6)
  have igb : ∀ i, i < (yG A).1 → (yG A).2.1 i < 2147483648 ∧ (yG A).2.2.1 i < 2147483648 ∧ (yG A).2.2.2 i < 2147483648 := fun i hi => by have := iG.2 i hi; omega
  obtain ⟨⟨z1, M1⟩, cE1, c1, h6, hn1, e6⟩ := pd_asides hB
  have c1 : z1 = none := c1
  subst c1
  dsimp only at hn1
  have z0 := xz_0 e6
  have hA1 : xv_A M1 c r (xb_u g 6 h6) (yT A) (xnM (yT A)) (yS A) := ⟨hn1.2, hV, hS, fun h => by omega⟩
  obtain ⟨n0, n1, n2, -⟩ := id hn1.2
  unfold xb_c at n0
  refine xa_ge2 (fun lv h0 h1 => ?_)
  have loop : ∀ (k l : Nat) (lv : xa_L) (M2 : xa_M) (r2 : Nat → Int32) (h : Nat → Int32), lv 0 = some (.ref c) → lv 1 = some (.int (nI s)) → lv 2 = some (.int (nI (xt_bs (xq_isl A s) l))) → lv 3 = some (.int (nI l)) → l + k = 3 → xn c M r2 (xb_u (xb_u g 6 h6) 2 h) M2 → r2 3 = nI s → (∀ j, j ≠ 3 → j ≠ 4 → r2 j = r j) → ∃ y0, xa_E 149 23 lv [] M2 y0 ∧ xm2 c M (xs_lords A s) A y0 := by
    intro k
    induction k with
    | zero =>
      intro l lv M2 r2 h h0 h1 h2 h3 e hn e3 er
      have e : l = 3 := by omega
      subst e
      obtain ⟨k0, -⟩ := id hn.2
      unfold xb_c at k0
      have hn3 := xn_f (r2 := upd r2 3 (Int32.ofInt (-4))) hn
      obtain ⟨⟨z3, M3⟩, cE3, c3, h3', hn4, e4⟩ := pd_backs hn3.2
      have c3 : z3 = none := c3
      subst c3
      dsimp only at hn4
      have zf := xz_b z0 e4
      have cE3' : xa_E 133 0 (xa_ent [.ref c]) [] (xa_st M2 c (.inr (7, [.ref (c + 1), .ref (c + 2), .int (r2 2), .int (Int32.ofInt (-4)), .int (r2 4), .int (r2 5), .int (r2 6), .ref (c + 3), .int (r2 8), .int (r2 9), .ref (c + 4), .int (r2 11), .int (r2 12), .ref (c + 5), .int (r2 14), .ref (c + 6), .ref (c + 7), .ref (c + 8), .int (r2 18), .ref (c + 9), .int (r2 20)]))) (none, M3) := cE3
      simp (disch := omega) only [↓ra_149_23, ↓ra_149_24, ↓ra_149_25, ↓ra_149_57, ↓ra_149_58, ↓ra_149_60, ↓ra_149_63, ↓ra_149_64, ↓ra_149_67, ↓ra_149_68, xa_kli, xa_klr, xa_kll, xa_ki, xa_kl, xa_kr, xa_kii, xa_kk, xa_kir, xa_krr, xa_kiir, xa_krir, xa_kdup, xa_kdup2, xa_kcp, xa_gf, xa_pf, xa_ga, xa_pa, xa_gq, xa_pq, xa_gl, xa_args, xa_ri, xa_rz, xa_rv, xa_s1, xa_s2, xa_c1, eq_self, List.getElem?_cons_succ, List.getElem?_cons_zero, true_and, and_true, nI_add, pk_mul, xt_in, xt_cl, xt_i0, xt_i1, xa_kc, xa_w8, xa_fit, lg_sl, List.flatMap_cons, List.flatMap_nil, List.map_cons, List.map_nil, List.sum_cons, List.sum_nil, Value.category, List.length_cons, List.length_nil, List.length_append, xa_rc, xa_rf, exists_eq_left, exists_eq', Option.some.injEq, Sum.inr.injEq, Prod.mk.injEq, Option.toList_some, Option.toList_none, List.cons_append, List.nil_append, Nat.reduceAdd, Nat.reduceLeDiff, Nat.reduceLT, List.set_cons_zero, List.set_cons_succ, eq_self, or_true, true_or, reduceIte, xt_ne, h0, h1, h2, h3, k0, xt_st, xa_iff cE3', mx_133, xt_le, Nat.le_refl]
      exact xm2_n (xn_t hn3 hn4) (xz_w hw iA zf (er 2 (by omega) (by omega)) ra3.symm (er 5 (by omega) (by omega)) (er 6 (by omega) (by omega)) (er 8 (by omega) (by omega)) (er 14 (by omega) (by omega)) (er 18 (by omega) (by omega)) (er 20 (by omega) (by omega)))
    | succ k ih =>
      intro l lv M2 r2 h h0 h1 h2 h3 e hn e3 er
      obtain ⟨k0, -⟩ := id hn.2
      unfold xb_c at k0
      have hn3 := xn_f (r2 := upd r2 4 (nI l)) hn
      have iT1 := xi_lo (s := s) (l := l) iT (by omega)
      obtain ⟨⟨z4, M4⟩, cE4, c4, h4', hn4⟩ := pd_isSo hn3.2 (T := xq_lo (yT A) s l) (n := xnM (yT A)) (xv_lo hV b6 hs ra3 (er 2 (by omega) (by omega)) e3 rfl (er 5 (by omega) (by omega)) (er 6 (by omega) (by omega))) rfl iT1 ((er 18 (by omega) (by omega)).trans hg1) ig hg2 igb s hs
      have c4 : z4 = _ := c4
      subst c4
      dsimp only at hn4
      rw [xb_u2] at hn4
      have cE4' : xa_E 148 0 (xa_ent [.ref c, .int (nI s)]) [] (xa_st M2 c (.inr (7, [.ref (c + 1), .ref (c + 2), .int (r2 2), .int (r2 3), .int (nI l), .int (r2 5), .int (r2 6), .ref (c + 3), .int (r2 8), .int (r2 9), .ref (c + 4), .int (r2 11), .int (r2 12), .ref (c + 5), .int (r2 14), .ref (c + 6), .ref (c + 7), .ref (c + 8), .int (r2 18), .ref (c + 9), .int (r2 20)]))) (some (.int (nI (if xq_isl A s l = true then 1 else 0))), M4) := cE4
      have hnf := xn_t hn3 hn4
      have erf : ∀ j, j ≠ 3 → j ≠ 4 → upd r2 4 (nI l) j = r j := fun j a b => by rw [xt_us, if_neg b]; exact er j a b
      have e3f : upd r2 4 (nI l) 3 = nI s := by rw [xt_us, if_neg (by omega)]; exact e3
      simp (disch := omega) only [↓ra_149_23, ↓ra_149_24, ↓ra_149_25, xa_kli, xa_klr, xa_kll, xa_ki, xa_kl, xa_kr, xa_kii, xa_kk, xa_kir, xa_krr, xa_kiir, xa_krir, xa_kdup, xa_kdup2, xa_kcp, xa_gf, xa_pf, xa_ga, xa_pa, xa_gq, xa_pq, xa_gl, xa_args, xa_ri, xa_rz, xa_rv, xa_s1, xa_s2, xa_c1, eq_self, List.getElem?_cons_succ, List.getElem?_cons_zero, true_and, and_true, nI_add, pk_mul, xt_in, xt_cl, xt_i0, xt_i1, xa_kc, xa_w8, xa_fit, lg_sl, List.flatMap_cons, List.flatMap_nil, List.map_cons, List.map_nil, List.sum_cons, List.sum_nil, Value.category, List.length_cons, List.length_nil, List.length_append, xa_rc, xa_rf, exists_eq_left, exists_eq', Option.some.injEq, Sum.inr.injEq, Prod.mk.injEq, Option.toList_some, Option.toList_none, List.cons_append, List.nil_append, Nat.reduceAdd, Nat.reduceLeDiff, Nat.reduceLT, List.set_cons_zero, List.set_cons_succ, eq_self, or_true, true_or, reduceIte, xt_ne, h0, h1, h2, h3, xt_le]
      simp only [if_neg (show ¬ 3 ≤ l by omega)]
      simp (disch := omega) only [↓ra_149_28, ↓ra_149_29, ↓ra_149_30, ↓ra_149_33, ↓ra_149_34, ↓ra_149_35, ↓ra_149_36, ↓ra_149_39, xa_kli, xa_klr, xa_kll, xa_ki, xa_kl, xa_kr, xa_kii, xa_kk, xa_kir, xa_krr, xa_kiir, xa_krir, xa_kdup, xa_kdup2, xa_kcp, xa_gf, xa_pf, xa_ga, xa_pa, xa_gq, xa_pq, xa_gl, xa_args, xa_ri, xa_rz, xa_rv, xa_s1, xa_s2, xa_c1, eq_self, List.getElem?_cons_succ, List.getElem?_cons_zero, true_and, and_true, nI_add, pk_mul, xt_in, xt_cl, xt_i0, xt_i1, xa_kc, xa_w8, xa_fit, lg_sl, List.flatMap_cons, List.flatMap_nil, List.map_cons, List.map_nil, List.sum_cons, List.sum_nil, Value.category, List.length_cons, List.length_nil, List.length_append, xa_rc, xa_rf, exists_eq_left, exists_eq', Option.some.injEq, Sum.inr.injEq, Prod.mk.injEq, Option.toList_some, Option.toList_none, List.cons_append, List.nil_append, Nat.reduceAdd, Nat.reduceLeDiff, Nat.reduceLT, List.set_cons_zero, List.set_cons_succ, eq_self, or_true, true_or, reduceIte, xt_ne, h0, h1, h2, h3, k0, xt_st, xa_iff cE4', mx_148, xt_b0]
      by_cases cc : xq_isl A s l = true
      · simp only [cc, not_true_eq_false, if_false]
        simp (disch := omega) only [↓ra_149_42, ↓ra_149_43, ↓ra_149_44, ↓ra_149_45, ↓ra_149_49, ↓ra_149_50, ↓ra_149_51, ↓ra_149_54, xa_kli, xa_klr, xa_kll, xa_ki, xa_kl, xa_kr, xa_kii, xa_kk, xa_kir, xa_krr, xa_kiir, xa_krir, xa_kdup, xa_kdup2, xa_kcp, xa_gf, xa_pf, xa_ga, xa_pa, xa_gq, xa_pq, xa_gl, xa_args, xa_ri, xa_rz, xa_rv, xa_s1, xa_s2, xa_c1, eq_self, List.getElem?_cons_succ, List.getElem?_cons_zero, true_and, and_true, nI_add, pk_mul, xt_in, xt_cl, xt_i0, xt_i1, xa_kc, xa_w8, xa_fit, lg_sl, List.flatMap_cons, List.flatMap_nil, List.map_cons, List.map_nil, List.sum_cons, List.sum_nil, Value.category, List.length_cons, List.length_nil, List.length_append, xa_rc, xa_rf, exists_eq_left, exists_eq', Option.some.injEq, Sum.inr.injEq, Prod.mk.injEq, Option.toList_some, Option.toList_none, List.cons_append, List.nil_append, Nat.reduceAdd, Nat.reduceLeDiff, Nat.reduceLT, List.set_cons_zero, List.set_cons_succ, eq_self, or_true, true_or, reduceIte, xt_ne, h0, h1, h2, h3, xt_bit, xt_or]
        exact ih (l + 1) _ M4 _ h4' (by simp [xa_s1, xa_c1, h0]) (by simp [xa_s1, xa_c1, h1]) (by simp [xa_s1, xa_c1, xt_bs, cc]) (by simp [xa_s1, xa_c1]) (by omega) hnf e3f erf
      · simp only [cc, not_false_eq_true, if_true]
        simp (disch := omega) only [↓ra_149_48, ↓ra_149_49, ↓ra_149_50, ↓ra_149_51, ↓ra_149_54, xa_kli, xa_klr, xa_kll, xa_ki, xa_kl, xa_kr, xa_kii, xa_kk, xa_kir, xa_krr, xa_kiir, xa_krir, xa_kdup, xa_kdup2, xa_kcp, xa_gf, xa_pf, xa_ga, xa_pa, xa_gq, xa_pq, xa_gl, xa_args, xa_ri, xa_rz, xa_rv, xa_s1, xa_s2, xa_c1, eq_self, List.getElem?_cons_succ, List.getElem?_cons_zero, true_and, and_true, nI_add, pk_mul, xt_in, xt_cl, xt_i0, xt_i1, xa_kc, xa_w8, xa_fit, lg_sl, List.flatMap_cons, List.flatMap_nil, List.map_cons, List.map_nil, List.sum_cons, List.sum_nil, Value.category, List.length_cons, List.length_nil, List.length_append, xa_rc, xa_rf, exists_eq_left, exists_eq', Option.some.injEq, Sum.inr.injEq, Prod.mk.injEq, Option.toList_some, Option.toList_none, List.cons_append, List.nil_append, Nat.reduceAdd, Nat.reduceLeDiff, Nat.reduceLT, List.set_cons_zero, List.set_cons_succ, eq_self, or_true, true_or, reduceIte, xt_ne, h0, h1, h2, h3, xt_or, Nat.or_zero]
        exact ih (l + 1) _ M4 _ h4' (by simp [xa_s1, xa_c1, h0]) (by simp [xa_s1, xa_c1, h1]) (by simp [xa_s1, xa_c1, xt_bs, cc]) (by simp [xa_s1, xa_c1]) (by omega) hnf e3f erf
  simp (disch := omega) only [↓ra_149_0, ↓ra_149_1, ↓ra_149_2, ↓ra_149_5, ↓ra_149_10, ↓ra_149_11, ↓ra_149_12, ↓ra_149_13, ↓ra_149_16, ↓ra_149_17, ↓ra_149_18, ↓ra_149_21, ↓ra_149_22, xa_kli, xa_klr, xa_kll, xa_ki, xa_kl, xa_kr, xa_kii, xa_kk, xa_kir, xa_krr, xa_kiir, xa_krir, xa_kdup, xa_kdup2, xa_kcp, xa_gf, xa_pf, xa_ga, xa_pa, xa_gq, xa_pq, xa_gl, xa_args, xa_ri, xa_rz, xa_rv, xa_s1, xa_s2, xa_c1, eq_self, List.getElem?_cons_succ, List.getElem?_cons_zero, true_and, and_true, nI_add, pk_mul, xt_in, xt_cl, xt_i0, xt_i1, xa_kc, xa_w8, xa_fit, lg_sl, List.flatMap_cons, List.flatMap_nil, List.map_cons, List.map_nil, List.sum_cons, List.sum_nil, Value.category, List.length_cons, List.length_nil, List.length_append, xa_rc, xa_rf, exists_eq_left, exists_eq', Option.some.injEq, Sum.inr.injEq, Prod.mk.injEq, Option.toList_some, Option.toList_none, List.cons_append, List.nil_append, Nat.reduceAdd, Nat.reduceLeDiff, Nat.reduceLT, List.set_cons_zero, List.set_cons_succ, eq_self, or_true, true_or, reduceIte, xt_ne, xt_eq, Nat.reduceEqDiff, Nat.one_ne_zero, if_false, h0, h1, cn, mx_96, m0, n0, xa_iff cE1, mx_132]
  exact loop 3 0 _ _ (upd r 3 (nI s)) (g 2) (by simp [xa_s1, xa_c1, h0]) (by simp [xa_s1, xa_c1, h1]) (by simp [xa_s1, xa_c1, xt_bs]) (by simp [xa_s1, xa_c1]) (by omega) (by have := xn_f (r2 := upd r 3 (nI s)) hn1; rw [← xb_ui (xb_u g 6 h6) 2] at this; exact this) (by rw [xt_us, if_pos rfl]) (fun j a _ => by rw [xt_us, if_neg a])
theorem pd_freeSet {M : xa_M} {c n : Nat} {r : Nat → Int32} {g : Nat → Nat → Int32} {T : xt_T} {S : xt_S} (hA : xv_A M c r g T n S) (iT : xi_T T) (iS : xi_S T S) (hd : xsd S ≤ 9000) (N : Nat) (hN : N ≤ 99) : ∃ z, xa_E 150 0 (xa_ent [.ref c, .int (nI N)]) [] M z ∧ z.1 = some (.int (nI (xq_fb T N S))) ∧ ∃ h h2, xn c M r (xb_u (xb_u g 2 h) 2 h2) z.2 ∧ ∀ k, k < 31 → h2 k = (xb_u g 2 h) 6 k := by
  have b6 := iT.1.2.2.2.2.2.1
  obtain ⟨⟨z1, M1⟩, cE1, c1, h1', hn1, hA1⟩ := pd_goesOn hA iT iS N (by omega)
  have c1 : z1 = none := c1
  subst c1
  dsimp only at hn1 hA1
  have i1 := (xi_days iT N iS (by omega)).1
  obtain ⟨⟨z2, M2⟩, cE2, c2, h2', hn2, e2⟩ := pd_backs hA1.1
  have c2 : z2 = none := c2
  subst c2
  dsimp only at hn2
  have ch := fun (s : Nat) (hs : s < xnS T) => xa_iff (pd_how hA1 b6 s hs)
  obtain ⟨m0, -⟩ := id hA.1
  unfold xb_c at m0
  obtain ⟨k0, k1, -⟩ := id hA1.1
  unfold xb_c at k0
  obtain ⟨⟨v0, v1, v2, v3, v4, v5⟩, -⟩ := id hA1.2.1
  refine xa_ge2 (fun lv h0 h1 => ?_)
  simp (disch := omega) only [↓ra_150_0, ↓ra_150_1, ↓ra_150_2, ↓ra_150_3, ↓ra_150_4, ↓ra_150_7, ↓ra_150_8, xa_kli, xa_klr, xa_kll, xa_ki, xa_kl, xa_kr, xa_kii, xa_kk, xa_kir, xa_krr, xa_kiir, xa_krir, xa_kdup, xa_kdup2, xa_kcp, xa_gf, xa_pf, xa_ga, xa_pa, xa_gq, xa_pq, xa_gl, xa_args, xa_ri, xa_rz, xa_rv, xa_s1, xa_s2, xa_c1, eq_self, List.getElem?_cons_succ, List.getElem?_cons_zero, true_and, and_true, nI_add, pk_mul, xt_in, xt_cl, xt_i0, xt_i1, xa_kc, xa_w8, xa_fit, lg_sl, List.flatMap_cons, List.flatMap_nil, List.map_cons, List.map_nil, List.sum_cons, List.sum_nil, Value.category, List.length_cons, List.length_nil, List.length_append, xa_rc, xa_rf, exists_eq_left, exists_eq', Option.some.injEq, Sum.inr.injEq, Prod.mk.injEq, Option.toList_some, Option.toList_none, List.cons_append, List.nil_append, Nat.reduceAdd, Nat.reduceLeDiff, Nat.reduceLT, List.set_cons_zero, List.set_cons_succ, eq_self, or_true, true_or, reduceIte, xt_ne, h0, h1, m0, xa_iff cE1, mx_120]
  have loop : ∀ (k i : Nat) (lv : xa_L), lv 0 = some (.ref c) → lv 2 = some (.int (nI (xt_bs (fun s => decide (xsh (xq_days T N S) s = 3)) i))) → lv 3 = some (.int (nI i)) → i + k = xnS T → ∃ z, xa_E 150 9 lv [] M1 z ∧ z.1 = some (.int (nI (xq_fb T N S))) ∧ ∃ h h2, xn c M r (xb_u (xb_u g 2 h) 2 h2) z.2 ∧ ∀ k, k < 31 → h2 k = (xb_u g 2 h) 6 k := by
    intro k
    induction k with
    | zero =>
      intro i lv h0 h2 h3 e
      have e : i = xnS T := by omega
      subst e
      simp (disch := omega) only [↓ra_150_9, ↓ra_150_10, ↓ra_150_11, ↓ra_150_14, ↓ra_150_15, ↓ra_150_16, ↓ra_150_44, ↓ra_150_45, ↓ra_150_48, ↓ra_150_49, xa_kli, xa_klr, xa_kll, xa_ki, xa_kl, xa_kr, xa_kii, xa_kk, xa_kir, xa_krr, xa_kiir, xa_krir, xa_kdup, xa_kdup2, xa_kcp, xa_gf, xa_pf, xa_ga, xa_pa, xa_gq, xa_pq, xa_gl, xa_args, xa_ri, xa_rz, xa_rv, xa_s1, xa_s2, xa_c1, eq_self, List.getElem?_cons_succ, List.getElem?_cons_zero, true_and, and_true, nI_add, pk_mul, xt_in, xt_cl, xt_i0, xt_i1, xa_kc, xa_w8, xa_fit, lg_sl, List.flatMap_cons, List.flatMap_nil, List.map_cons, List.map_nil, List.sum_cons, List.sum_nil, Value.category, List.length_cons, List.length_nil, List.length_append, xa_rc, xa_rf, exists_eq_left, exists_eq', Option.some.injEq, Sum.inr.injEq, Prod.mk.injEq, Option.toList_some, Option.toList_none, List.cons_append, List.nil_append, Nat.reduceAdd, Nat.reduceLeDiff, Nat.reduceLT, List.set_cons_zero, List.set_cons_succ, eq_self, or_true, true_or, reduceIte, xt_ne, h0, h2, h3, k0, k1, v3, xa_iff cE2, mx_133, xt_le, Nat.le_refl]
      exact ⟨rfl, h1', h2', xn_t hn1 hn2, e2⟩
    | succ k ih =>
      intro i lv h0 h2 h3 e
      have := (i1.2.1 i (by omega)).1
      simp (disch := omega) only [↓ra_150_9, ↓ra_150_10, ↓ra_150_11, ↓ra_150_14, ↓ra_150_15, ↓ra_150_16, xa_kli, xa_klr, xa_kll, xa_ki, xa_kl, xa_kr, xa_kii, xa_kk, xa_kir, xa_krr, xa_kiir, xa_krir, xa_kdup, xa_kdup2, xa_kcp, xa_gf, xa_pf, xa_ga, xa_pa, xa_gq, xa_pq, xa_gl, xa_args, xa_ri, xa_rz, xa_rv, xa_s1, xa_s2, xa_c1, eq_self, List.getElem?_cons_succ, List.getElem?_cons_zero, true_and, and_true, nI_add, pk_mul, xt_in, xt_cl, xt_i0, xt_i1, xa_kc, xa_w8, xa_fit, lg_sl, List.flatMap_cons, List.flatMap_nil, List.map_cons, List.map_nil, List.sum_cons, List.sum_nil, Value.category, List.length_cons, List.length_nil, List.length_append, xa_rc, xa_rf, exists_eq_left, exists_eq', Option.some.injEq, Sum.inr.injEq, Prod.mk.injEq, Option.toList_some, Option.toList_none, List.cons_append, List.nil_append, Nat.reduceAdd, Nat.reduceLeDiff, Nat.reduceLT, List.set_cons_zero, List.set_cons_succ, eq_self, or_true, true_or, reduceIte, xt_ne, h0, h2, h3, k0, k1, v3, xt_le]
      simp only [if_neg (show ¬ xnS T ≤ i by omega)]
      simp (disch := omega) only [↓ra_150_19, ↓ra_150_20, ↓ra_150_21, ↓ra_150_22, ↓ra_150_25, ↓ra_150_26, xa_kli, xa_klr, xa_kll, xa_ki, xa_kl, xa_kr, xa_kii, xa_kk, xa_kir, xa_krr, xa_kiir, xa_krir, xa_kdup, xa_kdup2, xa_kcp, xa_gf, xa_pf, xa_ga, xa_pa, xa_gq, xa_pq, xa_gl, xa_args, xa_ri, xa_rz, xa_rv, xa_s1, xa_s2, xa_c1, eq_self, List.getElem?_cons_succ, List.getElem?_cons_zero, true_and, and_true, nI_add, pk_mul, xt_in, xt_cl, xt_i0, xt_i1, xa_kc, xa_w8, xa_fit, lg_sl, List.flatMap_cons, List.flatMap_nil, List.map_cons, List.map_nil, List.sum_cons, List.sum_nil, Value.category, List.length_cons, List.length_nil, List.length_append, xa_rc, xa_rf, exists_eq_left, exists_eq', Option.some.injEq, Sum.inr.injEq, Prod.mk.injEq, Option.toList_some, Option.toList_none, List.cons_append, List.nil_append, Nat.reduceAdd, Nat.reduceLeDiff, Nat.reduceLT, List.set_cons_zero, List.set_cons_succ, eq_self, or_true, true_or, reduceIte, xt_ne, h0, h2, h3, k0, ch, mx_99, xt_eq]
      by_cases cc : xsh (xq_days T N S) i = 3
      · simp only [if_pos cc]
        simp (disch := omega) only [↓ra_150_29, ↓ra_150_30, ↓ra_150_31, ↓ra_150_32, ↓ra_150_36, ↓ra_150_37, ↓ra_150_38, ↓ra_150_41, xa_kli, xa_klr, xa_kll, xa_ki, xa_kl, xa_kr, xa_kii, xa_kk, xa_kir, xa_krr, xa_kiir, xa_krir, xa_kdup, xa_kdup2, xa_kcp, xa_gf, xa_pf, xa_ga, xa_pa, xa_gq, xa_pq, xa_gl, xa_args, xa_ri, xa_rz, xa_rv, xa_s1, xa_s2, xa_c1, eq_self, List.getElem?_cons_succ, List.getElem?_cons_zero, true_and, and_true, nI_add, pk_mul, xt_in, xt_cl, xt_i0, xt_i1, xa_kc, xa_w8, xa_fit, lg_sl, List.flatMap_cons, List.flatMap_nil, List.map_cons, List.map_nil, List.sum_cons, List.sum_nil, Value.category, List.length_cons, List.length_nil, List.length_append, xa_rc, xa_rf, exists_eq_left, exists_eq', Option.some.injEq, Sum.inr.injEq, Prod.mk.injEq, Option.toList_some, Option.toList_none, List.cons_append, List.nil_append, Nat.reduceAdd, Nat.reduceLeDiff, Nat.reduceLT, List.set_cons_zero, List.set_cons_succ, eq_self, or_true, true_or, reduceIte, xt_ne, h3, xt_bit, xt_or]
        exact ih (i + 1) _ (by simp [xa_s1, xa_c1, h0]) (by simp [xa_s1, xa_c1, xt_bs, cc]) (by simp [xa_s1, xa_c1]) (by omega)
      · simp only [if_neg cc]
        simp (disch := omega) only [↓ra_150_35, ↓ra_150_36, ↓ra_150_37, ↓ra_150_38, ↓ra_150_41, xa_kli, xa_klr, xa_kll, xa_ki, xa_kl, xa_kr, xa_kii, xa_kk, xa_kir, xa_krr, xa_kiir, xa_krir, xa_kdup, xa_kdup2, xa_kcp, xa_gf, xa_pf, xa_ga, xa_pa, xa_gq, xa_pq, xa_gl, xa_args, xa_ri, xa_rz, xa_rv, xa_s1, xa_s2, xa_c1, eq_self, List.getElem?_cons_succ, List.getElem?_cons_zero, true_and, and_true, nI_add, pk_mul, xt_in, xt_cl, xt_i0, xt_i1, xa_kc, xa_w8, xa_fit, lg_sl, List.flatMap_cons, List.flatMap_nil, List.map_cons, List.map_nil, List.sum_cons, List.sum_nil, Value.category, List.length_cons, List.length_nil, List.length_append, xa_rc, xa_rf, exists_eq_left, exists_eq', Option.some.injEq, Sum.inr.injEq, Prod.mk.injEq, Option.toList_some, Option.toList_none, List.cons_append, List.nil_append, Nat.reduceAdd, Nat.reduceLeDiff, Nat.reduceLT, List.set_cons_zero, List.set_cons_succ, eq_self, or_true, true_or, reduceIte, xt_ne, h3, xt_or, Nat.or_zero]
        exact ih (i + 1) _ (by simp [xa_s1, xa_c1, h0]) (by simp [xa_s1, xa_c1, xt_bs, cc]) (by simp [xa_s1, xa_c1]) (by omega)
  exact loop (xnS T) 0 _ (by simp [xa_s1, xa_c1, h0]) (by simp [xa_s1, xa_c1, xt_bs]) (by simp [xa_s1, xa_c1]) (by omega)
theorem xv_n1 {r r2 t : Nat → Int32} {T : xt_T} {n : Nat} (hv : xv_T r t T n) (h2 : r 2 = nI 0) (e2 : r2 2 = nI 1) (e3 : r2 3 = r 3) (e4 : r2 4 = r 4) (e5 : r2 5 = r 5) (e6 : r2 6 = r 6) : xv_T r2 t (xq_n1 T) n := by
  obtain ⟨⟨v0, v1, v2, v3, v4, v5⟩, vs, vm, ⟨vn, ve⟩, vw⟩ := hv
  refine ⟨⟨?_, v1, v2, v3, v4, v5⟩, fun s hs => by rw [e3, e4]; exact vs s hs, vm, ⟨vn, by rw [e5, e6]; exact ve⟩, vw⟩
  have z : t 0 + nI 0 = t 0 := by simp [nI]
  rw [h2, z] at v0
  rw [e2, v0, nI_add]
  rfl
theorem pe_leap_n {M : xa_M} {c : Nat} {A : xt_A} (hh : xh_B M c A) (iA : xi_A A) {x : Int32} (h : ¬ (xt_k x 1 (99 + 1))) : xa_E 151 0 (xa_ent [.ref c, .int x]) [] M (some (.int (Int32.ofInt (-1))), M) := by
  obtain ⟨r, g, hB, hw⟩ := id hh
  have hA := xw_A hB hw
  obtain ⟨⟨r2, r3, r5, r6⟩, hV, hS, ⟨hx1, hx2⟩, ⟨hu1, hu2⟩, ⟨hk1, hk2⟩, ⟨hg1, hg2⟩⟩ := id hw
  obtain ⟨iT, i5, i60, i1, ⟨iS, iD⟩, iX, iU, iK, iG⟩ := id iA
  obtain ⟨⟨b1, b2, b3, b4, b5, b6, b7, b8⟩, bs, bm, bw⟩ := id iT
  have ix := iX.1
  have iu := iU.1
  have ik := iK.1
  have ig := iG.1
  obtain ⟨⟨v0, v1, v2, v3, v4, v5⟩, vs, vm, -, vw⟩ := id hV
  obtain ⟨m0, m1, m2, m3, m4, m5, m6, m7, m8, m9⟩ := id hB
  unfold xb_c at m0
  refine xa_go2 (fun lv h0 h1 => ?_)
  have a0 : ¬ xt_k x 1 (99 + 1) := h
  have c0 := xa_iff (pd_in_x (M := M) 1 99 a0 (by omega) (by omega))
  simp (disch := omega) only [↓ra_151_0, ↓ra_151_1, ↓ra_151_2, ↓ra_151_3, ↓ra_151_6, ↓ra_151_9, ↓ra_151_12, ↓ra_151_13, xa_kli, xa_klr, xa_kll, xa_ki, xa_kl, xa_kr, xa_kii, xa_kk, xa_kir, xa_krr, xa_kiir, xa_krir, xa_kdup, xa_kdup2, xa_kcp, xa_gf, xa_pf, xa_ga, xa_pa, xa_gq, xa_pq, xa_gl, xa_args, xa_ri, xa_rz, xa_rv, xa_s1, xa_s2, xa_c1, eq_self, List.getElem?_cons_succ, List.getElem?_cons_zero, true_and, and_true, nI_add, pk_mul, xt_in, xt_cl, xt_i0, xt_i1, xa_kc, xa_w8, xa_fit, lg_sl, List.flatMap_cons, List.flatMap_nil, List.map_cons, List.map_nil, List.sum_cons, List.sum_nil, Value.category, List.length_cons, List.length_nil, List.length_append, xa_rc, xa_rf, exists_eq_left, exists_eq', Option.some.injEq, Sum.inr.injEq, Prod.mk.injEq, Option.toList_some, Option.toList_none, List.cons_append, List.nil_append, Nat.reduceAdd, Nat.reduceLeDiff, Nat.reduceLT, List.set_cons_zero, List.set_cons_succ, eq_self, or_true, true_or, reduceIte, xt_ne, xt_eq, Nat.reduceEqDiff, Nat.one_ne_zero, if_false, h0, h1, c0, mx_96, mx_97, mx_98, mx_92, m0, nI_l]
theorem pe_leap {M : xa_M} {c : Nat} {A : xt_A} (hh : xh_B M c A) (iA : xi_A A) (k : Nat) (k1 : 1 ≤ k) (k2 : k ≤ 99) : ∃ y0, xa_E 151 0 (xa_ent [.ref c, .int (nI k)]) [] M y0 ∧ xm2 c M (xs_leap A k) A y0 := by
  obtain ⟨r, g, hB, hw⟩ := id hh
  have hA := xw_A hB hw
  obtain ⟨⟨ra2, ra3, ra5, ra6⟩, hV, hS, ⟨hx1, hx2⟩, ⟨hu1, hu2⟩, ⟨hk1, hk2⟩, ⟨hg1, hg2⟩⟩ := id hw
  obtain ⟨iT, i5, i60, i1, ⟨iS, iD⟩, iX, iU, iK, iG⟩ := id iA
  obtain ⟨⟨b1, b2, b3, b4, b5, b6, b7, b8⟩, bs, bm, bw⟩ := id iT
  have ix := iX.1
  have iu := iU.1
  have ik := iK.1
  have ig := iG.1
  obtain ⟨⟨v0, v1, v2, v3, v4, v5⟩, vs, vm, -, vw⟩ := id hV
  obtain ⟨m0, m1, m2, m3, m4, m5, m6, m7, m8, m9⟩ := id hB
  unfold xb_c at m0
  have ca := xa_iff (pd_in_k (M := M) k 1 99 (by omega) (by omega))
  obtain ⟨⟨z1, M1⟩, cE1, c1, h6, hn1, e6⟩ := pd_asides hB
  have c1 : z1 = none := c1
  subst c1
  dsimp only at hn1
  have z0 := xz_0 e6
  have hA1 : xv_A M1 c r (xb_u g 6 h6) (yT A) (xnM (yT A)) (yS A) := ⟨hn1.2, hV, hS, fun h => by omega⟩
  obtain ⟨n0, n1, n2, -⟩ := id hn1.2
  unfold xb_c at n0
  obtain ⟨⟨z2, M2⟩, cE2, c2, h2', h3', hn2, e2⟩ := pd_freeSet hA1 iT iS (by omega) k k2
  have c2 : z2 = _ := c2
  subst c2
  dsimp only at hn2
  have zz2 := xz_b z0 e2
  have hn3 := xn_f (r2 := upd r 2 (nI 1)) hn2
  have hA3 : xv_A _ c (upd r 2 (nI 1)) _ (xq_n1 (yT A)) (xnM (yT A)) (yS A) := ⟨hn3.2, by rw [zz2.1]; exact xv_n1 hV ra2 rfl rfl rfl rfl rfl, xv_S_cg hS zz2.2.1 b6 b7, fun h => by have h : xnM (yT A) = xnM (yT A) + 1 := h; omega⟩
  obtain ⟨⟨z4, M4⟩, cE4, c4, h4', h5', hn4, e4⟩ := pd_freeSet hA3 (xi_n1 iT i60) (xi_n1S iS) (by omega) k k2
  have c4 : z4 = _ := c4
  subst c4
  dsimp only at hn4
  have zz4 := xz_b zz2 e4
  have hn5 := xn_f (r2 := upd (upd r 2 (nI 1)) 2 (nI 0)) hn4
  obtain ⟨k0, -⟩ := id hn2.2
  unfold xb_c at k0
  obtain ⟨j0, -⟩ := id hn4.2
  have j0 : M4.1 c = some (.inr (7, [.ref (c + 1), .ref (c + 2), .int (nI 1), .int (r 3), .int (r 4), .int (r 5), .int (r 6), .ref (c + 3), .int (r 8), .int (r 9), .ref (c + 4), .int (r 11), .int (r 12), .ref (c + 5), .int (r 14), .ref (c + 6), .ref (c + 7), .ref (c + 8), .int (r 18), .ref (c + 9), .int (r 20)])) := j0
  have cE4' : xa_E 150 0 (xa_ent [.ref c, .int (nI k)]) [] (xa_st M2 c (.inr (7, [.ref (c + 1), .ref (c + 2), .int (nI 1), .int (r 3), .int (r 4), .int (r 5), .int (r 6), .ref (c + 3), .int (r 8), .int (r 9), .ref (c + 4), .int (r 11), .int (r 12), .ref (c + 5), .int (r 14), .ref (c + 6), .ref (c + 7), .ref (c + 8), .int (r 18), .ref (c + 9), .int (r 20)]))) (some (.int (nI (xq_fb (xq_n1 (yT A)) k (yS A)))), M4) := cE4
  have l1 : xq_fb (yT A) k (yS A) < 64 := xt_bs_64 _ _ b6
  have l2 : xq_fb (xq_n1 (yT A)) k (yS A) < 64 := xt_bs_64 _ _ b6
  refine xa_ge2 (fun lv h0 h1 => ?_)
  simp (disch := omega) only [↓ra_151_0, ↓ra_151_1, ↓ra_151_2, ↓ra_151_3, ↓ra_151_6, ↓ra_151_9, ↓ra_151_14, ↓ra_151_15, ↓ra_151_18, ↓ra_151_19, ↓ra_151_20, ↓ra_151_23, ↓ra_151_24, ↓ra_151_25, ↓ra_151_26, ↓ra_151_29, ↓ra_151_30, ↓ra_151_31, ↓ra_151_32, ↓ra_151_35, ↓ra_151_36, ↓ra_151_37, ↓ra_151_38, ↓ra_151_39, ↓ra_151_40, ↓ra_151_41, ↓ra_151_44, ↓ra_151_45, xa_kli, xa_klr, xa_kll, xa_ki, xa_kl, xa_kr, xa_kii, xa_kk, xa_kir, xa_krr, xa_kiir, xa_krir, xa_kdup, xa_kdup2, xa_kcp, xa_gf, xa_pf, xa_ga, xa_pa, xa_gq, xa_pq, xa_gl, xa_args, xa_ri, xa_rz, xa_rv, xa_s1, xa_s2, xa_c1, eq_self, List.getElem?_cons_succ, List.getElem?_cons_zero, true_and, and_true, nI_add, pk_mul, xt_in, xt_cl, xt_i0, xt_i1, xa_kc, xa_w8, xa_fit, lg_sl, List.flatMap_cons, List.flatMap_nil, List.map_cons, List.map_nil, List.sum_cons, List.sum_nil, Value.category, List.length_cons, List.length_nil, List.length_append, xa_rc, xa_rf, exists_eq_left, exists_eq', Option.some.injEq, Sum.inr.injEq, Prod.mk.injEq, Option.toList_some, Option.toList_none, List.cons_append, List.nil_append, Nat.reduceAdd, Nat.reduceLeDiff, Nat.reduceLT, List.set_cons_zero, List.set_cons_succ, eq_self, or_true, true_or, reduceIte, xt_ne, xt_eq, Nat.reduceEqDiff, Nat.one_ne_zero, if_false, h0, h1, nI_l, ca, mx_92, m0, n0, k0, j0, xt_st, xa_iff cE1, mx_132, xa_iff cE2, xa_iff cE4', mx_150, xt_andn]
  exact xm2_n (xn_t (xn_t hn1 hn3) hn5) (xz_w hw iA zz4 ra2.symm rfl rfl rfl rfl rfl rfl rfl)
