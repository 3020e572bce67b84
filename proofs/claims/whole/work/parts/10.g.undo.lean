theorem pe_undo {M : xa_M} {c : Nat} {A : xt_A} (hh : xh_B M c A) (iA : xi_A A)  : ∃ y0, xa_E 131 0 (xa_ent [.ref c]) [] M y0 ∧ xm2 c M ((xs_undo A).1) (xs_undo A).2 y0 := by
  obtain ⟨r, g, hB, hw⟩ := id hh
  have hA := xw_A hB hw
  obtain ⟨⟨r2, r3, r5, r6⟩, hV, hS, ⟨hx1, hx2⟩, ⟨hu1, hu2⟩, ⟨hk1, hk2⟩, ⟨hg1, hg2⟩⟩ := id hw
  obtain ⟨iT, i5, i60, i1, ⟨iS, iD⟩, iX, iU, iK, iG⟩ := id iA
  obtain ⟨⟨b1, b2, b3, b4, b5, b6, b7, b8⟩, bs, bm, bw⟩ := id iT
  have ix := iX.1
  have iu := iU.1
  have ik := iK.1
  have ig := iG.1
  obtain ⟨⟨v0, v1, v2, v3, v4, v5⟩, vs, vm, -, vw⟩ := id hV
  obtain ⟨m0, m1, m2, m3, m4, m5, m6, m7, m8, m9⟩ := id hB
  unfold xb_c at m0
  refine xa_ge1 (fun lv h0 => ?_)
  simp (disch := omega) only [↓ra_131_0, ↓ra_131_1, ↓ra_131_4, xa_kli, xa_klr, xa_kll, xa_ki, xa_kl, xa_kr, xa_kii, xa_kk, xa_kir, xa_krr, xa_kiir, xa_krir, xa_kdup, xa_kdup2, xa_kcp, xa_gf, xa_pf, xa_ga, xa_pa, xa_gq, xa_pq, xa_gl, xa_args, xa_ri, xa_rz, xa_rv, xa_s1, xa_s2, xa_c1, eq_self, List.getElem?_cons_succ, List.getElem?_cons_zero, true_and, and_true, nI_add, pk_mul, xt_in, xt_cl, xt_i0, xt_i1, xa_kc, xa_w8, xa_fit, lg_sl, List.flatMap_cons, List.flatMap_nil, List.map_cons, List.map_nil, List.sum_cons, List.sum_nil, Value.category, List.length_cons, List.length_nil, List.length_append, xa_rc, xa_rf, exists_eq_left, exists_eq', Option.some.injEq, Sum.inr.injEq, Prod.mk.injEq, Option.toList_some, Option.toList_none, List.cons_append, List.nil_append, Nat.reduceAdd, Nat.reduceLeDiff, Nat.reduceLT, List.set_cons_zero, List.set_cons_succ, eq_self, or_true, true_or, reduceIte, xt_ne, h0, m0, hu1, xt_eq]
  unfold xs_undo
  by_cases cz : (yU A).1 = 0
  · simp only [if_pos cz]
    simp (disch := omega) only [↓ra_131_7, ↓ra_131_9, xa_kli, xa_klr, xa_kll, xa_ki, xa_kl, xa_kr, xa_kii, xa_kk, xa_kir, xa_krr, xa_kiir, xa_krir, xa_kdup, xa_kdup2, xa_kcp, xa_gf, xa_pf, xa_ga, xa_pa, xa_gq, xa_pq, xa_gl, xa_args, xa_ri, xa_rz, xa_rv, xa_s1, xa_s2, xa_c1, eq_self, List.getElem?_cons_succ, List.getElem?_cons_zero, true_and, and_true, nI_add, pk_mul, xt_in, xt_cl, xt_i0, xt_i1, xa_kc, xa_w8, xa_fit, lg_sl, List.flatMap_cons, List.flatMap_nil, List.map_cons, List.map_nil, List.sum_cons, List.sum_nil, Value.category, List.length_cons, List.length_nil, List.length_append, xa_rc, xa_rf, exists_eq_left, exists_eq', Option.some.injEq, Sum.inr.injEq, Prod.mk.injEq, Option.toList_some, Option.toList_none, List.cons_append, List.nil_append, Nat.reduceAdd, Nat.reduceLeDiff, Nat.reduceLT, List.set_cons_zero, List.set_cons_succ, eq_self, or_true, true_or, reduceIte, xt_ne]
    exact xm2_r hh
  · simp only [if_neg cz]
    obtain ⟨u, hue⟩ : ∃ u, (yU A).1 = u + 1 := ⟨(yU A).1 - 1, by omega⟩
    have eu : (yU A).1 - 1 = u := by omega
    rw [eu]
    have ex : upd r 14 (nI u) 14 = nI u := by rw [xt_us, if_pos rfl]
    have loop : ∀ (k i : Nat) (lv : xa_L) (M1 : xa_M) (h : Nat → Int32), lv 0 = some (.ref c) → lv 1 = some (.int (nI i)) → i + k = 31 → xn c M (upd r 14 (nI u)) (xb_u g 2 h) M1 → (∀ j, j < i → h j = g 5 (31 * u + j)) → ∃ y0, xa_E 131 22 lv [] M1 y0 ∧ xm2 c M (nI u) (yT A, (yU A).2 u, yX A, (u, (yU A).2), yK A, yG A) y0 := by
      intro k
      induction k with
      | zero =>
        intro i lv M1 h h0 h1 e hn ho
        have e : i = 31 := by omega
        subst e
        obtain ⟨k0, -⟩ := hn.2
        unfold xb_c at k0
        simp (disch := omega) only [↓ra_131_22, ↓ra_131_23, ↓ra_131_25, ↓ra_131_54, ↓ra_131_55, ↓ra_131_58, xa_kli, xa_klr, xa_kll, xa_ki, xa_kl, xa_kr, xa_kii, xa_kk, xa_kir, xa_krr, xa_kiir, xa_krir, xa_kdup, xa_kdup2, xa_kcp, xa_gf, xa_pf, xa_ga, xa_pa, xa_gq, xa_pq, xa_gl, xa_args, xa_ri, xa_rz, xa_rv, xa_s1, xa_s2, xa_c1, eq_self, List.getElem?_cons_succ, List.getElem?_cons_zero, true_and, and_true, nI_add, pk_mul, xt_in, xt_cl, xt_i0, xt_i1, xa_kc, xa_w8, xa_fit, lg_sl, List.flatMap_cons, List.flatMap_nil, List.map_cons, List.map_nil, List.sum_cons, List.sum_nil, Value.category, List.length_cons, List.length_nil, List.length_append, xa_rc, xa_rf, exists_eq_left, exists_eq', Option.some.injEq, Sum.inr.injEq, Prod.mk.injEq, Option.toList_some, Option.toList_none, List.cons_append, List.nil_append, Nat.reduceAdd, Nat.reduceLeDiff, Nat.reduceLT, List.set_cons_zero, List.set_cons_succ, eq_self, or_true, true_or, reduceIte, xt_ne, h0, h1, k0, ex, xt_st, xt_le, Nat.le_refl]
        have hs2 := xv_S_cg (hu2 u (by omega)) (h2 := h) (fun k hk => ho k hk) b6 b7
        exact xm2_n hn ⟨⟨r2, r3, r5, r6⟩, xv_T_r hV b6 r3 rfl rfl rfl rfl, hs2, ⟨hx1, hx2⟩, ⟨rfl, fun i hi => hu2 i (by have : i < u := hi; omega)⟩, ⟨hk1, hk2⟩, ⟨hg1, hg2⟩⟩
      | succ k ih =>
        intro i lv M1 h h0 h1 e hn ho
        obtain ⟨k0, k1, k2, k3, k4, k5, k6, k7, k8, k9⟩ := hn.2
        unfold xb_c at k0
        rw [xb_un _ _ _ _ (by omega)] at k5
        rw [xb_ue] at k2
        simp (disch := omega) only [↓ra_131_22, ↓ra_131_23, ↓ra_131_25, xa_kli, xa_klr, xa_kll, xa_ki, xa_kl, xa_kr, xa_kii, xa_kk, xa_kir, xa_krr, xa_kiir, xa_krir, xa_kdup, xa_kdup2, xa_kcp, xa_gf, xa_pf, xa_ga, xa_pa, xa_gq, xa_pq, xa_gl, xa_args, xa_ri, xa_rz, xa_rv, xa_s1, xa_s2, xa_c1, eq_self, List.getElem?_cons_succ, List.getElem?_cons_zero, true_and, and_true, nI_add, pk_mul, xt_in, xt_cl, xt_i0, xt_i1, xa_kc, xa_w8, xa_fit, lg_sl, List.flatMap_cons, List.flatMap_nil, List.map_cons, List.map_nil, List.sum_cons, List.sum_nil, Value.category, List.length_cons, List.length_nil, List.length_append, xa_rc, xa_rf, exists_eq_left, exists_eq', Option.some.injEq, Sum.inr.injEq, Prod.mk.injEq, Option.toList_some, Option.toList_none, List.cons_append, List.nil_append, Nat.reduceAdd, Nat.reduceLeDiff, Nat.reduceLT, List.set_cons_zero, List.set_cons_succ, eq_self, or_true, true_or, reduceIte, xt_ne, h0, h1, xt_le]
        simp only [if_neg (show ¬ 31 ≤ i by omega)]
        simp (disch := omega) only [↓ra_131_28, ↓ra_131_29, ↓ra_131_32, ↓ra_131_33, ↓ra_131_34, ↓ra_131_37, ↓ra_131_39, ↓ra_131_40, ↓ra_131_43, ↓ra_131_44, ↓ra_131_45, ↓ra_131_46, ↓ra_131_47, ↓ra_131_48, ↓ra_131_51, xa_kli, xa_klr, xa_kll, xa_ki, xa_kl, xa_kr, xa_kii, xa_kk, xa_kir, xa_krr, xa_kiir, xa_krir, xa_kdup, xa_kdup2, xa_kcp, xa_gf, xa_pf, xa_ga, xa_pa, xa_gq, xa_pq, xa_gl, xa_args, xa_ri, xa_rz, xa_rv, xa_s1, xa_s2, xa_c1, eq_self, List.getElem?_cons_succ, List.getElem?_cons_zero, true_and, and_true, nI_add, pk_mul, xt_in, xt_cl, xt_i0, xt_i1, xa_kc, xa_w8, xa_fit, lg_sl, List.flatMap_cons, List.flatMap_nil, List.map_cons, List.map_nil, List.sum_cons, List.sum_nil, Value.category, List.length_cons, List.length_nil, List.length_append, xa_rc, xa_rf, exists_eq_left, exists_eq', Option.some.injEq, Sum.inr.injEq, Prod.mk.injEq, Option.toList_some, Option.toList_none, List.cons_append, List.nil_append, Nat.reduceAdd, Nat.reduceLeDiff, Nat.reduceLT, List.set_cons_zero, List.set_cons_succ, eq_self, or_true, true_or, reduceIte, xt_ne, h0, h1, k0, k2, k5, ex]
        refine ih (i + 1) _ _ (upd h i (g 5 (31 * u + i))) (by simp [xa_s1, xa_c1, h0]) (by simp [xa_s1, xa_c1]) (by omega) (xn_s2' _ hn) (fun j hj => ?_)
        rw [xt_us]
        by_cases ej : j = i
        · rw [if_pos ej, ej]
        · rw [if_neg ej]; exact ho j (by omega)
    have es : nI (u + 1) - nI 1 = nI u := by rw [xt_sub _ _ (by omega)]; rfl
    simp (disch := omega) only [↓ra_131_10, ↓ra_131_11, ↓ra_131_12, ↓ra_131_15, ↓ra_131_16, ↓ra_131_17, ↓ra_131_20, ↓ra_131_21, xa_kli, xa_klr, xa_kll, xa_ki, xa_kl, xa_kr, xa_kii, xa_kk, xa_kir, xa_krr, xa_kiir, xa_krir, xa_kdup, xa_kdup2, xa_kcp, xa_gf, xa_pf, xa_ga, xa_pa, xa_gq, xa_pq, xa_gl, xa_args, xa_ri, xa_rz, xa_rv, xa_s1, xa_s2, xa_c1, eq_self, List.getElem?_cons_succ, List.getElem?_cons_zero, true_and, and_true, nI_add, pk_mul, xt_in, xt_cl, xt_i0, xt_i1, xa_kc, xa_w8, xa_fit, lg_sl, List.flatMap_cons, List.flatMap_nil, List.map_cons, List.map_nil, List.sum_cons, List.sum_nil, Value.category, List.length_cons, List.length_nil, List.length_append, xa_rc, xa_rf, exists_eq_left, exists_eq', Option.some.injEq, Sum.inr.injEq, Prod.mk.injEq, Option.toList_some, Option.toList_none, List.cons_append, List.nil_append, Nat.reduceAdd, Nat.reduceLeDiff, Nat.reduceLT, List.set_cons_zero, List.set_cons_succ, eq_self, or_true, true_or, reduceIte, xt_ne, h0, m0, hu1, hue, es]
    exact loop 31 0 _ _ (g 2) (by simp [xa_s1, xa_c1, h0]) (by simp [xa_s1, xa_c1]) (by omega) (by rw [xb_ui]; exact xn_f (r2 := upd r 14 (nI u)) (xn_r hB)) (fun j hj => absurd hj (Nat.not_lt_zero j))
theorem pe_back {M : xa_M} {c : Nat} {A : xt_A} (hh : xh_B M c A) (iA : xi_A A)  : ∃ y0, xa_E 155 0 (xa_ent [.ref c]) [] M y0 ∧ xm2 c M ((xs_back A).1) (xs_back A).2 y0 := by
  obtain ⟨r, g, hB, hw⟩ := id hh
  have hA := xw_A hB hw
  obtain ⟨⟨r2, r3, r5, r6⟩, hV, hS, ⟨hx1, hx2⟩, ⟨hu1, hu2⟩, ⟨hk1, hk2⟩, ⟨hg1, hg2⟩⟩ := id hw
  obtain ⟨iT, i5, i60, i1, ⟨iS, iD⟩, iX, iU, iK, iG⟩ := id iA
  obtain ⟨⟨b1, b2, b3, b4, b5, b6, b7, b8⟩, bs, bm, bw⟩ := id iT
  have ix := iX.1
  have iu := iU.1
  have ik := iK.1
  have ig := iG.1
  obtain ⟨⟨v0, v1, v2, v3, v4, v5⟩, vs, vm, -, vw⟩ := id hV
  obtain ⟨m0, m1, m2, m3, m4, m5, m6, m7, m8, m9⟩ := id hB
  unfold xb_c at m0
  refine xa_ge1 (fun lv h0 => ?_)
  simp (disch := omega) only [↓ra_155_0, ↓ra_155_1, ↓ra_155_4, xa_kli, xa_klr, xa_kll, xa_ki, xa_kl, xa_kr, xa_kii, xa_kk, xa_kir, xa_krr, xa_kiir, xa_krir, xa_kdup, xa_kdup2, xa_kcp, xa_gf, xa_pf, xa_ga, xa_pa, xa_gq, xa_pq, xa_gl, xa_args, xa_ri, xa_rz, xa_rv, xa_s1, xa_s2, xa_c1, eq_self, List.getElem?_cons_succ, List.getElem?_cons_zero, true_and, and_true, nI_add, pk_mul, xt_in, xt_cl, xt_i0, xt_i1, xa_kc, xa_w8, xa_fit, lg_sl, List.flatMap_cons, List.flatMap_nil, List.map_cons, List.map_nil, List.sum_cons, List.sum_nil, Value.category, List.length_cons, List.length_nil, List.length_append, xa_rc, xa_rf, exists_eq_left, exists_eq', Option.some.injEq, Sum.inr.injEq, Prod.mk.injEq, Option.toList_some, Option.toList_none, List.cons_append, List.nil_append, Nat.reduceAdd, Nat.reduceLeDiff, Nat.reduceLT, List.set_cons_zero, List.set_cons_succ, eq_self, or_true, true_or, reduceIte, xt_ne, h0, m0, hk1, xt_eq]
  unfold xs_back
  by_cases cz : (yK A).1 = 0
  · simp only [if_pos cz]
    simp (disch := omega) only [↓ra_155_7, ↓ra_155_9, xa_kli, xa_klr, xa_kll, xa_ki, xa_kl, xa_kr, xa_kii, xa_kk, xa_kir, xa_krr, xa_kiir, xa_krir, xa_kdup, xa_kdup2, xa_kcp, xa_gf, xa_pf, xa_ga, xa_pa, xa_gq, xa_pq, xa_gl, xa_args, xa_ri, xa_rz, xa_rv, xa_s1, xa_s2, xa_c1, eq_self, List.getElem?_cons_succ, List.getElem?_cons_zero, true_and, and_true, nI_add, pk_mul, xt_in, xt_cl, xt_i0, xt_i1, xa_kc, xa_w8, xa_fit, lg_sl, List.flatMap_cons, List.flatMap_nil, List.map_cons, List.map_nil, List.sum_cons, List.sum_nil, Value.category, List.length_cons, List.length_nil, List.length_append, xa_rc, xa_rf, exists_eq_left, exists_eq', Option.some.injEq, Sum.inr.injEq, Prod.mk.injEq, Option.toList_some, Option.toList_none, List.cons_append, List.nil_append, Nat.reduceAdd, Nat.reduceLeDiff, Nat.reduceLT, List.set_cons_zero, List.set_cons_succ, eq_self, or_true, true_or, reduceIte, xt_ne]
    exact xm2_r hh
  · simp only [if_neg cz]
    obtain ⟨u, hue⟩ : ∃ u, (yK A).1 = u + 1 := ⟨(yK A).1 - 1, by omega⟩
    have eu : (yK A).1 - 1 = u := by omega
    rw [eu]
    have ex : upd r 20 (nI u) 20 = nI u := by rw [xt_us, if_pos rfl]
    have loop : ∀ (k i : Nat) (lv : xa_L) (M1 : xa_M) (h : Nat → Int32), lv 0 = some (.ref c) → lv 1 = some (.int (nI i)) → i + k = 31 → xn c M (upd r 20 (nI u)) (xb_u g 2 h) M1 → (∀ j, j < i → h j = g 9 (31 * u + j)) → ∃ y0, xa_E 155 22 lv [] M1 y0 ∧ xm2 c M (nI u) (yT A, (yK A).2 u, yX A, (0, (yU A).2), (u, (yK A).2), yG A) y0 := by
      intro k
      induction k with
      | zero =>
        intro i lv M1 h h0 h1 e hn ho
        have e : i = 31 := by omega
        subst e
        obtain ⟨k0, -⟩ := hn.2
        unfold xb_c at k0
        simp (disch := omega) only [↓ra_155_22, ↓ra_155_23, ↓ra_155_25, ↓ra_155_54, ↓ra_155_55, ↓ra_155_56, ↓ra_155_59, ↓ra_155_60, ↓ra_155_63, xa_kli, xa_klr, xa_kll, xa_ki, xa_kl, xa_kr, xa_kii, xa_kk, xa_kir, xa_krr, xa_kiir, xa_krir, xa_kdup, xa_kdup2, xa_kcp, xa_gf, xa_pf, xa_ga, xa_pa, xa_gq, xa_pq, xa_gl, xa_args, xa_ri, xa_rz, xa_rv, xa_s1, xa_s2, xa_c1, eq_self, List.getElem?_cons_succ, List.getElem?_cons_zero, true_and, and_true, nI_add, pk_mul, xt_in, xt_cl, xt_i0, xt_i1, xa_kc, xa_w8, xa_fit, lg_sl, List.flatMap_cons, List.flatMap_nil, List.map_cons, List.map_nil, List.sum_cons, List.sum_nil, Value.category, List.length_cons, List.length_nil, List.length_append, xa_rc, xa_rf, exists_eq_left, exists_eq', Option.some.injEq, Sum.inr.injEq, Prod.mk.injEq, Option.toList_some, Option.toList_none, List.cons_append, List.nil_append, Nat.reduceAdd, Nat.reduceLeDiff, Nat.reduceLT, List.set_cons_zero, List.set_cons_succ, eq_self, or_true, true_or, reduceIte, xt_ne, h0, h1, k0, ex, xt_st, xt_le, Nat.le_refl]
        have hs2 := xv_S_cg (hk2 u (by omega)) (h2 := h) (fun k hk => ho k hk) b6 b7
        exact xm2_n (xn_f (r2 := upd (upd r 20 (nI u)) 14 (nI 0)) hn) ⟨⟨r2, r3, r5, r6⟩, xv_T_r hV b6 r3 rfl rfl rfl rfl, hs2, ⟨hx1, hx2⟩, ⟨rfl, fun i hi => absurd hi (Nat.not_lt_zero i)⟩, ⟨rfl, fun i hi => hk2 i (by have : i < u := hi; omega)⟩, ⟨hg1, hg2⟩⟩
      | succ k ih =>
        intro i lv M1 h h0 h1 e hn ho
        obtain ⟨k0, k1, k2, k3, k4, k5, k6, k7, k8, k9⟩ := hn.2
        unfold xb_c at k0
        rw [xb_un _ _ _ _ (by omega)] at k9
        rw [xb_ue] at k2
        simp (disch := omega) only [↓ra_155_22, ↓ra_155_23, ↓ra_155_25, xa_kli, xa_klr, xa_kll, xa_ki, xa_kl, xa_kr, xa_kii, xa_kk, xa_kir, xa_krr, xa_kiir, xa_krir, xa_kdup, xa_kdup2, xa_kcp, xa_gf, xa_pf, xa_ga, xa_pa, xa_gq, xa_pq, xa_gl, xa_args, xa_ri, xa_rz, xa_rv, xa_s1, xa_s2, xa_c1, eq_self, List.getElem?_cons_succ, List.getElem?_cons_zero, true_and, and_true, nI_add, pk_mul, xt_in, xt_cl, xt_i0, xt_i1, xa_kc, xa_w8, xa_fit, lg_sl, List.flatMap_cons, List.flatMap_nil, List.map_cons, List.map_nil, List.sum_cons, List.sum_nil, Value.category, List.length_cons, List.length_nil, List.length_append, xa_rc, xa_rf, exists_eq_left, exists_eq', Option.some.injEq, Sum.inr.injEq, Prod.mk.injEq, Option.toList_some, Option.toList_none, List.cons_append, List.nil_append, Nat.reduceAdd, Nat.reduceLeDiff, Nat.reduceLT, List.set_cons_zero, List.set_cons_succ, eq_self, or_true, true_or, reduceIte, xt_ne, h0, h1, xt_le]
        simp only [if_neg (show ¬ 31 ≤ i by omega)]
        simp (disch := omega) only [↓ra_155_28, ↓ra_155_29, ↓ra_155_32, ↓ra_155_33, ↓ra_155_34, ↓ra_155_37, ↓ra_155_39, ↓ra_155_40, ↓ra_155_43, ↓ra_155_44, ↓ra_155_45, ↓ra_155_46, ↓ra_155_47, ↓ra_155_48, ↓ra_155_51, xa_kli, xa_klr, xa_kll, xa_ki, xa_kl, xa_kr, xa_kii, xa_kk, xa_kir, xa_krr, xa_kiir, xa_krir, xa_kdup, xa_kdup2, xa_kcp, xa_gf, xa_pf, xa_ga, xa_pa, xa_gq, xa_pq, xa_gl, xa_args, xa_ri, xa_rz, xa_rv, xa_s1, xa_s2, xa_c1, eq_self, List.getElem?_cons_succ, List.getElem?_cons_zero, true_and, and_true, nI_add, pk_mul, xt_in, xt_cl, xt_i0, xt_i1, xa_kc, xa_w8, xa_fit, lg_sl, List.flatMap_cons, List.flatMap_nil, List.map_cons, List.map_nil, List.sum_cons, List.sum_nil, Value.category, List.length_cons, List.length_nil, List.length_append, xa_rc, xa_rf, exists_eq_left, exists_eq', Option.some.injEq, Sum.inr.injEq, Prod.mk.injEq, Option.toList_some, Option.toList_none, List.cons_append, List.nil_append, Nat.reduceAdd, Nat.reduceLeDiff, Nat.reduceLT, List.set_cons_zero, List.set_cons_succ, eq_self, or_true, true_or, reduceIte, xt_ne, h0, h1, k0, k2, k9, ex]
        refine ih (i + 1) _ _ (upd h i (g 9 (31 * u + i))) (by simp [xa_s1, xa_c1, h0]) (by simp [xa_s1, xa_c1]) (by omega) (xn_s2' _ hn) (fun j hj => ?_)
        rw [xt_us]
        by_cases ej : j = i
        · rw [if_pos ej, ej]
        · rw [if_neg ej]; exact ho j (by omega)
    have es : nI (u + 1) - nI 1 = nI u := by rw [xt_sub _ _ (by omega)]; rfl
    simp (disch := omega) only [↓ra_155_10, ↓ra_155_11, ↓ra_155_12, ↓ra_155_15, ↓ra_155_16, ↓ra_155_17, ↓ra_155_20, ↓ra_155_21, xa_kli, xa_klr, xa_kll, xa_ki, xa_kl, xa_kr, xa_kii, xa_kk, xa_kir, xa_krr, xa_kiir, xa_krir, xa_kdup, xa_kdup2, xa_kcp, xa_gf, xa_pf, xa_ga, xa_pa, xa_gq, xa_pq, xa_gl, xa_args, xa_ri, xa_rz, xa_rv, xa_s1, xa_s2, xa_c1, eq_self, List.getElem?_cons_succ, List.getElem?_cons_zero, true_and, and_true, nI_add, pk_mul, xt_in, xt_cl, xt_i0, xt_i1, xa_kc, xa_w8, xa_fit, lg_sl, List.flatMap_cons, List.flatMap_nil, List.map_cons, List.map_nil, List.sum_cons, List.sum_nil, Value.category, List.length_cons, List.length_nil, List.length_append, xa_rc, xa_rf, exists_eq_left, exists_eq', Option.some.injEq, Sum.inr.injEq, Prod.mk.injEq, Option.toList_some, Option.toList_none, List.cons_append, List.nil_append, Nat.reduceAdd, Nat.reduceLeDiff, Nat.reduceLT, List.set_cons_zero, List.set_cons_succ, eq_self, or_true, true_or, reduceIte, xt_ne, h0, m0, hk1, hue, es]
    exact loop 31 0 _ _ (g 2) (by simp [xa_s1, xa_c1, h0]) (by simp [xa_s1, xa_c1]) (by omega) (by rw [xb_ui]; exact xn_f (r2 := upd r 20 (nI u)) (xn_r hB)) (fun j hj => absurd hj (Nat.not_lt_zero j))
theorem pe_keep {M : xa_M} {c : Nat} {A : xt_A} (hh : xh_B M c A) (iA : xi_A A)  : ∃ y0, xa_E 154 0 (xa_ent [.ref c]) [] M y0 ∧ xm2 c M ((xs_keep A).1) (xs_keep A).2 y0 := by
  obtain ⟨r, g, hB, hw⟩ := id hh
  have hA := xw_A hB hw
  obtain ⟨⟨r2, r3, r5, r6⟩, hV, hS, ⟨hx1, hx2⟩, ⟨hu1, hu2⟩, ⟨hk1, hk2⟩, ⟨hg1, hg2⟩⟩ := id hw
  obtain ⟨iT, i5, i60, i1, ⟨iS, iD⟩, iX, iU, iK, iG⟩ := id iA
  obtain ⟨⟨b1, b2, b3, b4, b5, b6, b7, b8⟩, bs, bm, bw⟩ := id iT
  have ix := iX.1
  have iu := iU.1
  have ik := iK.1
  have ig := iG.1
  obtain ⟨⟨v0, v1, v2, v3, v4, v5⟩, vs, vm, -, vw⟩ := id hV
  obtain ⟨m0, m1, m2, m3, m4, m5, m6, m7, m8, m9⟩ := id hB
  unfold xb_c at m0
  refine xa_ge1 (fun lv h0 => ?_)
  simp (disch := omega) only [↓ra_154_0, ↓ra_154_1, ↓ra_154_4, ↓ra_154_5, xa_kli, xa_klr, xa_kll, xa_ki, xa_kl, xa_kr, xa_kii, xa_kk, xa_kir, xa_krr, xa_kiir, xa_krir, xa_kdup, xa_kdup2, xa_kcp, xa_gf, xa_pf, xa_ga, xa_pa, xa_gq, xa_pq, xa_gl, xa_args, xa_ri, xa_rz, xa_rv, xa_s1, xa_s2, xa_c1, eq_self, List.getElem?_cons_succ, List.getElem?_cons_zero, true_and, and_true, nI_add, pk_mul, xt_in, xt_cl, xt_i0, xt_i1, xa_kc, xa_w8, xa_fit, lg_sl, List.flatMap_cons, List.flatMap_nil, List.map_cons, List.map_nil, List.sum_cons, List.sum_nil, Value.category, List.length_cons, List.length_nil, List.length_append, xa_rc, xa_rf, exists_eq_left, exists_eq', Option.some.injEq, Sum.inr.injEq, Prod.mk.injEq, Option.toList_some, Option.toList_none, List.cons_append, List.nil_append, Nat.reduceAdd, Nat.reduceLeDiff, Nat.reduceLT, List.set_cons_zero, List.set_cons_succ, eq_self, or_true, true_or, reduceIte, xt_ne, h0, m0, hk1, xt_eq]
  unfold xs_keep
  by_cases cz : (yK A).1 = 2
  · simp only [if_pos cz]
    simp (disch := omega) only [↓ra_154_8, ↓ra_154_10, xa_kli, xa_klr, xa_kll, xa_ki, xa_kl, xa_kr, xa_kii, xa_kk, xa_kir, xa_krr, xa_kiir, xa_krir, xa_kdup, xa_kdup2, xa_kcp, xa_gf, xa_pf, xa_ga, xa_pa, xa_gq, xa_pq, xa_gl, xa_args, xa_ri, xa_rz, xa_rv, xa_s1, xa_s2, xa_c1, eq_self, List.getElem?_cons_succ, List.getElem?_cons_zero, true_and, and_true, nI_add, pk_mul, xt_in, xt_cl, xt_i0, xt_i1, xa_kc, xa_w8, xa_fit, lg_sl, List.flatMap_cons, List.flatMap_nil, List.map_cons, List.map_nil, List.sum_cons, List.sum_nil, Value.category, List.length_cons, List.length_nil, List.length_append, xa_rc, xa_rf, exists_eq_left, exists_eq', Option.some.injEq, Sum.inr.injEq, Prod.mk.injEq, Option.toList_some, Option.toList_none, List.cons_append, List.nil_append, Nat.reduceAdd, Nat.reduceLeDiff, Nat.reduceLT, List.set_cons_zero, List.set_cons_succ, eq_self, or_true, true_or, reduceIte, xt_ne]
    exact xm2_r hh
  · simp only [if_neg cz]
    have ep : xq_pz 2 (yK A).1 = (yK A).1 + 1 := by unfold xq_pz; rw [if_pos (by omega)]
    have eq : xq_put 2 (yK A).1 (yK A).2 (yS A) = (fun i => if i = (yK A).1 then yS A else (yK A).2 i) := by unfold xq_put; rw [if_pos (by omega)]
    rw [ep, eq]
    have loop : ∀ (k i : Nat) (lv : xa_L) (M1 : xa_M) (h : Nat → Int32), lv 0 = some (.ref c) → lv 1 = some (.int (nI i)) → i + k = 31 → xn c M r (xb_u g 9 h) M1 → (∀ j, j < 31 * (yK A).1 → h j = g 9 j) → (∀ j, j < i → h (31 * (yK A).1 + j) = g 2 j) → ∃ y0, xa_E 154 13 lv [] M1 y0 ∧ xm2 c M (nI ((yK A).1 + 1)) (yT A, yS A, yX A, yU A, ((yK A).1 + 1, fun i => if i = (yK A).1 then yS A else (yK A).2 i), yG A) y0 := by
      intro k
      induction k with
      | zero =>
        intro i lv M1 h h0 h1 e hn ho hk
        have e : i = 31 := by omega
        subst e
        obtain ⟨k0, -⟩ := hn.2
        unfold xb_c at k0
        simp (disch := omega) only [↓ra_154_13, ↓ra_154_14, ↓ra_154_16, ↓ra_154_45, ↓ra_154_46, ↓ra_154_47, ↓ra_154_50, ↓ra_154_51, ↓ra_154_52, ↓ra_154_55, ↓ra_154_56, ↓ra_154_59, xa_kli, xa_klr, xa_kll, xa_ki, xa_kl, xa_kr, xa_kii, xa_kk, xa_kir, xa_krr, xa_kiir, xa_krir, xa_kdup, xa_kdup2, xa_kcp, xa_gf, xa_pf, xa_ga, xa_pa, xa_gq, xa_pq, xa_gl, xa_args, xa_ri, xa_rz, xa_rv, xa_s1, xa_s2, xa_c1, eq_self, List.getElem?_cons_succ, List.getElem?_cons_zero, true_and, and_true, nI_add, pk_mul, xt_in, xt_cl, xt_i0, xt_i1, xa_kc, xa_w8, xa_fit, lg_sl, List.flatMap_cons, List.flatMap_nil, List.map_cons, List.map_nil, List.sum_cons, List.sum_nil, Value.category, List.length_cons, List.length_nil, List.length_append, xa_rc, xa_rf, exists_eq_left, exists_eq', Option.some.injEq, Sum.inr.injEq, Prod.mk.injEq, Option.toList_some, Option.toList_none, List.cons_append, List.nil_append, Nat.reduceAdd, Nat.reduceLeDiff, Nat.reduceLT, List.set_cons_zero, List.set_cons_succ, eq_self, or_true, true_or, reduceIte, xt_ne, h0, h1, k0, hk1, xt_st, xt_le, Nat.le_refl]
        refine xm2_n (xn_f (r2 := upd r 20 (nI ((yK A).1 + 1))) hn) ⟨⟨r2, r3, r5, r6⟩, xv_T_r hV b6 r3 rfl rfl rfl rfl, hS, ⟨hx1, hx2⟩, ⟨hu1, hu2⟩, ⟨rfl, fun j hj => ?_⟩, ⟨hg1, hg2⟩⟩
        have hj : j < (yK A).1 + 1 := hj
        show xv_S (fun k => h (31 * j + k)) _ _ (if j = (yK A).1 then yS A else (yK A).2 j)
        by_cases e : j = (yK A).1
        · rw [if_pos e]
          exact xv_S_cg hS (fun k hk' => by rw [e]; exact hk k hk') b6 b7
        · rw [if_neg e]
          exact xv_S_cg (hk2 j (by omega)) (fun k hk' => ho _ (by omega)) b6 b7
      | succ k ih =>
        intro i lv M1 h h0 h1 e hn ho hk
        obtain ⟨k0, k1, k2, k3, k4, k5, k6, k7, k8, k9⟩ := hn.2
        unfold xb_c at k0
        rw [xb_un _ _ _ _ (by omega)] at k2
        rw [xb_ue] at k9
        simp (disch := omega) only [↓ra_154_13, ↓ra_154_14, ↓ra_154_16, xa_kli, xa_klr, xa_kll, xa_ki, xa_kl, xa_kr, xa_kii, xa_kk, xa_kir, xa_krr, xa_kiir, xa_krir, xa_kdup, xa_kdup2, xa_kcp, xa_gf, xa_pf, xa_ga, xa_pa, xa_gq, xa_pq, xa_gl, xa_args, xa_ri, xa_rz, xa_rv, xa_s1, xa_s2, xa_c1, eq_self, List.getElem?_cons_succ, List.getElem?_cons_zero, true_and, and_true, nI_add, pk_mul, xt_in, xt_cl, xt_i0, xt_i1, xa_kc, xa_w8, xa_fit, lg_sl, List.flatMap_cons, List.flatMap_nil, List.map_cons, List.map_nil, List.sum_cons, List.sum_nil, Value.category, List.length_cons, List.length_nil, List.length_append, xa_rc, xa_rf, exists_eq_left, exists_eq', Option.some.injEq, Sum.inr.injEq, Prod.mk.injEq, Option.toList_some, Option.toList_none, List.cons_append, List.nil_append, Nat.reduceAdd, Nat.reduceLeDiff, Nat.reduceLT, List.set_cons_zero, List.set_cons_succ, eq_self, or_true, true_or, reduceIte, xt_ne, h0, h1, xt_le]
        simp only [if_neg (show ¬ 31 ≤ i by omega)]
        simp (disch := omega) only [↓ra_154_19, ↓ra_154_20, ↓ra_154_23, ↓ra_154_25, ↓ra_154_26, ↓ra_154_29, ↓ra_154_30, ↓ra_154_31, ↓ra_154_32, ↓ra_154_33, ↓ra_154_36, ↓ra_154_37, ↓ra_154_38, ↓ra_154_39, ↓ra_154_42, xa_kli, xa_klr, xa_kll, xa_ki, xa_kl, xa_kr, xa_kii, xa_kk, xa_kir, xa_krr, xa_kiir, xa_krir, xa_kdup, xa_kdup2, xa_kcp, xa_gf, xa_pf, xa_ga, xa_pa, xa_gq, xa_pq, xa_gl, xa_args, xa_ri, xa_rz, xa_rv, xa_s1, xa_s2, xa_c1, eq_self, List.getElem?_cons_succ, List.getElem?_cons_zero, true_and, and_true, nI_add, pk_mul, xt_in, xt_cl, xt_i0, xt_i1, xa_kc, xa_w8, xa_fit, lg_sl, List.flatMap_cons, List.flatMap_nil, List.map_cons, List.map_nil, List.sum_cons, List.sum_nil, Value.category, List.length_cons, List.length_nil, List.length_append, xa_rc, xa_rf, exists_eq_left, exists_eq', Option.some.injEq, Sum.inr.injEq, Prod.mk.injEq, Option.toList_some, Option.toList_none, List.cons_append, List.nil_append, Nat.reduceAdd, Nat.reduceLeDiff, Nat.reduceLT, List.set_cons_zero, List.set_cons_succ, eq_self, or_true, true_or, reduceIte, xt_ne, h0, h1, k0, k2, k9, hk1]
        refine ih (i + 1) _ _ (upd h (31 * (yK A).1 + i) (g 2 i)) (by simp [xa_s1, xa_c1, h0]) (by simp [xa_s1, xa_c1]) (by omega) (xn_s9' _ hn) (fun j hj => ?_) (fun j hj => ?_)
        · rw [xt_us, if_neg (by omega)]; exact ho j hj
        · rw [xt_us]
          by_cases ej : j = i
          · rw [if_pos (by omega), ej]
          · rw [if_neg (by omega)]; exact hk j (by omega)
    simp (disch := omega) only [↓ra_154_11, ↓ra_154_12, xa_kli, xa_klr, xa_kll, xa_ki, xa_kl, xa_kr, xa_kii, xa_kk, xa_kir, xa_krr, xa_kiir, xa_krir, xa_kdup, xa_kdup2, xa_kcp, xa_gf, xa_pf, xa_ga, xa_pa, xa_gq, xa_pq, xa_gl, xa_args, xa_ri, xa_rz, xa_rv, xa_s1, xa_s2, xa_c1, eq_self, List.getElem?_cons_succ, List.getElem?_cons_zero, true_and, and_true, nI_add, pk_mul, xt_in, xt_cl, xt_i0, xt_i1, xa_kc, xa_w8, xa_fit, lg_sl, List.flatMap_cons, List.flatMap_nil, List.map_cons, List.map_nil, List.sum_cons, List.sum_nil, Value.category, List.length_cons, List.length_nil, List.length_append, xa_rc, xa_rf, exists_eq_left, exists_eq', Option.some.injEq, Sum.inr.injEq, Prod.mk.injEq, Option.toList_some, Option.toList_none, List.cons_append, List.nil_append, Nat.reduceAdd, Nat.reduceLeDiff, Nat.reduceLT, List.set_cons_zero, List.set_cons_succ, eq_self, or_true, true_or, reduceIte, xt_ne]
    exact loop 31 0 _ M (g 9) (by simp [xa_s1, xa_c1, h0]) (by simp [xa_s1, xa_c1]) (by omega) (by rw [xb_ui]; exact xn_r hB) (fun _ _ => rfl) (fun j hj => absurd hj (Nat.not_lt_zero j))
