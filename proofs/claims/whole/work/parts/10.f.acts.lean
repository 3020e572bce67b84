theorem xw_S {r : Nat → Int32} {g : Nat → Nat → Int32} {A : xt_A} {h : Nat → Int32} {S : xt_S} (hw : xw r g A) (hS : xv_S h (xnS (yT A)) (xnM (yT A)) S) : xw r (xb_u g 2 h) (yT A, S, yX A, yU A, yK A, yG A) := by
  obtain ⟨hr, hV, -, hX, hU, hK, hG⟩ := hw
  exact ⟨hr, hV, hS, hX, hU, hK, hG⟩
theorem pd_notes {M : xa_M} {c u : Nat} {r : Nat → Int32} {g : Nat → Nat → Int32} (hB : xb_M M c r g) (hu : r 14 = nI u) (hu8 : u ≤ 8) : ∃ z, xa_E 124 0 (xa_ent [.ref c]) [] M z ∧ z.1 = none ∧ ∃ r1 h, xn c M r1 (xb_u g 5 h) z.2 ∧ r1 14 = nI (xq_pz 8 u) ∧ (∀ j, j ≠ 14 → r1 j = r j) ∧ (∀ j, j < 31 * (xq_pz 8 u - 1) → h j = g 5 (if u < 8 then j else j + 31)) ∧ ∀ k, k < 31 → h (31 * (xq_pz 8 u - 1) + k) = g 2 k := by
  refine xa_ge1 (fun lv h0 => ?_)
  have rest : ∀ (v : Nat) (lv : xa_L) (M1 : xa_M) (r1 h : Nat → Int32), v ≤ 7 → lv 0 = some (.ref c) → xn c M r1 (xb_u g 5 h) M1 → r1 14 = nI v → (∀ j, j ≠ 14 → r1 j = r j) → ∃ z, xa_E 124 46 lv [] M1 z ∧ z.1 = none ∧ ∃ r2 h2, xn c M r2 (xb_u g 5 h2) z.2 ∧ r2 14 = nI (v + 1) ∧ (∀ j, j ≠ 14 → r2 j = r j) ∧ (∀ j, j < 31 * v → h2 j = h j) ∧ ∀ k, k < 31 → h2 (31 * v + k) = g 2 k := by
    intro v lv M1 r1 h hv h0 hn e14 er
    have loop : ∀ (k i : Nat) (lv : xa_L) (M1 : xa_M) (h2 : Nat → Int32), lv 0 = some (.ref c) → lv 1 = some (.int (nI i)) → i + k = 31 → xn c M r1 (xb_u g 5 h2) M1 → (∀ j, j < 31 * v → h2 j = h j) → (∀ k, k < i → h2 (31 * v + k) = g 2 k) → ∃ z, xa_E 124 48 lv [] M1 z ∧ z.1 = none ∧ ∃ r2 h2, xn c M r2 (xb_u g 5 h2) z.2 ∧ r2 14 = nI (v + 1) ∧ (∀ j, j ≠ 14 → r2 j = r j) ∧ (∀ j, j < 31 * v → h2 j = h j) ∧ ∀ k, k < 31 → h2 (31 * v + k) = g 2 k := by
      intro k
      induction k with
      | zero =>
        intro i lv M1 h2 h0 h1 e hn ho hk
        have e : i = 31 := by omega
        subst e
        obtain ⟨m0, -⟩ := hn.2
        unfold xb_c at m0
        simp (disch := omega) only [↓ra_124_48, ↓ra_124_49, ↓ra_124_51, ↓ra_124_80, ↓ra_124_81, ↓ra_124_82, ↓ra_124_85, ↓ra_124_86, ↓ra_124_87, ↓ra_124_90, xa_kli, xa_klr, xa_kll, xa_ki, xa_kl, xa_kr, xa_kii, xa_kk, xa_kir, xa_krr, xa_kiir, xa_krir, xa_kdup, xa_kdup2, xa_kcp, xa_gf, xa_pf, xa_ga, xa_pa, xa_gq, xa_pq, xa_gl, xa_args, xa_ri, xa_rz, xa_rv, xa_s1, xa_s2, xa_c1, eq_self, List.getElem?_cons_succ, List.getElem?_cons_zero, true_and, and_true, nI_add, pk_mul, xt_in, xt_cl, xt_i0, xt_i1, xa_kc, xa_w8, xa_fit, lg_sl, List.flatMap_cons, List.flatMap_nil, List.map_cons, List.map_nil, List.sum_cons, List.sum_nil, Value.category, List.length_cons, List.length_nil, List.length_append, xa_rc, xa_rf, exists_eq_left, exists_eq', Option.some.injEq, Sum.inr.injEq, Prod.mk.injEq, Option.toList_some, Option.toList_none, List.cons_append, List.nil_append, Nat.reduceAdd, Nat.reduceLeDiff, Nat.reduceLT, List.set_cons_zero, List.set_cons_succ, eq_self, or_true, true_or, reduceIte, xt_ne, h0, h1, m0, e14, xt_le, Nat.le_refl]
        refine ⟨upd r1 14 (nI (v + 1)), h2, xn_f hn, by rw [xt_us, if_pos rfl], fun j hj => by rw [xt_us, if_neg hj]; exact er j hj, ho, hk⟩
      | succ k ih =>
        intro i lv M1 h2 h0 h1 e hn ho hk
        obtain ⟨m0, m1, m2, m3, m4, m5, -⟩ := hn.2
        unfold xb_c at m0
        rw [xb_un _ _ _ _ (by omega)] at m2
        rw [xb_ue] at m5
        simp (disch := omega) only [↓ra_124_48, ↓ra_124_49, ↓ra_124_51, xa_kli, xa_klr, xa_kll, xa_ki, xa_kl, xa_kr, xa_kii, xa_kk, xa_kir, xa_krr, xa_kiir, xa_krir, xa_kdup, xa_kdup2, xa_kcp, xa_gf, xa_pf, xa_ga, xa_pa, xa_gq, xa_pq, xa_gl, xa_args, xa_ri, xa_rz, xa_rv, xa_s1, xa_s2, xa_c1, eq_self, List.getElem?_cons_succ, List.getElem?_cons_zero, true_and, and_true, nI_add, pk_mul, xt_in, xt_cl, xt_i0, xt_i1, xa_kc, xa_w8, xa_fit, lg_sl, List.flatMap_cons, List.flatMap_nil, List.map_cons, List.map_nil, List.sum_cons, List.sum_nil, Value.category, List.length_cons, List.length_nil, List.length_append, xa_rc, xa_rf, exists_eq_left, exists_eq', Option.some.injEq, Sum.inr.injEq, Prod.mk.injEq, Option.toList_some, Option.toList_none, List.cons_append, List.nil_append, Nat.reduceAdd, Nat.reduceLeDiff, Nat.reduceLT, List.set_cons_zero, List.set_cons_succ, eq_self, or_true, true_or, reduceIte, xt_ne, h0, h1, xt_le]
        simp only [if_neg (show ¬ 31 ≤ i by omega)]
        simp (disch := omega) only [↓ra_124_54, ↓ra_124_55, ↓ra_124_58, ↓ra_124_60, ↓ra_124_61, ↓ra_124_64, ↓ra_124_65, ↓ra_124_66, ↓ra_124_67, ↓ra_124_68, ↓ra_124_71, ↓ra_124_72, ↓ra_124_73, ↓ra_124_74, ↓ra_124_77, xa_kli, xa_klr, xa_kll, xa_ki, xa_kl, xa_kr, xa_kii, xa_kk, xa_kir, xa_krr, xa_kiir, xa_krir, xa_kdup, xa_kdup2, xa_kcp, xa_gf, xa_pf, xa_ga, xa_pa, xa_gq, xa_pq, xa_gl, xa_args, xa_ri, xa_rz, xa_rv, xa_s1, xa_s2, xa_c1, eq_self, List.getElem?_cons_succ, List.getElem?_cons_zero, true_and, and_true, nI_add, pk_mul, xt_in, xt_cl, xt_i0, xt_i1, xa_kc, xa_w8, xa_fit, lg_sl, List.flatMap_cons, List.flatMap_nil, List.map_cons, List.map_nil, List.sum_cons, List.sum_nil, Value.category, List.length_cons, List.length_nil, List.length_append, xa_rc, xa_rf, exists_eq_left, exists_eq', Option.some.injEq, Sum.inr.injEq, Prod.mk.injEq, Option.toList_some, Option.toList_none, List.cons_append, List.nil_append, Nat.reduceAdd, Nat.reduceLeDiff, Nat.reduceLT, List.set_cons_zero, List.set_cons_succ, eq_self, or_true, true_or, reduceIte, xt_ne, h0, h1, m0, m2, m5, e14]
        refine ih (i + 1) _ _ (upd h2 (31 * v + i) (g 2 i)) (by simp [xa_s1, xa_c1, h0]) (by simp [xa_s1, xa_c1]) (by omega) (xn_s5' _ hn) (fun j hj => ?_) (fun j hj => ?_)
        · rw [xt_us, if_neg (by omega)]; exact ho j hj
        · rw [xt_us]
          by_cases ej : j = i
          · rw [if_pos (by omega), ej]
          · rw [if_neg (by omega)]; exact hk j (by omega)
    simp (disch := omega) only [↓ra_124_46, ↓ra_124_47, xa_kli, xa_klr, xa_kll, xa_ki, xa_kl, xa_kr, xa_kii, xa_kk, xa_kir, xa_krr, xa_kiir, xa_krir, xa_kdup, xa_kdup2, xa_kcp, xa_gf, xa_pf, xa_ga, xa_pa, xa_gq, xa_pq, xa_gl, xa_args, xa_ri, xa_rz, xa_rv, xa_s1, xa_s2, xa_c1, eq_self, List.getElem?_cons_succ, List.getElem?_cons_zero, true_and, and_true, nI_add, pk_mul, xt_in, xt_cl, xt_i0, xt_i1, xa_kc, xa_w8, xa_fit, lg_sl, List.flatMap_cons, List.flatMap_nil, List.map_cons, List.map_nil, List.sum_cons, List.sum_nil, Value.category, List.length_cons, List.length_nil, List.length_append, xa_rc, xa_rf, exists_eq_left, exists_eq', Option.some.injEq, Sum.inr.injEq, Prod.mk.injEq, Option.toList_some, Option.toList_none, List.cons_append, List.nil_append, Nat.reduceAdd, Nat.reduceLeDiff, Nat.reduceLT, List.set_cons_zero, List.set_cons_succ, eq_self, or_true, true_or, reduceIte, xt_ne]
    exact loop 31 0 _ M1 h (by simp [xa_s1, xa_c1, h0]) (by simp [xa_s1, xa_c1]) (by omega) hn (fun _ _ => rfl) (fun k hk => absurd hk (Nat.not_lt_zero k))
  obtain ⟨m0, m1, m2, m3, m4, m5, -⟩ := id hB
  unfold xb_c at m0
  simp (disch := omega) only [↓ra_124_0, ↓ra_124_1, ↓ra_124_4, ↓ra_124_6, xa_kli, xa_klr, xa_kll, xa_ki, xa_kl, xa_kr, xa_kii, xa_kk, xa_kir, xa_krr, xa_kiir, xa_krir, xa_kdup, xa_kdup2, xa_kcp, xa_gf, xa_pf, xa_ga, xa_pa, xa_gq, xa_pq, xa_gl, xa_args, xa_ri, xa_rz, xa_rv, xa_s1, xa_s2, xa_c1, eq_self, List.getElem?_cons_succ, List.getElem?_cons_zero, true_and, and_true, nI_add, pk_mul, xt_in, xt_cl, xt_i0, xt_i1, xa_kc, xa_w8, xa_fit, lg_sl, List.flatMap_cons, List.flatMap_nil, List.map_cons, List.map_nil, List.sum_cons, List.sum_nil, Value.category, List.length_cons, List.length_nil, List.length_append, xa_rc, xa_rf, exists_eq_left, exists_eq', Option.some.injEq, Sum.inr.injEq, Prod.mk.injEq, Option.toList_some, Option.toList_none, List.cons_append, List.nil_append, Nat.reduceAdd, Nat.reduceLeDiff, Nat.reduceLT, List.set_cons_zero, List.set_cons_succ, eq_self, or_true, true_or, reduceIte, xt_ne, h0, m0, hu, xt_eq]
  by_cases c8 : u = 8
  · simp only [if_pos c8]
    have ep : xq_pz 8 u = 8 := by unfold xq_pz; rw [if_neg (by omega)]
    have loop : ∀ (k i : Nat) (lv : xa_L) (M1 : xa_M) (h : Nat → Int32), lv 0 = some (.ref c) → lv 1 = some (.int (nI i)) → i + k = 248 → 31 ≤ i → xn c M r (xb_u g 5 h) M1 → (∀ j, h j = if j + 31 < i then g 5 (j + 31) else g 5 j) → ∃ z, xa_E 124 12 lv [] M1 z ∧ z.1 = none ∧ ∃ r1 h, xn c M r1 (xb_u g 5 h) z.2 ∧ r1 14 = nI (xq_pz 8 u) ∧ (∀ j, j ≠ 14 → r1 j = r j) ∧ (∀ j, j < 31 * (xq_pz 8 u - 1) → h j = g 5 (if u < 8 then j else j + 31)) ∧ ∀ k, k < 31 → h (31 * (xq_pz 8 u - 1) + k) = g 2 k := by
      intro k
      induction k with
      | zero =>
        intro i lv M1 h h0 h1 e e31 hn ho
        have e : i = 248 := by omega
        subst e
        obtain ⟨k0, -⟩ := hn.2
        unfold xb_c at k0
        simp (disch := omega) only [↓ra_124_12, ↓ra_124_13, ↓ra_124_16, ↓ra_124_40, ↓ra_124_41, ↓ra_124_43, xa_kli, xa_klr, xa_kll, xa_ki, xa_kl, xa_kr, xa_kii, xa_kk, xa_kir, xa_krr, xa_kiir, xa_krir, xa_kdup, xa_kdup2, xa_kcp, xa_gf, xa_pf, xa_ga, xa_pa, xa_gq, xa_pq, xa_gl, xa_args, xa_ri, xa_rz, xa_rv, xa_s1, xa_s2, xa_c1, eq_self, List.getElem?_cons_succ, List.getElem?_cons_zero, true_and, and_true, nI_add, pk_mul, xt_in, xt_cl, xt_i0, xt_i1, xa_kc, xa_w8, xa_fit, lg_sl, List.flatMap_cons, List.flatMap_nil, List.map_cons, List.map_nil, List.sum_cons, List.sum_nil, Value.category, List.length_cons, List.length_nil, List.length_append, xa_rc, xa_rf, exists_eq_left, exists_eq', Option.some.injEq, Sum.inr.injEq, Prod.mk.injEq, Option.toList_some, Option.toList_none, List.cons_append, List.nil_append, Nat.reduceAdd, Nat.reduceLeDiff, Nat.reduceLT, List.set_cons_zero, List.set_cons_succ, eq_self, or_true, true_or, reduceIte, xt_ne, h0, h1, k0, xt_le, Nat.le_refl]
        obtain ⟨z, q1, q2, r2, h2, q3, q4, q5, q6, q7⟩ := rest 7 lv (xa_st M1 c (.inr (7, xb_c c (upd r 14 (nI 7))))) (upd r 14 (nI 7)) h (by omega) h0 (xn_f hn) (by rw [xt_us, if_pos rfl]) (fun j hj => by rw [xt_us, if_neg hj])
        refine ⟨z, q1, q2, r2, h2, q3, by rw [ep]; exact q4, q5, fun j hj => ?_, fun k hk => ?_⟩
        · rw [ep] at hj
          rw [q6 j (by omega), ho j, if_pos (by omega), if_neg (by omega)]
        · rw [ep]; exact q7 k hk
      | succ k ih =>
        intro i lv M1 h h0 h1 e e31 hn ho
        obtain ⟨k0, k1, k2, k3, k4, k5, -⟩ := hn.2
        unfold xb_c at k0
        rw [xb_ue] at k5
        have ei : h i = g 5 i := by rw [ho i, if_neg (by omega)]
        simp (disch := omega) only [↓ra_124_12, ↓ra_124_13, ↓ra_124_16, xa_kli, xa_klr, xa_kll, xa_ki, xa_kl, xa_kr, xa_kii, xa_kk, xa_kir, xa_krr, xa_kiir, xa_krir, xa_kdup, xa_kdup2, xa_kcp, xa_gf, xa_pf, xa_ga, xa_pa, xa_gq, xa_pq, xa_gl, xa_args, xa_ri, xa_rz, xa_rv, xa_s1, xa_s2, xa_c1, eq_self, List.getElem?_cons_succ, List.getElem?_cons_zero, true_and, and_true, nI_add, pk_mul, xt_in, xt_cl, xt_i0, xt_i1, xa_kc, xa_w8, xa_fit, lg_sl, List.flatMap_cons, List.flatMap_nil, List.map_cons, List.map_nil, List.sum_cons, List.sum_nil, Value.category, List.length_cons, List.length_nil, List.length_append, xa_rc, xa_rf, exists_eq_left, exists_eq', Option.some.injEq, Sum.inr.injEq, Prod.mk.injEq, Option.toList_some, Option.toList_none, List.cons_append, List.nil_append, Nat.reduceAdd, Nat.reduceLeDiff, Nat.reduceLT, List.set_cons_zero, List.set_cons_succ, eq_self, or_true, true_or, reduceIte, xt_ne, h0, h1, xt_le]
        simp only [if_neg (show ¬ 248 ≤ i by omega)]
        simp (disch := omega) only [↓ra_124_19, ↓ra_124_20, ↓ra_124_23, ↓ra_124_24, ↓ra_124_26, ↓ra_124_27, ↓ra_124_28, ↓ra_124_31, ↓ra_124_32, ↓ra_124_33, ↓ra_124_34, ↓ra_124_37, xa_kli, xa_klr, xa_kll, xa_ki, xa_kl, xa_kr, xa_kii, xa_kk, xa_kir, xa_krr, xa_kiir, xa_krir, xa_kdup, xa_kdup2, xa_kcp, xa_gf, xa_pf, xa_ga, xa_pa, xa_gq, xa_pq, xa_gl, xa_args, xa_ri, xa_rz, xa_rv, xa_s1, xa_s2, xa_c1, eq_self, List.getElem?_cons_succ, List.getElem?_cons_zero, true_and, and_true, nI_add, pk_mul, xt_in, xt_cl, xt_i0, xt_i1, xa_kc, xa_w8, xa_fit, lg_sl, List.flatMap_cons, List.flatMap_nil, List.map_cons, List.map_nil, List.sum_cons, List.sum_nil, Value.category, List.length_cons, List.length_nil, List.length_append, xa_rc, xa_rf, exists_eq_left, exists_eq', Option.some.injEq, Sum.inr.injEq, Prod.mk.injEq, Option.toList_some, Option.toList_none, List.cons_append, List.nil_append, Nat.reduceAdd, Nat.reduceLeDiff, Nat.reduceLT, List.set_cons_zero, List.set_cons_succ, eq_self, or_true, true_or, reduceIte, xt_ne, h0, h1, k0, k5, xt_sub, ei]
        refine ih (i + 1) _ _ (upd h (i - 31) (g 5 i)) (by simp [xa_s1, xa_c1, h0]) (by simp [xa_s1, xa_c1]) (by omega) (by omega) (xn_s5' _ hn) (fun j => ?_)
        rw [xt_us]
        by_cases ej : j = i - 31
        · rw [if_pos ej, if_pos (by omega)]
          exact congrArg (g 5) (by omega)
        · rw [if_neg ej, ho j]
          by_cases cj : j + 31 < i
          · rw [if_pos cj, if_pos (by omega)]
          · rw [if_neg cj, if_neg (by omega)]
    simp (disch := omega) only [↓ra_124_9, ↓ra_124_11, xa_kli, xa_klr, xa_kll, xa_ki, xa_kl, xa_kr, xa_kii, xa_kk, xa_kir, xa_krr, xa_kiir, xa_krir, xa_kdup, xa_kdup2, xa_kcp, xa_gf, xa_pf, xa_ga, xa_pa, xa_gq, xa_pq, xa_gl, xa_args, xa_ri, xa_rz, xa_rv, xa_s1, xa_s2, xa_c1, eq_self, List.getElem?_cons_succ, List.getElem?_cons_zero, true_and, and_true, nI_add, pk_mul, xt_in, xt_cl, xt_i0, xt_i1, xa_kc, xa_w8, xa_fit, lg_sl, List.flatMap_cons, List.flatMap_nil, List.map_cons, List.map_nil, List.sum_cons, List.sum_nil, Value.category, List.length_cons, List.length_nil, List.length_append, xa_rc, xa_rf, exists_eq_left, exists_eq', Option.some.injEq, Sum.inr.injEq, Prod.mk.injEq, Option.toList_some, Option.toList_none, List.cons_append, List.nil_append, Nat.reduceAdd, Nat.reduceLeDiff, Nat.reduceLT, List.set_cons_zero, List.set_cons_succ, eq_self, or_true, true_or, reduceIte, xt_ne]
    exact loop 217 31 _ M (g 5) (by simp [xa_s1, xa_c1, h0]) (by simp [xa_s1, xa_c1]) (by omega) (by omega) (by rw [xb_ui]; exact xn_r hB) (fun j => by split <;> (first | rfl | omega))
  · simp only [if_neg c8]
    have ep : xq_pz 8 u = u + 1 := by unfold xq_pz; rw [if_pos (by omega)]
    obtain ⟨z, q1, q2, r2, h2, q3, q4, q5, q6, q7⟩ := rest u lv M r (g 5) (by omega) h0 (by rw [xb_ui]; exact xn_r hB) hu (fun _ _ => rfl)
    refine ⟨z, q1, q2, r2, h2, q3, by rw [ep]; exact q4, q5, fun j hj => ?_, fun k hk => ?_⟩
    · rw [ep] at hj
      rw [q6 j (by omega), if_pos (by omega)]
    · rw [ep]; exact q7 k hk
theorem pd_note {M : xa_M} {c : Nat} {A : xt_A} (hh : xh_B M c A) (iA : xi_A A) : ∃ z, xa_E 124 0 (xa_ent [.ref c]) [] M z ∧ z.1 = none ∧ xa_fr c (c + 10) M z.2 ∧ xh_B z.2 c (yT A, yS A, yX A, xq_pu A, yK A, yG A) := by
  obtain ⟨r, g, hB, hw⟩ := id hh
  have hA := xw_A hB hw
  obtain ⟨⟨r2, r3, r5, r6⟩, hV, hS, ⟨hx1, hx2⟩, ⟨hu1, hu2⟩, ⟨hk1, hk2⟩, ⟨hg1, hg2⟩⟩ := id hw
  obtain ⟨iT, i5, i60, i1, ⟨iS, iD⟩, iX, iU, iK, iG⟩ := id iA
  obtain ⟨⟨b1, b2, b3, b4, b5, b6, b7, b8⟩, bs, bm, bw⟩ := id iT
  have ix := iX.1
  have iu := iU.1
  have ik := iK.1
  have ig := iG.1
  obtain ⟨⟨v0, v1, v2, v3, v4, v5⟩, vs, vm, -, vw⟩ := id hV
  obtain ⟨m0, m1, m2, m3, m4, m5, m6, m7, m8, m9⟩ := id hB
  unfold xb_c at m0
  obtain ⟨z, q1, q2, r1, h, q3, q4, q5, q6, q7⟩ := pd_notes hB hu1 iu
  refine ⟨z, q1, q2, q3.1, r1, _, q3.2, ⟨(q5 2 (by omega)).trans r2, (q5 3 (by omega)).trans r3, (q5 5 (by omega)).trans r5, (q5 6 (by omega)).trans r6⟩, xv_T_r hV b6 r3 (q5 2 (by omega)) (q5 3 (by omega)) (q5 5 (by omega)) (q5 6 (by omega)), hS, ⟨(q5 8 (by omega)).trans hx1, hx2⟩, ⟨q4, fun i hi => ?_⟩, ⟨(q5 20 (by omega)).trans hk1, hk2⟩, ⟨(q5 18 (by omega)).trans hg1, hg2⟩⟩
  have hi : i < xq_pz 8 (yU A).1 := hi
  show xv_S (fun k => h (31 * i + k)) _ _ (xq_put 8 (yU A).1 (yU A).2 (yS A) i)
  by_cases e : i = xq_pz 8 (yU A).1 - 1
  · have es : xq_put 8 (yU A).1 (yU A).2 (yS A) i = yS A := by
      unfold xq_put
      unfold xq_pz at e
      by_cases c8 : (yU A).1 < 8
      · rw [if_pos c8] at e ⊢; exact if_pos (by omega)
      · rw [if_neg c8] at e ⊢; exact if_pos (by omega)
    rw [es]
    exact xv_S_cg hS (fun k hk => by rw [e]; exact q7 k hk) b6 b7
  · have es : xq_put 8 (yU A).1 (yU A).2 (yS A) i = (yU A).2 (if (yU A).1 < 8 then i else i + 1) := by
      unfold xq_put
      unfold xq_pz at e
      by_cases c8 : (yU A).1 < 8
      · rw [if_pos c8] at e ⊢; rw [if_pos c8]; exact if_neg (by omega)
      · rw [if_neg c8] at e ⊢; rw [if_neg c8]; exact if_neg (by omega)
    rw [es]
    have hj : (if (yU A).1 < 8 then i else i + 1) < (yU A).1 := by
      unfold xq_pz at hi e
      by_cases c8 : (yU A).1 < 8
      · rw [if_pos c8] at hi e ⊢; omega
      · rw [if_neg c8] at hi e ⊢; omega
    refine xv_S_cg (hu2 _ hj) (fun k hk => ?_) b6 b7
    show h (31 * i + k) = _
    rw [q6 _ (by omega)]
    by_cases c8 : (yU A).1 < 8
    · rw [if_pos c8, if_pos c8]
    · rw [if_neg c8, if_neg c8]; exact congrArg (g 5) (by omega)
theorem pe_move_n {M : xa_M} {c : Nat} {A : xt_A} (hh : xh_B M c A) (iA : xi_A A) {x y : Int32} (h : ¬ (xt_k x 0 (xnS (yT A)) ∧ xt_k y 0 (xC (yT A)))) : xa_E 127 0 (xa_ent [.ref c, .int x, .int y]) [] M (some (.int (Int32.ofInt (-1))), M) := by
  obtain ⟨r, g, hB, hw⟩ := id hh
  have hA := xw_A hB hw
  obtain ⟨⟨r2, r3, r5, r6⟩, hV, hS, ⟨hx1, hx2⟩, ⟨hu1, hu2⟩, ⟨hk1, hk2⟩, ⟨hg1, hg2⟩⟩ := id hw
  obtain ⟨iT, i5, i60, i1, ⟨iS, iD⟩, iX, iU, iK, iG⟩ := id iA
  obtain ⟨⟨b1, b2, b3, b4, b5, b6, b7, b8⟩, bs, bm, bw⟩ := id iT
  have ix := iX.1
  have iu := iU.1
  have ik := iK.1
  have ig := iG.1
  obtain ⟨⟨v0, v1, v2, v3, v4, v5⟩, vs, vm, -, vw⟩ := id hV
  obtain ⟨m0, m1, m2, m3, m4, m5, m6, m7, m8, m9⟩ := id hB
  unfold xb_c at m0
  refine xa_go3 (fun lv h0 h1 h2 => ?_)
  by_cases a0 : xt_k x 0 (xnS (yT A))
  · have a1 : ¬ xt_k y 0 (xC (yT A)) := fun a => h ⟨a0, a⟩
    obtain ⟨k0, -, l0, rfl⟩ := a0
    have c0 := xa_iff (pd_isSerf_y hB hV k0 l0 b6)
    have c1 := xa_iff (pd_isQuarter_n hB hV a1 b4)
    simp (disch := omega) only [↓ra_127_0, ↓ra_127_1, ↓ra_127_2, ↓ra_127_5, ↓ra_127_8, ↓ra_127_9, ↓ra_127_10, ↓ra_127_13, ↓ra_127_16, ↓ra_127_17, xa_kli, xa_klr, xa_kll, xa_ki, xa_kl, xa_kr, xa_kii, xa_kk, xa_kir, xa_krr, xa_kiir, xa_krir, xa_kdup, xa_kdup2, xa_kcp, xa_gf, xa_pf, xa_ga, xa_pa, xa_gq, xa_pq, xa_gl, xa_args, xa_ri, xa_rz, xa_rv, xa_s1, xa_s2, xa_c1, eq_self, List.getElem?_cons_succ, List.getElem?_cons_zero, true_and, and_true, nI_add, pk_mul, xt_in, xt_cl, xt_i0, xt_i1, xa_kc, xa_w8, xa_fit, lg_sl, List.flatMap_cons, List.flatMap_nil, List.map_cons, List.map_nil, List.sum_cons, List.sum_nil, Value.category, List.length_cons, List.length_nil, List.length_append, xa_rc, xa_rf, exists_eq_left, exists_eq', Option.some.injEq, Sum.inr.injEq, Prod.mk.injEq, Option.toList_some, Option.toList_none, List.cons_append, List.nil_append, Nat.reduceAdd, Nat.reduceLeDiff, Nat.reduceLT, List.set_cons_zero, List.set_cons_succ, eq_self, or_true, true_or, reduceIte, xt_ne, xt_eq, Nat.reduceEqDiff, Nat.one_ne_zero, if_false, h0, h1, h2, c0, c1, mx_96, mx_97, mx_98, mx_92, m0, nI_l]
  · have c0 := xa_iff (pd_isSerf_n hB hV a0 b6)
    simp (disch := omega) only [↓ra_127_0, ↓ra_127_1, ↓ra_127_2, ↓ra_127_5, ↓ra_127_8, ↓ra_127_9, ↓ra_127_10, ↓ra_127_13, ↓ra_127_16, ↓ra_127_17, xa_kli, xa_klr, xa_kll, xa_ki, xa_kl, xa_kr, xa_kii, xa_kk, xa_kir, xa_krr, xa_kiir, xa_krir, xa_kdup, xa_kdup2, xa_kcp, xa_gf, xa_pf, xa_ga, xa_pa, xa_gq, xa_pq, xa_gl, xa_args, xa_ri, xa_rz, xa_rv, xa_s1, xa_s2, xa_c1, eq_self, List.getElem?_cons_succ, List.getElem?_cons_zero, true_and, and_true, nI_add, pk_mul, xt_in, xt_cl, xt_i0, xt_i1, xa_kc, xa_w8, xa_fit, lg_sl, List.flatMap_cons, List.flatMap_nil, List.map_cons, List.map_nil, List.sum_cons, List.sum_nil, Value.category, List.length_cons, List.length_nil, List.length_append, xa_rc, xa_rf, exists_eq_left, exists_eq', Option.some.injEq, Sum.inr.injEq, Prod.mk.injEq, Option.toList_some, Option.toList_none, List.cons_append, List.nil_append, Nat.reduceAdd, Nat.reduceLeDiff, Nat.reduceLT, List.set_cons_zero, List.set_cons_succ, eq_self, or_true, true_or, reduceIte, xt_ne, xt_eq, Nat.reduceEqDiff, Nat.one_ne_zero, if_false, h0, h1, h2, c0, mx_96, mx_97, mx_98, mx_92, m0, nI_l]
theorem pe_move {M : xa_M} {c : Nat} {A : xt_A} (hh : xh_B M c A) (iA : xi_A A) (s q : Nat) (hs : s < xnS (yT A)) (hq : q < xC (yT A)) : ∃ y0, xa_E 127 0 (xa_ent [.ref c, .int (nI s), .int (nI q)]) [] M y0 ∧ xm2 c M ((xs_move A s q).1) (xs_move A s q).2 y0 := by
  obtain ⟨r, g, hB, hw⟩ := id hh
  have hA := xw_A hB hw
  obtain ⟨⟨r2, r3, r5, r6⟩, hV, hS, ⟨hx1, hx2⟩, ⟨hu1, hu2⟩, ⟨hk1, hk2⟩, ⟨hg1, hg2⟩⟩ := id hw
  obtain ⟨iT, i5, i60, i1, ⟨iS, iD⟩, iX, iU, iK, iG⟩ := id iA
  obtain ⟨⟨b1, b2, b3, b4, b5, b6, b7, b8⟩, bs, bm, bw⟩ := id iT
  have ix := iX.1
  have iu := iU.1
  have ik := iK.1
  have ig := iG.1
  obtain ⟨⟨v0, v1, v2, v3, v4, v5⟩, vs, vm, -, vw⟩ := id hV
  obtain ⟨m0, m1, m2, m3, m4, m5, m6, m7, m8, m9⟩ := id hB
  unfold xb_c at m0
  have cn := xa_iff (pd_isSerf_y hB hV s hs b6)
  have ca := xa_iff (pd_isQuarter_y hB hV q hq b4)
  have dd := iS.2.1 s hs
  have ch := xa_iff (pd_how hA b6 s hs)
  have cq := xa_iff (pd_quarter hA b6 s hs)
  refine xa_ge3 (fun lv h0 h1 h2 => ?_)
  simp (disch := omega) only [↓ra_127_0, ↓ra_127_1, ↓ra_127_2, ↓ra_127_5, ↓ra_127_8, ↓ra_127_9, ↓ra_127_10, ↓ra_127_13, ↓ra_127_18, ↓ra_127_19, ↓ra_127_20, ↓ra_127_23, ↓ra_127_24, xa_kli, xa_klr, xa_kll, xa_ki, xa_kl, xa_kr, xa_kii, xa_kk, xa_kir, xa_krr, xa_kiir, xa_krir, xa_kdup, xa_kdup2, xa_kcp, xa_gf, xa_pf, xa_ga, xa_pa, xa_gq, xa_pq, xa_gl, xa_args, xa_ri, xa_rz, xa_rv, xa_s1, xa_s2, xa_c1, eq_self, List.getElem?_cons_succ, List.getElem?_cons_zero, true_and, and_true, nI_add, pk_mul, xt_in, xt_cl, xt_i0, xt_i1, xa_kc, xa_w8, xa_fit, lg_sl, List.flatMap_cons, List.flatMap_nil, List.map_cons, List.map_nil, List.sum_cons, List.sum_nil, Value.category, List.length_cons, List.length_nil, List.length_append, xa_rc, xa_rf, exists_eq_left, exists_eq', Option.some.injEq, Sum.inr.injEq, Prod.mk.injEq, Option.toList_some, Option.toList_none, List.cons_append, List.nil_append, Nat.reduceAdd, Nat.reduceLeDiff, Nat.reduceLT, List.set_cons_zero, List.set_cons_succ, eq_self, or_true, true_or, reduceIte, xt_ne, xt_eq, Nat.reduceEqDiff, Nat.one_ne_zero, if_false, h0, h1, h2, cn, ca, mx_96, mx_98, m0, ch, mx_99, xt_lt]
  have no : ∃ y0, xa_E 127 44 lv [] M y0 ∧ xm2 c M (Int32.ofInt (-2)) A y0 := by
    simp (disch := omega) only [↓ra_127_44, ↓ra_127_46, xa_kli, xa_klr, xa_kll, xa_ki, xa_kl, xa_kr, xa_kii, xa_kk, xa_kir, xa_krr, xa_kiir, xa_krir, xa_kdup, xa_kdup2, xa_kcp, xa_gf, xa_pf, xa_ga, xa_pa, xa_gq, xa_pq, xa_gl, xa_args, xa_ri, xa_rz, xa_rv, xa_s1, xa_s2, xa_c1, eq_self, List.getElem?_cons_succ, List.getElem?_cons_zero, true_and, and_true, nI_add, pk_mul, xt_in, xt_cl, xt_i0, xt_i1, xa_kc, xa_w8, xa_fit, lg_sl, List.flatMap_cons, List.flatMap_nil, List.map_cons, List.map_nil, List.sum_cons, List.sum_nil, Value.category, List.length_cons, List.length_nil, List.length_append, xa_rc, xa_rf, exists_eq_left, exists_eq', Option.some.injEq, Sum.inr.injEq, Prod.mk.injEq, Option.toList_some, Option.toList_none, List.cons_append, List.nil_append, Nat.reduceAdd, Nat.reduceLeDiff, Nat.reduceLT, List.set_cons_zero, List.set_cons_succ, eq_self, or_true, true_or, reduceIte, xt_ne]
    exact xm2_r hh
  have yes : ¬ (2 ≤ xsh (yS A) s ∨ (xsh (yS A) s = 0 ∧ xsq (yS A) s = q)) → ∃ y0, xa_E 127 47 lv [] M y0 ∧ xm2 c M (xs_move A s q).1 (xs_move A s q).2 y0 := by
    intro hc
    unfold xs_move
    rw [if_neg hc]
    obtain ⟨⟨z1, M1⟩, cE1, c1, f1, hh1⟩ := pd_note hh iA
    have c1 : z1 = none := c1
    subst c1
    dsimp only at f1 hh1
    obtain ⟨rb, gb, hB1, hw1⟩ := id hh1
    have hA1 := xw_A hB1 hw1
    obtain ⟨n0, n1, n2, -⟩ := id hB1
    unfold xb_c at n0
    obtain ⟨⟨z2, M2⟩, cE2, c2, h, hn2, hA2⟩ := pd_moves hA1 b6 s q hs dd.1 (fun h => (dd.2.2.2.2.2 h).1)
    have c2 : z2 = none := c2
    subst c2
    dsimp only at hn2 hA2
    have cs := xa_iff (pd_stayed hA2 b6 s hs)
    obtain ⟨k0, -⟩ := id hn2.2
    unfold xb_c at k0
    simp (disch := omega) only [↓ra_127_47, ↓ra_127_48, ↓ra_127_51, ↓ra_127_52, ↓ra_127_53, ↓ra_127_54, ↓ra_127_57, ↓ra_127_58, ↓ra_127_59, ↓ra_127_62, xa_kli, xa_klr, xa_kll, xa_ki, xa_kl, xa_kr, xa_kii, xa_kk, xa_kir, xa_krr, xa_kiir, xa_krir, xa_kdup, xa_kdup2, xa_kcp, xa_gf, xa_pf, xa_ga, xa_pa, xa_gq, xa_pq, xa_gl, xa_args, xa_ri, xa_rz, xa_rv, xa_s1, xa_s2, xa_c1, eq_self, List.getElem?_cons_succ, List.getElem?_cons_zero, true_and, and_true, nI_add, pk_mul, xt_in, xt_cl, xt_i0, xt_i1, xa_kc, xa_w8, xa_fit, lg_sl, List.flatMap_cons, List.flatMap_nil, List.map_cons, List.map_nil, List.sum_cons, List.sum_nil, Value.category, List.length_cons, List.length_nil, List.length_append, xa_rc, xa_rf, exists_eq_left, exists_eq', Option.some.injEq, Sum.inr.injEq, Prod.mk.injEq, Option.toList_some, Option.toList_none, List.cons_append, List.nil_append, Nat.reduceAdd, Nat.reduceLeDiff, Nat.reduceLT, List.set_cons_zero, List.set_cons_succ, eq_self, or_true, true_or, reduceIte, xt_ne, h0, h1, h2, m0, n0, k0, xa_iff cE1, mx_124, xa_iff cE2, mx_125, cs, mx_101]
    exact ⟨rfl, xa_fr_tr f1 hn2.1, rb, _, hn2.2, xw_S hw1 hA2.2.2.1⟩
  by_cases c : 1 < xsh (yS A) s
  · simp only [if_pos c]
    unfold xs_move
    rw [if_pos (Or.inl (by omega))]
    exact no
  · simp only [if_neg c]
    simp (disch := omega) only [↓ra_127_27, ↓ra_127_28, ↓ra_127_29, ↓ra_127_32, xa_kli, xa_klr, xa_kll, xa_ki, xa_kl, xa_kr, xa_kii, xa_kk, xa_kir, xa_krr, xa_kiir, xa_krir, xa_kdup, xa_kdup2, xa_kcp, xa_gf, xa_pf, xa_ga, xa_pa, xa_gq, xa_pq, xa_gl, xa_args, xa_ri, xa_rz, xa_rv, xa_s1, xa_s2, xa_c1, eq_self, List.getElem?_cons_succ, List.getElem?_cons_zero, true_and, and_true, nI_add, pk_mul, xt_in, xt_cl, xt_i0, xt_i1, xa_kc, xa_w8, xa_fit, lg_sl, List.flatMap_cons, List.flatMap_nil, List.map_cons, List.map_nil, List.sum_cons, List.sum_nil, Value.category, List.length_cons, List.length_nil, List.length_append, xa_rc, xa_rf, exists_eq_left, exists_eq', Option.some.injEq, Sum.inr.injEq, Prod.mk.injEq, Option.toList_some, Option.toList_none, List.cons_append, List.nil_append, Nat.reduceAdd, Nat.reduceLeDiff, Nat.reduceLT, List.set_cons_zero, List.set_cons_succ, eq_self, or_true, true_or, reduceIte, xt_ne, h0, h1, h2, m0, ch, mx_99, xt_eq]
    by_cases c0 : xsh (yS A) s = 0
    · simp only [if_pos c0]
      simp (disch := omega) only [↓ra_127_35, ↓ra_127_36, ↓ra_127_37, ↓ra_127_40, ↓ra_127_41, xa_kli, xa_klr, xa_kll, xa_ki, xa_kl, xa_kr, xa_kii, xa_kk, xa_kir, xa_krr, xa_kiir, xa_krir, xa_kdup, xa_kdup2, xa_kcp, xa_gf, xa_pf, xa_ga, xa_pa, xa_gq, xa_pq, xa_gl, xa_args, xa_ri, xa_rz, xa_rv, xa_s1, xa_s2, xa_c1, eq_self, List.getElem?_cons_succ, List.getElem?_cons_zero, true_and, and_true, nI_add, pk_mul, xt_in, xt_cl, xt_i0, xt_i1, xa_kc, xa_w8, xa_fit, lg_sl, List.flatMap_cons, List.flatMap_nil, List.map_cons, List.map_nil, List.sum_cons, List.sum_nil, Value.category, List.length_cons, List.length_nil, List.length_append, xa_rc, xa_rf, exists_eq_left, exists_eq', Option.some.injEq, Sum.inr.injEq, Prod.mk.injEq, Option.toList_some, Option.toList_none, List.cons_append, List.nil_append, Nat.reduceAdd, Nat.reduceLeDiff, Nat.reduceLT, List.set_cons_zero, List.set_cons_succ, eq_self, or_true, true_or, reduceIte, xt_ne, h0, h1, h2, m0, cq, mx_100, xt_eq]
      by_cases c3 : xsq (yS A) s = q
      · simp only [if_pos c3]
        unfold xs_move
        rw [if_pos (Or.inr ⟨c0, c3⟩)]
        exact no
      · simp only [if_neg c3]
        exact yes (fun h => h.elim (fun h => by omega) (fun h => c3 h.2))
    · simp only [if_neg c0]
      exact yes (fun h => h.elim (fun h => by omega) (fun h => c0 h.1))
theorem pe_leave_n {M : xa_M} {c : Nat} {A : xt_A} (hh : xh_B M c A) (iA : xi_A A) {x : Int32} (h : ¬ (xt_k x 0 (xnS (yT A)))) : xa_E 128 0 (xa_ent [.ref c, .int x]) [] M (some (.int (Int32.ofInt (-1))), M) := by
  obtain ⟨r, g, hB, hw⟩ := id hh
  have hA := xw_A hB hw
  obtain ⟨⟨r2, r3, r5, r6⟩, hV, hS, ⟨hx1, hx2⟩, ⟨hu1, hu2⟩, ⟨hk1, hk2⟩, ⟨hg1, hg2⟩⟩ := id hw
  obtain ⟨iT, i5, i60, i1, ⟨iS, iD⟩, iX, iU, iK, iG⟩ := id iA
  obtain ⟨⟨b1, b2, b3, b4, b5, b6, b7, b8⟩, bs, bm, bw⟩ := id iT
  have ix := iX.1
  have iu := iU.1
  have ik := iK.1
  have ig := iG.1
  obtain ⟨⟨v0, v1, v2, v3, v4, v5⟩, vs, vm, -, vw⟩ := id hV
  obtain ⟨m0, m1, m2, m3, m4, m5, m6, m7, m8, m9⟩ := id hB
  unfold xb_c at m0
  refine xa_go2 (fun lv h0 h1 => ?_)
  have a0 : ¬ xt_k x 0 (xnS (yT A)) := h
  have c0 := xa_iff (pd_isSerf_n hB hV a0 b6)
  simp (disch := omega) only [↓ra_128_0, ↓ra_128_1, ↓ra_128_2, ↓ra_128_5, ↓ra_128_8, ↓ra_128_9, xa_kli, xa_klr, xa_kll, xa_ki, xa_kl, xa_kr, xa_kii, xa_kk, xa_kir, xa_krr, xa_kiir, xa_krir, xa_kdup, xa_kdup2, xa_kcp, xa_gf, xa_pf, xa_ga, xa_pa, xa_gq, xa_pq, xa_gl, xa_args, xa_ri, xa_rz, xa_rv, xa_s1, xa_s2, xa_c1, eq_self, List.getElem?_cons_succ, List.getElem?_cons_zero, true_and, and_true, nI_add, pk_mul, xt_in, xt_cl, xt_i0, xt_i1, xa_kc, xa_w8, xa_fit, lg_sl, List.flatMap_cons, List.flatMap_nil, List.map_cons, List.map_nil, List.sum_cons, List.sum_nil, Value.category, List.length_cons, List.length_nil, List.length_append, xa_rc, xa_rf, exists_eq_left, exists_eq', Option.some.injEq, Sum.inr.injEq, Prod.mk.injEq, Option.toList_some, Option.toList_none, List.cons_append, List.nil_append, Nat.reduceAdd, Nat.reduceLeDiff, Nat.reduceLT, List.set_cons_zero, List.set_cons_succ, eq_self, or_true, true_or, reduceIte, xt_ne, xt_eq, Nat.reduceEqDiff, Nat.one_ne_zero, if_false, h0, h1, c0, mx_96, mx_97, mx_98, mx_92, m0, nI_l]
theorem pe_leave {M : xa_M} {c : Nat} {A : xt_A} (hh : xh_B M c A) (iA : xi_A A) (s : Nat) (hs : s < xnS (yT A)) : ∃ y0, xa_E 128 0 (xa_ent [.ref c, .int (nI s)]) [] M y0 ∧ xm2 c M ((xs_leave A s).1) (xs_leave A s).2 y0 := by
  obtain ⟨r, g, hB, hw⟩ := id hh
  have hA := xw_A hB hw
  obtain ⟨⟨r2, r3, r5, r6⟩, hV, hS, ⟨hx1, hx2⟩, ⟨hu1, hu2⟩, ⟨hk1, hk2⟩, ⟨hg1, hg2⟩⟩ := id hw
  obtain ⟨iT, i5, i60, i1, ⟨iS, iD⟩, iX, iU, iK, iG⟩ := id iA
  obtain ⟨⟨b1, b2, b3, b4, b5, b6, b7, b8⟩, bs, bm, bw⟩ := id iT
  have ix := iX.1
  have iu := iU.1
  have ik := iK.1
  have ig := iG.1
  obtain ⟨⟨v0, v1, v2, v3, v4, v5⟩, vs, vm, -, vw⟩ := id hV
  obtain ⟨m0, m1, m2, m3, m4, m5, m6, m7, m8, m9⟩ := id hB
  unfold xb_c at m0
  have cn := xa_iff (pd_isSerf_y hB hV s hs b6)
  have dd := iS.2.1 s hs
  have ch := xa_iff (pd_how hA b6 s hs)
  refine xa_ge2 (fun lv h0 h1 => ?_)
  simp (disch := omega) only [↓ra_128_0, ↓ra_128_1, ↓ra_128_2, ↓ra_128_5, ↓ra_128_10, ↓ra_128_11, ↓ra_128_12, ↓ra_128_15, xa_kli, xa_klr, xa_kll, xa_ki, xa_kl, xa_kr, xa_kii, xa_kk, xa_kir, xa_krr, xa_kiir, xa_krir, xa_kdup, xa_kdup2, xa_kcp, xa_gf, xa_pf, xa_ga, xa_pa, xa_gq, xa_pq, xa_gl, xa_args, xa_ri, xa_rz, xa_rv, xa_s1, xa_s2, xa_c1, eq_self, List.getElem?_cons_succ, List.getElem?_cons_zero, true_and, and_true, nI_add, pk_mul, xt_in, xt_cl, xt_i0, xt_i1, xa_kc, xa_w8, xa_fit, lg_sl, List.flatMap_cons, List.flatMap_nil, List.map_cons, List.map_nil, List.sum_cons, List.sum_nil, Value.category, List.length_cons, List.length_nil, List.length_append, xa_rc, xa_rf, exists_eq_left, exists_eq', Option.some.injEq, Sum.inr.injEq, Prod.mk.injEq, Option.toList_some, Option.toList_none, List.cons_append, List.nil_append, Nat.reduceAdd, Nat.reduceLeDiff, Nat.reduceLT, List.set_cons_zero, List.set_cons_succ, eq_self, or_true, true_or, reduceIte, xt_ne, xt_eq, Nat.reduceEqDiff, Nat.one_ne_zero, if_false, h0, h1, cn, mx_96, m0, ch, mx_99]
  unfold xs_leave
  by_cases c0 : xsh (yS A) s = 0
  · simp only [if_pos c0]
    obtain ⟨⟨z1, M1⟩, cE1, c1, f1, hh1⟩ := pd_note hh iA
    have c1 : z1 = none := c1
    subst c1
    dsimp only at f1 hh1
    obtain ⟨rb, gb, hB1, hw1⟩ := id hh1
    have hA1 := xw_A hB1 hw1
    obtain ⟨n0, n1, n2, -⟩ := id hB1
    unfold xb_c at n0
    obtain ⟨⟨z2, M2⟩, cE2, c2, h, hn2, hA2⟩ := pd_leaves hA1 b6 s hs
    have c2 : z2 = none := c2
    subst c2
    dsimp only at hn2 hA2
    have cs := xa_iff (pd_stayed hA1 b6 s hs)
    simp (disch := omega) only [↓ra_128_21, ↓ra_128_22, ↓ra_128_25, ↓ra_128_26, ↓ra_128_27, ↓ra_128_30, ↓ra_128_31, ↓ra_128_32, ↓ra_128_33, ↓ra_128_36, ↓ra_128_37, xa_kli, xa_klr, xa_kll, xa_ki, xa_kl, xa_kr, xa_kii, xa_kk, xa_kir, xa_krr, xa_kiir, xa_krir, xa_kdup, xa_kdup2, xa_kcp, xa_gf, xa_pf, xa_ga, xa_pa, xa_gq, xa_pq, xa_gl, xa_args, xa_ri, xa_rz, xa_rv, xa_s1, xa_s2, xa_c1, eq_self, List.getElem?_cons_succ, List.getElem?_cons_zero, true_and, and_true, nI_add, pk_mul, xt_in, xt_cl, xt_i0, xt_i1, xa_kc, xa_w8, xa_fit, lg_sl, List.flatMap_cons, List.flatMap_nil, List.map_cons, List.map_nil, List.sum_cons, List.sum_nil, Value.category, List.length_cons, List.length_nil, List.length_append, xa_rc, xa_rf, exists_eq_left, exists_eq', Option.some.injEq, Sum.inr.injEq, Prod.mk.injEq, Option.toList_some, Option.toList_none, List.cons_append, List.nil_append, Nat.reduceAdd, Nat.reduceLeDiff, Nat.reduceLT, List.set_cons_zero, List.set_cons_succ, eq_self, or_true, true_or, reduceIte, xt_ne, h0, h1, m0, n0, xa_iff cE1, mx_124, xa_iff cE2, mx_126, cs, mx_101]
    exact ⟨rfl, xa_fr_tr f1 hn2.1, rb, _, hn2.2, xw_S hw1 hA2.2.2.1⟩
  · simp only [if_neg c0]
    simp (disch := omega) only [↓ra_128_18, ↓ra_128_20, xa_kli, xa_klr, xa_kll, xa_ki, xa_kl, xa_kr, xa_kii, xa_kk, xa_kir, xa_krr, xa_kiir, xa_krir, xa_kdup, xa_kdup2, xa_kcp, xa_gf, xa_pf, xa_ga, xa_pa, xa_gq, xa_pq, xa_gl, xa_args, xa_ri, xa_rz, xa_rv, xa_s1, xa_s2, xa_c1, eq_self, List.getElem?_cons_succ, List.getElem?_cons_zero, true_and, and_true, nI_add, pk_mul, xt_in, xt_cl, xt_i0, xt_i1, xa_kc, xa_w8, xa_fit, lg_sl, List.flatMap_cons, List.flatMap_nil, List.map_cons, List.map_nil, List.sum_cons, List.sum_nil, Value.category, List.length_cons, List.length_nil, List.length_append, xa_rc, xa_rf, exists_eq_left, exists_eq', Option.some.injEq, Sum.inr.injEq, Prod.mk.injEq, Option.toList_some, Option.toList_none, List.cons_append, List.nil_append, Nat.reduceAdd, Nat.reduceLeDiff, Nat.reduceLT, List.set_cons_zero, List.set_cons_succ, eq_self, or_true, true_or, reduceIte, xt_ne]
    exact xm2_r hh
theorem pe_send_n {M : xa_M} {c : Nat} {A : xt_A} (hh : xh_B M c A) (iA : xi_A A) {x y : Int32} (h : ¬ (xt_k x 0 (xnM (yT A)) ∧ xt_k y 0 (xC (yT A)))) : xa_E 129 0 (xa_ent [.ref c, .int x, .int y]) [] M (some (.int (Int32.ofInt (-1))), M) := by
  obtain ⟨r, g, hB, hw⟩ := id hh
  have hA := xw_A hB hw
  obtain ⟨⟨r2, r3, r5, r6⟩, hV, hS, ⟨hx1, hx2⟩, ⟨hu1, hu2⟩, ⟨hk1, hk2⟩, ⟨hg1, hg2⟩⟩ := id hw
  obtain ⟨iT, i5, i60, i1, ⟨iS, iD⟩, iX, iU, iK, iG⟩ := id iA
  obtain ⟨⟨b1, b2, b3, b4, b5, b6, b7, b8⟩, bs, bm, bw⟩ := id iT
  have ix := iX.1
  have iu := iU.1
  have ik := iK.1
  have ig := iG.1
  obtain ⟨⟨v0, v1, v2, v3, v4, v5⟩, vs, vm, -, vw⟩ := id hV
  obtain ⟨m0, m1, m2, m3, m4, m5, m6, m7, m8, m9⟩ := id hB
  unfold xb_c at m0
  refine xa_go3 (fun lv h0 h1 h2 => ?_)
  by_cases a0 : xt_k x 0 (xnM (yT A))
  · have a1 : ¬ xt_k y 0 (xC (yT A)) := fun a => h ⟨a0, a⟩
    obtain ⟨k0, -, l0, rfl⟩ := a0
    have c0 := xa_iff (pd_isMan_y hB hV k0 l0 b7)
    have c1 := xa_iff (pd_isQuarter_n hB hV a1 b4)
    simp (disch := omega) only [↓ra_129_0, ↓ra_129_1, ↓ra_129_2, ↓ra_129_5, ↓ra_129_8, ↓ra_129_9, ↓ra_129_10, ↓ra_129_13, ↓ra_129_16, ↓ra_129_17, xa_kli, xa_klr, xa_kll, xa_ki, xa_kl, xa_kr, xa_kii, xa_kk, xa_kir, xa_krr, xa_kiir, xa_krir, xa_kdup, xa_kdup2, xa_kcp, xa_gf, xa_pf, xa_ga, xa_pa, xa_gq, xa_pq, xa_gl, xa_args, xa_ri, xa_rz, xa_rv, xa_s1, xa_s2, xa_c1, eq_self, List.getElem?_cons_succ, List.getElem?_cons_zero, true_and, and_true, nI_add, pk_mul, xt_in, xt_cl, xt_i0, xt_i1, xa_kc, xa_w8, xa_fit, lg_sl, List.flatMap_cons, List.flatMap_nil, List.map_cons, List.map_nil, List.sum_cons, List.sum_nil, Value.category, List.length_cons, List.length_nil, List.length_append, xa_rc, xa_rf, exists_eq_left, exists_eq', Option.some.injEq, Sum.inr.injEq, Prod.mk.injEq, Option.toList_some, Option.toList_none, List.cons_append, List.nil_append, Nat.reduceAdd, Nat.reduceLeDiff, Nat.reduceLT, List.set_cons_zero, List.set_cons_succ, eq_self, or_true, true_or, reduceIte, xt_ne, xt_eq, Nat.reduceEqDiff, Nat.one_ne_zero, if_false, h0, h1, h2, c0, c1, mx_96, mx_97, mx_98, mx_92, m0, nI_l]
  · have c0 := xa_iff (pd_isMan_n hB hV a0 b7)
    simp (disch := omega) only [↓ra_129_0, ↓ra_129_1, ↓ra_129_2, ↓ra_129_5, ↓ra_129_8, ↓ra_129_9, ↓ra_129_10, ↓ra_129_13, ↓ra_129_16, ↓ra_129_17, xa_kli, xa_klr, xa_kll, xa_ki, xa_kl, xa_kr, xa_kii, xa_kk, xa_kir, xa_krr, xa_kiir, xa_krir, xa_kdup, xa_kdup2, xa_kcp, xa_gf, xa_pf, xa_ga, xa_pa, xa_gq, xa_pq, xa_gl, xa_args, xa_ri, xa_rz, xa_rv, xa_s1, xa_s2, xa_c1, eq_self, List.getElem?_cons_succ, List.getElem?_cons_zero, true_and, and_true, nI_add, pk_mul, xt_in, xt_cl, xt_i0, xt_i1, xa_kc, xa_w8, xa_fit, lg_sl, List.flatMap_cons, List.flatMap_nil, List.map_cons, List.map_nil, List.sum_cons, List.sum_nil, Value.category, List.length_cons, List.length_nil, List.length_append, xa_rc, xa_rf, exists_eq_left, exists_eq', Option.some.injEq, Sum.inr.injEq, Prod.mk.injEq, Option.toList_some, Option.toList_none, List.cons_append, List.nil_append, Nat.reduceAdd, Nat.reduceLeDiff, Nat.reduceLT, List.set_cons_zero, List.set_cons_succ, eq_self, or_true, true_or, reduceIte, xt_ne, xt_eq, Nat.reduceEqDiff, Nat.one_ne_zero, if_false, h0, h1, h2, c0, mx_96, mx_97, mx_98, mx_92, m0, nI_l]
theorem pe_send {M : xa_M} {c : Nat} {A : xt_A} (hh : xh_B M c A) (iA : xi_A A) (m q : Nat) (hm : m < xnM (yT A)) (hq : q < xC (yT A)) : ∃ y0, xa_E 129 0 (xa_ent [.ref c, .int (nI m), .int (nI q)]) [] M y0 ∧ xm2 c M ((xs_send A m q).1) (xs_send A m q).2 y0 := by
  obtain ⟨r, g, hB, hw⟩ := id hh
  have hA := xw_A hB hw
  obtain ⟨⟨r2, r3, r5, r6⟩, hV, hS, ⟨hx1, hx2⟩, ⟨hu1, hu2⟩, ⟨hk1, hk2⟩, ⟨hg1, hg2⟩⟩ := id hw
  obtain ⟨iT, i5, i60, i1, ⟨iS, iD⟩, iX, iU, iK, iG⟩ := id iA
  obtain ⟨⟨b1, b2, b3, b4, b5, b6, b7, b8⟩, bs, bm, bw⟩ := id iT
  have ix := iX.1
  have iu := iU.1
  have ik := iK.1
  have ig := iG.1
  obtain ⟨⟨v0, v1, v2, v3, v4, v5⟩, vs, vm, -, vw⟩ := id hV
  obtain ⟨m0, m1, m2, m3, m4, m5, m6, m7, m8, m9⟩ := id hB
  unfold xb_c at m0
  have cn := xa_iff (pd_isMan_y hB hV m hm b7)
  have ca := xa_iff (pd_isQuarter_y hB hV q hq b4)
  refine xa_ge3 (fun lv h0 h1 h2 => ?_)
  obtain ⟨⟨z1, M1⟩, cE1, c1, f1, hh1⟩ := pd_note hh iA
  have c1 : z1 = none := c1
  subst c1
  dsimp only at f1 hh1
  obtain ⟨rb, gb, hB1, hw1⟩ := id hh1
  have hA1 := xw_A hB1 hw1
  obtain ⟨n0, n1, n2, -⟩ := id hB1
  unfold xb_c at n0
  have hS1 := hw1.2.2.1
  have em := hS1.2.2 m hm
  simp (disch := omega) only [↓ra_129_0, ↓ra_129_1, ↓ra_129_2, ↓ra_129_5, ↓ra_129_8, ↓ra_129_9, ↓ra_129_10, ↓ra_129_13, ↓ra_129_18, ↓ra_129_19, ↓ra_129_22, ↓ra_129_23, ↓ra_129_26, ↓ra_129_28, ↓ra_129_29, ↓ra_129_30, ↓ra_129_31, ↓ra_129_32, ↓ra_129_33, ↓ra_129_36, ↓ra_129_38, ↓ra_129_39, ↓ra_129_40, ↓ra_129_41, ↓ra_129_42, ↓ra_129_43, xa_kli, xa_klr, xa_kll, xa_ki, xa_kl, xa_kr, xa_kii, xa_kk, xa_kir, xa_krr, xa_kiir, xa_krir, xa_kdup, xa_kdup2, xa_kcp, xa_gf, xa_pf, xa_ga, xa_pa, xa_gq, xa_pq, xa_gl, xa_args, xa_ri, xa_rz, xa_rv, xa_s1, xa_s2, xa_c1, eq_self, List.getElem?_cons_succ, List.getElem?_cons_zero, true_and, and_true, nI_add, pk_mul, xt_in, xt_cl, xt_i0, xt_i1, xa_kc, xa_w8, xa_fit, lg_sl, List.flatMap_cons, List.flatMap_nil, List.map_cons, List.map_nil, List.sum_cons, List.sum_nil, Value.category, List.length_cons, List.length_nil, List.length_append, xa_rc, xa_rf, exists_eq_left, exists_eq', Option.some.injEq, Sum.inr.injEq, Prod.mk.injEq, Option.toList_some, Option.toList_none, List.cons_append, List.nil_append, Nat.reduceAdd, Nat.reduceLeDiff, Nat.reduceLT, List.set_cons_zero, List.set_cons_succ, eq_self, or_true, true_or, reduceIte, xt_ne, xt_eq, Nat.reduceEqDiff, Nat.one_ne_zero, if_false, h0, h1, h2, cn, ca, mx_97, mx_98, m0, n0, n2, em, xa_iff cE1, mx_124]
  have hn := xn_s2 (h2 := upd (gb 2) (25 + m) (nI q)) (xn_r hB1)
  refine ⟨rfl, xa_fr_tr f1 hn.1, rb, _, hn.2, xw_S hw1 ⟨?_, fun s hs => ?_, fun j hj => ?_⟩⟩
  · rw [xt_us, if_neg (by omega)]; exact hS1.1
  · rw [xt_us, xt_us, xt_us, xt_us, if_neg (by have : s < xnS (yT A) := hs; omega), if_neg (by have : s < xnS (yT A) := hs; omega), if_neg (by have : s < xnS (yT A) := hs; omega), if_neg (by have : s < xnS (yT A) := hs; omega)]
    exact hS1.2.1 s hs
  · rw [xt_us]
    show _ = nI (if j = m then q else xsp (yS A) j)
    by_cases e : j = m
    · rw [if_pos e, if_pos (by omega)]
    · rw [if_neg e, if_neg (by omega)]; exact hS1.2.2 j hj
theorem pe_pass_n {M : xa_M} {c : Nat} {A : xt_A} (hh : xh_B M c A) (iA : xi_A A) {x : Int32} (h : ¬ (xt_k x 1 (60 + 1))) : xa_E 130 0 (xa_ent [.ref c, .int x]) [] M (some (.int (Int32.ofInt (-1))), M) := by
  obtain ⟨r, g, hB, hw⟩ := id hh
  have hA := xw_A hB hw
  obtain ⟨⟨r2, r3, r5, r6⟩, hV, hS, ⟨hx1, hx2⟩, ⟨hu1, hu2⟩, ⟨hk1, hk2⟩, ⟨hg1, hg2⟩⟩ := id hw
  obtain ⟨iT, i5, i60, i1, ⟨iS, iD⟩, iX, iU, iK, iG⟩ := id iA
  obtain ⟨⟨b1, b2, b3, b4, b5, b6, b7, b8⟩, bs, bm, bw⟩ := id iT
  have ix := iX.1
  have iu := iU.1
  have ik := iK.1
  have ig := iG.1
  obtain ⟨⟨v0, v1, v2, v3, v4, v5⟩, vs, vm, -, vw⟩ := id hV
  obtain ⟨m0, m1, m2, m3, m4, m5, m6, m7, m8, m9⟩ := id hB
  unfold xb_c at m0
  refine xa_go2 (fun lv h0 h1 => ?_)
  have a0 : ¬ xt_k x 1 (60 + 1) := h
  have c0 := xa_iff (pd_in_x (M := M) 1 60 a0 (by omega) (by omega))
  simp (disch := omega) only [↓ra_130_0, ↓ra_130_1, ↓ra_130_2, ↓ra_130_3, ↓ra_130_6, ↓ra_130_9, ↓ra_130_12, ↓ra_130_13, xa_kli, xa_klr, xa_kll, xa_ki, xa_kl, xa_kr, xa_kii, xa_kk, xa_kir, xa_krr, xa_kiir, xa_krir, xa_kdup, xa_kdup2, xa_kcp, xa_gf, xa_pf, xa_ga, xa_pa, xa_gq, xa_pq, xa_gl, xa_args, xa_ri, xa_rz, xa_rv, xa_s1, xa_s2, xa_c1, eq_self, List.getElem?_cons_succ, List.getElem?_cons_zero, true_and, and_true, nI_add, pk_mul, xt_in, xt_cl, xt_i0, xt_i1, xa_kc, xa_w8, xa_fit, lg_sl, List.flatMap_cons, List.flatMap_nil, List.map_cons, List.map_nil, List.sum_cons, List.sum_nil, Value.category, List.length_cons, List.length_nil, List.length_append, xa_rc, xa_rf, exists_eq_left, exists_eq', Option.some.injEq, Sum.inr.injEq, Prod.mk.injEq, Option.toList_some, Option.toList_none, List.cons_append, List.nil_append, Nat.reduceAdd, Nat.reduceLeDiff, Nat.reduceLT, List.set_cons_zero, List.set_cons_succ, eq_self, or_true, true_or, reduceIte, xt_ne, xt_eq, Nat.reduceEqDiff, Nat.one_ne_zero, if_false, h0, h1, c0, mx_96, mx_97, mx_98, mx_92, m0, nI_l]
theorem pe_pass {M : xa_M} {c : Nat} {A : xt_A} (hh : xh_B M c A) (iA : xi_A A) (k : Nat) (k1 : 1 ≤ k) (k2 : k ≤ 60) : ∃ y0, xa_E 130 0 (xa_ent [.ref c, .int (nI k)]) [] M y0 ∧ xm2 c M ((xs_pass A k).1) (xs_pass A k).2 y0 := by
  obtain ⟨r, g, hB, hw⟩ := id hh
  have hA := xw_A hB hw
  obtain ⟨⟨r2, r3, r5, r6⟩, hV, hS, ⟨hx1, hx2⟩, ⟨hu1, hu2⟩, ⟨hk1, hk2⟩, ⟨hg1, hg2⟩⟩ := id hw
  obtain ⟨iT, i5, i60, i1, ⟨iS, iD⟩, iX, iU, iK, iG⟩ := id iA
  obtain ⟨⟨b1, b2, b3, b4, b5, b6, b7, b8⟩, bs, bm, bw⟩ := id iT
  have ix := iX.1
  have iu := iU.1
  have ik := iK.1
  have ig := iG.1
  obtain ⟨⟨v0, v1, v2, v3, v4, v5⟩, vs, vm, -, vw⟩ := id hV
  obtain ⟨m0, m1, m2, m3, m4, m5, m6, m7, m8, m9⟩ := id hB
  unfold xb_c at m0
  have ca := xa_iff (pd_in_k (M := M) k 1 60 (by omega) (by omega))
  have e0 := hS.1
  refine xa_ge2 (fun lv h0 h1 => ?_)
  simp (disch := omega) only [↓ra_130_0, ↓ra_130_1, ↓ra_130_2, ↓ra_130_3, ↓ra_130_6, ↓ra_130_9, ↓ra_130_14, ↓ra_130_15, ↓ra_130_18, ↓ra_130_19, ↓ra_130_20, ↓ra_130_21, ↓ra_130_22, ↓ra_130_25, xa_kli, xa_klr, xa_kll, xa_ki, xa_kl, xa_kr, xa_kii, xa_kk, xa_kir, xa_krr, xa_kiir, xa_krir, xa_kdup, xa_kdup2, xa_kcp, xa_gf, xa_pf, xa_ga, xa_pa, xa_gq, xa_pq, xa_gl, xa_args, xa_ri, xa_rz, xa_rv, xa_s1, xa_s2, xa_c1, eq_self, List.getElem?_cons_succ, List.getElem?_cons_zero, true_and, and_true, nI_add, pk_mul, xt_in, xt_cl, xt_i0, xt_i1, xa_kc, xa_w8, xa_fit, lg_sl, List.flatMap_cons, List.flatMap_nil, List.map_cons, List.map_nil, List.sum_cons, List.sum_nil, Value.category, List.length_cons, List.length_nil, List.length_append, xa_rc, xa_rf, exists_eq_left, exists_eq', Option.some.injEq, Sum.inr.injEq, Prod.mk.injEq, Option.toList_some, Option.toList_none, List.cons_append, List.nil_append, Nat.reduceAdd, Nat.reduceLeDiff, Nat.reduceLT, List.set_cons_zero, List.set_cons_succ, eq_self, or_true, true_or, reduceIte, xt_ne, xt_eq, Nat.reduceEqDiff, Nat.one_ne_zero, if_false, h0, h1, nI_l, ca, mx_92, m0, m2, e0, xt_le]
  unfold xs_pass
  by_cases cc : xsd (yS A) + k ≤ 999
  · simp only [if_pos cc]
    obtain ⟨⟨z1, M1⟩, cE1, c1, f1, hh1⟩ := pd_note hh iA
    have c1 : z1 = none := c1
    subst c1
    dsimp only at f1 hh1
    obtain ⟨rb, gb, hB1, hw1⟩ := id hh1
    have hA1 := xw_A hB1 hw1
    obtain ⟨n0, n1, n2, -⟩ := id hB1
    unfold xb_c at n0
    obtain ⟨⟨z2, M2⟩, cE2, c2, h, hn2, hA2⟩ := pd_goesOn hA1 iT iS k (by show xsd (yS A) + k ≤ _; omega)
    have c2 : z2 = none := c2
    subst c2
    dsimp only at hn2 hA2
    have i2 := (xi_days iT k iS (by omega)).1
    have q1 := xa_iff (pd_many hA1 b6 (fun s hs => Nat.lt_of_le_of_lt (iS.2.1 s hs).1 (by decide)) 2 (by omega))
    have q2 := xa_iff (pd_many hA2 b6 (fun s hs => Nat.lt_of_le_of_lt (i2.2.1 s hs).1 (by decide)) 2 (by omega))
    obtain ⟨k0, -⟩ := id hn2.2
    unfold xb_c at k0
    simp (disch := omega) only [↓ra_130_31, ↓ra_130_32, ↓ra_130_35, ↓ra_130_36, ↓ra_130_37, ↓ra_130_40, ↓ra_130_41, ↓ra_130_42, ↓ra_130_43, ↓ra_130_46, ↓ra_130_47, ↓ra_130_48, ↓ra_130_51, ↓ra_130_52, ↓ra_130_53, xa_kli, xa_klr, xa_kll, xa_ki, xa_kl, xa_kr, xa_kii, xa_kk, xa_kir, xa_krr, xa_kiir, xa_krir, xa_kdup, xa_kdup2, xa_kcp, xa_gf, xa_pf, xa_ga, xa_pa, xa_gq, xa_pq, xa_gl, xa_args, xa_ri, xa_rz, xa_rv, xa_s1, xa_s2, xa_c1, eq_self, List.getElem?_cons_succ, List.getElem?_cons_zero, true_and, and_true, nI_add, pk_mul, xt_in, xt_cl, xt_i0, xt_i1, xa_kc, xa_w8, xa_fit, lg_sl, List.flatMap_cons, List.flatMap_nil, List.map_cons, List.map_nil, List.sum_cons, List.sum_nil, Value.category, List.length_cons, List.length_nil, List.length_append, xa_rc, xa_rf, exists_eq_left, exists_eq', Option.some.injEq, Sum.inr.injEq, Prod.mk.injEq, Option.toList_some, Option.toList_none, List.cons_append, List.nil_append, Nat.reduceAdd, Nat.reduceLeDiff, Nat.reduceLT, List.set_cons_zero, List.set_cons_succ, eq_self, or_true, true_or, reduceIte, xt_ne, h0, h1, m0, n0, k0, xa_iff cE1, mx_124, xa_iff cE2, mx_120, q1, q2, mx_121]
    exact ⟨rfl, xa_fr_tr f1 hn2.1, rb, _, hn2.2, xw_S hw1 hA2.2.2.1⟩
  · simp only [if_neg cc]
    simp (disch := omega) only [↓ra_130_28, ↓ra_130_30, xa_kli, xa_klr, xa_kll, xa_ki, xa_kl, xa_kr, xa_kii, xa_kk, xa_kir, xa_krr, xa_kiir, xa_krir, xa_kdup, xa_kdup2, xa_kcp, xa_gf, xa_pf, xa_ga, xa_pa, xa_gq, xa_pq, xa_gl, xa_args, xa_ri, xa_rz, xa_rv, xa_s1, xa_s2, xa_c1, eq_self, List.getElem?_cons_succ, List.getElem?_cons_zero, true_and, and_true, nI_add, pk_mul, xt_in, xt_cl, xt_i0, xt_i1, xa_kc, xa_w8, xa_fit, lg_sl, List.flatMap_cons, List.flatMap_nil, List.map_cons, List.map_nil, List.sum_cons, List.sum_nil, Value.category, List.length_cons, List.length_nil, List.length_append, xa_rc, xa_rf, exists_eq_left, exists_eq', Option.some.injEq, Sum.inr.injEq, Prod.mk.injEq, Option.toList_some, Option.toList_none, List.cons_append, List.nil_append, Nat.reduceAdd, Nat.reduceLeDiff, Nat.reduceLT, List.set_cons_zero, List.set_cons_succ, eq_self, or_true, true_or, reduceIte, xt_ne]
    exact xm2_r hh
