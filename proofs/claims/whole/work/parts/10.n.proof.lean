def xq_pp : Nat → Nat → Nat
  | 0, _ => 0
  | f + 1, b => if b = 0 then 0 else xq_pp f (b &&& (b - 1)) + 1
theorem xq_pp_c : ∀ b, b < 64 → xq_pp 64 b = xt_c (fun k => b.testBit k) 6 := by decide +kernel
theorem pe_proof_n {M : xa_M} {c : Nat} {A : xt_A} (hh : xh_B M c A) (iA : xi_A A) {x y : Int32} (h : ¬ ∃ f t : Nat, f ≤ t ∧ t ≤ 99 ∧ x = nI f ∧ y = nI t) : xa_E 144 0 (xa_ent [.ref c, .int x, .int y]) [] M (some (.int (Int32.ofInt (-1))), M) := by
  refine xa_go3 (fun lv h0 h1 h2 => ?_)
  by_cases a0 : xt_k x 0 (99 + 1)
  · obtain ⟨f, -, hf, rfl⟩ := a0
    have a1 : ¬ xt_k y f (99 + 1) := fun ⟨t, t1, t2, t3⟩ => h ⟨f, t, t1, by omega, rfl, t3⟩
    have c0 := xa_iff (pd_in_k (M := M) f 0 99 (by omega) (by omega))
    have c1 := xa_iff (pd_in_x (M := M) f 99 a1 (by omega) (by omega))
    simp (disch := omega) only [↓ra_144_0, ↓ra_144_1, ↓ra_144_2, ↓ra_144_3, ↓ra_144_6, ↓ra_144_9, ↓ra_144_12, ↓ra_144_13, ↓ra_144_14, ↓ra_144_15, ↓ra_144_16, ↓ra_144_19, ↓ra_144_22, ↓ra_144_25, ↓ra_144_26, xa_kli, xa_klr, xa_kll, xa_ki, xa_kl, xa_kr, xa_kii, xa_kk, xa_kir, xa_krr, xa_kiir, xa_krir, xa_kdup, xa_kdup2, xa_kcp, xa_gf, xa_pf, xa_ga, xa_pa, xa_gq, xa_pq, xa_gl, xa_args, xa_ri, xa_rz, xa_rv, xa_s1, xa_s2, xa_c1, eq_self, List.getElem?_cons_succ, List.getElem?_cons_zero, true_and, and_true, nI_add, pk_mul, xt_in, xt_cl, xt_i0, xt_i1, xa_kc, xa_w8, xa_fit, lg_sl, List.flatMap_cons, List.flatMap_nil, List.map_cons, List.map_nil, List.sum_cons, List.sum_nil, Value.category, List.length_cons, List.length_nil, List.length_append, xa_rc, xa_rf, exists_eq_left, exists_eq', Option.some.injEq, Sum.inr.injEq, Prod.mk.injEq, Option.toList_some, Option.toList_none, List.cons_append, List.nil_append, Nat.reduceAdd, Nat.reduceLeDiff, Nat.reduceLT, List.set_cons_zero, List.set_cons_succ, eq_self, or_true, true_or, reduceIte, xt_ne, xt_eq, Nat.reduceEqDiff, Nat.one_ne_zero, if_false, h0, h1, h2, nI_l, c0, c1, mx_92]
  · have c0 := xa_iff (pd_in_x (M := M) 0 99 a0 (by omega) (by omega))
    simp (disch := omega) only [↓ra_144_0, ↓ra_144_1, ↓ra_144_2, ↓ra_144_3, ↓ra_144_6, ↓ra_144_9, ↓ra_144_12, ↓ra_144_13, ↓ra_144_14, ↓ra_144_15, ↓ra_144_16, ↓ra_144_19, ↓ra_144_22, ↓ra_144_25, ↓ra_144_26, xa_kli, xa_klr, xa_kll, xa_ki, xa_kl, xa_kr, xa_kii, xa_kk, xa_kir, xa_krr, xa_kiir, xa_krir, xa_kdup, xa_kdup2, xa_kcp, xa_gf, xa_pf, xa_ga, xa_pa, xa_gq, xa_pq, xa_gl, xa_args, xa_ri, xa_rz, xa_rv, xa_s1, xa_s2, xa_c1, eq_self, List.getElem?_cons_succ, List.getElem?_cons_zero, true_and, and_true, nI_add, pk_mul, xt_in, xt_cl, xt_i0, xt_i1, xa_kc, xa_w8, xa_fit, lg_sl, List.flatMap_cons, List.flatMap_nil, List.map_cons, List.map_nil, List.sum_cons, List.sum_nil, Value.category, List.length_cons, List.length_nil, List.length_append, xa_rc, xa_rf, exists_eq_left, exists_eq', Option.some.injEq, Sum.inr.injEq, Prod.mk.injEq, Option.toList_some, Option.toList_none, List.cons_append, List.nil_append, Nat.reduceAdd, Nat.reduceLeDiff, Nat.reduceLT, List.set_cons_zero, List.set_cons_succ, eq_self, or_true, true_or, reduceIte, xt_ne, xt_eq, Nat.reduceEqDiff, Nat.one_ne_zero, if_false, h0, h1, h2, c0, mx_92]
theorem pe_proof {M : xa_M} {c : Nat} {A : xt_A} (hh : xh_B M c A) (iA : xi_A A) (f t : Nat) (hf : f ≤ t) (ht : t ≤ 99) : ∃ y0, xa_E 144 0 (xa_ent [.ref c, .int (nI f), .int (nI t)]) [] M y0 ∧ xm2 c M (xs_proof A f t) A y0 := by
  obtain ⟨r, g, hB, hw⟩ := id hh
  have hA := xw_A hB hw
  obtain ⟨⟨r2, r3, r5, r6⟩, hV, hS, ⟨hx1, hx2⟩, ⟨hu1, hu2⟩, ⟨hk1, hk2⟩, ⟨hg1, hg2⟩⟩ := id hw
  obtain ⟨iT, i5, i60, i1, ⟨iS, iD⟩, iX, iU, iK, iG⟩ := id iA
  obtain ⟨⟨b1, b2, b3, b4, b5, b6, b7, b8⟩, bs, bm, bw⟩ := id iT
  have ix := iX.1
  have iu := iU.1
  have ik := iK.1
  have ig := iG.1
  obtain ⟨⟨v0, v1, v2, v3, v4, v5⟩, vs, vm, -, vw⟩ := id hV
  obtain ⟨m0, m1, m2, m3, m4, m5, m6, m7, m8, m9⟩ := id hB
  unfold xb_c at m0
  have ca := xa_iff (pd_in_k (M := M) f 0 99 (by omega) (by omega))
  have cb := xa_iff (pd_in_k (M := M) t f 99 (by omega) (by omega))
  have cg := fun (b : Nat) (hb : b < 64) => xa_iff (pd_gapOf hB hV iT b f t hb hf ht)
  have p64 : 2 ^ xnW (yT A) ≤ 64 := Nat.pow_le_pow_right (n := 2) (by omega) b8
  refine xa_ge3 (fun lv h0 h1 h2 => ?_)
  have pop : ∀ (k n b i : Nat) (lv : xa_L), b ≤ k → b < 64 → lv 0 = some (.ref c) → lv 1 = some (.int (nI f)) → lv 2 = some (.int (nI t)) → lv 3 = some (.int (xt_o (xq_bp (yT A) f t i))) → lv 4 = some (.int (nI i)) → lv 5 = some (.int (nI n)) → lv 6 = some (.int (nI b)) → ∀ Q : xa_Z → Prop, (∀ lv : xa_L, lv 0 = some (.ref c) → lv 1 = some (.int (nI f)) → lv 2 = some (.int (nI t)) → lv 3 = some (.int (xt_o (xq_bp (yT A) f t i))) → lv 4 = some (.int (nI i)) → lv 5 = some (.int (nI (n + xq_pp k b))) → ∃ z, xa_E 144 73 lv [] M z ∧ Q z) → ∃ z, xa_E 144 53 lv [] M z ∧ Q z := by
    intro k
    induction k with
    | zero =>
      intro n b i lv hb hb2 h0 h1 h2 h3 h4 h5 h6 Q K
      have e : b = 0 := by omega
      subst e
      simp (disch := omega) only [↓ra_144_53, ↓ra_144_55, xa_kli, xa_klr, xa_kll, xa_ki, xa_kl, xa_kr, xa_kii, xa_kk, xa_kir, xa_krr, xa_kiir, xa_krir, xa_kdup, xa_kdup2, xa_kcp, xa_gf, xa_pf, xa_ga, xa_pa, xa_gq, xa_pq, xa_gl, xa_args, xa_ri, xa_rz, xa_rv, xa_s1, xa_s2, xa_c1, eq_self, List.getElem?_cons_succ, List.getElem?_cons_zero, true_and, and_true, nI_add, pk_mul, xt_in, xt_cl, xt_i0, xt_i1, xa_kc, xa_w8, xa_fit, lg_sl, List.flatMap_cons, List.flatMap_nil, List.map_cons, List.map_nil, List.sum_cons, List.sum_nil, Value.category, List.length_cons, List.length_nil, List.length_append, xa_rc, xa_rf, exists_eq_left, exists_eq', Option.some.injEq, Sum.inr.injEq, Prod.mk.injEq, Option.toList_some, Option.toList_none, List.cons_append, List.nil_append, Nat.reduceAdd, Nat.reduceLeDiff, Nat.reduceLT, List.set_cons_zero, List.set_cons_succ, eq_self, or_true, true_or, reduceIte, xt_ne, h6]
      exact K lv h0 h1 h2 h3 h4 h5
    | succ k ih =>
      intro n b i lv hb hb2 h0 h1 h2 h3 h4 h5 h6 Q K
      simp (disch := omega) only [↓ra_144_53, ↓ra_144_55, xa_kli, xa_klr, xa_kll, xa_ki, xa_kl, xa_kr, xa_kii, xa_kk, xa_kir, xa_krr, xa_kiir, xa_krir, xa_kdup, xa_kdup2, xa_kcp, xa_gf, xa_pf, xa_ga, xa_pa, xa_gq, xa_pq, xa_gl, xa_args, xa_ri, xa_rz, xa_rv, xa_s1, xa_s2, xa_c1, eq_self, List.getElem?_cons_succ, List.getElem?_cons_zero, true_and, and_true, nI_add, pk_mul, xt_in, xt_cl, xt_i0, xt_i1, xa_kc, xa_w8, xa_fit, lg_sl, List.flatMap_cons, List.flatMap_nil, List.map_cons, List.map_nil, List.sum_cons, List.sum_nil, Value.category, List.length_cons, List.length_nil, List.length_append, xa_rc, xa_rf, exists_eq_left, exists_eq', Option.some.injEq, Sum.inr.injEq, Prod.mk.injEq, Option.toList_some, Option.toList_none, List.cons_append, List.nil_append, Nat.reduceAdd, Nat.reduceLeDiff, Nat.reduceLT, List.set_cons_zero, List.set_cons_succ, eq_self, or_true, true_or, reduceIte, xt_ne, h6, xt_eq]
      unfold xq_pp at K
      by_cases c0 : b = 0
      · simp only [if_pos c0] at K ⊢
        exact K lv h0 h1 h2 h3 h4 h5
      · simp only [if_neg c0] at K ⊢
        have le : b &&& (b - 1) ≤ b - 1 := Nat.and_le_right
        simp (disch := omega) only [↓ra_144_58, ↓ra_144_61, ↓ra_144_63, ↓ra_144_65, ↓ra_144_66, ↓ra_144_67, ↓ra_144_68, ↓ra_144_70, xa_kli, xa_klr, xa_kll, xa_ki, xa_kl, xa_kr, xa_kii, xa_kk, xa_kir, xa_krr, xa_kiir, xa_krir, xa_kdup, xa_kdup2, xa_kcp, xa_gf, xa_pf, xa_ga, xa_pa, xa_gq, xa_pq, xa_gl, xa_args, xa_ri, xa_rz, xa_rv, xa_s1, xa_s2, xa_c1, eq_self, List.getElem?_cons_succ, List.getElem?_cons_zero, true_and, and_true, nI_add, pk_mul, xt_in, xt_cl, xt_i0, xt_i1, xa_kc, xa_w8, xa_fit, lg_sl, List.flatMap_cons, List.flatMap_nil, List.map_cons, List.map_nil, List.sum_cons, List.sum_nil, Value.category, List.length_cons, List.length_nil, List.length_append, xa_rc, xa_rf, exists_eq_left, exists_eq', Option.some.injEq, Sum.inr.injEq, Prod.mk.injEq, Option.toList_some, Option.toList_none, List.cons_append, List.nil_append, Nat.reduceAdd, Nat.reduceLeDiff, Nat.reduceLT, List.set_cons_zero, List.set_cons_succ, eq_self, or_true, true_or, reduceIte, xt_ne, h5, h6, xt_sub, xt_and]
        refine ih (n + 1) (b &&& (b - 1)) i _ (by omega) (by omega) (by simp [xa_s1, xa_c1, h0]) (by simp [xa_s1, xa_c1, h1]) (by simp [xa_s1, xa_c1, h2]) (by simp [xa_s1, xa_c1, h3]) (by simp [xa_s1, xa_c1, h4]) (by simp [xa_s1, xa_c1]) (by simp [xa_s1, xa_c1]) Q (fun lv g0 g1 g2 g3 g4 g5 => K lv g0 g1 g2 g3 g4 (by rw [g5]; exact congrArg (fun n => some (Value.int (nI n))) (by omega)))
  have loop : ∀ (k i : Nat) (lv : xa_L), lv 0 = some (.ref c) → lv 1 = some (.int (nI f)) → lv 2 = some (.int (nI t)) → lv 3 = some (.int (xt_o (xq_bp (yT A) f t i))) → lv 4 = some (.int (nI i)) → i + k = 2 ^ xnW (yT A) → ∃ y0, xa_E 144 33 lv [] M y0 ∧ xm2 c M (xs_proof A f t) A y0 := by
    intro k
    induction k with
    | zero =>
      intro i lv h0 h1 h2 h3 h4 e
      have e : i = 2 ^ xnW (yT A) := by omega
      subst e
      simp (disch := omega) only [↓ra_144_33, ↓ra_144_35, ↓ra_144_36, ↓ra_144_37, ↓ra_144_40, ↓ra_144_41, ↓ra_144_42, ↓ra_144_43, ↓ra_144_111, ↓ra_144_112, xa_kli, xa_klr, xa_kll, xa_ki, xa_kl, xa_kr, xa_kii, xa_kk, xa_kir, xa_krr, xa_kiir, xa_krir, xa_kdup, xa_kdup2, xa_kcp, xa_gf, xa_pf, xa_ga, xa_pa, xa_gq, xa_pq, xa_gl, xa_args, xa_ri, xa_rz, xa_rv, xa_s1, xa_s2, xa_c1, eq_self, List.getElem?_cons_succ, List.getElem?_cons_zero, true_and, and_true, nI_add, pk_mul, xt_in, xt_cl, xt_i0, xt_i1, xa_kc, xa_w8, xa_fit, lg_sl, List.flatMap_cons, List.flatMap_nil, List.map_cons, List.map_nil, List.sum_cons, List.sum_nil, Value.category, List.length_cons, List.length_nil, List.length_append, xa_rc, xa_rf, exists_eq_left, exists_eq', Option.some.injEq, Sum.inr.injEq, Prod.mk.injEq, Option.toList_some, Option.toList_none, List.cons_append, List.nil_append, Nat.reduceAdd, Nat.reduceLeDiff, Nat.reduceLT, List.set_cons_zero, List.set_cons_succ, eq_self, or_true, true_or, reduceIte, xt_ne, h0, h1, h2, h3, h4, m0, m1, v5, xt_bit, xt_le, Nat.le_refl]
      rw [xq_bp_pr b8 hf]
      exact xm2_r hh
    | succ k ih =>
      intro i lv h0 h1 h2 h3 h4 e
      simp (disch := omega) only [↓ra_144_33, ↓ra_144_35, ↓ra_144_36, ↓ra_144_37, ↓ra_144_40, ↓ra_144_41, ↓ra_144_42, ↓ra_144_43, xa_kli, xa_klr, xa_kll, xa_ki, xa_kl, xa_kr, xa_kii, xa_kk, xa_kir, xa_krr, xa_kiir, xa_krir, xa_kdup, xa_kdup2, xa_kcp, xa_gf, xa_pf, xa_ga, xa_pa, xa_gq, xa_pq, xa_gl, xa_args, xa_ri, xa_rz, xa_rv, xa_s1, xa_s2, xa_c1, eq_self, List.getElem?_cons_succ, List.getElem?_cons_zero, true_and, and_true, nI_add, pk_mul, xt_in, xt_cl, xt_i0, xt_i1, xa_kc, xa_w8, xa_fit, lg_sl, List.flatMap_cons, List.flatMap_nil, List.map_cons, List.map_nil, List.sum_cons, List.sum_nil, Value.category, List.length_cons, List.length_nil, List.length_append, xa_rc, xa_rf, exists_eq_left, exists_eq', Option.some.injEq, Sum.inr.injEq, Prod.mk.injEq, Option.toList_some, Option.toList_none, List.cons_append, List.nil_append, Nat.reduceAdd, Nat.reduceLeDiff, Nat.reduceLT, List.set_cons_zero, List.set_cons_succ, eq_self, or_true, true_or, reduceIte, xt_ne, h0, h1, h2, h3, h4, m0, m1, v5, xt_bit, xt_le]
      simp only [if_neg (show ¬ 2 ^ xnW (yT A) ≤ i by omega)]
      simp (disch := omega) only [↓ra_144_46, ↓ra_144_47, ↓ra_144_49, ↓ra_144_51, xa_kli, xa_klr, xa_kll, xa_ki, xa_kl, xa_kr, xa_kii, xa_kk, xa_kir, xa_krr, xa_kiir, xa_krir, xa_kdup, xa_kdup2, xa_kcp, xa_gf, xa_pf, xa_ga, xa_pa, xa_gq, xa_pq, xa_gl, xa_args, xa_ri, xa_rz, xa_rv, xa_s1, xa_s2, xa_c1, eq_self, List.getElem?_cons_succ, List.getElem?_cons_zero, true_and, and_true, nI_add, pk_mul, xt_in, xt_cl, xt_i0, xt_i1, xa_kc, xa_w8, xa_fit, lg_sl, List.flatMap_cons, List.flatMap_nil, List.map_cons, List.map_nil, List.sum_cons, List.sum_nil, Value.category, List.length_cons, List.length_nil, List.length_append, xa_rc, xa_rf, exists_eq_left, exists_eq', Option.some.injEq, Sum.inr.injEq, Prod.mk.injEq, Option.toList_some, Option.toList_none, List.cons_append, List.nil_append, Nat.reduceAdd, Nat.reduceLeDiff, Nat.reduceLT, List.set_cons_zero, List.set_cons_succ, eq_self, or_true, true_or, reduceIte, xt_ne, h4]
      refine pop 64 0 i i _ (by omega) (by omega) (by simp [xa_s1, xa_c1, h0]) (by simp [xa_s1, xa_c1, h1]) (by simp [xa_s1, xa_c1, h2]) (by simp [xa_s1, xa_c1, h3]) (by simp [xa_s1, xa_c1, h4]) (by simp [xa_s1, xa_c1]) (by simp [xa_s1, xa_c1]) _ (fun lv h0 h1 h2 h3 h4 h5 => ?_)
      rw [Nat.zero_add, xq_pp_c i (by omega)] at h5
      have nl := xt_cle (fun k => i.testBit k) 6
      have lg : ∀ n, xq_gq (yT A) i (t + 1 - f) f = some n → n < 2147483648 := fun n h => by have := xq_gq_le _ _ _ h; omega
      have lose : xq_bp (yT A) f t (i + 1) = xq_bp (yT A) f t i → ∃ y0, xa_E 144 103 lv [] M y0 ∧ xm2 c M (xs_proof A f t) A y0 := by
        intro el
        simp (disch := omega) only [↓ra_144_103, ↓ra_144_104, ↓ra_144_105, ↓ra_144_108, xa_kli, xa_klr, xa_kll, xa_ki, xa_kl, xa_kr, xa_kii, xa_kk, xa_kir, xa_krr, xa_kiir, xa_krir, xa_kdup, xa_kdup2, xa_kcp, xa_gf, xa_pf, xa_ga, xa_pa, xa_gq, xa_pq, xa_gl, xa_args, xa_ri, xa_rz, xa_rv, xa_s1, xa_s2, xa_c1, eq_self, List.getElem?_cons_succ, List.getElem?_cons_zero, true_and, and_true, nI_add, pk_mul, xt_in, xt_cl, xt_i0, xt_i1, xa_kc, xa_w8, xa_fit, lg_sl, List.flatMap_cons, List.flatMap_nil, List.map_cons, List.map_nil, List.sum_cons, List.sum_nil, Value.category, List.length_cons, List.length_nil, List.length_append, xa_rc, xa_rf, exists_eq_left, exists_eq', Option.some.injEq, Sum.inr.injEq, Prod.mk.injEq, Option.toList_some, Option.toList_none, List.cons_append, List.nil_append, Nat.reduceAdd, Nat.reduceLeDiff, Nat.reduceLT, List.set_cons_zero, List.set_cons_succ, eq_self, or_true, true_or, reduceIte, xt_ne, h3, h4]
        exact ih (i + 1) _ (by simp [xa_s1, xa_c1, h0]) (by simp [xa_s1, xa_c1, h1]) (by simp [xa_s1, xa_c1, h2]) (by simp [xa_s1, xa_c1, el]) (by simp [xa_s1, xa_c1]) (by omega)
      have ask : xq_bt (xq_bp (yT A) f t i) (xt_c (fun k => i.testBit k) 6) = true → ∃ y0, xa_E 144 85 lv [] M y0 ∧ xm2 c M (xs_proof A f t) A y0 := by
        intro et
        simp (disch := omega) only [↓ra_144_85, ↓ra_144_86, ↓ra_144_88, ↓ra_144_89, ↓ra_144_90, ↓ra_144_93, ↓ra_144_95, xa_kli, xa_klr, xa_kll, xa_ki, xa_kl, xa_kr, xa_kii, xa_kk, xa_kir, xa_krr, xa_kiir, xa_krir, xa_kdup, xa_kdup2, xa_kcp, xa_gf, xa_pf, xa_ga, xa_pa, xa_gq, xa_pq, xa_gl, xa_args, xa_ri, xa_rz, xa_rv, xa_s1, xa_s2, xa_c1, eq_self, List.getElem?_cons_succ, List.getElem?_cons_zero, true_and, and_true, nI_add, pk_mul, xt_in, xt_cl, xt_i0, xt_i1, xa_kc, xa_w8, xa_fit, lg_sl, List.flatMap_cons, List.flatMap_nil, List.map_cons, List.map_nil, List.sum_cons, List.sum_nil, Value.category, List.length_cons, List.length_nil, List.length_append, xa_rc, xa_rf, exists_eq_left, exists_eq', Option.some.injEq, Sum.inr.injEq, Prod.mk.injEq, Option.toList_some, Option.toList_none, List.cons_append, List.nil_append, Nat.reduceAdd, Nat.reduceLeDiff, Nat.reduceLT, List.set_cons_zero, List.set_cons_succ, eq_self, or_true, true_or, reduceIte, xt_ne, h0, h1, h2, h3, h4, h5, m0, cg, mx_143, xt_o4 _ lg]
        by_cases cn : xq_gq (yT A) i (t + 1 - f) f = none
        · simp only [if_pos cn]
          have el : xq_bp (yT A) f t (i + 1) = some (xt_c (fun k => i.testBit k) 6) := by
            show (if _ then _ else _) = _
            rw [if_pos ⟨et, cn⟩]
          simp (disch := omega) only [↓ra_144_98, ↓ra_144_100, ↓ra_144_104, ↓ra_144_105, ↓ra_144_108, xa_kli, xa_klr, xa_kll, xa_ki, xa_kl, xa_kr, xa_kii, xa_kk, xa_kir, xa_krr, xa_kiir, xa_krir, xa_kdup, xa_kdup2, xa_kcp, xa_gf, xa_pf, xa_ga, xa_pa, xa_gq, xa_pq, xa_gl, xa_args, xa_ri, xa_rz, xa_rv, xa_s1, xa_s2, xa_c1, eq_self, List.getElem?_cons_succ, List.getElem?_cons_zero, true_and, and_true, nI_add, pk_mul, xt_in, xt_cl, xt_i0, xt_i1, xa_kc, xa_w8, xa_fit, lg_sl, List.flatMap_cons, List.flatMap_nil, List.map_cons, List.map_nil, List.sum_cons, List.sum_nil, Value.category, List.length_cons, List.length_nil, List.length_append, xa_rc, xa_rf, exists_eq_left, exists_eq', Option.some.injEq, Sum.inr.injEq, Prod.mk.injEq, Option.toList_some, Option.toList_none, List.cons_append, List.nil_append, Nat.reduceAdd, Nat.reduceLeDiff, Nat.reduceLT, List.set_cons_zero, List.set_cons_succ, eq_self, or_true, true_or, reduceIte, xt_ne, h4, h5]
          exact ih (i + 1) _ (by simp [xa_s1, xa_c1, h0]) (by simp [xa_s1, xa_c1, h1]) (by simp [xa_s1, xa_c1, h2]) (by simp [xa_s1, xa_c1, el, xt_o]) (by simp [xa_s1, xa_c1]) (by omega)
        · simp only [if_neg cn]
          refine lose ?_
          show (if _ then _ else _) = _
          rw [if_neg (fun h => cn h.2)]
      have sp := xq_bp_spec (T := yT A) (f := f) (t := t) i
      cases hp : xq_bp (yT A) f t i with
      | none =>
        rw [hp] at h3 ask
        simp (disch := omega) only [↓ra_144_73, ↓ra_144_74, ↓ra_144_76, xa_kli, xa_klr, xa_kll, xa_ki, xa_kl, xa_kr, xa_kii, xa_kk, xa_kir, xa_krr, xa_kiir, xa_krir, xa_kdup, xa_kdup2, xa_kcp, xa_gf, xa_pf, xa_ga, xa_pa, xa_gq, xa_pq, xa_gl, xa_args, xa_ri, xa_rz, xa_rv, xa_s1, xa_s2, xa_c1, eq_self, List.getElem?_cons_succ, List.getElem?_cons_zero, true_and, and_true, nI_add, pk_mul, xt_in, xt_cl, xt_i0, xt_i1, xa_kc, xa_w8, xa_fit, lg_sl, List.flatMap_cons, List.flatMap_nil, List.map_cons, List.map_nil, List.sum_cons, List.sum_nil, Value.category, List.length_cons, List.length_nil, List.length_append, xa_rc, xa_rf, exists_eq_left, exists_eq', Option.some.injEq, Sum.inr.injEq, Prod.mk.injEq, Option.toList_some, Option.toList_none, List.cons_append, List.nil_append, Nat.reduceAdd, Nat.reduceLeDiff, Nat.reduceLT, List.set_cons_zero, List.set_cons_succ, eq_self, or_true, true_or, reduceIte, xt_ne, h3, xt_o]
        exact ask rfl
      | some m =>
        rw [hp] at sp
        dsimp only at sp
        obtain ⟨⟨b0, q1, q2, q3⟩, -⟩ := sp
        have ml := xt_cle (fun k => b0.testBit k) 6
        have hm : xt_o (some m) = nI m := rfl
        rw [hp] at h3 ask lose
        simp (disch := omega) only [↓ra_144_73, ↓ra_144_74, ↓ra_144_76, ↓ra_144_79, ↓ra_144_81, ↓ra_144_82, xa_kli, xa_klr, xa_kll, xa_ki, xa_kl, xa_kr, xa_kii, xa_kk, xa_kir, xa_krr, xa_kiir, xa_krir, xa_kdup, xa_kdup2, xa_kcp, xa_gf, xa_pf, xa_ga, xa_pa, xa_gq, xa_pq, xa_gl, xa_args, xa_ri, xa_rz, xa_rv, xa_s1, xa_s2, xa_c1, eq_self, List.getElem?_cons_succ, List.getElem?_cons_zero, true_and, and_true, nI_add, pk_mul, xt_in, xt_cl, xt_i0, xt_i1, xa_kc, xa_w8, xa_fit, lg_sl, List.flatMap_cons, List.flatMap_nil, List.map_cons, List.map_nil, List.sum_cons, List.sum_nil, Value.category, List.length_cons, List.length_nil, List.length_append, xa_rc, xa_rf, exists_eq_left, exists_eq', Option.some.injEq, Sum.inr.injEq, Prod.mk.injEq, Option.toList_some, Option.toList_none, List.cons_append, List.nil_append, Nat.reduceAdd, Nat.reduceLeDiff, Nat.reduceLT, List.set_cons_zero, List.set_cons_succ, eq_self, or_true, true_or, reduceIte, xt_ne, h3, h5, hm, xt_m4n, if_false, xt_le]
        by_cases cm : m ≤ xt_c (fun k => i.testBit k) 6
        · simp only [if_pos cm]
          refine lose ?_
          show (if _ then _ else _) = _
          rw [hp, if_neg (fun h => absurd (of_decide_eq_true h.1) (by omega))]
        · simp only [if_neg cm]
          exact ask (decide_eq_true (by omega))
  simp (disch := omega) only [↓ra_144_0, ↓ra_144_1, ↓ra_144_2, ↓ra_144_3, ↓ra_144_6, ↓ra_144_9, ↓ra_144_12, ↓ra_144_13, ↓ra_144_14, ↓ra_144_15, ↓ra_144_16, ↓ra_144_19, ↓ra_144_22, ↓ra_144_27, ↓ra_144_29, ↓ra_144_30, ↓ra_144_31, xa_kli, xa_klr, xa_kll, xa_ki, xa_kl, xa_kr, xa_kii, xa_kk, xa_kir, xa_krr, xa_kiir, xa_krir, xa_kdup, xa_kdup2, xa_kcp, xa_gf, xa_pf, xa_ga, xa_pa, xa_gq, xa_pq, xa_gl, xa_args, xa_ri, xa_rz, xa_rv, xa_s1, xa_s2, xa_c1, eq_self, List.getElem?_cons_succ, List.getElem?_cons_zero, true_and, and_true, nI_add, pk_mul, xt_in, xt_cl, xt_i0, xt_i1, xa_kc, xa_w8, xa_fit, lg_sl, List.flatMap_cons, List.flatMap_nil, List.map_cons, List.map_nil, List.sum_cons, List.sum_nil, Value.category, List.length_cons, List.length_nil, List.length_append, xa_rc, xa_rf, exists_eq_left, exists_eq', Option.some.injEq, Sum.inr.injEq, Prod.mk.injEq, Option.toList_some, Option.toList_none, List.cons_append, List.nil_append, Nat.reduceAdd, Nat.reduceLeDiff, Nat.reduceLT, List.set_cons_zero, List.set_cons_succ, eq_self, or_true, true_or, reduceIte, xt_ne, xt_eq, Nat.reduceEqDiff, Nat.one_ne_zero, if_false, h0, h1, h2, nI_l, ca, cb, mx_92]
  exact loop (2 ^ xnW (yT A)) 0 _ (by simp [xa_s1, xa_c1, h0]) (by simp [xa_s1, xa_c1, h1]) (by simp [xa_s1, xa_c1, h2]) (by simp [xa_s1, xa_c1, xq_bp, xt_o]) (by simp [xa_s1, xa_c1]) (by omega)
