theorem xt_lk31 (c : Nat) (h : c < 65536) : Op.lookupswitch.offset [((99 : Int), (80 : Int)), (103, 101), (109, 149), (110, 59), (115, 122), (119, 176)] 200 (nI c).toInt = if c = 110 then 59 else if c = 99 then 80 else if c = 103 then 101 else if c = 115 then 122 else if c = 109 then 149 else if c = 119 then 176 else 200 := by
  rw [nI_toInt (by omega)]
  simp only [Op.lookupswitch.offset_cons, Op.lookupswitch.offset_nil]
  repeat' split
  all_goals omega
theorem pc_accepts {M : xa_M} {t r : Nat} {T : xt_T} {v : Nat → Nat} (hT : xh_T M t T) (iT : xi_T T) (c n : Nat) (hc : c < 65536) (hr : xa_ar M r 3 n v) (hn : n ≤ 3) (hv : ∀ j, j < n → v j < 2147483648) : ∃ z, xa_E 31 0 (xa_ent [.ref t, .int (nI c), .ref r, .int (nI n)]) [] M z ∧ xq_as t M T (xq_acc T c n v) z := by
  obtain ⟨⟨b1, b2, b3, b4, b5, b6, b7, b8⟩, -⟩ := iT
  refine xa_ge4 (fun lv h0 h1 h2 h3 => ?_)
  have t0 := hT.1
  obtain ⟨g, r0, er⟩ := hr
  simp (disch := omega) only [↓ra_31_0, ↓ra_31_1, xa_kli, xa_klr, xa_kll, xa_ki, xa_kl, xa_kr, xa_kii, xa_kk, xa_kir, xa_krr, xa_kiir, xa_krir, xa_kdup, xa_kdup2, xa_kcp, xa_gf, xa_pf, xa_ga, xa_pa, xa_gq, xa_pq, xa_gl, xa_args, xa_ri, xa_rz, xa_rv, xa_s1, xa_s2, xa_c1, eq_self, List.getElem?_cons_succ, List.getElem?_cons_zero, true_and, and_true, nI_add, pk_mul, xt_in, xt_cl, xt_i0, xt_i1, h0, h1, xt_lk31]
  unfold xq_acc
  by_cases e0 : c = 110
  · subst e0
    simp only [reduceIte, Nat.reduceEqDiff, show ∀ K : Nat → Prop, xa_jmp 1 59 K = K 60 from fun _ => rfl]
    by_cases en : n = 1
    · subst en
      simp only [reduceIte]
      obtain ⟨⟨z1, M2⟩, cE, c1, c2, c3⟩ := pc_aN hT (v 0) (hv 0 (by omega))
      have c1 : z1 = _ := c1
      subst c1
      have er0 := er 0 (by omega)
      refine ⟨(_, M2), ?_, rfl, c2, c3⟩
      simp (disch := omega) only [↓ra_31_60, ↓ra_31_61, ↓ra_31_62, ↓ra_31_65, ↓ra_31_66, ↓ra_31_67, ↓ra_31_68, ↓ra_31_69, ↓ra_31_72, ↓ra_31_75, ↓ra_31_76, ↓ra_31_79, ↓ra_31_80, xa_kli, xa_klr, xa_kll, xa_ki, xa_kl, xa_kr, xa_kii, xa_kk, xa_kir, xa_krr, xa_kiir, xa_krir, xa_kdup, xa_kdup2, xa_kcp, xa_gf, xa_pf, xa_ga, xa_pa, xa_gq, xa_pq, xa_gl, xa_args, xa_ri, xa_rz, xa_rv, xa_s1, xa_s2, xa_c1, eq_self, List.getElem?_cons_succ, List.getElem?_cons_zero, true_and, and_true, nI_add, pk_mul, xt_in, xt_cl, xt_i0, xt_i1, xa_kc, xa_w8, xa_fit, lg_sl, List.flatMap_cons, List.flatMap_nil, List.map_cons, List.map_nil, List.sum_cons, List.sum_nil, Value.category, List.length_cons, List.length_nil, List.length_append, xa_rc, xa_rf, exists_eq_left, exists_eq', Option.some.injEq, Sum.inr.injEq, Prod.mk.injEq, Option.toList_some, Option.toList_none, List.cons_append, List.nil_append, Nat.reduceAdd, Nat.reduceLeDiff, Nat.reduceLT, List.set_cons_zero, List.set_cons_succ, eq_self, or_true, true_or, reduceIte, xt_ne, h0, h1, h2, h3, t0, r0, er0, xa_iff cE, mx_32, xt_b0, xt_eq]
      by_cases q : (xq_aN T (v 0)).isSome = true
      · simp only [q, not_true_eq_false, if_false, if_true, eq_self, or_true]
      · simp only [q, not_false_eq_true, if_true, if_false, eq_self, true_or, Bool.false_eq_true]
    · rw [if_neg en]
      refine ⟨_, ?_, xq_as0 hT rfl⟩
      simp (disch := omega) only [↓ra_31_60, ↓ra_31_61, ↓ra_31_62, ↓ra_31_65, ↓ra_31_66, ↓ra_31_67, ↓ra_31_68, ↓ra_31_69, ↓ra_31_72, ↓ra_31_75, ↓ra_31_76, ↓ra_31_79, ↓ra_31_80, xa_kli, xa_klr, xa_kll, xa_ki, xa_kl, xa_kr, xa_kii, xa_kk, xa_kir, xa_krr, xa_kiir, xa_krir, xa_kdup, xa_kdup2, xa_kcp, xa_gf, xa_pf, xa_ga, xa_pa, xa_gq, xa_pq, xa_gl, xa_args, xa_ri, xa_rz, xa_rv, xa_s1, xa_s2, xa_c1, eq_self, List.getElem?_cons_succ, List.getElem?_cons_zero, true_and, and_true, nI_add, pk_mul, xt_in, xt_cl, xt_i0, xt_i1, h0, h1, h2, h3, xt_eq, if_neg en, if_pos en, eq_self, true_or]
  simp only [if_neg e0]
  by_cases e1 : c = 99
  · subst e1
    simp only [reduceIte, Nat.reduceEqDiff, show ∀ K : Nat → Prop, xa_jmp 1 80 K = K 81 from fun _ => rfl]
    by_cases en : n = 1
    · subst en
      simp only [reduceIte]
      obtain ⟨⟨z1, M2⟩, cE, c1, c2, c3⟩ := pc_aC hT (v 0) (hv 0 (by omega)) b5 b6 b7 b8
      have c1 : z1 = _ := c1
      subst c1
      have er0 := er 0 (by omega)
      refine ⟨(_, M2), ?_, rfl, c2, c3⟩
      simp (disch := omega) only [↓ra_31_81, ↓ra_31_82, ↓ra_31_83, ↓ra_31_86, ↓ra_31_87, ↓ra_31_88, ↓ra_31_89, ↓ra_31_90, ↓ra_31_93, ↓ra_31_96, ↓ra_31_97, ↓ra_31_100, ↓ra_31_101, xa_kli, xa_klr, xa_kll, xa_ki, xa_kl, xa_kr, xa_kii, xa_kk, xa_kir, xa_krr, xa_kiir, xa_krir, xa_kdup, xa_kdup2, xa_kcp, xa_gf, xa_pf, xa_ga, xa_pa, xa_gq, xa_pq, xa_gl, xa_args, xa_ri, xa_rz, xa_rv, xa_s1, xa_s2, xa_c1, eq_self, List.getElem?_cons_succ, List.getElem?_cons_zero, true_and, and_true, nI_add, pk_mul, xt_in, xt_cl, xt_i0, xt_i1, xa_kc, xa_w8, xa_fit, lg_sl, List.flatMap_cons, List.flatMap_nil, List.map_cons, List.map_nil, List.sum_cons, List.sum_nil, Value.category, List.length_cons, List.length_nil, List.length_append, xa_rc, xa_rf, exists_eq_left, exists_eq', Option.some.injEq, Sum.inr.injEq, Prod.mk.injEq, Option.toList_some, Option.toList_none, List.cons_append, List.nil_append, Nat.reduceAdd, Nat.reduceLeDiff, Nat.reduceLT, List.set_cons_zero, List.set_cons_succ, eq_self, or_true, true_or, reduceIte, xt_ne, h0, h1, h2, h3, t0, r0, er0, xa_iff cE, mx_33, xt_b0, xt_eq]
      by_cases q : (xq_aC T (v 0)).isSome = true
      · simp only [q, not_true_eq_false, if_false, if_true, eq_self, or_true]
      · simp only [q, not_false_eq_true, if_true, if_false, eq_self, true_or, Bool.false_eq_true]
    · rw [if_neg en]
      refine ⟨_, ?_, xq_as0 hT rfl⟩
      simp (disch := omega) only [↓ra_31_81, ↓ra_31_82, ↓ra_31_83, ↓ra_31_86, ↓ra_31_87, ↓ra_31_88, ↓ra_31_89, ↓ra_31_90, ↓ra_31_93, ↓ra_31_96, ↓ra_31_97, ↓ra_31_100, ↓ra_31_101, xa_kli, xa_klr, xa_kll, xa_ki, xa_kl, xa_kr, xa_kii, xa_kk, xa_kir, xa_krr, xa_kiir, xa_krir, xa_kdup, xa_kdup2, xa_kcp, xa_gf, xa_pf, xa_ga, xa_pa, xa_gq, xa_pq, xa_gl, xa_args, xa_ri, xa_rz, xa_rv, xa_s1, xa_s2, xa_c1, eq_self, List.getElem?_cons_succ, List.getElem?_cons_zero, true_and, and_true, nI_add, pk_mul, xt_in, xt_cl, xt_i0, xt_i1, h0, h1, h2, h3, xt_eq, if_neg en, if_pos en, eq_self, true_or]
  simp only [if_neg e1]
  by_cases e2 : c = 103
  · subst e2
    simp only [reduceIte, Nat.reduceEqDiff, show ∀ K : Nat → Prop, xa_jmp 1 101 K = K 102 from fun _ => rfl]
    by_cases en : n = 1
    · subst en
      simp only [reduceIte]
      obtain ⟨⟨z1, M2⟩, cE, c1, c2, c3⟩ := pc_aG hT (v 0) (hv 0 (by omega)) b3 b4
      have c1 : z1 = _ := c1
      subst c1
      have er0 := er 0 (by omega)
      refine ⟨(_, M2), ?_, rfl, c2, c3⟩
      simp (disch := omega) only [↓ra_31_102, ↓ra_31_103, ↓ra_31_104, ↓ra_31_107, ↓ra_31_108, ↓ra_31_109, ↓ra_31_110, ↓ra_31_111, ↓ra_31_114, ↓ra_31_117, ↓ra_31_118, ↓ra_31_121, ↓ra_31_122, xa_kli, xa_klr, xa_kll, xa_ki, xa_kl, xa_kr, xa_kii, xa_kk, xa_kir, xa_krr, xa_kiir, xa_krir, xa_kdup, xa_kdup2, xa_kcp, xa_gf, xa_pf, xa_ga, xa_pa, xa_gq, xa_pq, xa_gl, xa_args, xa_ri, xa_rz, xa_rv, xa_s1, xa_s2, xa_c1, eq_self, List.getElem?_cons_succ, List.getElem?_cons_zero, true_and, and_true, nI_add, pk_mul, xt_in, xt_cl, xt_i0, xt_i1, xa_kc, xa_w8, xa_fit, lg_sl, List.flatMap_cons, List.flatMap_nil, List.map_cons, List.map_nil, List.sum_cons, List.sum_nil, Value.category, List.length_cons, List.length_nil, List.length_append, xa_rc, xa_rf, exists_eq_left, exists_eq', Option.some.injEq, Sum.inr.injEq, Prod.mk.injEq, Option.toList_some, Option.toList_none, List.cons_append, List.nil_append, Nat.reduceAdd, Nat.reduceLeDiff, Nat.reduceLT, List.set_cons_zero, List.set_cons_succ, eq_self, or_true, true_or, reduceIte, xt_ne, h0, h1, h2, h3, t0, r0, er0, xa_iff cE, mx_34, xt_b0, xt_eq]
      by_cases q : (xq_aG T (v 0)).isSome = true
      · simp only [q, not_true_eq_false, if_false, if_true, eq_self, or_true]
      · simp only [q, not_false_eq_true, if_true, if_false, eq_self, true_or, Bool.false_eq_true]
    · rw [if_neg en]
      refine ⟨_, ?_, xq_as0 hT rfl⟩
      simp (disch := omega) only [↓ra_31_102, ↓ra_31_103, ↓ra_31_104, ↓ra_31_107, ↓ra_31_108, ↓ra_31_109, ↓ra_31_110, ↓ra_31_111, ↓ra_31_114, ↓ra_31_117, ↓ra_31_118, ↓ra_31_121, ↓ra_31_122, xa_kli, xa_klr, xa_kll, xa_ki, xa_kl, xa_kr, xa_kii, xa_kk, xa_kir, xa_krr, xa_kiir, xa_krir, xa_kdup, xa_kdup2, xa_kcp, xa_gf, xa_pf, xa_ga, xa_pa, xa_gq, xa_pq, xa_gl, xa_args, xa_ri, xa_rz, xa_rv, xa_s1, xa_s2, xa_c1, eq_self, List.getElem?_cons_succ, List.getElem?_cons_zero, true_and, and_true, nI_add, pk_mul, xt_in, xt_cl, xt_i0, xt_i1, h0, h1, h2, h3, xt_eq, if_neg en, if_pos en, eq_self, true_or]
  simp only [if_neg e2]
  by_cases e3 : c = 115
  · subst e3
    simp only [reduceIte, Nat.reduceEqDiff, show ∀ K : Nat → Prop, xa_jmp 1 122 K = K 123 from fun _ => rfl]
    by_cases en : n = 3
    · subst en
      simp only [reduceIte]
      obtain ⟨⟨z1, M2⟩, cE, c1, c2, c3⟩ := pc_aS hT (v 0) (v 1) (v 2) (hv 0 (by omega)) (hv 1 (by omega)) (hv 2 (by omega)) b3 b4 b6
      have c1 : z1 = _ := c1
      subst c1
      have er0 := er 0 (by omega)
      have er1 := er 1 (by omega)
      have er2 := er 2 (by omega)
      refine ⟨(_, M2), ?_, rfl, c2, c3⟩
      simp (disch := omega) only [↓ra_31_123, ↓ra_31_124, ↓ra_31_125, ↓ra_31_128, ↓ra_31_129, ↓ra_31_130, ↓ra_31_131, ↓ra_31_132, ↓ra_31_133, ↓ra_31_134, ↓ra_31_135, ↓ra_31_136, ↓ra_31_137, ↓ra_31_138, ↓ra_31_141, ↓ra_31_144, ↓ra_31_145, ↓ra_31_148, ↓ra_31_149, xa_kli, xa_klr, xa_kll, xa_ki, xa_kl, xa_kr, xa_kii, xa_kk, xa_kir, xa_krr, xa_kiir, xa_krir, xa_kdup, xa_kdup2, xa_kcp, xa_gf, xa_pf, xa_ga, xa_pa, xa_gq, xa_pq, xa_gl, xa_args, xa_ri, xa_rz, xa_rv, xa_s1, xa_s2, xa_c1, eq_self, List.getElem?_cons_succ, List.getElem?_cons_zero, true_and, and_true, nI_add, pk_mul, xt_in, xt_cl, xt_i0, xt_i1, xa_kc, xa_w8, xa_fit, lg_sl, List.flatMap_cons, List.flatMap_nil, List.map_cons, List.map_nil, List.sum_cons, List.sum_nil, Value.category, List.length_cons, List.length_nil, List.length_append, xa_rc, xa_rf, exists_eq_left, exists_eq', Option.some.injEq, Sum.inr.injEq, Prod.mk.injEq, Option.toList_some, Option.toList_none, List.cons_append, List.nil_append, Nat.reduceAdd, Nat.reduceLeDiff, Nat.reduceLT, List.set_cons_zero, List.set_cons_succ, eq_self, or_true, true_or, reduceIte, xt_ne, h0, h1, h2, h3, t0, r0, er0, er1, er2, xa_iff cE, mx_35, xt_b0, xt_eq]
      by_cases q : (xq_aS T (v 0) (v 1) (v 2)).isSome = true
      · simp only [q, not_true_eq_false, if_false, if_true, eq_self, or_true]
      · simp only [q, not_false_eq_true, if_true, if_false, eq_self, true_or, Bool.false_eq_true]
    · rw [if_neg en]
      refine ⟨_, ?_, xq_as0 hT rfl⟩
      simp (disch := omega) only [↓ra_31_123, ↓ra_31_124, ↓ra_31_125, ↓ra_31_128, ↓ra_31_129, ↓ra_31_130, ↓ra_31_131, ↓ra_31_132, ↓ra_31_133, ↓ra_31_134, ↓ra_31_135, ↓ra_31_136, ↓ra_31_137, ↓ra_31_138, ↓ra_31_141, ↓ra_31_144, ↓ra_31_145, ↓ra_31_148, ↓ra_31_149, xa_kli, xa_klr, xa_kll, xa_ki, xa_kl, xa_kr, xa_kii, xa_kk, xa_kir, xa_krr, xa_kiir, xa_krir, xa_kdup, xa_kdup2, xa_kcp, xa_gf, xa_pf, xa_ga, xa_pa, xa_gq, xa_pq, xa_gl, xa_args, xa_ri, xa_rz, xa_rv, xa_s1, xa_s2, xa_c1, eq_self, List.getElem?_cons_succ, List.getElem?_cons_zero, true_and, and_true, nI_add, pk_mul, xt_in, xt_cl, xt_i0, xt_i1, h0, h1, h2, h3, xt_eq, if_neg en, if_pos en, eq_self, true_or]
  simp only [if_neg e3]
  by_cases e4 : c = 109
  · subst e4
    simp only [reduceIte, Nat.reduceEqDiff, show ∀ K : Nat → Prop, xa_jmp 1 149 K = K 150 from fun _ => rfl]
    by_cases en : n = 3
    · subst en
      simp only [reduceIte]
      obtain ⟨⟨z1, M2⟩, cE, c1, c2, c3⟩ := pc_aM hT (v 0) (v 1) (v 2) (hv 0 (by omega)) (hv 1 (by omega)) (hv 2 (by omega)) b3 b4 b7
      have c1 : z1 = _ := c1
      subst c1
      have er0 := er 0 (by omega)
      have er1 := er 1 (by omega)
      have er2 := er 2 (by omega)
      refine ⟨(_, M2), ?_, rfl, c2, c3⟩
      simp (disch := omega) only [↓ra_31_150, ↓ra_31_151, ↓ra_31_152, ↓ra_31_155, ↓ra_31_156, ↓ra_31_157, ↓ra_31_158, ↓ra_31_159, ↓ra_31_160, ↓ra_31_161, ↓ra_31_162, ↓ra_31_163, ↓ra_31_164, ↓ra_31_165, ↓ra_31_168, ↓ra_31_171, ↓ra_31_172, ↓ra_31_175, ↓ra_31_176, xa_kli, xa_klr, xa_kll, xa_ki, xa_kl, xa_kr, xa_kii, xa_kk, xa_kir, xa_krr, xa_kiir, xa_krir, xa_kdup, xa_kdup2, xa_kcp, xa_gf, xa_pf, xa_ga, xa_pa, xa_gq, xa_pq, xa_gl, xa_args, xa_ri, xa_rz, xa_rv, xa_s1, xa_s2, xa_c1, eq_self, List.getElem?_cons_succ, List.getElem?_cons_zero, true_and, and_true, nI_add, pk_mul, xt_in, xt_cl, xt_i0, xt_i1, xa_kc, xa_w8, xa_fit, lg_sl, List.flatMap_cons, List.flatMap_nil, List.map_cons, List.map_nil, List.sum_cons, List.sum_nil, Value.category, List.length_cons, List.length_nil, List.length_append, xa_rc, xa_rf, exists_eq_left, exists_eq', Option.some.injEq, Sum.inr.injEq, Prod.mk.injEq, Option.toList_some, Option.toList_none, List.cons_append, List.nil_append, Nat.reduceAdd, Nat.reduceLeDiff, Nat.reduceLT, List.set_cons_zero, List.set_cons_succ, eq_self, or_true, true_or, reduceIte, xt_ne, h0, h1, h2, h3, t0, r0, er0, er1, er2, xa_iff cE, mx_36, xt_b0, xt_eq]
      by_cases q : (xq_aM T (v 0) (v 1) (v 2)).isSome = true
      · simp only [q, not_true_eq_false, if_false, if_true, eq_self, or_true]
      · simp only [q, not_false_eq_true, if_true, if_false, eq_self, true_or, Bool.false_eq_true]
    · rw [if_neg en]
      refine ⟨_, ?_, xq_as0 hT rfl⟩
      simp (disch := omega) only [↓ra_31_150, ↓ra_31_151, ↓ra_31_152, ↓ra_31_155, ↓ra_31_156, ↓ra_31_157, ↓ra_31_158, ↓ra_31_159, ↓ra_31_160, ↓ra_31_161, ↓ra_31_162, ↓ra_31_163, ↓ra_31_164, ↓ra_31_165, ↓ra_31_168, ↓ra_31_171, ↓ra_31_172, ↓ra_31_175, ↓ra_31_176, xa_kli, xa_klr, xa_kll, xa_ki, xa_kl, xa_kr, xa_kii, xa_kk, xa_kir, xa_krr, xa_kiir, xa_krir, xa_kdup, xa_kdup2, xa_kcp, xa_gf, xa_pf, xa_ga, xa_pa, xa_gq, xa_pq, xa_gl, xa_args, xa_ri, xa_rz, xa_rv, xa_s1, xa_s2, xa_c1, eq_self, List.getElem?_cons_succ, List.getElem?_cons_zero, true_and, and_true, nI_add, pk_mul, xt_in, xt_cl, xt_i0, xt_i1, h0, h1, h2, h3, xt_eq, if_neg en, if_pos en, eq_self, true_or]
  simp only [if_neg e4]
  by_cases e5 : c = 119
  · subst e5
    simp only [reduceIte, Nat.reduceEqDiff, show ∀ K : Nat → Prop, xa_jmp 1 176 K = K 177 from fun _ => rfl]
    by_cases en : n = 2
    · subst en
      simp only [reduceIte]
      obtain ⟨⟨z1, M2⟩, cE, c1, c2, c3⟩ := pc_aW hT (v 0) (v 1) (hv 0 (by omega)) (hv 1 (by omega)) b8
      have c1 : z1 = _ := c1
      subst c1
      have er0 := er 0 (by omega)
      have er1 := er 1 (by omega)
      refine ⟨(_, M2), ?_, rfl, c2, c3⟩
      simp (disch := omega) only [↓ra_31_177, ↓ra_31_178, ↓ra_31_179, ↓ra_31_182, ↓ra_31_183, ↓ra_31_184, ↓ra_31_185, ↓ra_31_186, ↓ra_31_187, ↓ra_31_188, ↓ra_31_189, ↓ra_31_192, ↓ra_31_195, ↓ra_31_196, ↓ra_31_199, ↓ra_31_200, xa_kli, xa_klr, xa_kll, xa_ki, xa_kl, xa_kr, xa_kii, xa_kk, xa_kir, xa_krr, xa_kiir, xa_krir, xa_kdup, xa_kdup2, xa_kcp, xa_gf, xa_pf, xa_ga, xa_pa, xa_gq, xa_pq, xa_gl, xa_args, xa_ri, xa_rz, xa_rv, xa_s1, xa_s2, xa_c1, eq_self, List.getElem?_cons_succ, List.getElem?_cons_zero, true_and, and_true, nI_add, pk_mul, xt_in, xt_cl, xt_i0, xt_i1, xa_kc, xa_w8, xa_fit, lg_sl, List.flatMap_cons, List.flatMap_nil, List.map_cons, List.map_nil, List.sum_cons, List.sum_nil, Value.category, List.length_cons, List.length_nil, List.length_append, xa_rc, xa_rf, exists_eq_left, exists_eq', Option.some.injEq, Sum.inr.injEq, Prod.mk.injEq, Option.toList_some, Option.toList_none, List.cons_append, List.nil_append, Nat.reduceAdd, Nat.reduceLeDiff, Nat.reduceLT, List.set_cons_zero, List.set_cons_succ, eq_self, or_true, true_or, reduceIte, xt_ne, h0, h1, h2, h3, t0, r0, er0, er1, xa_iff cE, mx_38, xt_b0, xt_eq]
      by_cases q : (xq_aW T (v 0) (v 1)).isSome = true
      · simp only [q, not_true_eq_false, if_false, if_true, eq_self, or_true]
      · simp only [q, not_false_eq_true, if_true, if_false, eq_self, true_or, Bool.false_eq_true]
    · rw [if_neg en]
      refine ⟨_, ?_, xq_as0 hT rfl⟩
      simp (disch := omega) only [↓ra_31_177, ↓ra_31_178, ↓ra_31_179, ↓ra_31_182, ↓ra_31_183, ↓ra_31_184, ↓ra_31_185, ↓ra_31_186, ↓ra_31_187, ↓ra_31_188, ↓ra_31_189, ↓ra_31_192, ↓ra_31_195, ↓ra_31_196, ↓ra_31_199, ↓ra_31_200, xa_kli, xa_klr, xa_kll, xa_ki, xa_kl, xa_kr, xa_kii, xa_kk, xa_kir, xa_krr, xa_kiir, xa_krir, xa_kdup, xa_kdup2, xa_kcp, xa_gf, xa_pf, xa_ga, xa_pa, xa_gq, xa_pq, xa_gl, xa_args, xa_ri, xa_rz, xa_rv, xa_s1, xa_s2, xa_c1, eq_self, List.getElem?_cons_succ, List.getElem?_cons_zero, true_and, and_true, nI_add, pk_mul, xt_in, xt_cl, xt_i0, xt_i1, h0, h1, h2, h3, xt_eq, if_neg en, if_pos en, eq_self, true_or]
  simp only [if_neg e5]
  simp only [show ∀ K : Nat → Prop, xa_jmp 1 200 K = K 201 from fun _ => rfl]
  refine ⟨_, ?_, xq_as0 hT rfl⟩
  simp (disch := omega) only [↓ra_31_201, ↓ra_31_202, xa_kli, xa_klr, xa_kll, xa_ki, xa_kl, xa_kr, xa_kii, xa_kk, xa_kir, xa_krr, xa_kiir, xa_krir, xa_kdup, xa_kdup2, xa_kcp, xa_gf, xa_pf, xa_ga, xa_pa, xa_gq, xa_pq, xa_gl, xa_args, xa_ri, xa_rz, xa_rv, xa_s1, xa_s2, xa_c1, eq_self, List.getElem?_cons_succ, List.getElem?_cons_zero, true_and, and_true, nI_add, pk_mul, xt_in, xt_cl, xt_i0, xt_i1, h0, h1, h2, h3, eq_self, true_or]
