theorem xn_s2' {c : Nat} {M M1 : xa_M} {r : Nat → Int32} {g : Nat → Nat → Int32} {h : Nat → Int32} (h2 : Nat → Int32) (hn : xn c M r (xb_u g 2 h) M1) : xn c M r (xb_u g 2 h2) (xa_st M1 (c + 2) (.inl (0, 31, .inl h2))) := by
  have := xn_s2 (h2 := h2) hn
  rw [xb_u2] at this
  exact this
theorem xv_nle {r t : Nat → Int32} {T : xt_T} {n : Nat} (h : xv_T r t T n) : n ≤ xnM T ∧ n ≤ 5 := by
  obtain ⟨-, -, -, ⟨vn, ve⟩, -⟩ := h
  exact ⟨by rcases ve with ⟨h, -⟩ | ⟨h, -⟩ <;> omega, vn⟩
theorem pd_menGoOn {M : xa_M} {c n : Nat} {r : Nat → Int32} {g : Nat → Nat → Int32} {T : xt_T} {S : xt_S} (hA : xv_A M c r g T n S) (iT : xi_T T) (iP : xi_P T (xsp S)) : ∃ z, xa_E 119 0 (xa_ent [.ref c]) [] M z ∧ z.1 = none ∧ ∃ h, xn c M r (xb_u g 2 h) z.2 ∧ (∀ j, j < 25 → h j = g 2 j) ∧ (∀ m, m < n → h (25 + m) = nI (xq_pm T (xsp S) m)) ∧ (xnM T = n + 1 → h 30 = nI (xq_pm T (xsp S) n)) := by
  obtain ⟨⟨b1, b2, b3, b4, b5, b6, b7, b8⟩, bs, bm, bw⟩ := id iT
  obtain ⟨hB, hV, ⟨-, -, hp⟩, he⟩ := hA
  have nl := xv_nle hV
  obtain ⟨⟨v0, v1, v2, v3, v4, v5⟩, -, vm, ⟨vn, ve⟩, -⟩ := hV
  refine xa_ge1 (fun lv h0 => ?_)
  have loop : ∀ (k i : Nat) (lv : xa_L) (M1 : xa_M) (h : Nat → Int32), lv 0 = some (.ref c) → lv 1 = some (.int (nI i)) → i + k = n → xn c M r (xb_u g 2 h) M1 → (∀ j, j < 25 ∨ 25 + n ≤ j → h j = g 2 j) → (∀ m, m < n → h (25 + m) = nI (if m < i then xq_pm T (xsp S) m else xsp S m)) → ∃ z, xa_E 119 2 lv [] M1 z ∧ z.1 = none ∧ ∃ h, xn c M r (xb_u g 2 h) z.2 ∧ (∀ j, j < 25 → h j = g 2 j) ∧ (∀ m, m < n → h (25 + m) = nI (xq_pm T (xsp S) m)) ∧ (xnM T = n + 1 → h 30 = nI (xq_pm T (xsp S) n)) := by
    intro k
    induction k with
    | zero =>
      intro i lv M1 h h0 h1 e hn ho hm
      have e : i = n := by omega
      subst e
      obtain ⟨m0, m1, m2, -⟩ := hn.2
      unfold xb_c at m0
      rw [xb_un _ _ _ _ (by omega)] at m1
      rw [xb_ue] at m2
      simp (disch := omega) only [↓ra_119_2, ↓ra_119_3, ↓ra_119_4, ↓ra_119_7, ↓ra_119_8, ↓ra_119_9, ↓ra_119_57, ↓ra_119_58, ↓ra_119_61, ↓ra_119_63, ↓ra_119_64, ↓ra_119_67, ↓ra_119_69, ↓ra_119_70, ↓ra_119_71, ↓ra_119_74, ↓ra_119_75, ↓ra_119_76, ↓ra_119_79, ↓ra_119_80, ↓ra_119_81, ↓ra_119_82, ↓ra_119_83, xa_kli, xa_klr, xa_kll, xa_ki, xa_kl, xa_kr, xa_kii, xa_kk, xa_kir, xa_krr, xa_kiir, xa_krir, xa_kdup, xa_kdup2, xa_kcp, xa_gf, xa_pf, xa_ga, xa_pa, xa_gq, xa_pq, xa_gl, xa_args, xa_ri, xa_rz, xa_rv, xa_s1, xa_s2, xa_c1, eq_self, List.getElem?_cons_succ, List.getElem?_cons_zero, true_and, and_true, nI_add, pk_mul, xt_in, xt_cl, xt_i0, xt_i1, xa_kc, xa_w8, xa_fit, lg_sl, List.flatMap_cons, List.flatMap_nil, List.map_cons, List.map_nil, List.sum_cons, List.sum_nil, Value.category, List.length_cons, List.length_nil, List.length_append, xa_rc, xa_rf, exists_eq_left, exists_eq', Option.some.injEq, Sum.inr.injEq, Prod.mk.injEq, Option.toList_some, Option.toList_none, List.cons_append, List.nil_append, Nat.reduceAdd, Nat.reduceLeDiff, Nat.reduceLT, List.set_cons_zero, List.set_cons_succ, eq_self, or_true, true_or, reduceIte, xt_ne, h0, h1, m0, m1, m2, v1, v4, xt_le, Nat.le_refl, xt_n0, not_false_eq_true]
      refine ⟨_, xn_s2' _ hn, fun j hj => ?_, fun m hm' => ?_, fun hx => ?_⟩
      · rw [xt_us, if_neg (by omega)]; exact ho j (by omega)
      · rw [xt_us, if_neg (by omega), hm m hm', if_pos hm']
      · rw [xt_us, if_pos rfl, ho 30 (by omega), he hx]
        rcases ve with ⟨hn', -⟩ | ⟨-, -, h6⟩
        · omega
        · have := bm i (by omega)
          have := iP i (by omega)
          rw [h6, nI_add, xt_rem _ _ (by omega) (by omega) (by omega)]
          rfl
    | succ k ih =>
      intro i lv M1 h h0 h1 e hn ho hm
      obtain ⟨m0, m1, m2, -⟩ := hn.2
      unfold xb_c at m0
      rw [xb_un _ _ _ _ (by omega)] at m1
      rw [xb_ue] at m2
      obtain ⟨-, -, e3⟩ := vm i (by omega)
      have hmi := hm i (by omega)
      rw [if_neg (Nat.lt_irrefl i)] at hmi
      have := bm i (by omega)
      have := iP i (by omega)
      simp (disch := omega) only [↓ra_119_2, ↓ra_119_3, ↓ra_119_4, ↓ra_119_7, ↓ra_119_8, ↓ra_119_9, xa_kli, xa_klr, xa_kll, xa_ki, xa_kl, xa_kr, xa_kii, xa_kk, xa_kir, xa_krr, xa_kiir, xa_krir, xa_kdup, xa_kdup2, xa_kcp, xa_gf, xa_pf, xa_ga, xa_pa, xa_gq, xa_pq, xa_gl, xa_args, xa_ri, xa_rz, xa_rv, xa_s1, xa_s2, xa_c1, eq_self, List.getElem?_cons_succ, List.getElem?_cons_zero, true_and, and_true, nI_add, pk_mul, xt_in, xt_cl, xt_i0, xt_i1, xa_kc, xa_w8, xa_fit, lg_sl, List.flatMap_cons, List.flatMap_nil, List.map_cons, List.map_nil, List.sum_cons, List.sum_nil, Value.category, List.length_cons, List.length_nil, List.length_append, xa_rc, xa_rf, exists_eq_left, exists_eq', Option.some.injEq, Sum.inr.injEq, Prod.mk.injEq, Option.toList_some, Option.toList_none, List.cons_append, List.nil_append, Nat.reduceAdd, Nat.reduceLeDiff, Nat.reduceLT, List.set_cons_zero, List.set_cons_succ, eq_self, or_true, true_or, reduceIte, xt_ne, h0, h1, m0, m1, v4, xt_le]
      simp only [if_neg (show ¬ n ≤ i by omega)]
      simp (disch := omega) only [↓ra_119_12, ↓ra_119_13, ↓ra_119_16, ↓ra_119_18, ↓ra_119_19, ↓ra_119_20, ↓ra_119_21, ↓ra_119_24, ↓ra_119_26, ↓ra_119_27, ↓ra_119_28, ↓ra_119_29, ↓ra_119_30, ↓ra_119_33, ↓ra_119_35, ↓ra_119_36, ↓ra_119_37, ↓ra_119_38, ↓ra_119_39, ↓ra_119_40, ↓ra_119_41, ↓ra_119_42, ↓ra_119_43, ↓ra_119_44, ↓ra_119_47, ↓ra_119_48, ↓ra_119_49, ↓ra_119_50, ↓ra_119_51, ↓ra_119_54, xa_kli, xa_klr, xa_kll, xa_ki, xa_kl, xa_kr, xa_kii, xa_kk, xa_kir, xa_krr, xa_kiir, xa_krir, xa_kdup, xa_kdup2, xa_kcp, xa_gf, xa_pf, xa_ga, xa_pa, xa_gq, xa_pq, xa_gl, xa_args, xa_ri, xa_rz, xa_rv, xa_s1, xa_s2, xa_c1, eq_self, List.getElem?_cons_succ, List.getElem?_cons_zero, true_and, and_true, nI_add, pk_mul, xt_in, xt_cl, xt_i0, xt_i1, xa_kc, xa_w8, xa_fit, lg_sl, List.flatMap_cons, List.flatMap_nil, List.map_cons, List.map_nil, List.sum_cons, List.sum_nil, Value.category, List.length_cons, List.length_nil, List.length_append, xa_rc, xa_rf, exists_eq_left, exists_eq', Option.some.injEq, Sum.inr.injEq, Prod.mk.injEq, Option.toList_some, Option.toList_none, List.cons_append, List.nil_append, Nat.reduceAdd, Nat.reduceLeDiff, Nat.reduceLT, List.set_cons_zero, List.set_cons_succ, eq_self, or_true, true_or, reduceIte, xt_ne, xt_n0, not_false_eq_true, xt_div, xt_remA, h0, h1, m0, m1, m2, v1, hmi, e3]
      refine ih (i + 1) _ _ (upd h (25 + i) (nI ((xsp S i + xts T i) % xC T))) (by simp [xa_s1, xa_c1, h0]) (by simp [xa_s1, xa_c1]) (by omega) (xn_s2' _ hn) (fun j hj => ?_) (fun m hm' => ?_)
      · rw [xt_us, if_neg (by omega)]; exact ho j hj
      · rw [xt_us]
        by_cases em : m = i
        · subst em
          rw [if_pos rfl, if_pos (by omega)]
          rfl
        · rw [if_neg (by omega), hm m hm']
          by_cases c : m < i
          · rw [if_pos c, if_pos (by omega)]
          · rw [if_neg c, if_neg (by omega)]
  simp (disch := omega) only [↓ra_119_0, ↓ra_119_1, xa_kli, xa_klr, xa_kll, xa_ki, xa_kl, xa_kr, xa_kii, xa_kk, xa_kir, xa_krr, xa_kiir, xa_krir, xa_kdup, xa_kdup2, xa_kcp, xa_gf, xa_pf, xa_ga, xa_pa, xa_gq, xa_pq, xa_gl, xa_args, xa_ri, xa_rz, xa_rv, xa_s1, xa_s2, xa_c1, eq_self, List.getElem?_cons_succ, List.getElem?_cons_zero, true_and, and_true, nI_add, pk_mul, xt_in, xt_cl, xt_i0, xt_i1, xa_kc, xa_w8, xa_fit, lg_sl, List.flatMap_cons, List.flatMap_nil, List.map_cons, List.map_nil, List.sum_cons, List.sum_nil, Value.category, List.length_cons, List.length_nil, List.length_append, xa_rc, xa_rf, exists_eq_left, exists_eq', Option.some.injEq, Sum.inr.injEq, Prod.mk.injEq, Option.toList_some, Option.toList_none, List.cons_append, List.nil_append, Nat.reduceAdd, Nat.reduceLeDiff, Nat.reduceLT, List.set_cons_zero, List.set_cons_succ, eq_self, or_true, true_or, reduceIte, xt_ne]
  refine loop n 0 _ M (g 2) (by simp [xa_s1, xa_c1, h0]) (by simp [xa_s1, xa_c1]) (by omega) (by rw [xb_ui]; exact xn_r hB) (fun _ _ => rfl) (fun m hm => ?_)
  rw [hp m hm, if_neg (Nat.not_lt_zero m)]
theorem pd_goesBy {M : xa_M} {c n : Nat} {r : Nat → Int32} {g : Nat → Nat → Int32} {T : xt_T} {S : xt_S} (hA : xv_A M c r g T n S) (iT : xi_T T) (iS : xi_S T S) : ∃ z, xa_E 118 0 (xa_ent [.ref c]) [] M z ∧ z.1 = none ∧ ∃ h, xn c M r (xb_u g 2 h) z.2 ∧ xv_A z.2 c r (xb_u g 2 h) T n (xq_day T S) := by
  obtain ⟨⟨b1, b2, b3, b4, b5, b6, b7, b8⟩, bs, bm, bw⟩ := id iT
  obtain ⟨hB, hV, ⟨hd, hs0, hp⟩, he⟩ := hA
  have nl := xv_nle hV
  obtain ⟨⟨v0, v1, v2, v3, v4, v5⟩, vs, vm, ⟨vn, ve⟩, vw⟩ := id hV
  refine xa_ge1 (fun lv h0 => ?_)
  have vA : ∀ (M1 : xa_M) (h : Nat → Int32) (S1 : xt_S), xn c M r (xb_u g 2 h) M1 → xv_S h (xnS T) n S1 → (xnM T = n + 1 → h 30 = nI (xsp S1 n)) → xv_A M1 c r (xb_u g 2 h) T n S1 := fun M1 h S1 a b d => ⟨a.2, by rw [xb_un _ _ _ _ (by omega)]; exact hV, by rw [xb_ue]; exact b, by rw [xb_ue]; exact d⟩
  have fin : ∀ (lv : xa_L) (M1 : xa_M) (h : Nat → Int32), lv 0 = some (.ref c) → xn c M r (xb_u g 2 h) M1 → xv_S h (xnS T) n (xq_pt T S (xnS T)) → (∀ j, 25 ≤ j → h j = g 2 j) → ∃ z, xa_E 118 160 lv [] M1 z ∧ z.1 = none ∧ ∃ h, xn c M r (xb_u g 2 h) z.2 ∧ xv_A z.2 c r (xb_u g 2 h) T n (xq_day T S) := by
    intro lv M1 h h0 hn hv ho
    have hA1 := vA M1 h _ hn hv (fun hx => by rw [ho 30 (by omega)]; exact he hx)
    obtain ⟨⟨z2, M2⟩, cE, c1, h2, hn2, hl, hm, hx⟩ := pd_menGoOn hA1 iT iS.2.2
    have c1 : z2 = none := c1
    subst c1
    dsimp only at hn2
    rw [xb_u2] at hn2
    rw [xb_ue] at hl
    obtain ⟨k0, -⟩ := hn.2
    unfold xb_c at k0
    have hn2' := xn_t hn hn2
    obtain ⟨m0, m1, m2, -⟩ := hn2.2
    unfold xb_c at m0
    rw [xb_ue] at m2
    have e0 : h2 0 = nI (xsd S) := (hl 0 (by omega)).trans hv.1
    simp (disch := omega) only [↓ra_118_160, ↓ra_118_161, ↓ra_118_164, ↓ra_118_165, ↓ra_118_168, ↓ra_118_169, ↓ra_118_170, ↓ra_118_171, ↓ra_118_172, ↓ra_118_173, ↓ra_118_174, xa_kli, xa_klr, xa_kll, xa_ki, xa_kl, xa_kr, xa_kii, xa_kk, xa_kir, xa_krr, xa_kiir, xa_krir, xa_kdup, xa_kdup2, xa_kcp, xa_gf, xa_pf, xa_ga, xa_pa, xa_gq, xa_pq, xa_gl, xa_args, xa_ri, xa_rz, xa_rv, xa_s1, xa_s2, xa_c1, eq_self, List.getElem?_cons_succ, List.getElem?_cons_zero, true_and, and_true, nI_add, pk_mul, xt_in, xt_cl, xt_i0, xt_i1, xa_kc, xa_w8, xa_fit, lg_sl, List.flatMap_cons, List.flatMap_nil, List.map_cons, List.map_nil, List.sum_cons, List.sum_nil, Value.category, List.length_cons, List.length_nil, List.length_append, xa_rc, xa_rf, exists_eq_left, exists_eq', Option.some.injEq, Sum.inr.injEq, Prod.mk.injEq, Option.toList_some, Option.toList_none, List.cons_append, List.nil_append, Nat.reduceAdd, Nat.reduceLeDiff, Nat.reduceLT, List.set_cons_zero, List.set_cons_succ, eq_self, or_true, true_or, reduceIte, xt_ne, h0, k0, m0, m2, e0, xa_iff cE, mx_119]
    have hn3 := xn_s2 (h2 := upd h2 0 (nI (xsd S + 1))) hn2'
    rw [xb_u2] at hn3
    refine ⟨_, hn3, vA _ _ _ hn3 ⟨?_, fun s hs => ?_, fun m hm' => ?_⟩ (fun hy => ?_)⟩
    · rw [xt_us, if_pos rfl]; rfl
    · have q := hv.2.1 s hs
      rw [xt_us, xt_us, xt_us, xt_us, if_neg (by omega), if_neg (by omega), if_neg (by omega), if_neg (by omega), hl _ (by omega), hl _ (by omega), hl _ (by omega), hl _ (by omega), q.1, q.2.1, q.2.2.1, q.2.2.2]
      refine ⟨?_, rfl, ?_, ?_⟩
      · show nI (if s < xnS T then _ else _) = _; rw [if_pos hs]; rfl
      · show nI (if s < xnS T then _ else _) = _; rw [if_pos hs]; rfl
      · show nI (if s < xnS T then _ else _) = _; rw [if_pos hs]; rfl
    · rw [xt_us, if_neg (by omega)]; exact hm m hm'
    · rw [xt_us, if_neg (by omega)]; exact hx hy
  have loop : ∀ (k i : Nat) (lv : xa_L) (M1 : xa_M) (h : Nat → Int32), lv 0 = some (.ref c) → lv 1 = some (.int (nI i)) → i + k = xnS T → xn c M r (xb_u g 2 h) M1 → xv_S h (xnS T) n (xq_pt T S i) → (∀ j, 25 ≤ j → h j = g 2 j) → ∃ z, xa_E 118 2 lv [] M1 z ∧ z.1 = none ∧ ∃ h, xn c M r (xb_u g 2 h) z.2 ∧ xv_A z.2 c r (xb_u g 2 h) T n (xq_day T S) := by
    intro k
    induction k with
    | zero =>
      intro i lv M1 h h0 h1 e hn hv ho
      have e : i = xnS T := by omega
      subst e
      obtain ⟨m0, m1, -⟩ := hn.2
      unfold xb_c at m0
      rw [xb_un _ _ _ _ (by omega)] at m1
      simp (disch := omega) only [↓ra_118_2, ↓ra_118_3, ↓ra_118_4, ↓ra_118_7, ↓ra_118_8, ↓ra_118_9, xa_kli, xa_klr, xa_kll, xa_ki, xa_kl, xa_kr, xa_kii, xa_kk, xa_kir, xa_krr, xa_kiir, xa_krir, xa_kdup, xa_kdup2, xa_kcp, xa_gf, xa_pf, xa_ga, xa_pa, xa_gq, xa_pq, xa_gl, xa_args, xa_ri, xa_rz, xa_rv, xa_s1, xa_s2, xa_c1, eq_self, List.getElem?_cons_succ, List.getElem?_cons_zero, true_and, and_true, nI_add, pk_mul, xt_in, xt_cl, xt_i0, xt_i1, xa_kc, xa_w8, xa_fit, lg_sl, List.flatMap_cons, List.flatMap_nil, List.map_cons, List.map_nil, List.sum_cons, List.sum_nil, Value.category, List.length_cons, List.length_nil, List.length_append, xa_rc, xa_rf, exists_eq_left, exists_eq', Option.some.injEq, Sum.inr.injEq, Prod.mk.injEq, Option.toList_some, Option.toList_none, List.cons_append, List.nil_append, Nat.reduceAdd, Nat.reduceLeDiff, Nat.reduceLT, List.set_cons_zero, List.set_cons_succ, eq_self, or_true, true_or, reduceIte, xt_ne, h0, h1, m0, m1, v3, xt_le, Nat.le_refl]
      exact fin lv M1 h h0 hn hv ho
    | succ k ih =>
      intro i lv M1 h h0 h1 e hn hv ho
      have hi : i < xnS T := by omega
      have nxt : ∀ (lv : xa_L) (M2 : xa_M) (h2 : Nat → Int32), lv 0 = some (.ref c) → lv 1 = some (.int (nI i)) → xn c M r (xb_u g 2 h2) M2 → (∀ j, j ≠ 1 + 4 * i → j ≠ 1 + 4 * i + 2 → j ≠ 1 + 4 * i + 3 → h2 j = h j) → h2 (1 + 4 * i) = nI (xq_dd T S i).1 → h2 (1 + 4 * i + 2) = nI (xq_dd T S i).2.1 → h2 (1 + 4 * i + 3) = nI (xq_dd T S i).2.2 → ∃ z, xa_E 118 154 lv [] M2 z ∧ z.1 = none ∧ ∃ h, xn c M r (xb_u g 2 h) z.2 ∧ xv_A z.2 c r (xb_u g 2 h) T n (xq_day T S) := by
        intro lv M2 h2 h0 h1 hn2 ho2 d1 d2 d3
        simp (disch := omega) only [↓ra_118_154, ↓ra_118_157, xa_kli, xa_klr, xa_kll, xa_ki, xa_kl, xa_kr, xa_kii, xa_kk, xa_kir, xa_krr, xa_kiir, xa_krir, xa_kdup, xa_kdup2, xa_kcp, xa_gf, xa_pf, xa_ga, xa_pa, xa_gq, xa_pq, xa_gl, xa_args, xa_ri, xa_rz, xa_rv, xa_s1, xa_s2, xa_c1, eq_self, List.getElem?_cons_succ, List.getElem?_cons_zero, true_and, and_true, nI_add, pk_mul, xt_in, xt_cl, xt_i0, xt_i1, xa_kc, xa_w8, xa_fit, lg_sl, List.flatMap_cons, List.flatMap_nil, List.map_cons, List.map_nil, List.sum_cons, List.sum_nil, Value.category, List.length_cons, List.length_nil, List.length_append, xa_rc, xa_rf, exists_eq_left, exists_eq', Option.some.injEq, Sum.inr.injEq, Prod.mk.injEq, Option.toList_some, Option.toList_none, List.cons_append, List.nil_append, Nat.reduceAdd, Nat.reduceLeDiff, Nat.reduceLT, List.set_cons_zero, List.set_cons_succ, eq_self, or_true, true_or, reduceIte, xt_ne, h1]
        refine ih (i + 1) _ M2 h2 (by simp [xa_s1, xa_c1, h0]) (by simp [xa_s1, xa_c1]) (by omega) hn2 ⟨?_, fun s hs => ?_, fun m hm => ?_⟩ (fun j hj => ?_)
        · rw [ho2 0 (by omega) (by omega) (by omega)]; exact hv.1
        · have q := hv.2.1 s hs
          rw [ho2 (1 + 4 * s + 1) (by omega) (by omega) (by omega), q.2.1]
          show _ = nI (if s < i + 1 then _ else _) ∧ _ ∧ _ = nI (if s < i + 1 then _ else _) ∧ _ = nI (if s < i + 1 then _ else _)
          by_cases es : s = i
          · subst es
            rw [if_pos (by omega), if_pos (by omega), if_pos (by omega)]
            exact ⟨d1, rfl, d2, d3⟩
          · rw [ho2 _ (by omega) (by omega) (by omega), ho2 _ (by omega) (by omega) (by omega), ho2 _ (by omega) (by omega) (by omega), q.1, q.2.2.1, q.2.2.2]
            show nI (if s < i then _ else _) = _ ∧ _ ∧ nI (if s < i then _ else _) = _ ∧ nI (if s < i then _ else _) = _
            by_cases cs : s < i
            · rw [if_pos cs, if_pos cs, if_pos cs, if_pos (by omega), if_pos (by omega), if_pos (by omega)]
              exact ⟨rfl, rfl, rfl, rfl⟩
            · rw [if_neg cs, if_neg cs, if_neg cs, if_neg (by omega), if_neg (by omega), if_neg (by omega)]
              exact ⟨rfl, rfl, rfl, rfl⟩
        · rw [ho2 _ (by omega) (by omega) (by omega)]; exact hv.2.2 m hm
        · rw [ho2 j (by omega) (by omega) (by omega)]; exact ho j hj
      have q := hv.2.1 i hi
      have q1 : h (1 + 4 * i) = nI (xsh S i) := q.1.trans (by show nI (if i < i then _ else _) = _; rw [if_neg (Nat.lt_irrefl i)])
      have q2 : h (1 + 4 * i + 1) = nI (xsq S i) := q.2.1
      have q3 : h (1 + 4 * i + 2) = nI (xss S i) := q.2.2.1.trans (by show nI (if i < i then _ else _) = _; rw [if_neg (Nat.lt_irrefl i)])
      have q4 : h (1 + 4 * i + 3) = nI (xsm S i) := q.2.2.2.trans (by show nI (if i < i then _ else _) = _; rw [if_neg (Nat.lt_irrefl i)])
      have dd := iS.2.1 i hi
      have bk := bs i hi
      have hA1 := vA M1 h _ hn hv (fun hx => by rw [ho 30 (by omega)]; exact he hx)
      have cM := xa_iff (pd_isMet hA1 iT iS.2.2 i (xsq S i) hi dd.2.1)
      have cM : ∀ z, xa_E 117 0 (xa_ent [.ref c, .int (nI i), .int (nI (xsq S i))]) [] M1 z ↔ z = (some (.int (nI (if xq_f T (xsp S) (xtl T i) i (xsq S i) = true then 1 else 0))), M1) := cM
      have cK := xa_iff (pd_kind hA1 b6 i hi)
      obtain ⟨m0, m1, m2, -⟩ := hn.2
      unfold xb_c at m0
      rw [xb_un _ _ _ _ (by omega)] at m1
      rw [xb_ue] at m2
      simp (disch := omega) only [↓ra_118_2, ↓ra_118_3, ↓ra_118_4, ↓ra_118_7, ↓ra_118_8, ↓ra_118_9, xa_kli, xa_klr, xa_kll, xa_ki, xa_kl, xa_kr, xa_kii, xa_kk, xa_kir, xa_krr, xa_kiir, xa_krir, xa_kdup, xa_kdup2, xa_kcp, xa_gf, xa_pf, xa_ga, xa_pa, xa_gq, xa_pq, xa_gl, xa_args, xa_ri, xa_rz, xa_rv, xa_s1, xa_s2, xa_c1, eq_self, List.getElem?_cons_succ, List.getElem?_cons_zero, true_and, and_true, nI_add, pk_mul, xt_in, xt_cl, xt_i0, xt_i1, xa_kc, xa_w8, xa_fit, lg_sl, List.flatMap_cons, List.flatMap_nil, List.map_cons, List.map_nil, List.sum_cons, List.sum_nil, Value.category, List.length_cons, List.length_nil, List.length_append, xa_rc, xa_rf, exists_eq_left, exists_eq', Option.some.injEq, Sum.inr.injEq, Prod.mk.injEq, Option.toList_some, Option.toList_none, List.cons_append, List.nil_append, Nat.reduceAdd, Nat.reduceLeDiff, Nat.reduceLT, List.set_cons_zero, List.set_cons_succ, eq_self, or_true, true_or, reduceIte, xt_ne, h0, h1, m0, m1, v3, xt_le]
      simp only [if_neg (show ¬ xnS T ≤ i by omega)]
      simp (disch := omega) only [↓ra_118_12, ↓ra_118_13, ↓ra_118_14, ↓ra_118_15, ↓ra_118_16, ↓ra_118_17, ↓ra_118_18, ↓ra_118_19, ↓ra_118_22, ↓ra_118_23, ↓ra_118_24, xa_kli, xa_klr, xa_kll, xa_ki, xa_kl, xa_kr, xa_kii, xa_kk, xa_kir, xa_krr, xa_kiir, xa_krir, xa_kdup, xa_kdup2, xa_kcp, xa_gf, xa_pf, xa_ga, xa_pa, xa_gq, xa_pq, xa_gl, xa_args, xa_ri, xa_rz, xa_rv, xa_s1, xa_s2, xa_c1, eq_self, List.getElem?_cons_succ, List.getElem?_cons_zero, true_and, and_true, nI_add, pk_mul, xt_in, xt_cl, xt_i0, xt_i1, xa_kc, xa_w8, xa_fit, lg_sl, List.flatMap_cons, List.flatMap_nil, List.map_cons, List.map_nil, List.sum_cons, List.sum_nil, Value.category, List.length_cons, List.length_nil, List.length_append, xa_rc, xa_rf, exists_eq_left, exists_eq', Option.some.injEq, Sum.inr.injEq, Prod.mk.injEq, Option.toList_some, Option.toList_none, List.cons_append, List.nil_append, Nat.reduceAdd, Nat.reduceLeDiff, Nat.reduceLT, List.set_cons_zero, List.set_cons_succ, eq_self, or_true, true_or, reduceIte, xt_ne, h0, h1, m0, m2, q1, xt_eq]
      -- he is INSIDE still
      have stay : ∀ (lv : xa_L) (M2 : xa_M) (h2 : Nat → Int32) (mt : Nat), lv 0 = some (.ref c) → lv 1 = some (.int (nI i)) → lv 2 = some (.int (nI (1 + 4 * i))) → xn c M r (xb_u g 2 h2) M2 → (∀ j, j ≠ 1 + 4 * i → j ≠ 1 + 4 * i + 2 → j ≠ 1 + 4 * i + 3 → h2 j = h j) → xsh S i = 0 → h2 (1 + 4 * i) = nI 0 → h2 (1 + 4 * i + 2) = nI (xss S i) → h2 (1 + 4 * i + 3) = nI mt → xq_dd T S i = (if xN T ≤ xss S i + 1 then 3 else 0, xss S i + 1, mt) → ∃ z, xa_E 118 100 lv [] M2 z ∧ z.1 = none ∧ ∃ h, xn c M r (xb_u g 2 h) z.2 ∧ xv_A z.2 c r (xb_u g 2 h) T n (xq_day T S) := by
        intro lv M2 h2 mt h0 h1 h2' hn2 ho2 hz d1 d2 d3 de
        have ds := dd.2.2.2.2.1 hz
        obtain ⟨k0, k1, k2, -⟩ := hn2.2
        unfold xb_c at k0
        rw [xb_un _ _ _ _ (by omega)] at k1
        rw [xb_ue] at k2
        simp (disch := omega) only [↓ra_118_100, ↓ra_118_101, ↓ra_118_104, ↓ra_118_105, ↓ra_118_106, ↓ra_118_109, ↓ra_118_110, ↓ra_118_113, ↓ra_118_114, ↓ra_118_115, ↓ra_118_116, ↓ra_118_117, ↓ra_118_118, ↓ra_118_119, ↓ra_118_120, ↓ra_118_121, ↓ra_118_122, ↓ra_118_125, ↓ra_118_126, ↓ra_118_127, ↓ra_118_130, ↓ra_118_131, ↓ra_118_132, ↓ra_118_133, ↓ra_118_134, ↓ra_118_135, ↓ra_118_138, ↓ra_118_139, ↓ra_118_140, ↓ra_118_141, ↓ra_118_144, ↓ra_118_145, xa_kli, xa_klr, xa_kll, xa_ki, xa_kl, xa_kr, xa_kii, xa_kk, xa_kir, xa_krr, xa_kiir, xa_krir, xa_kdup, xa_kdup2, xa_kcp, xa_gf, xa_pf, xa_ga, xa_pa, xa_gq, xa_pq, xa_gl, xa_args, xa_ri, xa_rz, xa_rv, xa_s1, xa_s2, xa_c1, eq_self, List.getElem?_cons_succ, List.getElem?_cons_zero, true_and, and_true, nI_add, pk_mul, xt_in, xt_cl, xt_i0, xt_i1, xa_kc, xa_w8, xa_fit, lg_sl, List.flatMap_cons, List.flatMap_nil, List.map_cons, List.map_nil, List.sum_cons, List.sum_nil, Value.category, List.length_cons, List.length_nil, List.length_append, xa_rc, xa_rf, exists_eq_left, exists_eq', Option.some.injEq, Sum.inr.injEq, Prod.mk.injEq, Option.toList_some, Option.toList_none, List.cons_append, List.nil_append, Nat.reduceAdd, Nat.reduceLeDiff, Nat.reduceLT, List.set_cons_zero, List.set_cons_succ, eq_self, or_true, true_or, reduceIte, xt_ne, h0, h1, h2', k0, k1, k2, d1, d2, xt_st, xt_us, v0, xt_eq]
        have fl : ∀ v : Nat, v = (xq_dd T S i).1 → ∃ z, xa_E 118 153 lv [.int (nI v), .int (nI (1 + 4 * i)), .ref (c + 2)] (xa_st M2 (c + 2) (.inl (0, 31, .inl (upd h2 (1 + 4 * i + 2) (nI (xss S i + 1)))))) z ∧ z.1 = none ∧ ∃ h, xn c M r (xb_u g 2 h) z.2 ∧ xv_A z.2 c r (xb_u g 2 h) T n (xq_day T S) := by
          intro v hv'
          simp (disch := omega) only [↓ra_118_153, xa_kli, xa_klr, xa_kll, xa_ki, xa_kl, xa_kr, xa_kii, xa_kk, xa_kir, xa_krr, xa_kiir, xa_krir, xa_kdup, xa_kdup2, xa_kcp, xa_gf, xa_pf, xa_ga, xa_pa, xa_gq, xa_pq, xa_gl, xa_args, xa_ri, xa_rz, xa_rv, xa_s1, xa_s2, xa_c1, eq_self, List.getElem?_cons_succ, List.getElem?_cons_zero, true_and, and_true, nI_add, pk_mul, xt_in, xt_cl, xt_i0, xt_i1, xa_kc, xa_w8, xa_fit, lg_sl, List.flatMap_cons, List.flatMap_nil, List.map_cons, List.map_nil, List.sum_cons, List.sum_nil, Value.category, List.length_cons, List.length_nil, List.length_append, xa_rc, xa_rf, exists_eq_left, exists_eq', Option.some.injEq, Sum.inr.injEq, Prod.mk.injEq, Option.toList_some, Option.toList_none, List.cons_append, List.nil_append, Nat.reduceAdd, Nat.reduceLeDiff, Nat.reduceLT, List.set_cons_zero, List.set_cons_succ, eq_self, or_true, true_or, reduceIte, xt_ne, xt_st]
          have hn3 := xn_s2 (h2 := upd (upd h2 (1 + 4 * i + 2) (nI (xss S i + 1))) (1 + 4 * i) (nI v)) (xn_s2 (h2 := upd h2 (1 + 4 * i + 2) (nI (xss S i + 1))) hn2)
          rw [xb_u2, xb_u2] at hn3
          refine nxt lv _ _ h0 h1 hn3 (fun j j1 j2 j3 => ?_) ?_ ?_ ?_
          · rw [xt_us, if_neg j1, xt_us, if_neg j2]; exact ho2 j j1 j2 j3
          · rw [xt_us, if_pos rfl, hv']
          · rw [xt_us, if_neg (by omega), xt_us, if_pos rfl, de]
          · rw [xt_us, if_neg (by omega), xt_us, if_neg (by omega), d3, de]
        by_cases cN : xss S i + 1 = xN T
        · simp only [if_pos cN]
          simp (disch := omega) only [↓ra_118_148, ↓ra_118_149, xa_kli, xa_klr, xa_kll, xa_ki, xa_kl, xa_kr, xa_kii, xa_kk, xa_kir, xa_krr, xa_kiir, xa_krir, xa_kdup, xa_kdup2, xa_kcp, xa_gf, xa_pf, xa_ga, xa_pa, xa_gq, xa_pq, xa_gl, xa_args, xa_ri, xa_rz, xa_rv, xa_s1, xa_s2, xa_c1, eq_self, List.getElem?_cons_succ, List.getElem?_cons_zero, true_and, and_true, nI_add, pk_mul, xt_in, xt_cl, xt_i0, xt_i1, xa_kc, xa_w8, xa_fit, lg_sl, List.flatMap_cons, List.flatMap_nil, List.map_cons, List.map_nil, List.sum_cons, List.sum_nil, Value.category, List.length_cons, List.length_nil, List.length_append, xa_rc, xa_rf, exists_eq_left, exists_eq', Option.some.injEq, Sum.inr.injEq, Prod.mk.injEq, Option.toList_some, Option.toList_none, List.cons_append, List.nil_append, Nat.reduceAdd, Nat.reduceLeDiff, Nat.reduceLT, List.set_cons_zero, List.set_cons_succ, eq_self, or_true, true_or, reduceIte, xt_ne]
          exact fl 3 (by rw [de, if_pos (by omega)])
        · simp only [if_neg cN]
          simp (disch := omega) only [↓ra_118_152, xa_kli, xa_klr, xa_kll, xa_ki, xa_kl, xa_kr, xa_kii, xa_kk, xa_kir, xa_krr, xa_kiir, xa_krir, xa_kdup, xa_kdup2, xa_kcp, xa_gf, xa_pf, xa_ga, xa_pa, xa_gq, xa_pq, xa_gl, xa_args, xa_ri, xa_rz, xa_rv, xa_s1, xa_s2, xa_c1, eq_self, List.getElem?_cons_succ, List.getElem?_cons_zero, true_and, and_true, nI_add, pk_mul, xt_in, xt_cl, xt_i0, xt_i1, xa_kc, xa_w8, xa_fit, lg_sl, List.flatMap_cons, List.flatMap_nil, List.map_cons, List.map_nil, List.sum_cons, List.sum_nil, Value.category, List.length_cons, List.length_nil, List.length_append, xa_rc, xa_rf, exists_eq_left, exists_eq', Option.some.injEq, Sum.inr.injEq, Prod.mk.injEq, Option.toList_some, Option.toList_none, List.cons_append, List.nil_append, Nat.reduceAdd, Nat.reduceLeDiff, Nat.reduceLT, List.set_cons_zero, List.set_cons_succ, eq_self, or_true, true_or, reduceIte, xt_ne]
          exact fl 0 (by rw [de, if_neg (by omega)])
      by_cases cI : xsh S i = 0
      · simp only [if_pos cI]
        simp (disch := omega) only [↓ra_118_27, ↓ra_118_28, ↓ra_118_29, ↓ra_118_30, ↓ra_118_33, ↓ra_118_34, ↓ra_118_35, ↓ra_118_36, ↓ra_118_37, ↓ra_118_40, xa_kli, xa_klr, xa_kll, xa_ki, xa_kl, xa_kr, xa_kii, xa_kk, xa_kir, xa_krr, xa_kiir, xa_krir, xa_kdup, xa_kdup2, xa_kcp, xa_gf, xa_pf, xa_ga, xa_pa, xa_gq, xa_pq, xa_gl, xa_args, xa_ri, xa_rz, xa_rv, xa_s1, xa_s2, xa_c1, eq_self, List.getElem?_cons_succ, List.getElem?_cons_zero, true_and, and_true, nI_add, pk_mul, xt_in, xt_cl, xt_i0, xt_i1, xa_kc, xa_w8, xa_fit, lg_sl, List.flatMap_cons, List.flatMap_nil, List.map_cons, List.map_nil, List.sum_cons, List.sum_nil, Value.category, List.length_cons, List.length_nil, List.length_append, xa_rc, xa_rf, exists_eq_left, exists_eq', Option.some.injEq, Sum.inr.injEq, Prod.mk.injEq, Option.toList_some, Option.toList_none, List.cons_append, List.nil_append, Nat.reduceAdd, Nat.reduceLeDiff, Nat.reduceLT, List.set_cons_zero, List.set_cons_succ, eq_self, or_true, true_or, reduceIte, xt_ne, h0, h1, m0, m2, q2, cM, mx_117, xt_b0]
        by_cases cF : xq_f T (xsp S) (xtl T i) i (xsq S i) = true
        · simp only [cF, not_true_eq_false, if_false]
          simp (disch := omega) only [↓ra_118_43, ↓ra_118_44, ↓ra_118_47, ↓ra_118_48, ↓ra_118_49, ↓ra_118_50, ↓ra_118_51, ↓ra_118_52, ↓ra_118_53, ↓ra_118_54, ↓ra_118_57, ↓ra_118_58, xa_kli, xa_klr, xa_kll, xa_ki, xa_kl, xa_kr, xa_kii, xa_kk, xa_kir, xa_krr, xa_kiir, xa_krir, xa_kdup, xa_kdup2, xa_kcp, xa_gf, xa_pf, xa_ga, xa_pa, xa_gq, xa_pq, xa_gl, xa_args, xa_ri, xa_rz, xa_rv, xa_s1, xa_s2, xa_c1, eq_self, List.getElem?_cons_succ, List.getElem?_cons_zero, true_and, and_true, nI_add, pk_mul, xt_in, xt_cl, xt_i0, xt_i1, xa_kc, xa_w8, xa_fit, lg_sl, List.flatMap_cons, List.flatMap_nil, List.map_cons, List.map_nil, List.sum_cons, List.sum_nil, Value.category, List.length_cons, List.length_nil, List.length_append, xa_rc, xa_rf, exists_eq_left, exists_eq', Option.some.injEq, Sum.inr.injEq, Prod.mk.injEq, Option.toList_some, Option.toList_none, List.cons_append, List.nil_append, Nat.reduceAdd, Nat.reduceLeDiff, Nat.reduceLT, List.set_cons_zero, List.set_cons_succ, eq_self, or_true, true_or, reduceIte, xt_ne, h0, h1, m0, m2, q4, cK, mx_103, xt_eq]
          -- he is TAKEN
          have take : ∀ (lv : xa_L) (M2 : xa_M) (h2 : Nat → Int32) (mt : Nat), lv 0 = some (.ref c) → lv 1 = some (.int (nI i)) → lv 2 = some (.int (nI (1 + 4 * i))) → xn c M r (xb_u g 2 h2) M2 → (∀ j, j ≠ 1 + 4 * i + 3 → h2 j = h j) → h2 (1 + 4 * i + 3) = nI mt → xq_dd T S i = (2, xss S i, mt) → ∃ z, xa_E 118 98 lv [.int (nI (1 + 4 * i)), .ref (c + 2)] M2 z ∧ z.1 = none ∧ ∃ h, xn c M r (xb_u g 2 h) z.2 ∧ xv_A z.2 c r (xb_u g 2 h) T n (xq_day T S) := by
            intro lv M2 h2 mt h0 h1 h2' hn2 ho2 d3 de
            obtain ⟨k0, k1, k2, -⟩ := hn2.2
            unfold xb_c at k0
            rw [xb_ue] at k2
            simp (disch := omega) only [↓ra_118_98, ↓ra_118_99, ↓ra_118_100, ↓ra_118_101, ↓ra_118_104, ↓ra_118_105, ↓ra_118_106, xa_kli, xa_klr, xa_kll, xa_ki, xa_kl, xa_kr, xa_kii, xa_kk, xa_kir, xa_krr, xa_kiir, xa_krir, xa_kdup, xa_kdup2, xa_kcp, xa_gf, xa_pf, xa_ga, xa_pa, xa_gq, xa_pq, xa_gl, xa_args, xa_ri, xa_rz, xa_rv, xa_s1, xa_s2, xa_c1, eq_self, List.getElem?_cons_succ, List.getElem?_cons_zero, true_and, and_true, nI_add, pk_mul, xt_in, xt_cl, xt_i0, xt_i1, xa_kc, xa_w8, xa_fit, lg_sl, List.flatMap_cons, List.flatMap_nil, List.map_cons, List.map_nil, List.sum_cons, List.sum_nil, Value.category, List.length_cons, List.length_nil, List.length_append, xa_rc, xa_rf, exists_eq_left, exists_eq', Option.some.injEq, Sum.inr.injEq, Prod.mk.injEq, Option.toList_some, Option.toList_none, List.cons_append, List.nil_append, Nat.reduceAdd, Nat.reduceLeDiff, Nat.reduceLT, List.set_cons_zero, List.set_cons_succ, eq_self, or_true, true_or, reduceIte, xt_ne, xt_eq, Nat.reduceEqDiff, Nat.one_ne_zero, if_false, h0, h1, h2', k0, k2, xt_st, xt_us]
            have hn3 := xn_s2 (h2 := upd h2 (1 + 4 * i) (nI 2)) hn2
            rw [xb_u2] at hn3
            refine nxt lv _ _ h0 h1 hn3 (fun j j1 j2 j3 => ?_) ?_ ?_ ?_
            · rw [xt_us, if_neg j1]; exact ho2 j j3
            · rw [xt_us, if_pos rfl, de]
            · rw [xt_us, if_neg (by omega), ho2 _ (by omega), q3, de]
            · rw [xt_us, if_neg (by omega), d3, de]
          by_cases k3 : xtk T i = 3
          · simp only [if_pos k3]
            have hn2 := xn_s2 (h2 := upd h (1 + 4 * i + 3) (nI (xsm S i + 1))) hn
            rw [xb_u2] at hn2
            have hv2 : xv_S (upd h (1 + 4 * i + 3) (nI (xsm S i + 1))) (xnS T) n (xsd (xq_pt T S i), xsh (xq_pt T S i), xsq (xq_pt T S i), xss (xq_pt T S i), fun j => if j = i then xsm S i + 1 else xsm (xq_pt T S i) j, xsp S) := by
              refine ⟨by rw [xt_us, if_neg (by omega)]; exact hv.1, fun s hs => ?_, fun m hm => by rw [xt_us, if_neg (by omega)]; exact hv.2.2 m hm⟩
              have q := hv.2.1 s hs
              rw [xt_us, xt_us, xt_us, xt_us, if_neg (by omega), if_neg (by omega), if_neg (by omega)]
              refine ⟨q.1, q.2.1, q.2.2.1, ?_⟩
              show _ = nI (if s = i then _ else _)
              by_cases es : s = i
              · rw [if_pos (by omega), if_pos es]
              · rw [if_neg (by omega), if_neg es]; exact q.2.2.2
            have hA2 := vA _ _ _ hn2 hv2 (fun hx => by rw [xt_us, if_neg (by omega), ho 30 (by omega)]; exact he hx)
            have cK2 := xa_iff (pd_kind hA2 b6 i hi)
            simp (disch := omega) only [↓ra_118_61, ↓ra_118_62, ↓ra_118_66, ↓ra_118_67, ↓ra_118_68, ↓ra_118_69, ↓ra_118_72, ↓ra_118_73, ↓ra_118_74, ↓ra_118_75, ↓ra_118_78, ↓ra_118_79, xa_kli, xa_klr, xa_kll, xa_ki, xa_kl, xa_kr, xa_kii, xa_kk, xa_kir, xa_krr, xa_kiir, xa_krir, xa_kdup, xa_kdup2, xa_kcp, xa_gf, xa_pf, xa_ga, xa_pa, xa_gq, xa_pq, xa_gl, xa_args, xa_ri, xa_rz, xa_rv, xa_s1, xa_s2, xa_c1, eq_self, List.getElem?_cons_succ, List.getElem?_cons_zero, true_and, and_true, nI_add, pk_mul, xt_in, xt_cl, xt_i0, xt_i1, xa_kc, xa_w8, xa_fit, lg_sl, List.flatMap_cons, List.flatMap_nil, List.map_cons, List.map_nil, List.sum_cons, List.sum_nil, Value.category, List.length_cons, List.length_nil, List.length_append, xa_rc, xa_rf, exists_eq_left, exists_eq', Option.some.injEq, Sum.inr.injEq, Prod.mk.injEq, Option.toList_some, Option.toList_none, List.cons_append, List.nil_append, Nat.reduceAdd, Nat.reduceLeDiff, Nat.reduceLT, List.set_cons_zero, List.set_cons_succ, eq_self, or_true, true_or, reduceIte, xt_ne, h0, h1, m0, m2, xt_st, cK2, mx_103, xt_eq, k3]
            simp (disch := omega) only [↓ra_118_82, ↓ra_118_83, ↓ra_118_86, ↓ra_118_87, ↓ra_118_88, ↓ra_118_89, ↓ra_118_90, ↓ra_118_91, xa_kli, xa_klr, xa_kll, xa_ki, xa_kl, xa_kr, xa_kii, xa_kk, xa_kir, xa_krr, xa_kiir, xa_krir, xa_kdup, xa_kdup2, xa_kcp, xa_gf, xa_pf, xa_ga, xa_pa, xa_gq, xa_pq, xa_gl, xa_args, xa_ri, xa_rz, xa_rv, xa_s1, xa_s2, xa_c1, eq_self, List.getElem?_cons_succ, List.getElem?_cons_zero, true_and, and_true, nI_add, pk_mul, xt_in, xt_cl, xt_i0, xt_i1, xa_kc, xa_w8, xa_fit, lg_sl, List.flatMap_cons, List.flatMap_nil, List.map_cons, List.map_nil, List.sum_cons, List.sum_nil, Value.category, List.length_cons, List.length_nil, List.length_append, xa_rc, xa_rf, exists_eq_left, exists_eq', Option.some.injEq, Sum.inr.injEq, Prod.mk.injEq, Option.toList_some, Option.toList_none, List.cons_append, List.nil_append, Nat.reduceAdd, Nat.reduceLeDiff, Nat.reduceLT, List.set_cons_zero, List.set_cons_succ, eq_self, or_true, true_or, reduceIte, xt_ne, h0, h1, m0, m2, xt_st, xt_us, xt_le]
            by_cases c2 : 1 ≤ xsm S i
            · simp only [if_pos c2]
              refine take _ _ _ (xsm S i + 1) (by simp [xa_s1, xa_c1, h0]) (by simp [xa_s1, xa_c1, h1]) (by simp [xa_s1, xa_c1]) hn2 (fun j j3 => by rw [xt_us, if_neg j3]) (by rw [xt_us, if_pos rfl]) ?_
              unfold xq_dd xq_d
              rw [if_pos cI, if_pos cF, if_pos k3, if_pos (by omega)]
            · simp only [if_neg c2]
              simp (disch := omega) only [↓ra_118_94, ↓ra_118_95, ↓ra_118_99, xa_kli, xa_klr, xa_kll, xa_ki, xa_kl, xa_kr, xa_kii, xa_kk, xa_kir, xa_krr, xa_kiir, xa_krir, xa_kdup, xa_kdup2, xa_kcp, xa_gf, xa_pf, xa_ga, xa_pa, xa_gq, xa_pq, xa_gl, xa_args, xa_ri, xa_rz, xa_rv, xa_s1, xa_s2, xa_c1, eq_self, List.getElem?_cons_succ, List.getElem?_cons_zero, true_and, and_true, nI_add, pk_mul, xt_in, xt_cl, xt_i0, xt_i1, xa_kc, xa_w8, xa_fit, lg_sl, List.flatMap_cons, List.flatMap_nil, List.map_cons, List.map_nil, List.sum_cons, List.sum_nil, Value.category, List.length_cons, List.length_nil, List.length_append, xa_rc, xa_rf, exists_eq_left, exists_eq', Option.some.injEq, Sum.inr.injEq, Prod.mk.injEq, Option.toList_some, Option.toList_none, List.cons_append, List.nil_append, Nat.reduceAdd, Nat.reduceLeDiff, Nat.reduceLT, List.set_cons_zero, List.set_cons_succ, eq_self, or_true, true_or, reduceIte, xt_ne, xt_st]
              have hn3 := xn_s2 (h2 := upd (upd h (1 + 4 * i + 3) (nI (xsm S i + 1))) (1 + 4 * i) (nI 0)) hn2
              rw [xb_u2] at hn3
              refine stay _ _ _ (xsm S i + 1) (by simp [xa_s1, xa_c1, h0]) (by simp [xa_s1, xa_c1, h1]) (by simp [xa_s1, xa_c1]) hn3 (fun j j1 j2 j3 => by rw [xt_us, if_neg j1, xt_us, if_neg j3]) cI (by rw [xt_us, if_pos rfl]) (by rw [xt_us, if_neg (by omega), xt_us, if_neg (by omega), q3]) (by rw [xt_us, if_neg (by omega), xt_us, if_pos rfl]) ?_
              unfold xq_dd xq_d
              rw [if_pos cI, if_pos cF, if_pos k3, if_neg (by omega)]
          · simp only [if_neg k3]
            have hn2 := xn_s2 (h2 := upd h (1 + 4 * i + 3) (nI (xsm S i))) hn
            rw [xb_u2] at hn2
            have hv2 : xv_S (upd h (1 + 4 * i + 3) (nI (xsm S i))) (xnS T) n (xq_pt T S i) := by
              refine ⟨by rw [xt_us, if_neg (by omega)]; exact hv.1, fun s hs => ?_, fun m hm => by rw [xt_us, if_neg (by omega)]; exact hv.2.2 m hm⟩
              have q := hv.2.1 s hs
              rw [xt_us, xt_us, xt_us, xt_us, if_neg (by omega), if_neg (by omega), if_neg (by omega)]
              refine ⟨q.1, q.2.1, q.2.2.1, ?_⟩
              by_cases es : s = i
              · subst es
                rw [if_pos rfl, ← q4]; exact q.2.2.2
              · rw [if_neg (by omega)]; exact q.2.2.2
            have hA2 := vA _ _ _ hn2 hv2 (fun hx => by rw [xt_us, if_neg (by omega), ho 30 (by omega)]; exact he hx)
            have cK2 := xa_iff (pd_kind hA2 b6 i hi)
            simp (disch := omega) only [↓ra_118_65, ↓ra_118_66, ↓ra_118_67, ↓ra_118_68, ↓ra_118_69, ↓ra_118_72, ↓ra_118_73, ↓ra_118_74, ↓ra_118_75, ↓ra_118_78, ↓ra_118_79, xa_kli, xa_klr, xa_kll, xa_ki, xa_kl, xa_kr, xa_kii, xa_kk, xa_kir, xa_krr, xa_kiir, xa_krir, xa_kdup, xa_kdup2, xa_kcp, xa_gf, xa_pf, xa_ga, xa_pa, xa_gq, xa_pq, xa_gl, xa_args, xa_ri, xa_rz, xa_rv, xa_s1, xa_s2, xa_c1, eq_self, List.getElem?_cons_succ, List.getElem?_cons_zero, true_and, and_true, nI_add, pk_mul, xt_in, xt_cl, xt_i0, xt_i1, xa_kc, xa_w8, xa_fit, lg_sl, List.flatMap_cons, List.flatMap_nil, List.map_cons, List.map_nil, List.sum_cons, List.sum_nil, Value.category, List.length_cons, List.length_nil, List.length_append, xa_rc, xa_rf, exists_eq_left, exists_eq', Option.some.injEq, Sum.inr.injEq, Prod.mk.injEq, Option.toList_some, Option.toList_none, List.cons_append, List.nil_append, Nat.reduceAdd, Nat.reduceLeDiff, Nat.reduceLT, List.set_cons_zero, List.set_cons_succ, eq_self, or_true, true_or, reduceIte, xt_ne, h0, h1, m0, m2, xt_st, cK2, mx_103, xt_eq, Nat.add_zero]
            refine take _ _ _ (xsm S i) (by simp [xa_s1, xa_c1, h0]) (by simp [xa_s1, xa_c1, h1]) (by simp [xa_s1, xa_c1]) hn2 (fun j j3 => by rw [xt_us, if_neg j3]) (by rw [xt_us, if_pos rfl]) ?_
            unfold xq_dd xq_d
            rw [if_pos cI, if_pos cF, if_neg k3]
        · simp only [cF, not_false_eq_true, if_true]
          refine stay _ M1 h (xsm S i) (by simp [xa_s1, xa_c1, h0]) (by simp [xa_s1, xa_c1, h1]) (by simp [xa_s1, xa_c1]) hn (fun _ _ _ _ => rfl) cI (by rw [q1, cI]) q3 q4 ?_
          unfold xq_dd xq_d
          rw [if_pos cI, if_neg cF]
      · simp only [if_neg cI]
        simp (disch := omega) only [↓ra_118_100, ↓ra_118_101, ↓ra_118_104, ↓ra_118_105, ↓ra_118_106, xa_kli, xa_klr, xa_kll, xa_ki, xa_kl, xa_kr, xa_kii, xa_kk, xa_kir, xa_krr, xa_kiir, xa_krir, xa_kdup, xa_kdup2, xa_kcp, xa_gf, xa_pf, xa_ga, xa_pa, xa_gq, xa_pq, xa_gl, xa_args, xa_ri, xa_rz, xa_rv, xa_s1, xa_s2, xa_c1, eq_self, List.getElem?_cons_succ, List.getElem?_cons_zero, true_and, and_true, nI_add, pk_mul, xt_in, xt_cl, xt_i0, xt_i1, xa_kc, xa_w8, xa_fit, lg_sl, List.flatMap_cons, List.flatMap_nil, List.map_cons, List.map_nil, List.sum_cons, List.sum_nil, Value.category, List.length_cons, List.length_nil, List.length_append, xa_rc, xa_rf, exists_eq_left, exists_eq', Option.some.injEq, Sum.inr.injEq, Prod.mk.injEq, Option.toList_some, Option.toList_none, List.cons_append, List.nil_append, Nat.reduceAdd, Nat.reduceLeDiff, Nat.reduceLT, List.set_cons_zero, List.set_cons_succ, eq_self, or_true, true_or, reduceIte, xt_ne, h0, h1, m0, m2, q1, xt_eq]
        have de : xq_dd T S i = (xsh S i, xss S i, xsm S i) := by unfold xq_dd xq_d; rw [if_neg cI]
        exact nxt _ M1 h (by simp [xa_s1, xa_c1, h0]) (by simp [xa_s1, xa_c1, h1]) hn (fun _ _ _ _ => rfl) (by rw [q1, de]) (by rw [q3, de]) (by rw [q4, de])
  simp (disch := omega) only [↓ra_118_0, ↓ra_118_1, xa_kli, xa_klr, xa_kll, xa_ki, xa_kl, xa_kr, xa_kii, xa_kk, xa_kir, xa_krr, xa_kiir, xa_krir, xa_kdup, xa_kdup2, xa_kcp, xa_gf, xa_pf, xa_ga, xa_pa, xa_gq, xa_pq, xa_gl, xa_args, xa_ri, xa_rz, xa_rv, xa_s1, xa_s2, xa_c1, eq_self, List.getElem?_cons_succ, List.getElem?_cons_zero, true_and, and_true, nI_add, pk_mul, xt_in, xt_cl, xt_i0, xt_i1, xa_kc, xa_w8, xa_fit, lg_sl, List.flatMap_cons, List.flatMap_nil, List.map_cons, List.map_nil, List.sum_cons, List.sum_nil, Value.category, List.length_cons, List.length_nil, List.length_append, xa_rc, xa_rf, exists_eq_left, exists_eq', Option.some.injEq, Sum.inr.injEq, Prod.mk.injEq, Option.toList_some, Option.toList_none, List.cons_append, List.nil_append, Nat.reduceAdd, Nat.reduceLeDiff, Nat.reduceLT, List.set_cons_zero, List.set_cons_succ, eq_self, or_true, true_or, reduceIte, xt_ne]
  have e0 : xq_pt T S 0 = S := by unfold xq_pt; simp
  exact loop (xnS T) 0 _ M (g 2) (by simp [xa_s1, xa_c1, h0]) (by simp [xa_s1, xa_c1]) (by omega) (by rw [xb_ui]; exact xn_r hB) (by rw [e0]; exact ⟨hd, hs0, hp⟩) (fun _ _ => rfl)
