theorem pd_firstDay {M : xa_M} {c : Nat} {r : Nat → Int32} {g : Nat → Nat → Int32} (hB : xb_M M c r g) : ∃ z, xa_E 95 0 (xa_ent [.ref c]) [] M z ∧ z.1 = none ∧ ∃ h, xn c M r (xb_u g 2 h) z.2 ∧ h 0 = nI 0 ∧ (∀ s, s < 6 → h (1 + 4 * s) = nI 0 ∧ h (1 + 4 * s + 1) = g 1 (6 + 3 * s + 2) ∧ h (1 + 4 * s + 2) = nI 0 ∧ h (1 + 4 * s + 3) = nI 0) ∧ ∀ m, m < 5 → h (25 + m) = g 1 (24 + 3 * m + 1) := by
  refine xa_ge1 (fun lv h0 => ?_)
  have loop2 : ∀ (k i : Nat) (lv : xa_L) (M1 : xa_M) (h : Nat → Int32), lv 0 = some (.ref c) → lv 1 = some (.int (nI i)) → i + k = 5 → xn c M r (xb_u g 2 h) M1 → h 0 = nI 0 → (∀ s, s < 6 → h (1 + 4 * s) = nI 0 ∧ h (1 + 4 * s + 1) = g 1 (6 + 3 * s + 2) ∧ h (1 + 4 * s + 2) = nI 0 ∧ h (1 + 4 * s + 3) = nI 0) → (∀ m, m < i → h (25 + m) = g 1 (24 + 3 * m + 1)) → ∃ z, xa_E 95 75 lv [] M1 z ∧ z.1 = none ∧ ∃ h, xn c M r (xb_u g 2 h) z.2 ∧ h 0 = nI 0 ∧ (∀ s, s < 6 → h (1 + 4 * s) = nI 0 ∧ h (1 + 4 * s + 1) = g 1 (6 + 3 * s + 2) ∧ h (1 + 4 * s + 2) = nI 0 ∧ h (1 + 4 * s + 3) = nI 0) ∧ ∀ m, m < 5 → h (25 + m) = g 1 (24 + 3 * m + 1) := by
    intro k
    induction k with
    | zero =>
      intro i lv M1 h h0 h1 e hn e0 es em
      have e : i = 5 := by omega
      subst e
      simp (disch := omega) only [↓ra_95_75, ↓ra_95_76, ↓ra_95_77, ↓ra_95_108, xa_kli, xa_klr, xa_kll, xa_ki, xa_kl, xa_kr, xa_kii, xa_kk, xa_kir, xa_krr, xa_kiir, xa_krir, xa_kdup, xa_kdup2, xa_kcp, xa_gf, xa_pf, xa_ga, xa_pa, xa_gq, xa_pq, xa_gl, xa_args, xa_ri, xa_rz, xa_rv, xa_s1, xa_s2, xa_c1, eq_self, List.getElem?_cons_succ, List.getElem?_cons_zero, true_and, and_true, nI_add, pk_mul, xt_in, xt_cl, xt_i0, xt_i1, xa_kc, xa_w8, xa_fit, lg_sl, List.flatMap_cons, List.flatMap_nil, List.map_cons, List.map_nil, List.sum_cons, List.sum_nil, Value.category, List.length_cons, List.length_nil, List.length_append, xa_rc, xa_rf, exists_eq_left, exists_eq', Option.some.injEq, Sum.inr.injEq, Prod.mk.injEq, Option.toList_some, Option.toList_none, List.cons_append, List.nil_append, Nat.reduceAdd, Nat.reduceLeDiff, Nat.reduceLT, List.set_cons_zero, List.set_cons_succ, eq_self, or_true, true_or, reduceIte, xt_ne, h0, h1, xt_le, Nat.le_refl]
      exact ⟨h, hn, e0, es, em⟩
    | succ k ih =>
      intro i lv M1 h h0 h1 e hn e0 es em
      obtain ⟨m0, m1, m2, -⟩ := hn.2
      unfold xb_c at m0
      rw [xb_un _ _ _ _ (by omega)] at m1
      rw [xb_ue] at m2
      simp (disch := omega) only [↓ra_95_75, ↓ra_95_76, ↓ra_95_77, xa_kli, xa_klr, xa_kll, xa_ki, xa_kl, xa_kr, xa_kii, xa_kk, xa_kir, xa_krr, xa_kiir, xa_krir, xa_kdup, xa_kdup2, xa_kcp, xa_gf, xa_pf, xa_ga, xa_pa, xa_gq, xa_pq, xa_gl, xa_args, xa_ri, xa_rz, xa_rv, xa_s1, xa_s2, xa_c1, eq_self, List.getElem?_cons_succ, List.getElem?_cons_zero, true_and, and_true, nI_add, pk_mul, xt_in, xt_cl, xt_i0, xt_i1, xa_kc, xa_w8, xa_fit, lg_sl, List.flatMap_cons, List.flatMap_nil, List.map_cons, List.map_nil, List.sum_cons, List.sum_nil, Value.category, List.length_cons, List.length_nil, List.length_append, xa_rc, xa_rf, exists_eq_left, exists_eq', Option.some.injEq, Sum.inr.injEq, Prod.mk.injEq, Option.toList_some, Option.toList_none, List.cons_append, List.nil_append, Nat.reduceAdd, Nat.reduceLeDiff, Nat.reduceLT, List.set_cons_zero, List.set_cons_succ, eq_self, or_true, true_or, reduceIte, xt_ne, h0, h1, xt_le]
      simp only [if_neg (show ¬ 5 ≤ i by omega)]
      simp (disch := omega) only [↓ra_95_80, ↓ra_95_81, ↓ra_95_84, ↓ra_95_86, ↓ra_95_87, ↓ra_95_88, ↓ra_95_89, ↓ra_95_92, ↓ra_95_94, ↓ra_95_95, ↓ra_95_96, ↓ra_95_97, ↓ra_95_98, ↓ra_95_99, ↓ra_95_100, ↓ra_95_101, ↓ra_95_102, ↓ra_95_105, xa_kli, xa_klr, xa_kll, xa_ki, xa_kl, xa_kr, xa_kii, xa_kk, xa_kir, xa_krr, xa_kiir, xa_krir, xa_kdup, xa_kdup2, xa_kcp, xa_gf, xa_pf, xa_ga, xa_pa, xa_gq, xa_pq, xa_gl, xa_args, xa_ri, xa_rz, xa_rv, xa_s1, xa_s2, xa_c1, eq_self, List.getElem?_cons_succ, List.getElem?_cons_zero, true_and, and_true, nI_add, pk_mul, xt_in, xt_cl, xt_i0, xt_i1, xa_kc, xa_w8, xa_fit, lg_sl, List.flatMap_cons, List.flatMap_nil, List.map_cons, List.map_nil, List.sum_cons, List.sum_nil, Value.category, List.length_cons, List.length_nil, List.length_append, xa_rc, xa_rf, exists_eq_left, exists_eq', Option.some.injEq, Sum.inr.injEq, Prod.mk.injEq, Option.toList_some, Option.toList_none, List.cons_append, List.nil_append, Nat.reduceAdd, Nat.reduceLeDiff, Nat.reduceLT, List.set_cons_zero, List.set_cons_succ, eq_self, or_true, true_or, reduceIte, xt_ne, h0, h1, m0, m1, m2]
      refine ih (i + 1) _ _ (upd h (25 + i) (g 1 (24 + 3 * i + 1))) (by simp [xa_s1, xa_c1, h0]) (by simp [xa_s1, xa_c1]) (by omega) (xn_s2' _ hn) ?_ (fun s hs => ?_) (fun m hm => ?_)
      · rw [xt_us, if_neg (by omega)]; exact e0
      · rw [xt_us, xt_us, xt_us, xt_us, if_neg (by omega), if_neg (by omega), if_neg (by omega), if_neg (by omega)]; exact es s hs
      · rw [xt_us]
        by_cases e : m = i
        · rw [if_pos (by omega), e]
        · rw [if_neg (by omega)]; exact em m (by omega)
  have loop1 : ∀ (k i : Nat) (lv : xa_L) (M1 : xa_M) (h : Nat → Int32), lv 0 = some (.ref c) → lv 1 = some (.int (nI i)) → i + k = 6 → xn c M r (xb_u g 2 h) M1 → h 0 = nI 0 → (∀ s, s < i → h (1 + 4 * s) = nI 0 ∧ h (1 + 4 * s + 1) = g 1 (6 + 3 * s + 2) ∧ h (1 + 4 * s + 2) = nI 0 ∧ h (1 + 4 * s + 3) = nI 0) → ∃ z, xa_E 95 9 lv [] M1 z ∧ z.1 = none ∧ ∃ h, xn c M r (xb_u g 2 h) z.2 ∧ h 0 = nI 0 ∧ (∀ s, s < 6 → h (1 + 4 * s) = nI 0 ∧ h (1 + 4 * s + 1) = g 1 (6 + 3 * s + 2) ∧ h (1 + 4 * s + 2) = nI 0 ∧ h (1 + 4 * s + 3) = nI 0) ∧ ∀ m, m < 5 → h (25 + m) = g 1 (24 + 3 * m + 1) := by
    intro k
    induction k with
    | zero =>
      intro i lv M1 h h0 h1 e hn e0 es
      have e : i = 6 := by omega
      subst e
      simp (disch := omega) only [↓ra_95_9, ↓ra_95_10, ↓ra_95_12, ↓ra_95_73, ↓ra_95_74, xa_kli, xa_klr, xa_kll, xa_ki, xa_kl, xa_kr, xa_kii, xa_kk, xa_kir, xa_krr, xa_kiir, xa_krir, xa_kdup, xa_kdup2, xa_kcp, xa_gf, xa_pf, xa_ga, xa_pa, xa_gq, xa_pq, xa_gl, xa_args, xa_ri, xa_rz, xa_rv, xa_s1, xa_s2, xa_c1, eq_self, List.getElem?_cons_succ, List.getElem?_cons_zero, true_and, and_true, nI_add, pk_mul, xt_in, xt_cl, xt_i0, xt_i1, xa_kc, xa_w8, xa_fit, lg_sl, List.flatMap_cons, List.flatMap_nil, List.map_cons, List.map_nil, List.sum_cons, List.sum_nil, Value.category, List.length_cons, List.length_nil, List.length_append, xa_rc, xa_rf, exists_eq_left, exists_eq', Option.some.injEq, Sum.inr.injEq, Prod.mk.injEq, Option.toList_some, Option.toList_none, List.cons_append, List.nil_append, Nat.reduceAdd, Nat.reduceLeDiff, Nat.reduceLT, List.set_cons_zero, List.set_cons_succ, eq_self, or_true, true_or, reduceIte, xt_ne, h0, h1, xt_le, Nat.le_refl]
      exact loop2 5 0 _ M1 h (by simp [xa_s1, xa_c1, h0]) (by simp [xa_s1, xa_c1]) (by omega) hn e0 es (fun m hm => absurd hm (Nat.not_lt_zero m))
    | succ k ih =>
      intro i lv M1 h h0 h1 e hn e0 es
      obtain ⟨m0, m1, m2, -⟩ := hn.2
      unfold xb_c at m0
      rw [xb_un _ _ _ _ (by omega)] at m1
      rw [xb_ue] at m2
      simp (disch := omega) only [↓ra_95_9, ↓ra_95_10, ↓ra_95_12, xa_kli, xa_klr, xa_kll, xa_ki, xa_kl, xa_kr, xa_kii, xa_kk, xa_kir, xa_krr, xa_kiir, xa_krir, xa_kdup, xa_kdup2, xa_kcp, xa_gf, xa_pf, xa_ga, xa_pa, xa_gq, xa_pq, xa_gl, xa_args, xa_ri, xa_rz, xa_rv, xa_s1, xa_s2, xa_c1, eq_self, List.getElem?_cons_succ, List.getElem?_cons_zero, true_and, and_true, nI_add, pk_mul, xt_in, xt_cl, xt_i0, xt_i1, xa_kc, xa_w8, xa_fit, lg_sl, List.flatMap_cons, List.flatMap_nil, List.map_cons, List.map_nil, List.sum_cons, List.sum_nil, Value.category, List.length_cons, List.length_nil, List.length_append, xa_rc, xa_rf, exists_eq_left, exists_eq', Option.some.injEq, Sum.inr.injEq, Prod.mk.injEq, Option.toList_some, Option.toList_none, List.cons_append, List.nil_append, Nat.reduceAdd, Nat.reduceLeDiff, Nat.reduceLT, List.set_cons_zero, List.set_cons_succ, eq_self, or_true, true_or, reduceIte, xt_ne, h0, h1, xt_le]
      simp only [if_neg (show ¬ 6 ≤ i by omega)]
      simp (disch := omega) only [↓ra_95_15, ↓ra_95_16, ↓ra_95_17, ↓ra_95_18, ↓ra_95_19, ↓ra_95_20, ↓ra_95_21, ↓ra_95_22, ↓ra_95_25, ↓ra_95_26, ↓ra_95_27, ↓ra_95_28, ↓ra_95_29, ↓ra_95_32, ↓ra_95_33, ↓ra_95_34, ↓ra_95_35, ↓ra_95_36, ↓ra_95_39, ↓ra_95_41, ↓ra_95_42, ↓ra_95_43, ↓ra_95_44, ↓ra_95_45, ↓ra_95_46, ↓ra_95_47, ↓ra_95_48, ↓ra_95_49, ↓ra_95_50, ↓ra_95_53, ↓ra_95_54, ↓ra_95_55, ↓ra_95_56, ↓ra_95_57, ↓ra_95_58, ↓ra_95_59, ↓ra_95_62, ↓ra_95_63, ↓ra_95_64, ↓ra_95_65, ↓ra_95_66, ↓ra_95_67, ↓ra_95_70, xa_kli, xa_klr, xa_kll, xa_ki, xa_kl, xa_kr, xa_kii, xa_kk, xa_kir, xa_krr, xa_kiir, xa_krir, xa_kdup, xa_kdup2, xa_kcp, xa_gf, xa_pf, xa_ga, xa_pa, xa_gq, xa_pq, xa_gl, xa_args, xa_ri, xa_rz, xa_rv, xa_s1, xa_s2, xa_c1, eq_self, List.getElem?_cons_succ, List.getElem?_cons_zero, true_and, and_true, nI_add, pk_mul, xt_in, xt_cl, xt_i0, xt_i1, xa_kc, xa_w8, xa_fit, lg_sl, List.flatMap_cons, List.flatMap_nil, List.map_cons, List.map_nil, List.sum_cons, List.sum_nil, Value.category, List.length_cons, List.length_nil, List.length_append, xa_rc, xa_rf, exists_eq_left, exists_eq', Option.some.injEq, Sum.inr.injEq, Prod.mk.injEq, Option.toList_some, Option.toList_none, List.cons_append, List.nil_append, Nat.reduceAdd, Nat.reduceLeDiff, Nat.reduceLT, List.set_cons_zero, List.set_cons_succ, eq_self, or_true, true_or, reduceIte, xt_ne, h0, h1, m0, m1, m2, xt_st]
      refine ih (i + 1) _ _ (upd (upd (upd (upd h (1 + 4 * i) (nI 0)) (1 + 4 * i + 1) (g 1 (6 + 3 * i + 2))) (1 + 4 * i + 2) (nI 0)) (1 + 4 * i + 3) (nI 0)) (by simp [xa_s1, xa_c1, h0]) (by simp [xa_s1, xa_c1]) (by omega) (xn_s2' _ (xn_s2' _ (xn_s2' _ (xn_s2' _ hn)))) ?_ (fun s hs => ?_)
      · rw [xt_us, if_neg (by omega), xt_us, if_neg (by omega), xt_us, if_neg (by omega), xt_us, if_neg (by omega)]; exact e0
      · simp only [xt_us]
        by_cases e : s = i
        · subst e
          simp (disch := omega) only [xt_ne, if_false, if_true, reduceIte]
          exact ⟨trivial, trivial, trivial, trivial⟩
        · have := es s (by omega)
          simp (disch := omega) only [xt_ne, if_false]
          exact this
  obtain ⟨m0, m1, m2, -⟩ := id hB
  unfold xb_c at m0
  simp (disch := omega) only [↓ra_95_0, ↓ra_95_1, ↓ra_95_4, ↓ra_95_5, ↓ra_95_6, ↓ra_95_7, ↓ra_95_8, xa_kli, xa_klr, xa_kll, xa_ki, xa_kl, xa_kr, xa_kii, xa_kk, xa_kir, xa_krr, xa_kiir, xa_krir, xa_kdup, xa_kdup2, xa_kcp, xa_gf, xa_pf, xa_ga, xa_pa, xa_gq, xa_pq, xa_gl, xa_args, xa_ri, xa_rz, xa_rv, xa_s1, xa_s2, xa_c1, eq_self, List.getElem?_cons_succ, List.getElem?_cons_zero, true_and, and_true, nI_add, pk_mul, xt_in, xt_cl, xt_i0, xt_i1, xa_kc, xa_w8, xa_fit, lg_sl, List.flatMap_cons, List.flatMap_nil, List.map_cons, List.map_nil, List.sum_cons, List.sum_nil, Value.category, List.length_cons, List.length_nil, List.length_append, xa_rc, xa_rf, exists_eq_left, exists_eq', Option.some.injEq, Sum.inr.injEq, Prod.mk.injEq, Option.toList_some, Option.toList_none, List.cons_append, List.nil_append, Nat.reduceAdd, Nat.reduceLeDiff, Nat.reduceLT, List.set_cons_zero, List.set_cons_succ, eq_self, or_true, true_or, reduceIte, xt_ne, h0, m0, m2]
  exact loop1 6 0 _ _ (upd (g 2) 0 (nI 0)) (by simp [xa_s1, xa_c1, h0]) (by simp [xa_s1, xa_c1]) (by omega) (xn_s2 (xn_r hB)) (by rw [xt_us, if_pos rfl]) (fun m hm => absurd hm (Nat.not_lt_zero m))
theorem xv_first {r t h : Nat → Int32} {T : xt_T} {n : Nat} (hV : xv_T r t T n) (h6 : xnS T ≤ 6) (h0 : h 0 = nI 0) (hs : ∀ s, s < 6 → h (1 + 4 * s) = nI 0 ∧ h (1 + 4 * s + 1) = t (6 + 3 * s + 2) ∧ h (1 + 4 * s + 2) = nI 0 ∧ h (1 + 4 * s + 3) = nI 0) (hm : ∀ m, m < 5 → h (25 + m) = t (24 + 3 * m + 1)) : xv_S h (xnS T) n (xq_b T) := by
  have nl := xv_nle hV
  obtain ⟨-, vs, vm, -⟩ := hV
  refine ⟨h0, fun s hs' => ?_, fun m hm' => (hm m (by omega)).trans (vm m hm').2.1⟩
  obtain ⟨p1, p2, p3, p4⟩ := hs s (by omega)
  exact ⟨p1, p2.trans (vs s hs').2.2, p3, p4⟩
theorem xq_deny_s (i : Nat) (a b d : Nat → Nat) (s n h : Nat) : xq_deny (i + 1) a b d s n h = (xq_deny i a b d s n h || (decide (a i = s) && (decide (b i = n) && !(decide (d i = h))))) := by
  unfold xq_deny
  rw [List.range_succ, List.any_append]
  simp
theorem pd_isSo {M : xa_M} {c n : Nat} {r : Nat → Int32} {g : Nat → Nat → Int32} {T : xt_T} {size : Nat} {a b d : Nat → Nat} (hB : xb_M M c r g) (hV : xv_T r (g 1) T n) (hnn : xnM T = n) (iT : xi_T T) (hz : r 18 = nI size) (hz8 : size ≤ 8) (hg : ∀ i, i < size → g 8 (3 * i) = nI (a i) ∧ g 8 (3 * i + 1) = nI (b i) ∧ g 8 (3 * i + 2) = nI (d i)) (hb : ∀ i, i < size → a i < 2147483648 ∧ b i < 2147483648 ∧ d i < 2147483648) (s : Nat) (hs : s < xnS T) : ∃ z, xa_E 148 0 (xa_ent [.ref c, .int (nI s)]) [] M z ∧ z.1 = some (.int (nI (if xq_cb T size a b d s 99 (xq_b T) = true then 1 else 0))) ∧ ∃ h, xn c M r (xb_u g 2 h) z.2 := by
  have b6 := iT.1.2.2.2.2.2.1
  obtain ⟨⟨z1, M1⟩, cE1, c1, h1', hn1, q0, qs, qm⟩ := pd_firstDay hB
  have c1 : z1 = none := c1
  subst c1
  dsimp only at hn1
  have hA1 : xv_A M1 c r (xb_u g 2 h1') T n (xq_b T) := xv_up hV hn1 (xv_first hV b6 q0 qs qm) (fun h => by omega)
  obtain ⟨m0, -⟩ := id hB
  unfold xb_c at m0
  refine xa_ge2 (fun lv h0 h1 => ?_)
  -- the sights of one day
  have inner : ∀ (k i y : Nat) (B : Bool) (lv : xa_L) (M2 : xa_M) (h : Nat → Int32) (S : xt_S), lv 0 = some (.ref c) → lv 1 = some (.int (nI s)) → lv 2 = some (.int (nI (if (B && !(xq_deny i a b d s y (xsh S s))) = true then 1 else 0))) → lv 3 = some (.int (nI y)) → lv 4 = some (.int (nI i)) → i + k = size → y < 1000 → xv_A M2 c r (xb_u g 2 h) T n S → xi_S T S → ∀ Q : xa_Z → Prop, (∀ lv : xa_L, lv 0 = some (.ref c) → lv 1 = some (.int (nI s)) → lv 2 = some (.int (nI (if (B && !(xq_deny size a b d s y (xsh S s))) = true then 1 else 0))) → lv 3 = some (.int (nI y)) → ∃ z, xa_E 148 93 lv [] M2 z ∧ Q z) → ∃ z, xa_E 148 21 lv [] M2 z ∧ Q z := by
    intro k
    induction k with
    | zero =>
      intro i y B lv M2 h S h0 h1 h2 h3 h4 e hy hA iS Q K
      have e : i = size := by omega
      subst e
      obtain ⟨k0, -⟩ := id hA.1
      unfold xb_c at k0
      simp (disch := omega) only [↓ra_148_21, ↓ra_148_23, ↓ra_148_24, ↓ra_148_27, xa_kli, xa_klr, xa_kll, xa_ki, xa_kl, xa_kr, xa_kii, xa_kk, xa_kir, xa_krr, xa_kiir, xa_krir, xa_kdup, xa_kdup2, xa_kcp, xa_gf, xa_pf, xa_ga, xa_pa, xa_gq, xa_pq, xa_gl, xa_args, xa_ri, xa_rz, xa_rv, xa_s1, xa_s2, xa_c1, eq_self, List.getElem?_cons_succ, List.getElem?_cons_zero, true_and, and_true, nI_add, pk_mul, xt_in, xt_cl, xt_i0, xt_i1, xa_kc, xa_w8, xa_fit, lg_sl, List.flatMap_cons, List.flatMap_nil, List.map_cons, List.map_nil, List.sum_cons, List.sum_nil, Value.category, List.length_cons, List.length_nil, List.length_append, xa_rc, xa_rf, exists_eq_left, exists_eq', Option.some.injEq, Sum.inr.injEq, Prod.mk.injEq, Option.toList_some, Option.toList_none, List.cons_append, List.nil_append, Nat.reduceAdd, Nat.reduceLeDiff, Nat.reduceLT, List.set_cons_zero, List.set_cons_succ, eq_self, or_true, true_or, reduceIte, xt_ne, h0, h1, h2, h3, h4, k0, hz, xt_le, Nat.le_refl]
      exact K lv h0 h1 h2 h3
    | succ k ih =>
      intro i y B lv M2 h S h0 h1 h2 h3 h4 e hy hA iS Q K
      obtain ⟨k0, k1, k2, k3, k4, k5, k6, k7, k8, -⟩ := id hA.1
      unfold xb_c at k0
      rw [xb_un _ _ _ _ (by omega)] at k8
      have bi := hb i (by omega)
      obtain ⟨g1, g2, g3⟩ := hg i (by omega)
      have ch := xa_iff (pd_how hA b6 s hs)
      have dd := (iS.2.1 s hs).1
      simp (disch := omega) only [↓ra_148_21, ↓ra_148_23, ↓ra_148_24, ↓ra_148_27, xa_kli, xa_klr, xa_kll, xa_ki, xa_kl, xa_kr, xa_kii, xa_kk, xa_kir, xa_krr, xa_kiir, xa_krir, xa_kdup, xa_kdup2, xa_kcp, xa_gf, xa_pf, xa_ga, xa_pa, xa_gq, xa_pq, xa_gl, xa_args, xa_ri, xa_rz, xa_rv, xa_s1, xa_s2, xa_c1, eq_self, List.getElem?_cons_succ, List.getElem?_cons_zero, true_and, and_true, nI_add, pk_mul, xt_in, xt_cl, xt_i0, xt_i1, xa_kc, xa_w8, xa_fit, lg_sl, List.flatMap_cons, List.flatMap_nil, List.map_cons, List.map_nil, List.sum_cons, List.sum_nil, Value.category, List.length_cons, List.length_nil, List.length_append, xa_rc, xa_rf, exists_eq_left, exists_eq', Option.some.injEq, Sum.inr.injEq, Prod.mk.injEq, Option.toList_some, Option.toList_none, List.cons_append, List.nil_append, Nat.reduceAdd, Nat.reduceLeDiff, Nat.reduceLT, List.set_cons_zero, List.set_cons_succ, eq_self, or_true, true_or, reduceIte, xt_ne, h0, h1, h2, h3, h4, k0, hz, xt_le]
      simp only [if_neg (show ¬ size ≤ i by omega)]
      simp (disch := omega) only [↓ra_148_30, ↓ra_148_31, xa_kli, xa_klr, xa_kll, xa_ki, xa_kl, xa_kr, xa_kii, xa_kk, xa_kir, xa_krr, xa_kiir, xa_krir, xa_kdup, xa_kdup2, xa_kcp, xa_gf, xa_pf, xa_ga, xa_pa, xa_gq, xa_pq, xa_gl, xa_args, xa_ri, xa_rz, xa_rv, xa_s1, xa_s2, xa_c1, eq_self, List.getElem?_cons_succ, List.getElem?_cons_zero, true_and, and_true, nI_add, pk_mul, xt_in, xt_cl, xt_i0, xt_i1, xa_kc, xa_w8, xa_fit, lg_sl, List.flatMap_cons, List.flatMap_nil, List.map_cons, List.map_nil, List.sum_cons, List.sum_nil, Value.category, List.length_cons, List.length_nil, List.length_append, xa_rc, xa_rf, exists_eq_left, exists_eq', Option.some.injEq, Sum.inr.injEq, Prod.mk.injEq, Option.toList_some, Option.toList_none, List.cons_append, List.nil_append, Nat.reduceAdd, Nat.reduceLeDiff, Nat.reduceLT, List.set_cons_zero, List.set_cons_succ, eq_self, or_true, true_or, reduceIte, xt_ne, h0, h1, h2, h3, h4, xt_b0]
      have nxt : ∀ (v : Bool), v = (B && !(xq_deny (i + 1) a b d s y (xsh S s))) → ∃ z, xa_E 148 86 lv [.int (nI (if v = true then 1 else 0))] M2 z ∧ Q z := by
        intro v hv
        simp (disch := omega) only [↓ra_148_86, ↓ra_148_87, ↓ra_148_90, xa_kli, xa_klr, xa_kll, xa_ki, xa_kl, xa_kr, xa_kii, xa_kk, xa_kir, xa_krr, xa_kiir, xa_krir, xa_kdup, xa_kdup2, xa_kcp, xa_gf, xa_pf, xa_ga, xa_pa, xa_gq, xa_pq, xa_gl, xa_args, xa_ri, xa_rz, xa_rv, xa_s1, xa_s2, xa_c1, eq_self, List.getElem?_cons_succ, List.getElem?_cons_zero, true_and, and_true, nI_add, pk_mul, xt_in, xt_cl, xt_i0, xt_i1, xa_kc, xa_w8, xa_fit, lg_sl, List.flatMap_cons, List.flatMap_nil, List.map_cons, List.map_nil, List.sum_cons, List.sum_nil, Value.category, List.length_cons, List.length_nil, List.length_append, xa_rc, xa_rf, exists_eq_left, exists_eq', Option.some.injEq, Sum.inr.injEq, Prod.mk.injEq, Option.toList_some, Option.toList_none, List.cons_append, List.nil_append, Nat.reduceAdd, Nat.reduceLeDiff, Nat.reduceLT, List.set_cons_zero, List.set_cons_succ, eq_self, or_true, true_or, reduceIte, xt_ne, h4]
        exact ih (i + 1) y B _ M2 h S (by simp [xa_s1, xa_c1, h0]) (by simp [xa_s1, xa_c1, h1]) (by simp [xa_s1, xa_c1, hv]) (by simp [xa_s1, xa_c1, h3]) (by simp [xa_s1, xa_c1]) (by omega) hy hA iS Q K
      by_cases cB : (B && !(xq_deny i a b d s y (xsh S s))) = true
      · simp only [cB, not_true_eq_false, if_false]
        obtain ⟨cB1, cB2⟩ : B = true ∧ xq_deny i a b d s y (xsh S s) = false := by simpa using cB
        simp (disch := omega) only [↓ra_148_34, ↓ra_148_35, ↓ra_148_38, ↓ra_148_39, ↓ra_148_41, ↓ra_148_42, ↓ra_148_43, ↓ra_148_44, xa_kli, xa_klr, xa_kll, xa_ki, xa_kl, xa_kr, xa_kii, xa_kk, xa_kir, xa_krr, xa_kiir, xa_krir, xa_kdup, xa_kdup2, xa_kcp, xa_gf, xa_pf, xa_ga, xa_pa, xa_gq, xa_pq, xa_gl, xa_args, xa_ri, xa_rz, xa_rv, xa_s1, xa_s2, xa_c1, eq_self, List.getElem?_cons_succ, List.getElem?_cons_zero, true_and, and_true, nI_add, pk_mul, xt_in, xt_cl, xt_i0, xt_i1, xa_kc, xa_w8, xa_fit, lg_sl, List.flatMap_cons, List.flatMap_nil, List.map_cons, List.map_nil, List.sum_cons, List.sum_nil, Value.category, List.length_cons, List.length_nil, List.length_append, xa_rc, xa_rf, exists_eq_left, exists_eq', Option.some.injEq, Sum.inr.injEq, Prod.mk.injEq, Option.toList_some, Option.toList_none, List.cons_append, List.nil_append, Nat.reduceAdd, Nat.reduceLeDiff, Nat.reduceLT, List.set_cons_zero, List.set_cons_succ, eq_self, or_true, true_or, reduceIte, xt_ne, h0, h1, h3, h4, k0, k8, g1, xt_eq]
        have yes : ¬ (a i = s ∧ b i = y ∧ ¬ d i = xsh S s) → ∃ z, xa_E 148 81 lv [] M2 z ∧ Q z := by
          intro hc
          simp (disch := omega) only [↓ra_148_81, ↓ra_148_82, xa_kli, xa_klr, xa_kll, xa_ki, xa_kl, xa_kr, xa_kii, xa_kk, xa_kir, xa_krr, xa_kiir, xa_krir, xa_kdup, xa_kdup2, xa_kcp, xa_gf, xa_pf, xa_ga, xa_pa, xa_gq, xa_pq, xa_gl, xa_args, xa_ri, xa_rz, xa_rv, xa_s1, xa_s2, xa_c1, eq_self, List.getElem?_cons_succ, List.getElem?_cons_zero, true_and, and_true, nI_add, pk_mul, xt_in, xt_cl, xt_i0, xt_i1, xa_kc, xa_w8, xa_fit, lg_sl, List.flatMap_cons, List.flatMap_nil, List.map_cons, List.map_nil, List.sum_cons, List.sum_nil, Value.category, List.length_cons, List.length_nil, List.length_append, xa_rc, xa_rf, exists_eq_left, exists_eq', Option.some.injEq, Sum.inr.injEq, Prod.mk.injEq, Option.toList_some, Option.toList_none, List.cons_append, List.nil_append, Nat.reduceAdd, Nat.reduceLeDiff, Nat.reduceLT, List.set_cons_zero, List.set_cons_succ, eq_self, or_true, true_or, reduceIte, xt_ne]
          have := nxt true (by rw [xq_deny_s, cB1, cB2]; simp; omega)
          exact this
        by_cases c1 : a i = s
        · simp only [if_pos c1]
          simp (disch := omega) only [↓ra_148_47, ↓ra_148_48, ↓ra_148_51, ↓ra_148_52, ↓ra_148_54, ↓ra_148_55, ↓ra_148_56, ↓ra_148_57, ↓ra_148_58, ↓ra_148_59, xa_kli, xa_klr, xa_kll, xa_ki, xa_kl, xa_kr, xa_kii, xa_kk, xa_kir, xa_krr, xa_kiir, xa_krir, xa_kdup, xa_kdup2, xa_kcp, xa_gf, xa_pf, xa_ga, xa_pa, xa_gq, xa_pq, xa_gl, xa_args, xa_ri, xa_rz, xa_rv, xa_s1, xa_s2, xa_c1, eq_self, List.getElem?_cons_succ, List.getElem?_cons_zero, true_and, and_true, nI_add, pk_mul, xt_in, xt_cl, xt_i0, xt_i1, xa_kc, xa_w8, xa_fit, lg_sl, List.flatMap_cons, List.flatMap_nil, List.map_cons, List.map_nil, List.sum_cons, List.sum_nil, Value.category, List.length_cons, List.length_nil, List.length_append, xa_rc, xa_rf, exists_eq_left, exists_eq', Option.some.injEq, Sum.inr.injEq, Prod.mk.injEq, Option.toList_some, Option.toList_none, List.cons_append, List.nil_append, Nat.reduceAdd, Nat.reduceLeDiff, Nat.reduceLT, List.set_cons_zero, List.set_cons_succ, eq_self, or_true, true_or, reduceIte, xt_ne, h0, h1, h3, h4, k0, k8, g2, xt_eq]
          by_cases c2 : b i = y
          · simp only [if_pos c2]
            simp (disch := omega) only [↓ra_148_62, ↓ra_148_63, ↓ra_148_66, ↓ra_148_67, ↓ra_148_69, ↓ra_148_70, ↓ra_148_71, ↓ra_148_72, ↓ra_148_73, ↓ra_148_74, ↓ra_148_75, ↓ra_148_78, xa_kli, xa_klr, xa_kll, xa_ki, xa_kl, xa_kr, xa_kii, xa_kk, xa_kir, xa_krr, xa_kiir, xa_krir, xa_kdup, xa_kdup2, xa_kcp, xa_gf, xa_pf, xa_ga, xa_pa, xa_gq, xa_pq, xa_gl, xa_args, xa_ri, xa_rz, xa_rv, xa_s1, xa_s2, xa_c1, eq_self, List.getElem?_cons_succ, List.getElem?_cons_zero, true_and, and_true, nI_add, pk_mul, xt_in, xt_cl, xt_i0, xt_i1, xa_kc, xa_w8, xa_fit, lg_sl, List.flatMap_cons, List.flatMap_nil, List.map_cons, List.map_nil, List.sum_cons, List.sum_nil, Value.category, List.length_cons, List.length_nil, List.length_append, xa_rc, xa_rf, exists_eq_left, exists_eq', Option.some.injEq, Sum.inr.injEq, Prod.mk.injEq, Option.toList_some, Option.toList_none, List.cons_append, List.nil_append, Nat.reduceAdd, Nat.reduceLeDiff, Nat.reduceLT, List.set_cons_zero, List.set_cons_succ, eq_self, or_true, true_or, reduceIte, xt_ne, h0, h1, h3, h4, k0, k8, g3, ch, mx_99, xt_eq]
            by_cases c3 : d i = xsh S s
            · simp only [if_pos c3]
              exact yes (fun h => h.2.2 c3)
            · simp only [if_neg c3]
              simp (disch := omega) only [↓ra_148_85, xa_kli, xa_klr, xa_kll, xa_ki, xa_kl, xa_kr, xa_kii, xa_kk, xa_kir, xa_krr, xa_kiir, xa_krir, xa_kdup, xa_kdup2, xa_kcp, xa_gf, xa_pf, xa_ga, xa_pa, xa_gq, xa_pq, xa_gl, xa_args, xa_ri, xa_rz, xa_rv, xa_s1, xa_s2, xa_c1, eq_self, List.getElem?_cons_succ, List.getElem?_cons_zero, true_and, and_true, nI_add, pk_mul, xt_in, xt_cl, xt_i0, xt_i1, xa_kc, xa_w8, xa_fit, lg_sl, List.flatMap_cons, List.flatMap_nil, List.map_cons, List.map_nil, List.sum_cons, List.sum_nil, Value.category, List.length_cons, List.length_nil, List.length_append, xa_rc, xa_rf, exists_eq_left, exists_eq', Option.some.injEq, Sum.inr.injEq, Prod.mk.injEq, Option.toList_some, Option.toList_none, List.cons_append, List.nil_append, Nat.reduceAdd, Nat.reduceLeDiff, Nat.reduceLT, List.set_cons_zero, List.set_cons_succ, eq_self, or_true, true_or, reduceIte, xt_ne]
              have := nxt false (by rw [xq_deny_s]; simp [c1, c2, c3])
              exact this
          · simp only [if_neg c2]
            exact yes (fun h => c2 h.2.1)
        · simp only [if_neg c1]
          exact yes (fun h => c1 h.1)
      · simp only [cB, not_false_eq_true, if_true]
        simp (disch := omega) only [↓ra_148_85, xa_kli, xa_klr, xa_kll, xa_ki, xa_kl, xa_kr, xa_kii, xa_kk, xa_kir, xa_krr, xa_kiir, xa_krir, xa_kdup, xa_kdup2, xa_kcp, xa_gf, xa_pf, xa_ga, xa_pa, xa_gq, xa_pq, xa_gl, xa_args, xa_ri, xa_rz, xa_rv, xa_s1, xa_s2, xa_c1, eq_self, List.getElem?_cons_succ, List.getElem?_cons_zero, true_and, and_true, nI_add, pk_mul, xt_in, xt_cl, xt_i0, xt_i1, xa_kc, xa_w8, xa_fit, lg_sl, List.flatMap_cons, List.flatMap_nil, List.map_cons, List.map_nil, List.sum_cons, List.sum_nil, Value.category, List.length_cons, List.length_nil, List.length_append, xa_rc, xa_rf, exists_eq_left, exists_eq', Option.some.injEq, Sum.inr.injEq, Prod.mk.injEq, Option.toList_some, Option.toList_none, List.cons_append, List.nil_append, Nat.reduceAdd, Nat.reduceLeDiff, Nat.reduceLT, List.set_cons_zero, List.set_cons_succ, eq_self, or_true, true_or, reduceIte, xt_ne]
        have cB' : (B && !(xq_deny i a b d s y (xsh S s))) = false := by simpa using cB
        have := nxt false (by
          rw [xq_deny_s]
          cases hB' : B with
          | false => rfl
          | true =>
            rw [hB'] at cB'
            have : xq_deny i a b d s y (xsh S s) = true := by simpa using cB'
            rw [this]; simp)
        exact this
  have outer : ∀ (k y : Nat) (B : Bool) (lv : xa_L) (M2 : xa_M) (h : Nat → Int32) (S : xt_S), lv 0 = some (.ref c) → lv 1 = some (.int (nI s)) → lv 2 = some (.int (nI (if B = true then 1 else 0))) → lv 3 = some (.int (nI y)) → y + k = 100 → xsd S + 1 = y → xa_fr c (c + 10) M M2 → xv_A M2 c r (xb_u g 2 h) T n S → xi_S T S → ∃ z, xa_E 148 8 lv [] M2 z ∧ z.1 = some (.int (nI (if (B && xq_cb T size a b d s k S) = true then 1 else 0))) ∧ ∃ h, xn c M r (xb_u g 2 h) z.2 := by
    intro k
    induction k with
    | zero =>
      intro y B lv M2 h S h0 h1 h2 h3 e ed fr hA iS
      have e : y = 100 := by omega
      subst e
      simp (disch := omega) only [↓ra_148_8, ↓ra_148_9, ↓ra_148_11, ↓ra_148_99, ↓ra_148_100, xa_kli, xa_klr, xa_kll, xa_ki, xa_kl, xa_kr, xa_kii, xa_kk, xa_kir, xa_krr, xa_kiir, xa_krir, xa_kdup, xa_kdup2, xa_kcp, xa_gf, xa_pf, xa_ga, xa_pa, xa_gq, xa_pq, xa_gl, xa_args, xa_ri, xa_rz, xa_rv, xa_s1, xa_s2, xa_c1, eq_self, List.getElem?_cons_succ, List.getElem?_cons_zero, true_and, and_true, nI_add, pk_mul, xt_in, xt_cl, xt_i0, xt_i1, xa_kc, xa_w8, xa_fit, lg_sl, List.flatMap_cons, List.flatMap_nil, List.map_cons, List.map_nil, List.sum_cons, List.sum_nil, Value.category, List.length_cons, List.length_nil, List.length_append, xa_rc, xa_rf, exists_eq_left, exists_eq', Option.some.injEq, Sum.inr.injEq, Prod.mk.injEq, Option.toList_some, Option.toList_none, List.cons_append, List.nil_append, Nat.reduceAdd, Nat.reduceLeDiff, Nat.reduceLT, List.set_cons_zero, List.set_cons_succ, eq_self, or_true, true_or, reduceIte, xt_ne, h0, h1, h2, h3, xt_le, Nat.le_refl]
      have ok : nI (if B = true then 1 else 0) = nI 0 ∨ nI (if B = true then 1 else 0) = nI 1 := by cases B <;> simp
      refine ⟨(_, _), ⟨ok, rfl⟩, ?_, h, fr, hA.1⟩
      show some (Value.int _) = some (Value.int _)
      rw [show (B && xq_cb T size a b d s 0 S) = B by unfold xq_cb; simp]
    | succ k ih =>
      intro y B lv M2 h S h0 h1 h2 h3 e ed fr hA iS
      obtain ⟨k0, -⟩ := id hA.1
      unfold xb_c at k0
      obtain ⟨⟨z3, M3⟩, cE3, c3, h3', hn3, hA3⟩ := pd_goesBy hA iT iS
      have c3 : z3 = none := c3
      subst c3
      dsimp only at hn3 hA3
      rw [xb_u2] at hn3 hA3
      have iS3 := xi_day iT iS (by omega)
      simp (disch := omega) only [↓ra_148_8, ↓ra_148_9, ↓ra_148_11, xa_kli, xa_klr, xa_kll, xa_ki, xa_kl, xa_kr, xa_kii, xa_kk, xa_kir, xa_krr, xa_kiir, xa_krir, xa_kdup, xa_kdup2, xa_kcp, xa_gf, xa_pf, xa_ga, xa_pa, xa_gq, xa_pq, xa_gl, xa_args, xa_ri, xa_rz, xa_rv, xa_s1, xa_s2, xa_c1, eq_self, List.getElem?_cons_succ, List.getElem?_cons_zero, true_and, and_true, nI_add, pk_mul, xt_in, xt_cl, xt_i0, xt_i1, xa_kc, xa_w8, xa_fit, lg_sl, List.flatMap_cons, List.flatMap_nil, List.map_cons, List.map_nil, List.sum_cons, List.sum_nil, Value.category, List.length_cons, List.length_nil, List.length_append, xa_rc, xa_rf, exists_eq_left, exists_eq', Option.some.injEq, Sum.inr.injEq, Prod.mk.injEq, Option.toList_some, Option.toList_none, List.cons_append, List.nil_append, Nat.reduceAdd, Nat.reduceLeDiff, Nat.reduceLT, List.set_cons_zero, List.set_cons_succ, eq_self, or_true, true_or, reduceIte, xt_ne, h0, h1, h2, h3, xt_le]
      simp only [if_neg (show ¬ 100 ≤ y by omega)]
      simp (disch := omega) only [↓ra_148_14, ↓ra_148_15, ↓ra_148_18, ↓ra_148_19, xa_kli, xa_klr, xa_kll, xa_ki, xa_kl, xa_kr, xa_kii, xa_kk, xa_kir, xa_krr, xa_kiir, xa_krir, xa_kdup, xa_kdup2, xa_kcp, xa_gf, xa_pf, xa_ga, xa_pa, xa_gq, xa_pq, xa_gl, xa_args, xa_ri, xa_rz, xa_rv, xa_s1, xa_s2, xa_c1, eq_self, List.getElem?_cons_succ, List.getElem?_cons_zero, true_and, and_true, nI_add, pk_mul, xt_in, xt_cl, xt_i0, xt_i1, xa_kc, xa_w8, xa_fit, lg_sl, List.flatMap_cons, List.flatMap_nil, List.map_cons, List.map_nil, List.sum_cons, List.sum_nil, Value.category, List.length_cons, List.length_nil, List.length_append, xa_rc, xa_rf, exists_eq_left, exists_eq', Option.some.injEq, Sum.inr.injEq, Prod.mk.injEq, Option.toList_some, Option.toList_none, List.cons_append, List.nil_append, Nat.reduceAdd, Nat.reduceLeDiff, Nat.reduceLT, List.set_cons_zero, List.set_cons_succ, eq_self, or_true, true_or, reduceIte, xt_ne, h0, h1, h2, h3, k0, xa_iff cE3, mx_118]
      have e0 : (B && !(xq_deny 0 a b d s y (xsh (xq_day T S) s))) = B := by simp [xq_deny]
      refine inner size 0 y B _ M3 h3' (xq_day T S) (by simp [xa_s1, xa_c1, h0]) (by simp [xa_s1, xa_c1, h1]) (by rw [e0]; simp [xa_s1, xa_c1, h2]) (by simp [xa_s1, xa_c1, h3]) (by simp [xa_s1, xa_c1]) (by omega) (by omega) hA3 iS3 _ (fun lv h0 h1 h2 h3 => ?_)
      simp (disch := omega) only [↓ra_148_93, ↓ra_148_96, xa_kli, xa_klr, xa_kll, xa_ki, xa_kl, xa_kr, xa_kii, xa_kk, xa_kir, xa_krr, xa_kiir, xa_krir, xa_kdup, xa_kdup2, xa_kcp, xa_gf, xa_pf, xa_ga, xa_pa, xa_gq, xa_pq, xa_gl, xa_args, xa_ri, xa_rz, xa_rv, xa_s1, xa_s2, xa_c1, eq_self, List.getElem?_cons_succ, List.getElem?_cons_zero, true_and, and_true, nI_add, pk_mul, xt_in, xt_cl, xt_i0, xt_i1, xa_kc, xa_w8, xa_fit, lg_sl, List.flatMap_cons, List.flatMap_nil, List.map_cons, List.map_nil, List.sum_cons, List.sum_nil, Value.category, List.length_cons, List.length_nil, List.length_append, xa_rc, xa_rf, exists_eq_left, exists_eq', Option.some.injEq, Sum.inr.injEq, Prod.mk.injEq, Option.toList_some, Option.toList_none, List.cons_append, List.nil_append, Nat.reduceAdd, Nat.reduceLeDiff, Nat.reduceLT, List.set_cons_zero, List.set_cons_succ, eq_self, or_true, true_or, reduceIte, xt_ne, h3]
      have ey : xsd (xq_day T S) = y := ed
      have := ih (y + 1) (B && !(xq_deny size a b d s y (xsh (xq_day T S) s))) (xa_s1 lv 3 (.int (nI (y + 1)))) M3 h3' (xq_day T S) (by simp [xa_s1, xa_c1, h0]) (by simp [xa_s1, xa_c1, h1]) (by simp [xa_s1, xa_c1, h2]) (by simp [xa_s1, xa_c1]) (by omega) (by rw [ey]) (xa_fr_tr fr hn3.1) hA3 iS3
      have eb : (B && xq_cb T size a b d s (k + 1) S) = (B && !(xq_deny size a b d s y (xsh (xq_day T S) s)) && xq_cb T size a b d s k (xq_day T S)) := by
        rw [xq_cb, ey]
        cases xq_deny size a b d s y (xsh (xq_day T S) s) <;> simp
      rw [eb]
      exact this
  simp (disch := omega) only [↓ra_148_0, ↓ra_148_1, ↓ra_148_4, ↓ra_148_5, ↓ra_148_6, ↓ra_148_7, xa_kli, xa_klr, xa_kll, xa_ki, xa_kl, xa_kr, xa_kii, xa_kk, xa_kir, xa_krr, xa_kiir, xa_krir, xa_kdup, xa_kdup2, xa_kcp, xa_gf, xa_pf, xa_ga, xa_pa, xa_gq, xa_pq, xa_gl, xa_args, xa_ri, xa_rz, xa_rv, xa_s1, xa_s2, xa_c1, eq_self, List.getElem?_cons_succ, List.getElem?_cons_zero, true_and, and_true, nI_add, pk_mul, xt_in, xt_cl, xt_i0, xt_i1, xa_kc, xa_w8, xa_fit, lg_sl, List.flatMap_cons, List.flatMap_nil, List.map_cons, List.map_nil, List.sum_cons, List.sum_nil, Value.category, List.length_cons, List.length_nil, List.length_append, xa_rc, xa_rf, exists_eq_left, exists_eq', Option.some.injEq, Sum.inr.injEq, Prod.mk.injEq, Option.toList_some, Option.toList_none, List.cons_append, List.nil_append, Nat.reduceAdd, Nat.reduceLeDiff, Nat.reduceLT, List.set_cons_zero, List.set_cons_succ, eq_self, or_true, true_or, reduceIte, xt_ne, h0, m0, xa_iff cE1, mx_95]
  have := outer 99 1 true (xa_s1 (xa_s1 lv 2 (.int (nI 1))) 3 (.int (nI 1))) M1 h1' (xq_b T) (by simp [xa_s1, xa_c1, h0]) (by simp [xa_s1, xa_c1, h1]) (by simp [xa_s1, xa_c1]) (by simp [xa_s1, xa_c1]) (by omega) rfl hn1.1 hA1 (xi_b iT)
  rw [Bool.true_and] at this
  exact this
