/-- outside two stretches nothing changed -/
def xa_f2 (l1 h1 l2 h2 : Nat) (M M1 : xa_M) : Prop := (∀ a, (a < l1 ∨ h1 ≤ a) → (a < l2 ∨ h2 ≤ a) → M1.1 a = M.1 a) ∧ M1.2 = M.2
theorem xa_f2_1 {l1 h1 l2 h2 : Nat} {M M1 M2 : xa_M} (h : xa_f2 l1 h1 l2 h2 M M1) (g : xa_fr l1 h1 M1 M2) : xa_f2 l1 h1 l2 h2 M M2 := ⟨fun a x y => (g.1 a x).trans (h.1 a x y), g.2.trans h.2⟩
theorem xa_f2_2 {l1 h1 l2 h2 : Nat} {M M1 M2 : xa_M} (h : xa_f2 l1 h1 l2 h2 M M1) (g : xa_fr l2 h2 M1 M2) : xa_f2 l1 h1 l2 h2 M M2 := ⟨fun a x y => (g.1 a y).trans (h.1 a x y), g.2.trans h.2⟩
theorem xa_f2_r {l1 h1 l2 h2 : Nat} {M : xa_M} : xa_f2 l1 h1 l2 h2 M M := ⟨fun _ _ _ => rfl, rfl⟩
theorem xh_Xn_fr {M M1 : xa_M} {x len lo hi k n : Nat} {txt v : Nat → Nat} (h : xh_Xn M x len txt k v n) (hf : xa_fr lo hi M M1) (ha : x + 3 ≤ lo ∨ hi ≤ x) : xh_Xn M1 x len txt k v n := by
  obtain ⟨g, h0, h1, h2, h3⟩ := h
  exact ⟨g, (hf.1 x (by omega)).trans h0, (hf.1 (x + 1) (by omega)).trans h1, h2, xa_ar_fr h3 hf (by omega)⟩
theorem pc_readInto {M : xa_M} {x t len : Nat} {txt : Nat → Nat} {T0 : xt_T} (hX : xh_X M x len txt) (iX : xi_X len txt) (hT : xh_T M t T0) (hd : x + 3 ≤ t ∨ t + 9 ≤ x) :
    ∃ z, xa_E 23 0 (xa_ent [.ref x, .ref t]) [] M z ∧ z.1 = some (.int (xt_o (xq_ri len txt 200 0 xq_T0).1)) ∧ xa_f2 x (x + 3) t (t + 9) M z.2 ∧ xh_X z.2 x len txt ∧ xh_T z.2 t (xq_ri len txt 200 0 xq_T0).2 := by
  refine xa_ge2 (fun lv h0 h1 => ?_)
  have i1 := iX.1
  have loop : ∀ (r i p : Nat) (lv : xa_L) (M1 : xa_M) (T : xt_T), lv 0 = some (.ref x) → lv 1 = some (.ref t) → lv 2 = some (.int (nI p)) → lv 3 = some (.int (nI i)) → i + r = 200 → p ≤ len → xa_f2 x (x + 3) t (t + 9) M M1 → xh_X M1 x len txt → xh_T M1 t T → xi_T T → xnM T ≤ 5 → ∃ z, xa_E 23 8 lv [] M1 z ∧ z.1 = some (.int (xt_o (xq_ri len txt r p T).1)) ∧ xa_f2 x (x + 3) t (t + 9) M z.2 ∧ xh_X z.2 x len txt ∧ xh_T z.2 t (xq_ri len txt r p T).2 := by
    intro r
    induction r with
    | zero =>
      intro i p lv M1 T h0 h1 h2 h3 e hp fr hX1 hT1 iT h5
      have e : i = 200 := by omega
      subst e
      simp (disch := omega) only [↓ra_23_8, ↓ra_23_9, ↓ra_23_12, ↓ra_23_71, ↓ra_23_73, xa_kli, xa_klr, xa_kll, xa_ki, xa_kl, xa_kr, xa_kii, xa_kk, xa_kir, xa_krr, xa_kiir, xa_krir, xa_kdup, xa_kdup2, xa_kcp, xa_gf, xa_pf, xa_ga, xa_pa, xa_gq, xa_pq, xa_gl, xa_args, xa_ri, xa_rz, xa_rv, xa_s1, xa_s2, xa_c1, eq_self, List.getElem?_cons_succ, List.getElem?_cons_zero, true_and, and_true, nI_add, pk_mul, xt_in, xt_cl, xt_i0, xt_i1, xa_kc, xa_w8, xa_fit, lg_sl, List.flatMap_cons, List.flatMap_nil, List.map_cons, List.map_nil, List.sum_cons, List.sum_nil, Value.category, List.length_cons, List.length_nil, List.length_append, xa_rc, xa_rf, exists_eq_left, exists_eq', Option.some.injEq, Sum.inr.injEq, Prod.mk.injEq, Option.toList_some, Option.toList_none, List.cons_append, List.nil_append, Nat.reduceAdd, Nat.reduceLeDiff, Nat.reduceLT, List.set_cons_zero, List.set_cons_succ, eq_self, or_true, true_or, reduceIte, xt_ne, h0, h1, h2, h3, xt_le, Nat.le_refl]
      exact ⟨rfl, fr, hX1, hT1⟩
    | succ r ih =>
      intro i p lv M1 T h0 h1 h2 h3 e hp fr hX1 hT1 iT h5
      obtain ⟨w, g, g2, x0, x1, x2, x3⟩ := id hX1
      simp (disch := omega) only [↓ra_23_8, ↓ra_23_9, ↓ra_23_12, ↓ra_23_15, ↓ra_23_16, ↓ra_23_17, ↓ra_23_20, xa_kli, xa_klr, xa_kll, xa_ki, xa_kl, xa_kr, xa_kii, xa_kk, xa_kir, xa_krr, xa_kiir, xa_krir, xa_kdup, xa_kdup2, xa_kcp, xa_gf, xa_pf, xa_ga, xa_pa, xa_gq, xa_pq, xa_gl, xa_args, xa_ri, xa_rz, xa_rv, xa_s1, xa_s2, xa_c1, eq_self, List.getElem?_cons_succ, List.getElem?_cons_zero, true_and, and_true, nI_add, pk_mul, xt_in, xt_cl, xt_i0, xt_i1, h0, h1, h2, h3, x0, xt_le]
      simp only [if_neg (show ¬ 200 ≤ i by omega)]
      unfold xq_ri
      by_cases c : len ≤ p
      · simp only [if_pos c]
        simp (disch := omega) only [↓ra_23_71, ↓ra_23_73, xa_kli, xa_klr, xa_kll, xa_ki, xa_kl, xa_kr, xa_kii, xa_kk, xa_kir, xa_krr, xa_kiir, xa_krir, xa_kdup, xa_kdup2, xa_kcp, xa_gf, xa_pf, xa_ga, xa_pa, xa_gq, xa_pq, xa_gl, xa_args, xa_ri, xa_rz, xa_rv, xa_s1, xa_s2, xa_c1, eq_self, List.getElem?_cons_succ, List.getElem?_cons_zero, true_and, and_true, nI_add, pk_mul, xt_in, xt_cl, xt_i0, xt_i1, xa_kc, xa_w8, xa_fit, lg_sl, List.flatMap_cons, List.flatMap_nil, List.map_cons, List.map_nil, List.sum_cons, List.sum_nil, Value.category, List.length_cons, List.length_nil, List.length_append, xa_rc, xa_rf, exists_eq_left, exists_eq', Option.some.injEq, Sum.inr.injEq, Prod.mk.injEq, Option.toList_some, Option.toList_none, List.cons_append, List.nil_append, Nat.reduceAdd, Nat.reduceLeDiff, Nat.reduceLT, List.set_cons_zero, List.set_cons_succ, eq_self, or_true, true_or, reduceIte, xt_ne, h0, h1, h2, h3]
        exact ⟨rfl, fr, hX1, hT1⟩
      · simp only [if_neg c]
        have x2p := x2 p (by omega)
        have i2p := iX.2 p (by omega)
        obtain ⟨⟨z1, M2⟩, cE, c2, c3⟩ := pc_readNumbers hX1 iX (p + 1) (by omega)
        dsimp only at c2
        have hT2 := xh_T_fr hT1 c2 hd.symm
        have fr2 := xa_f2_1 fr c2
        cases hr : xq_rn len txt 3 0 (p + 1) (fun _ => 0) with
        | none =>
          rw [hr] at c3
          obtain ⟨c3, c4⟩ := c3
          have c3 : z1 = _ := c3
          subst c3
          dsimp only at c4 ⊢
          simp (disch := omega) only [↓ra_23_23, ↓ra_23_24, ↓ra_23_25, ↓ra_23_26, ↓ra_23_27, ↓ra_23_30, ↓ra_23_32, ↓ra_23_34, ↓ra_23_36, ↓ra_23_60, ↓ra_23_61, xa_kli, xa_klr, xa_kll, xa_ki, xa_kl, xa_kr, xa_kii, xa_kk, xa_kir, xa_krr, xa_kiir, xa_krir, xa_kdup, xa_kdup2, xa_kcp, xa_gf, xa_pf, xa_ga, xa_pa, xa_gq, xa_pq, xa_gl, xa_args, xa_ri, xa_rz, xa_rv, xa_s1, xa_s2, xa_c1, eq_self, List.getElem?_cons_succ, List.getElem?_cons_zero, true_and, and_true, nI_add, pk_mul, xt_in, xt_cl, xt_i0, xt_i1, xa_kc, xa_w8, xa_fit, lg_sl, List.flatMap_cons, List.flatMap_nil, List.map_cons, List.map_nil, List.sum_cons, List.sum_nil, Value.category, List.length_cons, List.length_nil, List.length_append, xa_rc, xa_rf, exists_eq_left, exists_eq', Option.some.injEq, Sum.inr.injEq, Prod.mk.injEq, Option.toList_some, Option.toList_none, List.cons_append, List.nil_append, Nat.reduceAdd, Nat.reduceLeDiff, Nat.reduceLT, List.set_cons_zero, List.set_cons_succ, eq_self, or_true, true_or, reduceIte, xt_ne, h0, h1, h2, h3, x0, xa_iff cE, mx_24]
          exact ⟨rfl, fr2, c4, hT2⟩
        | some q =>
          obtain ⟨p2, k, v⟩ := q
          rw [hr] at c3
          obtain ⟨c3, c4⟩ := c3
          have c3 : z1 = _ := c3
          subst c3
          dsimp only at c4 ⊢
          have rl := xq_rn_le _ _ _ _ _ _ _ hr (fun j hj => absurd hj (Nat.not_lt_zero j))
          have ne4 : ¬ nI p2 = Int32.ofInt (-4) := by
            intro h
            have := congrArg Int32.toInt h
            rw [nI_toInt (by omega)] at this
            have h4 : (Int32.ofInt (-4)).toInt = -4 := by decide
            omega
          obtain ⟨g', y0, y1, y2, y3⟩ := id c4
          have y2p := y2 p (by omega)
          obtain ⟨⟨z3, M3⟩, cE3, d1, d2, d3⟩ := pc_accepts hT2 iT (txt p) k (by omega) y3 (by omega) (fun j hj => by have := rl.2.2.2 j hj; omega)
          have d1 : z3 = _ := d1
          subst d1
          dsimp only at d2 d3
          have fr3 := xa_f2_2 fr2 d2
          have t0 := hT2.1
          simp (disch := omega) only [↓ra_23_23, ↓ra_23_24, ↓ra_23_25, ↓ra_23_26, ↓ra_23_27, ↓ra_23_30, ↓ra_23_32, ↓ra_23_34, ↓ra_23_36, ↓ra_23_39, ↓ra_23_40, ↓ra_23_41, ↓ra_23_44, ↓ra_23_45, ↓ra_23_46, ↓ra_23_47, ↓ra_23_50, ↓ra_23_51, ↓ra_23_54, ↓ra_23_57, xa_kli, xa_klr, xa_kll, xa_ki, xa_kl, xa_kr, xa_kii, xa_kk, xa_kir, xa_krr, xa_kiir, xa_krir, xa_kdup, xa_kdup2, xa_kcp, xa_gf, xa_pf, xa_ga, xa_pa, xa_gq, xa_pq, xa_gl, xa_args, xa_ri, xa_rz, xa_rv, xa_s1, xa_s2, xa_c1, eq_self, List.getElem?_cons_succ, List.getElem?_cons_zero, true_and, and_true, nI_add, pk_mul, xt_in, xt_cl, xt_i0, xt_i1, xa_kc, xa_w8, xa_fit, lg_sl, List.flatMap_cons, List.flatMap_nil, List.map_cons, List.map_nil, List.sum_cons, List.sum_nil, Value.category, List.length_cons, List.length_nil, List.length_append, xa_rc, xa_rf, exists_eq_left, exists_eq', Option.some.injEq, Sum.inr.injEq, Prod.mk.injEq, Option.toList_some, Option.toList_none, List.cons_append, List.nil_append, Nat.reduceAdd, Nat.reduceLeDiff, Nat.reduceLT, List.set_cons_zero, List.set_cons_succ, eq_self, or_true, true_or, reduceIte, xt_ne, h0, h1, h2, h3, x0, xa_iff cE, mx_24, if_neg ne4, y0, y1, y2p, t0, xa_iff cE3, mx_31, xt_b0]
          cases ha : xq_acc T (txt p) k v with
          | none =>
            rw [ha] at d3
            simp (disch := omega) only [Option.isSome_none, Bool.false_eq_true, not_false_eq_true, if_true, ↓ra_23_60, ↓ra_23_61, xa_kli, xa_klr, xa_kll, xa_ki, xa_kl, xa_kr, xa_kii, xa_kk, xa_kir, xa_krr, xa_kiir, xa_krir, xa_kdup, xa_kdup2, xa_kcp, xa_gf, xa_pf, xa_ga, xa_pa, xa_gq, xa_pq, xa_gl, xa_args, xa_ri, xa_rz, xa_rv, xa_s1, xa_s2, xa_c1, eq_self, List.getElem?_cons_succ, List.getElem?_cons_zero, true_and, and_true, nI_add, pk_mul, xt_in, xt_cl, xt_i0, xt_i1, xa_kc, xa_w8, xa_fit, lg_sl, List.flatMap_cons, List.flatMap_nil, List.map_cons, List.map_nil, List.sum_cons, List.sum_nil, Value.category, List.length_cons, List.length_nil, List.length_append, xa_rc, xa_rf, exists_eq_left, exists_eq', Option.some.injEq, Sum.inr.injEq, Prod.mk.injEq, Option.toList_some, Option.toList_none, List.cons_append, List.nil_append, Nat.reduceAdd, Nat.reduceLeDiff, Nat.reduceLT, List.set_cons_zero, List.set_cons_succ, eq_self, or_true, true_or, reduceIte, xt_ne, h0, h1, h2, h3]
            exact ⟨rfl, fr3, xh_X_fr (xh_Xn_X c4) d2 hd, d3⟩
          | some T2 =>
            rw [ha] at d3
            have ia := xi_acc iT h5 ha
            simp (disch := omega) only [Option.isSome_some, not_true_eq_false, if_false, ↓ra_23_62, ↓ra_23_64, ↓ra_23_65, ↓ra_23_68, xa_kli, xa_klr, xa_kll, xa_ki, xa_kl, xa_kr, xa_kii, xa_kk, xa_kir, xa_krr, xa_kiir, xa_krir, xa_kdup, xa_kdup2, xa_kcp, xa_gf, xa_pf, xa_ga, xa_pa, xa_gq, xa_pq, xa_gl, xa_args, xa_ri, xa_rz, xa_rv, xa_s1, xa_s2, xa_c1, eq_self, List.getElem?_cons_succ, List.getElem?_cons_zero, true_and, and_true, nI_add, pk_mul, xt_in, xt_cl, xt_i0, xt_i1, xa_kc, xa_w8, xa_fit, lg_sl, List.flatMap_cons, List.flatMap_nil, List.map_cons, List.map_nil, List.sum_cons, List.sum_nil, Value.category, List.length_cons, List.length_nil, List.length_append, xa_rc, xa_rf, exists_eq_left, exists_eq', Option.some.injEq, Sum.inr.injEq, Prod.mk.injEq, Option.toList_some, Option.toList_none, List.cons_append, List.nil_append, Nat.reduceAdd, Nat.reduceLeDiff, Nat.reduceLT, List.set_cons_zero, List.set_cons_succ, eq_self, or_true, true_or, reduceIte, xt_ne, h0, h1, h2, h3]
            exact ih (i + 1) p2 _ _ T2 (by simp [xa_s1, xa_c1, h0]) (by simp [xa_s1, xa_c1, h1]) (by simp [xa_s1, xa_c1]) (by simp [xa_s1, xa_c1, nI_add]) (by omega) rl.2.1 fr3 (xh_X_fr (xh_Xn_X c4) d2 hd) d3 ia.1 ia.2
  obtain ⟨⟨z1, M2⟩, cE, c1, c2, c3⟩ := pc_clear hT
  have c1 : z1 = none := c1
  subst c1
  dsimp only at c2 c3
  have t0 := hT.1
  simp (disch := omega) only [↓ra_23_0, ↓ra_23_1, ↓ra_23_4, ↓ra_23_5, ↓ra_23_6, ↓ra_23_7, xa_kli, xa_klr, xa_kll, xa_ki, xa_kl, xa_kr, xa_kii, xa_kk, xa_kir, xa_krr, xa_kiir, xa_krir, xa_kdup, xa_kdup2, xa_kcp, xa_gf, xa_pf, xa_ga, xa_pa, xa_gq, xa_pq, xa_gl, xa_args, xa_ri, xa_rz, xa_rv, xa_s1, xa_s2, xa_c1, eq_self, List.getElem?_cons_succ, List.getElem?_cons_zero, true_and, and_true, nI_add, pk_mul, xt_in, xt_cl, xt_i0, xt_i1, xa_kc, xa_w8, xa_fit, lg_sl, List.flatMap_cons, List.flatMap_nil, List.map_cons, List.map_nil, List.sum_cons, List.sum_nil, Value.category, List.length_cons, List.length_nil, List.length_append, xa_rc, xa_rf, exists_eq_left, exists_eq', Option.some.injEq, Sum.inr.injEq, Prod.mk.injEq, Option.toList_some, Option.toList_none, List.cons_append, List.nil_append, Nat.reduceAdd, Nat.reduceLeDiff, Nat.reduceLT, List.set_cons_zero, List.set_cons_succ, eq_self, or_true, true_or, reduceIte, xt_ne, h0, h1, t0, xa_iff cE, mx_29]
  exact loop 200 0 0 _ _ xq_T0 (by simp [xa_s1, xa_c1, h0]) (by simp [xa_s1, xa_c1, h1]) (by simp [xa_s1, xa_c1]) (by simp [xa_s1, xa_c1]) rfl (by omega) (xa_f2_2 xa_f2_r c2) (xh_X_fr hX c2 hd) c3 xi_T0 (by decide)
theorem xi_ri {len : Nat} {txt : Nat → Nat} : ∀ (r p : Nat) (T : xt_T), xi_T T → xnM T ≤ 5 → xi_T (xq_ri len txt r p T).2 ∧ xnM (xq_ri len txt r p T).2 ≤ 5
  | 0, _, _, h, h5 => ⟨h, h5⟩
  | r + 1, p, T, h, h5 => by
    unfold xq_ri
    split
    · exact ⟨h, h5⟩
    · split
      · exact ⟨h, h5⟩
      · split
        · exact ⟨h, h5⟩
        · rename_i T2 ha
          have ia := xi_acc h h5 ha
          exact xi_ri r _ T2 ia.1 ia.2
