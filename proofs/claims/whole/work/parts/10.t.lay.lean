theorem xq_ri_s (len : Nat) (txt : Nat → Nat) (f p : Nat) (T : xt_T) : xq_ri len txt (f + 1) p T = if len ≤ p then (none, T) else (match xq_item len txt p T with
    | none => (some p, T)
    | some (p2, T2) => xq_ri len txt f p2 T2) := by
  rw [xq_ri]
  by_cases c : len ≤ p
  · rw [if_pos c, if_pos c]
  · rw [if_neg c, if_neg c]
    unfold xq_item
    cases xq_rn len txt 3 0 (p + 1) (fun _ => 0) with
    | none => rfl
    | some t =>
      obtain ⟨p2, k, v⟩ := t
      dsimp only
      cases xq_acc T (txt p) k v with
      | none => rfl
      | some T2 => rfl
theorem xi_item {len p p2 : Nat} {txt : Nat → Nat} {T T2 : xt_T} (iT : xi_T T) (h5 : xnM T ≤ 5) (h60 : xN T ≤ 60) (h : xq_item len txt p T = some (p2, T2)) : (xi_T T2 ∧ xnM T2 ≤ 5) ∧ xN T2 ≤ 60 ∧ p < p2 ∧ p2 ≤ len := by
  unfold xq_item at h
  cases hr : xq_rn len txt 3 0 (p + 1) (fun _ => 0) with
  | none => rw [hr] at h; cases h
  | some t =>
    obtain ⟨q, k, v⟩ := t
    rw [hr] at h
    dsimp only at h
    cases ha : xq_acc T (txt p) k v with
    | none => rw [ha] at h; cases h
    | some T3 =>
      rw [ha] at h
      cases h
      have := xq_rn_le 3 0 (p + 1) (fun _ => 0) _ _ _ hr (fun j hj => absurd hj (Nat.not_lt_zero j))
      refine ⟨xi_acc iT h5 ha, ?_, by omega, by omega⟩
      unfold xq_acc at ha
      unfold xq_aN xq_aC xq_aG xq_aS xq_aM xq_aW at ha
      repeat' split at ha
      all_goals first | (cases ha; done) | (cases ha; first | exact h60 | (rename_i hc; exact hc.2))
theorem xi_ri60 {len : Nat} {txt : Nat → Nat} : ∀ (f p : Nat) (T : xt_T), xi_T T → xnM T ≤ 5 → xN T ≤ 60 → xN (xq_ri len txt f p T).2 ≤ 60
  | 0, _, _, _, _, h => h
  | f + 1, p, T, iT, h5, h60 => by
    rw [xq_ri_s]
    by_cases c : len ≤ p
    · rw [if_pos c]; exact h60
    · rw [if_neg c]
      cases h : xq_item len txt p T with
      | none => exact h60
      | some t =>
        obtain ⟨p2, T2⟩ := t
        have := xi_item iT h5 h60 h
        exact xi_ri60 f p2 T2 this.1.1 this.1.2 this.2.1
theorem pd_fault {M : xa_M} {c len : Nat} {txt : Nat → Nat} {r : Nat → Int32} {g : Nat → Nat → Int32} (hB : xb_M M c r g) (iX : xi_X len txt) (h8 : r 8 = nI len) (ht : ∀ j, j < len → g 3 j = nI (txt j)) : ∃ z, xa_E 114 0 (xa_ent [.ref c]) [] M z ∧ z.1 = some (.int (xt_o (xq_ri len txt 200 0 xq_T0).1)) ∧ ∃ r2 h, xn c M r2 (xb_u g 4 h) z.2 ∧ (∀ j, j ≠ 9 → j ≠ 11 → j ≠ 12 → r2 j = r j) ∧ ((xq_ri len txt 200 0 xq_T0).1 = none → xv_R h (xq_ri len txt 200 0 xq_T0).2) := by
  have ix := iX.1
  refine xa_ge1 (fun lv h0 => ?_)
  have items : ∀ (f p : Nat) (T : xt_T) (lv : xa_L) (M1 : xa_M) (r1 h : Nat → Int32), lv 0 = some (.ref c) → len ≤ p + f → p ≤ len → xn c M r1 (xb_u g 4 h) M1 → (∀ j, j ≠ 9 → j ≠ 11 → j ≠ 12 → r1 j = r j) → r1 9 = nI p → r1 11 = nI (xq_mo T) → xv_R h T → xi_T T → xnM T ≤ 5 → xN T ≤ 60 → ∃ z, xa_E 114 46 lv [] M1 z ∧ z.1 = some (.int (xt_o (xq_ri len txt f p T).1)) ∧ ∃ r2 h, xn c M r2 (xb_u g 4 h) z.2 ∧ (∀ j, j ≠ 9 → j ≠ 11 → j ≠ 12 → r2 j = r j) ∧ ((xq_ri len txt f p T).1 = none → xv_R h (xq_ri len txt f p T).2) := by
    intro f
    induction f with
    | zero =>
      intro p T lv M1 r1 h h0 hf hp hn er e9 e11 hR iT h5 h60
      obtain ⟨m0, -⟩ := id hn.2
      unfold xb_c at m0
      have e8 : r1 8 = nI len := (er 8 (by omega) (by omega) (by omega)).trans h8
      have ep : p = len := by omega
      subst ep
      simp (disch := omega) only [↓ra_114_46, ↓ra_114_47, ↓ra_114_50, ↓ra_114_51, ↓ra_114_54, ↓ra_114_74, ↓ra_114_76, xa_kli, xa_klr, xa_kll, xa_ki, xa_kl, xa_kr, xa_kii, xa_kk, xa_kir, xa_krr, xa_kiir, xa_krir, xa_kdup, xa_kdup2, xa_kcp, xa_gf, xa_pf, xa_ga, xa_pa, xa_gq, xa_pq, xa_gl, xa_args, xa_ri, xa_rz, xa_rv, xa_s1, xa_s2, xa_c1, eq_self, List.getElem?_cons_succ, List.getElem?_cons_zero, true_and, and_true, nI_add, pk_mul, xt_in, xt_cl, xt_i0, xt_i1, xa_kc, xa_w8, xa_fit, lg_sl, List.flatMap_cons, List.flatMap_nil, List.map_cons, List.map_nil, List.sum_cons, List.sum_nil, Value.category, List.length_cons, List.length_nil, List.length_append, xa_rc, xa_rf, exists_eq_left, exists_eq', Option.some.injEq, Sum.inr.injEq, Prod.mk.injEq, Option.toList_some, Option.toList_none, List.cons_append, List.nil_append, Nat.reduceAdd, Nat.reduceLeDiff, Nat.reduceLT, List.set_cons_zero, List.set_cons_succ, eq_self, or_true, true_or, reduceIte, xt_ne, h0, m0, e8, e9, xt_le, Nat.le_refl]
      exact ⟨rfl, r1, h, hn, er, fun _ => hR⟩
    | succ f ih =>
      intro p T lv M1 r1 h h0 hf hp hn er e9 e11 hR iT h5 h60
      obtain ⟨m0, -⟩ := id hn.2
      unfold xb_c at m0
      have e8 : r1 8 = nI len := (er 8 (by omega) (by omega) (by omega)).trans h8
      rw [xq_ri_s]
      simp (disch := omega) only [↓ra_114_46, ↓ra_114_47, ↓ra_114_50, ↓ra_114_51, ↓ra_114_54, xa_kli, xa_klr, xa_kll, xa_ki, xa_kl, xa_kr, xa_kii, xa_kk, xa_kir, xa_krr, xa_kiir, xa_krir, xa_kdup, xa_kdup2, xa_kcp, xa_gf, xa_pf, xa_ga, xa_pa, xa_gq, xa_pq, xa_gl, xa_args, xa_ri, xa_rz, xa_rv, xa_s1, xa_s2, xa_c1, eq_self, List.getElem?_cons_succ, List.getElem?_cons_zero, true_and, and_true, nI_add, pk_mul, xt_in, xt_cl, xt_i0, xt_i1, xa_kc, xa_w8, xa_fit, lg_sl, List.flatMap_cons, List.flatMap_nil, List.map_cons, List.map_nil, List.sum_cons, List.sum_nil, Value.category, List.length_cons, List.length_nil, List.length_append, xa_rc, xa_rf, exists_eq_left, exists_eq', Option.some.injEq, Sum.inr.injEq, Prod.mk.injEq, Option.toList_some, Option.toList_none, List.cons_append, List.nil_append, Nat.reduceAdd, Nat.reduceLeDiff, Nat.reduceLT, List.set_cons_zero, List.set_cons_succ, eq_self, or_true, true_or, reduceIte, xt_ne, h0, m0, e8, e9, xt_le]
      by_cases cp : len ≤ p
      · simp only [if_pos cp]
        simp (disch := omega) only [↓ra_114_74, ↓ra_114_76, xa_kli, xa_klr, xa_kll, xa_ki, xa_kl, xa_kr, xa_kii, xa_kk, xa_kir, xa_krr, xa_kiir, xa_krir, xa_kdup, xa_kdup2, xa_kcp, xa_gf, xa_pf, xa_ga, xa_pa, xa_gq, xa_pq, xa_gl, xa_args, xa_ri, xa_rz, xa_rv, xa_s1, xa_s2, xa_c1, eq_self, List.getElem?_cons_succ, List.getElem?_cons_zero, true_and, and_true, nI_add, pk_mul, xt_in, xt_cl, xt_i0, xt_i1, xa_kc, xa_w8, xa_fit, lg_sl, List.flatMap_cons, List.flatMap_nil, List.map_cons, List.map_nil, List.sum_cons, List.sum_nil, Value.category, List.length_cons, List.length_nil, List.length_append, xa_rc, xa_rf, exists_eq_left, exists_eq', Option.some.injEq, Sum.inr.injEq, Prod.mk.injEq, Option.toList_some, Option.toList_none, List.cons_append, List.nil_append, Nat.reduceAdd, Nat.reduceLeDiff, Nat.reduceLT, List.set_cons_zero, List.set_cons_succ, eq_self, or_true, true_or, reduceIte, xt_ne]
        exact ⟨rfl, r1, h, hn, er, fun _ => hR⟩
      · simp only [if_neg cp]
        obtain ⟨⟨z2, M2⟩, cE2, r2, h2, hn2, er2, hok, hmo⟩ := pd_item hn.2 iX e8 e9 (by omega) ht (by rw [xb_ue]; exact hR) iT h5 e11
        dsimp only at hn2
        rw [xb_u2] at hn2
        have erf : ∀ j, j ≠ 9 → j ≠ 11 → j ≠ 12 → r2 j = r j := fun j x y z => (er2 j x y z).trans (er j x y z)
        cases hO : xq_item len txt p T with
        | none =>
          rw [hO] at hok
          have hz : z2 = some (.int (nI 0)) := hok
          subst hz
          simp (disch := omega) only [↓ra_114_57, ↓ra_114_58, ↓ra_114_61, ↓ra_114_62, ↓ra_114_63, ↓ra_114_66, ↓ra_114_69, ↓ra_114_70, xa_kli, xa_klr, xa_kll, xa_ki, xa_kl, xa_kr, xa_kii, xa_kk, xa_kir, xa_krr, xa_kiir, xa_krir, xa_kdup, xa_kdup2, xa_kcp, xa_gf, xa_pf, xa_ga, xa_pa, xa_gq, xa_pq, xa_gl, xa_args, xa_ri, xa_rz, xa_rv, xa_s1, xa_s2, xa_c1, eq_self, List.getElem?_cons_succ, List.getElem?_cons_zero, true_and, and_true, nI_add, pk_mul, xt_in, xt_cl, xt_i0, xt_i1, xa_kc, xa_w8, xa_fit, lg_sl, List.flatMap_cons, List.flatMap_nil, List.map_cons, List.map_nil, List.sum_cons, List.sum_nil, Value.category, List.length_cons, List.length_nil, List.length_append, xa_rc, xa_rf, exists_eq_left, exists_eq', Option.some.injEq, Sum.inr.injEq, Prod.mk.injEq, Option.toList_some, Option.toList_none, List.cons_append, List.nil_append, Nat.reduceAdd, Nat.reduceLeDiff, Nat.reduceLT, List.set_cons_zero, List.set_cons_succ, eq_self, or_true, true_or, reduceIte, xt_ne, xt_eq, Nat.reduceEqDiff, Nat.one_ne_zero, if_false, h0, m0, e9, xa_iff cE2, mx_113]
          exact ⟨rfl, r2, h2, xn_t hn hn2, erf, fun e => by cases e⟩
        | some t =>
          obtain ⟨p2, T2⟩ := t
          rw [hO] at hok
          obtain ⟨hz, q9, qR⟩ := hok
          have hz : z2 = some (.int (nI 1)) := hz
          subst hz
          have ii := xi_item iT h5 h60 hO
          simp (disch := omega) only [↓ra_114_57, ↓ra_114_58, ↓ra_114_61, ↓ra_114_62, ↓ra_114_63, ↓ra_114_66, ↓ra_114_71, xa_kli, xa_klr, xa_kll, xa_ki, xa_kl, xa_kr, xa_kii, xa_kk, xa_kir, xa_krr, xa_kiir, xa_krir, xa_kdup, xa_kdup2, xa_kcp, xa_gf, xa_pf, xa_ga, xa_pa, xa_gq, xa_pq, xa_gl, xa_args, xa_ri, xa_rz, xa_rv, xa_s1, xa_s2, xa_c1, eq_self, List.getElem?_cons_succ, List.getElem?_cons_zero, true_and, and_true, nI_add, pk_mul, xt_in, xt_cl, xt_i0, xt_i1, xa_kc, xa_w8, xa_fit, lg_sl, List.flatMap_cons, List.flatMap_nil, List.map_cons, List.map_nil, List.sum_cons, List.sum_nil, Value.category, List.length_cons, List.length_nil, List.length_append, xa_rc, xa_rf, exists_eq_left, exists_eq', Option.some.injEq, Sum.inr.injEq, Prod.mk.injEq, Option.toList_some, Option.toList_none, List.cons_append, List.nil_append, Nat.reduceAdd, Nat.reduceLeDiff, Nat.reduceLT, List.set_cons_zero, List.set_cons_succ, eq_self, or_true, true_or, reduceIte, xt_ne, xt_eq, Nat.reduceEqDiff, Nat.one_ne_zero, if_false, h0, m0, e9, xa_iff cE2, mx_113]
          exact ih p2 T2 _ M2 r2 h2 (by simp [xa_s1, xa_c1, h0]) (by omega) ii.2.2.2 (xn_t hn hn2) erf q9 (hmo p2 T2 hO) qR ii.1.1 ii.1.2 ii.2.1
  have clear : ∀ (k i : Nat) (lv : xa_L) (M1 : xa_M) (h : Nat → Int32), lv 0 = some (.ref c) → lv 1 = some (.int (nI i)) → i + k = 51 → xn c M r (xb_u g 4 h) M1 → (∀ j, j < i → h j = nI 0) → ∃ z, xa_E 114 2 lv [] M1 z ∧ z.1 = some (.int (xt_o (xq_ri len txt 200 0 xq_T0).1)) ∧ ∃ r2 h, xn c M r2 (xb_u g 4 h) z.2 ∧ (∀ j, j ≠ 9 → j ≠ 11 → j ≠ 12 → r2 j = r j) ∧ ((xq_ri len txt 200 0 xq_T0).1 = none → xv_R h (xq_ri len txt 200 0 xq_T0).2) := by
    intro k
    induction k with
    | zero =>
      intro i lv M1 h h0 h1 e hn hz
      have e : i = 51 := by omega
      subst e
      obtain ⟨m0, m1, m2, m3, m4, -⟩ := id hn.2
      unfold xb_c at m0
      rw [xb_ue] at m4
      have hn2 := xn_f (r2 := upd (upd r 11 (nI 0)) 9 (nI 0)) (xn_f (r2 := upd r 11 (nI 0)) (xn_s4' (upd (upd h 0 (nI 20)) 1 (nI 4)) (xn_s4' (upd h 0 (nI 20)) hn)))
      simp (disch := omega) only [↓ra_114_2, ↓ra_114_3, ↓ra_114_5, ↓ra_114_21, ↓ra_114_22, ↓ra_114_25, ↓ra_114_26, ↓ra_114_28, ↓ra_114_29, ↓ra_114_30, ↓ra_114_33, ↓ra_114_34, ↓ra_114_35, ↓ra_114_36, ↓ra_114_37, ↓ra_114_38, ↓ra_114_41, ↓ra_114_42, ↓ra_114_43, xa_kli, xa_klr, xa_kll, xa_ki, xa_kl, xa_kr, xa_kii, xa_kk, xa_kir, xa_krr, xa_kiir, xa_krir, xa_kdup, xa_kdup2, xa_kcp, xa_gf, xa_pf, xa_ga, xa_pa, xa_gq, xa_pq, xa_gl, xa_args, xa_ri, xa_rz, xa_rv, xa_s1, xa_s2, xa_c1, eq_self, List.getElem?_cons_succ, List.getElem?_cons_zero, true_and, and_true, nI_add, pk_mul, xt_in, xt_cl, xt_i0, xt_i1, xa_kc, xa_w8, xa_fit, lg_sl, List.flatMap_cons, List.flatMap_nil, List.map_cons, List.map_nil, List.sum_cons, List.sum_nil, Value.category, List.length_cons, List.length_nil, List.length_append, xa_rc, xa_rf, exists_eq_left, exists_eq', Option.some.injEq, Sum.inr.injEq, Prod.mk.injEq, Option.toList_some, Option.toList_none, List.cons_append, List.nil_append, Nat.reduceAdd, Nat.reduceLeDiff, Nat.reduceLT, List.set_cons_zero, List.set_cons_succ, eq_self, or_true, true_or, reduceIte, xt_ne, h0, h1, m0, m4, xt_st, xt_le, Nat.le_refl]
      refine items 200 0 xq_T0 lv _ _ _ h0 (by omega) (Nat.zero_le _) hn2 (fun j x y z => by rw [xt_us, if_neg x, xt_us, if_neg y]) (by rw [xt_us, if_pos rfl]) (by rw [xt_us, if_neg (by omega), xt_us, if_pos rfl]; rfl) ?_ xi_T0 (by decide) (by decide)
      refine ⟨⟨?_, ?_, ?_, ?_, ?_, ?_⟩, fun s hs => absurd hs (Nat.not_lt_zero s), fun s hs => absurd hs (Nat.not_lt_zero s), fun s hs => absurd hs (Nat.not_lt_zero s)⟩
      · rw [xt_us, if_neg (by omega), xt_us, if_pos rfl]; rfl
      · rw [xt_us, if_pos rfl]; rfl
      · rw [xt_us, if_neg (by omega), xt_us, if_neg (by omega), hz _ (by omega)]; rfl
      · rw [xt_us, if_neg (by omega), xt_us, if_neg (by omega), hz _ (by omega)]; rfl
      · rw [xt_us, if_neg (by omega), xt_us, if_neg (by omega), hz _ (by omega)]; rfl
      · rw [xt_us, if_neg (by omega), xt_us, if_neg (by omega), hz _ (by omega)]; rfl
    | succ k ih =>
      intro i lv M1 h h0 h1 e hn hz
      obtain ⟨m0, m1, m2, m3, m4, -⟩ := id hn.2
      unfold xb_c at m0
      rw [xb_ue] at m4
      simp (disch := omega) only [↓ra_114_2, ↓ra_114_3, ↓ra_114_5, xa_kli, xa_klr, xa_kll, xa_ki, xa_kl, xa_kr, xa_kii, xa_kk, xa_kir, xa_krr, xa_kiir, xa_krir, xa_kdup, xa_kdup2, xa_kcp, xa_gf, xa_pf, xa_ga, xa_pa, xa_gq, xa_pq, xa_gl, xa_args, xa_ri, xa_rz, xa_rv, xa_s1, xa_s2, xa_c1, eq_self, List.getElem?_cons_succ, List.getElem?_cons_zero, true_and, and_true, nI_add, pk_mul, xt_in, xt_cl, xt_i0, xt_i1, xa_kc, xa_w8, xa_fit, lg_sl, List.flatMap_cons, List.flatMap_nil, List.map_cons, List.map_nil, List.sum_cons, List.sum_nil, Value.category, List.length_cons, List.length_nil, List.length_append, xa_rc, xa_rf, exists_eq_left, exists_eq', Option.some.injEq, Sum.inr.injEq, Prod.mk.injEq, Option.toList_some, Option.toList_none, List.cons_append, List.nil_append, Nat.reduceAdd, Nat.reduceLeDiff, Nat.reduceLT, List.set_cons_zero, List.set_cons_succ, eq_self, or_true, true_or, reduceIte, xt_ne, h0, h1, xt_le]
      simp only [if_neg (show ¬ 51 ≤ i by omega)]
      simp (disch := omega) only [↓ra_114_8, ↓ra_114_9, ↓ra_114_12, ↓ra_114_13, ↓ra_114_14, ↓ra_114_15, ↓ra_114_18, xa_kli, xa_klr, xa_kll, xa_ki, xa_kl, xa_kr, xa_kii, xa_kk, xa_kir, xa_krr, xa_kiir, xa_krir, xa_kdup, xa_kdup2, xa_kcp, xa_gf, xa_pf, xa_ga, xa_pa, xa_gq, xa_pq, xa_gl, xa_args, xa_ri, xa_rz, xa_rv, xa_s1, xa_s2, xa_c1, eq_self, List.getElem?_cons_succ, List.getElem?_cons_zero, true_and, and_true, nI_add, pk_mul, xt_in, xt_cl, xt_i0, xt_i1, xa_kc, xa_w8, xa_fit, lg_sl, List.flatMap_cons, List.flatMap_nil, List.map_cons, List.map_nil, List.sum_cons, List.sum_nil, Value.category, List.length_cons, List.length_nil, List.length_append, xa_rc, xa_rf, exists_eq_left, exists_eq', Option.some.injEq, Sum.inr.injEq, Prod.mk.injEq, Option.toList_some, Option.toList_none, List.cons_append, List.nil_append, Nat.reduceAdd, Nat.reduceLeDiff, Nat.reduceLT, List.set_cons_zero, List.set_cons_succ, eq_self, or_true, true_or, reduceIte, xt_ne, h0, h1, m0, m4]
      refine ih (i + 1) _ _ (upd h i (nI 0)) (by simp [xa_s1, xa_c1, h0]) (by simp [xa_s1, xa_c1]) (by omega) (xn_s4' _ hn) (fun j hj => ?_)
      rw [xt_us]
      by_cases ej : j = i
      · rw [if_pos ej]
      · rw [if_neg ej]; exact hz j (by omega)
  simp (disch := omega) only [↓ra_114_0, ↓ra_114_1, xa_kli, xa_klr, xa_kll, xa_ki, xa_kl, xa_kr, xa_kii, xa_kk, xa_kir, xa_krr, xa_kiir, xa_krir, xa_kdup, xa_kdup2, xa_kcp, xa_gf, xa_pf, xa_ga, xa_pa, xa_gq, xa_pq, xa_gl, xa_args, xa_ri, xa_rz, xa_rv, xa_s1, xa_s2, xa_c1, eq_self, List.getElem?_cons_succ, List.getElem?_cons_zero, true_and, and_true, nI_add, pk_mul, xt_in, xt_cl, xt_i0, xt_i1, xa_kc, xa_w8, xa_fit, lg_sl, List.flatMap_cons, List.flatMap_nil, List.map_cons, List.map_nil, List.sum_cons, List.sum_nil, Value.category, List.length_cons, List.length_nil, List.length_append, xa_rc, xa_rf, exists_eq_left, exists_eq', Option.some.injEq, Sum.inr.injEq, Prod.mk.injEq, Option.toList_some, Option.toList_none, List.cons_append, List.nil_append, Nat.reduceAdd, Nat.reduceLeDiff, Nat.reduceLT, List.set_cons_zero, List.set_cons_succ, eq_self, or_true, true_or, reduceIte, xt_ne]
  exact clear 51 0 _ M (g 4) (by simp [xa_s1, xa_c1, h0]) (by simp [xa_s1, xa_c1]) (by omega) (by rw [xb_ui]; exact xn_r hB) (fun j hj => absurd hj (Nat.not_lt_zero j))
theorem pe_fault {M : xa_M} {c : Nat} {A : xt_A} (hh : xh_B M c A) (iA : xi_A A)  : ∃ y0, xa_E 114 0 (xa_ent [.ref c]) [] M y0 ∧ xm2 c M (xs_fault A) A y0 := by
  obtain ⟨r, g, hB, hw⟩ := id hh
  have hA := xw_A hB hw
  obtain ⟨⟨ra2, ra3, ra5, ra6⟩, hV, hS, ⟨hx1, hx2⟩, ⟨hu1, hu2⟩, ⟨hk1, hk2⟩, ⟨hg1, hg2⟩⟩ := id hw
  obtain ⟨iT, i5, i60, i1, ⟨iS, iD⟩, iX, iU, iK, iG⟩ := id iA
  obtain ⟨⟨b1, b2, b3, b4, b5, b6, b7, b8⟩, bs, bm, bw⟩ := id iT
  have ix := iX.1
  have iu := iU.1
  have ik := iK.1
  have ig := iG.1
  obtain ⟨⟨v0, v1, v2, v3, v4, v5⟩, vs, vm, -, vw⟩ := id hV
  obtain ⟨m0, m1, m2, m3, m4, m5, m6, m7, m8, m9⟩ := id hB
  unfold xb_c at m0
  obtain ⟨z, q1, q2, r1, h, q3, q4, -⟩ := pd_fault hB iX hx1 hx2
  refine ⟨z, q1, q2, q3.1, r1, _, q3.2, xw_ch hw iA (q4 2 (by omega) (by omega) (by omega)) (q4 3 (by omega) (by omega) (by omega)) (q4 5 (by omega) (by omega) (by omega)) (q4 6 (by omega) (by omega) (by omega)) (q4 8 (by omega) (by omega) (by omega)) (q4 14 (by omega) (by omega) (by omega)) (q4 18 (by omega) (by omega) (by omega)) (q4 20 (by omega) (by omega) (by omega)) rfl (fun _ _ => rfl) rfl rfl rfl rfl⟩
theorem xv_R_cg {t t2 : Nat → Int32} {T : xt_T} (h : xv_R t T) (e : ∀ k, k < 51 → t2 k = t k) (h6 : xnS T ≤ 6) (h5 : xnM T ≤ 5) (hw : xnW T ≤ 6) : xv_R t2 T := by
  obtain ⟨⟨v0, v1, v2, v3, v4, v5⟩, vs, vm, vw⟩ := h
  refine ⟨⟨(e 0 (by omega)).trans v0, (e 1 (by omega)).trans v1, (e 2 (by omega)).trans v2, (e 3 (by omega)).trans v3, (e 4 (by omega)).trans v4, (e 5 (by omega)).trans v5⟩, fun s hs => ?_, fun m hm => ?_, fun w hw => ?_⟩
  · obtain ⟨p1, p2, p3⟩ := vs s hs
    exact ⟨(e _ (by omega)).trans p1, (e _ (by omega)).trans p2, (e _ (by omega)).trans p3⟩
  · obtain ⟨p1, p2, p3⟩ := vm m hm
    exact ⟨(e _ (by omega)).trans p1, (e _ (by omega)).trans p2, (e _ (by omega)).trans p3⟩
  · obtain ⟨p1, p2⟩ := vw w hw
    exact ⟨(e _ (by omega)).trans p1, (e _ (by omega)).trans p2⟩
theorem pe_lay {M : xa_M} {c : Nat} {A : xt_A} (hh : xh_B M c A) (iA : xi_A A)  : ∃ y0, xa_E 115 0 (xa_ent [.ref c]) [] M y0 ∧ xm2 c M ((xs_lay A).1) (xs_lay A).2 y0 := by
  obtain ⟨r, g, hB, hw⟩ := id hh
  have hA := xw_A hB hw
  obtain ⟨⟨ra2, ra3, ra5, ra6⟩, hV, hS, ⟨hx1, hx2⟩, ⟨hu1, hu2⟩, ⟨hk1, hk2⟩, ⟨hg1, hg2⟩⟩ := id hw
  obtain ⟨iT, i5, i60, i1, ⟨iS, iD⟩, iX, iU, iK, iG⟩ := id iA
  obtain ⟨⟨b1, b2, b3, b4, b5, b6, b7, b8⟩, bs, bm, bw⟩ := id iT
  have ix := iX.1
  have iu := iU.1
  have ik := iK.1
  have ig := iG.1
  obtain ⟨⟨v0, v1, v2, v3, v4, v5⟩, vs, vm, -, vw⟩ := id hV
  obtain ⟨m0, m1, m2, m3, m4, m5, m6, m7, m8, m9⟩ := id hB
  unfold xb_c at m0
  obtain ⟨⟨z1, M1⟩, cE1, c1, r1, h4, hn1, er, hR⟩ := pd_fault hB iX hx1 hx2
  have c1 : z1 = _ := c1
  subst c1
  dsimp only at hn1
  have hw1 : xw r1 (xb_u g 4 h4) A := xw_ch hw iA (er 2 (by omega) (by omega) (by omega)) (er 3 (by omega) (by omega) (by omega)) (er 5 (by omega) (by omega) (by omega)) (er 6 (by omega) (by omega) (by omega)) (er 8 (by omega) (by omega) (by omega)) (er 14 (by omega) (by omega) (by omega)) (er 18 (by omega) (by omega) (by omega)) (er 20 (by omega) (by omega) (by omega)) rfl (fun _ _ => rfl) rfl rfl rfl rfl
  have iT1 := xi_ri (len := (yX A).1) (txt := (yX A).2) 200 0 xq_T0 xi_T0 (by decide)
  have lt := fun n h => Nat.lt_of_lt_of_le (xq_ri_lt (len := (yX A).1) (txt := (yX A).2) 200 0 xq_T0 n h) (Nat.le_trans iX.1 (by omega : 200 ≤ 2147483648))
  change xa_E _ _ _ _ _ (some (.int (xt_o (xq_rd A).1)), M1) at cE1
  change (xq_rd A).1 = none → xv_R h4 (xq_rd A).2 at hR
  change ∀ n, (xq_rd A).1 = some n → n < 2147483648 at lt
  change xi_T (xq_rd A).2 ∧ xnM (xq_rd A).2 ≤ 5 at iT1
  unfold xs_lay
  generalize xq_rd A = R at *
  obtain ⟨⟨d1, d2, d3, d4, d5, d6, d7, d8⟩, -⟩ := id iT1.1
  have t5 := iT1.2
  obtain ⟨n0, n1, n2, n3, n4, -⟩ := id hn1.2
  unfold xb_c at n0
  rw [xb_ue] at n4
  refine xa_ge1 (fun lv h0 => ?_)
  simp (disch := omega) only [↓ra_115_0, ↓ra_115_1, ↓ra_115_4, ↓ra_115_6, xa_kli, xa_klr, xa_kll, xa_ki, xa_kl, xa_kr, xa_kii, xa_kk, xa_kir, xa_krr, xa_kiir, xa_krir, xa_kdup, xa_kdup2, xa_kcp, xa_gf, xa_pf, xa_ga, xa_pa, xa_gq, xa_pq, xa_gl, xa_args, xa_ri, xa_rz, xa_rv, xa_s1, xa_s2, xa_c1, eq_self, List.getElem?_cons_succ, List.getElem?_cons_zero, true_and, and_true, nI_add, pk_mul, xt_in, xt_cl, xt_i0, xt_i1, xa_kc, xa_w8, xa_fit, lg_sl, List.flatMap_cons, List.flatMap_nil, List.map_cons, List.map_nil, List.sum_cons, List.sum_nil, Value.category, List.length_cons, List.length_nil, List.length_append, xa_rc, xa_rf, exists_eq_left, exists_eq', Option.some.injEq, Sum.inr.injEq, Prod.mk.injEq, Option.toList_some, Option.toList_none, List.cons_append, List.nil_append, Nat.reduceAdd, Nat.reduceLeDiff, Nat.reduceLT, List.set_cons_zero, List.set_cons_succ, eq_self, or_true, true_or, reduceIte, xt_ne, h0, m0, xa_iff cE1, mx_114, xt_o4 R.1 lt]
  by_cases cr : R.1 = none
  · simp only [if_pos cr]
    have hR := hR cr
    have w3 := hR.1.2.2.2.1
    simp (disch := omega) only [↓ra_115_9, ↓ra_115_10, ↓ra_115_13, ↓ra_115_14, ↓ra_115_15, xa_kli, xa_klr, xa_kll, xa_ki, xa_kl, xa_kr, xa_kii, xa_kk, xa_kir, xa_krr, xa_kiir, xa_krir, xa_kdup, xa_kdup2, xa_kcp, xa_gf, xa_pf, xa_ga, xa_pa, xa_gq, xa_pq, xa_gl, xa_args, xa_ri, xa_rz, xa_rv, xa_s1, xa_s2, xa_c1, eq_self, List.getElem?_cons_succ, List.getElem?_cons_zero, true_and, and_true, nI_add, pk_mul, xt_in, xt_cl, xt_i0, xt_i1, xa_kc, xa_w8, xa_fit, lg_sl, List.flatMap_cons, List.flatMap_nil, List.map_cons, List.map_nil, List.sum_cons, List.sum_nil, Value.category, List.length_cons, List.length_nil, List.length_append, xa_rc, xa_rf, exists_eq_left, exists_eq', Option.some.injEq, Sum.inr.injEq, Prod.mk.injEq, Option.toList_some, Option.toList_none, List.cons_append, List.nil_append, Nat.reduceAdd, Nat.reduceLeDiff, Nat.reduceLT, List.set_cons_zero, List.set_cons_succ, eq_self, or_true, true_or, reduceIte, xt_ne, h0, n0, n4, w3, xt_eq]
    by_cases cs : xnS R.2 = 0
    · simp only [if_pos cs]
      simp (disch := omega) only [↓ra_115_18, ↓ra_115_20, xa_kli, xa_klr, xa_kll, xa_ki, xa_kl, xa_kr, xa_kii, xa_kk, xa_kir, xa_krr, xa_kiir, xa_krir, xa_kdup, xa_kdup2, xa_kcp, xa_gf, xa_pf, xa_ga, xa_pa, xa_gq, xa_pq, xa_gl, xa_args, xa_ri, xa_rz, xa_rv, xa_s1, xa_s2, xa_c1, eq_self, List.getElem?_cons_succ, List.getElem?_cons_zero, true_and, and_true, nI_add, pk_mul, xt_in, xt_cl, xt_i0, xt_i1, xa_kc, xa_w8, xa_fit, lg_sl, List.flatMap_cons, List.flatMap_nil, List.map_cons, List.map_nil, List.sum_cons, List.sum_nil, Value.category, List.length_cons, List.length_nil, List.length_append, xa_rc, xa_rf, exists_eq_left, exists_eq', Option.some.injEq, Sum.inr.injEq, Prod.mk.injEq, Option.toList_some, Option.toList_none, List.cons_append, List.nil_append, Nat.reduceAdd, Nat.reduceLeDiff, Nat.reduceLT, List.set_cons_zero, List.set_cons_succ, eq_self, or_true, true_or, reduceIte, xt_ne]
      rw [if_neg (fun h => h.2 cs)]
      exact xm2_n hn1 hw1
    · simp only [if_neg cs]
      rw [if_pos ⟨cr, cs⟩]
      have loop : ∀ (k i : Nat) (lv : xa_L) (M2 : xa_M) (h1 : Nat → Int32), lv 0 = some (.ref c) → lv 1 = some (.int (nI i)) → i + k = 51 → xn c M r1 (xb_u (xb_u g 4 h4) 1 h1) M2 → (∀ j, j < i → h1 j = h4 j) → ∃ y0, xa_E 115 23 lv [] M2 y0 ∧ xm2 c M (nI (xnS R.2)) (R.2, xq_b R.2, yX A, (0, (yU A).2), (0, (yK A).2), (0, (yG A).2)) y0 := by
        intro k
        induction k with
        | zero =>
          intro i lv M2 h1 h0 h1l e hn2 hc
          have e : i = 51 := by omega
          subst e
          obtain ⟨k0, -⟩ := id hn2.2
          unfold xb_c at k0
          obtain ⟨⟨z3, M3⟩, cE3, c3, h3', hn3, q0, qs, qm⟩ := pd_firstDay hn2.2
          have c3 : z3 = none := c3
          subst c3
          dsimp only at hn3
          have hR1 : xv_R h1 R.2 := xv_R_cg hR hc d6 t5 d8
          have w1 := hR1.1.2.2.2.1
          obtain ⟨j0, j1, -⟩ := id hn3.2
          unfold xb_c at j0
          have j1 : M3.1 (c + 1) = some (.inl (0, 51, .inl h1)) := j1
          have hnf := xn_f (r2 := upd (upd (upd r1 18 (nI 0)) 14 (nI 0)) 20 (nI 0)) (xn_f (r2 := upd (upd r1 18 (nI 0)) 14 (nI 0)) (xn_f (r2 := upd r1 18 (nI 0)) (xn_t hn2 hn3)))
          simp (disch := omega) only [↓ra_115_23, ↓ra_115_24, ↓ra_115_26, ↓ra_115_47, ↓ra_115_48, ↓ra_115_51, ↓ra_115_52, ↓ra_115_53, ↓ra_115_56, ↓ra_115_57, ↓ra_115_58, ↓ra_115_61, ↓ra_115_62, ↓ra_115_63, ↓ra_115_66, ↓ra_115_67, ↓ra_115_70, ↓ra_115_71, ↓ra_115_72, xa_kli, xa_klr, xa_kll, xa_ki, xa_kl, xa_kr, xa_kii, xa_kk, xa_kir, xa_krr, xa_kiir, xa_krir, xa_kdup, xa_kdup2, xa_kcp, xa_gf, xa_pf, xa_ga, xa_pa, xa_gq, xa_pq, xa_gl, xa_args, xa_ri, xa_rz, xa_rv, xa_s1, xa_s2, xa_c1, eq_self, List.getElem?_cons_succ, List.getElem?_cons_zero, true_and, and_true, nI_add, pk_mul, xt_in, xt_cl, xt_i0, xt_i1, xa_kc, xa_w8, xa_fit, lg_sl, List.flatMap_cons, List.flatMap_nil, List.map_cons, List.map_nil, List.sum_cons, List.sum_nil, Value.category, List.length_cons, List.length_nil, List.length_append, xa_rc, xa_rf, exists_eq_left, exists_eq', Option.some.injEq, Sum.inr.injEq, Prod.mk.injEq, Option.toList_some, Option.toList_none, List.cons_append, List.nil_append, Nat.reduceAdd, Nat.reduceLeDiff, Nat.reduceLT, List.set_cons_zero, List.set_cons_succ, eq_self, or_true, true_or, reduceIte, xt_ne, h0, h1l, k0, xa_iff cE3, mx_95, j0, j1, w1, xt_st, xt_le, Nat.le_refl]
          have e2 : r1 2 = nI 0 := (er 2 (by omega) (by omega) (by omega)).trans ra2
          have e3 : r1 3 = Int32.ofInt (-4) := (er 3 (by omega) (by omega) (by omega)).trans ra3
          have e5 : r1 5 = Int32.ofInt (-4) := (er 5 (by omega) (by omega) (by omega)).trans ra5
          have e6 : r1 6 = nI 0 := (er 6 (by omega) (by omega) (by omega)).trans ra6
          have hV1 : xv_T r1 h1 R.2 (xnM R.2) := xv_R_T hR1 d6 t5 e2 e3 e5
          refine xm2_n hnf ⟨⟨e2, e3, e5, e6⟩, xv_R_T hR1 d6 t5 e2 e3 e5, xv_first hV1 d6 q0 qs qm, ⟨(er 8 (by omega) (by omega) (by omega)).trans hx1, hx2⟩, ⟨rfl, fun i hi => absurd hi (Nat.not_lt_zero i)⟩, ⟨rfl, fun i hi => absurd hi (Nat.not_lt_zero i)⟩, ⟨rfl, fun i hi => absurd hi (Nat.not_lt_zero i)⟩⟩
        | succ k ih =>
          intro i lv M2 h1 h0 h1l e hn2 hc
          obtain ⟨k0, k1, k2, k3, k4, -⟩ := id hn2.2
          unfold xb_c at k0
          rw [xb_ue] at k1
          have k4 : M2.1 (c + 4) = some (.inl (0, 51, .inl h4)) := k4
          simp (disch := omega) only [↓ra_115_23, ↓ra_115_24, ↓ra_115_26, xa_kli, xa_klr, xa_kll, xa_ki, xa_kl, xa_kr, xa_kii, xa_kk, xa_kir, xa_krr, xa_kiir, xa_krir, xa_kdup, xa_kdup2, xa_kcp, xa_gf, xa_pf, xa_ga, xa_pa, xa_gq, xa_pq, xa_gl, xa_args, xa_ri, xa_rz, xa_rv, xa_s1, xa_s2, xa_c1, eq_self, List.getElem?_cons_succ, List.getElem?_cons_zero, true_and, and_true, nI_add, pk_mul, xt_in, xt_cl, xt_i0, xt_i1, xa_kc, xa_w8, xa_fit, lg_sl, List.flatMap_cons, List.flatMap_nil, List.map_cons, List.map_nil, List.sum_cons, List.sum_nil, Value.category, List.length_cons, List.length_nil, List.length_append, xa_rc, xa_rf, exists_eq_left, exists_eq', Option.some.injEq, Sum.inr.injEq, Prod.mk.injEq, Option.toList_some, Option.toList_none, List.cons_append, List.nil_append, Nat.reduceAdd, Nat.reduceLeDiff, Nat.reduceLT, List.set_cons_zero, List.set_cons_succ, eq_self, or_true, true_or, reduceIte, xt_ne, h0, h1l, xt_le]
          simp only [if_neg (show ¬ 51 ≤ i by omega)]
          simp (disch := omega) only [↓ra_115_29, ↓ra_115_30, ↓ra_115_33, ↓ra_115_34, ↓ra_115_35, ↓ra_115_38, ↓ra_115_39, ↓ra_115_40, ↓ra_115_41, ↓ra_115_44, xa_kli, xa_klr, xa_kll, xa_ki, xa_kl, xa_kr, xa_kii, xa_kk, xa_kir, xa_krr, xa_kiir, xa_krir, xa_kdup, xa_kdup2, xa_kcp, xa_gf, xa_pf, xa_ga, xa_pa, xa_gq, xa_pq, xa_gl, xa_args, xa_ri, xa_rz, xa_rv, xa_s1, xa_s2, xa_c1, eq_self, List.getElem?_cons_succ, List.getElem?_cons_zero, true_and, and_true, nI_add, pk_mul, xt_in, xt_cl, xt_i0, xt_i1, xa_kc, xa_w8, xa_fit, lg_sl, List.flatMap_cons, List.flatMap_nil, List.map_cons, List.map_nil, List.sum_cons, List.sum_nil, Value.category, List.length_cons, List.length_nil, List.length_append, xa_rc, xa_rf, exists_eq_left, exists_eq', Option.some.injEq, Sum.inr.injEq, Prod.mk.injEq, Option.toList_some, Option.toList_none, List.cons_append, List.nil_append, Nat.reduceAdd, Nat.reduceLeDiff, Nat.reduceLT, List.set_cons_zero, List.set_cons_succ, eq_self, or_true, true_or, reduceIte, xt_ne, h0, h1l, k0, k1, k4]
          refine ih (i + 1) _ _ (upd h1 i (h4 i)) (by simp [xa_s1, xa_c1, h0]) (by simp [xa_s1, xa_c1]) (by omega) (xn_s1' _ hn2) (fun j hj => ?_)
          rw [xt_us]
          by_cases ej : j = i
          · rw [if_pos ej, ej]
          · rw [if_neg ej]; exact hc j (by omega)
      simp (disch := omega) only [↓ra_115_21, ↓ra_115_22, xa_kli, xa_klr, xa_kll, xa_ki, xa_kl, xa_kr, xa_kii, xa_kk, xa_kir, xa_krr, xa_kiir, xa_krir, xa_kdup, xa_kdup2, xa_kcp, xa_gf, xa_pf, xa_ga, xa_pa, xa_gq, xa_pq, xa_gl, xa_args, xa_ri, xa_rz, xa_rv, xa_s1, xa_s2, xa_c1, eq_self, List.getElem?_cons_succ, List.getElem?_cons_zero, true_and, and_true, nI_add, pk_mul, xt_in, xt_cl, xt_i0, xt_i1, xa_kc, xa_w8, xa_fit, lg_sl, List.flatMap_cons, List.flatMap_nil, List.map_cons, List.map_nil, List.sum_cons, List.sum_nil, Value.category, List.length_cons, List.length_nil, List.length_append, xa_rc, xa_rf, exists_eq_left, exists_eq', Option.some.injEq, Sum.inr.injEq, Prod.mk.injEq, Option.toList_some, Option.toList_none, List.cons_append, List.nil_append, Nat.reduceAdd, Nat.reduceLeDiff, Nat.reduceLT, List.set_cons_zero, List.set_cons_succ, eq_self, or_true, true_or, reduceIte, xt_ne]
      exact loop 51 0 _ M1 (g 1) (by simp [xa_s1, xa_c1, h0]) (by simp [xa_s1, xa_c1]) (by omega) (by have := hn1; rw [← xb_ui (xb_u g 4 h4) 1] at this; exact this) (fun j hj => absurd hj (Nat.not_lt_zero j))
  · simp only [if_neg cr]
    simp (disch := omega) only [↓ra_115_18, ↓ra_115_20, xa_kli, xa_klr, xa_kll, xa_ki, xa_kl, xa_kr, xa_kii, xa_kk, xa_kir, xa_krr, xa_kiir, xa_krir, xa_kdup, xa_kdup2, xa_kcp, xa_gf, xa_pf, xa_ga, xa_pa, xa_gq, xa_pq, xa_gl, xa_args, xa_ri, xa_rz, xa_rv, xa_s1, xa_s2, xa_c1, eq_self, List.getElem?_cons_succ, List.getElem?_cons_zero, true_and, and_true, nI_add, pk_mul, xt_in, xt_cl, xt_i0, xt_i1, xa_kc, xa_w8, xa_fit, lg_sl, List.flatMap_cons, List.flatMap_nil, List.map_cons, List.map_nil, List.sum_cons, List.sum_nil, Value.category, List.length_cons, List.length_nil, List.length_append, xa_rc, xa_rf, exists_eq_left, exists_eq', Option.some.injEq, Sum.inr.injEq, Prod.mk.injEq, Option.toList_some, Option.toList_none, List.cons_append, List.nil_append, Nat.reduceAdd, Nat.reduceLeDiff, Nat.reduceLT, List.set_cons_zero, List.set_cons_succ, eq_self, or_true, true_or, reduceIte, xt_ne]
    rw [if_neg (fun h => cr h.1)]
    exact xm2_n hn1 hw1
