/-- a set below n as bits -/
def xt_bs (p : Nat → Bool) : Nat → Nat
  | 0 => 0
  | n + 1 => if p n = true then xt_bs p n ||| 2 ^ n else xt_bs p n
theorem xt_bs_lt (p : Nat → Bool) : ∀ n, xt_bs p n < 2 ^ n
  | 0 => Nat.one_pos
  | n + 1 => by
    have ih := xt_bs_lt p n
    unfold xt_bs
    have h2 : (2 : Nat) ^ n < 2 ^ (n + 1) := Nat.pow_lt_pow_right (by decide) (by omega)
    split
    · exact Nat.or_lt_two_pow (by omega) h2
    · omega
theorem xt_bs_bit (p : Nat → Bool) : ∀ n j, (xt_bs p n).testBit j = (decide (j < n) && p j)
  | 0, j => by simp [xt_bs]
  | n + 1, j => by
    have ih := xt_bs_bit p n j
    unfold xt_bs
    by_cases c : p n = true
    · rw [if_pos c, Nat.testBit_or, ih, Nat.testBit_two_pow]
      by_cases e : j = n
      · subst e; simp [c]
      · have : ¬ n = j := fun h => e h.symm
        by_cases h : j < n
        · simp [h, this, show j < n + 1 by omega]
        · simp [h, this, show ¬ j < n + 1 by omega]
    · rw [if_neg c, ih]
      by_cases e : j = n
      · subst e; simp [c]
      · by_cases h : j < n
        · simp [h, show j < n + 1 by omega]
        · simp [h, show ¬ j < n + 1 by omega]
theorem xt_bs_64 (p : Nat → Bool) (n : Nat) (h : n ≤ 6) : xt_bs p n < 64 := Nat.lt_of_lt_of_le (xt_bs_lt p n) (Nat.pow_le_pow_right (n := 2) (by decide) h)
theorem pc_bitsFound {M : xa_M} {w k t nS : Nat} {S : xt_S} {T : xt_T} (hS : xh_S M k nS (xnM T) S) (hT : xh_T M t T) (iT : xi_T T) (iP : xi_P T (xsp S)) (s : Nat) (hs : s < xnS T) :
    xa_E 45 0 (xa_ent [.ref w, .ref t, .ref k, .int (nI s)]) [] M (some (.int (nI (xt_bs (fun q => xq_f T (xsp S) (xtl T s) s q) (xC T)))), M) := by
  obtain ⟨⟨b1, b2, b3, b4, b5, b6, b7, b8⟩, bs, bm, bw⟩ := id iT
  have cf := fun (q : Nat) (hq : q < xC T) => xa_iff (pc_isFoundIn hS hT iT iP s q hs hq)
  have t0 := hT.1
  have s0 := hS.1
  refine xa_go4 (fun lv h0 h1 h2 h3 => ?_)
  have loop : ∀ (n i : Nat) (lv : xa_L), lv 1 = some (.ref t) → lv 2 = some (.ref k) → lv 3 = some (.int (nI s)) → lv 4 = some (.int (nI (xt_bs (fun q => xq_f T (xsp S) (xtl T s) s q) i))) → lv 5 = some (.int (nI i)) → i + n = xC T → xa_E 45 6 lv [] M (some (.int (nI (xt_bs (fun q => xq_f T (xsp S) (xtl T s) s q) (xC T)))), M) := by
    intro n
    induction n with
    | zero =>
      intro i lv h1 h2 h3 h4 h5 e
      have e : i = xC T := by omega
      subst e
      simp (disch := omega) only [↓ra_45_6, ↓ra_45_8, ↓ra_45_9, ↓ra_45_12, ↓ra_45_41, ↓ra_45_43, xa_kli, xa_klr, xa_kll, xa_ki, xa_kl, xa_kr, xa_kii, xa_kk, xa_kir, xa_krr, xa_kiir, xa_krir, xa_kdup, xa_kdup2, xa_kcp, xa_gf, xa_pf, xa_ga, xa_pa, xa_gq, xa_pq, xa_gl, xa_args, xa_ri, xa_rz, xa_rv, xa_s1, xa_s2, xa_c1, eq_self, List.getElem?_cons_succ, List.getElem?_cons_zero, true_and, and_true, nI_add, pk_mul, xt_in, xt_cl, xt_i0, xt_i1, h1, h2, h3, h4, h5, t0, xt_le, Nat.le_refl, if_true]
    | succ n ih =>
      intro i lv h1 h2 h3 h4 h5 e
      have cfi := cf i (by omega)
      have nxt : ∀ lv' : xa_L, lv' 1 = some (.ref t) → lv' 2 = some (.ref k) → lv' 3 = some (.int (nI s)) → lv' 4 = some (.int (nI (xt_bs (fun q => xq_f T (xsp S) (xtl T s) s q) (i + 1)))) → lv' 5 = some (.int (nI i)) → xa_E 45 35 lv' [] M (some (.int (nI (xt_bs (fun q => xq_f T (xsp S) (xtl T s) s q) (xC T)))), M) := by
        intro lv' g1 g2 g3 g4 g5
        simp (disch := omega) only [↓ra_45_35, ↓ra_45_38, xa_kli, xa_klr, xa_kll, xa_ki, xa_kl, xa_kr, xa_kii, xa_kk, xa_kir, xa_krr, xa_kiir, xa_krir, xa_kdup, xa_kdup2, xa_kcp, xa_gf, xa_pf, xa_ga, xa_pa, xa_gq, xa_pq, xa_gl, xa_args, xa_ri, xa_rz, xa_rv, xa_s1, xa_s2, xa_c1, eq_self, List.getElem?_cons_succ, List.getElem?_cons_zero, true_and, and_true, nI_add, pk_mul, xt_in, xt_cl, xt_i0, xt_i1, g5]
        exact ih (i + 1) _ (by simp [xa_s1, xa_c1, g1]) (by simp [xa_s1, xa_c1, g2]) (by simp [xa_s1, xa_c1, g3]) (by simp [xa_s1, xa_c1, g4]) (by simp [xa_s1, xa_c1, nI_add]) (by omega)
      simp (disch := omega) only [↓ra_45_6, ↓ra_45_8, ↓ra_45_9, ↓ra_45_12, xa_kli, xa_klr, xa_kll, xa_ki, xa_kl, xa_kr, xa_kii, xa_kk, xa_kir, xa_krr, xa_kiir, xa_krir, xa_kdup, xa_kdup2, xa_kcp, xa_gf, xa_pf, xa_ga, xa_pa, xa_gq, xa_pq, xa_gl, xa_args, xa_ri, xa_rz, xa_rv, xa_s1, xa_s2, xa_c1, eq_self, List.getElem?_cons_succ, List.getElem?_cons_zero, true_and, and_true, nI_add, pk_mul, xt_in, xt_cl, xt_i0, xt_i1, h1, h2, h3, h4, h5, t0, xt_le]
      rw [if_neg (by omega)]
      simp (disch := omega) only [↓ra_45_15, ↓ra_45_16, ↓ra_45_17, ↓ra_45_18, ↓ra_45_20, ↓ra_45_23, xa_kli, xa_klr, xa_kll, xa_ki, xa_kl, xa_kr, xa_kii, xa_kk, xa_kir, xa_krr, xa_kiir, xa_krir, xa_kdup, xa_kdup2, xa_kcp, xa_gf, xa_pf, xa_ga, xa_pa, xa_gq, xa_pq, xa_gl, xa_args, xa_ri, xa_rz, xa_rv, xa_s1, xa_s2, xa_c1, eq_self, List.getElem?_cons_succ, List.getElem?_cons_zero, true_and, and_true, nI_add, pk_mul, xt_in, xt_cl, xt_i0, xt_i1, xa_kc, xa_w8, xa_fit, lg_sl, List.flatMap_cons, List.flatMap_nil, List.map_cons, List.map_nil, List.sum_cons, List.sum_nil, Value.category, List.length_cons, List.length_nil, List.length_append, xa_rc, xa_rf, exists_eq_left, exists_eq', Option.some.injEq, Sum.inr.injEq, Prod.mk.injEq, Option.toList_some, Option.toList_none, List.cons_append, List.nil_append, Nat.reduceAdd, Nat.reduceLeDiff, Nat.reduceLT, List.set_cons_zero, List.set_cons_succ, eq_self, or_true, true_or, reduceIte, xt_ne, h1, h2, h3, h4, h5, t0, s0, cfi, mx_16, xt_b0]
      by_cases c : xq_f T (xsp S) (xtl T s) s i = true
      · rw [if_neg (not_not_intro c)]
        have eb := xt_bit i (by omega)
        simp (disch := omega) only [↓ra_45_26, ↓ra_45_28, ↓ra_45_29, ↓ra_45_31, ↓ra_45_32, ↓ra_45_33, xa_kli, xa_klr, xa_kll, xa_ki, xa_kl, xa_kr, xa_kii, xa_kk, xa_kir, xa_krr, xa_kiir, xa_krir, xa_kdup, xa_kdup2, xa_kcp, xa_gf, xa_pf, xa_ga, xa_pa, xa_gq, xa_pq, xa_gl, xa_args, xa_ri, xa_rz, xa_rv, xa_s1, xa_s2, xa_c1, eq_self, List.getElem?_cons_succ, List.getElem?_cons_zero, true_and, and_true, nI_add, pk_mul, xt_in, xt_cl, xt_i0, xt_i1, xa_kc, xa_w8, xa_fit, lg_sl, List.flatMap_cons, List.flatMap_nil, List.map_cons, List.map_nil, List.sum_cons, List.sum_nil, Value.category, List.length_cons, List.length_nil, List.length_append, xa_rc, xa_rf, exists_eq_left, exists_eq', Option.some.injEq, Sum.inr.injEq, Prod.mk.injEq, Option.toList_some, Option.toList_none, List.cons_append, List.nil_append, Nat.reduceAdd, Nat.reduceLeDiff, Nat.reduceLT, List.set_cons_zero, List.set_cons_succ, eq_self, or_true, true_or, reduceIte, xt_ne, h1, h2, h3, h4, h5]
        refine nxt _ (by simp [xa_s1, xa_c1, h1]) (by simp [xa_s1, xa_c1, h2]) (by simp [xa_s1, xa_c1, h3]) ?_ (by simp [xa_s1, xa_c1, h5])
        simp only [eb, xt_or, xa_s1, xa_c1, if_true, xt_bs, c]
      · rw [if_pos c]
        exact nxt lv h1 h2 h3 (by rw [h4]; simp only [xt_bs, c]; simp) h5
  simp (disch := omega) only [↓ra_45_0, ↓ra_45_1, ↓ra_45_3, ↓ra_45_4, xa_kli, xa_klr, xa_kll, xa_ki, xa_kl, xa_kr, xa_kii, xa_kk, xa_kir, xa_krr, xa_kiir, xa_krir, xa_kdup, xa_kdup2, xa_kcp, xa_gf, xa_pf, xa_ga, xa_pa, xa_gq, xa_pq, xa_gl, xa_args, xa_ri, xa_rz, xa_rv, xa_s1, xa_s2, xa_c1, eq_self, List.getElem?_cons_succ, List.getElem?_cons_zero, true_and, and_true, nI_add, pk_mul, xt_in, xt_cl, xt_i0, xt_i1]
  exact loop (xC T) 0 _ (by simp [xa_s1, xa_c1, h1]) (by simp [xa_s1, xa_c1, h2]) (by simp [xa_s1, xa_c1, h3]) (by simp [xa_s1, xa_c1, xt_bs]) (by simp [xa_s1, xa_c1]) (by omega)
/-- from where one of these is at most one away -/
def xq_reach (C : Nat) (p : Nat → Bool) (q : Nat) : Bool := (xt_lo (fun r => p r && xq_near C q r) C).isSome
theorem pc_bitsReaching {M : xa_M} {w t : Nat} {T : xt_T} {fs : List Value} (hw : M.1 w = some (.inr (5, fs))) (hT : xh_T M t T) (hC : 2 ≤ xC T) (hC6 : xC T ≤ 6) (b : Nat) (hb : b < 64) :
    xa_E 46 0 (xa_ent [.ref w, .ref t, .int (nI b)]) [] M (some (.int (nI (xt_bs (xq_reach (xC T) b.testBit) (xC T)))), M) := by
  have cf := fun (q : Nat) (hq : q < 6) => xa_iff (pc_lowestNear (w := w) hT hC hC6 q b hq hb)
  have t0 := hT.1
  refine xa_go3 (fun lv h0 h1 h2 => ?_)
  have loop : ∀ (n i : Nat) (lv : xa_L), lv 0 = some (.ref w) → lv 1 = some (.ref t) → lv 2 = some (.int (nI b)) → lv 3 = some (.int (nI (xt_bs (xq_reach (xC T) b.testBit) i))) → lv 4 = some (.int (nI i)) → i + n = xC T → xa_E 46 5 lv [] M (some (.int (nI (xt_bs (xq_reach (xC T) b.testBit) (xC T)))), M) := by
    intro n
    induction n with
    | zero =>
      intro i lv h0 h1 h2 h3 h4 e
      have e : i = xC T := by omega
      subst e
      simp (disch := omega) only [↓ra_46_5, ↓ra_46_7, ↓ra_46_8, ↓ra_46_11, ↓ra_46_40, ↓ra_46_41, xa_kli, xa_klr, xa_kll, xa_ki, xa_kl, xa_kr, xa_kii, xa_kk, xa_kir, xa_krr, xa_kiir, xa_krir, xa_kdup, xa_kdup2, xa_kcp, xa_gf, xa_pf, xa_ga, xa_pa, xa_gq, xa_pq, xa_gl, xa_args, xa_ri, xa_rz, xa_rv, xa_s1, xa_s2, xa_c1, eq_self, List.getElem?_cons_succ, List.getElem?_cons_zero, true_and, and_true, nI_add, pk_mul, xt_in, xt_cl, xt_i0, xt_i1, h1, h2, h3, h4, t0, xt_le, Nat.le_refl, if_true]
    | succ n ih =>
      intro i lv h0 h1 h2 h3 h4 e
      have cfi := cf i (by omega)
      have nxt : ∀ lv' : xa_L, lv' 0 = some (.ref w) → lv' 1 = some (.ref t) → lv' 2 = some (.int (nI b)) → lv' 3 = some (.int (nI (xt_bs (xq_reach (xC T) b.testBit) (i + 1)))) → lv' 4 = some (.int (nI i)) → xa_E 46 34 lv' [] M (some (.int (nI (xt_bs (xq_reach (xC T) b.testBit) (xC T)))), M) := by
        intro lv' g0 g1 g2 g3 g4
        simp (disch := omega) only [↓ra_46_34, ↓ra_46_37, xa_kli, xa_klr, xa_kll, xa_ki, xa_kl, xa_kr, xa_kii, xa_kk, xa_kir, xa_krr, xa_kiir, xa_krir, xa_kdup, xa_kdup2, xa_kcp, xa_gf, xa_pf, xa_ga, xa_pa, xa_gq, xa_pq, xa_gl, xa_args, xa_ri, xa_rz, xa_rv, xa_s1, xa_s2, xa_c1, eq_self, List.getElem?_cons_succ, List.getElem?_cons_zero, true_and, and_true, nI_add, pk_mul, xt_in, xt_cl, xt_i0, xt_i1, g4]
        exact ih (i + 1) _ (by simp [xa_s1, xa_c1, g0]) (by simp [xa_s1, xa_c1, g1]) (by simp [xa_s1, xa_c1, g2]) (by simp [xa_s1, xa_c1, g3]) (by simp [xa_s1, xa_c1, nI_add]) (by omega)
      have lb : ∀ n, xt_lo (fun r => b.testBit r && xq_near (xC T) i r) (xC T) = some n → n < 2147483648 := fun n h => by have := (xt_lo_some _ h).1; omega
      simp (disch := omega) only [↓ra_46_5, ↓ra_46_7, ↓ra_46_8, ↓ra_46_11, xa_kli, xa_klr, xa_kll, xa_ki, xa_kl, xa_kr, xa_kii, xa_kk, xa_kir, xa_krr, xa_kiir, xa_krir, xa_kdup, xa_kdup2, xa_kcp, xa_gf, xa_pf, xa_ga, xa_pa, xa_gq, xa_pq, xa_gl, xa_args, xa_ri, xa_rz, xa_rv, xa_s1, xa_s2, xa_c1, eq_self, List.getElem?_cons_succ, List.getElem?_cons_zero, true_and, and_true, nI_add, pk_mul, xt_in, xt_cl, xt_i0, xt_i1, h1, h2, h3, h4, t0, xt_le]
      rw [if_neg (by omega)]
      simp (disch := omega) only [↓ra_46_14, ↓ra_46_15, ↓ra_46_16, ↓ra_46_18, ↓ra_46_19, ↓ra_46_22, ↓ra_46_24, xa_kli, xa_klr, xa_kll, xa_ki, xa_kl, xa_kr, xa_kii, xa_kk, xa_kir, xa_krr, xa_kiir, xa_krir, xa_kdup, xa_kdup2, xa_kcp, xa_gf, xa_pf, xa_ga, xa_pa, xa_gq, xa_pq, xa_gl, xa_args, xa_ri, xa_rz, xa_rv, xa_s1, xa_s2, xa_c1, eq_self, List.getElem?_cons_succ, List.getElem?_cons_zero, true_and, and_true, nI_add, pk_mul, xt_in, xt_cl, xt_i0, xt_i1, xa_kc, xa_w8, xa_fit, lg_sl, List.flatMap_cons, List.flatMap_nil, List.map_cons, List.map_nil, List.sum_cons, List.sum_nil, Value.category, List.length_cons, List.length_nil, List.length_append, xa_rc, xa_rf, exists_eq_left, exists_eq', Option.some.injEq, Sum.inr.injEq, Prod.mk.injEq, Option.toList_some, Option.toList_none, List.cons_append, List.nil_append, Nat.reduceAdd, Nat.reduceLeDiff, Nat.reduceLT, List.set_cons_zero, List.set_cons_succ, eq_self, or_true, true_or, reduceIte, xt_ne, h0, h1, h2, h3, h4, t0, hw, cfi, mx_47, xt_o4 _ lb]
      by_cases c : xt_lo (fun r => b.testBit r && xq_near (xC T) i r) (xC T) = none
      · rw [if_pos c]
        have hr : ¬ xq_reach (xC T) b.testBit i = true := by unfold xq_reach; rw [c]; decide
        exact nxt lv h0 h1 h2 (by rw [h3]; simp only [xt_bs, hr]; simp) h4
      · rw [if_neg c]
        have hr : xq_reach (xC T) b.testBit i = true := by
          unfold xq_reach
          cases e : xt_lo (fun r => b.testBit r && xq_near (xC T) i r) (xC T) with
          | none => exact absurd e c
          | some _ => rfl
        have eb := xt_bit i (by omega)
        simp (disch := omega) only [↓ra_46_27, ↓ra_46_28, ↓ra_46_29, ↓ra_46_31, ↓ra_46_32, ↓ra_46_33, xa_kli, xa_klr, xa_kll, xa_ki, xa_kl, xa_kr, xa_kii, xa_kk, xa_kir, xa_krr, xa_kiir, xa_krir, xa_kdup, xa_kdup2, xa_kcp, xa_gf, xa_pf, xa_ga, xa_pa, xa_gq, xa_pq, xa_gl, xa_args, xa_ri, xa_rz, xa_rv, xa_s1, xa_s2, xa_c1, eq_self, List.getElem?_cons_succ, List.getElem?_cons_zero, true_and, and_true, nI_add, pk_mul, xt_in, xt_cl, xt_i0, xt_i1, xa_kc, xa_w8, xa_fit, lg_sl, List.flatMap_cons, List.flatMap_nil, List.map_cons, List.map_nil, List.sum_cons, List.sum_nil, Value.category, List.length_cons, List.length_nil, List.length_append, xa_rc, xa_rf, exists_eq_left, exists_eq', Option.some.injEq, Sum.inr.injEq, Prod.mk.injEq, Option.toList_some, Option.toList_none, List.cons_append, List.nil_append, Nat.reduceAdd, Nat.reduceLeDiff, Nat.reduceLT, List.set_cons_zero, List.set_cons_succ, eq_self, or_true, true_or, reduceIte, xt_ne, h1, h2, h3, h4]
        refine nxt _ (by simp [xa_s1, xa_c1, h0]) (by simp [xa_s1, xa_c1, h1]) (by simp [xa_s1, xa_c1, h2]) ?_ (by simp [xa_s1, xa_c1, h4])
        simp only [eb, xt_or, xa_s1, xa_c1, if_true, xt_bs, hr]
  simp (disch := omega) only [↓ra_46_0, ↓ra_46_1, ↓ra_46_2, ↓ra_46_3, xa_kli, xa_klr, xa_kll, xa_ki, xa_kl, xa_kr, xa_kii, xa_kk, xa_kir, xa_krr, xa_kiir, xa_krir, xa_kdup, xa_kdup2, xa_kcp, xa_gf, xa_pf, xa_ga, xa_pa, xa_gq, xa_pq, xa_gl, xa_args, xa_ri, xa_rz, xa_rv, xa_s1, xa_s2, xa_c1, eq_self, List.getElem?_cons_succ, List.getElem?_cons_zero, true_and, and_true, nI_add, pk_mul, xt_in, xt_cl, xt_i0, xt_i1]
  exact loop (xC T) 0 _ (by simp [xa_s1, xa_c1, h0]) (by simp [xa_s1, xa_c1, h1]) (by simp [xa_s1, xa_c1, h2]) (by simp [xa_s1, xa_c1, xt_bs]) (by simp [xa_s1, xa_c1]) (by omega)
