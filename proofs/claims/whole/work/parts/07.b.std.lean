/-- the men go on -/
def xq_pm (T : xt_T) (P : Nat → Nat) : Nat → Nat := fun m => (P m + xts T m) % xC T
theorem pc_menGoOn {M : xa_M} {k t nS : Nat} {S : xt_S} {T : xt_T} (hS : xh_S M k nS (xnM T) S) (hT : xh_T M t T) (ht : t + 9 ≤ k ∨ k + 6 ≤ t) (iT : xi_T T) (iP : xi_P T (xsp S)) :
    ∃ z, xa_E 19 0 (xa_ent [.ref k, .ref t]) [] M z ∧ z.1 = none ∧ xa_fr k (k + 6) M z.2 ∧ xh_S z.2 k nS (xnM T) (xsd S, xsh S, xsq S, xss S, xsm S, xq_pm T (xsp S)) := by
  obtain ⟨⟨b1, b2, b3, b4, b5, b6, b7, b8⟩, bs, bm, bw⟩ := id iT
  refine xa_ge2 (fun lv h0 h1 => ?_)
  have loop : ∀ (n i : Nat) (lv : xa_L) (M1 : xa_M), lv 0 = some (.ref k) → lv 1 = some (.ref t) → lv 2 = some (.int (nI i)) → i + n = xnM T → xa_fr k (k + 6) M M1 → xh_S M1 k nS (xnM T) (xsd S, xsh S, xsq S, xss S, xsm S, fun m => if m < i then xq_pm T (xsp S) m else xsp S m) → ∃ z, xa_E 19 2 lv [] M1 z ∧ z.1 = none ∧ xa_fr k (k + 6) M z.2 ∧ xh_S z.2 k nS (xnM T) (xsd S, xsh S, xsq S, xss S, xsm S, xq_pm T (xsp S)) := by
    intro n
    induction n with
    | zero =>
      intro i lv M1 h0 h1 h2 e fr hS1
      have e : i = xnM T := by omega
      subst e
      obtain ⟨t0, -⟩ := xh_T_fr hT fr (by omega)
      simp (disch := omega) only [↓ra_19_2, ↓ra_19_3, ↓ra_19_4, ↓ra_19_7, ↓ra_19_39, xa_kli, xa_klr, xa_kll, xa_ki, xa_kl, xa_kr, xa_kii, xa_kk, xa_kir, xa_krr, xa_kiir, xa_krir, xa_kdup, xa_kdup2, xa_kcp, xa_gf, xa_pf, xa_ga, xa_pa, xa_gq, xa_pq, xa_gl, xa_args, xa_ri, xa_rz, xa_rv, xa_s1, xa_s2, xa_c1, eq_self, List.getElem?_cons_succ, List.getElem?_cons_zero, true_and, and_true, nI_add, pk_mul, xt_in, xt_cl, xt_i0, xt_i1, h0, h1, h2, t0, xt_le, Nat.le_refl, if_true, exists_eq_left]
      obtain ⟨q0, q1, q2, q3, q4, q5⟩ := hS1
      exact ⟨fr, q0, q1, q2, q3, q4, xa_ar_cg q5 (fun j hj => if_pos hj)⟩
    | succ n ih =>
      intro i lv M1 h0 h1 h2 e fr hS1
      have hT1 := xh_T_fr hT fr (by omega)
      have bmi := bm i (by omega)
      have iPi := iP i (by omega)
      have cr := fun (x : Nat) (hx : x < 2147483648) => xa_iff (pc_onRing hT1 b3 b4 x hx)
      obtain ⟨t0, -, -, -, -, -, ⟨u6, t6, f6⟩, -⟩ := hT1
      obtain ⟨q0, q1, q2, q3, q4, ⟨g5, q5, e5⟩⟩ := hS1
      have e5i : g5 i = nI (xsp S i) := by rw [e5 i (by omega)]; show nI (if i < i then _ else _) = _; rw [if_neg (by omega)]
      simp (disch := omega) only [↓ra_19_2, ↓ra_19_3, ↓ra_19_4, ↓ra_19_7, ↓ra_19_10, ↓ra_19_11, ↓ra_19_14, ↓ra_19_15, ↓ra_19_16, ↓ra_19_17, ↓ra_19_20, ↓ra_19_21, ↓ra_19_22, ↓ra_19_23, ↓ra_19_26, ↓ra_19_27, ↓ra_19_28, ↓ra_19_29, xa_kli, xa_klr, xa_kll, xa_ki, xa_kl, xa_kr, xa_kii, xa_kk, xa_kir, xa_krr, xa_kiir, xa_krir, xa_kdup, xa_kdup2, xa_kcp, xa_gf, xa_pf, xa_ga, xa_pa, xa_gq, xa_pq, xa_gl, xa_args, xa_ri, xa_rz, xa_rv, xa_s1, xa_s2, xa_c1, eq_self, List.getElem?_cons_succ, List.getElem?_cons_zero, true_and, and_true, nI_add, pk_mul, xt_in, xt_cl, xt_i0, xt_i1, xa_kc, xa_w8, xa_fit, lg_sl, List.flatMap_cons, List.flatMap_nil, List.map_cons, List.map_nil, List.sum_cons, List.sum_nil, Value.category, List.length_cons, List.length_nil, List.length_append, xa_rc, xa_rf, exists_eq_left, exists_eq', Option.some.injEq, Sum.inr.injEq, Prod.mk.injEq, Option.toList_some, Option.toList_none, List.cons_append, List.nil_append, Nat.reduceAdd, Nat.reduceLeDiff, Nat.reduceLT, List.set_cons_zero, List.set_cons_succ, eq_self, or_true, true_or, reduceIte, xt_ne, h0, h1, h2, t0, t6, f6, q0, q5, e5i, xt_le, cr, mx_40]
      simp only [if_neg (show ¬ xnM T ≤ i by omega)]
      simp (disch := omega) only [↓ra_19_32, ↓ra_19_33, ↓ra_19_36, xa_kli, xa_klr, xa_kll, xa_ki, xa_kl, xa_kr, xa_kii, xa_kk, xa_kir, xa_krr, xa_kiir, xa_krir, xa_kdup, xa_kdup2, xa_kcp, xa_gf, xa_pf, xa_ga, xa_pa, xa_gq, xa_pq, xa_gl, xa_args, xa_ri, xa_rz, xa_rv, xa_s1, xa_s2, xa_c1, eq_self, List.getElem?_cons_succ, List.getElem?_cons_zero, true_and, and_true, nI_add, pk_mul, xt_in, xt_cl, xt_i0, xt_i1, h0, h1, h2, q0, q5]
      refine ih (i + 1) _ _ (by simp [xa_s1, h0]) (by simp [xa_s1, xa_c1, h1]) (by simp [xa_s1]) (by omega) (xa_fr_tr fr (xa_fr_st (by omega) (by omega))) ⟨(xa_st_ne (by omega)).trans q0, xa_ar_ne q1 (by omega), xa_ar_ne q2 (by omega), xa_ar_ne q3 (by omega), xa_ar_ne q4 (by omega), xa_ar_up e5 ?_ (fun j hj h => ?_)⟩
      · show (if i < i + 1 then _ else _) = _
        rw [if_pos (by omega)]
        rfl
      · show (if j < i + 1 then _ else _) = (if j < i then _ else _)
        by_cases c : j < i
        · rw [if_pos c, if_pos (by omega)]
        · rw [if_neg c, if_neg (by omega)]
  simp only [↓ra_19_0, ↓ra_19_1, xa_kli, xa_klr, xa_kll, xa_ki, xa_kl, xa_kr, xa_kii, xa_kk, xa_kir, xa_krr, xa_kiir, xa_krir, xa_kdup, xa_kdup2, xa_kcp, xa_gf, xa_pf, xa_ga, xa_pa, xa_gq, xa_pq, xa_gl, xa_args, xa_ri, xa_rz, xa_rv, xa_s1, xa_s2, xa_c1, eq_self, List.getElem?_cons_succ, List.getElem?_cons_zero, true_and, and_true, nI_add, pk_mul, xt_in, xt_cl, xt_i0, xt_i1]
  refine loop (xnM T) 0 _ M (by simp [xa_s1, h0]) (by simp [xa_s1, xa_c1, h1]) (by simp [xa_s1]) (by omega) xa_fr_rf ?_
  obtain ⟨q0, q1, q2, q3, q4, q5⟩ := hS
  exact ⟨q0, q1, q2, q3, q4, xa_ar_cg q5 (fun _ _ => rfl)⟩
/-- a day goes by -/
def xq_dd (T : xt_T) (S : xt_S) (s : Nat) : Nat × Nat × Nat := xq_d T (xsp S) (xtl T s) s (xsh S s) (xsq S s) (xss S s) (xsm S s)
def xq_day (T : xt_T) (S : xt_S) : xt_S := (xsd S + 1, fun s => (xq_dd T S s).1, xsq S, fun s => (xq_dd T S s).2.1, fun s => (xq_dd T S s).2.2, xq_pm T (xsp S))
def xq_pt (T : xt_T) (S : xt_S) (i : Nat) : xt_S := (xsd S, fun s => if s < i then (xq_dd T S s).1 else xsh S s, xsq S, fun s => if s < i then (xq_dd T S s).2.1 else xss S s, fun s => if s < i then (xq_dd T S s).2.2 else xsm S s, xsp S)
theorem pc_goDay {M : xa_M} {k t : Nat} {S : xt_S} {T : xt_T} (hS : xh_S M k (xnS T) (xnM T) S) (hT : xh_T M t T) (ht : t + 9 ≤ k ∨ k + 6 ≤ t) (iT : xi_T T) (iS : xi_S T S) :
    ∃ z, xa_E 18 0 (xa_ent [.ref k, .ref t]) [] M z ∧ z.1 = none ∧ xa_fr k (k + 6) M z.2 ∧ xh_S z.2 k (xnS T) (xnM T) (xq_day T S) := by
  obtain ⟨⟨b1, b2, b3, b4, b5, b6, b7, b8⟩, bs, bm, bw⟩ := id iT
  obtain ⟨d0, ds, dp⟩ := id iS
  refine xa_ge2 (fun lv h0 h1 => ?_)
  have loop : ∀ (n i : Nat) (lv : xa_L) (M1 : xa_M), lv 0 = some (.ref k) → lv 1 = some (.ref t) → lv 2 = some (.int (nI i)) → i + n = xnS T → xa_fr k (k + 6) M M1 → xh_S M1 k (xnS T) (xnM T) (xq_pt T S i) → ∃ z, xa_E 18 2 lv [] M1 z ∧ z.1 = none ∧ xa_fr k (k + 6) M z.2 ∧ xh_S z.2 k (xnS T) (xnM T) (xq_day T S) := by
    intro n
    induction n with
    | zero =>
      intro i lv M1 h0 h1 h2 e fr hS1
      have e : i = xnS T := by omega
      subst e
      have hT1 := xh_T_fr hT fr (by omega)
      obtain ⟨⟨z1, M2⟩, cE, c1, c2, c3⟩ := pc_menGoOn hS1 hT1 ht iT dp
      have c1 : z1 = none := c1
      subst c1
      obtain ⟨t0, -⟩ := hT1
      obtain ⟨p0, -⟩ := id hS1
      obtain ⟨q0, q1, q2, q3, q4, q5⟩ := c3
      have q0 : M2.1 k = some (.inr (2, [.int (nI (xsd S)), .ref (k + 1), .ref (k + 2), .ref (k + 3), .ref (k + 4), .ref (k + 5)])) := q0
      simp (disch := omega) only [↓ra_18_2, ↓ra_18_3, ↓ra_18_4, ↓ra_18_7, ↓ra_18_31, ↓ra_18_32, ↓ra_18_33, ↓ra_18_36, ↓ra_18_37, ↓ra_18_38, ↓ra_18_41, ↓ra_18_42, ↓ra_18_43, ↓ra_18_46, xa_kli, xa_klr, xa_kll, xa_ki, xa_kl, xa_kr, xa_kii, xa_kk, xa_kir, xa_krr, xa_kiir, xa_krir, xa_kdup, xa_kdup2, xa_kcp, xa_gf, xa_pf, xa_ga, xa_pa, xa_gq, xa_pq, xa_gl, xa_args, xa_ri, xa_rz, xa_rv, xa_s1, xa_s2, xa_c1, eq_self, List.getElem?_cons_succ, List.getElem?_cons_zero, true_and, and_true, nI_add, pk_mul, xt_in, xt_cl, xt_i0, xt_i1, xa_kc, xa_w8, xa_fit, lg_sl, List.flatMap_cons, List.flatMap_nil, List.map_cons, List.map_nil, List.sum_cons, List.sum_nil, Value.category, List.length_cons, List.length_nil, List.length_append, xa_rc, xa_rf, exists_eq_left, exists_eq', Option.some.injEq, Sum.inr.injEq, Prod.mk.injEq, Option.toList_some, Option.toList_none, List.cons_append, List.nil_append, Nat.reduceAdd, Nat.reduceLeDiff, Nat.reduceLT, List.set_cons_zero, List.set_cons_succ, eq_self, or_true, true_or, reduceIte, xt_ne, h0, h1, h2, t0, p0, q0, xt_le, Nat.le_refl, if_true, xa_iff cE, mx_19, List.set_cons_zero, List.set_cons_succ, List.length_cons, List.length_nil, Nat.zero_lt_succ]
      refine ⟨xa_fr_tr (xa_fr_tr fr c2) (xa_fr_st (by omega) (by omega)), xa_st_eq, xa_ar_ne (xa_ar_cg q1 (fun j hj => if_pos hj)) (by omega), xa_ar_ne q2 (by omega), xa_ar_ne (xa_ar_cg q3 (fun j hj => if_pos hj)) (by omega), xa_ar_ne (xa_ar_cg q4 (fun j hj => if_pos hj)) (by omega), xa_ar_ne q5 (by omega)⟩
    | succ n ih =>
      intro i lv M1 h0 h1 h2 e fr hS1
      have hT1 := xh_T_fr hT fr (by omega)
      have dsi := ds i (by omega)
      obtain ⟨t0, -⟩ := id hT1
      obtain ⟨q0, ⟨g1, q1, e1⟩, -⟩ := id hS1
      have e1i : g1 i = nI (xsh S i) := by rw [e1 i (by omega)]; show nI (if i < i then _ else _) = _; rw [if_neg (by omega)]
      simp (disch := omega) only [↓ra_18_2, ↓ra_18_3, ↓ra_18_4, ↓ra_18_7, ↓ra_18_10, ↓ra_18_11, ↓ra_18_14, ↓ra_18_15, ↓ra_18_16, xa_kli, xa_klr, xa_kll, xa_ki, xa_kl, xa_kr, xa_kii, xa_kk, xa_kir, xa_krr, xa_kiir, xa_krir, xa_kdup, xa_kdup2, xa_kcp, xa_gf, xa_pf, xa_ga, xa_pa, xa_gq, xa_pq, xa_gl, xa_args, xa_ri, xa_rz, xa_rv, xa_s1, xa_s2, xa_c1, eq_self, List.getElem?_cons_succ, List.getElem?_cons_zero, true_and, and_true, nI_add, pk_mul, xt_in, xt_cl, xt_i0, xt_i1, h0, h1, h2, t0, q0, q1, e1i, xt_le, xt_eq]
      simp only [if_neg (show ¬ xnS T ≤ i by omega)]
      have nxt : ∀ M2 : xa_M, xa_fr k (k + 6) M M2 → xh_S M2 k (xnS T) (xnM T) (xq_pt T S (i + 1)) → ∃ z, xa_E 18 25 lv [] M2 z ∧ z.1 = none ∧ xa_fr k (k + 6) M z.2 ∧ xh_S z.2 k (xnS T) (xnM T) (xq_day T S) := by
        intro M2 fr2 hS2
        simp (disch := omega) only [↓ra_18_25, ↓ra_18_28, xa_kli, xa_klr, xa_kll, xa_ki, xa_kl, xa_kr, xa_kii, xa_kk, xa_kir, xa_krr, xa_kiir, xa_krir, xa_kdup, xa_kdup2, xa_kcp, xa_gf, xa_pf, xa_ga, xa_pa, xa_gq, xa_pq, xa_gl, xa_args, xa_ri, xa_rz, xa_rv, xa_s1, xa_s2, xa_c1, eq_self, List.getElem?_cons_succ, List.getElem?_cons_zero, true_and, and_true, nI_add, pk_mul, xt_in, xt_cl, xt_i0, xt_i1, h2]
        exact ih (i + 1) _ M2 (by simp [xa_s1, h0]) (by simp [xa_s1, xa_c1, h1]) (by simp [xa_s1]) (by omega) fr2 hS2
      by_cases c : xsh S i = 0
      · have x1 : xsh (xq_pt T S i) i = xsh S i := if_neg (by omega)
        have x2 : xss (xq_pt T S i) i = xss S i := if_neg (by omega)
        have x3 : xsm (xq_pt T S i) i = xsm S i := if_neg (by omega)
        obtain ⟨⟨z1, M2⟩, cE, c1, c2, c3⟩ := pc_stayOrBeTaken hS1 hT1 ht iT dp i (by omega) (by rw [x1]; exact c) dsi.2.1 (by rw [x2]; omega) (by rw [x3]; omega)
        have c1 : z1 = none := c1
        subst c1
        simp (disch := omega) only [if_pos c, ↓ra_18_19, ↓ra_18_20, ↓ra_18_21, ↓ra_18_22, xa_kli, xa_klr, xa_kll, xa_ki, xa_kl, xa_kr, xa_kii, xa_kk, xa_kir, xa_krr, xa_kiir, xa_krir, xa_kdup, xa_kdup2, xa_kcp, xa_gf, xa_pf, xa_ga, xa_pa, xa_gq, xa_pq, xa_gl, xa_args, xa_ri, xa_rz, xa_rv, xa_s1, xa_s2, xa_c1, eq_self, List.getElem?_cons_succ, List.getElem?_cons_zero, true_and, and_true, nI_add, pk_mul, xt_in, xt_cl, xt_i0, xt_i1, xa_kc, xa_w8, xa_fit, lg_sl, List.flatMap_cons, List.flatMap_nil, List.map_cons, List.map_nil, List.sum_cons, List.sum_nil, Value.category, List.length_cons, List.length_nil, List.length_append, xa_rc, xa_rf, exists_eq_left, exists_eq', Option.some.injEq, Sum.inr.injEq, Prod.mk.injEq, Option.toList_some, Option.toList_none, List.cons_append, List.nil_append, Nat.reduceAdd, Nat.reduceLeDiff, Nat.reduceLT, List.set_cons_zero, List.set_cons_succ, eq_self, or_true, true_or, reduceIte, xt_ne, h0, h1, h2, q0, xa_iff cE, mx_20]
        refine nxt M2 (xa_fr_tr fr c2) ?_
        have xe : xq_d T (xsp (xq_pt T S i)) (xtl T i) i (xsh (xq_pt T S i) i) (xsq (xq_pt T S i) i) (xss (xq_pt T S i) i) (xsm (xq_pt T S i) i) = xq_dd T S i := by rw [x1, x2, x3]; rfl
        obtain ⟨p0, p1, p2, p3, p4, p5⟩ := c3
        have hh : ∀ (a b : Nat → Nat) (v : Nat), v = a i → ∀ j, j < xnS T → (if j = i then v else (if j < i then a j else b j)) = (if j < i + 1 then a j else b j) := by
          intro a b v hv j _
          by_cases e : j = i
          · subst e; rw [if_pos rfl, if_pos (by omega), hv]
          · rw [if_neg e]
            by_cases e2 : j < i
            · rw [if_pos e2, if_pos (by omega)]
            · rw [if_neg e2, if_neg (by omega)]
        exact ⟨p0, xa_ar_cg p1 (hh _ _ _ (by rw [xe])), p2, xa_ar_cg p3 (hh _ _ _ (by rw [xe])), xa_ar_cg p4 (hh _ _ _ (by rw [xe])), p5⟩
      · simp only [if_neg c]
        refine nxt M1 fr ?_
        have xe : xq_dd T S i = (xsh S i, xss S i, xsm S i) := by unfold xq_dd xq_d; rw [if_neg c]
        obtain ⟨p0, p1, p2, p3, p4, p5⟩ := hS1
        have hh : ∀ (a b : Nat → Nat), b i = a i → ∀ j, j < xnS T → (if j < i then a j else b j) = (if j < i + 1 then a j else b j) := by
          intro a b hv j _
          by_cases e2 : j < i
          · rw [if_pos e2, if_pos (by omega)]
          · rw [if_neg e2]
            by_cases e : j = i
            · subst e; rw [if_pos (by omega), hv]
            · rw [if_neg (by omega)]
        exact ⟨p0, xa_ar_cg p1 (hh _ _ (by rw [xe])), p2, xa_ar_cg p3 (hh _ _ (by rw [xe])), xa_ar_cg p4 (hh _ _ (by rw [xe])), p5⟩
  simp only [↓ra_18_0, ↓ra_18_1, xa_kli, xa_klr, xa_kll, xa_ki, xa_kl, xa_kr, xa_kii, xa_kk, xa_kir, xa_krr, xa_kiir, xa_krir, xa_kdup, xa_kdup2, xa_kcp, xa_gf, xa_pf, xa_ga, xa_pa, xa_gq, xa_pq, xa_gl, xa_args, xa_ri, xa_rz, xa_rv, xa_s1, xa_s2, xa_c1, eq_self, List.getElem?_cons_succ, List.getElem?_cons_zero, true_and, and_true, nI_add, pk_mul, xt_in, xt_cl, xt_i0, xt_i1]
  refine loop (xnS T) 0 _ M (by simp [xa_s1, h0]) (by simp [xa_s1, xa_c1, h1]) (by simp [xa_s1]) (by omega) xa_fr_rf ?_
  obtain ⟨q0, q1, q2, q3, q4, q5⟩ := hS
  exact ⟨q0, xa_ar_cg q1 (fun _ _ => rfl), q2, xa_ar_cg q3 (fun _ _ => rfl), xa_ar_cg q4 (fun _ _ => rfl), q5⟩
def xq_days (T : xt_T) : Nat → xt_S → xt_S
  | 0, S => S
  | n + 1, S => xq_day T (xq_days T n S)
theorem xq_f_b (T : xt_T) (P : Nat → Nat) (l s q : Nat) : xq_f T P l s q = true ∨ xq_f T P l s q = false := by cases xq_f T P l s q <;> simp
/-- a day keeps to the bounds -/
theorem xi_day {T : xt_T} {S : xt_S} (iT : xi_T T) (iS : xi_S T S) (hd : xsd S < 100000) : xi_S T (xq_day T S) := by
  obtain ⟨⟨b1, b2, b3, b4, b5, b6, b7, b8⟩, bs, bm, bw⟩ := iT
  obtain ⟨d0, ds, dp⟩ := iS
  refine ⟨hd, fun s hs => ?_, fun m hm => Nat.mod_lt _ (by omega)⟩
  have d := ds s hs
  have key : (xq_dd T S s).1 ≤ 3 ∧ (xq_dd T S s).2.1 ≤ 61 ∧ (xq_dd T S s).2.2 ≤ 2 ∧ ((xq_dd T S s).1 = 0 → (xq_dd T S s).2.1 < xN T ∧ (xq_dd T S s).2.2 ≤ 1) ∧ ((xq_dd T S s).1 = 1 → (xq_dd T S s).2.1 = 0 ∧ (xq_dd T S s).2.2 ≤ 1) := by
    unfold xq_dd xq_d
    by_cases c0 : xsh S s = 0
    · rw [if_pos c0]
      have d5 := d.2.2.2.2.1 c0
      by_cases cF : xq_f T (xsp S) (xtl T s) s (xsq S s) = true
      · rw [if_pos cF]
        by_cases k3 : xtk T s = 3
        · rw [if_pos k3]
          by_cases c2 : 2 ≤ xsm S s + 1
          · rw [if_pos c2]
            exact ⟨(by show (2 : Nat) ≤ 3; omega), d.2.2.1, (by show xsm S s + 1 ≤ 2; omega), (fun h => by cases h), (fun h => by cases h)⟩
          · rw [if_neg c2]
            refine ⟨by dsimp only; split <;> omega, by dsimp only; omega, by dsimp only; omega, fun h => ?_, fun h => ?_⟩
            · dsimp only at h ⊢
              split at h
              · cases h
              · omega
            · dsimp only at h
              split at h <;> cases h
        · rw [if_neg k3]
          exact ⟨(by show (2 : Nat) ≤ 3; omega), d.2.2.1, d.2.2.2.1, (fun h => by cases h), (fun h => by cases h)⟩
      · rw [if_neg cF]
        refine ⟨by dsimp only; split <;> omega, by dsimp only; omega, by dsimp only; omega, fun h => ?_, fun h => ?_⟩
        · dsimp only at h ⊢
          split at h
          · cases h
          · omega
        · dsimp only at h
          split at h <;> cases h
    · rw [if_neg c0]
      exact ⟨d.1, d.2.2.1, d.2.2.2.1, fun h => absurd h c0, d.2.2.2.2.2⟩
  exact ⟨key.1, d.2.1, key.2.1, key.2.2.1, key.2.2.2.1, key.2.2.2.2⟩
theorem xi_days {T : xt_T} {S : xt_S} (iT : xi_T T) : ∀ n, xi_S T S → xsd S + n ≤ 100000 → xi_S T (xq_days T n S) ∧ xsd (xq_days T n S) = xsd S + n
  | 0, iS, _ => ⟨iS, rfl⟩
  | n + 1, iS, h => by
    obtain ⟨h1, h2⟩ := xi_days iT n iS (by omega)
    exact ⟨xi_day iT h1 (by omega), by show xsd (xq_days T n S) + 1 = _; omega⟩
theorem pc_goDays {M : xa_M} {k t : Nat} {S : xt_S} {T : xt_T} (hS : xh_S M k (xnS T) (xnM T) S) (hT : xh_T M t T) (ht : t + 9 ≤ k ∨ k + 6 ≤ t) (iT : xi_T T) (iS : xi_S T S) (N : Nat) (hN : xsd S + N ≤ 100000) :
    ∃ z, xa_E 17 0 (xa_ent [.ref k, .ref t, .int (nI N)]) [] M z ∧ z.1 = none ∧ xa_fr k (k + 6) M z.2 ∧ xh_S z.2 k (xnS T) (xnM T) (xq_days T N S) := by
  refine xa_ge3 (fun lv h0 h1 h2 => ?_)
  have loop : ∀ (n i : Nat) (lv : xa_L) (M1 : xa_M), lv 0 = some (.ref k) → lv 1 = some (.ref t) → lv 2 = some (.int (nI N)) → lv 3 = some (.int (nI i)) → i + n = N → xa_fr k (k + 6) M M1 → xh_S M1 k (xnS T) (xnM T) (xq_days T i S) → ∃ z, xa_E 17 2 lv [] M1 z ∧ z.1 = none ∧ xa_fr k (k + 6) M z.2 ∧ xh_S z.2 k (xnS T) (xnM T) (xq_days T N S) := by
    intro n
    induction n with
    | zero =>
      intro i lv M1 h0 h1 h2 h3 e fr hS1
      have e : i = N := by omega
      subst e
      simp (disch := omega) only [↓ra_17_2, ↓ra_17_3, ↓ra_17_4, ↓ra_17_18, xa_kli, xa_klr, xa_kll, xa_ki, xa_kl, xa_kr, xa_kii, xa_kk, xa_kir, xa_krr, xa_kiir, xa_krir, xa_kdup, xa_kdup2, xa_kcp, xa_gf, xa_pf, xa_ga, xa_pa, xa_gq, xa_pq, xa_gl, xa_args, xa_ri, xa_rz, xa_rv, xa_s1, xa_s2, xa_c1, eq_self, List.getElem?_cons_succ, List.getElem?_cons_zero, true_and, and_true, nI_add, pk_mul, xt_in, xt_cl, xt_i0, xt_i1, h0, h1, h2, h3, xt_le, Nat.le_refl, if_true, exists_eq_left]
      exact ⟨fr, hS1⟩
    | succ n ih =>
      intro i lv M1 h0 h1 h2 h3 e fr hS1
      obtain ⟨j1, j2⟩ := xi_days (S := S) iT i iS (by omega)
      obtain ⟨⟨z1, M2⟩, cE, c1, c2, c3⟩ := pc_goDay hS1 (xh_T_fr hT fr (by omega)) ht iT j1
      have c1 : z1 = none := c1
      subst c1
      obtain ⟨q0, -⟩ := id hS1
      simp (disch := omega) only [↓ra_17_2, ↓ra_17_3, ↓ra_17_4, xa_kli, xa_klr, xa_kll, xa_ki, xa_kl, xa_kr, xa_kii, xa_kk, xa_kir, xa_krr, xa_kiir, xa_krir, xa_kdup, xa_kdup2, xa_kcp, xa_gf, xa_pf, xa_ga, xa_pa, xa_gq, xa_pq, xa_gl, xa_args, xa_ri, xa_rz, xa_rv, xa_s1, xa_s2, xa_c1, eq_self, List.getElem?_cons_succ, List.getElem?_cons_zero, true_and, and_true, nI_add, pk_mul, xt_in, xt_cl, xt_i0, xt_i1, h0, h1, h2, h3, xt_le]
      simp only [if_neg (show ¬ N ≤ i by omega)]
      simp (disch := omega) only [↓ra_17_7, ↓ra_17_8, ↓ra_17_9, ↓ra_17_12, ↓ra_17_15, xa_kli, xa_klr, xa_kll, xa_ki, xa_kl, xa_kr, xa_kii, xa_kk, xa_kir, xa_krr, xa_kiir, xa_krir, xa_kdup, xa_kdup2, xa_kcp, xa_gf, xa_pf, xa_ga, xa_pa, xa_gq, xa_pq, xa_gl, xa_args, xa_ri, xa_rz, xa_rv, xa_s1, xa_s2, xa_c1, eq_self, List.getElem?_cons_succ, List.getElem?_cons_zero, true_and, and_true, nI_add, pk_mul, xt_in, xt_cl, xt_i0, xt_i1, xa_kc, xa_w8, xa_fit, lg_sl, List.flatMap_cons, List.flatMap_nil, List.map_cons, List.map_nil, List.sum_cons, List.sum_nil, Value.category, List.length_cons, List.length_nil, List.length_append, xa_rc, xa_rf, exists_eq_left, exists_eq', Option.some.injEq, Sum.inr.injEq, Prod.mk.injEq, Option.toList_some, Option.toList_none, List.cons_append, List.nil_append, Nat.reduceAdd, Nat.reduceLeDiff, Nat.reduceLT, List.set_cons_zero, List.set_cons_succ, eq_self, or_true, true_or, reduceIte, xt_ne, h0, h1, h2, h3, q0, xa_iff cE, mx_18]
      exact ih (i + 1) _ M2 (by simp [xa_s1, h0]) (by simp [xa_s1, h1]) (by simp [xa_s1, xa_c1, h2]) (by simp [xa_s1]) (by omega) (xa_fr_tr fr c2) c3
  simp only [↓ra_17_0, ↓ra_17_1, xa_kli, xa_klr, xa_kll, xa_ki, xa_kl, xa_kr, xa_kii, xa_kk, xa_kir, xa_krr, xa_kiir, xa_krir, xa_kdup, xa_kdup2, xa_kcp, xa_gf, xa_pf, xa_ga, xa_pa, xa_gq, xa_pq, xa_gl, xa_args, xa_ri, xa_rz, xa_rv, xa_s1, xa_s2, xa_c1, eq_self, List.getElem?_cons_succ, List.getElem?_cons_zero, true_and, and_true, nI_add, pk_mul, xt_in, xt_cl, xt_i0, xt_i1]
  exact loop N 0 _ M (by simp [xa_s1, h0]) (by simp [xa_s1, h1]) (by simp [xa_s1, xa_c1, h2]) (by simp [xa_s1]) (by omega) xa_fr_rf hS
/-- a row copied into another of its length -/
theorem pc_copyRow {M : xa_M} {a b n k : Nat} {f : Nat → Nat} {g : Nat → Int32} (ha : xa_ar M a n k f) (hb : M.1 b = some (.inl (0, n, .inl g))) (hn : n < 1000) (hk : k ≤ n) :
    ∃ z, xa_E 91 0 (xa_ent [.ref a, .ref b]) [] M z ∧ z.1 = none ∧ xa_fr b (b + 1) M z.2 ∧ xa_ar z.2 b n k f := by
  obtain ⟨g0, a1, a2⟩ := ha
  refine xa_ge2 (fun lv h0 h1 => ?_)
  simp (disch := omega) only [↓ra_91_0, ↓ra_91_1, ↓ra_91_2, ↓ra_91_3, ↓ra_91_4, ↓ra_91_5, ↓ra_91_6, ↓ra_91_7, ↓ra_91_8, ↓ra_91_11, ↓ra_91_14, xa_kli, xa_klr, xa_kll, xa_ki, xa_kl, xa_kr, xa_kii, xa_kk, xa_kir, xa_krr, xa_kiir, xa_krir, xa_kdup, xa_kdup2, xa_kcp, xa_gf, xa_pf, xa_ga, xa_pa, xa_gq, xa_pq, xa_gl, xa_args, xa_ri, xa_rz, xa_rv, xa_s1, xa_s2, xa_c1, eq_self, List.getElem?_cons_succ, List.getElem?_cons_zero, true_and, and_true, nI_add, pk_mul, xt_in, xt_cl, xt_i0, xt_i1, xa_kc, xa_w8, xa_fit, lg_sl, List.flatMap_cons, List.flatMap_nil, List.map_cons, List.map_nil, List.sum_cons, List.sum_nil, Value.category, List.length_cons, List.length_nil, List.length_append, xa_rc, xa_rf, exists_eq_left, exists_eq', Option.some.injEq, Sum.inr.injEq, Prod.mk.injEq, Option.toList_some, Option.toList_none, List.cons_append, List.nil_append, Nat.reduceAdd, Nat.reduceLeDiff, Nat.reduceLT, List.set_cons_zero, List.set_cons_succ, eq_self, or_true, true_or, reduceIte, xt_ne, h0, h1, a1, hb, xa_cp, xt_lt, Nat.lt_irrefl, if_false, not_false_eq_true, Nat.zero_add, Nat.le_refl, Nat.not_lt_zero]
  refine ⟨xa_fr_st (by omega) (by omega), ⟨_, xa_st_eq, fun j hj => ?_⟩⟩
  rw [pk_cpy_in (by omega) (by omega)]
  simp only [Nat.zero_add, Nat.sub_zero]
  exact a2 j hj
