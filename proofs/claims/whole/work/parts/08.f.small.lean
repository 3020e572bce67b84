theorem xt_remA (a d : Nat) : nI a - nI (a / d * d) = nI (a % d) := by
  have h : a / d * d ≤ a := Nat.div_mul_le_self a d
  rw [xt_sub _ _ h]
  have e := Nat.mod_add_div a d
  rw [Nat.mul_comm] at e
  exact congrArg nI (by omega)
theorem xt_remL (a d : Nat) : lN a - lN (a / d * d) = lN (a % d) := by
  have h : a / d * d ≤ a := Nat.div_mul_le_self a d
  rw [lN_sub h]
  have e := Nat.mod_add_div a d
  rw [Nat.mul_comm] at e
  exact congrArg lN (by omega)
theorem xt_n0 (d : Nat) (h0 : 0 < d) (hd : d < 2147483648) : (nI d = nI 0) = False := eq_false (nI_ne0 h0 hd)
/-- who is free behind n days, as bits -/
def xq_fb (T : xt_T) (n : Nat) (S : xt_S) : Nat := xt_bs (fun s => decide (xsh (xq_days T n S) s = 3)) (xnS T)
theorem pc_freeBehind {M : xa_M} {b : Nat} {T : xt_T} {S S0 : xt_S} (hO : xh_O M b) (hU : xh_T M (b + 13) T) (hS : xh_S M (b + 22) (xnS T) (xnM T) S) (hN : xh_S M (b + 28) 0 0 S0) (iT : xi_T T) (iS : xi_S T S) (hd : xsd S ≤ 9000) (n : Nat) (hn : n ≤ 99) :
    ∃ z, xa_E 86 0 (xa_ent [.ref b, .int (nI n)]) [] M z ∧ z.1 = some (.int (nI (xq_fb T n S))) ∧ xa_fr (b + 28) (b + 34) M z.2 ∧ ∃ S1, xh_S z.2 (b + 28) 0 0 S1 := by
  obtain ⟨⟨b1, b2, b3, b4, b5, b6, b7, b8⟩, bs, bm, bw⟩ := id iT
  have o0 : xh_O M b := hO
  unfold xh_O at o0
  refine xa_ge2 (fun lv h0 h1 => ?_)
  obtain ⟨⟨z1, M1⟩, cE1, c1, f1, hS1⟩ := pc_copyS hN hS (by omega) b6 b7
  have c1 : z1 = none := c1
  subst c1
  dsimp only at f1 hS1
  have hU1 := xh_T_fr hU f1 (by omega)
  obtain ⟨⟨z2, M2⟩, cE2, c2, f2, hS2⟩ := pc_goDays hS1 hU1 (by omega) iT iS n (by omega)
  have c2 : z2 = none := c2
  subst c2
  dsimp only at f2 hS2
  have i2 := (xi_days iT n iS (by omega)).1
  have hU2 := xh_T_fr hU1 f2 (by omega)
  have n0 := hN.1
  have m0 := hS.1
  have s1 := hS1.1
  have u1 := hU1.1
  have o1 := (f1.1 b (by omega)).trans o0
  have o2 := (f2.1 b (by omega)).trans o1
  have u2 := hU2.1
  have f12 := xa_fr_tr f1 (xa_fr_w f2 (lo2 := b + 28) (hi2 := b + 34) (by omega) (by omega))
  obtain ⟨v0, ⟨g1, v1, e1⟩, -⟩ := id hS2
  simp (disch := omega) only [↓ra_86_0, ↓ra_86_1, ↓ra_86_4, ↓ra_86_5, ↓ra_86_8, ↓ra_86_11, ↓ra_86_12, ↓ra_86_15, ↓ra_86_16, ↓ra_86_19, ↓ra_86_20, ↓ra_86_23, ↓ra_86_24, ↓ra_86_25, ↓ra_86_26, xa_kli, xa_klr, xa_kll, xa_ki, xa_kl, xa_kr, xa_kii, xa_kk, xa_kir, xa_krr, xa_kiir, xa_krir, xa_kdup, xa_kdup2, xa_kcp, xa_gf, xa_pf, xa_ga, xa_pa, xa_gq, xa_pq, xa_gl, xa_args, xa_ri, xa_rz, xa_rv, xa_s1, xa_s2, xa_c1, eq_self, List.getElem?_cons_succ, List.getElem?_cons_zero, true_and, and_true, nI_add, pk_mul, xt_in, xt_cl, xt_i0, xt_i1, xa_kc, xa_w8, xa_fit, lg_sl, List.flatMap_cons, List.flatMap_nil, List.map_cons, List.map_nil, List.sum_cons, List.sum_nil, Value.category, List.length_cons, List.length_nil, List.length_append, xa_rc, xa_rf, exists_eq_left, exists_eq', Option.some.injEq, Sum.inr.injEq, Prod.mk.injEq, Option.toList_some, Option.toList_none, List.cons_append, List.nil_append, Nat.reduceAdd, Nat.reduceLeDiff, Nat.reduceLT, List.set_cons_zero, List.set_cons_succ, eq_self, or_true, true_or, reduceIte, xt_ne, h0, h1, o0, o1, n0, m0, s1, u1, xa_iff cE1, xa_iff cE2, mx_9, mx_17]
  have loop : ∀ (r i : Nat) (lv : xa_L), lv 0 = some (.ref b) → lv 2 = some (.int (nI (xt_bs (fun s => decide (xsh (xq_days T n S) s = 3)) i))) → lv 3 = some (.int (nI i)) → i + r = xnS T → xa_E 86 27 lv [] M2 (some (.int (nI (xq_fb T n S))), M2) := by
    intro r
    induction r with
    | zero =>
      intro i lv h0 h2 h3 e
      have e : i = xnS T := by omega
      subst e
      simp (disch := omega) only [↓ra_86_27, ↓ra_86_28, ↓ra_86_29, ↓ra_86_32, ↓ra_86_35, xa_kli, xa_klr, xa_kll, xa_ki, xa_kl, xa_kr, xa_kii, xa_kk, xa_kir, xa_krr, xa_kiir, xa_krir, xa_kdup, xa_kdup2, xa_kcp, xa_gf, xa_pf, xa_ga, xa_pa, xa_gq, xa_pq, xa_gl, xa_args, xa_ri, xa_rz, xa_rv, xa_s1, xa_s2, xa_c1, eq_self, List.getElem?_cons_succ, List.getElem?_cons_zero, true_and, and_true, nI_add, pk_mul, xt_in, xt_cl, xt_i0, xt_i1, xa_kc, xa_w8, xa_fit, lg_sl, List.flatMap_cons, List.flatMap_nil, List.map_cons, List.map_nil, List.sum_cons, List.sum_nil, Value.category, List.length_cons, List.length_nil, List.length_append, xa_rc, xa_rf, exists_eq_left, exists_eq', Option.some.injEq, Sum.inr.injEq, Prod.mk.injEq, Option.toList_some, Option.toList_none, List.cons_append, List.nil_append, Nat.reduceAdd, Nat.reduceLeDiff, Nat.reduceLT, List.set_cons_zero, List.set_cons_succ, eq_self, or_true, true_or, reduceIte, xt_ne, h0, h2, h3, o2, u2, xt_le, Nat.le_refl, if_true]
      simp only [↓ra_86_63, ↓ra_86_64, xa_kli, xa_klr, xa_kll, xa_ki, xa_kl, xa_kr, xa_kii, xa_kk, xa_kir, xa_krr, xa_kiir, xa_krir, xa_kdup, xa_kdup2, xa_kcp, xa_gf, xa_pf, xa_ga, xa_pa, xa_gq, xa_pq, xa_gl, xa_args, xa_ri, xa_rz, xa_rv, xa_s1, xa_s2, xa_c1, eq_self, List.getElem?_cons_succ, List.getElem?_cons_zero, true_and, and_true, nI_add, pk_mul, xt_in, xt_cl, xt_i0, xt_i1, h2, xq_fb]
    | succ r ih =>
      intro i lv h0 h2 h3 e
      have e1 := e1 i (by omega)
      have i2 := (i2.2.1 i (by omega)).1
      simp (disch := omega) only [↓ra_86_27, ↓ra_86_28, ↓ra_86_29, ↓ra_86_32, ↓ra_86_35, xa_kli, xa_klr, xa_kll, xa_ki, xa_kl, xa_kr, xa_kii, xa_kk, xa_kir, xa_krr, xa_kiir, xa_krir, xa_kdup, xa_kdup2, xa_kcp, xa_gf, xa_pf, xa_ga, xa_pa, xa_gq, xa_pq, xa_gl, xa_args, xa_ri, xa_rz, xa_rv, xa_s1, xa_s2, xa_c1, eq_self, List.getElem?_cons_succ, List.getElem?_cons_zero, true_and, and_true, nI_add, pk_mul, xt_in, xt_cl, xt_i0, xt_i1, xa_kc, xa_w8, xa_fit, lg_sl, List.flatMap_cons, List.flatMap_nil, List.map_cons, List.map_nil, List.sum_cons, List.sum_nil, Value.category, List.length_cons, List.length_nil, List.length_append, xa_rc, xa_rf, exists_eq_left, exists_eq', Option.some.injEq, Sum.inr.injEq, Prod.mk.injEq, Option.toList_some, Option.toList_none, List.cons_append, List.nil_append, Nat.reduceAdd, Nat.reduceLeDiff, Nat.reduceLT, List.set_cons_zero, List.set_cons_succ, eq_self, or_true, true_or, reduceIte, xt_ne, h0, h2, h3, o2, u2, xt_le]
      rw [if_neg (by omega)]
      simp (disch := omega) only [↓ra_86_38, ↓ra_86_39, ↓ra_86_42, ↓ra_86_45, ↓ra_86_46, ↓ra_86_47, ↓ra_86_48, xa_kli, xa_klr, xa_kll, xa_ki, xa_kl, xa_kr, xa_kii, xa_kk, xa_kir, xa_krr, xa_kiir, xa_krir, xa_kdup, xa_kdup2, xa_kcp, xa_gf, xa_pf, xa_ga, xa_pa, xa_gq, xa_pq, xa_gl, xa_args, xa_ri, xa_rz, xa_rv, xa_s1, xa_s2, xa_c1, eq_self, List.getElem?_cons_succ, List.getElem?_cons_zero, true_and, and_true, nI_add, pk_mul, xt_in, xt_cl, xt_i0, xt_i1, xa_kc, xa_w8, xa_fit, lg_sl, List.flatMap_cons, List.flatMap_nil, List.map_cons, List.map_nil, List.sum_cons, List.sum_nil, Value.category, List.length_cons, List.length_nil, List.length_append, xa_rc, xa_rf, exists_eq_left, exists_eq', Option.some.injEq, Sum.inr.injEq, Prod.mk.injEq, Option.toList_some, Option.toList_none, List.cons_append, List.nil_append, Nat.reduceAdd, Nat.reduceLeDiff, Nat.reduceLT, List.set_cons_zero, List.set_cons_succ, eq_self, or_true, true_or, reduceIte, xt_ne, h0, h2, h3, o2, v0, v1, e1, xt_eq]
      by_cases c : xsh (xq_days T n S) i = 3
      · rw [if_pos c]
        simp (disch := omega) only [↓ra_86_51, ↓ra_86_52, ↓ra_86_53, ↓ra_86_54, ↓ra_86_55, ↓ra_86_56, ↓ra_86_57, ↓ra_86_60, xa_kli, xa_klr, xa_kll, xa_ki, xa_kl, xa_kr, xa_kii, xa_kk, xa_kir, xa_krr, xa_kiir, xa_krir, xa_kdup, xa_kdup2, xa_kcp, xa_gf, xa_pf, xa_ga, xa_pa, xa_gq, xa_pq, xa_gl, xa_args, xa_ri, xa_rz, xa_rv, xa_s1, xa_s2, xa_c1, eq_self, List.getElem?_cons_succ, List.getElem?_cons_zero, true_and, and_true, nI_add, pk_mul, xt_in, xt_cl, xt_i0, xt_i1, xa_kc, xa_w8, xa_fit, lg_sl, List.flatMap_cons, List.flatMap_nil, List.map_cons, List.map_nil, List.sum_cons, List.sum_nil, Value.category, List.length_cons, List.length_nil, List.length_append, xa_rc, xa_rf, exists_eq_left, exists_eq', Option.some.injEq, Sum.inr.injEq, Prod.mk.injEq, Option.toList_some, Option.toList_none, List.cons_append, List.nil_append, Nat.reduceAdd, Nat.reduceLeDiff, Nat.reduceLT, List.set_cons_zero, List.set_cons_succ, eq_self, or_true, true_or, reduceIte, xt_ne, h0, h2, h3, xt_bit, xt_or]
        exact ih (i + 1) _ (by simp [xa_s1, xa_c1, h0]) (by simp [xa_s1, xa_c1, xt_bs, c]) (by simp [xa_s1, xa_c1]) (by omega)
      · rw [if_neg c]
        simp (disch := omega) only [↓ra_86_57, ↓ra_86_60, xa_kli, xa_klr, xa_kll, xa_ki, xa_kl, xa_kr, xa_kii, xa_kk, xa_kir, xa_krr, xa_kiir, xa_krir, xa_kdup, xa_kdup2, xa_kcp, xa_gf, xa_pf, xa_ga, xa_pa, xa_gq, xa_pq, xa_gl, xa_args, xa_ri, xa_rz, xa_rv, xa_s1, xa_s2, xa_c1, eq_self, List.getElem?_cons_succ, List.getElem?_cons_zero, true_and, and_true, nI_add, pk_mul, xt_in, xt_cl, xt_i0, xt_i1, xa_kc, xa_w8, xa_fit, lg_sl, List.flatMap_cons, List.flatMap_nil, List.map_cons, List.map_nil, List.sum_cons, List.sum_nil, Value.category, List.length_cons, List.length_nil, List.length_append, xa_rc, xa_rf, exists_eq_left, exists_eq', Option.some.injEq, Sum.inr.injEq, Prod.mk.injEq, Option.toList_some, Option.toList_none, List.cons_append, List.nil_append, Nat.reduceAdd, Nat.reduceLeDiff, Nat.reduceLT, List.set_cons_zero, List.set_cons_succ, eq_self, or_true, true_or, reduceIte, xt_ne, h0, h2, h3]
        exact ih (i + 1) _ (by simp [xa_s1, xa_c1, h0]) (by simp [xa_s1, xa_c1, xt_bs, c, h2]) (by simp [xa_s1, xa_c1]) (by omega)
  have := loop (xnS T) 0 (xa_s1 (xa_s1 lv 2 (.int (nI 0))) 3 (.int (nI 0))) (by simp [xa_s1, xa_c1, h0]) (by simp [xa_s1, xa_c1, xt_bs]) (by simp [xa_s1, xa_c1]) (by omega)
  exact ⟨_, this, rfl, f12, _, xh_S0 hS2⟩
/-- the draw -/
def xq_dr (z d : Nat) : Nat := (7919 * z + 6151 * d + 1) * (7919 * z + 6151 * d + 1) % 65521 / 2
theorem xq_dr_lt (z d : Nat) : xq_dr z d < 32761 := by
  have : (7919 * z + 6151 * d + 1) * (7919 * z + 6151 * d + 1) % 65521 < 65521 := Nat.mod_lt _ (by omega)
  unfold xq_dr
  omega
theorem xt_drb {z d : Nat} (hz : z ≤ 9999) (hd : d ≤ 60) : (7919 * z + 6151 * d + 1) * (7919 * z + 6151 * d + 1) < 2 ^ 63 := by
  have h1 : 7919 * z + 6151 * d + 1 ≤ 80000000 := by omega
  exact Nat.lt_of_le_of_lt (Nat.mul_le_mul h1 h1) (by decide)
theorem xt_l0 (n : Nat) (h : 0 < n) (h2 : n < 2 ^ 63) : (lN n = 0) = False := eq_false (fun e => by
  have : lN n = lN 0 := e
  rw [pk_lEQ h2 (by decide)] at this
  omega)
theorem pc_draw {M : xa_M} (z d : Nat) (hz : z ≤ 9999) (hd : d ≤ 60) : xa_E 87 0 (xa_ent [.int (nI z), .int (nI d)]) [] M (some (.int (nI (xq_dr z d))), M) := by
  have hb := xt_drb hz hd
  have hm : (7919 * z + 6151 * d + 1) * (7919 * z + 6151 * d + 1) % 65521 < 65521 := Nat.mod_lt _ (by omega)
  refine xa_go2 (fun lv h0 h1 => ?_)
  simp (disch := omega) only [↓ra_87_0, ↓ra_87_3, ↓ra_87_4, ↓ra_87_5, ↓ra_87_6, ↓ra_87_9, ↓ra_87_10, ↓ra_87_11, ↓ra_87_12, ↓ra_87_13, ↓ra_87_14, ↓ra_87_15, xa_kli, xa_klr, xa_kll, xa_ki, xa_kl, xa_kr, xa_kii, xa_kk, xa_kir, xa_krr, xa_kiir, xa_krir, xa_kdup, xa_kdup2, xa_kcp, xa_gf, xa_pf, xa_ga, xa_pa, xa_gq, xa_pq, xa_gl, xa_args, xa_ri, xa_rz, xa_rv, xa_s1, xa_s2, xa_c1, eq_self, List.getElem?_cons_succ, List.getElem?_cons_zero, true_and, and_true, nI_add, pk_mul, xt_in, xt_cl, xt_i0, xt_i1, xa_kc, xa_w8, xa_fit, lg_sl, List.flatMap_cons, List.flatMap_nil, List.map_cons, List.map_nil, List.sum_cons, List.sum_nil, Value.category, List.length_cons, List.length_nil, List.length_append, xa_rc, xa_rf, exists_eq_left, exists_eq', Option.some.injEq, Sum.inr.injEq, Prod.mk.injEq, Option.toList_some, Option.toList_none, List.cons_append, List.nil_append, Nat.reduceAdd, Nat.reduceLeDiff, Nat.reduceLT, List.set_cons_zero, List.set_cons_succ, eq_self, or_true, true_or, reduceIte, xt_ne, h0, h1, nI_l, lN_mul, lN_add]
  simp (disch := omega) only [↓ra_87_16, ↓ra_87_17, ↓ra_87_18, xa_kli, xa_klr, xa_kll, xa_ki, xa_kl, xa_kr, xa_kii, xa_kk, xa_kir, xa_krr, xa_kiir, xa_krir, xa_kdup, xa_kdup2, xa_kcp, xa_gf, xa_pf, xa_ga, xa_pa, xa_gq, xa_pq, xa_gl, xa_args, xa_ri, xa_rz, xa_rv, xa_s1, xa_s2, xa_c1, eq_self, List.getElem?_cons_succ, List.getElem?_cons_zero, true_and, and_true, nI_add, pk_mul, xt_in, xt_cl, xt_i0, xt_i1, xa_kc, xa_w8, xa_fit, lg_sl, List.flatMap_cons, List.flatMap_nil, List.map_cons, List.map_nil, List.sum_cons, List.sum_nil, Value.category, List.length_cons, List.length_nil, List.length_append, xa_rc, xa_rf, exists_eq_left, exists_eq', Option.some.injEq, Sum.inr.injEq, Prod.mk.injEq, Option.toList_some, Option.toList_none, List.cons_append, List.nil_append, Nat.reduceAdd, Nat.reduceLeDiff, Nat.reduceLT, List.set_cons_zero, List.set_cons_succ, eq_self, or_true, true_or, reduceIte, xt_ne, lN_mul]
  simp (disch := omega) only [↓ra_87_19, ↓ra_87_22, ↓ra_87_23, ↓ra_87_26, ↓ra_87_27, ↓ra_87_28, xa_kli, xa_klr, xa_kll, xa_ki, xa_kl, xa_kr, xa_kii, xa_kk, xa_kir, xa_krr, xa_kiir, xa_krir, xa_kdup, xa_kdup2, xa_kcp, xa_gf, xa_pf, xa_ga, xa_pa, xa_gq, xa_pq, xa_gl, xa_args, xa_ri, xa_rz, xa_rv, xa_s1, xa_s2, xa_c1, eq_self, List.getElem?_cons_succ, List.getElem?_cons_zero, true_and, and_true, nI_add, pk_mul, xt_in, xt_cl, xt_i0, xt_i1, xa_kc, xa_w8, xa_fit, lg_sl, List.flatMap_cons, List.flatMap_nil, List.map_cons, List.map_nil, List.sum_cons, List.sum_nil, Value.category, List.length_cons, List.length_nil, List.length_append, xa_rc, xa_rf, exists_eq_left, exists_eq', Option.some.injEq, Sum.inr.injEq, Prod.mk.injEq, Option.toList_some, Option.toList_none, List.cons_append, List.nil_append, Nat.reduceAdd, Nat.reduceLeDiff, Nat.reduceLT, List.set_cons_zero, List.set_cons_succ, eq_self, or_true, true_or, reduceIte, xt_ne, xt_l0, not_false_eq_true, pk_lDiv hb, lN_mul, xt_remL, pk_lDiv, lN_i]
  rfl
/-- what is done by a draw -/
def xq_act (T : xt_T) (S : xt_S) (d : Nat) : xt_S :=
  if 2 ≤ xsh S (d % xnS T) then S
  else if d / 64 % 3 = 0 then xq_set S (d % xnS T) (d / 8 % xC T)
  else if d / 64 % 3 = 1 ∧ d / 256 % 4 = 0 then xq_out S (d % xnS T) else S
theorem xi_act {T : xt_T} {S : xt_S} {d : Nat} (iT : xi_T T) (iS : xi_S T S) (h1 : 1 ≤ xnS T) : xi_S T (xq_act T S d) := by
  have hm : d % xnS T < xnS T := Nat.mod_lt _ (by omega)
  have hC : d / 8 % xC T < xC T := Nat.mod_lt _ (by have := iT.1; omega)
  unfold xq_act
  split
  · exact iS
  · split
    · exact xi_set iT iS (by omega) hC hm
    · split
      · exact xi_out iS (by omega)
      · exact iS
theorem xq_act_d (T : xt_T) (S : xt_S) (d : Nat) : xsd (xq_act T S d) = xsd S := by
  unfold xq_act
  split
  · rfl
  · split
    · rfl
    · split <;> rfl
theorem pc_actByDraw {M : xa_M} {b : Nat} {T : xt_T} {S : xt_S} (hO : xh_O M b) (hT : xh_T M (b + 4) T) (hS : xh_S M (b + 28) (xnS T) (xnM T) S) (iT : xi_T T) (iS : xi_S T S) (h1n : 1 ≤ xnS T) (d : Nat) (hd : d < 40000) :
    ∃ z, xa_E 88 0 (xa_ent [.ref b, .int (nI d)]) [] M z ∧ z.1 = none ∧ xa_fr (b + 28) (b + 34) M z.2 ∧ xh_S z.2 (b + 28) (xnS T) (xnM T) (xq_act T S d) := by
  obtain ⟨⟨b1, b2, b3, b4, b5, b6, b7, b8⟩, bs, bm, bw⟩ := id iT
  unfold xh_O at hO
  have hm : d % xnS T < xnS T := Nat.mod_lt _ (by omega)
  have hC : d / 8 % xC T < xC T := Nat.mod_lt _ (by omega)
  have co := xa_iff (pc_isOver hS (d % xnS T) hm b6 (iS.2.1 _ hm).1)
  have cr := xa_iff (pc_onRing hT b3 b4 (d / 8) (by omega))
  have t0 := hT.1
  have s0 := hS.1
  refine xa_ge2 (fun lv h0 h1 => ?_)
  simp (disch := omega) only [↓ra_88_0, ↓ra_88_1, ↓ra_88_4, ↓ra_88_7, ↓ra_88_8, xa_kli, xa_klr, xa_kll, xa_ki, xa_kl, xa_kr, xa_kii, xa_kk, xa_kir, xa_krr, xa_kiir, xa_krir, xa_kdup, xa_kdup2, xa_kcp, xa_gf, xa_pf, xa_ga, xa_pa, xa_gq, xa_pq, xa_gl, xa_args, xa_ri, xa_rz, xa_rv, xa_s1, xa_s2, xa_c1, eq_self, List.getElem?_cons_succ, List.getElem?_cons_zero, true_and, and_true, nI_add, pk_mul, xt_in, xt_cl, xt_i0, xt_i1, xa_kc, xa_w8, xa_fit, lg_sl, List.flatMap_cons, List.flatMap_nil, List.map_cons, List.map_nil, List.sum_cons, List.sum_nil, Value.category, List.length_cons, List.length_nil, List.length_append, xa_rc, xa_rf, exists_eq_left, exists_eq', Option.some.injEq, Sum.inr.injEq, Prod.mk.injEq, Option.toList_some, Option.toList_none, List.cons_append, List.nil_append, Nat.reduceAdd, Nat.reduceLeDiff, Nat.reduceLT, List.set_cons_zero, List.set_cons_succ, eq_self, or_true, true_or, reduceIte, xt_ne, h0, h1, hO, t0, xt_le]
  simp only [if_pos h1n]
  simp (disch := omega) only [↓ra_88_12, ↓ra_88_13, ↓ra_88_14, ↓ra_88_17, ↓ra_88_20, ↓ra_88_21, ↓ra_88_22, ↓ra_88_23, ↓ra_88_26, ↓ra_88_27, ↓ra_88_30, xa_kli, xa_klr, xa_kll, xa_ki, xa_kl, xa_kr, xa_kii, xa_kk, xa_kir, xa_krr, xa_kiir, xa_krir, xa_kdup, xa_kdup2, xa_kcp, xa_gf, xa_pf, xa_ga, xa_pa, xa_gq, xa_pq, xa_gl, xa_args, xa_ri, xa_rz, xa_rv, xa_s1, xa_s2, xa_c1, eq_self, List.getElem?_cons_succ, List.getElem?_cons_zero, true_and, and_true, nI_add, pk_mul, xt_in, xt_cl, xt_i0, xt_i1, xa_kc, xa_w8, xa_fit, lg_sl, List.flatMap_cons, List.flatMap_nil, List.map_cons, List.map_nil, List.sum_cons, List.sum_nil, Value.category, List.length_cons, List.length_nil, List.length_append, xa_rc, xa_rf, exists_eq_left, exists_eq', Option.some.injEq, Sum.inr.injEq, Prod.mk.injEq, Option.toList_some, Option.toList_none, List.cons_append, List.nil_append, Nat.reduceAdd, Nat.reduceLeDiff, Nat.reduceLT, List.set_cons_zero, List.set_cons_succ, eq_self, or_true, true_or, reduceIte, xt_ne, h0, h1, hO, t0, s0, xt_n0, not_false_eq_true, xt_div, xt_remA, co, mx_10, xt_b0]
  unfold xq_act
  by_cases c : 2 ≤ xsh S (d % xnS T)
  · simp only [c, not_true_eq_false, if_false, if_true]
    simp (disch := omega) only [↓ra_88_33, xa_kli, xa_klr, xa_kll, xa_ki, xa_kl, xa_kr, xa_kii, xa_kk, xa_kir, xa_krr, xa_kiir, xa_krir, xa_kdup, xa_kdup2, xa_kcp, xa_gf, xa_pf, xa_ga, xa_pa, xa_gq, xa_pq, xa_gl, xa_args, xa_ri, xa_rz, xa_rv, xa_s1, xa_s2, xa_c1, eq_self, List.getElem?_cons_succ, List.getElem?_cons_zero, true_and, and_true, nI_add, pk_mul, xt_in, xt_cl, xt_i0, xt_i1, xa_kc, xa_w8, xa_fit, lg_sl, List.flatMap_cons, List.flatMap_nil, List.map_cons, List.map_nil, List.sum_cons, List.sum_nil, Value.category, List.length_cons, List.length_nil, List.length_append, xa_rc, xa_rf, exists_eq_left, exists_eq', Option.some.injEq, Sum.inr.injEq, Prod.mk.injEq, Option.toList_some, Option.toList_none, List.cons_append, List.nil_append, Nat.reduceAdd, Nat.reduceLeDiff, Nat.reduceLT, List.set_cons_zero, List.set_cons_succ, eq_self, or_true, true_or, reduceIte, xt_ne]
    exact ⟨xa_fr_rf, hS⟩
  · simp only [c, not_false_eq_true, if_false, if_true]
    simp (disch := omega) only [↓ra_88_34, ↓ra_88_35, ↓ra_88_37, ↓ra_88_38, ↓ra_88_39, ↓ra_88_40, ↓ra_88_41, ↓ra_88_42, xa_kli, xa_klr, xa_kll, xa_ki, xa_kl, xa_kr, xa_kii, xa_kk, xa_kir, xa_krr, xa_kiir, xa_krir, xa_kdup, xa_kdup2, xa_kcp, xa_gf, xa_pf, xa_ga, xa_pa, xa_gq, xa_pq, xa_gl, xa_args, xa_ri, xa_rz, xa_rv, xa_s1, xa_s2, xa_c1, eq_self, List.getElem?_cons_succ, List.getElem?_cons_zero, true_and, and_true, nI_add, pk_mul, xt_in, xt_cl, xt_i0, xt_i1, xa_kc, xa_w8, xa_fit, lg_sl, List.flatMap_cons, List.flatMap_nil, List.map_cons, List.map_nil, List.sum_cons, List.sum_nil, Value.category, List.length_cons, List.length_nil, List.length_append, xa_rc, xa_rf, exists_eq_left, exists_eq', Option.some.injEq, Sum.inr.injEq, Prod.mk.injEq, Option.toList_some, Option.toList_none, List.cons_append, List.nil_append, Nat.reduceAdd, Nat.reduceLeDiff, Nat.reduceLT, List.set_cons_zero, List.set_cons_succ, eq_self, or_true, true_or, reduceIte, xt_ne, h0, h1, xt_n0, not_false_eq_true, xt_div, xt_remA, xt_eq]
    by_cases c0 : d / 64 % 3 = 0
    · simp only [if_pos c0]
      obtain ⟨⟨z1, M1⟩, cE1, c1, f1, hS1⟩ := pc_settle hS (d % xnS T) (d / 8 % xC T) hm b6
      have c1 : z1 = none := c1
      subst c1
      dsimp only at f1 hS1
      simp (disch := omega) only [↓ra_88_45, ↓ra_88_46, ↓ra_88_49, ↓ra_88_50, ↓ra_88_51, ↓ra_88_54, ↓ra_88_55, ↓ra_88_57, ↓ra_88_58, ↓ra_88_61, ↓ra_88_64, ↓ra_88_90, xa_kli, xa_klr, xa_kll, xa_ki, xa_kl, xa_kr, xa_kii, xa_kk, xa_kir, xa_krr, xa_kiir, xa_krir, xa_kdup, xa_kdup2, xa_kcp, xa_gf, xa_pf, xa_ga, xa_pa, xa_gq, xa_pq, xa_gl, xa_args, xa_ri, xa_rz, xa_rv, xa_s1, xa_s2, xa_c1, eq_self, List.getElem?_cons_succ, List.getElem?_cons_zero, true_and, and_true, nI_add, pk_mul, xt_in, xt_cl, xt_i0, xt_i1, xa_kc, xa_w8, xa_fit, lg_sl, List.flatMap_cons, List.flatMap_nil, List.map_cons, List.map_nil, List.sum_cons, List.sum_nil, Value.category, List.length_cons, List.length_nil, List.length_append, xa_rc, xa_rf, exists_eq_left, exists_eq', Option.some.injEq, Sum.inr.injEq, Prod.mk.injEq, Option.toList_some, Option.toList_none, List.cons_append, List.nil_append, Nat.reduceAdd, Nat.reduceLeDiff, Nat.reduceLT, List.set_cons_zero, List.set_cons_succ, eq_self, or_true, true_or, reduceIte, xt_ne, h0, h1, hO, t0, s0, xt_n0, not_false_eq_true, xt_div, cr, mx_40, xa_iff cE1, mx_12]
      exact ⟨f1, hS1⟩
    · simp only [if_neg c0]
      simp (disch := omega) only [↓ra_88_67, ↓ra_88_68, ↓ra_88_69, xa_kli, xa_klr, xa_kll, xa_ki, xa_kl, xa_kr, xa_kii, xa_kk, xa_kir, xa_krr, xa_kiir, xa_krir, xa_kdup, xa_kdup2, xa_kcp, xa_gf, xa_pf, xa_ga, xa_pa, xa_gq, xa_pq, xa_gl, xa_args, xa_ri, xa_rz, xa_rv, xa_s1, xa_s2, xa_c1, eq_self, List.getElem?_cons_succ, List.getElem?_cons_zero, true_and, and_true, nI_add, pk_mul, xt_in, xt_cl, xt_i0, xt_i1, xa_kc, xa_w8, xa_fit, lg_sl, List.flatMap_cons, List.flatMap_nil, List.map_cons, List.map_nil, List.sum_cons, List.sum_nil, Value.category, List.length_cons, List.length_nil, List.length_append, xa_rc, xa_rf, exists_eq_left, exists_eq', Option.some.injEq, Sum.inr.injEq, Prod.mk.injEq, Option.toList_some, Option.toList_none, List.cons_append, List.nil_append, Nat.reduceAdd, Nat.reduceLeDiff, Nat.reduceLT, List.set_cons_zero, List.set_cons_succ, eq_self, or_true, true_or, reduceIte, xt_ne, h0, h1, xt_eq]
      by_cases c2 : d / 64 % 3 = 1
      · simp only [if_pos c2]
        simp (disch := omega) only [↓ra_88_72, ↓ra_88_73, ↓ra_88_76, ↓ra_88_77, ↓ra_88_78, ↓ra_88_79, xa_kli, xa_klr, xa_kll, xa_ki, xa_kl, xa_kr, xa_kii, xa_kk, xa_kir, xa_krr, xa_kiir, xa_krir, xa_kdup, xa_kdup2, xa_kcp, xa_gf, xa_pf, xa_ga, xa_pa, xa_gq, xa_pq, xa_gl, xa_args, xa_ri, xa_rz, xa_rv, xa_s1, xa_s2, xa_c1, eq_self, List.getElem?_cons_succ, List.getElem?_cons_zero, true_and, and_true, nI_add, pk_mul, xt_in, xt_cl, xt_i0, xt_i1, xa_kc, xa_w8, xa_fit, lg_sl, List.flatMap_cons, List.flatMap_nil, List.map_cons, List.map_nil, List.sum_cons, List.sum_nil, Value.category, List.length_cons, List.length_nil, List.length_append, xa_rc, xa_rf, exists_eq_left, exists_eq', Option.some.injEq, Sum.inr.injEq, Prod.mk.injEq, Option.toList_some, Option.toList_none, List.cons_append, List.nil_append, Nat.reduceAdd, Nat.reduceLeDiff, Nat.reduceLT, List.set_cons_zero, List.set_cons_succ, eq_self, or_true, true_or, reduceIte, xt_ne, h0, h1, xt_n0, not_false_eq_true, xt_div, xt_remA, xt_eq]
        by_cases c3 : d / 256 % 4 = 0
        · simp only [if_pos c3]
          obtain ⟨⟨z1, M1⟩, cE1, c1, f1, hS1⟩ := pc_goOut hS (d % xnS T) hm b6
          have c1 : z1 = none := c1
          subst c1
          dsimp only at f1 hS1
          simp (disch := omega) only [↓ra_88_82, ↓ra_88_83, ↓ra_88_86, ↓ra_88_87, ↓ra_88_90, xa_kli, xa_klr, xa_kll, xa_ki, xa_kl, xa_kr, xa_kii, xa_kk, xa_kir, xa_krr, xa_kiir, xa_krir, xa_kdup, xa_kdup2, xa_kcp, xa_gf, xa_pf, xa_ga, xa_pa, xa_gq, xa_pq, xa_gl, xa_args, xa_ri, xa_rz, xa_rv, xa_s1, xa_s2, xa_c1, eq_self, List.getElem?_cons_succ, List.getElem?_cons_zero, true_and, and_true, nI_add, pk_mul, xt_in, xt_cl, xt_i0, xt_i1, xa_kc, xa_w8, xa_fit, lg_sl, List.flatMap_cons, List.flatMap_nil, List.map_cons, List.map_nil, List.sum_cons, List.sum_nil, Value.category, List.length_cons, List.length_nil, List.length_append, xa_rc, xa_rf, exists_eq_left, exists_eq', Option.some.injEq, Sum.inr.injEq, Prod.mk.injEq, Option.toList_some, Option.toList_none, List.cons_append, List.nil_append, Nat.reduceAdd, Nat.reduceLeDiff, Nat.reduceLT, List.set_cons_zero, List.set_cons_succ, eq_self, or_true, true_or, reduceIte, xt_ne, h0, h1, hO, s0, xa_iff cE1, mx_13]
          refine ⟨f1, ?_⟩
          rw [if_pos ⟨c2, c3⟩]
          exact hS1
        · simp only [if_neg c3]
          simp (disch := omega) only [↓ra_88_90, xa_kli, xa_klr, xa_kll, xa_ki, xa_kl, xa_kr, xa_kii, xa_kk, xa_kir, xa_krr, xa_kiir, xa_krir, xa_kdup, xa_kdup2, xa_kcp, xa_gf, xa_pf, xa_ga, xa_pa, xa_gq, xa_pq, xa_gl, xa_args, xa_ri, xa_rz, xa_rv, xa_s1, xa_s2, xa_c1, eq_self, List.getElem?_cons_succ, List.getElem?_cons_zero, true_and, and_true, nI_add, pk_mul, xt_in, xt_cl, xt_i0, xt_i1, xa_kc, xa_w8, xa_fit, lg_sl, List.flatMap_cons, List.flatMap_nil, List.map_cons, List.map_nil, List.sum_cons, List.sum_nil, Value.category, List.length_cons, List.length_nil, List.length_append, xa_rc, xa_rf, exists_eq_left, exists_eq', Option.some.injEq, Sum.inr.injEq, Prod.mk.injEq, Option.toList_some, Option.toList_none, List.cons_append, List.nil_append, Nat.reduceAdd, Nat.reduceLeDiff, Nat.reduceLT, List.set_cons_zero, List.set_cons_succ, eq_self, or_true, true_or, reduceIte, xt_ne]
          refine ⟨xa_fr_rf, ?_⟩
          rw [if_neg (fun h => h.2)]
          exact hS
      · simp only [if_neg c2]
        simp (disch := omega) only [↓ra_88_90, xa_kli, xa_klr, xa_kll, xa_ki, xa_kl, xa_kr, xa_kii, xa_kk, xa_kir, xa_krr, xa_kiir, xa_krir, xa_kdup, xa_kdup2, xa_kcp, xa_gf, xa_pf, xa_ga, xa_pa, xa_gq, xa_pq, xa_gl, xa_args, xa_ri, xa_rz, xa_rv, xa_s1, xa_s2, xa_c1, eq_self, List.getElem?_cons_succ, List.getElem?_cons_zero, true_and, and_true, nI_add, pk_mul, xt_in, xt_cl, xt_i0, xt_i1, xa_kc, xa_w8, xa_fit, lg_sl, List.flatMap_cons, List.flatMap_nil, List.map_cons, List.map_nil, List.sum_cons, List.sum_nil, Value.category, List.length_cons, List.length_nil, List.length_append, xa_rc, xa_rf, exists_eq_left, exists_eq', Option.some.injEq, Sum.inr.injEq, Prod.mk.injEq, Option.toList_some, Option.toList_none, List.cons_append, List.nil_append, Nat.reduceAdd, Nat.reduceLeDiff, Nat.reduceLT, List.set_cons_zero, List.set_cons_succ, eq_self, or_true, true_or, reduceIte, xt_ne]
        refine ⟨xa_fr_rf, ?_⟩
        rw [if_neg (fun h => h.1)]
        exact hS
theorem pc_power {M : xa_M} (a n : Nat) (hn : n < 1000) : xa_E 89 0 (xa_ent [.int (nI a), .int (nI n)]) [] M (some (.int (nI (a ^ n))), M) := by
  refine xa_go2 (fun lv h0 h1 => ?_)
  have loop : ∀ (r i : Nat) (lv : xa_L), lv 0 = some (.int (nI a)) → lv 1 = some (.int (nI n)) → lv 2 = some (.int (nI (a ^ i))) → lv 3 = some (.int (nI i)) → i + r = n → xa_E 89 4 lv [] M (some (.int (nI (a ^ n))), M) := by
    intro r
    induction r with
    | zero =>
      intro i lv h0 h1 h2 h3 e
      have e : i = n := by omega
      subst e
      simp (disch := omega) only [↓ra_89_4, ↓ra_89_5, ↓ra_89_6, xa_kli, xa_klr, xa_kll, xa_ki, xa_kl, xa_kr, xa_kii, xa_kk, xa_kir, xa_krr, xa_kiir, xa_krir, xa_kdup, xa_kdup2, xa_kcp, xa_gf, xa_pf, xa_ga, xa_pa, xa_gq, xa_pq, xa_gl, xa_args, xa_ri, xa_rz, xa_rv, xa_s1, xa_s2, xa_c1, eq_self, List.getElem?_cons_succ, List.getElem?_cons_zero, true_and, and_true, nI_add, pk_mul, xt_in, xt_cl, xt_i0, xt_i1, h0, h1, h2, h3, xt_le, Nat.le_refl, if_true]
      simp only [↓ra_89_19, ↓ra_89_20, xa_kli, xa_klr, xa_kll, xa_ki, xa_kl, xa_kr, xa_kii, xa_kk, xa_kir, xa_krr, xa_kiir, xa_krir, xa_kdup, xa_kdup2, xa_kcp, xa_gf, xa_pf, xa_ga, xa_pa, xa_gq, xa_pq, xa_gl, xa_args, xa_ri, xa_rz, xa_rv, xa_s1, xa_s2, xa_c1, eq_self, List.getElem?_cons_succ, List.getElem?_cons_zero, true_and, and_true, nI_add, pk_mul, xt_in, xt_cl, xt_i0, xt_i1, h2]
    | succ r ih =>
      intro i lv h0 h1 h2 h3 e
      simp (disch := omega) only [↓ra_89_4, ↓ra_89_5, ↓ra_89_6, xa_kli, xa_klr, xa_kll, xa_ki, xa_kl, xa_kr, xa_kii, xa_kk, xa_kir, xa_krr, xa_kiir, xa_krir, xa_kdup, xa_kdup2, xa_kcp, xa_gf, xa_pf, xa_ga, xa_pa, xa_gq, xa_pq, xa_gl, xa_args, xa_ri, xa_rz, xa_rv, xa_s1, xa_s2, xa_c1, eq_self, List.getElem?_cons_succ, List.getElem?_cons_zero, true_and, and_true, nI_add, pk_mul, xt_in, xt_cl, xt_i0, xt_i1, h0, h1, h2, h3, xt_le]
      rw [if_neg (by omega)]
      simp (disch := omega) only [↓ra_89_9, ↓ra_89_10, ↓ra_89_11, ↓ra_89_12, ↓ra_89_13, ↓ra_89_16, xa_kli, xa_klr, xa_kll, xa_ki, xa_kl, xa_kr, xa_kii, xa_kk, xa_kir, xa_krr, xa_kiir, xa_krir, xa_kdup, xa_kdup2, xa_kcp, xa_gf, xa_pf, xa_ga, xa_pa, xa_gq, xa_pq, xa_gl, xa_args, xa_ri, xa_rz, xa_rv, xa_s1, xa_s2, xa_c1, eq_self, List.getElem?_cons_succ, List.getElem?_cons_zero, true_and, and_true, nI_add, pk_mul, xt_in, xt_cl, xt_i0, xt_i1, xa_kc, xa_w8, xa_fit, lg_sl, List.flatMap_cons, List.flatMap_nil, List.map_cons, List.map_nil, List.sum_cons, List.sum_nil, Value.category, List.length_cons, List.length_nil, List.length_append, xa_rc, xa_rf, exists_eq_left, exists_eq', Option.some.injEq, Sum.inr.injEq, Prod.mk.injEq, Option.toList_some, Option.toList_none, List.cons_append, List.nil_append, Nat.reduceAdd, Nat.reduceLeDiff, Nat.reduceLT, List.set_cons_zero, List.set_cons_succ, eq_self, or_true, true_or, reduceIte, xt_ne, h0, h1, h2, h3]
      exact ih (i + 1) _ (by simp [xa_s1, xa_c1, h0]) (by simp [xa_s1, xa_c1, h1]) (by simp [xa_s1, xa_c1, Nat.pow_succ]) (by simp [xa_s1, xa_c1]) (by omega)
  simp only [↓ra_89_0, ↓ra_89_1, ↓ra_89_2, ↓ra_89_3, xa_kli, xa_klr, xa_kll, xa_ki, xa_kl, xa_kr, xa_kii, xa_kk, xa_kir, xa_krr, xa_kiir, xa_krir, xa_kdup, xa_kdup2, xa_kcp, xa_gf, xa_pf, xa_ga, xa_pa, xa_gq, xa_pq, xa_gl, xa_args, xa_ri, xa_rz, xa_rv, xa_s1, xa_s2, xa_c1, eq_self, List.getElem?_cons_succ, List.getElem?_cons_zero, true_and, and_true, nI_add, pk_mul, xt_in, xt_cl, xt_i0, xt_i1]
  exact loop n 0 _ (by simp [xa_s1, xa_c1, h0]) (by simp [xa_s1, xa_c1, h1]) (by simp [xa_s1, xa_c1]) (by simp [xa_s1, xa_c1]) (by omega)
/-- the common divisor, as it is looked for -/
def xq_cd : Nat → Nat → Nat → Nat
  | 0, a, _ => a
  | r + 1, a, b => if b = 0 then a else xq_cd r b (a % b)
theorem pc_commonDivisor {M : xa_M} (a b : Nat) (ha : a < 2147483648) (hb : b < 2147483648) : xa_E 90 0 (xa_ent [.int (nI a), .int (nI b)]) [] M (some (.int (nI (xq_cd 64 a b))), M) := by
  refine xa_go2 (fun lv h0 h1 => ?_)
  have loop : ∀ (r i a b : Nat) (lv : xa_L), a < 2147483648 → b < 2147483648 → lv 2 = some (.int (nI a)) → lv 3 = some (.int (nI b)) → lv 4 = some (.int (nI i)) → i + r = 64 → xa_E 90 7 lv [] M (some (.int (nI (xq_cd r a b))), M) := by
    intro r
    induction r with
    | zero =>
      intro i a b lv ha hb h2 h3 h4 e
      have e : i = 64 := by omega
      subst e
      simp (disch := omega) only [↓ra_90_7, ↓ra_90_9, ↓ra_90_11, xa_kli, xa_klr, xa_kll, xa_ki, xa_kl, xa_kr, xa_kii, xa_kk, xa_kir, xa_krr, xa_kiir, xa_krir, xa_kdup, xa_kdup2, xa_kcp, xa_gf, xa_pf, xa_ga, xa_pa, xa_gq, xa_pq, xa_gl, xa_args, xa_ri, xa_rz, xa_rv, xa_s1, xa_s2, xa_c1, eq_self, List.getElem?_cons_succ, List.getElem?_cons_zero, true_and, and_true, nI_add, pk_mul, xt_in, xt_cl, xt_i0, xt_i1, h2, h3, h4, xt_le, Nat.le_refl, if_true]
      simp only [↓ra_90_34, ↓ra_90_35, xa_kli, xa_klr, xa_kll, xa_ki, xa_kl, xa_kr, xa_kii, xa_kk, xa_kir, xa_krr, xa_kiir, xa_krir, xa_kdup, xa_kdup2, xa_kcp, xa_gf, xa_pf, xa_ga, xa_pa, xa_gq, xa_pq, xa_gl, xa_args, xa_ri, xa_rz, xa_rv, xa_s1, xa_s2, xa_c1, eq_self, List.getElem?_cons_succ, List.getElem?_cons_zero, true_and, and_true, nI_add, pk_mul, xt_in, xt_cl, xt_i0, xt_i1, h2, xq_cd]
    | succ r ih =>
      intro i a b lv ha hb h2 h3 h4 e
      simp (disch := omega) only [↓ra_90_7, ↓ra_90_9, ↓ra_90_11, xa_kli, xa_klr, xa_kll, xa_ki, xa_kl, xa_kr, xa_kii, xa_kk, xa_kir, xa_krr, xa_kiir, xa_krir, xa_kdup, xa_kdup2, xa_kcp, xa_gf, xa_pf, xa_ga, xa_pa, xa_gq, xa_pq, xa_gl, xa_args, xa_ri, xa_rz, xa_rv, xa_s1, xa_s2, xa_c1, eq_self, List.getElem?_cons_succ, List.getElem?_cons_zero, true_and, and_true, nI_add, pk_mul, xt_in, xt_cl, xt_i0, xt_i1, h2, h3, h4, xt_le]
      rw [if_neg (by omega)]
      simp (disch := omega) only [↓ra_90_14, ↓ra_90_15, xa_kli, xa_klr, xa_kll, xa_ki, xa_kl, xa_kr, xa_kii, xa_kk, xa_kir, xa_krr, xa_kiir, xa_krir, xa_kdup, xa_kdup2, xa_kcp, xa_gf, xa_pf, xa_ga, xa_pa, xa_gq, xa_pq, xa_gl, xa_args, xa_ri, xa_rz, xa_rv, xa_s1, xa_s2, xa_c1, eq_self, List.getElem?_cons_succ, List.getElem?_cons_zero, true_and, and_true, nI_add, pk_mul, xt_in, xt_cl, xt_i0, xt_i1, xa_kc, xa_w8, xa_fit, lg_sl, List.flatMap_cons, List.flatMap_nil, List.map_cons, List.map_nil, List.sum_cons, List.sum_nil, Value.category, List.length_cons, List.length_nil, List.length_append, xa_rc, xa_rf, exists_eq_left, exists_eq', Option.some.injEq, Sum.inr.injEq, Prod.mk.injEq, Option.toList_some, Option.toList_none, List.cons_append, List.nil_append, Nat.reduceAdd, Nat.reduceLeDiff, Nat.reduceLT, List.set_cons_zero, List.set_cons_succ, eq_self, or_true, true_or, reduceIte, xt_ne, h2, h3, h4, xt_eq]
      unfold xq_cd
      by_cases c : b = 0
      · rw [if_pos c, if_pos c]
        simp only [↓ra_90_34, ↓ra_90_35, xa_kli, xa_klr, xa_kll, xa_ki, xa_kl, xa_kr, xa_kii, xa_kk, xa_kir, xa_krr, xa_kiir, xa_krir, xa_kdup, xa_kdup2, xa_kcp, xa_gf, xa_pf, xa_ga, xa_pa, xa_gq, xa_pq, xa_gl, xa_args, xa_ri, xa_rz, xa_rv, xa_s1, xa_s2, xa_c1, eq_self, List.getElem?_cons_succ, List.getElem?_cons_zero, true_and, and_true, nI_add, pk_mul, xt_in, xt_cl, xt_i0, xt_i1, h2]
      · rw [if_neg c, if_neg c]
        simp (disch := omega) only [↓ra_90_18, ↓ra_90_19, ↓ra_90_20, ↓ra_90_21, ↓ra_90_23, ↓ra_90_24, ↓ra_90_25, ↓ra_90_27, ↓ra_90_28, ↓ra_90_31, xa_kli, xa_klr, xa_kll, xa_ki, xa_kl, xa_kr, xa_kii, xa_kk, xa_kir, xa_krr, xa_kiir, xa_krir, xa_kdup, xa_kdup2, xa_kcp, xa_gf, xa_pf, xa_ga, xa_pa, xa_gq, xa_pq, xa_gl, xa_args, xa_ri, xa_rz, xa_rv, xa_s1, xa_s2, xa_c1, eq_self, List.getElem?_cons_succ, List.getElem?_cons_zero, true_and, and_true, nI_add, pk_mul, xt_in, xt_cl, xt_i0, xt_i1, xa_kc, xa_w8, xa_fit, lg_sl, List.flatMap_cons, List.flatMap_nil, List.map_cons, List.map_nil, List.sum_cons, List.sum_nil, Value.category, List.length_cons, List.length_nil, List.length_append, xa_rc, xa_rf, exists_eq_left, exists_eq', Option.some.injEq, Sum.inr.injEq, Prod.mk.injEq, Option.toList_some, Option.toList_none, List.cons_append, List.nil_append, Nat.reduceAdd, Nat.reduceLeDiff, Nat.reduceLT, List.set_cons_zero, List.set_cons_succ, eq_self, or_true, true_or, reduceIte, xt_ne, h2, h3, h4, xt_n0, not_false_eq_true, xt_div, xt_remA]
        exact ih (i + 1) b (a % b) _ hb (by have := Nat.mod_lt a (show 0 < b by omega); omega) (by simp [xa_s1, xa_c1, h3]) (by simp [xa_s1, xa_c1]) (by simp [xa_s1, xa_c1]) (by omega)
  simp only [↓ra_90_0, ↓ra_90_1, ↓ra_90_2, ↓ra_90_3, ↓ra_90_4, ↓ra_90_5, xa_kli, xa_klr, xa_kll, xa_ki, xa_kl, xa_kr, xa_kii, xa_kk, xa_kir, xa_krr, xa_kiir, xa_krir, xa_kdup, xa_kdup2, xa_kcp, xa_gf, xa_pf, xa_ga, xa_pa, xa_gq, xa_pq, xa_gl, xa_args, xa_ri, xa_rz, xa_rv, xa_s1, xa_s2, xa_c1, eq_self, List.getElem?_cons_succ, List.getElem?_cons_zero, true_and, and_true, nI_add, pk_mul, xt_in, xt_cl, xt_i0, xt_i1, h0, h1]
  simp (disch := omega) only [xa_kc, xa_w8, xa_fit, lg_sl, List.flatMap_cons, List.flatMap_nil, List.map_cons, List.map_nil, List.sum_cons, List.sum_nil, Value.category, List.length_cons, List.length_nil, List.length_append, xa_rc, xa_rf, exists_eq_left, exists_eq', Option.some.injEq, Sum.inr.injEq, Prod.mk.injEq, Option.toList_some, Option.toList_none, List.cons_append, List.nil_append, Nat.reduceAdd, Nat.reduceLeDiff, Nat.reduceLT, List.set_cons_zero, List.set_cons_succ, eq_self, or_true, true_or, reduceIte, xt_ne, xa_s1, h1, xa_kli]
  exact loop 64 0 a b _ ha hb (by simp [xa_s1, xa_c1]) (by simp [xa_s1, xa_c1]) (by simp [xa_s1, xa_c1]) (by omega)
