/-- a man more in the standing -/
def xq_po (S : xt_S) (m q : Nat) : xt_S := (xsd S, xsh S, xsq S, xss S, xsm S, fun j => if j = m then q else xsp S j)
def xq_hn (T : xt_T) : Nat → xt_S → xt_S
  | 0, S => S
  | r + 1, S => if 0 < xq_n T S 0 then xq_hn T r (xq_day T S) else S
theorem xi_am {T : xt_T} {l q st : Nat} (iT : xi_T T) (h5 : xnM T ≤ 5) (hl : l ≤ 2) (hq : q < xC T) (hst : st ≤ 5) : xi_T (xq_am T l q st) := by
  obtain ⟨⟨b1, b2, b3, b4, b5, b6, b7, b8⟩, bs, bm, bw⟩ := iT
  refine ⟨⟨b1, b2, b3, b4, b5, b6, by show xnM T + 1 ≤ 6; omega, b8⟩, bs, fun m hm => ?_, bw⟩
  have hm : m < xnM T + 1 := hm
  show (if m = xnM T then l else xtm T m) ≤ 2 ∧ (if m = xnM T then q else xtp T m) < xC T ∧ (if m = xnM T then st else xts T m) ≤ 5
  by_cases e : m = xnM T
  · rw [if_pos e, if_pos e, if_pos e]; exact ⟨hl, hq, hst⟩
  · rw [if_neg e, if_neg e, if_neg e]; exact bm m (by omega)
theorem xi_po {T : xt_T} {S : xt_S} {l q st : Nat} (iS : xi_S T S) (hq : q < xC T) : xi_S (xq_am T l q st) (xq_po S (xnM T) q) := by
  obtain ⟨d0, ds, dp⟩ := iS
  refine ⟨d0, ds, fun m hm => ?_⟩
  have hm : m < xnM T + 1 := hm
  show (if m = xnM T then q else xsp S m) < xC T
  by_cases e : m = xnM T
  · rw [if_pos e]; exact hq
  · rw [if_neg e]; exact dp m (by omega)
theorem pc_takenWithOneMore {M : xa_M} {b : Nat} {T T0 : xt_T} {S S0 : xt_S} (hO : xh_O M b) (hT : xh_T M (b + 4) T) (hU : xh_T M (b + 13) T0) (hS : xh_S M (b + 22) (xnS T) (xnM T) S) (hN : xh_S M (b + 28) 0 0 S0) (iT : xi_T T) (h5 : xnM T ≤ 5) (iS : xi_S T S) (hd : xsd S ≤ 9000) (l q st : Nat) (hl : l ≤ 2) (hq : q < xC T) (hst : st ≤ 5) :
    ∃ z, xa_E 84 0 (xa_ent [.ref b, .int (nI l), .int (nI q), .int (nI st)]) [] M z ∧ z.1 = some (.int (nI (xq_n (xq_am T l q st) (xq_hn (xq_am T l q st) 60 (xq_po S (xnM T) q)) 2))) ∧ xa_f2 (b + 13) (b + 22) (b + 28) (b + 34) M z.2 ∧ (∃ T1, xh_T z.2 (b + 13) T1) ∧ ∃ S1, xh_S z.2 (b + 28) 0 0 S1 := by
  obtain ⟨⟨b1, b2, b3, b4, b5, b6, b7, b8⟩, bs, bm, bw⟩ := id iT
  have iT1 := xi_am (l := l) (st := st) iT h5 hl hq hst
  have o0 : xh_O M b := hO
  unfold xh_O at o0
  refine xa_ge4 (fun lv h0 h1 h2 h3 => ?_)
  obtain ⟨⟨z1, M1⟩, cE1, c1, f1, hU1⟩ := pc_copyT hU hT (by omega) b6 b7 b8
  have c1 : z1 = none := c1
  subst c1
  dsimp only at f1 hU1
  obtain ⟨⟨z2, M2⟩, cE2, c2, f2, hN2⟩ := pc_copyS (xh_S_fr hN f1 (by omega)) (xh_S_fr hS f1 (by omega)) (by omega) b6 b7
  have c2 : z2 = none := c2
  subst c2
  dsimp only at f2 hN2
  have hU2 := xh_T_fr hU1 f2 (by omega)
  have o1 := (f1.1 b (by omega)).trans o0
  have o2 := (f2.1 b (by omega)).trans o1
  have n0 := hN.1
  have n1 := (xh_S_fr hN f1 (by omega)).1
  have m1 := (xh_S_fr hS f1 (by omega)).1
  have t0 := hT.1
  have u0 := hU.1
  have u2 := hU2.1
  obtain ⟨⟨z3, M3⟩, cE3, c3, f3, hU3⟩ := pc_addMan hU2 h5 l q st
  have c3 : z3 = some (.int (nI 1)) := c3
  subst c3
  dsimp only at f3 hU3
  have hN3 := xh_S_fr hN2 f3 (by omega)
  have o3 := (f3.1 b (by omega)).trans o2
  have u3 := hU3.1
  obtain ⟨v0, v1, v2, v3, v4, ⟨g5, v5, e5⟩⟩ := hN3
  simp (disch := omega) only [↓ra_84_0, ↓ra_84_1, ↓ra_84_4, ↓ra_84_5, ↓ra_84_8, ↓ra_84_11, ↓ra_84_12, ↓ra_84_15, ↓ra_84_16, ↓ra_84_19, ↓ra_84_22, ↓ra_84_23, ↓ra_84_26, ↓ra_84_27, ↓ra_84_28, ↓ra_84_29, ↓ra_84_32, xa_kli, xa_klr, xa_kll, xa_ki, xa_kl, xa_kr, xa_kii, xa_kk, xa_kir, xa_krr, xa_kiir, xa_krir, xa_kdup, xa_kdup2, xa_kcp, xa_gf, xa_pf, xa_ga, xa_pa, xa_gq, xa_pq, xa_gl, xa_args, xa_ri, xa_rz, xa_rv, xa_s1, xa_s2, xa_c1, eq_self, List.getElem?_cons_succ, List.getElem?_cons_zero, true_and, and_true, nI_add, pk_mul, xt_in, xt_cl, xt_i0, xt_i1, xa_kc, xa_w8, xa_fit, lg_sl, List.flatMap_cons, List.flatMap_nil, List.map_cons, List.map_nil, List.sum_cons, List.sum_nil, Value.category, List.length_cons, List.length_nil, List.length_append, xa_rc, xa_rf, exists_eq_left, exists_eq', Option.some.injEq, Sum.inr.injEq, Prod.mk.injEq, Option.toList_some, Option.toList_none, List.cons_append, List.nil_append, Nat.reduceAdd, Nat.reduceLeDiff, Nat.reduceLT, List.set_cons_zero, List.set_cons_succ, eq_self, or_true, true_or, reduceIte, xt_ne, h0, h1, h2, h3, o0, o1, o2, n0, n1, m1, t0, u0, u2, xa_iff cE1, xa_iff cE2, xa_iff cE3, mx_30, mx_9, mx_37, xt_eq, Nat.one_ne_zero, if_false]
  have em : nI (xnM (xq_am T l q st)) - nI 1 = nI (xnM T) := xt_sub (xnM T + 1) 1 (by omega)
  simp (disch := omega) only [↓ra_84_38, ↓ra_84_39, ↓ra_84_42, ↓ra_84_45, ↓ra_84_46, ↓ra_84_49, ↓ra_84_52, ↓ra_84_53, ↓ra_84_54, ↓ra_84_55, xa_kli, xa_klr, xa_kll, xa_ki, xa_kl, xa_kr, xa_kii, xa_kk, xa_kir, xa_krr, xa_kiir, xa_krir, xa_kdup, xa_kdup2, xa_kcp, xa_gf, xa_pf, xa_ga, xa_pa, xa_gq, xa_pq, xa_gl, xa_args, xa_ri, xa_rz, xa_rv, xa_s1, xa_s2, xa_c1, eq_self, List.getElem?_cons_succ, List.getElem?_cons_zero, true_and, and_true, nI_add, pk_mul, xt_in, xt_cl, xt_i0, xt_i1, xa_kc, xa_w8, xa_fit, lg_sl, List.flatMap_cons, List.flatMap_nil, List.map_cons, List.map_nil, List.sum_cons, List.sum_nil, Value.category, List.length_cons, List.length_nil, List.length_append, xa_rc, xa_rf, exists_eq_left, exists_eq', Option.some.injEq, Sum.inr.injEq, Prod.mk.injEq, Option.toList_some, Option.toList_none, List.cons_append, List.nil_append, Nat.reduceAdd, Nat.reduceLeDiff, Nat.reduceLT, List.set_cons_zero, List.set_cons_succ, eq_self, or_true, true_or, reduceIte, xt_ne, h0, h1, h2, h3, o3, u3, v0, v5, em]
  generalize hM4 : xa_st M3 (b + 28 + 5) _ = M4
  have f4 : xa_fr (b + 28) (b + 34) M3 M4 := by rw [← hM4]; exact xa_fr_st (by omega) (by omega)
  have hS4 : xh_S M4 (b + 28) (xnS T) (xnM T + 1) (xq_po S (xnM T) q) := by
    rw [← hM4]
    exact ⟨(xa_st_ne (by omega)).trans v0, xa_ar_ne v1 (by omega), xa_ar_ne v2 (by omega), xa_ar_ne v3 (by omega), xa_ar_ne v4 (by omega), xa_ar_ps e5⟩
  have hU4 := xh_T_fr hU3 f4 (by omega)
  have o4 := (f4.1 b (by omega)).trans o3
  have fr4 : xa_f2 (b + 13) (b + 22) (b + 28) (b + 34) M M4 := xa_f2_2 (xa_f2_1 (xa_f2_2 (xa_f2_1 xa_f2_r f1) f2) f3) f4
  simp (disch := omega) only [↓ra_84_56, ↓ra_84_57, xa_kli, xa_klr, xa_kll, xa_ki, xa_kl, xa_kr, xa_kii, xa_kk, xa_kir, xa_krr, xa_kiir, xa_krir, xa_kdup, xa_kdup2, xa_kcp, xa_gf, xa_pf, xa_ga, xa_pa, xa_gq, xa_pq, xa_gl, xa_args, xa_ri, xa_rz, xa_rv, xa_s1, xa_s2, xa_c1, eq_self, List.getElem?_cons_succ, List.getElem?_cons_zero, true_and, and_true, nI_add, pk_mul, xt_in, xt_cl, xt_i0, xt_i1, xa_kc, xa_w8, xa_fit, lg_sl, List.flatMap_cons, List.flatMap_nil, List.map_cons, List.map_nil, List.sum_cons, List.sum_nil, Value.category, List.length_cons, List.length_nil, List.length_append, xa_rc, xa_rf, exists_eq_left, exists_eq', Option.some.injEq, Sum.inr.injEq, Prod.mk.injEq, Option.toList_some, Option.toList_none, List.cons_append, List.nil_append, Nat.reduceAdd, Nat.reduceLeDiff, Nat.reduceLT, List.set_cons_zero, List.set_cons_succ, eq_self, or_true, true_or, reduceIte, xt_ne, h0, h1, h2, h3]
  have loop : ∀ (r i : Nat) (lv : xa_L) (M5 : xa_M) (S5 : xt_S), lv 0 = some (.ref b) → lv 4 = some (.int (nI i)) → i + r = 60 → xa_fr (b + 28) (b + 34) M4 M5 → xh_S M5 (b + 28) (xnS (xq_am T l q st)) (xnM (xq_am T l q st)) S5 → xi_S (xq_am T l q st) S5 → xsd S5 + r ≤ 100000 → ∃ z, xa_E 84 59 lv [] M5 z ∧ z.1 = some (.int (nI (xq_n (xq_am T l q st) (xq_hn (xq_am T l q st) r S5) 2))) ∧ xa_f2 (b + 13) (b + 22) (b + 28) (b + 34) M z.2 ∧ (∃ T1, xh_T z.2 (b + 13) T1) ∧ ∃ S1, xh_S z.2 (b + 28) 0 0 S1 := by
    intro r
    have fin : ∀ (lv : xa_L) (M5 : xa_M) (S5 : xt_S), lv 0 = some (.ref b) → xa_fr (b + 28) (b + 34) M4 M5 → xh_S M5 (b + 28) (xnS (xq_am T l q st)) (xnM (xq_am T l q st)) S5 → xi_S (xq_am T l q st) S5 → ∃ z, xa_E 84 98 lv [] M5 z ∧ z.1 = some (.int (nI (xq_n (xq_am T l q st) S5 2))) ∧ xa_f2 (b + 13) (b + 22) (b + 28) (b + 34) M z.2 ∧ (∃ T1, xh_T z.2 (b + 13) T1) ∧ ∃ S1, xh_S z.2 (b + 28) 0 0 S1 := by
      intro lv M5 S5 h0 fr hS5 iS5
      have hU5 := xh_T_fr hU4 fr (by omega)
      have o5 := (fr.1 b (by omega)).trans o4
      have ch := xa_iff (pc_howMany hS5 hU5 b6 (fun s hs => by have := (iS5.2.1 s hs).1; omega) 2 (by omega))
      have s0 := hS5.1
      have u5 := hU5.1
      simp (disch := omega) only [↓ra_84_98, ↓ra_84_99, ↓ra_84_102, ↓ra_84_103, ↓ra_84_106, ↓ra_84_107, ↓ra_84_110, xa_kli, xa_klr, xa_kll, xa_ki, xa_kl, xa_kr, xa_kii, xa_kk, xa_kir, xa_krr, xa_kiir, xa_krir, xa_kdup, xa_kdup2, xa_kcp, xa_gf, xa_pf, xa_ga, xa_pa, xa_gq, xa_pq, xa_gl, xa_args, xa_ri, xa_rz, xa_rv, xa_s1, xa_s2, xa_c1, eq_self, List.getElem?_cons_succ, List.getElem?_cons_zero, true_and, and_true, nI_add, pk_mul, xt_in, xt_cl, xt_i0, xt_i1, xa_kc, xa_w8, xa_fit, lg_sl, List.flatMap_cons, List.flatMap_nil, List.map_cons, List.map_nil, List.sum_cons, List.sum_nil, Value.category, List.length_cons, List.length_nil, List.length_append, xa_rc, xa_rf, exists_eq_left, exists_eq', Option.some.injEq, Sum.inr.injEq, Prod.mk.injEq, Option.toList_some, Option.toList_none, List.cons_append, List.nil_append, Nat.reduceAdd, Nat.reduceLeDiff, Nat.reduceLT, List.set_cons_zero, List.set_cons_succ, eq_self, or_true, true_or, reduceIte, xt_ne, h0, o5, s0, u5, ch, mx_14]
      exact ⟨xa_f2_2 fr4 fr, ⟨_, hU5⟩, _, xh_S0 hS5⟩
    induction r with
    | zero =>
      intro i lv M5 S5 h0 h4 e fr hS5 iS5 hd5
      have e : i = 60 := by omega
      subst e
      simp (disch := omega) only [↓ra_84_59, ↓ra_84_61, ↓ra_84_63, xa_kli, xa_klr, xa_kll, xa_ki, xa_kl, xa_kr, xa_kii, xa_kk, xa_kir, xa_krr, xa_kiir, xa_krir, xa_kdup, xa_kdup2, xa_kcp, xa_gf, xa_pf, xa_ga, xa_pa, xa_gq, xa_pq, xa_gl, xa_args, xa_ri, xa_rz, xa_rv, xa_s1, xa_s2, xa_c1, eq_self, List.getElem?_cons_succ, List.getElem?_cons_zero, true_and, and_true, nI_add, pk_mul, xt_in, xt_cl, xt_i0, xt_i1, xa_kc, xa_w8, xa_fit, lg_sl, List.flatMap_cons, List.flatMap_nil, List.map_cons, List.map_nil, List.sum_cons, List.sum_nil, Value.category, List.length_cons, List.length_nil, List.length_append, xa_rc, xa_rf, exists_eq_left, exists_eq', Option.some.injEq, Sum.inr.injEq, Prod.mk.injEq, Option.toList_some, Option.toList_none, List.cons_append, List.nil_append, Nat.reduceAdd, Nat.reduceLeDiff, Nat.reduceLT, List.set_cons_zero, List.set_cons_succ, eq_self, or_true, true_or, reduceIte, xt_ne, h0, h4, xt_le, Nat.le_refl]
      exact fin lv M5 S5 h0 fr hS5 iS5
    | succ r ih =>
      intro i lv M5 S5 h0 h4 e fr hS5 iS5 hd5
      have hU5 := xh_T_fr hU4 fr (by omega)
      have o5 := (fr.1 b (by omega)).trans o4
      have ch := xa_iff (pc_howMany hS5 hU5 b6 (fun s hs => by have := (iS5.2.1 s hs).1; omega) 0 (by omega))
      have s0 := hS5.1
      have u5 := hU5.1
      have nb := xt_cle (fun s => decide (xsh S5 s = 0)) (xnS (xq_am T l q st))
      have nb2 : xq_n (xq_am T l q st) S5 0 < 2147483648 := Nat.lt_of_le_of_lt nb (by show xnS T < _; omega)
      simp (disch := omega) only [↓ra_84_59, ↓ra_84_61, ↓ra_84_63, xa_kli, xa_klr, xa_kll, xa_ki, xa_kl, xa_kr, xa_kii, xa_kk, xa_kir, xa_krr, xa_kiir, xa_krir, xa_kdup, xa_kdup2, xa_kcp, xa_gf, xa_pf, xa_ga, xa_pa, xa_gq, xa_pq, xa_gl, xa_args, xa_ri, xa_rz, xa_rv, xa_s1, xa_s2, xa_c1, eq_self, List.getElem?_cons_succ, List.getElem?_cons_zero, true_and, and_true, nI_add, pk_mul, xt_in, xt_cl, xt_i0, xt_i1, xa_kc, xa_w8, xa_fit, lg_sl, List.flatMap_cons, List.flatMap_nil, List.map_cons, List.map_nil, List.sum_cons, List.sum_nil, Value.category, List.length_cons, List.length_nil, List.length_append, xa_rc, xa_rf, exists_eq_left, exists_eq', Option.some.injEq, Sum.inr.injEq, Prod.mk.injEq, Option.toList_some, Option.toList_none, List.cons_append, List.nil_append, Nat.reduceAdd, Nat.reduceLeDiff, Nat.reduceLT, List.set_cons_zero, List.set_cons_succ, eq_self, or_true, true_or, reduceIte, xt_ne, h0, h4, xt_le]
      simp only [if_neg (show ¬ 60 ≤ i by omega)]
      simp (disch := omega) only [↓ra_84_66, ↓ra_84_67, ↓ra_84_70, ↓ra_84_71, ↓ra_84_74, ↓ra_84_75, ↓ra_84_78, xa_kli, xa_klr, xa_kll, xa_ki, xa_kl, xa_kr, xa_kii, xa_kk, xa_kir, xa_krr, xa_kiir, xa_krir, xa_kdup, xa_kdup2, xa_kcp, xa_gf, xa_pf, xa_ga, xa_pa, xa_gq, xa_pq, xa_gl, xa_args, xa_ri, xa_rz, xa_rv, xa_s1, xa_s2, xa_c1, eq_self, List.getElem?_cons_succ, List.getElem?_cons_zero, true_and, and_true, nI_add, pk_mul, xt_in, xt_cl, xt_i0, xt_i1, xa_kc, xa_w8, xa_fit, lg_sl, List.flatMap_cons, List.flatMap_nil, List.map_cons, List.map_nil, List.sum_cons, List.sum_nil, Value.category, List.length_cons, List.length_nil, List.length_append, xa_rc, xa_rf, exists_eq_left, exists_eq', Option.some.injEq, Sum.inr.injEq, Prod.mk.injEq, Option.toList_some, Option.toList_none, List.cons_append, List.nil_append, Nat.reduceAdd, Nat.reduceLeDiff, Nat.reduceLT, List.set_cons_zero, List.set_cons_succ, eq_self, or_true, true_or, reduceIte, xt_ne, h0, h4, o5, s0, u5, ch, mx_14, xt_le _ _ nb2]
      unfold xq_hn
      by_cases c : 0 < xq_n (xq_am T l q st) S5 0
      · simp only [if_neg (show ¬ xq_n (xq_am T l q st) S5 0 ≤ 0 by omega), if_pos c]
        obtain ⟨⟨z6, M6⟩, cE6, c6, f6, hS6⟩ := pc_goDay hS5 hU5 (by omega) iT1 iS5
        have c6 : z6 = none := c6
        subst c6
        dsimp only at f6 hS6
        simp (disch := omega) only [↓ra_84_81, ↓ra_84_82, ↓ra_84_85, ↓ra_84_86, ↓ra_84_89, ↓ra_84_92, ↓ra_84_95, xa_kli, xa_klr, xa_kll, xa_ki, xa_kl, xa_kr, xa_kii, xa_kk, xa_kir, xa_krr, xa_kiir, xa_krir, xa_kdup, xa_kdup2, xa_kcp, xa_gf, xa_pf, xa_ga, xa_pa, xa_gq, xa_pq, xa_gl, xa_args, xa_ri, xa_rz, xa_rv, xa_s1, xa_s2, xa_c1, eq_self, List.getElem?_cons_succ, List.getElem?_cons_zero, true_and, and_true, nI_add, pk_mul, xt_in, xt_cl, xt_i0, xt_i1, xa_kc, xa_w8, xa_fit, lg_sl, List.flatMap_cons, List.flatMap_nil, List.map_cons, List.map_nil, List.sum_cons, List.sum_nil, Value.category, List.length_cons, List.length_nil, List.length_append, xa_rc, xa_rf, exists_eq_left, exists_eq', Option.some.injEq, Sum.inr.injEq, Prod.mk.injEq, Option.toList_some, Option.toList_none, List.cons_append, List.nil_append, Nat.reduceAdd, Nat.reduceLeDiff, Nat.reduceLT, List.set_cons_zero, List.set_cons_succ, eq_self, or_true, true_or, reduceIte, xt_ne, h0, h4, o5, s0, u5, xa_iff cE6, mx_18]
        exact ih (i + 1) _ _ _ (by simp [xa_s1, xa_c1, h0]) (by simp [xa_s1, xa_c1, nI_add]) (by omega) (xa_fr_tr fr (xa_fr_w f6 (by omega) (by omega))) hS6 (xi_day iT1 iS5 (by omega)) (by show xsd S5 + 1 + r ≤ _; omega)
      · simp only [if_pos (show xq_n (xq_am T l q st) S5 0 ≤ 0 by omega), if_neg c]
        exact fin lv M5 S5 h0 fr hS5 iS5
  exact loop 60 0 _ M4 _ (by simp [xa_s1, xa_c1, h0]) (by simp [xa_s1, xa_c1]) rfl xa_fr_rf hS4 (xi_po iS hq) (by show xsd S + 60 ≤ _; omega)
