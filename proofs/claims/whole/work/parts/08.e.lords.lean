/-- another lord for one -/
def xq_lo (T : xt_T) (s l : Nat) : xt_T := (T.1, xtk T, fun j => if j = s then l else xtl T j, T.2.2.2)
def xq_cb (T : xt_T) (size : Nat) (a b c : Nat → Nat) (s : Nat) : Nat → xt_S → Bool
  | 0, _ => true
  | r + 1, S => if xq_deny size a b c s (xsd (xq_day T S)) (xsh (xq_day T S) s) = true then false else xq_cb T size a b c s r (xq_day T S)
theorem xi_lo {T : xt_T} {s l : Nat} (iT : xi_T T) (hl : l ≤ 2) : xi_T (xq_lo T s l) := by
  obtain ⟨b, bs, bm, bw⟩ := iT
  refine ⟨b, fun j hj => ?_, bm, bw⟩
  have d := bs j hj
  show xtk T j ≤ 3 ∧ (if j = s then l else xtl T j) ≤ 2 ∧ xth T j < xC T
  by_cases e : j = s
  · rw [if_pos e]; exact ⟨d.1, hl, d.2.2⟩
  · rw [if_neg e]; exact d
theorem xi_b {T : xt_T} (iT : xi_T T) : xi_S T (xq_b T) := by
  obtain ⟨⟨b1, -⟩, bs, bm, -⟩ := iT
  exact ⟨Nat.zero_le _, fun s hs => ⟨Nat.zero_le _, (bs s hs).2.2, Nat.zero_le _, Nat.zero_le _, fun _ => ⟨by show 0 < xN T; omega, Nat.zero_le _⟩, fun _ => ⟨rfl, Nat.zero_le _⟩⟩, fun m hm => (bm m hm).2.1⟩
theorem xh_G_fr {M M1 : xa_M} {p size lo hi : Nat} {a b c : Nat → Nat} (h : xh_G M p size a b c) (hf : xa_fr lo hi M M1) (ha : p + 4 ≤ lo ∨ hi ≤ p) : xh_G M1 p size a b c := by
  obtain ⟨h0, h1, h2, h3⟩ := h
  exact ⟨(hf.1 _ (by omega)).trans h0, xa_ar_fr h1 hf (by omega), xa_ar_fr h2 hf (by omega), xa_ar_fr h3 hf (by omega)⟩
theorem pc_couldBeOf {M : xa_M} {b size : Nat} {T T0 : xt_T} {S0 : xt_S} {ga gb gc : Nat → Nat} (hO : xh_O M b) (hT : xh_T M (b + 4) T) (hU : xh_T M (b + 13) T0) (hN : xh_S M (b + 28) 0 0 S0) (hG : xh_G M (b + 98) size ga gb gc) (iT : xi_T T) (hz : size ≤ 8) (hg : ∀ i, i < size → ga i < 2147483648 ∧ gb i < 2147483648 ∧ gc i < 2147483648) (s l : Nat) (hs : s < xnS T) (hl : l ≤ 2) :
    ∃ z, xa_E 85 0 (xa_ent [.ref b, .int (nI s), .int (nI l)]) [] M z ∧ z.1 = some (.int (nI (if xq_cb (xq_lo T s l) size ga gb gc s 99 (xq_b (xq_lo T s l)) = true then 1 else 0))) ∧ xa_f2 (b + 13) (b + 22) (b + 28) (b + 34) M z.2 ∧ (∃ T1, xh_T z.2 (b + 13) T1) ∧ ∃ S1, xh_S z.2 (b + 28) 0 0 S1 := by
  obtain ⟨⟨b1, b2, b3, b4, b5, b6, b7, b8⟩, bs, bm, bw⟩ := id iT
  have iT1 := xi_lo (s := s) iT hl
  have o0 : xh_O M b := hO
  unfold xh_O at o0
  refine xa_ge3 (fun lv h0 h1 h2 => ?_)
  obtain ⟨⟨z1, M1⟩, cE1, c1, f1, hU1⟩ := pc_copyT hU hT (by omega) b6 b7 b8
  have c1 : z1 = none := c1
  subst c1
  dsimp only at f1 hU1
  have o1 := (f1.1 b (by omega)).trans o0
  have t0 := hT.1
  have u0 := hU.1
  obtain ⟨v0, v1, ⟨g2, v2, e2⟩, v3, v4, v5, v6, v7, v8⟩ := hU1
  simp (disch := omega) only [↓ra_85_0, ↓ra_85_1, ↓ra_85_4, ↓ra_85_5, ↓ra_85_8, ↓ra_85_11, ↓ra_85_12, ↓ra_85_15, ↓ra_85_18, ↓ra_85_19, ↓ra_85_20, xa_kli, xa_klr, xa_kll, xa_ki, xa_kl, xa_kr, xa_kii, xa_kk, xa_kir, xa_krr, xa_kiir, xa_krir, xa_kdup, xa_kdup2, xa_kcp, xa_gf, xa_pf, xa_ga, xa_pa, xa_gq, xa_pq, xa_gl, xa_args, xa_ri, xa_rz, xa_rv, xa_s1, xa_s2, xa_c1, eq_self, List.getElem?_cons_succ, List.getElem?_cons_zero, true_and, and_true, nI_add, pk_mul, xt_in, xt_cl, xt_i0, xt_i1, xa_kc, xa_w8, xa_fit, lg_sl, List.flatMap_cons, List.flatMap_nil, List.map_cons, List.map_nil, List.sum_cons, List.sum_nil, Value.category, List.length_cons, List.length_nil, List.length_append, xa_rc, xa_rf, exists_eq_left, exists_eq', Option.some.injEq, Sum.inr.injEq, Prod.mk.injEq, Option.toList_some, Option.toList_none, List.cons_append, List.nil_append, Nat.reduceAdd, Nat.reduceLeDiff, Nat.reduceLT, List.set_cons_zero, List.set_cons_succ, eq_self, or_true, true_or, reduceIte, xt_ne, h0, h1, h2, o0, o1, t0, u0, v0, v2, xa_iff cE1, mx_30]
  generalize hM3 : xa_st M1 (b + 13 + 2) _ = M3
  have f3 : xa_fr (b + 13) (b + 22) M1 M3 := by rw [← hM3]; exact xa_fr_st (by omega) (by omega)
  have hU3 : xh_T M3 (b + 13) (xq_lo T s l) := by
    rw [← hM3]
    exact ⟨(xa_st_ne (by omega)).trans v0, xa_ar_ne v1 (by omega), xa_ar_up e2 (if_pos rfl) (fun j _ h => if_neg h), xa_ar_ne v3 (by omega), xa_ar_ne v4 (by omega), xa_ar_ne v5 (by omega), xa_ar_ne v6 (by omega), xa_ar_ne v7 (by omega), xa_ar_ne v8 (by omega)⟩
  have hN3 := xh_S_fr (xh_S_fr hN f1 (by omega)) f3 (by omega)
  have o3 := (f3.1 b (by omega)).trans o1
  obtain ⟨⟨z4, M4⟩, cE4, c4, f4, hS4⟩ := pc_begin hN3 hU3 (by omega) b6 b7
  have c4 : z4 = none := c4
  subst c4
  dsimp only at f4 hS4
  have u3 := hU3.1
  have n3 := hN3.1
  have o4 := (f4.1 b (by omega)).trans o3
  have hU4 := xh_T_fr hU3 f4 (by omega)
  have hG4 := xh_G_fr (xh_G_fr (xh_G_fr hG f1 (by omega)) f3 (by omega)) f4 (by omega)
  have fr4 : xa_f2 (b + 13) (b + 22) (b + 28) (b + 34) M M4 := xa_f2_2 (xa_f2_1 (xa_f2_1 xa_f2_r f1) f3) f4
  simp (disch := omega) only [↓ra_85_21, ↓ra_85_22, ↓ra_85_25, ↓ra_85_26, ↓ra_85_29, ↓ra_85_32, ↓ra_85_33, xa_kli, xa_klr, xa_kll, xa_ki, xa_kl, xa_kr, xa_kii, xa_kk, xa_kir, xa_krr, xa_kiir, xa_krir, xa_kdup, xa_kdup2, xa_kcp, xa_gf, xa_pf, xa_ga, xa_pa, xa_gq, xa_pq, xa_gl, xa_args, xa_ri, xa_rz, xa_rv, xa_s1, xa_s2, xa_c1, eq_self, List.getElem?_cons_succ, List.getElem?_cons_zero, true_and, and_true, nI_add, pk_mul, xt_in, xt_cl, xt_i0, xt_i1, xa_kc, xa_w8, xa_fit, lg_sl, List.flatMap_cons, List.flatMap_nil, List.map_cons, List.map_nil, List.sum_cons, List.sum_nil, Value.category, List.length_cons, List.length_nil, List.length_append, xa_rc, xa_rf, exists_eq_left, exists_eq', Option.some.injEq, Sum.inr.injEq, Prod.mk.injEq, Option.toList_some, Option.toList_none, List.cons_append, List.nil_append, Nat.reduceAdd, Nat.reduceLeDiff, Nat.reduceLT, List.set_cons_zero, List.set_cons_succ, eq_self, or_true, true_or, reduceIte, xt_ne, h0, h1, h2, o3, u3, n3, xa_iff cE4, mx_8]
  have loop : ∀ (r i : Nat) (lv : xa_L) (M5 : xa_M) (S5 : xt_S), lv 0 = some (.ref b) → lv 1 = some (.int (nI s)) → lv 3 = some (.int (nI i)) → i + r = 99 → xa_fr (b + 28) (b + 34) M4 M5 → xh_S M5 (b + 28) (xnS (xq_lo T s l)) (xnM (xq_lo T s l)) S5 → xi_S (xq_lo T s l) S5 → xsd S5 + r ≤ 100000 → ∃ z, xa_E 85 34 lv [] M5 z ∧ z.1 = some (.int (nI (if xq_cb (xq_lo T s l) size ga gb gc s r S5 = true then 1 else 0))) ∧ xa_f2 (b + 13) (b + 22) (b + 28) (b + 34) M z.2 ∧ (∃ T1, xh_T z.2 (b + 13) T1) ∧ ∃ S1, xh_S z.2 (b + 28) 0 0 S1 := by
    intro r
    induction r with
    | zero =>
      intro i lv M5 S5 h0 h1 h3 e fr hS5 iS5 hd5
      have e : i = 99 := by omega
      subst e
      simp (disch := omega) only [↓ra_85_34, ↓ra_85_35, ↓ra_85_37, ↓ra_85_86, ↓ra_85_87, xa_kli, xa_klr, xa_kll, xa_ki, xa_kl, xa_kr, xa_kii, xa_kk, xa_kir, xa_krr, xa_kiir, xa_krir, xa_kdup, xa_kdup2, xa_kcp, xa_gf, xa_pf, xa_ga, xa_pa, xa_gq, xa_pq, xa_gl, xa_args, xa_ri, xa_rz, xa_rv, xa_s1, xa_s2, xa_c1, eq_self, List.getElem?_cons_succ, List.getElem?_cons_zero, true_and, and_true, nI_add, pk_mul, xt_in, xt_cl, xt_i0, xt_i1, xa_kc, xa_w8, xa_fit, lg_sl, List.flatMap_cons, List.flatMap_nil, List.map_cons, List.map_nil, List.sum_cons, List.sum_nil, Value.category, List.length_cons, List.length_nil, List.length_append, xa_rc, xa_rf, exists_eq_left, exists_eq', Option.some.injEq, Sum.inr.injEq, Prod.mk.injEq, Option.toList_some, Option.toList_none, List.cons_append, List.nil_append, Nat.reduceAdd, Nat.reduceLeDiff, Nat.reduceLT, List.set_cons_zero, List.set_cons_succ, eq_self, or_true, true_or, reduceIte, xt_ne, h0, h1, h3, xt_le, Nat.le_refl]
      exact ⟨by simp only [xq_cb, if_true], xa_f2_2 fr4 fr, ⟨_, xh_T_fr hU4 fr (by omega)⟩, _, xh_S0 hS5⟩
    | succ r ih =>
      intro i lv M5 S5 h0 h1 h3 e fr hS5 iS5 hd5
      have hU5 := xh_T_fr hU4 fr (by omega)
      have o5 := (fr.1 b (by omega)).trans o4
      have s0 := hS5.1
      have u5 := hU5.1
      obtain ⟨⟨z6, M6⟩, cE6, c6, f6, hS6⟩ := pc_goDay hS5 hU5 (by omega) iT1 iS5
      have c6 : z6 = none := c6
      subst c6
      dsimp only at f6 hS6
      have fr6 := xa_fr_tr fr (xa_fr_w f6 (lo2 := b + 28) (hi2 := b + 34) (by omega) (by omega))
      have iS6 := xi_day iT1 iS5 (by omega)
      have o6 := (fr6.1 b (by omega)).trans o4
      have hG6 := xh_G_fr hG4 fr6 (by omega)
      have hs6 := (iS6.2.1 s hs).1
      have d6 := iS6.1
      have cd := xa_iff (pc_deny hG6 hz hg s (xsd (xq_day (xq_lo T s l) S5)) (xsh (xq_day (xq_lo T s l) S5) s) (by omega) (by omega) (by omega))
      have g0 := hG6.1
      obtain ⟨y0, ⟨g1, y1, e1⟩, -⟩ := id hS6
      have e1 := e1 s hs
      simp (disch := omega) only [↓ra_85_34, ↓ra_85_35, ↓ra_85_37, xa_kli, xa_klr, xa_kll, xa_ki, xa_kl, xa_kr, xa_kii, xa_kk, xa_kir, xa_krr, xa_kiir, xa_krir, xa_kdup, xa_kdup2, xa_kcp, xa_gf, xa_pf, xa_ga, xa_pa, xa_gq, xa_pq, xa_gl, xa_args, xa_ri, xa_rz, xa_rv, xa_s1, xa_s2, xa_c1, eq_self, List.getElem?_cons_succ, List.getElem?_cons_zero, true_and, and_true, nI_add, pk_mul, xt_in, xt_cl, xt_i0, xt_i1, xa_kc, xa_w8, xa_fit, lg_sl, List.flatMap_cons, List.flatMap_nil, List.map_cons, List.map_nil, List.sum_cons, List.sum_nil, Value.category, List.length_cons, List.length_nil, List.length_append, xa_rc, xa_rf, exists_eq_left, exists_eq', Option.some.injEq, Sum.inr.injEq, Prod.mk.injEq, Option.toList_some, Option.toList_none, List.cons_append, List.nil_append, Nat.reduceAdd, Nat.reduceLeDiff, Nat.reduceLT, List.set_cons_zero, List.set_cons_succ, eq_self, or_true, true_or, reduceIte, xt_ne, h0, h1, h3, xt_le]
      simp only [if_neg (show ¬ 99 ≤ i by omega)]
      simp (disch := omega) only [↓ra_85_40, ↓ra_85_41, ↓ra_85_44, ↓ra_85_45, ↓ra_85_48, ↓ra_85_51, ↓ra_85_52, ↓ra_85_55, ↓ra_85_56, ↓ra_85_57, ↓ra_85_60, ↓ra_85_63, ↓ra_85_64, ↓ra_85_67, ↓ra_85_70, ↓ra_85_71, ↓ra_85_72, ↓ra_85_75, xa_kli, xa_klr, xa_kll, xa_ki, xa_kl, xa_kr, xa_kii, xa_kk, xa_kir, xa_krr, xa_kiir, xa_krir, xa_kdup, xa_kdup2, xa_kcp, xa_gf, xa_pf, xa_ga, xa_pa, xa_gq, xa_pq, xa_gl, xa_args, xa_ri, xa_rz, xa_rv, xa_s1, xa_s2, xa_c1, eq_self, List.getElem?_cons_succ, List.getElem?_cons_zero, true_and, and_true, nI_add, pk_mul, xt_in, xt_cl, xt_i0, xt_i1, xa_kc, xa_w8, xa_fit, lg_sl, List.flatMap_cons, List.flatMap_nil, List.map_cons, List.map_nil, List.sum_cons, List.sum_nil, Value.category, List.length_cons, List.length_nil, List.length_append, xa_rc, xa_rf, exists_eq_left, exists_eq', Option.some.injEq, Sum.inr.injEq, Prod.mk.injEq, Option.toList_some, Option.toList_none, List.cons_append, List.nil_append, Nat.reduceAdd, Nat.reduceLeDiff, Nat.reduceLT, List.set_cons_zero, List.set_cons_succ, eq_self, or_true, true_or, reduceIte, xt_ne, h0, h1, h3, o5, s0, u5, xa_iff cE6, mx_18, o6, g0, y0, y1, e1, cd, mx_6, xt_b0]
      unfold xq_cb
      by_cases c : xq_deny size ga gb gc s (xsd (xq_day (xq_lo T s l) S5)) (xsh (xq_day (xq_lo T s l) S5) s) = true
      · simp only [c, not_true_eq_false, if_false, if_true]
        simp (disch := omega) only [↓ra_85_78, ↓ra_85_79, xa_kli, xa_klr, xa_kll, xa_ki, xa_kl, xa_kr, xa_kii, xa_kk, xa_kir, xa_krr, xa_kiir, xa_krir, xa_kdup, xa_kdup2, xa_kcp, xa_gf, xa_pf, xa_ga, xa_pa, xa_gq, xa_pq, xa_gl, xa_args, xa_ri, xa_rz, xa_rv, xa_s1, xa_s2, xa_c1, eq_self, List.getElem?_cons_succ, List.getElem?_cons_zero, true_and, and_true, nI_add, pk_mul, xt_in, xt_cl, xt_i0, xt_i1, xa_kc, xa_w8, xa_fit, lg_sl, List.flatMap_cons, List.flatMap_nil, List.map_cons, List.map_nil, List.sum_cons, List.sum_nil, Value.category, List.length_cons, List.length_nil, List.length_append, xa_rc, xa_rf, exists_eq_left, exists_eq', Option.some.injEq, Sum.inr.injEq, Prod.mk.injEq, Option.toList_some, Option.toList_none, List.cons_append, List.nil_append, Nat.reduceAdd, Nat.reduceLeDiff, Nat.reduceLT, List.set_cons_zero, List.set_cons_succ, eq_self, or_true, true_or, reduceIte, xt_ne]
        exact ⟨by simp, xa_f2_2 fr4 fr6, ⟨_, xh_T_fr hU4 fr6 (by omega)⟩, _, xh_S0 hS6⟩
      · simp only [c, not_false_eq_true, if_false, if_true]
        simp (disch := omega) only [↓ra_85_80, ↓ra_85_83, xa_kli, xa_klr, xa_kll, xa_ki, xa_kl, xa_kr, xa_kii, xa_kk, xa_kir, xa_krr, xa_kiir, xa_krir, xa_kdup, xa_kdup2, xa_kcp, xa_gf, xa_pf, xa_ga, xa_pa, xa_gq, xa_pq, xa_gl, xa_args, xa_ri, xa_rz, xa_rv, xa_s1, xa_s2, xa_c1, eq_self, List.getElem?_cons_succ, List.getElem?_cons_zero, true_and, and_true, nI_add, pk_mul, xt_in, xt_cl, xt_i0, xt_i1, xa_kc, xa_w8, xa_fit, lg_sl, List.flatMap_cons, List.flatMap_nil, List.map_cons, List.map_nil, List.sum_cons, List.sum_nil, Value.category, List.length_cons, List.length_nil, List.length_append, xa_rc, xa_rf, exists_eq_left, exists_eq', Option.some.injEq, Sum.inr.injEq, Prod.mk.injEq, Option.toList_some, Option.toList_none, List.cons_append, List.nil_append, Nat.reduceAdd, Nat.reduceLeDiff, Nat.reduceLT, List.set_cons_zero, List.set_cons_succ, eq_self, or_true, true_or, reduceIte, xt_ne, h3]
        have := ih (i + 1) (xa_s1 lv 3 (.int (nI (i + 1)))) M6 (xq_day (xq_lo T s l) S5) (by simp [xa_s1, xa_c1, h0]) (by simp [xa_s1, xa_c1, h1]) (by simp [xa_s1, xa_c1]) (by omega) fr6 hS6 iS6 (by show xsd S5 + 1 + r ≤ _; omega)
        simpa using this
  exact loop 99 0 _ M4 _ (by simp [xa_s1, xa_c1, h0]) (by simp [xa_s1, xa_c1, h1]) (by simp [xa_s1, xa_c1]) rfl xa_fr_rf hS4 (xi_b iT1) (by show 0 + 99 ≤ _; omega)
