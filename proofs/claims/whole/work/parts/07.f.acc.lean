theorem xt_or (a b : Nat) : nI a ||| nI b = nI (a ||| b) := by
  apply Int32.toBitVec_inj.mp
  rw [Int32.toBitVec_or]
  show BitVec.ofNat 32 a ||| BitVec.ofNat 32 b = BitVec.ofNat 32 (a ||| b)
  exact BitVec.ofNat_or.symm
theorem xt_and (a b : Nat) : nI a &&& nI b = nI (a &&& b) := by
  apply Int32.toBitVec_inj.mp
  rw [Int32.toBitVec_and]
  show BitVec.ofNat 32 a &&& BitVec.ofNat 32 b = BitVec.ofNat 32 (a &&& b)
  exact BitVec.ofNat_and.symm
theorem xt_bit (k : Nat) (hk : k < 31) : nI 1 <<< (nI k &&& 31) = nI (2 ^ k) := by
  have h : (2 : Nat) ^ k < 2 ^ 31 := Nat.pow_lt_pow_right (by decide) hk
  have := pk_shlN (n := 1) _ k (s_l k (by omega)) (by omega)
  rw [Nat.one_mul] at this
  exact this
theorem pc_isNotN {M : xa_M} (x a b : Nat) (hx : x < 2147483648) (ha : a < 2147483648) (hb : b < 2147483648) : xa_E 77 0 (xa_ent [.int (nI x), .int (nI a), .int (nI b)]) [] M (some (.int (nI (if x < a ∨ b < x then 1 else 0))), M) := by
  have := pc_isNot (M := M) (nI x) (nI a) (nI b)
  simp only [xt_lt x a hx ha, xt_lt b x hb hx] at this
  exact this
/-- what an item is worth: what is told with it, or none -/
def xq_aN (T : xt_T) (n : Nat) : Option xt_T := if 2 ≤ n ∧ n ≤ 60 then some ((n, xC T, xG T, xnS T, xnM T, xnW T), T.2) else none
def xq_aC (T : xt_T) (c : Nat) : Option xt_T := if (2 ≤ c ∧ c ≤ 6) ∧ xG T = 0 ∧ xnS T = 0 ∧ xnM T = 0 ∧ xnW T = 0 then some ((xN T, c, xG T, xnS T, xnM T, xnW T), T.2) else none
def xq_aG (T : xt_T) (q : Nat) : Option xt_T := if q < xC T then some ((xN T, xC T, xG T ||| 2 ^ q, xnS T, xnM T, xnW T), T.2) else none
def xq_aS (T : xt_T) (k l q : Nat) : Option xt_T := if k ≤ 3 ∧ l ≤ 2 ∧ q < xC T ∧ xnS T < 6 then some ((xN T, xC T, xG T, xnS T + 1, xnM T, xnW T), fun j => if j = xnS T then k else xtk T j, fun j => if j = xnS T then l else xtl T j, fun j => if j = xnS T then q else xth T j, T.2.2.2.2) else none
def xq_aM (T : xt_T) (l a b : Nat) : Option xt_T := if l ≤ 2 ∧ a < xC T ∧ b ≤ 5 ∧ xnM T < 5 then some (xq_am T l a b) else none
def xq_aW (T : xt_T) (f t : Nat) : Option xt_T := if f ≤ 99 ∧ f ≤ t ∧ t ≤ 99 ∧ xnW T < 6 then some ((xN T, xC T, xG T, xnS T, xnM T, xnW T + 1), xtk T, xtl T, xth T, xtm T, xtp T, xts T, fun j => if j = xnW T then f else xtf T j, fun j => if j = xnW T then t else xtt T j) else none
/-- a Told is now what the item says, and the answer says if it says so -/
def xq_as (t : Nat) (M : xa_M) (T : xt_T) (r : Option xt_T) (z : xa_Z) : Prop := z.1 = some (.int (nI (if r.isSome = true then 1 else 0))) ∧ xa_fr t (t + 9) M z.2 ∧ xh_T z.2 t (r.getD T)
theorem xq_as0 {t : Nat} {M : xa_M} {T : xt_T} {r : Option xt_T} (hT : xh_T M t T) (h : r = none) : xq_as t M T r (some (.int (nI 0)), M) := by
  subst h
  exact ⟨rfl, xa_fr_rf, hT⟩
theorem xq_as1 {t : Nat} {M M1 : xa_M} {T T1 : xt_T} {r : Option xt_T} (h : r = some T1) (fr : xa_fr t (t + 9) M M1) (hT : xh_T M1 t T1) : xq_as t M T r (some (.int (nI 1)), M1) := by
  subst h
  exact ⟨rfl, fr, hT⟩
theorem pc_aN {M : xa_M} {t : Nat} {T : xt_T} (hT : xh_T M t T) (n : Nat) (h : n < 2147483648) : ∃ z, xa_E 32 0 (xa_ent [.ref t, .int (nI n)]) [] M z ∧ xq_as t M T (xq_aN T n) z := by
  have cn := fun a b ha hb => xa_iff (pc_isNotN (M := M) n a b h ha hb)
  refine xa_ge2 (fun lv h0 h1 => ?_)
  have t0 := hT.1
  simp (disch := omega) only [↓ra_32_0, ↓ra_32_1, ↓ra_32_2, ↓ra_32_4, ↓ra_32_7, xa_kli, xa_klr, xa_kll, xa_ki, xa_kl, xa_kr, xa_kii, xa_kk, xa_kir, xa_krr, xa_kiir, xa_krir, xa_kdup, xa_kdup2, xa_kcp, xa_gf, xa_pf, xa_ga, xa_pa, xa_gq, xa_pq, xa_gl, xa_args, xa_ri, xa_rz, xa_rv, xa_s1, xa_s2, xa_c1, eq_self, List.getElem?_cons_succ, List.getElem?_cons_zero, true_and, and_true, nI_add, pk_mul, xt_in, xt_cl, xt_i0, xt_i1, xa_kc, xa_w8, xa_fit, lg_sl, List.flatMap_cons, List.flatMap_nil, List.map_cons, List.map_nil, List.sum_cons, List.sum_nil, Value.category, List.length_cons, List.length_nil, List.length_append, xa_rc, xa_rf, exists_eq_left, exists_eq', Option.some.injEq, Sum.inr.injEq, Prod.mk.injEq, Option.toList_some, Option.toList_none, List.cons_append, List.nil_append, Nat.reduceAdd, Nat.reduceLeDiff, Nat.reduceLT, List.set_cons_zero, List.set_cons_succ, eq_self, or_true, true_or, reduceIte, xt_ne, h0, h1, t0, cn, mx_77, xt_b0]
  by_cases c : 2 ≤ n ∧ n ≤ 60
  · simp only [if_pos (show ¬ (n < 2 ∨ 60 < n) by omega)]
    simp (disch := omega) only [↓ra_32_12, ↓ra_32_13, ↓ra_32_14, ↓ra_32_17, ↓ra_32_18, xa_kli, xa_klr, xa_kll, xa_ki, xa_kl, xa_kr, xa_kii, xa_kk, xa_kir, xa_krr, xa_kiir, xa_krir, xa_kdup, xa_kdup2, xa_kcp, xa_gf, xa_pf, xa_ga, xa_pa, xa_gq, xa_pq, xa_gl, xa_args, xa_ri, xa_rz, xa_rv, xa_s1, xa_s2, xa_c1, eq_self, List.getElem?_cons_succ, List.getElem?_cons_zero, true_and, and_true, nI_add, pk_mul, xt_in, xt_cl, xt_i0, xt_i1, xa_kc, xa_w8, xa_fit, lg_sl, List.flatMap_cons, List.flatMap_nil, List.map_cons, List.map_nil, List.sum_cons, List.sum_nil, Value.category, List.length_cons, List.length_nil, List.length_append, xa_rc, xa_rf, exists_eq_left, exists_eq', Option.some.injEq, Sum.inr.injEq, Prod.mk.injEq, Option.toList_some, Option.toList_none, List.cons_append, List.nil_append, Nat.reduceAdd, Nat.reduceLeDiff, Nat.reduceLT, List.set_cons_zero, List.set_cons_succ, eq_self, or_true, true_or, reduceIte, xt_ne, h0, h1, t0, xt_st]
    exact xq_as1 (if_pos c) (xa_fr_st (by omega) (by omega)) (xh_Tc hT xa_st_eq (fun a ha => xa_st_ne ha) rfl (Nat.le_refl _) (Nat.le_refl _) (Nat.le_refl _) (fun _ _ => ⟨rfl, rfl, rfl⟩) (fun _ _ => ⟨rfl, rfl, rfl⟩) (fun _ _ => ⟨rfl, rfl⟩))
  · simp only [if_neg (show ¬ ¬ (n < 2 ∨ 60 < n) by omega)]
    simp (disch := omega) only [↓ra_32_10, ↓ra_32_11, xa_kli, xa_klr, xa_kll, xa_ki, xa_kl, xa_kr, xa_kii, xa_kk, xa_kir, xa_krr, xa_kiir, xa_krir, xa_kdup, xa_kdup2, xa_kcp, xa_gf, xa_pf, xa_ga, xa_pa, xa_gq, xa_pq, xa_gl, xa_args, xa_ri, xa_rz, xa_rv, xa_s1, xa_s2, xa_c1, eq_self, List.getElem?_cons_succ, List.getElem?_cons_zero, true_and, and_true, nI_add, pk_mul, xt_in, xt_cl, xt_i0, xt_i1, xa_kc, xa_w8, xa_fit, lg_sl, List.flatMap_cons, List.flatMap_nil, List.map_cons, List.map_nil, List.sum_cons, List.sum_nil, Value.category, List.length_cons, List.length_nil, List.length_append, xa_rc, xa_rf, exists_eq_left, exists_eq', Option.some.injEq, Sum.inr.injEq, Prod.mk.injEq, Option.toList_some, Option.toList_none, List.cons_append, List.nil_append, Nat.reduceAdd, Nat.reduceLeDiff, Nat.reduceLT, List.set_cons_zero, List.set_cons_succ, eq_self, or_true, true_or, reduceIte, xt_ne, h0, h1, t0, xt_st]
    exact xq_as0 hT (if_neg c)
theorem pc_aC {M : xa_M} {t : Nat} {T : xt_T} (hT : xh_T M t T) (n : Nat) (h : n < 2147483648) (b1 : xG T < 64) (b2 : xnS T ≤ 6) (b3 : xnM T ≤ 6) (b4 : xnW T ≤ 6) : ∃ z, xa_E 33 0 (xa_ent [.ref t, .int (nI n)]) [] M z ∧ xq_as t M T (xq_aC T n) z := by
  have cn := fun a b ha hb => xa_iff (pc_isNotN (M := M) n a b h ha hb)
  refine xa_ge2 (fun lv h0 h1 => ?_)
  have t0 := hT.1
  simp (disch := omega) only [↓ra_33_0, ↓ra_33_1, ↓ra_33_2, ↓ra_33_4, ↓ra_33_7, ↓ra_33_10, ↓ra_33_11, ↓ra_33_14, ↓ra_33_17, ↓ra_33_18, ↓ra_33_21, ↓ra_33_24, ↓ra_33_25, ↓ra_33_28, ↓ra_33_31, ↓ra_33_32, ↓ra_33_35, ↓ra_33_38, ↓ra_33_39, ↓ra_33_40, ↓ra_33_41, ↓ra_33_42, ↓ra_33_45, ↓ra_33_46, xa_kli, xa_klr, xa_kll, xa_ki, xa_kl, xa_kr, xa_kii, xa_kk, xa_kir, xa_krr, xa_kiir, xa_krir, xa_kdup, xa_kdup2, xa_kcp, xa_gf, xa_pf, xa_ga, xa_pa, xa_gq, xa_pq, xa_gl, xa_args, xa_ri, xa_rz, xa_rv, xa_s1, xa_s2, xa_c1, eq_self, List.getElem?_cons_succ, List.getElem?_cons_zero, true_and, and_true, nI_add, pk_mul, xt_in, xt_cl, xt_i0, xt_i1, xa_kc, xa_w8, xa_fit, lg_sl, List.flatMap_cons, List.flatMap_nil, List.map_cons, List.map_nil, List.sum_cons, List.sum_nil, Value.category, List.length_cons, List.length_nil, List.length_append, xa_rc, xa_rf, exists_eq_left, exists_eq', Option.some.injEq, Sum.inr.injEq, Prod.mk.injEq, Option.toList_some, Option.toList_none, List.cons_append, List.nil_append, Nat.reduceAdd, Nat.reduceLeDiff, Nat.reduceLT, List.set_cons_zero, List.set_cons_succ, eq_self, or_true, true_or, reduceIte, xt_ne, h0, h1, t0, cn, mx_77, xt_b0, xt_eq, xt_lt, xt_le]
  by_cases c : (2 ≤ n ∧ n ≤ 6) ∧ xG T = 0 ∧ xnS T = 0 ∧ xnM T = 0 ∧ xnW T = 0
  · simp only [if_pos (show ¬ (n < 2 ∨ 6 < n) by omega), if_pos (show xG T = 0 by omega), if_neg (show ¬ 0 < xnS T by omega), if_neg (show ¬ 0 < xnM T by omega), if_pos (show xnW T ≤ 0 by omega), exists_eq_left]
    exact xq_as1 (if_pos c) (xa_fr_st (by omega) (by omega)) (xh_Tc hT xa_st_eq (fun a ha => xa_st_ne ha) rfl (Nat.le_refl _) (Nat.le_refl _) (Nat.le_refl _) (fun _ _ => ⟨rfl, rfl, rfl⟩) (fun _ _ => ⟨rfl, rfl, rfl⟩) (fun _ _ => ⟨rfl, rfl⟩))
  · have r := xq_as0 hT (if_neg c : xq_aC T n = none)
    refine ⟨_, ?_, r⟩
    by_cases c1 : ¬ (n < 2 ∨ 6 < n)
    · by_cases c2 : xG T = 0
      · by_cases c3 : 0 < xnS T
        · simp only [if_pos c1, if_pos c2, if_pos c3]
        · by_cases c4 : 0 < xnM T
          · simp only [if_pos c1, if_pos c2, if_neg c3, if_pos c4]
          · simp only [if_pos c1, if_pos c2, if_neg c3, if_neg c4, if_neg (show ¬ xnW T ≤ 0 by omega)]
      · simp only [if_pos c1, if_neg c2]
    · simp only [if_neg c1]
theorem pc_aG {M : xa_M} {t : Nat} {T : xt_T} (hT : xh_T M t T) (n : Nat) (h : n < 2147483648) (b1 : 2 ≤ xC T) (b2 : xC T ≤ 6) : ∃ z, xa_E 34 0 (xa_ent [.ref t, .int (nI n)]) [] M z ∧ xq_as t M T (xq_aG T n) z := by
  have cn := fun a b ha hb => xa_iff (pc_isNotN (M := M) n a b h ha hb)
  refine xa_ge2 (fun lv h0 h1 => ?_)
  have t0 := hT.1
  simp (disch := omega) only [↓ra_34_0, ↓ra_34_1, ↓ra_34_2, ↓ra_34_3, ↓ra_34_6, ↓ra_34_7, ↓ra_34_8, ↓ra_34_11, xa_kli, xa_klr, xa_kll, xa_ki, xa_kl, xa_kr, xa_kii, xa_kk, xa_kir, xa_krr, xa_kiir, xa_krir, xa_kdup, xa_kdup2, xa_kcp, xa_gf, xa_pf, xa_ga, xa_pa, xa_gq, xa_pq, xa_gl, xa_args, xa_ri, xa_rz, xa_rv, xa_s1, xa_s2, xa_c1, eq_self, List.getElem?_cons_succ, List.getElem?_cons_zero, true_and, and_true, nI_add, pk_mul, xt_in, xt_cl, xt_i0, xt_i1, xa_kc, xa_w8, xa_fit, lg_sl, List.flatMap_cons, List.flatMap_nil, List.map_cons, List.map_nil, List.sum_cons, List.sum_nil, Value.category, List.length_cons, List.length_nil, List.length_append, xa_rc, xa_rf, exists_eq_left, exists_eq', Option.some.injEq, Sum.inr.injEq, Prod.mk.injEq, Option.toList_some, Option.toList_none, List.cons_append, List.nil_append, Nat.reduceAdd, Nat.reduceLeDiff, Nat.reduceLT, List.set_cons_zero, List.set_cons_succ, eq_self, or_true, true_or, reduceIte, xt_ne, h0, h1, t0, cn, mx_77, xt_b0, xt_sub]
  by_cases c : n < xC T
  · simp only [if_pos (show ¬ (n < 0 ∨ xC T - 1 < n) by omega)]
    have eb := xt_bit n (by omega)
    simp (disch := omega) only [↓ra_34_16, ↓ra_34_17, ↓ra_34_18, ↓ra_34_21, ↓ra_34_22, ↓ra_34_23, ↓ra_34_24, ↓ra_34_25, ↓ra_34_28, ↓ra_34_29, xa_kli, xa_klr, xa_kll, xa_ki, xa_kl, xa_kr, xa_kii, xa_kk, xa_kir, xa_krr, xa_kiir, xa_krir, xa_kdup, xa_kdup2, xa_kcp, xa_gf, xa_pf, xa_ga, xa_pa, xa_gq, xa_pq, xa_gl, xa_args, xa_ri, xa_rz, xa_rv, xa_s1, xa_s2, xa_c1, eq_self, List.getElem?_cons_succ, List.getElem?_cons_zero, true_and, and_true, nI_add, pk_mul, xt_in, xt_cl, xt_i0, xt_i1, xa_kc, xa_w8, xa_fit, lg_sl, List.flatMap_cons, List.flatMap_nil, List.map_cons, List.map_nil, List.sum_cons, List.sum_nil, Value.category, List.length_cons, List.length_nil, List.length_append, xa_rc, xa_rf, exists_eq_left, exists_eq', Option.some.injEq, Sum.inr.injEq, Prod.mk.injEq, Option.toList_some, Option.toList_none, List.cons_append, List.nil_append, Nat.reduceAdd, Nat.reduceLeDiff, Nat.reduceLT, List.set_cons_zero, List.set_cons_succ, eq_self, or_true, true_or, reduceIte, xt_ne, h0, h1, t0, xt_st, eb, xt_or]
    exact xq_as1 (if_pos c) (xa_fr_st (by omega) (by omega)) (xh_Tc hT xa_st_eq (fun a ha => xa_st_ne ha) rfl (Nat.le_refl _) (Nat.le_refl _) (Nat.le_refl _) (fun _ _ => ⟨rfl, rfl, rfl⟩) (fun _ _ => ⟨rfl, rfl, rfl⟩) (fun _ _ => ⟨rfl, rfl⟩))
  · simp only [if_neg (show ¬ ¬ (n < 0 ∨ xC T - 1 < n) by omega)]
    simp (disch := omega) only [↓ra_34_14, ↓ra_34_15, xa_kli, xa_klr, xa_kll, xa_ki, xa_kl, xa_kr, xa_kii, xa_kk, xa_kir, xa_krr, xa_kiir, xa_krir, xa_kdup, xa_kdup2, xa_kcp, xa_gf, xa_pf, xa_ga, xa_pa, xa_gq, xa_pq, xa_gl, xa_args, xa_ri, xa_rz, xa_rv, xa_s1, xa_s2, xa_c1, eq_self, List.getElem?_cons_succ, List.getElem?_cons_zero, true_and, and_true, nI_add, pk_mul, xt_in, xt_cl, xt_i0, xt_i1, xa_kc, xa_w8, xa_fit, lg_sl, List.flatMap_cons, List.flatMap_nil, List.map_cons, List.map_nil, List.sum_cons, List.sum_nil, Value.category, List.length_cons, List.length_nil, List.length_append, xa_rc, xa_rf, exists_eq_left, exists_eq', Option.some.injEq, Sum.inr.injEq, Prod.mk.injEq, Option.toList_some, Option.toList_none, List.cons_append, List.nil_append, Nat.reduceAdd, Nat.reduceLeDiff, Nat.reduceLT, List.set_cons_zero, List.set_cons_succ, eq_self, or_true, true_or, reduceIte, xt_ne, h0, h1, t0, xt_st]
    exact xq_as0 hT (if_neg c)
theorem pc_aS {M : xa_M} {t : Nat} {T : xt_T} (hT : xh_T M t T) (k l q : Nat) (hk : k < 2147483648) (hl : l < 2147483648) (hq : q < 2147483648) (b1 : 2 ≤ xC T) (b2 : xC T ≤ 6) (b3 : xnS T ≤ 6) : ∃ z, xa_E 35 0 (xa_ent [.ref t, .int (nI k), .int (nI l), .int (nI q)]) [] M z ∧ xq_as t M T (xq_aS T k l q) z := by
  have cn := fun n a b h ha hb => xa_iff (pc_isNotN (M := M) n a b h ha hb)
  refine xa_ge4 (fun lv h0 h1 h2 h3 => ?_)
  obtain ⟨t0, ⟨g1, t1, e1⟩, ⟨g2, t2, e2⟩, ⟨g3, t3, e3⟩, t4, t5, t6, t7, t8⟩ := id hT
  simp (disch := omega) only [↓ra_35_0, ↓ra_35_1, ↓ra_35_2, ↓ra_35_3, ↓ra_35_6, ↓ra_35_9, ↓ra_35_10, ↓ra_35_11, ↓ra_35_12, ↓ra_35_15, ↓ra_35_18, ↓ra_35_19, ↓ra_35_20, ↓ra_35_21, ↓ra_35_24, ↓ra_35_25, ↓ra_35_26, ↓ra_35_29, ↓ra_35_32, ↓ra_35_33, ↓ra_35_36, ↓ra_35_38, ↓ra_35_41, ↓ra_35_42, xa_kli, xa_klr, xa_kll, xa_ki, xa_kl, xa_kr, xa_kii, xa_kk, xa_kir, xa_krr, xa_kiir, xa_krir, xa_kdup, xa_kdup2, xa_kcp, xa_gf, xa_pf, xa_ga, xa_pa, xa_gq, xa_pq, xa_gl, xa_args, xa_ri, xa_rz, xa_rv, xa_s1, xa_s2, xa_c1, eq_self, List.getElem?_cons_succ, List.getElem?_cons_zero, true_and, and_true, nI_add, pk_mul, xt_in, xt_cl, xt_i0, xt_i1, xa_kc, xa_w8, xa_fit, lg_sl, List.flatMap_cons, List.flatMap_nil, List.map_cons, List.map_nil, List.sum_cons, List.sum_nil, Value.category, List.length_cons, List.length_nil, List.length_append, xa_rc, xa_rf, exists_eq_left, exists_eq', Option.some.injEq, Sum.inr.injEq, Prod.mk.injEq, Option.toList_some, Option.toList_none, List.cons_append, List.nil_append, Nat.reduceAdd, Nat.reduceLeDiff, Nat.reduceLT, List.set_cons_zero, List.set_cons_succ, eq_self, or_true, true_or, reduceIte, xt_ne, h0, h1, h2, h3, t0, cn, mx_77, xt_b0, xt_sub, xt_lt]
  by_cases c : k ≤ 3 ∧ l ≤ 2 ∧ q < xC T ∧ xnS T < 6
  · simp only [if_pos (show ¬ (k < 0 ∨ 3 < k) by omega), if_pos (show ¬ (l < 0 ∨ 2 < l) by omega), if_pos (show ¬ (q < 0 ∨ xC T - 1 < q) by omega), if_pos (show xnS T < 6 by omega)]
    simp (disch := omega) only [↓ra_35_43, ↓ra_35_44, ↓ra_35_47, ↓ra_35_48, ↓ra_35_51, ↓ra_35_52, ↓ra_35_53, ↓ra_35_54, ↓ra_35_57, ↓ra_35_58, ↓ra_35_61, ↓ra_35_62, ↓ra_35_63, ↓ra_35_64, ↓ra_35_67, ↓ra_35_68, ↓ra_35_71, ↓ra_35_72, ↓ra_35_73, ↓ra_35_74, ↓ra_35_75, ↓ra_35_78, ↓ra_35_79, ↓ra_35_80, ↓ra_35_83, ↓ra_35_84, xa_kli, xa_klr, xa_kll, xa_ki, xa_kl, xa_kr, xa_kii, xa_kk, xa_kir, xa_krr, xa_kiir, xa_krir, xa_kdup, xa_kdup2, xa_kcp, xa_gf, xa_pf, xa_ga, xa_pa, xa_gq, xa_pq, xa_gl, xa_args, xa_ri, xa_rz, xa_rv, xa_s1, xa_s2, xa_c1, eq_self, List.getElem?_cons_succ, List.getElem?_cons_zero, true_and, and_true, nI_add, pk_mul, xt_in, xt_cl, xt_i0, xt_i1, xa_kc, xa_w8, xa_fit, lg_sl, List.flatMap_cons, List.flatMap_nil, List.map_cons, List.map_nil, List.sum_cons, List.sum_nil, Value.category, List.length_cons, List.length_nil, List.length_append, xa_rc, xa_rf, exists_eq_left, exists_eq', Option.some.injEq, Sum.inr.injEq, Prod.mk.injEq, Option.toList_some, Option.toList_none, List.cons_append, List.nil_append, Nat.reduceAdd, Nat.reduceLeDiff, Nat.reduceLT, List.set_cons_zero, List.set_cons_succ, eq_self, or_true, true_or, reduceIte, xt_ne, h0, h1, h2, h3, t0, t1, t2, t3, xt_st]
    refine xq_as1 (if_pos c) (xa_fr_tr (xa_fr_tr (xa_fr_tr (xa_fr_st (by omega) (by omega)) (xa_fr_st (by omega) (by omega))) (xa_fr_st (by omega) (by omega))) (xa_fr_st (by omega) (by omega))) ⟨xa_st_eq, ?_, ?_, ?_, ?_, ?_, ?_, ?_, ?_⟩
    · exact xa_ar_ne (xa_ar_ne (xa_ar_ne (xa_ar_ps e1) (by omega)) (by omega)) (by omega)
    · exact xa_ar_ne (xa_ar_ne (xa_ar_ps e2) (by omega)) (by omega)
    · exact xa_ar_ne (xa_ar_ps e3) (by omega)
    · exact xa_ar_ne (xa_ar_ne (xa_ar_ne (xa_ar_ne t4 (by omega)) (by omega)) (by omega)) (by omega)
    · exact xa_ar_ne (xa_ar_ne (xa_ar_ne (xa_ar_ne t5 (by omega)) (by omega)) (by omega)) (by omega)
    · exact xa_ar_ne (xa_ar_ne (xa_ar_ne (xa_ar_ne t6 (by omega)) (by omega)) (by omega)) (by omega)
    · exact xa_ar_ne (xa_ar_ne (xa_ar_ne (xa_ar_ne t7 (by omega)) (by omega)) (by omega)) (by omega)
    · exact xa_ar_ne (xa_ar_ne (xa_ar_ne (xa_ar_ne t8 (by omega)) (by omega)) (by omega)) (by omega)
  · have r := xq_as0 hT (if_neg c : xq_aS T k l q = none)
    refine ⟨_, ?_, r⟩
    by_cases c1 : ¬ (k < 0 ∨ 3 < k)
    · by_cases c2 : ¬ (l < 0 ∨ 2 < l)
      · by_cases c3 : ¬ (q < 0 ∨ xC T - 1 < q)
        · simp only [if_pos c1, if_pos c2, if_pos c3, if_neg (show ¬ xnS T < 6 by omega)]
        · simp only [if_pos c1, if_pos c2, if_neg c3]
      · simp only [if_pos c1, if_neg c2]
    · simp only [if_neg c1]
theorem pc_aM {M : xa_M} {t : Nat} {T : xt_T} (hT : xh_T M t T) (l a b : Nat) (hl : l < 2147483648) (ha : a < 2147483648) (hb : b < 2147483648) (b1 : 2 ≤ xC T) (b2 : xC T ≤ 6) (b3 : xnM T ≤ 6) : ∃ z, xa_E 36 0 (xa_ent [.ref t, .int (nI l), .int (nI a), .int (nI b)]) [] M z ∧ xq_as t M T (xq_aM T l a b) z := by
  have cn := fun n a b h ha hb => xa_iff (pc_isNotN (M := M) n a b h ha hb)
  refine xa_ge4 (fun lv h0 h1 h2 h3 => ?_)
  have t0 := hT.1
  simp (disch := omega) only [↓ra_36_0, ↓ra_36_1, ↓ra_36_2, ↓ra_36_3, ↓ra_36_6, ↓ra_36_9, ↓ra_36_10, ↓ra_36_11, ↓ra_36_12, ↓ra_36_15, ↓ra_36_16, ↓ra_36_17, ↓ra_36_20, ↓ra_36_23, ↓ra_36_24, ↓ra_36_25, ↓ra_36_26, ↓ra_36_29, ↓ra_36_32, ↓ra_36_33, ↓ra_36_36, ↓ra_36_37, ↓ra_36_40, ↓ra_36_41, xa_kli, xa_klr, xa_kll, xa_ki, xa_kl, xa_kr, xa_kii, xa_kk, xa_kir, xa_krr, xa_kiir, xa_krir, xa_kdup, xa_kdup2, xa_kcp, xa_gf, xa_pf, xa_ga, xa_pa, xa_gq, xa_pq, xa_gl, xa_args, xa_ri, xa_rz, xa_rv, xa_s1, xa_s2, xa_c1, eq_self, List.getElem?_cons_succ, List.getElem?_cons_zero, true_and, and_true, nI_add, pk_mul, xt_in, xt_cl, xt_i0, xt_i1, xa_kc, xa_w8, xa_fit, lg_sl, List.flatMap_cons, List.flatMap_nil, List.map_cons, List.map_nil, List.sum_cons, List.sum_nil, Value.category, List.length_cons, List.length_nil, List.length_append, xa_rc, xa_rf, exists_eq_left, exists_eq', Option.some.injEq, Sum.inr.injEq, Prod.mk.injEq, Option.toList_some, Option.toList_none, List.cons_append, List.nil_append, Nat.reduceAdd, Nat.reduceLeDiff, Nat.reduceLT, List.set_cons_zero, List.set_cons_succ, eq_self, or_true, true_or, reduceIte, xt_ne, h0, h1, h2, h3, t0, cn, mx_77, xt_b0, xt_sub, xt_lt]
  by_cases c : l ≤ 2 ∧ a < xC T ∧ b ≤ 5 ∧ xnM T < 5
  · obtain ⟨⟨z1, M2⟩, cE, c1, c2, c3⟩ := pc_addMan hT (by omega) l a b
    have c1 : z1 = some (.int (nI 1)) := c1
    subst c1
    dsimp only at c2 c3
    simp only [if_pos (show ¬ (l < 0 ∨ 2 < l) by omega), if_pos (show ¬ (a < 0 ∨ xC T - 1 < a) by omega), if_pos (show ¬ (b < 0 ∨ 5 < b) by omega), if_pos (show xnM T < 5 by omega)]
    simp (disch := omega) only [↓ra_36_42, ↓ra_36_43, ↓ra_36_44, ↓ra_36_45, ↓ra_36_46, ↓ra_36_49, xa_kli, xa_klr, xa_kll, xa_ki, xa_kl, xa_kr, xa_kii, xa_kk, xa_kir, xa_krr, xa_kiir, xa_krir, xa_kdup, xa_kdup2, xa_kcp, xa_gf, xa_pf, xa_ga, xa_pa, xa_gq, xa_pq, xa_gl, xa_args, xa_ri, xa_rz, xa_rv, xa_s1, xa_s2, xa_c1, eq_self, List.getElem?_cons_succ, List.getElem?_cons_zero, true_and, and_true, nI_add, pk_mul, xt_in, xt_cl, xt_i0, xt_i1, xa_kc, xa_w8, xa_fit, lg_sl, List.flatMap_cons, List.flatMap_nil, List.map_cons, List.map_nil, List.sum_cons, List.sum_nil, Value.category, List.length_cons, List.length_nil, List.length_append, xa_rc, xa_rf, exists_eq_left, exists_eq', Option.some.injEq, Sum.inr.injEq, Prod.mk.injEq, Option.toList_some, Option.toList_none, List.cons_append, List.nil_append, Nat.reduceAdd, Nat.reduceLeDiff, Nat.reduceLT, List.set_cons_zero, List.set_cons_succ, eq_self, or_true, true_or, reduceIte, xt_ne, h0, h1, h2, h3, t0, xa_iff cE, mx_37]
    exact xq_as1 (if_pos c) c2 c3
  · have r := xq_as0 hT (if_neg c : xq_aM T l a b = none)
    refine ⟨_, ?_, r⟩
    by_cases c1 : ¬ (l < 0 ∨ 2 < l)
    · by_cases c2 : ¬ (a < 0 ∨ xC T - 1 < a)
      · by_cases c3 : ¬ (b < 0 ∨ 5 < b)
        · simp only [if_pos c1, if_pos c2, if_pos c3, if_neg (show ¬ xnM T < 5 by omega)]
        · simp only [if_pos c1, if_pos c2, if_neg c3]
      · simp only [if_pos c1, if_neg c2]
    · simp only [if_neg c1]
theorem pc_aW {M : xa_M} {t : Nat} {T : xt_T} (hT : xh_T M t T) (f u : Nat) (hf : f < 2147483648) (hu : u < 2147483648) (b3 : xnW T ≤ 6) : ∃ z, xa_E 38 0 (xa_ent [.ref t, .int (nI f), .int (nI u)]) [] M z ∧ xq_as t M T (xq_aW T f u) z := by
  have cn := fun n a b h ha hb => xa_iff (pc_isNotN (M := M) n a b h ha hb)
  refine xa_ge3 (fun lv h0 h1 h2 => ?_)
  obtain ⟨t0, t1, t2, t3, t4, t5, t6, ⟨g7, t7, e7⟩, ⟨g8, t8, e8⟩⟩ := id hT
  simp (disch := omega) only [↓ra_38_0, ↓ra_38_1, ↓ra_38_2, ↓ra_38_4, ↓ra_38_7, ↓ra_38_10, ↓ra_38_11, ↓ra_38_12, ↓ra_38_14, ↓ra_38_17, ↓ra_38_20, ↓ra_38_21, ↓ra_38_24, ↓ra_38_26, ↓ra_38_29, ↓ra_38_30, xa_kli, xa_klr, xa_kll, xa_ki, xa_kl, xa_kr, xa_kii, xa_kk, xa_kir, xa_krr, xa_kiir, xa_krir, xa_kdup, xa_kdup2, xa_kcp, xa_gf, xa_pf, xa_ga, xa_pa, xa_gq, xa_pq, xa_gl, xa_args, xa_ri, xa_rz, xa_rv, xa_s1, xa_s2, xa_c1, eq_self, List.getElem?_cons_succ, List.getElem?_cons_zero, true_and, and_true, nI_add, pk_mul, xt_in, xt_cl, xt_i0, xt_i1, xa_kc, xa_w8, xa_fit, lg_sl, List.flatMap_cons, List.flatMap_nil, List.map_cons, List.map_nil, List.sum_cons, List.sum_nil, Value.category, List.length_cons, List.length_nil, List.length_append, xa_rc, xa_rf, exists_eq_left, exists_eq', Option.some.injEq, Sum.inr.injEq, Prod.mk.injEq, Option.toList_some, Option.toList_none, List.cons_append, List.nil_append, Nat.reduceAdd, Nat.reduceLeDiff, Nat.reduceLT, List.set_cons_zero, List.set_cons_succ, eq_self, or_true, true_or, reduceIte, xt_ne, h0, h1, h2, t0, cn, mx_77, xt_b0, xt_sub, xt_lt]
  by_cases c : f ≤ 99 ∧ f ≤ u ∧ u ≤ 99 ∧ xnW T < 6
  · simp only [if_pos (show ¬ (f < 0 ∨ 99 < f) by omega), if_pos (show ¬ (u < f ∨ 99 < u) by omega), if_pos (show xnW T < 6 by omega)]
    simp (disch := omega) only [↓ra_38_31, ↓ra_38_32, ↓ra_38_35, ↓ra_38_36, ↓ra_38_39, ↓ra_38_40, ↓ra_38_41, ↓ra_38_42, ↓ra_38_45, ↓ra_38_46, ↓ra_38_49, ↓ra_38_50, ↓ra_38_51, ↓ra_38_52, ↓ra_38_53, ↓ra_38_56, ↓ra_38_57, ↓ra_38_58, ↓ra_38_61, ↓ra_38_62, xa_kli, xa_klr, xa_kll, xa_ki, xa_kl, xa_kr, xa_kii, xa_kk, xa_kir, xa_krr, xa_kiir, xa_krir, xa_kdup, xa_kdup2, xa_kcp, xa_gf, xa_pf, xa_ga, xa_pa, xa_gq, xa_pq, xa_gl, xa_args, xa_ri, xa_rz, xa_rv, xa_s1, xa_s2, xa_c1, eq_self, List.getElem?_cons_succ, List.getElem?_cons_zero, true_and, and_true, nI_add, pk_mul, xt_in, xt_cl, xt_i0, xt_i1, xa_kc, xa_w8, xa_fit, lg_sl, List.flatMap_cons, List.flatMap_nil, List.map_cons, List.map_nil, List.sum_cons, List.sum_nil, Value.category, List.length_cons, List.length_nil, List.length_append, xa_rc, xa_rf, exists_eq_left, exists_eq', Option.some.injEq, Sum.inr.injEq, Prod.mk.injEq, Option.toList_some, Option.toList_none, List.cons_append, List.nil_append, Nat.reduceAdd, Nat.reduceLeDiff, Nat.reduceLT, List.set_cons_zero, List.set_cons_succ, eq_self, or_true, true_or, reduceIte, xt_ne, h0, h1, h2, t0, t7, t8, xt_st]
    refine xq_as1 (if_pos c) (xa_fr_tr (xa_fr_tr (xa_fr_st (by omega) (by omega)) (xa_fr_st (by omega) (by omega))) (xa_fr_st (by omega) (by omega))) ⟨xa_st_eq, ?_, ?_, ?_, ?_, ?_, ?_, ?_, ?_⟩
    · exact xa_ar_ne (xa_ar_ne (xa_ar_ne t1 (by omega)) (by omega)) (by omega)
    · exact xa_ar_ne (xa_ar_ne (xa_ar_ne t2 (by omega)) (by omega)) (by omega)
    · exact xa_ar_ne (xa_ar_ne (xa_ar_ne t3 (by omega)) (by omega)) (by omega)
    · exact xa_ar_ne (xa_ar_ne (xa_ar_ne t4 (by omega)) (by omega)) (by omega)
    · exact xa_ar_ne (xa_ar_ne (xa_ar_ne t5 (by omega)) (by omega)) (by omega)
    · exact xa_ar_ne (xa_ar_ne (xa_ar_ne t6 (by omega)) (by omega)) (by omega)
    · exact xa_ar_ne (xa_ar_ne (xa_ar_ps e7) (by omega)) (by omega)
    · exact xa_ar_ne (xa_ar_ps e8) (by omega)
  · have r := xq_as0 hT (if_neg c : xq_aW T f u = none)
    refine ⟨_, ?_, r⟩
    by_cases c1 : ¬ (f < 0 ∨ 99 < f)
    · by_cases c2 : ¬ (u < f ∨ 99 < u)
      · simp only [if_pos c1, if_pos c2, if_neg (show ¬ xnW T < 6 by omega)]
      · simp only [if_pos c1, if_neg c2]
    · simp only [if_neg c1]
/-- an item: its letter, how many numbers, which -/
def xq_acc (T : xt_T) (c n : Nat) (v : Nat → Nat) : Option xt_T :=
  if c = 110 then (if n = 1 then xq_aN T (v 0) else none)
  else if c = 99 then (if n = 1 then xq_aC T (v 0) else none)
  else if c = 103 then (if n = 1 then xq_aG T (v 0) else none)
  else if c = 115 then (if n = 3 then xq_aS T (v 0) (v 1) (v 2) else none)
  else if c = 109 then (if n = 3 then xq_aM T (v 0) (v 1) (v 2) else none)
  else if c = 119 then (if n = 2 then xq_aW T (v 0) (v 1) else none)
  else none
