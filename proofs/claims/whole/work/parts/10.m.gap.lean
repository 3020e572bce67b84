/-- does one of these notches prove the day -/
def xq_ip (T : xt_T) (b day : Nat) : Nat → Bool
  | 0 => false
  | k + 1 => xq_ip T b day k || (b.testBit k && decide (xtf T k ≤ day ∧ day ≤ xtt T k))
theorem xq_ip_iff {T : xt_T} {b day : Nat} : ∀ n, xq_ip T b day n = true ↔ ∃ k, k < n ∧ b.testBit k = true ∧ xtf T k ≤ day ∧ day ≤ xtt T k
  | 0 => ⟨fun h => (by cases h), fun ⟨k, h, _⟩ => absurd h (Nat.not_lt_zero k)⟩
  | n + 1 => by
    unfold xq_ip
    rw [Bool.or_eq_true, xq_ip_iff n, Bool.and_eq_true, decide_eq_true_iff]
    constructor
    · rintro (⟨k, h1, h2⟩ | h)
      · exact ⟨k, by omega, h2⟩
      · exact ⟨n, by omega, h⟩
    · rintro ⟨k, h1, h2⟩
      by_cases e : k = n
      · subst e; exact Or.inr h2
      · exact Or.inl ⟨k, by omega, h2⟩
theorem xt_tb (b k : Nat) (hb : b < 2147483648) (hk : k < 32) : nI b >>> (nI k &&& 31) &&& nI 1 = nI (if b.testBit k = true then 1 else 0) := by
  rw [xt_shr _ _ hb hk]
  have e1 := pk_andN (n := b / 2 ^ k) (Nat.lt_of_le_of_lt (Nat.div_le_self _ _) (by omega)) (m := nI 1) 1 (by decide)
  rw [e1, Nat.testBit_eq_decide_div_mod_eq]
  rcases Nat.mod_two_eq_zero_or_one (b / 2 ^ k) with h | h <;> simp [h]
theorem pd_isProved {M : xa_M} {c n : Nat} {r : Nat → Int32} {g : Nat → Nat → Int32} {T : xt_T} (hB : xb_M M c r g) (hV : xv_T r (g 1) T n) (iT : xi_T T) (b day : Nat) (hb : b < 64) (hd : day < 1000) : xa_E 142 0 (xa_ent [.ref c, .int (nI b), .int (nI day)]) [] M (some (.int (nI (if xq_ip T b day (xnW T) = true then 1 else 0))), M) := by
  obtain ⟨⟨b1, b2, b3, b4, b5, b6, b7, b8⟩, bs, bm, bw⟩ := id iT
  obtain ⟨m0, m1, -⟩ := hB
  unfold xb_c at m0
  obtain ⟨⟨v0, v1, v2, v3, v4, v5⟩, -, -, -, vw⟩ := hV
  refine xa_go3 (fun lv h0 h1 h2 => ?_)
  have loop : ∀ (k i : Nat) (lv : xa_L), lv 0 = some (.ref c) → lv 1 = some (.int (nI b)) → lv 2 = some (.int (nI day)) → lv 3 = some (.int (nI (if xq_ip T b day i = true then 1 else 0))) → lv 4 = some (.int (nI i)) → i + k = xnW T → xa_E 142 5 lv [] M (some (.int (nI (if xq_ip T b day (xnW T) = true then 1 else 0))), M) := by
    intro k
    induction k with
    | zero =>
      intro i lv h0 h1 h2 h3 h4 e
      have e : i = xnW T := by omega
      subst e
      simp (disch := omega) only [↓ra_142_5, ↓ra_142_7, ↓ra_142_8, ↓ra_142_11, ↓ra_142_12, ↓ra_142_13, ↓ra_142_78, ↓ra_142_79, xa_kli, xa_klr, xa_kll, xa_ki, xa_kl, xa_kr, xa_kii, xa_kk, xa_kir, xa_krr, xa_kiir, xa_krir, xa_kdup, xa_kdup2, xa_kcp, xa_gf, xa_pf, xa_ga, xa_pa, xa_gq, xa_pq, xa_gl, xa_args, xa_ri, xa_rz, xa_rv, xa_s1, xa_s2, xa_c1, eq_self, List.getElem?_cons_succ, List.getElem?_cons_zero, true_and, and_true, nI_add, pk_mul, xt_in, xt_cl, xt_i0, xt_i1, xa_kc, xa_w8, xa_fit, lg_sl, List.flatMap_cons, List.flatMap_nil, List.map_cons, List.map_nil, List.sum_cons, List.sum_nil, Value.category, List.length_cons, List.length_nil, List.length_append, xa_rc, xa_rf, exists_eq_left, exists_eq', Option.some.injEq, Sum.inr.injEq, Prod.mk.injEq, Option.toList_some, Option.toList_none, List.cons_append, List.nil_append, Nat.reduceAdd, Nat.reduceLeDiff, Nat.reduceLT, List.set_cons_zero, List.set_cons_succ, eq_self, or_true, true_or, reduceIte, xt_ne, h0, h1, h2, h3, h4, m0, m1, v5, xt_le, Nat.le_refl]
      cases xq_ip T b day (xnW T) <;> simp
    | succ k ih =>
      intro i lv h0 h1 h2 h3 h4 e
      obtain ⟨w1, w2⟩ := vw i (by omega)
      have bi := bw i (by omega)
      simp (disch := omega) only [↓ra_142_5, ↓ra_142_7, ↓ra_142_8, ↓ra_142_11, ↓ra_142_12, ↓ra_142_13, xa_kli, xa_klr, xa_kll, xa_ki, xa_kl, xa_kr, xa_kii, xa_kk, xa_kir, xa_krr, xa_kiir, xa_krir, xa_kdup, xa_kdup2, xa_kcp, xa_gf, xa_pf, xa_ga, xa_pa, xa_gq, xa_pq, xa_gl, xa_args, xa_ri, xa_rz, xa_rv, xa_s1, xa_s2, xa_c1, eq_self, List.getElem?_cons_succ, List.getElem?_cons_zero, true_and, and_true, nI_add, pk_mul, xt_in, xt_cl, xt_i0, xt_i1, xa_kc, xa_w8, xa_fit, lg_sl, List.flatMap_cons, List.flatMap_nil, List.map_cons, List.map_nil, List.sum_cons, List.sum_nil, Value.category, List.length_cons, List.length_nil, List.length_append, xa_rc, xa_rf, exists_eq_left, exists_eq', Option.some.injEq, Sum.inr.injEq, Prod.mk.injEq, Option.toList_some, Option.toList_none, List.cons_append, List.nil_append, Nat.reduceAdd, Nat.reduceLeDiff, Nat.reduceLT, List.set_cons_zero, List.set_cons_succ, eq_self, or_true, true_or, reduceIte, xt_ne, h0, h1, h2, h3, h4, m0, m1, v5, xt_le]
      rw [if_neg (by omega)]
      simp (disch := omega) only [↓ra_142_16, ↓ra_142_17, xa_kli, xa_klr, xa_kll, xa_ki, xa_kl, xa_kr, xa_kii, xa_kk, xa_kir, xa_krr, xa_kiir, xa_krir, xa_kdup, xa_kdup2, xa_kcp, xa_gf, xa_pf, xa_ga, xa_pa, xa_gq, xa_pq, xa_gl, xa_args, xa_ri, xa_rz, xa_rv, xa_s1, xa_s2, xa_c1, eq_self, List.getElem?_cons_succ, List.getElem?_cons_zero, true_and, and_true, nI_add, pk_mul, xt_in, xt_cl, xt_i0, xt_i1, xa_kc, xa_w8, xa_fit, lg_sl, List.flatMap_cons, List.flatMap_nil, List.map_cons, List.map_nil, List.sum_cons, List.sum_nil, Value.category, List.length_cons, List.length_nil, List.length_append, xa_rc, xa_rf, exists_eq_left, exists_eq', Option.some.injEq, Sum.inr.injEq, Prod.mk.injEq, Option.toList_some, Option.toList_none, List.cons_append, List.nil_append, Nat.reduceAdd, Nat.reduceLeDiff, Nat.reduceLT, List.set_cons_zero, List.set_cons_succ, eq_self, or_true, true_or, reduceIte, xt_ne, h3, xt_b0]
      have nxt : ∀ v : Bool, v = xq_ip T b day (i + 1) → xa_E 142 71 lv [.int (nI (if v = true then 1 else 0))] M (some (.int (nI (if xq_ip T b day (xnW T) = true then 1 else 0))), M) := by
        intro v hv
        simp (disch := omega) only [↓ra_142_71, ↓ra_142_72, ↓ra_142_75, xa_kli, xa_klr, xa_kll, xa_ki, xa_kl, xa_kr, xa_kii, xa_kk, xa_kir, xa_krr, xa_kiir, xa_krir, xa_kdup, xa_kdup2, xa_kcp, xa_gf, xa_pf, xa_ga, xa_pa, xa_gq, xa_pq, xa_gl, xa_args, xa_ri, xa_rz, xa_rv, xa_s1, xa_s2, xa_c1, eq_self, List.getElem?_cons_succ, List.getElem?_cons_zero, true_and, and_true, nI_add, pk_mul, xt_in, xt_cl, xt_i0, xt_i1, xa_kc, xa_w8, xa_fit, lg_sl, List.flatMap_cons, List.flatMap_nil, List.map_cons, List.map_nil, List.sum_cons, List.sum_nil, Value.category, List.length_cons, List.length_nil, List.length_append, xa_rc, xa_rf, exists_eq_left, exists_eq', Option.some.injEq, Sum.inr.injEq, Prod.mk.injEq, Option.toList_some, Option.toList_none, List.cons_append, List.nil_append, Nat.reduceAdd, Nat.reduceLeDiff, Nat.reduceLT, List.set_cons_zero, List.set_cons_succ, eq_self, or_true, true_or, reduceIte, xt_ne, h4]
        exact ih (i + 1) _ (by simp [xa_s1, xa_c1, h0]) (by simp [xa_s1, xa_c1, h1]) (by simp [xa_s1, xa_c1, h2]) (by simp [xa_s1, xa_c1, hv]) (by simp [xa_s1, xa_c1]) (by omega)
      by_cases cp : xq_ip T b day i = true
      · simp only [cp, not_true_eq_false, if_false]
        simp (disch := omega) only [↓ra_142_66, ↓ra_142_67, xa_kli, xa_klr, xa_kll, xa_ki, xa_kl, xa_kr, xa_kii, xa_kk, xa_kir, xa_krr, xa_kiir, xa_krir, xa_kdup, xa_kdup2, xa_kcp, xa_gf, xa_pf, xa_ga, xa_pa, xa_gq, xa_pq, xa_gl, xa_args, xa_ri, xa_rz, xa_rv, xa_s1, xa_s2, xa_c1, eq_self, List.getElem?_cons_succ, List.getElem?_cons_zero, true_and, and_true, nI_add, pk_mul, xt_in, xt_cl, xt_i0, xt_i1, xa_kc, xa_w8, xa_fit, lg_sl, List.flatMap_cons, List.flatMap_nil, List.map_cons, List.map_nil, List.sum_cons, List.sum_nil, Value.category, List.length_cons, List.length_nil, List.length_append, xa_rc, xa_rf, exists_eq_left, exists_eq', Option.some.injEq, Sum.inr.injEq, Prod.mk.injEq, Option.toList_some, Option.toList_none, List.cons_append, List.nil_append, Nat.reduceAdd, Nat.reduceLeDiff, Nat.reduceLT, List.set_cons_zero, List.set_cons_succ, eq_self, or_true, true_or, reduceIte, xt_ne]
        exact nxt true (by unfold xq_ip; simp [cp])
      · simp only [cp, not_false_eq_true, if_true]
        have cp' : xq_ip T b day i = false := by simpa using cp
        simp (disch := omega) only [↓ra_142_20, ↓ra_142_21, ↓ra_142_23, ↓ra_142_24, ↓ra_142_25, ↓ra_142_26, ↓ra_142_27, xa_kli, xa_klr, xa_kll, xa_ki, xa_kl, xa_kr, xa_kii, xa_kk, xa_kir, xa_krr, xa_kiir, xa_krir, xa_kdup, xa_kdup2, xa_kcp, xa_gf, xa_pf, xa_ga, xa_pa, xa_gq, xa_pq, xa_gl, xa_args, xa_ri, xa_rz, xa_rv, xa_s1, xa_s2, xa_c1, eq_self, List.getElem?_cons_succ, List.getElem?_cons_zero, true_and, and_true, nI_add, pk_mul, xt_in, xt_cl, xt_i0, xt_i1, xa_kc, xa_w8, xa_fit, lg_sl, List.flatMap_cons, List.flatMap_nil, List.map_cons, List.map_nil, List.sum_cons, List.sum_nil, Value.category, List.length_cons, List.length_nil, List.length_append, xa_rc, xa_rf, exists_eq_left, exists_eq', Option.some.injEq, Sum.inr.injEq, Prod.mk.injEq, Option.toList_some, Option.toList_none, List.cons_append, List.nil_append, Nat.reduceAdd, Nat.reduceLeDiff, Nat.reduceLT, List.set_cons_zero, List.set_cons_succ, eq_self, or_true, true_or, reduceIte, xt_ne, h1, h4, xt_tb, xt_b1]
        by_cases ct : b.testBit i = true
        · rw [if_pos ct]
          by_cases cd : xtf T i ≤ day ∧ day ≤ xtt T i
          · have ci := xa_iff (pd_in_k (M := M) day (xtf T i) (xtt T i) cd (by omega))
            simp (disch := omega) only [↓ra_142_30, ↓ra_142_31, ↓ra_142_32, ↓ra_142_33, ↓ra_142_36, ↓ra_142_38, ↓ra_142_39, ↓ra_142_41, ↓ra_142_42, ↓ra_142_43, ↓ra_142_44, ↓ra_142_45, ↓ra_142_46, ↓ra_142_49, ↓ra_142_51, ↓ra_142_52, ↓ra_142_54, ↓ra_142_55, ↓ra_142_56, ↓ra_142_57, ↓ra_142_58, ↓ra_142_59, ↓ra_142_60, ↓ra_142_63, ↓ra_142_66, ↓ra_142_67, xa_kli, xa_klr, xa_kll, xa_ki, xa_kl, xa_kr, xa_kii, xa_kk, xa_kir, xa_krr, xa_kiir, xa_krir, xa_kdup, xa_kdup2, xa_kcp, xa_gf, xa_pf, xa_ga, xa_pa, xa_gq, xa_pq, xa_gl, xa_args, xa_ri, xa_rz, xa_rv, xa_s1, xa_s2, xa_c1, eq_self, List.getElem?_cons_succ, List.getElem?_cons_zero, true_and, and_true, nI_add, pk_mul, xt_in, xt_cl, xt_i0, xt_i1, xa_kc, xa_w8, xa_fit, lg_sl, List.flatMap_cons, List.flatMap_nil, List.map_cons, List.map_nil, List.sum_cons, List.sum_nil, Value.category, List.length_cons, List.length_nil, List.length_append, xa_rc, xa_rf, exists_eq_left, exists_eq', Option.some.injEq, Sum.inr.injEq, Prod.mk.injEq, Option.toList_some, Option.toList_none, List.cons_append, List.nil_append, Nat.reduceAdd, Nat.reduceLeDiff, Nat.reduceLT, List.set_cons_zero, List.set_cons_succ, eq_self, or_true, true_or, reduceIte, xt_ne, xt_eq, Nat.reduceEqDiff, Nat.one_ne_zero, if_false, h0, h2, h4, m0, m1, w1, w2, nI_l, ci, mx_92]
            exact nxt true (by unfold xq_ip; simp [ct, cd])
          · have ci := xa_iff (pd_in_j (M := M) day (xtf T i) (xtt T i) cd (by omega) (by omega) (by omega))
            simp (disch := omega) only [↓ra_142_30, ↓ra_142_31, ↓ra_142_32, ↓ra_142_33, ↓ra_142_36, ↓ra_142_38, ↓ra_142_39, ↓ra_142_41, ↓ra_142_42, ↓ra_142_43, ↓ra_142_44, ↓ra_142_45, ↓ra_142_46, ↓ra_142_49, ↓ra_142_51, ↓ra_142_52, ↓ra_142_54, ↓ra_142_55, ↓ra_142_56, ↓ra_142_57, ↓ra_142_58, ↓ra_142_59, ↓ra_142_60, ↓ra_142_63, ↓ra_142_70, xa_kli, xa_klr, xa_kll, xa_ki, xa_kl, xa_kr, xa_kii, xa_kk, xa_kir, xa_krr, xa_kiir, xa_krir, xa_kdup, xa_kdup2, xa_kcp, xa_gf, xa_pf, xa_ga, xa_pa, xa_gq, xa_pq, xa_gl, xa_args, xa_ri, xa_rz, xa_rv, xa_s1, xa_s2, xa_c1, eq_self, List.getElem?_cons_succ, List.getElem?_cons_zero, true_and, and_true, nI_add, pk_mul, xt_in, xt_cl, xt_i0, xt_i1, xa_kc, xa_w8, xa_fit, lg_sl, List.flatMap_cons, List.flatMap_nil, List.map_cons, List.map_nil, List.sum_cons, List.sum_nil, Value.category, List.length_cons, List.length_nil, List.length_append, xa_rc, xa_rf, exists_eq_left, exists_eq', Option.some.injEq, Sum.inr.injEq, Prod.mk.injEq, Option.toList_some, Option.toList_none, List.cons_append, List.nil_append, Nat.reduceAdd, Nat.reduceLeDiff, Nat.reduceLT, List.set_cons_zero, List.set_cons_succ, eq_self, or_true, true_or, reduceIte, xt_ne, xt_eq, Nat.reduceEqDiff, Nat.one_ne_zero, if_false, h0, h2, h4, m0, m1, w1, w2, nI_l, ci, mx_92]
            exact nxt false (by unfold xq_ip; rw [cp', decide_eq_false cd]; simp)
        · rw [if_neg ct]
          simp (disch := omega) only [↓ra_142_70, xa_kli, xa_klr, xa_kll, xa_ki, xa_kl, xa_kr, xa_kii, xa_kk, xa_kir, xa_krr, xa_kiir, xa_krir, xa_kdup, xa_kdup2, xa_kcp, xa_gf, xa_pf, xa_ga, xa_pa, xa_gq, xa_pq, xa_gl, xa_args, xa_ri, xa_rz, xa_rv, xa_s1, xa_s2, xa_c1, eq_self, List.getElem?_cons_succ, List.getElem?_cons_zero, true_and, and_true, nI_add, pk_mul, xt_in, xt_cl, xt_i0, xt_i1, xa_kc, xa_w8, xa_fit, lg_sl, List.flatMap_cons, List.flatMap_nil, List.map_cons, List.map_nil, List.sum_cons, List.sum_nil, Value.category, List.length_cons, List.length_nil, List.length_append, xa_rc, xa_rf, exists_eq_left, exists_eq', Option.some.injEq, Sum.inr.injEq, Prod.mk.injEq, Option.toList_some, Option.toList_none, List.cons_append, List.nil_append, Nat.reduceAdd, Nat.reduceLeDiff, Nat.reduceLT, List.set_cons_zero, List.set_cons_succ, eq_self, or_true, true_or, reduceIte, xt_ne]
          exact nxt false (by unfold xq_ip; have : b.testBit i = false := by simpa using ct
                              rw [cp', this]; simp)
  simp (disch := omega) only [↓ra_142_0, ↓ra_142_1, ↓ra_142_2, ↓ra_142_3, xa_kli, xa_klr, xa_kll, xa_ki, xa_kl, xa_kr, xa_kii, xa_kk, xa_kir, xa_krr, xa_kiir, xa_krir, xa_kdup, xa_kdup2, xa_kcp, xa_gf, xa_pf, xa_ga, xa_pa, xa_gq, xa_pq, xa_gl, xa_args, xa_ri, xa_rz, xa_rv, xa_s1, xa_s2, xa_c1, eq_self, List.getElem?_cons_succ, List.getElem?_cons_zero, true_and, and_true, nI_add, pk_mul, xt_in, xt_cl, xt_i0, xt_i1, xa_kc, xa_w8, xa_fit, lg_sl, List.flatMap_cons, List.flatMap_nil, List.map_cons, List.map_nil, List.sum_cons, List.sum_nil, Value.category, List.length_cons, List.length_nil, List.length_append, xa_rc, xa_rf, exists_eq_left, exists_eq', Option.some.injEq, Sum.inr.injEq, Prod.mk.injEq, Option.toList_some, Option.toList_none, List.cons_append, List.nil_append, Nat.reduceAdd, Nat.reduceLeDiff, Nat.reduceLT, List.set_cons_zero, List.set_cons_succ, eq_self, or_true, true_or, reduceIte, xt_ne]
  exact loop (xnW T) 0 _ (by simp [xa_s1, xa_c1, h0]) (by simp [xa_s1, xa_c1, h1]) (by simp [xa_s1, xa_c1, h2]) (by simp [xa_s1, xa_c1, xq_ip]) (by simp [xa_s1, xa_c1]) (by omega)
def xq_gq (T : xt_T) (b : Nat) : Nat → Nat → Option Nat
  | 0, _ => none
  | r + 1, day => if xq_ip T b day (xnW T) = true then xq_gq T b r (day + 1) else some day
theorem xq_gq_le {T : xt_T} {b : Nat} : ∀ (r day n : Nat), xq_gq T b r day = some n → n < day + r
  | 0, _, _, h => by cases h
  | r + 1, day, n, h => by
    unfold xq_gq at h
    split at h
    · have := xq_gq_le r (day + 1) n h; omega
    · cases h; omega
theorem pd_gapOf {M : xa_M} {c n : Nat} {r : Nat → Int32} {g : Nat → Nat → Int32} {T : xt_T} (hB : xb_M M c r g) (hV : xv_T r (g 1) T n) (iT : xi_T T) (b f t : Nat) (hb : b < 64) (hf : f ≤ t) (ht : t ≤ 99) : xa_E 143 0 (xa_ent [.ref c, .int (nI b), .int (nI f), .int (nI t)]) [] M (some (.int (xt_o (xq_gq T b (t + 1 - f) f))), M) := by
  have cp := fun (day : Nat) (hd : day < 1000) => xa_iff (pd_isProved hB hV iT b day hb hd)
  obtain ⟨m0, m1, -⟩ := hB
  unfold xb_c at m0
  refine xa_go4 (fun lv h0 h1 h2 h3 => ?_)
  have loop : ∀ (k day : Nat) (lv : xa_L), lv 0 = some (.ref c) → lv 1 = some (.int (nI b)) → lv 3 = some (.int (nI t)) → lv 4 = some (.int (nI day)) → day + k = t + 1 → xa_E 143 3 lv [] M (some (.int (xt_o (xq_gq T b k day))), M) := by
    intro k
    induction k with
    | zero =>
      intro day lv h0 h1 h3 h4 e
      simp (disch := omega) only [↓ra_143_3, ↓ra_143_5, ↓ra_143_6, xa_kli, xa_klr, xa_kll, xa_ki, xa_kl, xa_kr, xa_kii, xa_kk, xa_kir, xa_krr, xa_kiir, xa_krir, xa_kdup, xa_kdup2, xa_kcp, xa_gf, xa_pf, xa_ga, xa_pa, xa_gq, xa_pq, xa_gl, xa_args, xa_ri, xa_rz, xa_rv, xa_s1, xa_s2, xa_c1, eq_self, List.getElem?_cons_succ, List.getElem?_cons_zero, true_and, and_true, nI_add, pk_mul, xt_in, xt_cl, xt_i0, xt_i1, xa_kc, xa_w8, xa_fit, lg_sl, List.flatMap_cons, List.flatMap_nil, List.map_cons, List.map_nil, List.sum_cons, List.sum_nil, Value.category, List.length_cons, List.length_nil, List.length_append, xa_rc, xa_rf, exists_eq_left, exists_eq', Option.some.injEq, Sum.inr.injEq, Prod.mk.injEq, Option.toList_some, Option.toList_none, List.cons_append, List.nil_append, Nat.reduceAdd, Nat.reduceLeDiff, Nat.reduceLT, List.set_cons_zero, List.set_cons_succ, eq_self, or_true, true_or, reduceIte, xt_ne, h0, h1, h3, h4, xt_lt]
      rw [if_pos (by omega)]
      simp (disch := omega) only [↓ra_143_28, ↓ra_143_30, xa_kli, xa_klr, xa_kll, xa_ki, xa_kl, xa_kr, xa_kii, xa_kk, xa_kir, xa_krr, xa_kiir, xa_krir, xa_kdup, xa_kdup2, xa_kcp, xa_gf, xa_pf, xa_ga, xa_pa, xa_gq, xa_pq, xa_gl, xa_args, xa_ri, xa_rz, xa_rv, xa_s1, xa_s2, xa_c1, eq_self, List.getElem?_cons_succ, List.getElem?_cons_zero, true_and, and_true, nI_add, pk_mul, xt_in, xt_cl, xt_i0, xt_i1, xa_kc, xa_w8, xa_fit, lg_sl, List.flatMap_cons, List.flatMap_nil, List.map_cons, List.map_nil, List.sum_cons, List.sum_nil, Value.category, List.length_cons, List.length_nil, List.length_append, xa_rc, xa_rf, exists_eq_left, exists_eq', Option.some.injEq, Sum.inr.injEq, Prod.mk.injEq, Option.toList_some, Option.toList_none, List.cons_append, List.nil_append, Nat.reduceAdd, Nat.reduceLeDiff, Nat.reduceLT, List.set_cons_zero, List.set_cons_succ, eq_self, or_true, true_or, reduceIte, xt_ne]
      rfl
    | succ k ih =>
      intro day lv h0 h1 h3 h4 e
      simp (disch := omega) only [↓ra_143_3, ↓ra_143_5, ↓ra_143_6, xa_kli, xa_klr, xa_kll, xa_ki, xa_kl, xa_kr, xa_kii, xa_kk, xa_kir, xa_krr, xa_kiir, xa_krir, xa_kdup, xa_kdup2, xa_kcp, xa_gf, xa_pf, xa_ga, xa_pa, xa_gq, xa_pq, xa_gl, xa_args, xa_ri, xa_rz, xa_rv, xa_s1, xa_s2, xa_c1, eq_self, List.getElem?_cons_succ, List.getElem?_cons_zero, true_and, and_true, nI_add, pk_mul, xt_in, xt_cl, xt_i0, xt_i1, xa_kc, xa_w8, xa_fit, lg_sl, List.flatMap_cons, List.flatMap_nil, List.map_cons, List.map_nil, List.sum_cons, List.sum_nil, Value.category, List.length_cons, List.length_nil, List.length_append, xa_rc, xa_rf, exists_eq_left, exists_eq', Option.some.injEq, Sum.inr.injEq, Prod.mk.injEq, Option.toList_some, Option.toList_none, List.cons_append, List.nil_append, Nat.reduceAdd, Nat.reduceLeDiff, Nat.reduceLT, List.set_cons_zero, List.set_cons_succ, eq_self, or_true, true_or, reduceIte, xt_ne, h0, h1, h3, h4, xt_lt]
      rw [if_neg (by omega)]
      simp (disch := omega) only [↓ra_143_9, ↓ra_143_10, ↓ra_143_11, ↓ra_143_13, ↓ra_143_16, xa_kli, xa_klr, xa_kll, xa_ki, xa_kl, xa_kr, xa_kii, xa_kk, xa_kir, xa_krr, xa_kiir, xa_krir, xa_kdup, xa_kdup2, xa_kcp, xa_gf, xa_pf, xa_ga, xa_pa, xa_gq, xa_pq, xa_gl, xa_args, xa_ri, xa_rz, xa_rv, xa_s1, xa_s2, xa_c1, eq_self, List.getElem?_cons_succ, List.getElem?_cons_zero, true_and, and_true, nI_add, pk_mul, xt_in, xt_cl, xt_i0, xt_i1, xa_kc, xa_w8, xa_fit, lg_sl, List.flatMap_cons, List.flatMap_nil, List.map_cons, List.map_nil, List.sum_cons, List.sum_nil, Value.category, List.length_cons, List.length_nil, List.length_append, xa_rc, xa_rf, exists_eq_left, exists_eq', Option.some.injEq, Sum.inr.injEq, Prod.mk.injEq, Option.toList_some, Option.toList_none, List.cons_append, List.nil_append, Nat.reduceAdd, Nat.reduceLeDiff, Nat.reduceLT, List.set_cons_zero, List.set_cons_succ, eq_self, or_true, true_or, reduceIte, xt_ne, h0, h1, h3, h4, m0, cp, mx_142, xt_b0]
      unfold xq_gq
      by_cases cc : xq_ip T b day (xnW T) = true
      · simp only [cc, not_true_eq_false, if_false, if_true]
        simp (disch := omega) only [↓ra_143_22, ↓ra_143_25, xa_kli, xa_klr, xa_kll, xa_ki, xa_kl, xa_kr, xa_kii, xa_kk, xa_kir, xa_krr, xa_kiir, xa_krir, xa_kdup, xa_kdup2, xa_kcp, xa_gf, xa_pf, xa_ga, xa_pa, xa_gq, xa_pq, xa_gl, xa_args, xa_ri, xa_rz, xa_rv, xa_s1, xa_s2, xa_c1, eq_self, List.getElem?_cons_succ, List.getElem?_cons_zero, true_and, and_true, nI_add, pk_mul, xt_in, xt_cl, xt_i0, xt_i1, xa_kc, xa_w8, xa_fit, lg_sl, List.flatMap_cons, List.flatMap_nil, List.map_cons, List.map_nil, List.sum_cons, List.sum_nil, Value.category, List.length_cons, List.length_nil, List.length_append, xa_rc, xa_rf, exists_eq_left, exists_eq', Option.some.injEq, Sum.inr.injEq, Prod.mk.injEq, Option.toList_some, Option.toList_none, List.cons_append, List.nil_append, Nat.reduceAdd, Nat.reduceLeDiff, Nat.reduceLT, List.set_cons_zero, List.set_cons_succ, eq_self, or_true, true_or, reduceIte, xt_ne, h4]
        exact ih (day + 1) _ (by simp [xa_s1, xa_c1, h0]) (by simp [xa_s1, xa_c1, h1]) (by simp [xa_s1, xa_c1, h3]) (by simp [xa_s1, xa_c1]) (by omega)
      · simp only [cc, not_false_eq_true, if_false, if_true]
        simp (disch := omega) only [↓ra_143_19, ↓ra_143_21, xa_kli, xa_klr, xa_kll, xa_ki, xa_kl, xa_kr, xa_kii, xa_kk, xa_kir, xa_krr, xa_kiir, xa_krir, xa_kdup, xa_kdup2, xa_kcp, xa_gf, xa_pf, xa_ga, xa_pa, xa_gq, xa_pq, xa_gl, xa_args, xa_ri, xa_rz, xa_rv, xa_s1, xa_s2, xa_c1, eq_self, List.getElem?_cons_succ, List.getElem?_cons_zero, true_and, and_true, nI_add, pk_mul, xt_in, xt_cl, xt_i0, xt_i1, xa_kc, xa_w8, xa_fit, lg_sl, List.flatMap_cons, List.flatMap_nil, List.map_cons, List.map_nil, List.sum_cons, List.sum_nil, Value.category, List.length_cons, List.length_nil, List.length_append, xa_rc, xa_rf, exists_eq_left, exists_eq', Option.some.injEq, Sum.inr.injEq, Prod.mk.injEq, Option.toList_some, Option.toList_none, List.cons_append, List.nil_append, Nat.reduceAdd, Nat.reduceLeDiff, Nat.reduceLT, List.set_cons_zero, List.set_cons_succ, eq_self, or_true, true_or, reduceIte, xt_ne, h4]
        rfl
  simp (disch := omega) only [↓ra_143_0, ↓ra_143_1, xa_kli, xa_klr, xa_kll, xa_ki, xa_kl, xa_kr, xa_kii, xa_kk, xa_kir, xa_krr, xa_kiir, xa_krir, xa_kdup, xa_kdup2, xa_kcp, xa_gf, xa_pf, xa_ga, xa_pa, xa_gq, xa_pq, xa_gl, xa_args, xa_ri, xa_rz, xa_rv, xa_s1, xa_s2, xa_c1, eq_self, List.getElem?_cons_succ, List.getElem?_cons_zero, true_and, and_true, nI_add, pk_mul, xt_in, xt_cl, xt_i0, xt_i1, xa_kc, xa_w8, xa_fit, lg_sl, List.flatMap_cons, List.flatMap_nil, List.map_cons, List.map_nil, List.sum_cons, List.sum_nil, Value.category, List.length_cons, List.length_nil, List.length_append, xa_rc, xa_rf, exists_eq_left, exists_eq', Option.some.injEq, Sum.inr.injEq, Prod.mk.injEq, Option.toList_some, Option.toList_none, List.cons_append, List.nil_append, Nat.reduceAdd, Nat.reduceLeDiff, Nat.reduceLT, List.set_cons_zero, List.set_cons_succ, eq_self, or_true, true_or, reduceIte, xt_ne, h2]
  exact loop (t + 1 - f) f _ (by simp [xa_s1, xa_c1, h0]) (by simp [xa_s1, xa_c1, h1]) (by simp [xa_s1, xa_c1, h3]) (by simp [xa_s1, xa_c1]) (by omega)
-- the first day that no notch proves
theorem xq_pf_none {T : xt_T} {day : Nat} : ∀ n, xq_pf T day n = none ↔ ∀ k, k < n → ¬ (xtf T k ≤ day ∧ day ≤ xtt T k)
  | 0 => ⟨fun _ k h => absurd h (Nat.not_lt_zero k), fun _ => rfl⟩
  | n + 1 => by
    have ih := xq_pf_none (T := T) (day := day) n
    unfold xq_pf
    by_cases c : xtf T n ≤ day ∧ day ≤ xtt T n
    · rw [if_pos c]
      exact ⟨fun h => (by cases h), fun h => absurd c (h n (by omega))⟩
    · rw [if_neg c, ih]
      constructor
      · intro h k hk
        by_cases e : k = n
        · subst e; exact c
        · exact h k (by omega)
      · intro h k hk
        exact h k (by omega)
theorem xt_63t : ∀ k, k < 6 → (63 : Nat).testBit k = true := by decide
theorem xq_ip63 {T : xt_T} {day : Nat} (h6 : xnW T ≤ 6) : xq_ip T 63 day (xnW T) = true ↔ ¬ xq_pf T day (xnW T) = none := by
  rw [xq_ip_iff, xq_pf_none]
  constructor
  · rintro ⟨k, h1, -, h2⟩ h
    exact h k h1 h2
  · intro h
    refine Classical.byContradiction (fun hc => h (fun k hk hd => hc ⟨k, hk, xt_63t k (by omega), hd⟩))
theorem xq_gq63 {T : xt_T} (h6 : xnW T ≤ 6) : ∀ (r day : Nat), xq_gq T 63 r day = xq_gp T r day
  | 0, _ => rfl
  | r + 1, day => by
    unfold xq_gq xq_gp
    by_cases c : xq_pf T day (xnW T) = none
    · rw [if_pos c, if_neg (fun h => (xq_ip63 h6).mp h c)]
    · rw [if_neg c, if_pos ((xq_ip63 h6).mpr c)]
      exact xq_gq63 h6 r (day + 1)
theorem pe_gap_n {M : xa_M} {c : Nat} {A : xt_A} (hh : xh_B M c A) (iA : xi_A A) {x y : Int32} (h : ¬ ∃ f t : Nat, f ≤ t ∧ t ≤ 99 ∧ x = nI f ∧ y = nI t) : xa_E 145 0 (xa_ent [.ref c, .int x, .int y]) [] M (some (.int (Int32.ofInt (-1))), M) := by
  refine xa_go3 (fun lv h0 h1 h2 => ?_)
  by_cases a0 : xt_k x 0 (99 + 1)
  · obtain ⟨f, -, hf, rfl⟩ := a0
    have a1 : ¬ xt_k y f (99 + 1) := fun ⟨t, t1, t2, t3⟩ => h ⟨f, t, t1, by omega, rfl, t3⟩
    have c0 := xa_iff (pd_in_k (M := M) f 0 99 (by omega) (by omega))
    have c1 := xa_iff (pd_in_x (M := M) f 99 a1 (by omega) (by omega))
    simp (disch := omega) only [↓ra_145_0, ↓ra_145_1, ↓ra_145_2, ↓ra_145_3, ↓ra_145_6, ↓ra_145_9, ↓ra_145_12, ↓ra_145_13, ↓ra_145_14, ↓ra_145_15, ↓ra_145_16, ↓ra_145_19, ↓ra_145_22, ↓ra_145_36, ↓ra_145_37, xa_kli, xa_klr, xa_kll, xa_ki, xa_kl, xa_kr, xa_kii, xa_kk, xa_kir, xa_krr, xa_kiir, xa_krir, xa_kdup, xa_kdup2, xa_kcp, xa_gf, xa_pf, xa_ga, xa_pa, xa_gq, xa_pq, xa_gl, xa_args, xa_ri, xa_rz, xa_rv, xa_s1, xa_s2, xa_c1, eq_self, List.getElem?_cons_succ, List.getElem?_cons_zero, true_and, and_true, nI_add, pk_mul, xt_in, xt_cl, xt_i0, xt_i1, xa_kc, xa_w8, xa_fit, lg_sl, List.flatMap_cons, List.flatMap_nil, List.map_cons, List.map_nil, List.sum_cons, List.sum_nil, Value.category, List.length_cons, List.length_nil, List.length_append, xa_rc, xa_rf, exists_eq_left, exists_eq', Option.some.injEq, Sum.inr.injEq, Prod.mk.injEq, Option.toList_some, Option.toList_none, List.cons_append, List.nil_append, Nat.reduceAdd, Nat.reduceLeDiff, Nat.reduceLT, List.set_cons_zero, List.set_cons_succ, eq_self, or_true, true_or, reduceIte, xt_ne, xt_eq, Nat.reduceEqDiff, Nat.one_ne_zero, if_false, h0, h1, h2, nI_l, c0, c1, mx_92]
  · have c0 := xa_iff (pd_in_x (M := M) 0 99 a0 (by omega) (by omega))
    simp (disch := omega) only [↓ra_145_0, ↓ra_145_1, ↓ra_145_2, ↓ra_145_3, ↓ra_145_6, ↓ra_145_9, ↓ra_145_12, ↓ra_145_13, ↓ra_145_14, ↓ra_145_15, ↓ra_145_16, ↓ra_145_19, ↓ra_145_22, ↓ra_145_36, ↓ra_145_37, xa_kli, xa_klr, xa_kll, xa_ki, xa_kl, xa_kr, xa_kii, xa_kk, xa_kir, xa_krr, xa_kiir, xa_krir, xa_kdup, xa_kdup2, xa_kcp, xa_gf, xa_pf, xa_ga, xa_pa, xa_gq, xa_pq, xa_gl, xa_args, xa_ri, xa_rz, xa_rv, xa_s1, xa_s2, xa_c1, eq_self, List.getElem?_cons_succ, List.getElem?_cons_zero, true_and, and_true, nI_add, pk_mul, xt_in, xt_cl, xt_i0, xt_i1, xa_kc, xa_w8, xa_fit, lg_sl, List.flatMap_cons, List.flatMap_nil, List.map_cons, List.map_nil, List.sum_cons, List.sum_nil, Value.category, List.length_cons, List.length_nil, List.length_append, xa_rc, xa_rf, exists_eq_left, exists_eq', Option.some.injEq, Sum.inr.injEq, Prod.mk.injEq, Option.toList_some, Option.toList_none, List.cons_append, List.nil_append, Nat.reduceAdd, Nat.reduceLeDiff, Nat.reduceLT, List.set_cons_zero, List.set_cons_succ, eq_self, or_true, true_or, reduceIte, xt_ne, xt_eq, Nat.reduceEqDiff, Nat.one_ne_zero, if_false, h0, h1, h2, c0, mx_92]
theorem pe_gap {M : xa_M} {c : Nat} {A : xt_A} (hh : xh_B M c A) (iA : xi_A A) (f t : Nat) (hf : f ≤ t) (ht : t ≤ 99) : ∃ y0, xa_E 145 0 (xa_ent [.ref c, .int (nI f), .int (nI t)]) [] M y0 ∧ xm2 c M (xs_gap A f t) A y0 := by
  obtain ⟨r, g, hB, hw⟩ := id hh
  have hA := xw_A hB hw
  obtain ⟨⟨r2, r3, r5, r6⟩, hV, hS, ⟨hx1, hx2⟩, ⟨hu1, hu2⟩, ⟨hk1, hk2⟩, ⟨hg1, hg2⟩⟩ := id hw
  obtain ⟨iT, i5, i60, i1, ⟨iS, iD⟩, iX, iU, iK, iG⟩ := id iA
  obtain ⟨⟨b1, b2, b3, b4, b5, b6, b7, b8⟩, bs, bm, bw⟩ := id iT
  have ix := iX.1
  have iu := iU.1
  have ik := iK.1
  have ig := iG.1
  obtain ⟨⟨v0, v1, v2, v3, v4, v5⟩, vs, vm, -, vw⟩ := id hV
  obtain ⟨m0, m1, m2, m3, m4, m5, m6, m7, m8, m9⟩ := id hB
  unfold xb_c at m0
  have ca := xa_iff (pd_in_k (M := M) f 0 99 (by omega) (by omega))
  have cb := xa_iff (pd_in_k (M := M) t f 99 (by omega) (by omega))
  have cg := xa_iff (pd_gapOf hB hV iT 63 f t (by omega) hf ht)
  refine xa_ge3 (fun lv h0 h1 h2 => ?_)
  simp (disch := omega) only [↓ra_145_0, ↓ra_145_1, ↓ra_145_2, ↓ra_145_3, ↓ra_145_6, ↓ra_145_9, ↓ra_145_12, ↓ra_145_13, ↓ra_145_14, ↓ra_145_15, ↓ra_145_16, ↓ra_145_19, ↓ra_145_22, ↓ra_145_25, ↓ra_145_26, ↓ra_145_28, ↓ra_145_29, ↓ra_145_30, ↓ra_145_33, ↓ra_145_37, xa_kli, xa_klr, xa_kll, xa_ki, xa_kl, xa_kr, xa_kii, xa_kk, xa_kir, xa_krr, xa_kiir, xa_krir, xa_kdup, xa_kdup2, xa_kcp, xa_gf, xa_pf, xa_ga, xa_pa, xa_gq, xa_pq, xa_gl, xa_args, xa_ri, xa_rz, xa_rv, xa_s1, xa_s2, xa_c1, eq_self, List.getElem?_cons_succ, List.getElem?_cons_zero, true_and, and_true, nI_add, pk_mul, xt_in, xt_cl, xt_i0, xt_i1, xa_kc, xa_w8, xa_fit, lg_sl, List.flatMap_cons, List.flatMap_nil, List.map_cons, List.map_nil, List.sum_cons, List.sum_nil, Value.category, List.length_cons, List.length_nil, List.length_append, xa_rc, xa_rf, exists_eq_left, exists_eq', Option.some.injEq, Sum.inr.injEq, Prod.mk.injEq, Option.toList_some, Option.toList_none, List.cons_append, List.nil_append, Nat.reduceAdd, Nat.reduceLeDiff, Nat.reduceLT, List.set_cons_zero, List.set_cons_succ, eq_self, or_true, true_or, reduceIte, xt_ne, xt_eq, Nat.reduceEqDiff, Nat.one_ne_zero, if_false, h0, h1, h2, nI_l, ca, cb, mx_92, m0, cg, mx_143]
  rw [xq_gq63 b8]
  exact xm2_r hh
-- fewest notches
def xq_cov (T : xt_T) (t : Nat) (p : Nat → Bool) (d : Nat) : Prop := ∀ y, d ≤ y → y ≤ t → ∃ k, k < xnW T ∧ p k = true ∧ xtf T k ≤ y ∧ y ≤ xtt T k
theorem xt_c_rm {p : Nat → Bool} {k : Nat} (hp : p k = true) : ∀ n, k < n → xt_c p n = xt_c (fun j => p j && !(decide (j = k))) n + 1
  | 0, h => absurd h (Nat.not_lt_zero k)
  | n + 1, h => by
    unfold xt_c
    by_cases e : k = n
    · subst e
      have : xt_c p k = xt_c (fun j => p j && !(decide (j = k))) k := xt_cc (fun j hj => by simp; intro _; omega)
      rw [← this, hp]
      simp
    · have e' : ¬ n = k := fun h => e h.symm
      rw [xt_c_rm hp n (by omega)]
      simp only [e', decide_false, Bool.not_false, Bool.and_true]
      omega
theorem xt_c_ad {p : Nat → Bool} {k : Nat} : ∀ n, xt_c (fun j => p j || decide (j = k)) n ≤ xt_c p n + (if k < n then 1 else 0)
  | 0 => by simp [xt_c]
  | n + 1 => by
    have ih := xt_c_ad (p := p) (k := k) n
    show xt_c (fun j => p j || decide (j = k)) n + (if (p n || decide (n = k)) = true then 1 else 0) ≤ xt_c p n + (if p n = true then 1 else 0) + (if k < n + 1 then 1 else 0)
    by_cases e : n = k
    · subst e
      rw [if_neg (Nat.lt_irrefl n)] at ih
      rw [if_pos (show n < n + 1 by omega)]
      cases p n <;> simp <;> omega
    · have e2 : (p n || decide (n = k)) = p n := by rw [decide_eq_false e]; simp
      rw [e2]
      by_cases c : k < n
      · rw [if_pos c] at ih; rw [if_pos (show k < n + 1 by omega)]; omega
      · rw [if_neg c] at ih; rw [if_neg (show ¬ k < n + 1 by omega)]; omega
theorem xq_pf_max {T : xt_T} {day l : Nat} : ∀ n, xq_pf T day n = some l → (∀ k, k < n → xtf T k ≤ day → day ≤ xtt T k → xtt T k ≤ l) ∧ ∃ k, k < n ∧ xtf T k ≤ day ∧ day ≤ xtt T k ∧ xtt T k = l
  | 0, h => by cases h
  | n + 1, h => by
    unfold xq_pf at h
    by_cases c : xtf T n ≤ day ∧ day ≤ xtt T n
    · rw [if_pos c] at h
      cases hp : xq_pf T day n with
      | none =>
        rw [hp] at h
        have hl : l = xtt T n := by cases h; simp
        have hn := (xq_pf_none n).mp hp
        refine ⟨fun k hk a b => ?_, n, by omega, c.1, c.2, hl.symm⟩
        by_cases e : k = n
        · subst e; omega
        · exact absurd ⟨a, b⟩ (hn k (by omega))
      | some v =>
        rw [hp] at h
        have hl : l = max v (xtt T n) := by cases h; rfl
        obtain ⟨i1, k0, i2, i3, i4, i5⟩ := xq_pf_max n hp
        refine ⟨fun k hk a b => ?_, ?_⟩
        · by_cases e : k = n
          · subst e; omega
          · have := i1 k (by omega) a b; omega
        · by_cases cm : v ≤ xtt T n
          · exact ⟨n, by omega, c.1, c.2, by omega⟩
          · exact ⟨k0, by omega, i3, i4, by omega⟩
    · rw [if_neg c] at h
      obtain ⟨i1, k0, i2, i3, i4, i5⟩ := xq_pf_max n h
      refine ⟨fun k hk a b => ?_, k0, by omega, i3, i4, i5⟩
      by_cases e : k = n
      · subst e; exact absurd ⟨a, b⟩ c
      · exact i1 k (by omega) a b
/-- no set that proves the days is smaller -/
theorem xq_pr_lo {T : xt_T} {t : Nat} : ∀ (r d u : Nat) (p : Nat → Bool), xq_cov T t p d → (match xq_pr T t r d u with
    | some v => v ≤ u + xt_c p (xnW T)
    | none => r ≤ xt_c p (xnW T))
  | 0, d, u, p, hc => by
    unfold xq_pr
    by_cases c : t < d
    · rw [if_pos c]; dsimp only; omega
    · rw [if_neg c]; dsimp only; omega
  | r + 1, d, u, p, hc => by
    unfold xq_pr
    by_cases c : t < d
    · rw [if_pos c]; dsimp only; omega
    · rw [if_neg c]
      obtain ⟨k, k1, k2, k3, k4⟩ := hc d (by omega) (by omega)
      cases hp : xq_pf T d (xnW T) with
      | none => exact absurd ⟨k3, k4⟩ ((xq_pf_none _).mp hp k k1)
      | some l =>
        dsimp only
        have hm := (xq_pf_max _ hp).1 k k1 k3 k4
        have rm := xt_c_rm k2 (xnW T) k1
        have ih := xq_pr_lo (T := T) (t := t) r (l + 1) (u + 1) (fun j => p j && !(decide (j = k))) (fun y y1 y2 => by
          obtain ⟨j, j1, j2, j3, j4⟩ := hc y (by omega) y2
          exact ⟨j, j1, by show (p j && !(decide (j = k))) = true; rw [j2]; simp; intro e; subst e; omega, j3, j4⟩)
        cases hr : xq_pr T t r (l + 1) (u + 1) with
        | none => rw [hr] at ih; dsimp only at ih ⊢; omega
        | some v => rw [hr] at ih; dsimp only at ih ⊢; omega
/-- and there is one of this size -/
theorem xq_pr_up {T : xt_T} {t : Nat} : ∀ (r d u v : Nat), xq_pr T t r d u = some v → ∃ p : Nat → Bool, xq_cov T t p d ∧ u + xt_c p (xnW T) ≤ v
  | 0, d, u, v, h => by
    unfold xq_pr at h
    by_cases c : t < d
    · rw [if_pos c] at h
      cases h
      refine ⟨fun _ => false, fun y y1 y2 => by omega, ?_⟩
      have : xt_c (fun _ => false) (xnW T) = 0 := by
        generalize xnW T = n
        induction n with
        | zero => rfl
        | succ n ih => unfold xt_c; rw [ih]; simp
      omega
    · rw [if_neg c] at h; cases h
  | r + 1, d, u, v, h => by
    unfold xq_pr at h
    by_cases c : t < d
    · rw [if_pos c] at h
      cases h
      refine ⟨fun _ => false, fun y y1 y2 => by omega, ?_⟩
      have : xt_c (fun _ => false) (xnW T) = 0 := by
        generalize xnW T = n
        induction n with
        | zero => rfl
        | succ n ih => unfold xt_c; rw [ih]; simp
      omega
    · rw [if_neg c] at h
      cases hp : xq_pf T d (xnW T) with
      | none => rw [hp] at h; cases h
      | some l =>
        rw [hp] at h
        dsimp only at h
        obtain ⟨k, k1, k2, k3, k4⟩ := (xq_pf_max _ hp).2
        obtain ⟨p, p1, p2⟩ := xq_pr_up r (l + 1) (u + 1) v h
        refine ⟨fun j => p j || decide (j = k), fun y y1 y2 => ?_, ?_⟩
        · by_cases cy : y ≤ l
          · exact ⟨k, k1, by simp, by omega, by omega⟩
          · obtain ⟨j, j1, j2, j3, j4⟩ := p1 y (by omega) y2
            exact ⟨j, j1, by simp [j2], j3, j4⟩
        · have := xt_c_ad (p := p) (k := k) (xnW T)
          rw [if_pos k1] at this
          omega
theorem xq_gq_cov {T : xt_T} {b : Nat} : ∀ (r d t : Nat), d + r = t + 1 → (xq_gq T b r d = none ↔ xq_cov T t b.testBit d)
  | 0, d, t, e => ⟨fun _ y y1 y2 => by omega, fun _ => rfl⟩
  | r + 1, d, t, e => by
    unfold xq_gq
    by_cases c : xq_ip T b d (xnW T) = true
    · rw [if_pos c, xq_gq_cov r (d + 1) t (by omega)]
      constructor
      · intro h y y1 y2
        by_cases ey : y = d
        · subst ey
          exact (xq_ip_iff _).mp c
        · exact h y (by omega) y2
      · intro h y y1 y2
        exact h y (by omega) y2
    · rw [if_neg c]
      constructor
      · intro h; cases h
      · intro h
        exact absurd ((xq_ip_iff _).mpr (h d (by omega) (by omega))) c
/-- sets one behind the other: the fewest of those that prove all days -/
def xq_bt (o : Option Nat) (n : Nat) : Bool := match o with
  | none => true
  | some m => decide (n < m)
def xq_bp (T : xt_T) (f t : Nat) : Nat → Option Nat
  | 0 => none
  | i + 1 => if xq_bt (xq_bp T f t i) (xt_c (fun k => i.testBit k) 6) = true ∧ xq_gq T i (t + 1 - f) f = none then some (xt_c (fun k => i.testBit k) 6) else xq_bp T f t i
theorem xq_bp_spec {T : xt_T} {f t : Nat} : ∀ i, (match xq_bp T f t i with
    | none => ∀ b, b < i → ¬ xq_gq T b (t + 1 - f) f = none
    | some m => (∃ b, b < i ∧ xq_gq T b (t + 1 - f) f = none ∧ xt_c (fun k => b.testBit k) 6 = m) ∧ ∀ b, b < i → xq_gq T b (t + 1 - f) f = none → m ≤ xt_c (fun k => b.testBit k) 6)
  | 0 => fun b h => absurd h (Nat.not_lt_zero b)
  | i + 1 => by
    have ih := xq_bp_spec (T := T) (f := f) (t := t) i
    unfold xq_bp
    cases hp : xq_bp T f t i with
    | none =>
      rw [hp] at ih
      dsimp only at ih ⊢
      by_cases c : xq_gq T i (t + 1 - f) f = none
      · rw [if_pos ⟨rfl, c⟩]
        dsimp only
        refine ⟨⟨i, by omega, c, rfl⟩, fun b hb hg => ?_⟩
        by_cases e : b = i
        · rw [e]; exact Nat.le_refl _
        · exact absurd hg (ih b (by omega))
      · rw [if_neg (fun h => c h.2)]
        dsimp only
        intro b hb
        by_cases e : b = i
        · rw [e]; exact c
        · exact ih b (by omega)
    | some m =>
      rw [hp] at ih
      dsimp only at ih ⊢
      obtain ⟨⟨b0, q1, q2, q3⟩, q4⟩ := ih
      by_cases c : xt_c (fun k => i.testBit k) 6 < m ∧ xq_gq T i (t + 1 - f) f = none
      · rw [if_pos ⟨decide_eq_true c.1, c.2⟩]
        dsimp only
        refine ⟨⟨i, by omega, c.2, rfl⟩, fun b hb hg => ?_⟩
        by_cases e : b = i
        · rw [e]; exact Nat.le_refl _
        · have := q4 b (by omega) hg; omega
      · rw [if_neg (fun h => c ⟨of_decide_eq_true h.1, h.2⟩)]
        dsimp only
        refine ⟨⟨b0, by omega, q2, q3⟩, fun b hb hg => ?_⟩
        by_cases e : b = i
        · subst e
          refine Nat.not_lt.mp (fun h => c ⟨h, hg⟩)
        · exact q4 b (by omega) hg
theorem xt_c_ex {p : Nat → Bool} {n : Nat} (h : ∀ j, n ≤ j → p j = false) : ∀ k, xt_c p (n + k) = xt_c p n
  | 0 => rfl
  | k + 1 => by
    show xt_c p (n + k) + (if p (n + k) then 1 else 0) = _
    rw [xt_c_ex h k, h (n + k) (by omega)]
    simp
theorem xq_bp_pr {T : xt_T} {f t : Nat} (h6 : xnW T ≤ 6) (hf : f ≤ t) : xq_bp T f t (2 ^ xnW T) = xq_pr T t (xnW T + 1) f 0 := by
  have sp := xq_bp_spec (T := T) (f := f) (t := t) (2 ^ xnW T)
  have pc : ∀ b, b < 2 ^ xnW T → xt_c (fun k => b.testBit k) 6 = xt_c (fun k => b.testBit k) (xnW T) := fun b hb => by
    have := xt_c_ex (p := fun k => b.testBit k) (n := xnW T) (fun j hj => Nat.testBit_lt_two_pow (Nat.lt_of_lt_of_le hb (Nat.pow_le_pow_right (by omega) hj))) (6 - xnW T)
    rw [show xnW T + (6 - xnW T) = 6 by omega] at this
    exact this
  have gc : ∀ b, xq_gq T b (t + 1 - f) f = none ↔ xq_cov T t b.testBit f := fun b => xq_gq_cov _ _ _ (by omega)
  -- a set of bits for a predicate
  have mk : ∀ p : Nat → Bool, xq_cov T t p f → xq_gq T (xt_bs p (xnW T)) (t + 1 - f) f = none ∧ xt_c (fun k => (xt_bs p (xnW T)).testBit k) (xnW T) = xt_c p (xnW T) := fun p hp => by
    refine ⟨(gc _).mpr (fun y y1 y2 => ?_), xt_cc (fun j hj => by rw [xt_bs_bit]; simp [hj])⟩
    obtain ⟨j, j1, j2, j3⟩ := hp y y1 y2
    exact ⟨j, j1, by rw [xt_bs_bit]; simp [j1, j2], j3⟩
  cases hr : xq_pr T t (xnW T + 1) f 0 with
  | none =>
    cases hb : xq_bp T f t (2 ^ xnW T) with
    | none => rfl
    | some m =>
      rw [hb] at sp
      dsimp only at sp
      obtain ⟨⟨b, q1, q2, q3⟩, -⟩ := sp
      have lo := xq_pr_lo (T := T) (t := t) (xnW T + 1) f 0 (fun k => b.testBit k) ((gc b).mp q2)
      rw [hr] at lo
      dsimp only at lo
      have := xt_cle (fun k => b.testBit k) (xnW T)
      omega
  | some v =>
    obtain ⟨p, p1, p2⟩ := xq_pr_up _ _ _ _ hr
    obtain ⟨g1, g2⟩ := mk p p1
    cases hb : xq_bp T f t (2 ^ xnW T) with
    | none =>
      rw [hb] at sp
      dsimp only at sp
      exact absurd g1 (sp _ (xt_bs_lt _ _))
    | some m =>
      rw [hb] at sp
      dsimp only at sp
      obtain ⟨⟨b, q1, q2, q3⟩, q4⟩ := sp
      have lo := xq_pr_lo (T := T) (t := t) (xnW T + 1) f 0 (fun k => b.testBit k) ((gc b).mp q2)
      rw [hr] at lo
      dsimp only at lo
      have e1 := q4 _ (xt_bs_lt p _) g1
      rw [pc _ (xt_bs_lt p _), g2] at e1
      rw [pc _ q1] at q3
      have : m = v := by omega
      rw [this]
