/-- the k-th quarter of the first way -/
def xq_go (C : Nat) (F : Nat → Nat → Bool) (L : Nat) : Nat → Nat → Nat → Nat → Option Nat
  | 0, _, _, q => some q
  | k + 1, d, left, q => match xt_lo (fun r => xq_can C F (L - d) d left r && xq_near C q r) C with
    | none => none
    | some r => xq_go C F L k (d + 1) (if F d r = true then 0 else left) r
theorem pc_quarterOn {M : xa_M} {w t L sp : Nat} {T : xt_T} {F : Nat → Nat → Bool} (hW : xh_W M w L sp (xC T) F L 0) (hT : xh_T M t T) (hC : 2 ≤ xC T) (hC6 : xC T ≤ 6) (hL : L ≤ 60) (hsp : sp ≤ 1) (q0 k : Nat) (hq : q0 < xC T) (hk : k ≤ 60) :
    xa_E 48 0 (xa_ent [.ref w, .ref t, .int (nI q0), .int (nI k)]) [] M (some (.int (xt_o (if L < k then none else xq_go (xC T) F L k 0 sp q0))), M) := by
  obtain ⟨g0, g1, g, w0, ⟨f, w1, wf⟩, w2, qq0, qq1, w3, w4, wg⟩ := hW
  have cl := fun (q b : Nat) (hq : q < 6) (hb : b < 64) => xa_iff (pc_lowestNear (w := w) hT hC hC6 q b hq hb)
  have t0 := hT.1
  refine xa_go4 (fun lv h0 h1 h2 h3 => ?_)
  simp (disch := omega) only [↓ra_48_0, ↓ra_48_1, ↓ra_48_2, ↓ra_48_5, xa_kli, xa_klr, xa_kll, xa_ki, xa_kl, xa_kr, xa_kii, xa_kk, xa_kir, xa_krr, xa_kiir, xa_krir, xa_kdup, xa_kdup2, xa_kcp, xa_gf, xa_pf, xa_ga, xa_pa, xa_gq, xa_pq, xa_gl, xa_args, xa_ri, xa_rz, xa_rv, xa_s1, xa_s2, xa_c1, eq_self, List.getElem?_cons_succ, List.getElem?_cons_zero, true_and, and_true, nI_add, pk_mul, xt_in, xt_cl, xt_i0, xt_i1, xa_kc, xa_w8, xa_fit, lg_sl, List.flatMap_cons, List.flatMap_nil, List.map_cons, List.map_nil, List.sum_cons, List.sum_nil, Value.category, List.length_cons, List.length_nil, List.length_append, xa_rc, xa_rf, exists_eq_left, exists_eq', Option.some.injEq, Sum.inr.injEq, Prod.mk.injEq, Option.toList_some, Option.toList_none, List.cons_append, List.nil_append, Nat.reduceAdd, Nat.reduceLeDiff, Nat.reduceLT, List.set_cons_zero, List.set_cons_succ, eq_self, or_true, true_or, reduceIte, xt_ne, h0, h1, h2, h3, w0, xt_le]
  by_cases c : L < k
  · rw [if_neg (by omega), if_pos c]
    simp (disch := omega) only [↓ra_48_8, ↓ra_48_10, xa_kli, xa_klr, xa_kll, xa_ki, xa_kl, xa_kr, xa_kii, xa_kk, xa_kir, xa_krr, xa_kiir, xa_krir, xa_kdup, xa_kdup2, xa_kcp, xa_gf, xa_pf, xa_ga, xa_pa, xa_gq, xa_pq, xa_gl, xa_args, xa_ri, xa_rz, xa_rv, xa_s1, xa_s2, xa_c1, eq_self, List.getElem?_cons_succ, List.getElem?_cons_zero, true_and, and_true, nI_add, pk_mul, xt_in, xt_cl, xt_i0, xt_i1, xt_o]
  · rw [if_pos (by omega), if_neg c]
    have loop : ∀ (n d left q : Nat) (lv : xa_L), lv 0 = some (.ref w) → lv 1 = some (.ref t) → lv 3 = some (.int (nI k)) → lv 4 = some (.int (nI q)) → lv 5 = some (.int (nI left)) → lv 6 = some (.int (nI d)) → d + n = k → left ≤ 1 → q < xC T → xa_E 48 23 lv [] M (some (.int (xt_o (xq_go (xC T) F L n d left q))), M) := by
      intro n
      induction n with
      | zero =>
        intro d left q lv h0 h1 h3 h4 h5 h6 e hl hq
        have e : d = k := by omega
        subst e
        simp (disch := omega) only [↓ra_48_23, ↓ra_48_25, ↓ra_48_26, ↓ra_48_83, ↓ra_48_85, xa_kli, xa_klr, xa_kll, xa_ki, xa_kl, xa_kr, xa_kii, xa_kk, xa_kir, xa_krr, xa_kiir, xa_krir, xa_kdup, xa_kdup2, xa_kcp, xa_gf, xa_pf, xa_ga, xa_pa, xa_gq, xa_pq, xa_gl, xa_args, xa_ri, xa_rz, xa_rv, xa_s1, xa_s2, xa_c1, eq_self, List.getElem?_cons_succ, List.getElem?_cons_zero, true_and, and_true, nI_add, pk_mul, xt_in, xt_cl, xt_i0, xt_i1, xa_kc, xa_w8, xa_fit, lg_sl, List.flatMap_cons, List.flatMap_nil, List.map_cons, List.map_nil, List.sum_cons, List.sum_nil, Value.category, List.length_cons, List.length_nil, List.length_append, xa_rc, xa_rf, exists_eq_left, exists_eq', Option.some.injEq, Sum.inr.injEq, Prod.mk.injEq, Option.toList_some, Option.toList_none, List.cons_append, List.nil_append, Nat.reduceAdd, Nat.reduceLeDiff, Nat.reduceLT, List.set_cons_zero, List.set_cons_succ, eq_self, or_true, true_or, reduceIte, xt_ne, h0, h1, h3, h4, h5, h6, xt_le, Nat.le_refl, xq_go, xt_o]
      | succ n ih =>
        intro d left q lv h0 h1 h3 h4 h5 h6 e hl hq
        have fd := wf d (by omega)
        have gd := wg d (by omega) (by omega)
        have lb : xt_bs (xq_can (xC T) F (L - d) d left) (xC T) < 64 := xt_bs_64 _ _ hC6
        have cE := cl q _ (by omega) lb
        have elo : xt_lo (fun r => (xt_bs (xq_can (xC T) F (L - d) d left) (xC T)).testBit r && xq_near (xC T) q r) (xC T) = xt_lo (fun r => xq_can (xC T) F (L - d) d left r && xq_near (xC T) q r) (xC T) := xt_lo_cg _ (fun j hj => by rw [xt_bs_bit]; simp [hj])
        rw [elo] at cE
        have lr : ∀ n, xt_lo (fun r => xq_can (xC T) F (L - d) d left r && xq_near (xC T) q r) (xC T) = some n → n < 2147483648 := fun n h => by have := (xt_lo_some _ h).1; omega
        have row : ∃ gg gi, g left = some gi ∧ M.1 gi = some (.inl (0, 61, .inl gg)) ∧ gg d = nI (xt_bs (xq_can (xC T) F (L - d) d left) (xC T)) := by
          rcases (show left = 0 ∨ left = 1 by omega) with h | h
          · subst h; exact ⟨g0, _, qq0, w3, gd.1⟩
          · subst h; exact ⟨g1, _, qq1, w4, gd.2⟩
        obtain ⟨gg, gi, r0, r1, r2⟩ := row
        simp (disch := omega) only [↓ra_48_23, ↓ra_48_25, ↓ra_48_26, xa_kli, xa_klr, xa_kll, xa_ki, xa_kl, xa_kr, xa_kii, xa_kk, xa_kir, xa_krr, xa_kiir, xa_krir, xa_kdup, xa_kdup2, xa_kcp, xa_gf, xa_pf, xa_ga, xa_pa, xa_gq, xa_pq, xa_gl, xa_args, xa_ri, xa_rz, xa_rv, xa_s1, xa_s2, xa_c1, eq_self, List.getElem?_cons_succ, List.getElem?_cons_zero, true_and, and_true, nI_add, pk_mul, xt_in, xt_cl, xt_i0, xt_i1, xa_kc, xa_w8, xa_fit, lg_sl, List.flatMap_cons, List.flatMap_nil, List.map_cons, List.map_nil, List.sum_cons, List.sum_nil, Value.category, List.length_cons, List.length_nil, List.length_append, xa_rc, xa_rf, exists_eq_left, exists_eq', Option.some.injEq, Sum.inr.injEq, Prod.mk.injEq, Option.toList_some, Option.toList_none, List.cons_append, List.nil_append, Nat.reduceAdd, Nat.reduceLeDiff, Nat.reduceLT, List.set_cons_zero, List.set_cons_succ, eq_self, or_true, true_or, reduceIte, xt_ne, h0, h1, h3, h4, h5, h6, xt_le]
        rw [if_neg (by omega)]
        simp (disch := omega) only [↓ra_48_29, ↓ra_48_30, ↓ra_48_31, ↓ra_48_33, ↓ra_48_34, ↓ra_48_37, ↓ra_48_39, ↓ra_48_40, ↓ra_48_42, ↓ra_48_43, ↓ra_48_46, ↓ra_48_48, ↓ra_48_50, ↓ra_48_52, xa_kli, xa_klr, xa_kll, xa_ki, xa_kl, xa_kr, xa_kii, xa_kk, xa_kir, xa_krr, xa_kiir, xa_krir, xa_kdup, xa_kdup2, xa_kcp, xa_gf, xa_pf, xa_ga, xa_pa, xa_gq, xa_pq, xa_gl, xa_args, xa_ri, xa_rz, xa_rv, xa_s1, xa_s2, xa_c1, eq_self, List.getElem?_cons_succ, List.getElem?_cons_zero, true_and, and_true, nI_add, pk_mul, xt_in, xt_cl, xt_i0, xt_i1, xa_kc, xa_w8, xa_fit, lg_sl, List.flatMap_cons, List.flatMap_nil, List.map_cons, List.map_nil, List.sum_cons, List.sum_nil, Value.category, List.length_cons, List.length_nil, List.length_append, xa_rc, xa_rf, exists_eq_left, exists_eq', Option.some.injEq, Sum.inr.injEq, Prod.mk.injEq, Option.toList_some, Option.toList_none, List.cons_append, List.nil_append, Nat.reduceAdd, Nat.reduceLeDiff, Nat.reduceLT, List.set_cons_zero, List.set_cons_succ, eq_self, or_true, true_or, reduceIte, xt_ne, h0, h1, h3, h4, h5, h6, w0, w2, r0, r1, r2, t0, cE, mx_47, xt_o4 _ lr]
        cases er : xt_lo (fun r => xq_can (xC T) F (L - d) d left r && xq_near (xC T) q r) (xC T) with
        | none =>
          simp (disch := omega) only [if_true, ↓ra_48_55, ↓ra_48_57, xa_kli, xa_klr, xa_kll, xa_ki, xa_kl, xa_kr, xa_kii, xa_kk, xa_kir, xa_krr, xa_kiir, xa_krir, xa_kdup, xa_kdup2, xa_kcp, xa_gf, xa_pf, xa_ga, xa_pa, xa_gq, xa_pq, xa_gl, xa_args, xa_ri, xa_rz, xa_rv, xa_s1, xa_s2, xa_c1, eq_self, List.getElem?_cons_succ, List.getElem?_cons_zero, true_and, and_true, nI_add, pk_mul, xt_in, xt_cl, xt_i0, xt_i1, xa_kc, xa_w8, xa_fit, lg_sl, List.flatMap_cons, List.flatMap_nil, List.map_cons, List.map_nil, List.sum_cons, List.sum_nil, Value.category, List.length_cons, List.length_nil, List.length_append, xa_rc, xa_rf, exists_eq_left, exists_eq', Option.some.injEq, Sum.inr.injEq, Prod.mk.injEq, Option.toList_some, Option.toList_none, List.cons_append, List.nil_append, Nat.reduceAdd, Nat.reduceLeDiff, Nat.reduceLT, List.set_cons_zero, List.set_cons_succ, eq_self, or_true, true_or, reduceIte, xt_ne, xq_go, er, xt_o]
        | some r =>
          have hr := (xt_lo_some _ er).1
          have eb : nI (xt_bs (F d) (xC T) / 2 ^ r) &&& nI 1 = nI (if F d r = true then 1 else 0) := by
            have b6 := xt_bs_64 (F d) (xC T) hC6
            have e1 := pk_andN (n := xt_bs (F d) (xC T) / 2 ^ r) (Nat.lt_of_le_of_lt (Nat.div_le_self _ _) (by omega)) (m := nI 1) 1 (by decide)
            have e2 := xt_bs_bit (F d) (xC T) r
            rw [Nat.testBit_eq_decide_div_mod_eq] at e2
            rw [e1]
            simp only [hr, decide_true, Bool.true_and] at e2
            rw [← e2]
            rcases Nat.mod_two_eq_zero_or_one (xt_bs (F d) (xC T) / 2 ^ r) with h | h <;> simp [h]
          have b6 := xt_bs_64 (F d) (xC T) hC6
          simp (disch := omega) only [if_false, reduceCtorEq, ↓ra_48_58, ↓ra_48_59, ↓ra_48_62, ↓ra_48_64, ↓ra_48_65, ↓ra_48_67, ↓ra_48_68, ↓ra_48_69, ↓ra_48_70, ↓ra_48_71, xa_kli, xa_klr, xa_kll, xa_ki, xa_kl, xa_kr, xa_kii, xa_kk, xa_kir, xa_krr, xa_kiir, xa_krir, xa_kdup, xa_kdup2, xa_kcp, xa_gf, xa_pf, xa_ga, xa_pa, xa_gq, xa_pq, xa_gl, xa_args, xa_ri, xa_rz, xa_rv, xa_s1, xa_s2, xa_c1, eq_self, List.getElem?_cons_succ, List.getElem?_cons_zero, true_and, and_true, nI_add, pk_mul, xt_in, xt_cl, xt_i0, xt_i1, xa_kc, xa_w8, xa_fit, lg_sl, List.flatMap_cons, List.flatMap_nil, List.map_cons, List.map_nil, List.sum_cons, List.sum_nil, Value.category, List.length_cons, List.length_nil, List.length_append, xa_rc, xa_rf, exists_eq_left, exists_eq', Option.some.injEq, Sum.inr.injEq, Prod.mk.injEq, Option.toList_some, Option.toList_none, List.cons_append, List.nil_append, Nat.reduceAdd, Nat.reduceLeDiff, Nat.reduceLT, List.set_cons_zero, List.set_cons_succ, eq_self, or_true, true_or, reduceIte, xt_ne, h0, h1, h3, h4, h5, h6, w0, w1, fd, xt_o, xt_shr, eb, xt_b1]
          have nxt : ∀ (lv' : xa_L) (l2 : Nat), l2 = (if F d r = true then 0 else left) → lv' 0 = some (.ref w) → lv' 1 = some (.ref t) → lv' 3 = some (.int (nI k)) → lv' 4 = some (.int (nI r)) → lv' 5 = some (.int (nI l2)) → lv' 6 = some (.int (nI d)) → xa_E 48 77 lv' [] M (some (.int (xt_o (xq_go (xC T) F L (n + 1) d left q))), M) := by
            intro lv' l2 hl2 k0 k1 k3 k4 k5 k6
            have l3 : l2 ≤ 1 := by rw [hl2]; split <;> omega
            simp (disch := omega) only [↓ra_48_77, ↓ra_48_80, xa_kli, xa_klr, xa_kll, xa_ki, xa_kl, xa_kr, xa_kii, xa_kk, xa_kir, xa_krr, xa_kiir, xa_krir, xa_kdup, xa_kdup2, xa_kcp, xa_gf, xa_pf, xa_ga, xa_pa, xa_gq, xa_pq, xa_gl, xa_args, xa_ri, xa_rz, xa_rv, xa_s1, xa_s2, xa_c1, eq_self, List.getElem?_cons_succ, List.getElem?_cons_zero, true_and, and_true, nI_add, pk_mul, xt_in, xt_cl, xt_i0, xt_i1, xa_kc, xa_w8, xa_fit, lg_sl, List.flatMap_cons, List.flatMap_nil, List.map_cons, List.map_nil, List.sum_cons, List.sum_nil, Value.category, List.length_cons, List.length_nil, List.length_append, xa_rc, xa_rf, exists_eq_left, exists_eq', Option.some.injEq, Sum.inr.injEq, Prod.mk.injEq, Option.toList_some, Option.toList_none, List.cons_append, List.nil_append, Nat.reduceAdd, Nat.reduceLeDiff, Nat.reduceLT, List.set_cons_zero, List.set_cons_succ, eq_self, or_true, true_or, reduceIte, xt_ne, k6]
            have := ih (d + 1) l2 r (xa_s1 lv' 6 (.int (nI (d + 1)))) (by simp [xa_s1, xa_c1, k0]) (by simp [xa_s1, xa_c1, k1]) (by simp [xa_s1, xa_c1, k3]) (by simp [xa_s1, xa_c1, k4]) (by simp [xa_s1, xa_c1, k5]) (by simp [xa_s1, xa_c1]) (by omega) l3 hr
            rw [show xq_go (xC T) F L (n + 1) d left q = xq_go (xC T) F L n (d + 1) l2 r by rw [hl2]; simp only [xq_go, er]]
            exact this
          by_cases cf : F d r = true
          · simp only [if_pos cf]
            simp (disch := omega) only [↓ra_48_74, ↓ra_48_75, xa_kli, xa_klr, xa_kll, xa_ki, xa_kl, xa_kr, xa_kii, xa_kk, xa_kir, xa_krr, xa_kiir, xa_krir, xa_kdup, xa_kdup2, xa_kcp, xa_gf, xa_pf, xa_ga, xa_pa, xa_gq, xa_pq, xa_gl, xa_args, xa_ri, xa_rz, xa_rv, xa_s1, xa_s2, xa_c1, eq_self, List.getElem?_cons_succ, List.getElem?_cons_zero, true_and, and_true, nI_add, pk_mul, xt_in, xt_cl, xt_i0, xt_i1, xa_kc, xa_w8, xa_fit, lg_sl, List.flatMap_cons, List.flatMap_nil, List.map_cons, List.map_nil, List.sum_cons, List.sum_nil, Value.category, List.length_cons, List.length_nil, List.length_append, xa_rc, xa_rf, exists_eq_left, exists_eq', Option.some.injEq, Sum.inr.injEq, Prod.mk.injEq, Option.toList_some, Option.toList_none, List.cons_append, List.nil_append, Nat.reduceAdd, Nat.reduceLeDiff, Nat.reduceLT, List.set_cons_zero, List.set_cons_succ, eq_self, or_true, true_or, reduceIte, xt_ne]
            exact nxt _ 0 (by rw [if_pos cf]) (by simp [xa_s1, xa_c1, h0]) (by simp [xa_s1, xa_c1, h1]) (by simp [xa_s1, xa_c1, h3]) (by simp [xa_s1, xa_c1]) (by simp [xa_s1, xa_c1]) (by simp [xa_s1, xa_c1, h6])
          · simp only [if_neg cf]
            exact nxt _ left (by rw [if_neg cf]) (by simp [xa_s1, xa_c1, h0]) (by simp [xa_s1, xa_c1, h1]) (by simp [xa_s1, xa_c1, h3]) (by simp [xa_s1, xa_c1]) (by simp [xa_s1, xa_c1, h5]) (by simp [xa_s1, xa_c1, h6])
    simp (disch := omega) only [↓ra_48_11, ↓ra_48_12, ↓ra_48_14, ↓ra_48_15, ↓ra_48_18, ↓ra_48_20, ↓ra_48_21, xa_kli, xa_klr, xa_kll, xa_ki, xa_kl, xa_kr, xa_kii, xa_kk, xa_kir, xa_krr, xa_kiir, xa_krir, xa_kdup, xa_kdup2, xa_kcp, xa_gf, xa_pf, xa_ga, xa_pa, xa_gq, xa_pq, xa_gl, xa_args, xa_ri, xa_rz, xa_rv, xa_s1, xa_s2, xa_c1, eq_self, List.getElem?_cons_succ, List.getElem?_cons_zero, true_and, and_true, nI_add, pk_mul, xt_in, xt_cl, xt_i0, xt_i1, xa_kc, xa_w8, xa_fit, lg_sl, List.flatMap_cons, List.flatMap_nil, List.map_cons, List.map_nil, List.sum_cons, List.sum_nil, Value.category, List.length_cons, List.length_nil, List.length_append, xa_rc, xa_rf, exists_eq_left, exists_eq', Option.some.injEq, Sum.inr.injEq, Prod.mk.injEq, Option.toList_some, Option.toList_none, List.cons_append, List.nil_append, Nat.reduceAdd, Nat.reduceLeDiff, Nat.reduceLT, List.set_cons_zero, List.set_cons_succ, eq_self, or_true, true_or, reduceIte, xt_ne, h0, h1, h2, h3, w0]
    exact loop k 0 sp q0 _ (by simp [xa_s1, xa_c1, h0]) (by simp [xa_s1, xa_c1, h1]) (by simp [xa_s1, xa_c1, h3]) (by simp [xa_s1, xa_c1]) (by simp [xa_s1, xa_c1]) (by simp [xa_s1, xa_c1]) (by omega) hsp hq
