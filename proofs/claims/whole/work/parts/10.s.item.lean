theorem pd_readNotch {M : xa_M} {c len p : Nat} {txt : Nat → Nat} {r : Nat → Int32} {g : Nat → Nat → Int32} {T : xt_T} (hB : xb_M M c r g) (iX : xi_X len txt) (h8 : r 8 = nI len) (h9 : r 9 = nI p) (hp : p ≤ len) (ht : ∀ j, j < len → g 3 j = nI (txt j)) (hR : xv_R (g 4) T) (iT : xi_T T) (h5 : xnM T ≤ 5) : ∃ z, xa_E 112 0 (xa_ent [.ref c]) [] M z ∧ ∃ r2 h, xn c M r2 (xb_u g 4 h) z.2 ∧ (∀ j, j ≠ 9 → j ≠ 12 → r2 j = r j) ∧ xq_ok r2 h (xq_c2 len txt p (xq_aW T)) z := by
  obtain ⟨⟨b1, b2, b3, b4, b5, b6, b7, b8⟩, bs, bm, bw⟩ := id iT
  have ix := iX.1
  obtain ⟨⟨v0, v1, v2, v3, v4, v5⟩, vs, vm, vw⟩ := id hR
  obtain ⟨m0, m1, m2, m3, m4, -⟩ := id hB
  unfold xb_c at m0
  refine xa_ge1 (fun lv h0 => ?_)
  simp (disch := omega) only [↓ra_112_0, ↓ra_112_2, ↓ra_112_3, ↓ra_112_4, ↓ra_112_7, ↓ra_112_8, ↓ra_112_9, ↓ra_112_10, ↓ra_112_11, ↓ra_112_12, ↓ra_112_13, ↓ra_112_16, ↓ra_112_17, ↓ra_112_18, ↓ra_112_20, xa_kli, xa_klr, xa_kll, xa_ki, xa_kl, xa_kr, xa_kii, xa_kk, xa_kir, xa_krr, xa_kiir, xa_krir, xa_kdup, xa_kdup2, xa_kcp, xa_gf, xa_pf, xa_ga, xa_pa, xa_gq, xa_pq, xa_gl, xa_args, xa_ri, xa_rz, xa_rv, xa_s1, xa_s2, xa_c1, eq_self, List.getElem?_cons_succ, List.getElem?_cons_zero, true_and, and_true, nI_add, pk_mul, xt_in, xt_cl, xt_i0, xt_i1, xa_kc, xa_w8, xa_fit, lg_sl, List.flatMap_cons, List.flatMap_nil, List.map_cons, List.map_nil, List.sum_cons, List.sum_nil, Value.category, List.length_cons, List.length_nil, List.length_append, xa_rc, xa_rf, exists_eq_left, exists_eq', Option.some.injEq, Sum.inr.injEq, Prod.mk.injEq, Option.toList_some, Option.toList_none, List.cons_append, List.nil_append, Nat.reduceAdd, Nat.reduceLeDiff, Nat.reduceLT, List.set_cons_zero, List.set_cons_succ, eq_self, or_true, true_or, reduceIte, xt_ne, h0, m0, m4, v5, xt_eq]
  by_cases c6 : xnW T = 6
  · simp only [if_pos c6]
    simp (disch := omega) only [↓ra_112_35, ↓ra_112_36, xa_kli, xa_klr, xa_kll, xa_ki, xa_kl, xa_kr, xa_kii, xa_kk, xa_kir, xa_krr, xa_kiir, xa_krir, xa_kdup, xa_kdup2, xa_kcp, xa_gf, xa_pf, xa_ga, xa_pa, xa_gq, xa_pq, xa_gl, xa_args, xa_ri, xa_rz, xa_rv, xa_s1, xa_s2, xa_c1, eq_self, List.getElem?_cons_succ, List.getElem?_cons_zero, true_and, and_true, nI_add, pk_mul, xt_in, xt_cl, xt_i0, xt_i1, xa_kc, xa_w8, xa_fit, lg_sl, List.flatMap_cons, List.flatMap_nil, List.map_cons, List.map_nil, List.sum_cons, List.sum_nil, Value.category, List.length_cons, List.length_nil, List.length_append, xa_rc, xa_rf, exists_eq_left, exists_eq', Option.some.injEq, Sum.inr.injEq, Prod.mk.injEq, Option.toList_some, Option.toList_none, List.cons_append, List.nil_append, Nat.reduceAdd, Nat.reduceLeDiff, Nat.reduceLT, List.set_cons_zero, List.set_cons_succ, eq_self, or_true, true_or, reduceIte, xt_ne]
    refine ⟨r, g 4, by rw [xb_ui]; exact xn_r hB, fun _ _ _ => rfl, ?_⟩
    rw [xq_c2_n (fun a p2 _ b => by unfold xq_aW; exact if_neg (by omega))]
    rfl
  · simp only [if_neg c6]
    obtain ⟨⟨z1, M1⟩, cE1, r1, hn1, er1, hc1⟩ := pd_number hB iX h8 h9 (by omega) ht 0 99 44 (by omega) (by omega) (by omega)
    dsimp only at hn1 hc1
    rcases hc1 with ⟨a, p2, q1, q2, q3, q4, q5, q6⟩ | ⟨q1, q2⟩
    · subst q4
      have l1 := xq_k1_le q1
      obtain ⟨n0, n1, n2, n3, n4, -⟩ := id hn1.2
      unfold xb_c at n0
      have e8 : r1 8 = nI len := (er1 8 (by omega) (by omega)).trans h8
      have ec2 : xq_c2 len txt p (xq_aW T) = xq_c1 len txt p2 (xq_aW T a) := by unfold xq_c2; rw [q1]
      rw [ec2]
      have cv5 : upd (g 4) (39 + 2 * xnW T) (nI a) 5 = nI (xnW T) := by rw [xt_us, if_neg (by omega)]; exact v5
      have cvk : upd (upd (g 4) (39 + 2 * xnW T) (nI a)) 5 (nI (xnW T + 1)) (39 + 2 * xnW T) = nI a := by rw [xt_us, if_neg (by omega), xt_us, if_pos rfl]
      have hn4 := xn_s4' (upd (upd (g 4) (39 + 2 * xnW T) (nI a)) 5 (nI (xnW T + 1))) (xn_s4 (h2 := upd (g 4) (39 + 2 * xnW T) (nI a)) hn1)
      obtain ⟨⟨z5, M5⟩, cE5, r5, h5', hn5, er5, eh5, hc5⟩ := pd_readOne hn4.2 iX e8 q5 (by omega) ht ((39 + 2 * xnW T) + 1) a 99 (by omega) (by omega) (by omega)
      dsimp only at hn5 hc5
      rw [xb_ue] at eh5
      rw [xb_u2] at hn5
      have er : ∀ j, j ≠ 9 → j ≠ 12 → r5 j = r j := fun j x y => (er5 j x y).trans (er1 j x y)
      simp (disch := omega) only [↓ra_112_23, ↓ra_112_24, ↓ra_112_25, ↓ra_112_27, ↓ra_112_29, ↓ra_112_32, xa_kli, xa_klr, xa_kll, xa_ki, xa_kl, xa_kr, xa_kii, xa_kk, xa_kir, xa_krr, xa_kiir, xa_krir, xa_kdup, xa_kdup2, xa_kcp, xa_gf, xa_pf, xa_ga, xa_pa, xa_gq, xa_pq, xa_gl, xa_args, xa_ri, xa_rz, xa_rv, xa_s1, xa_s2, xa_c1, eq_self, List.getElem?_cons_succ, List.getElem?_cons_zero, true_and, and_true, nI_add, pk_mul, xt_in, xt_cl, xt_i0, xt_i1, xa_kc, xa_w8, xa_fit, lg_sl, List.flatMap_cons, List.flatMap_nil, List.map_cons, List.map_nil, List.sum_cons, List.sum_nil, Value.category, List.length_cons, List.length_nil, List.length_append, xa_rc, xa_rf, exists_eq_left, exists_eq', Option.some.injEq, Sum.inr.injEq, Prod.mk.injEq, Option.toList_some, Option.toList_none, List.cons_append, List.nil_append, Nat.reduceAdd, Nat.reduceLeDiff, Nat.reduceLT, List.set_cons_zero, List.set_cons_succ, eq_self, or_true, true_or, reduceIte, xt_ne, xt_eq, Nat.reduceEqDiff, Nat.one_ne_zero, if_false, h0, m0, xa_iff cE1, mx_108]
      simp (disch := omega) only [↓ra_112_37, ↓ra_112_38, ↓ra_112_41, ↓ra_112_42, ↓ra_112_43, ↓ra_112_46, ↓ra_112_47, ↓ra_112_48, ↓ra_112_51, ↓ra_112_52, ↓ra_112_53, ↓ra_112_54, ↓ra_112_55, ↓ra_112_56, xa_kli, xa_klr, xa_kll, xa_ki, xa_kl, xa_kr, xa_kii, xa_kk, xa_kir, xa_krr, xa_kiir, xa_krir, xa_kdup, xa_kdup2, xa_kcp, xa_gf, xa_pf, xa_ga, xa_pa, xa_gq, xa_pq, xa_gl, xa_args, xa_ri, xa_rz, xa_rv, xa_s1, xa_s2, xa_c1, eq_self, List.getElem?_cons_succ, List.getElem?_cons_zero, true_and, and_true, nI_add, pk_mul, xt_in, xt_cl, xt_i0, xt_i1, xa_kc, xa_w8, xa_fit, lg_sl, List.flatMap_cons, List.flatMap_nil, List.map_cons, List.map_nil, List.sum_cons, List.sum_nil, Value.category, List.length_cons, List.length_nil, List.length_append, xa_rc, xa_rf, exists_eq_left, exists_eq', Option.some.injEq, Sum.inr.injEq, Prod.mk.injEq, Option.toList_some, Option.toList_none, List.cons_append, List.nil_append, Nat.reduceAdd, Nat.reduceLeDiff, Nat.reduceLT, List.set_cons_zero, List.set_cons_succ, eq_self, or_true, true_or, reduceIte, xt_ne, h0, n0, n4, q6, xt_st, cv5]
      rcases hc5 with ⟨d, p4, y1, y2, y3, y4, y5, y6⟩ | ⟨y1, y2⟩
      · subst y4
        simp (disch := omega) only [↓ra_112_57, ↓ra_112_58, ↓ra_112_59, ↓ra_112_60, ↓ra_112_61, ↓ra_112_62, ↓ra_112_65, ↓ra_112_66, ↓ra_112_67, ↓ra_112_69, ↓ra_112_72, xa_kli, xa_klr, xa_kll, xa_ki, xa_kl, xa_kr, xa_kii, xa_kk, xa_kir, xa_krr, xa_kiir, xa_krir, xa_kdup, xa_kdup2, xa_kcp, xa_gf, xa_pf, xa_ga, xa_pa, xa_gq, xa_pq, xa_gl, xa_args, xa_ri, xa_rz, xa_rv, xa_s1, xa_s2, xa_c1, eq_self, List.getElem?_cons_succ, List.getElem?_cons_zero, true_and, and_true, nI_add, pk_mul, xt_in, xt_cl, xt_i0, xt_i1, xa_kc, xa_w8, xa_fit, lg_sl, List.flatMap_cons, List.flatMap_nil, List.map_cons, List.map_nil, List.sum_cons, List.sum_nil, Value.category, List.length_cons, List.length_nil, List.length_append, xa_rc, xa_rf, exists_eq_left, exists_eq', Option.some.injEq, Sum.inr.injEq, Prod.mk.injEq, Option.toList_some, Option.toList_none, List.cons_append, List.nil_append, Nat.reduceAdd, Nat.reduceLeDiff, Nat.reduceLT, List.set_cons_zero, List.set_cons_succ, eq_self, or_true, true_or, reduceIte, xt_ne, h0, n0, n4, xt_st, cvk, xa_iff cE5, mx_109]
        have ef : xq_c1 len txt p2 (xq_aW T a) = some (p4, ((xN T, xC T, xG T, xnS T, xnM T, xnW T + 1), xtk T, xtl T, xth T, xtm T, xtp T, xts T, fun j => if j = xnW T then a else xtf T j, fun j => if j = xnW T then d else xtt T j)) := by unfold xq_c1; rw [y1]; dsimp only; unfold xq_aW; rw [if_pos (by omega)]; rfl
        rw [ef]
        have oj : ∀ j, j ≠ (39 + 2 * xnW T) → j ≠ (39 + 2 * xnW T) + 1 → j ≠ 5 → h5' j = g 4 j := fun j x1 x2 x3 => by rw [eh5 j x2, xt_us, if_neg x3, xt_us, if_neg x1]
        have ok : h5' (39 + 2 * xnW T) = nI a := by rw [eh5 _ (by omega)]; exact cvk
        have oc : h5' 5 = nI (xnW T + 1) := by rw [eh5 _ (by omega), xt_us, if_pos rfl]
        refine ⟨r5, h5', xn_t hn4 hn5, er, rfl, y5, ?_⟩
        refine ⟨⟨(oj 0 (by omega) (by omega) (by omega)).trans v0, (oj 1 (by omega) (by omega) (by omega)).trans v1, (oj 2 (by omega) (by omega) (by omega)).trans v2, (oj 3 (by omega) (by omega) (by omega)).trans v3, (oj 4 (by omega) (by omega) (by omega)).trans v4, oc⟩, fun s hs => ?_, fun m hm => ?_, fun w hw => ?_⟩
        · have hs : s < xnS T := hs
          rw [oj _ (by omega) (by omega) (by omega), oj _ (by omega) (by omega) (by omega), oj _ (by omega) (by omega) (by omega)]; exact vs s hs
        · have hm : m < xnM T := hm
          rw [oj _ (by omega) (by omega) (by omega), oj _ (by omega) (by omega) (by omega), oj _ (by omega) (by omega) (by omega)]; exact vm m hm
        · have hw : w < xnW T + 1 := hw
          show _ = nI (if w = xnW T then a else xtf T w) ∧ _ = nI (if w = xnW T then d else xtt T w)
          by_cases e : w = xnW T
          · rw [if_pos e, if_pos e, e]; exact ⟨ok, y6⟩
          · rw [if_neg e, if_neg e, oj _ (by omega) (by omega) (by omega), oj _ (by omega) (by omega) (by omega)]; exact vw w (by omega)
      · subst y2
        simp (disch := omega) only [↓ra_112_57, ↓ra_112_58, ↓ra_112_59, ↓ra_112_60, ↓ra_112_61, ↓ra_112_62, ↓ra_112_65, ↓ra_112_66, ↓ra_112_67, ↓ra_112_69, ↓ra_112_72, xa_kli, xa_klr, xa_kll, xa_ki, xa_kl, xa_kr, xa_kii, xa_kk, xa_kir, xa_krr, xa_kiir, xa_krir, xa_kdup, xa_kdup2, xa_kcp, xa_gf, xa_pf, xa_ga, xa_pa, xa_gq, xa_pq, xa_gl, xa_args, xa_ri, xa_rz, xa_rv, xa_s1, xa_s2, xa_c1, eq_self, List.getElem?_cons_succ, List.getElem?_cons_zero, true_and, and_true, nI_add, pk_mul, xt_in, xt_cl, xt_i0, xt_i1, xa_kc, xa_w8, xa_fit, lg_sl, List.flatMap_cons, List.flatMap_nil, List.map_cons, List.map_nil, List.sum_cons, List.sum_nil, Value.category, List.length_cons, List.length_nil, List.length_append, xa_rc, xa_rf, exists_eq_left, exists_eq', Option.some.injEq, Sum.inr.injEq, Prod.mk.injEq, Option.toList_some, Option.toList_none, List.cons_append, List.nil_append, Nat.reduceAdd, Nat.reduceLeDiff, Nat.reduceLT, List.set_cons_zero, List.set_cons_succ, eq_self, or_true, true_or, reduceIte, xt_ne, h0, n0, n4, xt_st, cvk, xa_iff cE5, mx_109]
        refine ⟨r5, h5', xn_t hn4 hn5, er, ?_⟩
        rw [xq_c1_n (fun d p4 e => by have := y1 d p4 e; unfold xq_aW; exact if_neg (by omega))]
        rfl
    · subst q2
      simp (disch := omega) only [↓ra_112_23, ↓ra_112_24, ↓ra_112_25, ↓ra_112_27, ↓ra_112_29, ↓ra_112_32, ↓ra_112_35, ↓ra_112_36, xa_kli, xa_klr, xa_kll, xa_ki, xa_kl, xa_kr, xa_kii, xa_kk, xa_kir, xa_krr, xa_kiir, xa_krir, xa_kdup, xa_kdup2, xa_kcp, xa_gf, xa_pf, xa_ga, xa_pa, xa_gq, xa_pq, xa_gl, xa_args, xa_ri, xa_rz, xa_rv, xa_s1, xa_s2, xa_c1, eq_self, List.getElem?_cons_succ, List.getElem?_cons_zero, true_and, and_true, nI_add, pk_mul, xt_in, xt_cl, xt_i0, xt_i1, xa_kc, xa_w8, xa_fit, lg_sl, List.flatMap_cons, List.flatMap_nil, List.map_cons, List.map_nil, List.sum_cons, List.sum_nil, Value.category, List.length_cons, List.length_nil, List.length_append, xa_rc, xa_rf, exists_eq_left, exists_eq', Option.some.injEq, Sum.inr.injEq, Prod.mk.injEq, Option.toList_some, Option.toList_none, List.cons_append, List.nil_append, Nat.reduceAdd, Nat.reduceLeDiff, Nat.reduceLT, List.set_cons_zero, List.set_cons_succ, eq_self, or_true, true_or, reduceIte, xt_ne, xt_eq, Nat.reduceEqDiff, Nat.one_ne_zero, if_false, h0, m0, xa_iff cE1, mx_108]
      refine ⟨r1, g 4, by rw [xb_ui]; exact hn1, er1, ?_⟩
      rw [xq_c2_n (fun a p2 e b => by have := q1 a p2 e; unfold xq_aW; exact if_neg (by omega))]
      rfl
/-- is there another ITEM than n, c -/
def xq_mo (T : xt_T) : Nat := if xG T = 0 ∧ xnS T = 0 ∧ xnM T = 0 ∧ xnW T = 0 then 0 else 1
theorem xt_lk4 (c : Nat) (h : c < 65536) : Op.lookupswitch.offset [((103 : Int), (41 : Int)), (109, 87), (115, 82), (119, 92)] 97 (nI c).toInt = if c = 103 then 41 else if c = 115 then 82 else if c = 109 then 87 else if c = 119 then 92 else 97 := by
  rw [nI_toInt (by omega)]
  simp only [Op.lookupswitch.offset_cons, Op.lookupswitch.offset_nil]
  repeat' split
  all_goals omega
theorem xq_or0 : ∀ g, g < 64 → ∀ q, q < 6 → g ||| 2 ^ q ≠ 0 := by decide +kernel
theorem pd_item {M : xa_M} {c len p : Nat} {txt : Nat → Nat} {r : Nat → Int32} {g : Nat → Nat → Int32} {T : xt_T} (hB : xb_M M c r g) (iX : xi_X len txt) (h8 : r 8 = nI len) (h9 : r 9 = nI p) (hp : p < len) (ht : ∀ j, j < len → g 3 j = nI (txt j)) (hR : xv_R (g 4) T) (iT : xi_T T) (h5 : xnM T ≤ 5) (h11 : r 11 = nI (xq_mo T)) : ∃ z, xa_E 113 0 (xa_ent [.ref c]) [] M z ∧ ∃ r2 h, xn c M r2 (xb_u g 4 h) z.2 ∧ (∀ j, j ≠ 9 → j ≠ 11 → j ≠ 12 → r2 j = r j) ∧ xq_ok r2 h (xq_item len txt p T) z ∧ ∀ p2 T2, xq_item len txt p T = some (p2, T2) → r2 11 = nI (xq_mo T2) := by
  obtain ⟨⟨b1, b2, b3, b4, b5, b6, b7, b8⟩, bs, bm, bw⟩ := id iT
  have ix := iX.1
  obtain ⟨⟨v0, v1, v2, v3, v4, v5⟩, vs, vm, vw⟩ := id hR
  obtain ⟨m0, m1, m2, m3, m4, -⟩ := id hB
  unfold xb_c at m0
  refine xa_ge1 (fun lv h0 => ?_)
  have it := iX.2 p hp
  have et := ht p hp
  have hn1 := xn_f (r2 := upd r 9 (nI (p + 1))) (xn_r hB)
  have er1 : ∀ j, j ≠ 9 → upd r 9 (nI (p + 1)) j = r j := fun j h => by rw [xt_us, if_neg h]
  have e19 : upd r 9 (nI (p + 1)) 9 = nI (p + 1) := by rw [xt_us, if_pos rfl]
  simp (disch := omega) only [↓ra_113_0, ↓ra_113_1, ↓ra_113_4, ↓ra_113_5, ↓ra_113_8, ↓ra_113_9, ↓ra_113_10, ↓ra_113_11, ↓ra_113_12, ↓ra_113_15, ↓ra_113_16, ↓ra_113_17, xa_kli, xa_klr, xa_kll, xa_ki, xa_kl, xa_kr, xa_kii, xa_kk, xa_kir, xa_krr, xa_kiir, xa_krir, xa_kdup, xa_kdup2, xa_kcp, xa_gf, xa_pf, xa_ga, xa_pa, xa_gq, xa_pq, xa_gl, xa_args, xa_ri, xa_rz, xa_rv, xa_s1, xa_s2, xa_c1, eq_self, List.getElem?_cons_succ, List.getElem?_cons_zero, true_and, and_true, nI_add, pk_mul, xt_in, xt_cl, xt_i0, xt_i1, xa_kc, xa_w8, xa_fit, lg_sl, List.flatMap_cons, List.flatMap_nil, List.map_cons, List.map_nil, List.sum_cons, List.sum_nil, Value.category, List.length_cons, List.length_nil, List.length_append, xa_rc, xa_rf, exists_eq_left, exists_eq', Option.some.injEq, Sum.inr.injEq, Prod.mk.injEq, Option.toList_some, Option.toList_none, List.cons_append, List.nil_append, Nat.reduceAdd, Nat.reduceLeDiff, Nat.reduceLT, List.set_cons_zero, List.set_cons_succ, eq_self, or_true, true_or, reduceIte, xt_ne, h0, m0, m3, h9, et]
  have hn1 : xn c M (upd r 9 (nI (p + 1))) g (xa_st M c (.inr (7, [.ref (c + 1), .ref (c + 2), .int (r 2), .int (r 3), .int (r 4), .int (r 5), .int (r 6), .ref (c + 3), .int (r 8), .int (nI (p + 1)), .ref (c + 4), .int (r 11), .int (r 12), .ref (c + 5), .int (r 14), .ref (c + 6), .ref (c + 7), .ref (c + 8), .int (r 18), .ref (c + 9), .int (r 20)]))) := hn1
  generalize xa_st M c _ = M1 at hn1 ⊢
  generalize upd r 9 (nI (p + 1)) = r1 at hn1 er1 e19
  have e18 : r1 8 = nI len := (er1 8 (by omega)).trans h8
  have e111 : r1 11 = nI (xq_mo T) := (er1 11 (by omega)).trans h11
  obtain ⟨n0, n1, n2, n3, n4, -⟩ := id hn1.2
  unfold xb_c at n0
  generalize hcc : txt p = cc at *
  simp (disch := omega) only [↓ra_113_20, ↓ra_113_21, ↓ra_113_23, xa_kli, xa_klr, xa_kll, xa_ki, xa_kl, xa_kr, xa_kii, xa_kk, xa_kir, xa_krr, xa_kiir, xa_krir, xa_kdup, xa_kdup2, xa_kcp, xa_gf, xa_pf, xa_ga, xa_pa, xa_gq, xa_pq, xa_gl, xa_args, xa_ri, xa_rz, xa_rv, xa_s1, xa_s2, xa_c1, eq_self, List.getElem?_cons_succ, List.getElem?_cons_zero, true_and, and_true, nI_add, pk_mul, xt_in, xt_cl, xt_i0, xt_i1, xa_kc, xa_w8, xa_fit, lg_sl, List.flatMap_cons, List.flatMap_nil, List.map_cons, List.map_nil, List.sum_cons, List.sum_nil, Value.category, List.length_cons, List.length_nil, List.length_append, xa_rc, xa_rf, exists_eq_left, exists_eq', Option.some.injEq, Sum.inr.injEq, Prod.mk.injEq, Option.toList_some, Option.toList_none, List.cons_append, List.nil_append, Nat.reduceAdd, Nat.reduceLeDiff, Nat.reduceLT, List.set_cons_zero, List.set_cons_succ, eq_self, or_true, true_or, reduceIte, xt_ne, xt_eq]
  by_cases c110 : cc = 110
  · simp only [if_pos c110]
    have ei : xq_item len txt p T = xq_c1 len txt (p + 1) (xq_aN T) := xq_it1 (fun k v => by unfold xq_acc; rw [hcc, if_pos c110])
    rw [ei]
    obtain ⟨⟨z5, M5⟩, cE5, r5, h5', hn5, er5, eh5, hc5⟩ := pd_readOne hn1.2 iX e18 e19 (by omega) ht 0 2 60 (by omega) (by omega) (by omega)
    dsimp only at hn5 hc5
    have er : ∀ j, j ≠ 9 → j ≠ 11 → j ≠ 12 → r5 j = r j := fun j x y z => (er5 j x z).trans (er1 j x)
    rcases hc5 with ⟨d, p4, y1, y2, y3, y4, y5, y6⟩ | ⟨y1, y2⟩
    · subst y4
      simp (disch := omega) only [↓ra_113_26, ↓ra_113_27, ↓ra_113_28, ↓ra_113_29, ↓ra_113_31, ↓ra_113_34, xa_kli, xa_klr, xa_kll, xa_ki, xa_kl, xa_kr, xa_kii, xa_kk, xa_kir, xa_krr, xa_kiir, xa_krir, xa_kdup, xa_kdup2, xa_kcp, xa_gf, xa_pf, xa_ga, xa_pa, xa_gq, xa_pq, xa_gl, xa_args, xa_ri, xa_rz, xa_rv, xa_s1, xa_s2, xa_c1, eq_self, List.getElem?_cons_succ, List.getElem?_cons_zero, true_and, and_true, nI_add, pk_mul, xt_in, xt_cl, xt_i0, xt_i1, xa_kc, xa_w8, xa_fit, lg_sl, List.flatMap_cons, List.flatMap_nil, List.map_cons, List.map_nil, List.sum_cons, List.sum_nil, Value.category, List.length_cons, List.length_nil, List.length_append, xa_rc, xa_rf, exists_eq_left, exists_eq', Option.some.injEq, Sum.inr.injEq, Prod.mk.injEq, Option.toList_some, Option.toList_none, List.cons_append, List.nil_append, Nat.reduceAdd, Nat.reduceLeDiff, Nat.reduceLT, List.set_cons_zero, List.set_cons_succ, eq_self, or_true, true_or, reduceIte, xt_ne, h0, n0, xa_iff cE5, mx_109]
      have ef : xq_c1 len txt (p + 1) (xq_aN T) = some (p4, ((d, xC T, xG T, xnS T, xnM T, xnW T), T.2)) := by unfold xq_c1; rw [y1]; dsimp only; unfold xq_aN; rw [if_pos ⟨y2, y3⟩]; rfl
      rw [ef]
      refine ⟨r5, h5', xn_t hn1 hn5, er, ⟨rfl, y5, ⟨y6, (eh5 1 (by omega)).trans v1, (eh5 2 (by omega)).trans v2, (eh5 3 (by omega)).trans v3, (eh5 4 (by omega)).trans v4, (eh5 5 (by omega)).trans v5⟩, fun s hs => ?_, fun m hm => ?_, fun w hw => ?_⟩, fun p2 T2 e => ?_⟩
      · rw [eh5 _ (by omega), eh5 _ (by omega), eh5 _ (by omega)]; exact vs s hs
      · rw [eh5 _ (by omega), eh5 _ (by omega), eh5 _ (by omega)]; exact vm m hm
      · rw [eh5 _ (by omega), eh5 _ (by omega)]; exact vw w hw
      · cases e; exact (er5 11 (by omega) (by omega)).trans e111
    · subst y2
      simp (disch := omega) only [↓ra_113_26, ↓ra_113_27, ↓ra_113_28, ↓ra_113_29, ↓ra_113_31, ↓ra_113_34, xa_kli, xa_klr, xa_kll, xa_ki, xa_kl, xa_kr, xa_kii, xa_kk, xa_kir, xa_krr, xa_kiir, xa_krir, xa_kdup, xa_kdup2, xa_kcp, xa_gf, xa_pf, xa_ga, xa_pa, xa_gq, xa_pq, xa_gl, xa_args, xa_ri, xa_rz, xa_rv, xa_s1, xa_s2, xa_c1, eq_self, List.getElem?_cons_succ, List.getElem?_cons_zero, true_and, and_true, nI_add, pk_mul, xt_in, xt_cl, xt_i0, xt_i1, xa_kc, xa_w8, xa_fit, lg_sl, List.flatMap_cons, List.flatMap_nil, List.map_cons, List.map_nil, List.sum_cons, List.sum_nil, Value.category, List.length_cons, List.length_nil, List.length_append, xa_rc, xa_rf, exists_eq_left, exists_eq', Option.some.injEq, Sum.inr.injEq, Prod.mk.injEq, Option.toList_some, Option.toList_none, List.cons_append, List.nil_append, Nat.reduceAdd, Nat.reduceLeDiff, Nat.reduceLT, List.set_cons_zero, List.set_cons_succ, eq_self, or_true, true_or, reduceIte, xt_ne, h0, n0, xa_iff cE5, mx_109]
      rw [xq_c1_n (fun d p4 e => by have := y1 d p4 e; unfold xq_aN; exact if_neg this)]
      exact ⟨r5, h5', xn_t hn1 hn5, er, rfl, fun p2 T2 e => by cases e⟩
  · simp only [if_neg c110]
    simp (disch := omega) only [↓ra_113_35, ↓ra_113_36, ↓ra_113_38, xa_kli, xa_klr, xa_kll, xa_ki, xa_kl, xa_kr, xa_kii, xa_kk, xa_kir, xa_krr, xa_kiir, xa_krir, xa_kdup, xa_kdup2, xa_kcp, xa_gf, xa_pf, xa_ga, xa_pa, xa_gq, xa_pq, xa_gl, xa_args, xa_ri, xa_rz, xa_rv, xa_s1, xa_s2, xa_c1, eq_self, List.getElem?_cons_succ, List.getElem?_cons_zero, true_and, and_true, nI_add, pk_mul, xt_in, xt_cl, xt_i0, xt_i1, xa_kc, xa_w8, xa_fit, lg_sl, List.flatMap_cons, List.flatMap_nil, List.map_cons, List.map_nil, List.sum_cons, List.sum_nil, Value.category, List.length_cons, List.length_nil, List.length_append, xa_rc, xa_rf, exists_eq_left, exists_eq', Option.some.injEq, Sum.inr.injEq, Prod.mk.injEq, Option.toList_some, Option.toList_none, List.cons_append, List.nil_append, Nat.reduceAdd, Nat.reduceLeDiff, Nat.reduceLT, List.set_cons_zero, List.set_cons_succ, eq_self, or_true, true_or, reduceIte, xt_ne, xt_eq]
    by_cases c99 : cc = 99
    · simp only [if_pos c99]
      have ei : xq_item len txt p T = xq_c1 len txt (p + 1) (xq_aC T) := xq_it1 (fun k v => by unfold xq_acc; rw [hcc, if_neg c110, if_pos c99])
      rw [ei]
      have m2' : xq_mo T < 2 := by unfold xq_mo; split <;> omega
      simp (disch := omega) only [↓ra_113_41, ↓ra_113_42, ↓ra_113_45, xa_kli, xa_klr, xa_kll, xa_ki, xa_kl, xa_kr, xa_kii, xa_kk, xa_kir, xa_krr, xa_kiir, xa_krir, xa_kdup, xa_kdup2, xa_kcp, xa_gf, xa_pf, xa_ga, xa_pa, xa_gq, xa_pq, xa_gl, xa_args, xa_ri, xa_rz, xa_rv, xa_s1, xa_s2, xa_c1, eq_self, List.getElem?_cons_succ, List.getElem?_cons_zero, true_and, and_true, nI_add, pk_mul, xt_in, xt_cl, xt_i0, xt_i1, xa_kc, xa_w8, xa_fit, lg_sl, List.flatMap_cons, List.flatMap_nil, List.map_cons, List.map_nil, List.sum_cons, List.sum_nil, Value.category, List.length_cons, List.length_nil, List.length_append, xa_rc, xa_rf, exists_eq_left, exists_eq', Option.some.injEq, Sum.inr.injEq, Prod.mk.injEq, Option.toList_some, Option.toList_none, List.cons_append, List.nil_append, Nat.reduceAdd, Nat.reduceLeDiff, Nat.reduceLT, List.set_cons_zero, List.set_cons_succ, eq_self, or_true, true_or, reduceIte, xt_ne, h0, n0, e111, xt_eq]
      by_cases cm : xq_mo T = 0
      · simp only [if_pos cm]
        have cz : xG T = 0 ∧ xnS T = 0 ∧ xnM T = 0 ∧ xnW T = 0 := by
          unfold xq_mo at cm
          split at cm
          · assumption
          · omega
        obtain ⟨⟨z5, M5⟩, cE5, r5, h5', hn5, er5, eh5, hc5⟩ := pd_readOne hn1.2 iX e18 e19 (by omega) ht 1 2 6 (by omega) (by omega) (by omega)
        dsimp only at hn5 hc5
        have er : ∀ j, j ≠ 9 → j ≠ 11 → j ≠ 12 → r5 j = r j := fun j x y z => (er5 j x z).trans (er1 j x)
        rcases hc5 with ⟨d, p4, y1, y2, y3, y4, y5, y6⟩ | ⟨y1, y2⟩
        · subst y4
          simp (disch := omega) only [↓ra_113_48, ↓ra_113_49, ↓ra_113_50, ↓ra_113_51, ↓ra_113_53, ↓ra_113_56, ↓ra_113_59, ↓ra_113_60, ↓ra_113_64, xa_kli, xa_klr, xa_kll, xa_ki, xa_kl, xa_kr, xa_kii, xa_kk, xa_kir, xa_krr, xa_kiir, xa_krir, xa_kdup, xa_kdup2, xa_kcp, xa_gf, xa_pf, xa_ga, xa_pa, xa_gq, xa_pq, xa_gl, xa_args, xa_ri, xa_rz, xa_rv, xa_s1, xa_s2, xa_c1, eq_self, List.getElem?_cons_succ, List.getElem?_cons_zero, true_and, and_true, nI_add, pk_mul, xt_in, xt_cl, xt_i0, xt_i1, xa_kc, xa_w8, xa_fit, lg_sl, List.flatMap_cons, List.flatMap_nil, List.map_cons, List.map_nil, List.sum_cons, List.sum_nil, Value.category, List.length_cons, List.length_nil, List.length_append, xa_rc, xa_rf, exists_eq_left, exists_eq', Option.some.injEq, Sum.inr.injEq, Prod.mk.injEq, Option.toList_some, Option.toList_none, List.cons_append, List.nil_append, Nat.reduceAdd, Nat.reduceLeDiff, Nat.reduceLT, List.set_cons_zero, List.set_cons_succ, eq_self, or_true, true_or, reduceIte, xt_ne, xt_eq, Nat.reduceEqDiff, Nat.one_ne_zero, if_false, h0, n0, xa_iff cE5, mx_109]
          have ef : xq_c1 len txt (p + 1) (xq_aC T) = some (p4, ((xN T, d, xG T, xnS T, xnM T, xnW T), T.2)) := by unfold xq_c1; rw [y1]; dsimp only; unfold xq_aC; rw [if_pos ⟨⟨y2, y3⟩, cz⟩]; rfl
          rw [ef]
          refine ⟨r5, h5', xn_t hn1 hn5, er, ⟨rfl, y5, ⟨(eh5 0 (by omega)).trans v0, y6, (eh5 2 (by omega)).trans v2, (eh5 3 (by omega)).trans v3, (eh5 4 (by omega)).trans v4, (eh5 5 (by omega)).trans v5⟩, fun s hs => ?_, fun m hm => ?_, fun w hw => ?_⟩, fun p2 T2 e => ?_⟩
          · rw [eh5 _ (by omega), eh5 _ (by omega), eh5 _ (by omega)]; exact vs s hs
          · rw [eh5 _ (by omega), eh5 _ (by omega), eh5 _ (by omega)]; exact vm m hm
          · rw [eh5 _ (by omega), eh5 _ (by omega)]; exact vw w hw
          · cases e; exact (er5 11 (by omega) (by omega)).trans e111
        · subst y2
          simp (disch := omega) only [↓ra_113_48, ↓ra_113_49, ↓ra_113_50, ↓ra_113_51, ↓ra_113_53, ↓ra_113_56, ↓ra_113_63, ↓ra_113_64, xa_kli, xa_klr, xa_kll, xa_ki, xa_kl, xa_kr, xa_kii, xa_kk, xa_kir, xa_krr, xa_kiir, xa_krir, xa_kdup, xa_kdup2, xa_kcp, xa_gf, xa_pf, xa_ga, xa_pa, xa_gq, xa_pq, xa_gl, xa_args, xa_ri, xa_rz, xa_rv, xa_s1, xa_s2, xa_c1, eq_self, List.getElem?_cons_succ, List.getElem?_cons_zero, true_and, and_true, nI_add, pk_mul, xt_in, xt_cl, xt_i0, xt_i1, xa_kc, xa_w8, xa_fit, lg_sl, List.flatMap_cons, List.flatMap_nil, List.map_cons, List.map_nil, List.sum_cons, List.sum_nil, Value.category, List.length_cons, List.length_nil, List.length_append, xa_rc, xa_rf, exists_eq_left, exists_eq', Option.some.injEq, Sum.inr.injEq, Prod.mk.injEq, Option.toList_some, Option.toList_none, List.cons_append, List.nil_append, Nat.reduceAdd, Nat.reduceLeDiff, Nat.reduceLT, List.set_cons_zero, List.set_cons_succ, eq_self, or_true, true_or, reduceIte, xt_ne, xt_eq, Nat.reduceEqDiff, Nat.one_ne_zero, if_false, h0, n0, xa_iff cE5, mx_109]
          rw [xq_c1_n (fun d p4 e => by have := y1 d p4 e; unfold xq_aC; exact if_neg (fun h => this h.1))]
          exact ⟨r5, h5', xn_t hn1 hn5, er, rfl, fun p2 T2 e => by cases e⟩
      · simp only [if_neg cm]
        have cz : ¬ (xG T = 0 ∧ xnS T = 0 ∧ xnM T = 0 ∧ xnW T = 0) := fun h => cm (by unfold xq_mo; rw [if_pos h])
        simp (disch := omega) only [↓ra_113_63, ↓ra_113_64, xa_kli, xa_klr, xa_kll, xa_ki, xa_kl, xa_kr, xa_kii, xa_kk, xa_kir, xa_krr, xa_kiir, xa_krir, xa_kdup, xa_kdup2, xa_kcp, xa_gf, xa_pf, xa_ga, xa_pa, xa_gq, xa_pq, xa_gl, xa_args, xa_ri, xa_rz, xa_rv, xa_s1, xa_s2, xa_c1, eq_self, List.getElem?_cons_succ, List.getElem?_cons_zero, true_and, and_true, nI_add, pk_mul, xt_in, xt_cl, xt_i0, xt_i1, xa_kc, xa_w8, xa_fit, lg_sl, List.flatMap_cons, List.flatMap_nil, List.map_cons, List.map_nil, List.sum_cons, List.sum_nil, Value.category, List.length_cons, List.length_nil, List.length_append, xa_rc, xa_rf, exists_eq_left, exists_eq', Option.some.injEq, Sum.inr.injEq, Prod.mk.injEq, Option.toList_some, Option.toList_none, List.cons_append, List.nil_append, Nat.reduceAdd, Nat.reduceLeDiff, Nat.reduceLT, List.set_cons_zero, List.set_cons_succ, eq_self, or_true, true_or, reduceIte, xt_ne]
        rw [xq_c1_n (fun d p4 e => by unfold xq_aC; exact if_neg (fun h => cz h.2))]
        exact ⟨r1, g 4, by rw [xb_ui]; exact hn1, fun j x _ _ => er1 j x, rfl, fun p2 T2 e => by cases e⟩
    · simp only [if_neg c99]
      have hn2 : xn c M (upd r1 11 (nI 1)) g (xa_st M1 c (.inr (7, [.ref (c + 1), .ref (c + 2), .int (r1 2), .int (r1 3), .int (r1 4), .int (r1 5), .int (r1 6), .ref (c + 3), .int (r1 8), .int (r1 9), .ref (c + 4), .int (nI 1), .int (r1 12), .ref (c + 5), .int (r1 14), .ref (c + 6), .ref (c + 7), .ref (c + 8), .int (r1 18), .ref (c + 9), .int (r1 20)]))) := xn_f (r2 := upd r1 11 (nI 1)) hn1
      simp (disch := omega) only [↓ra_113_65, ↓ra_113_66, ↓ra_113_67, ↓ra_113_70, ↓ra_113_71, xa_kli, xa_klr, xa_kll, xa_ki, xa_kl, xa_kr, xa_kii, xa_kk, xa_kir, xa_krr, xa_kiir, xa_krir, xa_kdup, xa_kdup2, xa_kcp, xa_gf, xa_pf, xa_ga, xa_pa, xa_gq, xa_pq, xa_gl, xa_args, xa_ri, xa_rz, xa_rv, xa_s1, xa_s2, xa_c1, eq_self, List.getElem?_cons_succ, List.getElem?_cons_zero, true_and, and_true, nI_add, pk_mul, xt_in, xt_cl, xt_i0, xt_i1, xa_kc, xa_w8, xa_fit, lg_sl, List.flatMap_cons, List.flatMap_nil, List.map_cons, List.map_nil, List.sum_cons, List.sum_nil, Value.category, List.length_cons, List.length_nil, List.length_append, xa_rc, xa_rf, exists_eq_left, exists_eq', Option.some.injEq, Sum.inr.injEq, Prod.mk.injEq, Option.toList_some, Option.toList_none, List.cons_append, List.nil_append, Nat.reduceAdd, Nat.reduceLeDiff, Nat.reduceLT, List.set_cons_zero, List.set_cons_succ, eq_self, or_true, true_or, reduceIte, xt_ne, h0, n0, xt_lk4]
      generalize xa_st M1 c _ = M2 at hn2 ⊢
      have er2 : ∀ j, j ≠ 9 → j ≠ 11 → upd r1 11 (nI 1) j = r j := fun j x y => by rw [xt_us, if_neg y]; exact er1 j x
      have e29 : upd r1 11 (nI 1) 9 = nI (p + 1) := by rw [xt_us, if_neg (by omega)]; exact e19
      have e28 : upd r1 11 (nI 1) 8 = nI len := by rw [xt_us, if_neg (by omega)]; exact e18
      have e211 : upd r1 11 (nI 1) 11 = nI 1 := by rw [xt_us, if_pos rfl]
      generalize upd r1 11 (nI 1) = r2 at hn2 er2 e29 e28 e211
      obtain ⟨k0, k1, k2, k3, k4, -⟩ := id hn2.2
      unfold xb_c at k0
      -- an ITEM read by a method of its own
      have own : ∀ (O : Option (Nat × xt_T)) (z3 : Option Value) (M3 : xa_M) (r3 h3 : Nat → Int32), xn c M2 r3 (xb_u g 4 h3) M3 → (∀ j, j ≠ 9 → j ≠ 12 → r3 j = r2 j) → xq_ok r3 h3 O (z3, M3) → (∀ p2 T2, O = some (p2, T2) → xq_mo T2 = 1) → ∃ r2 h, xn c M r2 (xb_u g 4 h) M3 ∧ (∀ j, j ≠ 9 → j ≠ 11 → j ≠ 12 → r2 j = r j) ∧ xq_ok r2 h O (z3, M3) ∧ ∀ p2 T2, O = some (p2, T2) → r2 11 = nI (xq_mo T2) := by
        intro O z3 M3 r3 h3 a1 a2 a3 a4
        exact ⟨r3, h3, xn_t hn2 a1, fun j x y z => (a2 j x z).trans (er2 j x y), a3, fun p2 T2 e => by rw [a4 p2 T2 e, a2 11 (by omega) (by omega)]; exact e211⟩
      by_cases c103 : cc = 103
      · have ei : xq_item len txt p T = xq_c1 len txt (p + 1) (xq_aG T) := xq_it1 (fun k v => by unfold xq_acc; rw [hcc, if_neg c110, if_neg c99, if_pos c103])
        rw [ei]
        simp only [if_pos c103, show ∀ J : Nat → Prop, xa_jmp 71 41 J = J 112 from fun _ => rfl]
        obtain ⟨⟨z5, M5⟩, cE5, r5, hn5, er5, hc5⟩ := pd_number hn2.2 iX e28 e29 (by omega) ht 0 (xC T - 1) 59 (by omega) (by omega) (by omega)
        dsimp only at hn5 hc5
        obtain ⟨j0, j1, j2, j3, j4, -⟩ := id hn5.2
        unfold xb_c at j0
        have er : ∀ j, j ≠ 9 → j ≠ 11 → j ≠ 12 → r5 j = r j := fun j x y z => (er5 j x z).trans (er2 j x y)
        rcases hc5 with ⟨d, p4, y1, y2, y3, y4, y5, y6⟩ | ⟨y1, y2⟩
        · subst y4
          simp (disch := omega) only [↓ra_113_112, ↓ra_113_113, ↓ra_113_114, ↓ra_113_115, ↓ra_113_118, ↓ra_113_119, ↓ra_113_120, ↓ra_113_121, ↓ra_113_122, ↓ra_113_124, ↓ra_113_127, ↓ra_113_128, ↓ra_113_129, ↓ra_113_132, ↓ra_113_133, ↓ra_113_134, ↓ra_113_135, ↓ra_113_136, ↓ra_113_139, ↓ra_113_140, ↓ra_113_141, ↓ra_113_144, ↓ra_113_145, ↓ra_113_149, ↓ra_113_150, ↓ra_113_151, ↓ra_113_152, xa_kli, xa_klr, xa_kll, xa_ki, xa_kl, xa_kr, xa_kii, xa_kk, xa_kir, xa_krr, xa_kiir, xa_krir, xa_kdup, xa_kdup2, xa_kcp, xa_gf, xa_pf, xa_ga, xa_pa, xa_gq, xa_pq, xa_gl, xa_args, xa_ri, xa_rz, xa_rv, xa_s1, xa_s2, xa_c1, eq_self, List.getElem?_cons_succ, List.getElem?_cons_zero, true_and, and_true, nI_add, pk_mul, xt_in, xt_cl, xt_i0, xt_i1, xa_kc, xa_w8, xa_fit, lg_sl, List.flatMap_cons, List.flatMap_nil, List.map_cons, List.map_nil, List.sum_cons, List.sum_nil, Value.category, List.length_cons, List.length_nil, List.length_append, xa_rc, xa_rf, exists_eq_left, exists_eq', Option.some.injEq, Sum.inr.injEq, Prod.mk.injEq, Option.toList_some, Option.toList_none, List.cons_append, List.nil_append, Nat.reduceAdd, Nat.reduceLeDiff, Nat.reduceLT, List.set_cons_zero, List.set_cons_succ, eq_self, or_true, true_or, reduceIte, xt_ne, xt_eq, Nat.reduceEqDiff, Nat.one_ne_zero, if_false, h0, k0, k4, v1, xt_sub, xa_iff cE5, mx_108, j0, j4, v2, y6, xt_bit, xt_or]
          have ef : xq_c1 len txt (p + 1) (xq_aG T) = some (p4, ((xN T, xC T, xG T ||| 2 ^ d, xnS T, xnM T, xnW T), T.2)) := by unfold xq_c1; rw [y1]; dsimp only; unfold xq_aG; rw [if_pos (by omega)]; rfl
          rw [ef]
          have oj : ∀ j, j ≠ 2 → upd (g 4) 2 (nI (xG T ||| 2 ^ d)) j = g 4 j := fun j h => by rw [xt_us, if_neg h]
          refine ⟨r5, _, xn_s4 (xn_t hn2 hn5), er, ⟨rfl, y5, ⟨(oj 0 (by omega)).trans v0, (oj 1 (by omega)).trans v1, by rw [xt_us, if_pos rfl], (oj 3 (by omega)).trans v3, (oj 4 (by omega)).trans v4, (oj 5 (by omega)).trans v5⟩, fun s hs => ?_, fun m hm => ?_, fun w hw => ?_⟩, fun p2 T2 e => ?_⟩
          · rw [oj _ (by omega), oj _ (by omega), oj _ (by omega)]; exact vs s hs
          · rw [oj _ (by omega), oj _ (by omega), oj _ (by omega)]; exact vm m hm
          · rw [oj _ (by omega), oj _ (by omega)]; exact vw w hw
          · cases e
            have : xq_mo ((xN T, xC T, xG T ||| 2 ^ d, xnS T, xnM T, xnW T), T.2) = 1 := by unfold xq_mo; exact if_neg (fun h => xq_or0 (xG T) b5 d (by omega) h.1)
            rw [this, er5 11 (by omega) (by omega)]
            exact e211
        · subst y2
          simp (disch := omega) only [↓ra_113_112, ↓ra_113_113, ↓ra_113_114, ↓ra_113_115, ↓ra_113_118, ↓ra_113_119, ↓ra_113_120, ↓ra_113_121, ↓ra_113_122, ↓ra_113_124, ↓ra_113_127, ↓ra_113_128, ↓ra_113_129, ↓ra_113_132, ↓ra_113_133, ↓ra_113_134, ↓ra_113_135, ↓ra_113_136, ↓ra_113_148, ↓ra_113_149, ↓ra_113_150, ↓ra_113_151, ↓ra_113_152, xa_kli, xa_klr, xa_kll, xa_ki, xa_kl, xa_kr, xa_kii, xa_kk, xa_kir, xa_krr, xa_kiir, xa_krir, xa_kdup, xa_kdup2, xa_kcp, xa_gf, xa_pf, xa_ga, xa_pa, xa_gq, xa_pq, xa_gl, xa_args, xa_ri, xa_rz, xa_rv, xa_s1, xa_s2, xa_c1, eq_self, List.getElem?_cons_succ, List.getElem?_cons_zero, true_and, and_true, nI_add, pk_mul, xt_in, xt_cl, xt_i0, xt_i1, xa_kc, xa_w8, xa_fit, lg_sl, List.flatMap_cons, List.flatMap_nil, List.map_cons, List.map_nil, List.sum_cons, List.sum_nil, Value.category, List.length_cons, List.length_nil, List.length_append, xa_rc, xa_rf, exists_eq_left, exists_eq', Option.some.injEq, Sum.inr.injEq, Prod.mk.injEq, Option.toList_some, Option.toList_none, List.cons_append, List.nil_append, Nat.reduceAdd, Nat.reduceLeDiff, Nat.reduceLT, List.set_cons_zero, List.set_cons_succ, eq_self, or_true, true_or, reduceIte, xt_ne, xt_eq, Nat.reduceEqDiff, Nat.one_ne_zero, if_false, h0, k0, k4, v1, xt_sub, xa_iff cE5, mx_108, j0, j4, v2, xt_or]
          rw [xq_c1_n (fun d p4 e => by have := y1 d p4 e; unfold xq_aG; exact if_neg (by omega))]
          exact ⟨r5, _, xn_s4 (xn_t hn2 hn5), er, rfl, fun p2 T2 e => by cases e⟩
      · simp only [if_neg c103]
        by_cases c115 : cc = 115
        · have ei : xq_item len txt p T = xq_c3 len txt (p + 1) (xq_aS T) := xq_it3 (fun k v => by unfold xq_acc; rw [hcc, if_neg c110, if_neg c99, if_neg c103, if_pos c115])
          rw [ei]
          simp only [if_pos c115, show ∀ J : Nat → Prop, xa_jmp 71 82 J = J 153 from fun _ => rfl]
          obtain ⟨⟨z5, M5⟩, cE5, r5, h5', hn5, er5, hc5⟩ := pd_readSerf hn2.2 iX e28 e29 (by omega) ht hR iT h5
          dsimp only at hn5
          have ow := own _ z5 M5 r5 h5' hn5 er5 hc5 (fun p2 T2 e => by
            unfold xq_c3 xq_c2 xq_c1 xq_aS at e
            repeat' split at e
            all_goals first | (cases e; done) | (cases e; unfold xq_mo; exact if_neg (fun h => absurd h.2.1 (Nat.succ_ne_zero _))))
          have zz : z5 = some (.int (nI 0)) ∨ z5 = some (.int (nI 1)) := by
            cases hO : xq_c3 len txt (p + 1) (xq_aS T) with
            | none => rw [hO] at hc5; exact Or.inl hc5
            | some t => rw [hO] at hc5; exact Or.inr hc5.1
          rcases zz with zz | zz
          all_goals
            subst zz
            simp (disch := omega) only [↓ra_113_153, ↓ra_113_154, ↓ra_113_157, xa_kli, xa_klr, xa_kll, xa_ki, xa_kl, xa_kr, xa_kii, xa_kk, xa_kir, xa_krr, xa_kiir, xa_krir, xa_kdup, xa_kdup2, xa_kcp, xa_gf, xa_pf, xa_ga, xa_pa, xa_gq, xa_pq, xa_gl, xa_args, xa_ri, xa_rz, xa_rv, xa_s1, xa_s2, xa_c1, eq_self, List.getElem?_cons_succ, List.getElem?_cons_zero, true_and, and_true, nI_add, pk_mul, xt_in, xt_cl, xt_i0, xt_i1, xa_kc, xa_w8, xa_fit, lg_sl, List.flatMap_cons, List.flatMap_nil, List.map_cons, List.map_nil, List.sum_cons, List.sum_nil, Value.category, List.length_cons, List.length_nil, List.length_append, xa_rc, xa_rf, exists_eq_left, exists_eq', Option.some.injEq, Sum.inr.injEq, Prod.mk.injEq, Option.toList_some, Option.toList_none, List.cons_append, List.nil_append, Nat.reduceAdd, Nat.reduceLeDiff, Nat.reduceLT, List.set_cons_zero, List.set_cons_succ, eq_self, or_true, true_or, reduceIte, xt_ne, h0, k0, xa_iff cE5, mx_110]
            exact ow
        · simp only [if_neg c115]
          by_cases c109 : cc = 109
          · have ei : xq_item len txt p T = xq_c3 len txt (p + 1) (xq_aM T) := xq_it3 (fun k v => by unfold xq_acc; rw [hcc, if_neg c110, if_neg c99, if_neg c103, if_neg c115, if_pos c109])
            rw [ei]
            simp only [if_pos c109, show ∀ J : Nat → Prop, xa_jmp 71 87 J = J 158 from fun _ => rfl]
            obtain ⟨⟨z5, M5⟩, cE5, r5, h5', hn5, er5, hc5⟩ := pd_readMan hn2.2 iX e28 e29 (by omega) ht hR iT h5
            dsimp only at hn5
            have ow := own _ z5 M5 r5 h5' hn5 er5 hc5 (fun p2 T2 e => by
              unfold xq_c3 xq_c2 xq_c1 xq_aM at e
              repeat' split at e
              all_goals first | (cases e; done) | (cases e; unfold xq_mo xq_am; exact if_neg (fun h => absurd h.2.2.1 (Nat.succ_ne_zero _))))
            have zz : z5 = some (.int (nI 0)) ∨ z5 = some (.int (nI 1)) := by
              cases hO : xq_c3 len txt (p + 1) (xq_aM T) with
              | none => rw [hO] at hc5; exact Or.inl hc5
              | some t => rw [hO] at hc5; exact Or.inr hc5.1
            rcases zz with zz | zz
            all_goals
              subst zz
              simp (disch := omega) only [↓ra_113_158, ↓ra_113_159, ↓ra_113_162, xa_kli, xa_klr, xa_kll, xa_ki, xa_kl, xa_kr, xa_kii, xa_kk, xa_kir, xa_krr, xa_kiir, xa_krir, xa_kdup, xa_kdup2, xa_kcp, xa_gf, xa_pf, xa_ga, xa_pa, xa_gq, xa_pq, xa_gl, xa_args, xa_ri, xa_rz, xa_rv, xa_s1, xa_s2, xa_c1, eq_self, List.getElem?_cons_succ, List.getElem?_cons_zero, true_and, and_true, nI_add, pk_mul, xt_in, xt_cl, xt_i0, xt_i1, xa_kc, xa_w8, xa_fit, lg_sl, List.flatMap_cons, List.flatMap_nil, List.map_cons, List.map_nil, List.sum_cons, List.sum_nil, Value.category, List.length_cons, List.length_nil, List.length_append, xa_rc, xa_rf, exists_eq_left, exists_eq', Option.some.injEq, Sum.inr.injEq, Prod.mk.injEq, Option.toList_some, Option.toList_none, List.cons_append, List.nil_append, Nat.reduceAdd, Nat.reduceLeDiff, Nat.reduceLT, List.set_cons_zero, List.set_cons_succ, eq_self, or_true, true_or, reduceIte, xt_ne, h0, k0, xa_iff cE5, mx_111]
              exact ow
          · simp only [if_neg c109]
            by_cases c119 : cc = 119
            · have ei : xq_item len txt p T = xq_c2 len txt (p + 1) (xq_aW T) := xq_it2 (fun k v => by unfold xq_acc; rw [hcc, if_neg c110, if_neg c99, if_neg c103, if_neg c115, if_neg c109, if_pos c119])
              rw [ei]
              simp only [if_pos c119, show ∀ J : Nat → Prop, xa_jmp 71 92 J = J 163 from fun _ => rfl]
              obtain ⟨⟨z5, M5⟩, cE5, r5, h5', hn5, er5, hc5⟩ := pd_readNotch hn2.2 iX e28 e29 (by omega) ht hR iT h5
              dsimp only at hn5
              have ow := own _ z5 M5 r5 h5' hn5 er5 hc5 (fun p2 T2 e => by
                unfold xq_c2 xq_c1 xq_aW at e
                repeat' split at e
                all_goals first | (cases e; done) | (cases e; unfold xq_mo; exact if_neg (fun h => absurd h.2.2.2 (Nat.succ_ne_zero _))))
              have zz : z5 = some (.int (nI 0)) ∨ z5 = some (.int (nI 1)) := by
                cases hO : xq_c2 len txt (p + 1) (xq_aW T) with
                | none => rw [hO] at hc5; exact Or.inl hc5
                | some t => rw [hO] at hc5; exact Or.inr hc5.1
              rcases zz with zz | zz
              all_goals
                subst zz
                simp (disch := omega) only [↓ra_113_163, ↓ra_113_164, ↓ra_113_167, xa_kli, xa_klr, xa_kll, xa_ki, xa_kl, xa_kr, xa_kii, xa_kk, xa_kir, xa_krr, xa_kiir, xa_krir, xa_kdup, xa_kdup2, xa_kcp, xa_gf, xa_pf, xa_ga, xa_pa, xa_gq, xa_pq, xa_gl, xa_args, xa_ri, xa_rz, xa_rv, xa_s1, xa_s2, xa_c1, eq_self, List.getElem?_cons_succ, List.getElem?_cons_zero, true_and, and_true, nI_add, pk_mul, xt_in, xt_cl, xt_i0, xt_i1, xa_kc, xa_w8, xa_fit, lg_sl, List.flatMap_cons, List.flatMap_nil, List.map_cons, List.map_nil, List.sum_cons, List.sum_nil, Value.category, List.length_cons, List.length_nil, List.length_append, xa_rc, xa_rf, exists_eq_left, exists_eq', Option.some.injEq, Sum.inr.injEq, Prod.mk.injEq, Option.toList_some, Option.toList_none, List.cons_append, List.nil_append, Nat.reduceAdd, Nat.reduceLeDiff, Nat.reduceLT, List.set_cons_zero, List.set_cons_succ, eq_self, or_true, true_or, reduceIte, xt_ne, h0, k0, xa_iff cE5, mx_112]
                exact ow
            · simp only [if_neg c119, show ∀ J : Nat → Prop, xa_jmp 71 97 J = J 168 from fun _ => rfl]
              have ei : xq_item len txt p T = none := xq_it0 (fun k v => by unfold xq_acc; rw [hcc, if_neg c110, if_neg c99, if_neg c103, if_neg c115, if_neg c109, if_neg c119])
              rw [ei]
              simp (disch := omega) only [↓ra_113_168, ↓ra_113_169, xa_kli, xa_klr, xa_kll, xa_ki, xa_kl, xa_kr, xa_kii, xa_kk, xa_kir, xa_krr, xa_kiir, xa_krir, xa_kdup, xa_kdup2, xa_kcp, xa_gf, xa_pf, xa_ga, xa_pa, xa_gq, xa_pq, xa_gl, xa_args, xa_ri, xa_rz, xa_rv, xa_s1, xa_s2, xa_c1, eq_self, List.getElem?_cons_succ, List.getElem?_cons_zero, true_and, and_true, nI_add, pk_mul, xt_in, xt_cl, xt_i0, xt_i1, xa_kc, xa_w8, xa_fit, lg_sl, List.flatMap_cons, List.flatMap_nil, List.map_cons, List.map_nil, List.sum_cons, List.sum_nil, Value.category, List.length_cons, List.length_nil, List.length_append, xa_rc, xa_rf, exists_eq_left, exists_eq', Option.some.injEq, Sum.inr.injEq, Prod.mk.injEq, Option.toList_some, Option.toList_none, List.cons_append, List.nil_append, Nat.reduceAdd, Nat.reduceLeDiff, Nat.reduceLT, List.set_cons_zero, List.set_cons_succ, eq_self, or_true, true_or, reduceIte, xt_ne]
              exact ⟨r2, g 4, by rw [xb_ui]; exact hn2, fun j x y _ => er2 j x y, rfl, fun p2 T2 e => by cases e⟩
