theorem xt_i2c : ∀ c : Nat, c < 127 → ((nI c).toUInt32 % 65536).toInt32 = nI c := by decide +kernel
theorem xt_k0 {x : Int32} {lo hi : Nat} (h : ¬ xt_k x lo hi) (hh : hi < 2147483648) : x.toInt < (lo : Int) ∨ (hi : Int) - 1 < x.toInt := by
  have := xt_knot h hh
  omega
theorem xh_P_z {M : xa_M} {p n nS nM size : Nat} {L : Nat → xt_S} (h : xh_P M p n nS nM size L) (nS' nM' : Nat) : xh_P (xa_st M p (.inr (0, [.ref (p + 1), .int (nI 0)]))) p n nS' nM' 0 L := by
  obtain ⟨a, σ, h0, h1, h2, h3, h4, h5, h6⟩ := h
  exact ⟨a, σ, xa_st_eq, (xa_st_ne (by omega)).trans h1, h2, h3, fun i hi => absurd hi (Nat.not_lt_zero i), fun i hi => (h5 i hi).elim (fun S0 h => ⟨S0, xh_S_sm h (fun c x y => xa_st_ne (by omega))⟩), Nat.zero_le _⟩
theorem xh_G_z {M : xa_M} {p size : Nat} {a b c : Nat → Nat} (h : xh_G M p size a b c) : xh_G (xa_st M p (.inr (1, [.ref (p + 1), .ref (p + 2), .ref (p + 3), .int (nI 0)]))) p 0 a b c := by
  obtain ⟨h0, h1, h2, h3⟩ := h
  exact ⟨xa_st_eq, xa_ar_ne (xa_ar_mono h1 (Nat.zero_le _)) (by omega), xa_ar_ne (xa_ar_mono h2 (Nat.zero_le _)) (by omega), xa_ar_ne (xa_ar_mono h3 (Nat.zero_le _)) (by omega)⟩
theorem xA_XU {M M1 : xa_M} {b : Nat} {A : xt_A} (hA : xh_A M b A) (g : xa_f2 (b + 1) (b + 1 + 3) (b + 13) (b + 13 + 9) M M1) (hX : xh_X M1 (b + 1) (yX A).1 (yX A).2) (hU : ∃ T0, xh_T M1 (b + 13) T0) : xh_A M1 b A := by
  obtain ⟨hO, -, hT, -, hS, ⟨S0, hN⟩, hP, hK, hG, hW⟩ := hA
  have k : ∀ lo hi, hi ≤ b + 1 ∨ (b + 4 ≤ lo ∧ hi ≤ b + 13) ∨ b + 22 ≤ lo → xa_sm lo hi M M1 := fun lo hi c a x y => g.1 a (by omega) (by omega)
  exact ⟨(k b (b + 1) (by omega) b (by omega) (by omega)).trans hO, hX, xh_T_sm hT (k _ _ (by omega)), hU, xh_S_sm hS (k _ _ (by omega)), ⟨_, xh_S_sm hN (k _ _ (by omega))⟩, xh_P_sm hP (k _ _ (by omega)), xh_P_sm hK (k _ _ (by omega)), xh_G_sm hG (k _ _ (by omega)), xh_W0_sm hW (k _ _ (by omega))⟩
-- write
def xs_write (A : xt_A) (c : Nat) : Int32 × xt_A := if (yX A).1 < 200 then (nI ((yX A).1 + 1), yT A, yS A, ((yX A).1 + 1, fun j => if j = (yX A).1 then c else (yX A).2 j), yU A, yK A, yG A) else (Int32.ofInt (-3), A)
theorem pm_write_n {M : xa_M} {b : Nat} {x : Int32} (h : ¬ xt_k x 32 (126 + 1)) : xa_E 50 0 (xa_ent [.ref b, .int x]) [] M (some (.int (Int32.ofInt (-1))), M) := by
  have cn := xa_iff (pc_isNot_n (M := M) 32 126 h (by omega) (by omega))
  refine xa_go2 (fun lv h0 h1 => ?_)
  simp (disch := omega) only [↓ra_50_0, ↓ra_50_1, ↓ra_50_3, ↓ra_50_5, ↓ra_50_8, ↓ra_50_11, ↓ra_50_12, xa_kli, xa_klr, xa_kll, xa_ki, xa_kl, xa_kr, xa_kii, xa_kk, xa_kir, xa_krr, xa_kiir, xa_krir, xa_kdup, xa_kdup2, xa_kcp, xa_gf, xa_pf, xa_ga, xa_pa, xa_gq, xa_pq, xa_gl, xa_args, xa_ri, xa_rz, xa_rv, xa_s1, xa_s2, xa_c1, eq_self, List.getElem?_cons_succ, List.getElem?_cons_zero, true_and, and_true, nI_add, pk_mul, xt_in, xt_cl, xt_i0, xt_i1, xa_kc, xa_w8, xa_fit, lg_sl, List.flatMap_cons, List.flatMap_nil, List.map_cons, List.map_nil, List.sum_cons, List.sum_nil, Value.category, List.length_cons, List.length_nil, List.length_append, xa_rc, xa_rf, exists_eq_left, exists_eq', Option.some.injEq, Sum.inr.injEq, Prod.mk.injEq, Option.toList_some, Option.toList_none, List.cons_append, List.nil_append, Nat.reduceAdd, Nat.reduceLeDiff, Nat.reduceLT, List.set_cons_zero, List.set_cons_succ, eq_self, or_true, true_or, reduceIte, xt_ne, xt_eq, Nat.reduceEqDiff, Nat.one_ne_zero, if_false, h0, h1, cn, mx_77]
theorem pm_write {M : xa_M} {b : Nat} {A : xt_A} (hA : xh_A M b A) (iA : xi_A A) (c : Nat) (h1c : 32 ≤ c) (h2c : c ≤ 126) : ∃ z, xa_E 50 0 (xa_ent [.ref b, .int (nI c)]) [] M z ∧ xm b M (xs_write A c).1 (xs_write A c).2 z := by
  obtain ⟨hO, hX, -⟩ := id hA
  have o0 : xh_O M b := hO
  unfold xh_O at o0
  have iX := iA.2.2.2.2.2.1
  have cn := xa_iff (pc_isNot_y (M := M) c 32 126 h1c h2c (by omega))
  refine xa_ge2 (fun lv h0 h1 => ?_)
  have x0 := hX
  obtain ⟨w, g, g2, x0, -⟩ := x0
  unfold xs_write
  by_cases cl : (yX A).1 < 200
  · rw [if_pos cl]
    obtain ⟨⟨z1, M1⟩, cE1, c1, f1, hX1⟩ := pc_xadd hX cl c (by omega)
    have c1 : z1 = _ := c1
    subst c1
    dsimp only at f1 hX1
    have o1 := (f1.1 b (by omega)).trans o0
    obtain ⟨w1, g1, g3, x1, -⟩ := id hX1
    simp (disch := omega) only [↓ra_50_0, ↓ra_50_1, ↓ra_50_3, ↓ra_50_5, ↓ra_50_8, ↓ra_50_13, ↓ra_50_14, ↓ra_50_17, ↓ra_50_18, ↓ra_50_19, ↓ra_50_22, ↓ra_50_25, ↓ra_50_26, ↓ra_50_29, ↓ra_50_32, ↓ra_50_37, xa_kli, xa_klr, xa_kll, xa_ki, xa_kl, xa_kr, xa_kii, xa_kk, xa_kir, xa_krr, xa_kiir, xa_krir, xa_kdup, xa_kdup2, xa_kcp, xa_gf, xa_pf, xa_ga, xa_pa, xa_gq, xa_pq, xa_gl, xa_args, xa_ri, xa_rz, xa_rv, xa_s1, xa_s2, xa_c1, eq_self, List.getElem?_cons_succ, List.getElem?_cons_zero, true_and, and_true, nI_add, pk_mul, xt_in, xt_cl, xt_i0, xt_i1, xa_kc, xa_w8, xa_fit, lg_sl, List.flatMap_cons, List.flatMap_nil, List.map_cons, List.map_nil, List.sum_cons, List.sum_nil, Value.category, List.length_cons, List.length_nil, List.length_append, xa_rc, xa_rf, exists_eq_left, exists_eq', Option.some.injEq, Sum.inr.injEq, Prod.mk.injEq, Option.toList_some, Option.toList_none, List.cons_append, List.nil_append, Nat.reduceAdd, Nat.reduceLeDiff, Nat.reduceLT, List.set_cons_zero, List.set_cons_succ, eq_self, or_true, true_or, reduceIte, xt_ne, xt_eq, Nat.reduceEqDiff, Nat.one_ne_zero, if_false, h0, h1, cn, mx_77, o0, x0, xt_i2c, xa_iff cE1, mx_22, o1, x1]
    exact xm_w (lo := 1) (hi := 4) (xA_X (X := (_, _)) hX1 hA f1) f1 (by omega)
  · rw [if_neg cl]
    have e : (yX A).1 = 200 := by have := iX.1; omega
    have cf := xa_iff (pc_xfull (e ▸ hX) (nI c))
    simp (disch := omega) only [↓ra_50_0, ↓ra_50_1, ↓ra_50_3, ↓ra_50_5, ↓ra_50_8, ↓ra_50_13, ↓ra_50_14, ↓ra_50_17, ↓ra_50_18, ↓ra_50_19, ↓ra_50_22, ↓ra_50_35, ↓ra_50_37, xa_kli, xa_klr, xa_kll, xa_ki, xa_kl, xa_kr, xa_kii, xa_kk, xa_kir, xa_krr, xa_kiir, xa_krir, xa_kdup, xa_kdup2, xa_kcp, xa_gf, xa_pf, xa_ga, xa_pa, xa_gq, xa_pq, xa_gl, xa_args, xa_ri, xa_rz, xa_rv, xa_s1, xa_s2, xa_c1, eq_self, List.getElem?_cons_succ, List.getElem?_cons_zero, true_and, and_true, nI_add, pk_mul, xt_in, xt_cl, xt_i0, xt_i1, xa_kc, xa_w8, xa_fit, lg_sl, List.flatMap_cons, List.flatMap_nil, List.map_cons, List.map_nil, List.sum_cons, List.sum_nil, Value.category, List.length_cons, List.length_nil, List.length_append, xa_rc, xa_rf, exists_eq_left, exists_eq', Option.some.injEq, Sum.inr.injEq, Prod.mk.injEq, Option.toList_some, Option.toList_none, List.cons_append, List.nil_append, Nat.reduceAdd, Nat.reduceLeDiff, Nat.reduceLT, List.set_cons_zero, List.set_cons_succ, eq_self, or_true, true_or, reduceIte, xt_ne, xt_eq, Nat.reduceEqDiff, Nat.one_ne_zero, if_false, h0, h1, cn, mx_77, o0, x0, xt_i2c, cf, mx_22]
    exact xm_r hA
-- wipe
def xs_wipe (A : xt_A) : Int32 × xt_A := (nI (yX A).1, yT A, yS A, (0, (yX A).2), yU A, yK A, yG A)
theorem pm_wipe {M : xa_M} {b : Nat} {A : xt_A} (hA : xh_A M b A) : ∃ z, xa_E 51 0 (xa_ent [.ref b]) [] M z ∧ xm b M (xs_wipe A).1 (xs_wipe A).2 z := by
  obtain ⟨hO, hX, -⟩ := id hA
  have o0 : xh_O M b := hO
  unfold xh_O at o0
  refine xa_ge1 (fun lv h0 => ?_)
  obtain ⟨w, g, g2, x0, x1, x2, x3⟩ := hX
  simp (disch := omega) only [↓ra_51_0, ↓ra_51_1, ↓ra_51_4, ↓ra_51_7, ↓ra_51_8, ↓ra_51_9, ↓ra_51_12, ↓ra_51_13, ↓ra_51_16, ↓ra_51_17, xa_kli, xa_klr, xa_kll, xa_ki, xa_kl, xa_kr, xa_kii, xa_kk, xa_kir, xa_krr, xa_kiir, xa_krir, xa_kdup, xa_kdup2, xa_kcp, xa_gf, xa_pf, xa_ga, xa_pa, xa_gq, xa_pq, xa_gl, xa_args, xa_ri, xa_rz, xa_rv, xa_s1, xa_s2, xa_c1, eq_self, List.getElem?_cons_succ, List.getElem?_cons_zero, true_and, and_true, nI_add, pk_mul, xt_in, xt_cl, xt_i0, xt_i1, xa_kc, xa_w8, xa_fit, lg_sl, List.flatMap_cons, List.flatMap_nil, List.map_cons, List.map_nil, List.sum_cons, List.sum_nil, Value.category, List.length_cons, List.length_nil, List.length_append, xa_rc, xa_rf, exists_eq_left, exists_eq', Option.some.injEq, Sum.inr.injEq, Prod.mk.injEq, Option.toList_some, Option.toList_none, List.cons_append, List.nil_append, Nat.reduceAdd, Nat.reduceLeDiff, Nat.reduceLT, List.set_cons_zero, List.set_cons_succ, eq_self, or_true, true_or, reduceIte, xt_ne, xt_eq, Nat.reduceEqDiff, Nat.one_ne_zero, if_false, h0, o0, x0]
  have f : xa_fr (b + 1) (b + 4) M (xa_st M (b + 1) (.inr (3, [.ref (b + 1 + 1), .int (nI 0), .ref (b + 1 + 2), .int w]))) := xa_fr_st (by omega) (by omega)
  exact xm_w (lo := 1) (hi := 4) (xA_X (X := (0, _)) ⟨w, g, g2, xa_st_eq, (xa_st_ne (by omega)).trans x1, fun j hj => absurd hj (Nat.not_lt_zero j), (xa_st_ne (by omega)).trans x3⟩ hA f) f (by omega)
-- fault
def xq_rd (A : xt_A) : Option Nat × xt_T := xq_ri (yX A).1 (yX A).2 200 0 xq_T0
def xs_fault (A : xt_A) : Int32 := xt_o (xq_rd A).1
theorem pm_fault {M : xa_M} {b : Nat} {A : xt_A} (hA : xh_A M b A) (iA : xi_A A) : ∃ z, xa_E 52 0 (xa_ent [.ref b]) [] M z ∧ xm b M (xs_fault A) A z := by
  obtain ⟨hO, hX, -, ⟨T0, hU⟩, -⟩ := id hA
  have o0 : xh_O M b := hO
  unfold xh_O at o0
  refine xa_ge1 (fun lv h0 => ?_)
  obtain ⟨⟨z1, M1⟩, cE1, c1, f1, hX1, hU1⟩ := pc_readInto hX iA.2.2.2.2.2.1 hU (by omega)
  have c1 : z1 = _ := c1
  subst c1
  dsimp only at f1 hX1 hU1
  obtain ⟨w, g, g2, x0, -⟩ := id hX
  simp (disch := omega) only [↓ra_52_0, ↓ra_52_1, ↓ra_52_4, ↓ra_52_5, ↓ra_52_8, ↓ra_52_11, xa_kli, xa_klr, xa_kll, xa_ki, xa_kl, xa_kr, xa_kii, xa_kk, xa_kir, xa_krr, xa_kiir, xa_krir, xa_kdup, xa_kdup2, xa_kcp, xa_gf, xa_pf, xa_ga, xa_pa, xa_gq, xa_pq, xa_gl, xa_args, xa_ri, xa_rz, xa_rv, xa_s1, xa_s2, xa_c1, eq_self, List.getElem?_cons_succ, List.getElem?_cons_zero, true_and, and_true, nI_add, pk_mul, xt_in, xt_cl, xt_i0, xt_i1, xa_kc, xa_w8, xa_fit, lg_sl, List.flatMap_cons, List.flatMap_nil, List.map_cons, List.map_nil, List.sum_cons, List.sum_nil, Value.category, List.length_cons, List.length_nil, List.length_append, xa_rc, xa_rf, exists_eq_left, exists_eq', Option.some.injEq, Sum.inr.injEq, Prod.mk.injEq, Option.toList_some, Option.toList_none, List.cons_append, List.nil_append, Nat.reduceAdd, Nat.reduceLeDiff, Nat.reduceLT, List.set_cons_zero, List.set_cons_succ, eq_self, or_true, true_or, reduceIte, xt_ne, xt_eq, Nat.reduceEqDiff, Nat.one_ne_zero, if_false, h0, o0, x0, xa_iff cE1, mx_23]
  exact ⟨rfl, xa_f2_fr f1 (by omega) (by omega) (by omega) (by omega), xA_XU hA f1 hX1 ⟨_, hU1⟩⟩
-- lay
def xs_lay (A : xt_A) : Int32 × xt_A := if (xq_rd A).1 = none ∧ xnS (xq_rd A).2 ≠ 0 then (nI (xnS (xq_rd A).2), (xq_rd A).2, xq_b (xq_rd A).2, yX A, (0, (yU A).2), (0, (yK A).2), (0, (yG A).2)) else (Int32.ofInt (-2), A)
theorem xq_ri_lt {len : Nat} {txt : Nat → Nat} : ∀ (f p : Nat) (T : xt_T) (n : Nat), (xq_ri len txt f p T).1 = some n → n < len
  | 0, _, _, n, h => by cases h
  | f + 1, p, T, n, h => by
    unfold xq_ri at h
    by_cases c : len ≤ p
    · rw [if_pos c] at h; cases h
    · rw [if_neg c] at h
      split at h
      · cases h; omega
      · split at h
        · cases h; omega
        · exact xq_ri_lt f _ _ n h
theorem pm_lay {M : xa_M} {b : Nat} {A : xt_A} (hA : xh_A M b A) (iA : xi_A A) : ∃ z, xa_E 53 0 (xa_ent [.ref b]) [] M z ∧ xm b M (xs_lay A).1 (xs_lay A).2 z := by
  obtain ⟨hO, hX, hT, ⟨T0, hU⟩, hS, ⟨S0, hN⟩, hP, hK, hG, hW⟩ := id hA
  have o0 : xh_O M b := hO
  unfold xh_O at o0
  refine xa_ge1 (fun lv h0 => ?_)
  have iX := iA.2.2.2.2.2.1
  obtain ⟨⟨z1, M1⟩, cE1, c1, f1, hX1, hU1⟩ := pc_readInto hX iX hU (by omega)
  have c1 : z1 = _ := c1
  subst c1
  dsimp only at f1 hX1 hU1
  obtain ⟨w, g, g2, x0, -⟩ := id hX
  have o1 := (f1.1 b (by omega) (by omega)).trans o0
  have hA1 := xA_XU hA f1 hX1 ⟨_, hU1⟩
  have fr1 : xa_fr b (b + 107) M M1 := xa_f2_fr f1 (by omega) (by omega) (by omega) (by omega)
  have u1 := hU1.1
  have iT := xi_ri (len := (yX A).1) (txt := (yX A).2) 200 0 xq_T0 xi_T0 (by decide)
  have lt := fun n h => Nat.lt_of_lt_of_le (xq_ri_lt (len := (yX A).1) (txt := (yX A).2) 200 0 xq_T0 n h) (Nat.le_trans iX.1 (by omega : 200 ≤ 2147483648))
  change xa_E _ _ _ _ _ (some (.int (xt_o (xq_rd A).1)), M1) at cE1
  change xh_T M1 (b + 13) (xq_rd A).2 at hU1
  change ∀ n, (xq_rd A).1 = some n → n < 2147483648 at lt
  change xi_T (xq_rd A).2 ∧ xnM (xq_rd A).2 ≤ 5 at iT
  change M1.1 (b + 13) = some (.inr (4, [.int (nI (xN (xq_rd A).2)), .int (nI (xC (xq_rd A).2)), .int (nI (xG (xq_rd A).2)), .int (nI (xnS (xq_rd A).2)), .ref (b + 13 + 1), .ref (b + 13 + 2), .ref (b + 13 + 3), .int (nI (xnM (xq_rd A).2)), .ref (b + 13 + 4), .ref (b + 13 + 5), .ref (b + 13 + 6), .int (nI (xnW (xq_rd A).2)), .ref (b + 13 + 7), .ref (b + 13 + 8)])) at u1
  unfold xs_lay
  generalize xq_rd A = r at *
  obtain ⟨⟨b1, b2, b3, b4, b5, b6, b7, b8⟩, -⟩ := id iT.1
  simp (disch := omega) only [↓ra_53_0, ↓ra_53_1, ↓ra_53_4, ↓ra_53_5, ↓ra_53_8, ↓ra_53_11, ↓ra_53_13, xa_kli, xa_klr, xa_kll, xa_ki, xa_kl, xa_kr, xa_kii, xa_kk, xa_kir, xa_krr, xa_kiir, xa_krir, xa_kdup, xa_kdup2, xa_kcp, xa_gf, xa_pf, xa_ga, xa_pa, xa_gq, xa_pq, xa_gl, xa_args, xa_ri, xa_rz, xa_rv, xa_s1, xa_s2, xa_c1, eq_self, List.getElem?_cons_succ, List.getElem?_cons_zero, true_and, and_true, nI_add, pk_mul, xt_in, xt_cl, xt_i0, xt_i1, xa_kc, xa_w8, xa_fit, lg_sl, List.flatMap_cons, List.flatMap_nil, List.map_cons, List.map_nil, List.sum_cons, List.sum_nil, Value.category, List.length_cons, List.length_nil, List.length_append, xa_rc, xa_rf, exists_eq_left, exists_eq', Option.some.injEq, Sum.inr.injEq, Prod.mk.injEq, Option.toList_some, Option.toList_none, List.cons_append, List.nil_append, Nat.reduceAdd, Nat.reduceLeDiff, Nat.reduceLT, List.set_cons_zero, List.set_cons_succ, eq_self, or_true, true_or, reduceIte, xt_ne, h0, o0, x0, xa_iff cE1, mx_23, xt_o4 r.1 lt]
  by_cases cr : r.1 = none
  · simp only [if_pos cr]
    simp (disch := omega) only [↓ra_53_16, ↓ra_53_17, ↓ra_53_20, ↓ra_53_23, xa_kli, xa_klr, xa_kll, xa_ki, xa_kl, xa_kr, xa_kii, xa_kk, xa_kir, xa_krr, xa_kiir, xa_krir, xa_kdup, xa_kdup2, xa_kcp, xa_gf, xa_pf, xa_ga, xa_pa, xa_gq, xa_pq, xa_gl, xa_args, xa_ri, xa_rz, xa_rv, xa_s1, xa_s2, xa_c1, eq_self, List.getElem?_cons_succ, List.getElem?_cons_zero, true_and, and_true, nI_add, pk_mul, xt_in, xt_cl, xt_i0, xt_i1, xa_kc, xa_w8, xa_fit, lg_sl, List.flatMap_cons, List.flatMap_nil, List.map_cons, List.map_nil, List.sum_cons, List.sum_nil, Value.category, List.length_cons, List.length_nil, List.length_append, xa_rc, xa_rf, exists_eq_left, exists_eq', Option.some.injEq, Sum.inr.injEq, Prod.mk.injEq, Option.toList_some, Option.toList_none, List.cons_append, List.nil_append, Nat.reduceAdd, Nat.reduceLeDiff, Nat.reduceLT, List.set_cons_zero, List.set_cons_succ, eq_self, or_true, true_or, reduceIte, xt_ne, h0, o1, u1, xt_eq]
    by_cases cs : xnS r.2 = 0
    · simp only [if_pos cs]
      simp (disch := omega) only [↓ra_53_26, ↓ra_53_28, xa_kli, xa_klr, xa_kll, xa_ki, xa_kl, xa_kr, xa_kii, xa_kk, xa_kir, xa_krr, xa_kiir, xa_krir, xa_kdup, xa_kdup2, xa_kcp, xa_gf, xa_pf, xa_ga, xa_pa, xa_gq, xa_pq, xa_gl, xa_args, xa_ri, xa_rz, xa_rv, xa_s1, xa_s2, xa_c1, eq_self, List.getElem?_cons_succ, List.getElem?_cons_zero, true_and, and_true, nI_add, pk_mul, xt_in, xt_cl, xt_i0, xt_i1, xa_kc, xa_w8, xa_fit, lg_sl, List.flatMap_cons, List.flatMap_nil, List.map_cons, List.map_nil, List.sum_cons, List.sum_nil, Value.category, List.length_cons, List.length_nil, List.length_append, xa_rc, xa_rf, exists_eq_left, exists_eq', Option.some.injEq, Sum.inr.injEq, Prod.mk.injEq, Option.toList_some, Option.toList_none, List.cons_append, List.nil_append, Nat.reduceAdd, Nat.reduceLeDiff, Nat.reduceLT, List.set_cons_zero, List.set_cons_succ, eq_self, or_true, true_or, reduceIte, xt_ne]
      rw [if_neg (fun h => h.2 cs)]
      exact ⟨rfl, fr1, hA1⟩
    · simp only [if_neg cs]
      rw [if_pos ⟨cr, cs⟩]
      obtain ⟨hO1, -, hT1, -, hS1, ⟨S1, hN1⟩, hP1, hK1, hG1, hW1⟩ := id hA1
      obtain ⟨⟨z2, M2⟩, cE2, c2, f2, hT2⟩ := pc_copyT hT1 hU1 (by omega) b6 b7 b8
      have c2 : z2 = none := c2
      subst c2
      dsimp only at f2 hT2
      have o2 := (f2.1 b (by omega)).trans o1
      obtain ⟨⟨z3, M3⟩, cE3, c3, f3, hS3⟩ := pc_begin (xh_S0 (xh_S_fr hS1 f2 (by omega))) hT2 (by omega) b6 b7
      have c3 : z3 = none := c3
      subst c3
      dsimp only at f3 hS3
      have o3 := (f3.1 b (by omega)).trans o2
      have t1 := hT1.1
      have t2 := hT2.1
      have n2 := (xh_S_fr hS1 f2 (by omega)).1
      have hT3 := xh_T_fr hT2 f3 (by omega)
      have t3 := hT3.1
      have hG3 := xh_G_fr (xh_G_fr hG1 f2 (by omega)) f3 (by omega)
      have hP3 := xh_P_fr (xh_P_fr hP1 f2 (by omega)) f3 (by omega)
      have hK3 := xh_P_fr (xh_P_fr hK1 f2 (by omega)) f3 (by omega)
      have g3 := hG3.1
      obtain ⟨-, -, p3, -⟩ := id hP3
      obtain ⟨-, -, k3, -⟩ := id hK3
      simp (disch := omega) only [↓ra_53_29, ↓ra_53_30, ↓ra_53_33, ↓ra_53_34, ↓ra_53_37, ↓ra_53_40, ↓ra_53_41, ↓ra_53_44, ↓ra_53_45, ↓ra_53_48, ↓ra_53_51, ↓ra_53_52, ↓ra_53_55, ↓ra_53_56, ↓ra_53_59, ↓ra_53_60, ↓ra_53_63, ↓ra_53_64, ↓ra_53_67, ↓ra_53_68, ↓ra_53_71, ↓ra_53_72, ↓ra_53_75, ↓ra_53_76, ↓ra_53_79, ↓ra_53_82, xa_kli, xa_klr, xa_kll, xa_ki, xa_kl, xa_kr, xa_kii, xa_kk, xa_kir, xa_krr, xa_kiir, xa_krir, xa_kdup, xa_kdup2, xa_kcp, xa_gf, xa_pf, xa_ga, xa_pa, xa_gq, xa_pq, xa_gl, xa_args, xa_ri, xa_rz, xa_rv, xa_s1, xa_s2, xa_c1, eq_self, List.getElem?_cons_succ, List.getElem?_cons_zero, true_and, and_true, nI_add, pk_mul, xt_in, xt_cl, xt_i0, xt_i1, xa_kc, xa_w8, xa_fit, lg_sl, List.flatMap_cons, List.flatMap_nil, List.map_cons, List.map_nil, List.sum_cons, List.sum_nil, Value.category, List.length_cons, List.length_nil, List.length_append, xa_rc, xa_rf, exists_eq_left, exists_eq', Option.some.injEq, Sum.inr.injEq, Prod.mk.injEq, Option.toList_some, Option.toList_none, List.cons_append, List.nil_append, Nat.reduceAdd, Nat.reduceLeDiff, Nat.reduceLT, List.set_cons_zero, List.set_cons_succ, eq_self, or_true, true_or, reduceIte, xt_ne, h0, o1, o2, o3, t1, t2, t3, n2, g3, p3, k3, xt_st, xa_iff cE2, mx_30, xa_iff cE3, mx_8]
      have hG4 := xh_G_z hG3
      generalize hM4 : xa_st M3 (b + 98) _ = M4 at hG4 ⊢
      have f4 : xa_fr (b + 98) (b + 102) M3 M4 := by rw [← hM4]; exact xa_fr_st (by omega) (by omega)
      have hP5 := xh_P_z (xh_P_fr hP3 f4 (by omega)) (xnS r.2) (xnM r.2)
      generalize hM5 : xa_st M4 (b + 34) _ = M5 at hP5 ⊢
      have f5 : xa_fr (b + 34) (b + 84) M4 M5 := by rw [← hM5]; exact xa_fr_st (by omega) (by omega)
      have hK6 := xh_P_z (xh_P_fr (xh_P_fr hK3 f4 (by omega)) f5 (by omega)) (xnS r.2) (xnM r.2)
      generalize hM6 : xa_st M5 (b + 84) _ = M6 at hK6 ⊢
      have f6 : xa_fr (b + 84) (b + 98) M5 M6 := by rw [← hM6]; exact xa_fr_st (by omega) (by omega)
      refine ⟨rfl, ?_, ?_⟩
      · exact xa_fr_tr (xa_fr_tr (xa_fr_tr (xa_fr_tr (xa_fr_tr fr1 (xa_fr_w f2 (by omega) (by omega))) (xa_fr_w f3 (by omega) (by omega))) (xa_fr_w f4 (by omega) (by omega))) (xa_fr_w f5 (by omega) (by omega))) (xa_fr_w f6 (by omega) (by omega))
      · refine ⟨?_, ?_, ?_, ⟨r.2, ?_⟩, ?_, ⟨S1, ?_⟩, ?_, hK6, ?_, ?_⟩
        · exact (f6.1 b (by omega)).trans ((f5.1 b (by omega)).trans ((f4.1 b (by omega)).trans o3))
        · exact xh_X_fr (xh_X_fr (xh_X_fr (xh_X_fr (xh_X_fr hX1 f2 (by omega)) f3 (by omega)) f4 (by omega)) f5 (by omega)) f6 (by omega)
        · exact xh_T_fr (xh_T_fr (xh_T_fr hT3 f4 (by omega)) f5 (by omega)) f6 (by omega)
        · exact xh_T_fr (xh_T_fr (xh_T_fr (xh_T_fr (xh_T_fr hU1 f2 (by omega)) f3 (by omega)) f4 (by omega)) f5 (by omega)) f6 (by omega)
        · exact xh_S_fr (xh_S_fr (xh_S_fr hS3 f4 (by omega)) f5 (by omega)) f6 (by omega)
        · exact xh_S_fr (xh_S_fr (xh_S_fr (xh_S_fr (xh_S_fr hN1 f2 (by omega)) f3 (by omega)) f4 (by omega)) f5 (by omega)) f6 (by omega)
        · exact xh_P_fr hP5 f6 (by omega)
        · exact xh_G_fr (xh_G_fr hG4 f5 (by omega)) f6 (by omega)
        · exact xh_W0_fr (xh_W0_fr (xh_W0_fr (xh_W0_fr (xh_W0_fr hW1 f2 (by omega)) f3 (by omega)) f4 (by omega)) f5 (by omega)) f6 (by omega)
  · simp only [if_neg cr]
    simp (disch := omega) only [↓ra_53_26, ↓ra_53_28, xa_kli, xa_klr, xa_kll, xa_ki, xa_kl, xa_kr, xa_kii, xa_kk, xa_kir, xa_krr, xa_kiir, xa_krir, xa_kdup, xa_kdup2, xa_kcp, xa_gf, xa_pf, xa_ga, xa_pa, xa_gq, xa_pq, xa_gl, xa_args, xa_ri, xa_rz, xa_rv, xa_s1, xa_s2, xa_c1, eq_self, List.getElem?_cons_succ, List.getElem?_cons_zero, true_and, and_true, nI_add, pk_mul, xt_in, xt_cl, xt_i0, xt_i1, xa_kc, xa_w8, xa_fit, lg_sl, List.flatMap_cons, List.flatMap_nil, List.map_cons, List.map_nil, List.sum_cons, List.sum_nil, Value.category, List.length_cons, List.length_nil, List.length_append, xa_rc, xa_rf, exists_eq_left, exists_eq', Option.some.injEq, Sum.inr.injEq, Prod.mk.injEq, Option.toList_some, Option.toList_none, List.cons_append, List.nil_append, Nat.reduceAdd, Nat.reduceLeDiff, Nat.reduceLT, List.set_cons_zero, List.set_cons_succ, eq_self, or_true, true_or, reduceIte, xt_ne]
    rw [if_neg (fun h => cr h.1)]
    exact ⟨rfl, fr1, hA1⟩
