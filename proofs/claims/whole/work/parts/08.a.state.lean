/-- a word is one of the numbers lo .. hi - 1 -/
def xt_k (x : Int32) (lo hi : Nat) : Prop := ∃ k, lo ≤ k ∧ k < hi ∧ x = nI k
theorem xt_knot {x : Int32} {lo hi : Nat} (h : ¬ xt_k x lo hi) (hh : hi < 2147483648) : x.toInt < (lo : Int) ∨ (hi : Int) ≤ x.toInt := by
  by_cases c : x.toInt < (lo : Int)
  · exact Or.inl c
  · by_cases c2 : (hi : Int) ≤ x.toInt
    · exact Or.inr c2
    · refine absurd ⟨x.toInt.toNat, by omega, by omega, ?_⟩ h
      apply Int32.toInt_inj.mp
      rw [nI_toInt (by omega)]
      omega
theorem xt_no {x : Int32} {lo hi : Nat} (h : ¬ xt_k x lo hi) (hl : lo < 1000000) (hh : hi < 1000000) : x < nI lo ∨ nI hi - nI 1 < x := by
  have := xt_knot h (by omega)
  rw [Int32.lt_iff_toInt_lt, Int32.lt_iff_toInt_lt, nI_toInt (by omega), pk_sub_toInt (by omega) (by omega)]
  omega
theorem pc_isNot_y {M : xa_M} (k lo hi : Nat) (h1 : lo ≤ k) (h2 : k ≤ hi) (h3 : hi < 2147483648) : xa_E 77 0 (xa_ent [.int (nI k), .int (nI lo), .int (nI hi)]) [] M (some (.int (nI 0)), M) := by
  have := pc_isNotN (M := M) k lo hi (by omega) (by omega) h3
  rw [if_neg (by omega)] at this
  exact this
theorem pc_isNot_n {M : xa_M} {x : Int32} (lo hi : Nat) (h : ¬ xt_k x lo (hi + 1)) (h2 : lo < 1000000) (h3 : hi < 999999) : xa_E 77 0 (xa_ent [.int x, .int (nI lo), .int (nI hi)]) [] M (some (.int (nI 1)), M) := by
  have := pc_isNot (M := M) x (nI lo) (nI hi)
  have g := xt_no h h2 (by omega)
  rw [xt_sub _ _ (by omega), Nat.add_sub_cancel] at g
  rw [if_pos g] at this
  exact this
/-- the class's state: what is told, how things stand, the text, the two piles, what was seen -/
abbrev xt_A : Type := xt_T × xt_S × (Nat × (Nat → Nat)) × (Nat × (Nat → xt_S)) × (Nat × (Nat → xt_S)) × (Nat × (Nat → Nat) × (Nat → Nat) × (Nat → Nat))
abbrev yT (A : xt_A) : xt_T := A.1
abbrev yS (A : xt_A) : xt_S := A.2.1
abbrev yX (A : xt_A) : Nat × (Nat → Nat) := A.2.2.1
abbrev yU (A : xt_A) : Nat × (Nat → xt_S) := A.2.2.2.1
abbrev yK (A : xt_A) : Nat × (Nat → xt_S) := A.2.2.2.2.1
abbrev yG (A : xt_A) : Nat × (Nat → Nat) × (Nat → Nat) × (Nat → Nat) := A.2.2.2.2.2
def xh_O (M : xa_M) (b : Nat) : Prop := M.1 b = some (.inr (6, [.ref (b + 1), .ref (b + 4), .ref (b + 13), .ref (b + 22), .ref (b + 28), .ref (b + 34), .ref (b + 84), .ref (b + 98), .ref (b + 102)]))
def xh_A (M : xa_M) (b : Nat) (A : xt_A) : Prop := xh_O M b ∧ xh_X M (b + 1) (yX A).1 (yX A).2 ∧ xh_T M (b + 4) (yT A) ∧ (∃ T0, xh_T M (b + 13) T0) ∧ xh_S M (b + 22) (xnS (yT A)) (xnM (yT A)) (yS A) ∧ (∃ S0, xh_S M (b + 28) 0 0 S0) ∧ xh_P M (b + 34) 8 (xnS (yT A)) (xnM (yT A)) (yU A).1 (yU A).2 ∧ xh_P M (b + 84) 2 (xnS (yT A)) (xnM (yT A)) (yK A).1 (yK A).2 ∧ xh_G M (b + 98) (yG A).1 (yG A).2.1 (yG A).2.2.1 (yG A).2.2.2 ∧ xh_W0 M (b + 102)
/-- and its bounds -/
def xi_A (A : xt_A) : Prop := xi_T (yT A) ∧ xnM (yT A) ≤ 5 ∧ xN (yT A) ≤ 60 ∧ 1 ≤ xnS (yT A) ∧ (xi_S (yT A) (yS A) ∧ xsd (yS A) ≤ 999) ∧ xi_X (yX A).1 (yX A).2 ∧ ((yU A).1 ≤ 8 ∧ ∀ i, i < (yU A).1 → xi_S (yT A) ((yU A).2 i) ∧ xsd ((yU A).2 i) ≤ 999) ∧ ((yK A).1 ≤ 2 ∧ ∀ i, i < (yK A).1 → xi_S (yT A) ((yK A).2 i) ∧ xsd ((yK A).2 i) ≤ 999) ∧ (yG A).1 ≤ 8 ∧ ∀ i, i < (yG A).1 → (yG A).2.1 i < 6 ∧ (yG A).2.2.1 i ≤ 99 ∧ (yG A).2.2.2 i ≤ 3
theorem pc_noSerf_y {M : xa_M} {b : Nat} {T : xt_T} (hO : xh_O M b) (hT : xh_T M (b + 4) T) (k : Nat) (hk : k < xnS T) (hn : xnS T ≤ 6) : xa_E 78 0 (xa_ent [.ref b, .int (nI k)]) [] M (some (.int (nI 0)), M) := by
  have cn := xa_iff (pc_isNot_y (M := M) k 0 (xnS T - 1) (by omega) (by omega) (by omega))
  have t0 := hT.1
  unfold xh_O at hO
  refine xa_go2 (fun lv h0 h1 => ?_)
  simp (disch := omega) only [↓ra_78_0, ↓ra_78_1, ↓ra_78_2, ↓ra_78_3, ↓ra_78_6, ↓ra_78_9, ↓ra_78_10, ↓ra_78_11, ↓ra_78_14, xa_kli, xa_klr, xa_kll, xa_ki, xa_kl, xa_kr, xa_kii, xa_kk, xa_kir, xa_krr, xa_kiir, xa_krir, xa_kdup, xa_kdup2, xa_kcp, xa_gf, xa_pf, xa_ga, xa_pa, xa_gq, xa_pq, xa_gl, xa_args, xa_ri, xa_rz, xa_rv, xa_s1, xa_s2, xa_c1, eq_self, List.getElem?_cons_succ, List.getElem?_cons_zero, true_and, and_true, nI_add, pk_mul, xt_in, xt_cl, xt_i0, xt_i1, xa_kc, xa_w8, xa_fit, lg_sl, List.flatMap_cons, List.flatMap_nil, List.map_cons, List.map_nil, List.sum_cons, List.sum_nil, Value.category, List.length_cons, List.length_nil, List.length_append, xa_rc, xa_rf, exists_eq_left, exists_eq', Option.some.injEq, Sum.inr.injEq, Prod.mk.injEq, Option.toList_some, Option.toList_none, List.cons_append, List.nil_append, Nat.reduceAdd, Nat.reduceLeDiff, Nat.reduceLT, List.set_cons_zero, List.set_cons_succ, eq_self, or_true, true_or, reduceIte, xt_ne, h0, h1, hO, t0, xt_sub, cn, mx_77]
theorem pc_noSerf_n {M : xa_M} {b : Nat} {T : xt_T} (hO : xh_O M b) (hT : xh_T M (b + 4) T) {x : Int32} (h : ¬ xt_k x 0 (xnS T)) (hn : xnS T ≤ 6) : xa_E 78 0 (xa_ent [.ref b, .int x]) [] M (some (.int (nI 1)), M) := by
  have cn := xa_iff (pc_isNot (M := M) x (nI 0) (nI (xnS T) - nI 1))
  rw [if_pos (xt_no h (by omega) (by omega))] at cn
  have t0 := hT.1
  unfold xh_O at hO
  refine xa_go2 (fun lv h0 h1 => ?_)
  simp (disch := omega) only [↓ra_78_0, ↓ra_78_1, ↓ra_78_2, ↓ra_78_3, ↓ra_78_6, ↓ra_78_9, ↓ra_78_10, ↓ra_78_11, ↓ra_78_14, xa_kli, xa_klr, xa_kll, xa_ki, xa_kl, xa_kr, xa_kii, xa_kk, xa_kir, xa_krr, xa_kiir, xa_krir, xa_kdup, xa_kdup2, xa_kcp, xa_gf, xa_pf, xa_ga, xa_pa, xa_gq, xa_pq, xa_gl, xa_args, xa_ri, xa_rz, xa_rv, xa_s1, xa_s2, xa_c1, eq_self, List.getElem?_cons_succ, List.getElem?_cons_zero, true_and, and_true, nI_add, pk_mul, xt_in, xt_cl, xt_i0, xt_i1, xa_kc, xa_w8, xa_fit, lg_sl, List.flatMap_cons, List.flatMap_nil, List.map_cons, List.map_nil, List.sum_cons, List.sum_nil, Value.category, List.length_cons, List.length_nil, List.length_append, xa_rc, xa_rf, exists_eq_left, exists_eq', Option.some.injEq, Sum.inr.injEq, Prod.mk.injEq, Option.toList_some, Option.toList_none, List.cons_append, List.nil_append, Nat.reduceAdd, Nat.reduceLeDiff, Nat.reduceLT, List.set_cons_zero, List.set_cons_succ, eq_self, or_true, true_or, reduceIte, xt_ne, h0, h1, hO, t0, cn, mx_77]
theorem pc_noMan_y {M : xa_M} {b : Nat} {T : xt_T} (hO : xh_O M b) (hT : xh_T M (b + 4) T) (k : Nat) (hk : k < xnM T) (hn : xnM T ≤ 6) : xa_E 79 0 (xa_ent [.ref b, .int (nI k)]) [] M (some (.int (nI 0)), M) := by
  have cn := xa_iff (pc_isNot_y (M := M) k 0 (xnM T - 1) (by omega) (by omega) (by omega))
  have t0 := hT.1
  unfold xh_O at hO
  refine xa_go2 (fun lv h0 h1 => ?_)
  simp (disch := omega) only [↓ra_79_0, ↓ra_79_1, ↓ra_79_2, ↓ra_79_3, ↓ra_79_6, ↓ra_79_9, ↓ra_79_10, ↓ra_79_11, ↓ra_79_14, xa_kli, xa_klr, xa_kll, xa_ki, xa_kl, xa_kr, xa_kii, xa_kk, xa_kir, xa_krr, xa_kiir, xa_krir, xa_kdup, xa_kdup2, xa_kcp, xa_gf, xa_pf, xa_ga, xa_pa, xa_gq, xa_pq, xa_gl, xa_args, xa_ri, xa_rz, xa_rv, xa_s1, xa_s2, xa_c1, eq_self, List.getElem?_cons_succ, List.getElem?_cons_zero, true_and, and_true, nI_add, pk_mul, xt_in, xt_cl, xt_i0, xt_i1, xa_kc, xa_w8, xa_fit, lg_sl, List.flatMap_cons, List.flatMap_nil, List.map_cons, List.map_nil, List.sum_cons, List.sum_nil, Value.category, List.length_cons, List.length_nil, List.length_append, xa_rc, xa_rf, exists_eq_left, exists_eq', Option.some.injEq, Sum.inr.injEq, Prod.mk.injEq, Option.toList_some, Option.toList_none, List.cons_append, List.nil_append, Nat.reduceAdd, Nat.reduceLeDiff, Nat.reduceLT, List.set_cons_zero, List.set_cons_succ, eq_self, or_true, true_or, reduceIte, xt_ne, h0, h1, hO, t0, xt_sub, cn, mx_77]
theorem pc_noMan_n {M : xa_M} {b : Nat} {T : xt_T} (hO : xh_O M b) (hT : xh_T M (b + 4) T) {x : Int32} (h : ¬ xt_k x 0 (xnM T)) (hn : xnM T ≤ 6) : xa_E 79 0 (xa_ent [.ref b, .int x]) [] M (some (.int (nI 1)), M) := by
  have cn := xa_iff (pc_isNot (M := M) x (nI 0) (nI (xnM T) - nI 1))
  rw [if_pos (xt_no h (by omega) (by omega))] at cn
  have t0 := hT.1
  unfold xh_O at hO
  refine xa_go2 (fun lv h0 h1 => ?_)
  simp (disch := omega) only [↓ra_79_0, ↓ra_79_1, ↓ra_79_2, ↓ra_79_3, ↓ra_79_6, ↓ra_79_9, ↓ra_79_10, ↓ra_79_11, ↓ra_79_14, xa_kli, xa_klr, xa_kll, xa_ki, xa_kl, xa_kr, xa_kii, xa_kk, xa_kir, xa_krr, xa_kiir, xa_krir, xa_kdup, xa_kdup2, xa_kcp, xa_gf, xa_pf, xa_ga, xa_pa, xa_gq, xa_pq, xa_gl, xa_args, xa_ri, xa_rz, xa_rv, xa_s1, xa_s2, xa_c1, eq_self, List.getElem?_cons_succ, List.getElem?_cons_zero, true_and, and_true, nI_add, pk_mul, xt_in, xt_cl, xt_i0, xt_i1, xa_kc, xa_w8, xa_fit, lg_sl, List.flatMap_cons, List.flatMap_nil, List.map_cons, List.map_nil, List.sum_cons, List.sum_nil, Value.category, List.length_cons, List.length_nil, List.length_append, xa_rc, xa_rf, exists_eq_left, exists_eq', Option.some.injEq, Sum.inr.injEq, Prod.mk.injEq, Option.toList_some, Option.toList_none, List.cons_append, List.nil_append, Nat.reduceAdd, Nat.reduceLeDiff, Nat.reduceLT, List.set_cons_zero, List.set_cons_succ, eq_self, or_true, true_or, reduceIte, xt_ne, h0, h1, hO, t0, cn, mx_77]
theorem pc_noQ_y {M : xa_M} {b : Nat} {T : xt_T} (hO : xh_O M b) (hT : xh_T M (b + 4) T) (k : Nat) (hk : k < xC T) (hn : xC T ≤ 6) : xa_E 80 0 (xa_ent [.ref b, .int (nI k)]) [] M (some (.int (nI 0)), M) := by
  have cn := xa_iff (pc_isNot_y (M := M) k 0 (xC T - 1) (by omega) (by omega) (by omega))
  have t0 := hT.1
  unfold xh_O at hO
  refine xa_go2 (fun lv h0 h1 => ?_)
  simp (disch := omega) only [↓ra_80_0, ↓ra_80_1, ↓ra_80_2, ↓ra_80_3, ↓ra_80_6, ↓ra_80_9, ↓ra_80_10, ↓ra_80_11, ↓ra_80_14, xa_kli, xa_klr, xa_kll, xa_ki, xa_kl, xa_kr, xa_kii, xa_kk, xa_kir, xa_krr, xa_kiir, xa_krir, xa_kdup, xa_kdup2, xa_kcp, xa_gf, xa_pf, xa_ga, xa_pa, xa_gq, xa_pq, xa_gl, xa_args, xa_ri, xa_rz, xa_rv, xa_s1, xa_s2, xa_c1, eq_self, List.getElem?_cons_succ, List.getElem?_cons_zero, true_and, and_true, nI_add, pk_mul, xt_in, xt_cl, xt_i0, xt_i1, xa_kc, xa_w8, xa_fit, lg_sl, List.flatMap_cons, List.flatMap_nil, List.map_cons, List.map_nil, List.sum_cons, List.sum_nil, Value.category, List.length_cons, List.length_nil, List.length_append, xa_rc, xa_rf, exists_eq_left, exists_eq', Option.some.injEq, Sum.inr.injEq, Prod.mk.injEq, Option.toList_some, Option.toList_none, List.cons_append, List.nil_append, Nat.reduceAdd, Nat.reduceLeDiff, Nat.reduceLT, List.set_cons_zero, List.set_cons_succ, eq_self, or_true, true_or, reduceIte, xt_ne, h0, h1, hO, t0, xt_sub, cn, mx_77]
theorem pc_noQ_n {M : xa_M} {b : Nat} {T : xt_T} (hO : xh_O M b) (hT : xh_T M (b + 4) T) {x : Int32} (h : ¬ xt_k x 0 (xC T)) (hn : xC T ≤ 6) : xa_E 80 0 (xa_ent [.ref b, .int x]) [] M (some (.int (nI 1)), M) := by
  have cn := xa_iff (pc_isNot (M := M) x (nI 0) (nI (xC T) - nI 1))
  rw [if_pos (xt_no h (by omega) (by omega))] at cn
  have t0 := hT.1
  unfold xh_O at hO
  refine xa_go2 (fun lv h0 h1 => ?_)
  simp (disch := omega) only [↓ra_80_0, ↓ra_80_1, ↓ra_80_2, ↓ra_80_3, ↓ra_80_6, ↓ra_80_9, ↓ra_80_10, ↓ra_80_11, ↓ra_80_14, xa_kli, xa_klr, xa_kll, xa_ki, xa_kl, xa_kr, xa_kii, xa_kk, xa_kir, xa_krr, xa_kiir, xa_krir, xa_kdup, xa_kdup2, xa_kcp, xa_gf, xa_pf, xa_ga, xa_pa, xa_gq, xa_pq, xa_gl, xa_args, xa_ri, xa_rz, xa_rv, xa_s1, xa_s2, xa_c1, eq_self, List.getElem?_cons_succ, List.getElem?_cons_zero, true_and, and_true, nI_add, pk_mul, xt_in, xt_cl, xt_i0, xt_i1, xa_kc, xa_w8, xa_fit, lg_sl, List.flatMap_cons, List.flatMap_nil, List.map_cons, List.map_nil, List.sum_cons, List.sum_nil, Value.category, List.length_cons, List.length_nil, List.length_append, xa_rc, xa_rf, exists_eq_left, exists_eq', Option.some.injEq, Sum.inr.injEq, Prod.mk.injEq, Option.toList_some, Option.toList_none, List.cons_append, List.nil_append, Nat.reduceAdd, Nat.reduceLeDiff, Nat.reduceLT, List.set_cons_zero, List.set_cons_succ, eq_self, or_true, true_or, reduceIte, xt_ne, h0, h1, hO, t0, cn, mx_77]
