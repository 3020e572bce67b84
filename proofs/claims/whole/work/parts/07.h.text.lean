/-- the Text at x: its letters, whatever numbers it read last -/
def xh_X (M : xa_M) (x len : Nat) (txt : Nat → Nat) : Prop := ∃ (w : Int32) (g g2 : Nat → Int32), M.1 x = some (.inr (3, [.ref (x + 1), .int (nI len), .ref (x + 2), .int w])) ∧ M.1 (x + 1) = some (.inl (1, 200, .inl g)) ∧ (∀ j, j < len → g j = nI (txt j)) ∧ M.1 (x + 2) = some (.inl (0, 3, .inl g2))
def xi_X (len : Nat) (txt : Nat → Nat) : Prop := len ≤ 200 ∧ ∀ j, j < len → 32 ≤ txt j ∧ txt j ≤ 126
theorem xh_X_fr {M M1 : xa_M} {x len lo hi : Nat} {txt : Nat → Nat} (h : xh_X M x len txt) (hf : xa_fr lo hi M M1) (ha : x + 3 ≤ lo ∨ hi ≤ x) : xh_X M1 x len txt := by
  obtain ⟨w, g, g2, h0, h1, h2, h3⟩ := h
  exact ⟨w, g, g2, (hf.1 x (by omega)).trans h0, (hf.1 (x + 1) (by omega)).trans h1, h2, (hf.1 (x + 2) (by omega)).trans h3⟩
theorem xt_nc : ∀ c : Nat, c < 127 → vp_nar .char (nI c) = nI c := by decide +kernel
theorem pc_xadd {M : xa_M} {x len : Nat} {txt : Nat → Nat} (hX : xh_X M x len txt) (hl : len < 200) (c : Nat) (hc : c < 127) :
    ∃ z, xa_E 22 0 (xa_ent [.ref x, .int (nI c)]) [] M z ∧ z.1 = some (.int (nI 1)) ∧ xa_fr x (x + 3) M z.2 ∧ xh_X z.2 x (len + 1) (fun j => if j = len then c else txt j) := by
  obtain ⟨w, g, g2, x0, x1, x2, x3⟩ := hX
  refine xa_ge2 (fun lv h0 h1 => ?_)
  simp (disch := omega) only [↓ra_22_0, ↓ra_22_1, ↓ra_22_4, ↓ra_22_7, xa_kli, xa_klr, xa_kll, xa_ki, xa_kl, xa_kr, xa_kii, xa_kk, xa_kir, xa_krr, xa_kiir, xa_krir, xa_kdup, xa_kdup2, xa_kcp, xa_gf, xa_pf, xa_ga, xa_pa, xa_gq, xa_pq, xa_gl, xa_args, xa_ri, xa_rz, xa_rv, xa_s1, xa_s2, xa_c1, eq_self, List.getElem?_cons_succ, List.getElem?_cons_zero, true_and, and_true, nI_add, pk_mul, xt_in, xt_cl, xt_i0, xt_i1, h0, h1, x0, xt_lt]
  simp only [if_pos hl]
  simp (disch := omega) only [↓ra_22_12, ↓ra_22_13, ↓ra_22_16, ↓ra_22_17, ↓ra_22_20, ↓ra_22_21, ↓ra_22_22, ↓ra_22_23, ↓ra_22_24, ↓ra_22_27, ↓ra_22_28, ↓ra_22_29, ↓ra_22_32, ↓ra_22_33, xa_kli, xa_klr, xa_kll, xa_ki, xa_kl, xa_kr, xa_kii, xa_kk, xa_kir, xa_krr, xa_kiir, xa_krir, xa_kdup, xa_kdup2, xa_kcp, xa_gf, xa_pf, xa_ga, xa_pa, xa_gq, xa_pq, xa_gl, xa_args, xa_ri, xa_rz, xa_rv, xa_s1, xa_s2, xa_c1, eq_self, List.getElem?_cons_succ, List.getElem?_cons_zero, true_and, and_true, nI_add, pk_mul, xt_in, xt_cl, xt_i0, xt_i1, xa_kc, xa_w8, xa_fit, lg_sl, List.flatMap_cons, List.flatMap_nil, List.map_cons, List.map_nil, List.sum_cons, List.sum_nil, Value.category, List.length_cons, List.length_nil, List.length_append, xa_rc, xa_rf, exists_eq_left, exists_eq', Option.some.injEq, Sum.inr.injEq, Prod.mk.injEq, Option.toList_some, Option.toList_none, List.cons_append, List.nil_append, Nat.reduceAdd, Nat.reduceLeDiff, Nat.reduceLT, List.set_cons_zero, List.set_cons_succ, eq_self, or_true, true_or, reduceIte, xt_ne, h0, h1, x0, x1, xt_st, xt_nc]
  refine ⟨xa_fr_tr (xa_fr_st (by omega) (by omega)) (xa_fr_st (by omega) (by omega)), w, _, g2, xa_st_eq, (xa_st_ne (by omega)).trans xa_st_eq, fun j hj => ?_, (xa_st_ne (by omega)).trans ((xa_st_ne (by omega)).trans x3)⟩
  rw [xt_us]
  show (if j = len then _ else _) = nI (if j = len then c else txt j)
  by_cases e : j = len
  · rw [if_pos e, if_pos e]
  · rw [if_neg e, if_neg e, x2 j (by omega)]
theorem pc_xfull {M : xa_M} {x : Nat} {txt : Nat → Nat} (hX : xh_X M x 200 txt) (c : Int32) : xa_E 22 0 (xa_ent [.ref x, .int c]) [] M (some (.int (nI 0)), M) := by
  obtain ⟨w, g, g2, x0, -⟩ := hX
  refine xa_go2 (fun lv h0 h1 => ?_)
  simp (disch := omega) only [↓ra_22_0, ↓ra_22_1, ↓ra_22_4, ↓ra_22_7, ↓ra_22_10, ↓ra_22_11, xa_kli, xa_klr, xa_kll, xa_ki, xa_kl, xa_kr, xa_kii, xa_kk, xa_kir, xa_krr, xa_kiir, xa_krir, xa_kdup, xa_kdup2, xa_kcp, xa_gf, xa_pf, xa_ga, xa_pa, xa_gq, xa_pq, xa_gl, xa_args, xa_ri, xa_rz, xa_rv, xa_s1, xa_s2, xa_c1, eq_self, List.getElem?_cons_succ, List.getElem?_cons_zero, true_and, and_true, nI_add, pk_mul, xt_in, xt_cl, xt_i0, xt_i1, h0, h1, x0, xt_lt, Nat.lt_irrefl, if_false, true_or]
def xq_fig (len : Nat) (txt : Nat → Nat) (p : Nat) : Bool := decide (p < len) && (decide (48 ≤ txt p) && decide (txt p ≤ 57))
theorem xq_figb {len : Nat} {txt : Nat → Nat} {p : Nat} : xq_fig len txt p = true ↔ p < len ∧ 48 ≤ txt p ∧ txt p ≤ 57 := by unfold xq_fig; simp
theorem xq_fign {len : Nat} {txt : Nat → Nat} {p : Nat} (h : ¬ (p < len ∧ 48 ≤ txt p ∧ txt p ≤ 57)) : xq_fig len txt p = false := by
  cases e : xq_fig len txt p
  · rfl
  · exact absurd (xq_figb.mp e) h
theorem pc_isFig {M : xa_M} {x len : Nat} {txt : Nat → Nat} (hX : xh_X M x len txt) (iX : xi_X len txt) (p : Nat) (hp : p < 1000) : xa_E 26 0 (xa_ent [.ref x, .int (nI p)]) [] M (some (.int (nI (if xq_fig len txt p = true then 1 else 0))), M) := by
  obtain ⟨w, g, g2, x0, x1, x2, x3⟩ := hX
  obtain ⟨i1, i2⟩ := iX
  refine xa_go2 (fun lv h0 h1 => ?_)
  simp (disch := omega) only [↓ra_26_0, ↓ra_26_1, ↓ra_26_2, ↓ra_26_5, xa_kli, xa_klr, xa_kll, xa_ki, xa_kl, xa_kr, xa_kii, xa_kk, xa_kir, xa_krr, xa_kiir, xa_krir, xa_kdup, xa_kdup2, xa_kcp, xa_gf, xa_pf, xa_ga, xa_pa, xa_gq, xa_pq, xa_gl, xa_args, xa_ri, xa_rz, xa_rv, xa_s1, xa_s2, xa_c1, eq_self, List.getElem?_cons_succ, List.getElem?_cons_zero, true_and, and_true, nI_add, pk_mul, xt_in, xt_cl, xt_i0, xt_i1, h0, h1, x0, xt_le]
  by_cases c1 : p < len
  · have i2 := i2 p c1
    have x2 := x2 p c1
    simp (disch := omega) only [if_neg (show ¬ len ≤ p by omega), ↓ra_26_8, ↓ra_26_9, ↓ra_26_12, ↓ra_26_13, ↓ra_26_14, ↓ra_26_16, ↓ra_26_19, ↓ra_26_20, ↓ra_26_23, ↓ra_26_24, ↓ra_26_25, ↓ra_26_27, ↓ra_26_30, ↓ra_26_31, ↓ra_26_34, ↓ra_26_35, xa_kli, xa_klr, xa_kll, xa_ki, xa_kl, xa_kr, xa_kii, xa_kk, xa_kir, xa_krr, xa_kiir, xa_krir, xa_kdup, xa_kdup2, xa_kcp, xa_gf, xa_pf, xa_ga, xa_pa, xa_gq, xa_pq, xa_gl, xa_args, xa_ri, xa_rz, xa_rv, xa_s1, xa_s2, xa_c1, eq_self, List.getElem?_cons_succ, List.getElem?_cons_zero, true_and, and_true, nI_add, pk_mul, xt_in, xt_cl, xt_i0, xt_i1, h0, h1, x0, x1, x2, xt_lt]
    by_cases c2 : txt p < 48
    · simp [c2, xq_fign (len := len) (show ¬ (p < len ∧ 48 ≤ txt p ∧ txt p ≤ 57) by omega)]
    · by_cases c3 : 57 < txt p
      · simp [c2, c3, xq_fign (len := len) (show ¬ (p < len ∧ 48 ≤ txt p ∧ txt p ≤ 57) by omega)]
      · simp [c2, c3, xq_figb.mpr (show (p < len ∧ 48 ≤ txt p ∧ txt p ≤ 57) by omega)]
  · simp (disch := omega) only [if_pos (show len ≤ p by omega), ↓ra_26_34, ↓ra_26_35, xa_kli, xa_klr, xa_kll, xa_ki, xa_kl, xa_kr, xa_kii, xa_kk, xa_kir, xa_krr, xa_kiir, xa_krir, xa_kdup, xa_kdup2, xa_kcp, xa_gf, xa_pf, xa_ga, xa_pa, xa_gq, xa_pq, xa_gl, xa_args, xa_ri, xa_rz, xa_rv, xa_s1, xa_s2, xa_c1, eq_self, List.getElem?_cons_succ, List.getElem?_cons_zero, true_and, and_true, nI_add, pk_mul, xt_in, xt_cl, xt_i0, xt_i1]
    simp [xq_fig, c1]
def xq_fc (len : Nat) (txt : Nat → Nat) (p : Nat) : Nat := if xq_fig len txt p = true then (if xq_fig len txt (p + 1) = true then 2 else 1) else 0
theorem pc_figAt {M : xa_M} {x len : Nat} {txt : Nat → Nat} (hX : xh_X M x len txt) (iX : xi_X len txt) (p : Nat) (hp : p < 900) : xa_E 25 0 (xa_ent [.ref x, .int (nI p)]) [] M (some (.int (nI (xq_fc len txt p))), M) := by
  have cf := fun p hp => xa_iff (pc_isFig hX iX p hp)
  obtain ⟨w, g, g2, x0, -⟩ := hX
  refine xa_go2 (fun lv h0 h1 => ?_)
  simp (disch := omega) only [↓ra_25_0, ↓ra_25_1, ↓ra_25_2, ↓ra_25_5, ↓ra_25_8, ↓ra_25_9, ↓ra_25_10, ↓ra_25_11, ↓ra_25_12, ↓ra_25_13, ↓ra_25_14, ↓ra_25_17, ↓ra_25_20, ↓ra_25_21, ↓ra_25_24, ↓ra_25_25, xa_kli, xa_klr, xa_kll, xa_ki, xa_kl, xa_kr, xa_kii, xa_kk, xa_kir, xa_krr, xa_kiir, xa_krir, xa_kdup, xa_kdup2, xa_kcp, xa_gf, xa_pf, xa_ga, xa_pa, xa_gq, xa_pq, xa_gl, xa_args, xa_ri, xa_rz, xa_rv, xa_s1, xa_s2, xa_c1, eq_self, List.getElem?_cons_succ, List.getElem?_cons_zero, true_and, and_true, nI_add, pk_mul, xt_in, xt_cl, xt_i0, xt_i1, xa_kc, xa_w8, xa_fit, lg_sl, List.flatMap_cons, List.flatMap_nil, List.map_cons, List.map_nil, List.sum_cons, List.sum_nil, Value.category, List.length_cons, List.length_nil, List.length_append, xa_rc, xa_rf, exists_eq_left, exists_eq', Option.some.injEq, Sum.inr.injEq, Prod.mk.injEq, Option.toList_some, Option.toList_none, List.cons_append, List.nil_append, Nat.reduceAdd, Nat.reduceLeDiff, Nat.reduceLT, List.set_cons_zero, List.set_cons_succ, eq_self, or_true, true_or, reduceIte, xt_ne, h0, h1, x0, cf, mx_26, xt_b0]
  unfold xq_fc
  by_cases c1 : xq_fig len txt p = true <;> by_cases c2 : xq_fig len txt (p + 1) = true <;> simp [c1, c2]
def xq_val (txt : Nat → Nat) (p n : Nat) : Nat := if n = 2 then 10 * (txt p - 48) + (txt (p + 1) - 48) else txt p - 48
theorem xq_fc_le (len : Nat) (txt : Nat → Nat) (p : Nat) : xq_fc len txt p ≤ 2 := by unfold xq_fc; split <;> (try split) <;> omega
theorem xq_fc1 {len : Nat} {txt : Nat → Nat} {p : Nat} (h : xq_fc len txt p = 1) : p < len ∧ 48 ≤ txt p ∧ txt p ≤ 57 := by
  unfold xq_fc at h
  split at h
  · rename_i h1; exact xq_figb.mp h1
  · cases h
theorem xq_fc2 {len : Nat} {txt : Nat → Nat} {p : Nat} (h : xq_fc len txt p = 2) : (p < len ∧ 48 ≤ txt p ∧ txt p ≤ 57) ∧ p + 1 < len ∧ 48 ≤ txt (p + 1) ∧ txt (p + 1) ≤ 57 := by
  unfold xq_fc at h
  split at h
  · rename_i h1
    split at h
    · rename_i h2; exact ⟨xq_figb.mp h1, xq_figb.mp h2⟩
    · cases h
  · cases h
theorem pc_valueOf {M : xa_M} {x len : Nat} {txt : Nat → Nat} (hX : xh_X M x len txt) (iX : xi_X len txt) (p : Nat) (h : xq_fc len txt p ≠ 0) : xa_E 27 0 (xa_ent [.ref x, .int (nI p), .int (nI (p + xq_fc len txt p))]) [] M (some (.int (nI (xq_val txt p (xq_fc len txt p)))), M) := by
  obtain ⟨w, g, g2, x0, x1, x2, x3⟩ := hX
  obtain ⟨i1, i2⟩ := iX
  refine xa_go3 (fun lv h0 h1 h2 => ?_)
  have le := xq_fc_le len txt p
  have step : ∀ (lv : xa_L) (v i t : Nat) (Q : xa_Z), lv 0 = some (.ref x) → lv 2 = some (.int (nI t)) → lv 3 = some (.int (nI v)) → lv 4 = some (.int (nI i)) → i < t → t < 1000 → i < len → 48 ≤ txt i → (∀ lv' : xa_L, lv' 0 = some (.ref x) → lv' 2 = some (.int (nI t)) → lv' 3 = some (.int (nI (10 * v + (txt i - 48)))) → lv' 4 = some (.int (nI (i + 1))) → xa_E 27 5 lv' [] M Q) → xa_E 27 5 lv [] M Q := by
    intro lv v i t Q h0 h2 h3 h4 hi ht hl hf k
    have i2 := i2 i hl
    have x2 := x2 i hl
    simp (disch := omega) only [↓ra_27_5, ↓ra_27_7, ↓ra_27_8, xa_kli, xa_klr, xa_kll, xa_ki, xa_kl, xa_kr, xa_kii, xa_kk, xa_kir, xa_krr, xa_kiir, xa_krir, xa_kdup, xa_kdup2, xa_kcp, xa_gf, xa_pf, xa_ga, xa_pa, xa_gq, xa_pq, xa_gl, xa_args, xa_ri, xa_rz, xa_rv, xa_s1, xa_s2, xa_c1, eq_self, List.getElem?_cons_succ, List.getElem?_cons_zero, true_and, and_true, nI_add, pk_mul, xt_in, xt_cl, xt_i0, xt_i1, h0, h2, h3, h4, xt_le]
    rw [if_neg (by omega)]
    simp (disch := omega) only [↓ra_27_11, ↓ra_27_13, ↓ra_27_14, ↓ra_27_15, ↓ra_27_16, ↓ra_27_19, ↓ra_27_21, ↓ra_27_22, ↓ra_27_24, ↓ra_27_25, ↓ra_27_26, ↓ra_27_27, ↓ra_27_30, xa_kli, xa_klr, xa_kll, xa_ki, xa_kl, xa_kr, xa_kii, xa_kk, xa_kir, xa_krr, xa_kiir, xa_krir, xa_kdup, xa_kdup2, xa_kcp, xa_gf, xa_pf, xa_ga, xa_pa, xa_gq, xa_pq, xa_gl, xa_args, xa_ri, xa_rz, xa_rv, xa_s1, xa_s2, xa_c1, eq_self, List.getElem?_cons_succ, List.getElem?_cons_zero, true_and, and_true, nI_add, pk_mul, xt_in, xt_cl, xt_i0, xt_i1, h0, h2, h3, h4, x0, x1, x2, xt_sub]
    exact k _ (by simp [xa_s1, xa_c1, h0]) (by simp [xa_s1, xa_c1, h2]) (by simp [xa_s1, xa_c1]) (by simp [xa_s1, xa_c1, nI_add])
  have fin : ∀ (lv : xa_L) (v t : Nat), lv 2 = some (.int (nI t)) → lv 3 = some (.int (nI v)) → lv 4 = some (.int (nI t)) → t < 1000 → xa_E 27 5 lv [] M (some (.int (nI v)), M) := by
    intro lv v t h2 h3 h4 ht
    simp (disch := omega) only [↓ra_27_5, ↓ra_27_7, ↓ra_27_8, ↓ra_27_33, ↓ra_27_34, xa_kli, xa_klr, xa_kll, xa_ki, xa_kl, xa_kr, xa_kii, xa_kk, xa_kir, xa_krr, xa_kiir, xa_krir, xa_kdup, xa_kdup2, xa_kcp, xa_gf, xa_pf, xa_ga, xa_pa, xa_gq, xa_pq, xa_gl, xa_args, xa_ri, xa_rz, xa_rv, xa_s1, xa_s2, xa_c1, eq_self, List.getElem?_cons_succ, List.getElem?_cons_zero, true_and, and_true, nI_add, pk_mul, xt_in, xt_cl, xt_i0, xt_i1, h2, h3, h4, xt_le, Nat.le_refl, if_true]
  simp (disch := omega) only [↓ra_27_0, ↓ra_27_1, ↓ra_27_2, ↓ra_27_3, xa_kli, xa_klr, xa_kll, xa_ki, xa_kl, xa_kr, xa_kii, xa_kk, xa_kir, xa_krr, xa_kiir, xa_krir, xa_kdup, xa_kdup2, xa_kcp, xa_gf, xa_pf, xa_ga, xa_pa, xa_gq, xa_pq, xa_gl, xa_args, xa_ri, xa_rz, xa_rv, xa_s1, xa_s2, xa_c1, eq_self, List.getElem?_cons_succ, List.getElem?_cons_zero, true_and, and_true, nI_add, pk_mul, xt_in, xt_cl, xt_i0, xt_i1, h0, h1, h2]
  rcases (show xq_fc len txt p = 1 ∨ xq_fc len txt p = 2 by omega) with e | e
  · have f := xq_fc1 e
    rw [e] at h2 ⊢
    refine step _ 0 p (p + 1) _ (by simp [xa_s1, xa_c1, h0]) (by simp [xa_s1, xa_c1, h2]) (by simp [xa_s1, xa_c1]) (by simp [xa_s1, xa_c1]) (by omega) (by omega) f.1 f.2.1 (fun lv' k0 k2 k3 k4 => ?_)
    have := fin lv' _ _ k2 k3 k4 (by omega)
    simp only [xq_val, Nat.mul_zero, Nat.zero_add] at this ⊢
    exact this
  · have f := xq_fc2 e
    rw [e] at h2 ⊢
    refine step _ 0 p (p + 2) _ (by simp [xa_s1, xa_c1, h0]) (by simp [xa_s1, xa_c1, h2]) (by simp [xa_s1, xa_c1]) (by simp [xa_s1, xa_c1]) (by omega) (by omega) f.1.1 f.1.2.1 (fun lv' k0 k2 k3 k4 => ?_)
    refine step _ _ (p + 1) (p + 2) _ k0 k2 k3 k4 (by omega) (by omega) f.2.1 f.2.2.1 (fun lv' k0 k2 k3 k4 => ?_)
    have := fin lv' _ _ k2 k3 k4 (by omega)
    simp only [xq_val, Nat.mul_zero, Nat.zero_add, if_true] at this ⊢
    exact this
