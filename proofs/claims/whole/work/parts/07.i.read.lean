/-- one number, the mark behind it, the place behind that -/
def xq_num (len : Nat) (txt : Nat → Nat) (p : Nat) : Option (Nat × Nat × Nat) := if xq_fc len txt p ≠ 0 ∧ p + xq_fc len txt p < len then some (xq_val txt p (xq_fc len txt p), txt (p + xq_fc len txt p), p + xq_fc len txt p + 1) else none
/-- numbers till a ; stands: the place behind it, how many, which -/
def xq_rn (len : Nat) (txt : Nat → Nat) : Nat → Nat → Nat → (Nat → Nat) → Option (Nat × Nat × (Nat → Nat))
  | 0, _, _, _ => none
  | r + 1, k, p, v => match xq_num len txt p with
    | none => none
    | some (a, mr, p2) => if mr = 59 then some (p2, k + 1, fun j => if j = k then a else v j) else if mr = 44 then xq_rn len txt r (k + 1) p2 (fun j => if j = k then a else v j) else none
def xh_Xn (M : xa_M) (x len : Nat) (txt : Nat → Nat) (k : Nat) (v : Nat → Nat) (n : Nat) : Prop := ∃ g : Nat → Int32, M.1 x = some (.inr (3, [.ref (x + 1), .int (nI len), .ref (x + 2), .int (nI n)])) ∧ M.1 (x + 1) = some (.inl (1, 200, .inl g)) ∧ (∀ j, j < len → g j = nI (txt j)) ∧ xa_ar M (x + 2) 3 k v
theorem xh_Xn_X {M : xa_M} {x len k n : Nat} {txt v : Nat → Nat} (h : xh_Xn M x len txt k v n) : xh_X M x len txt := by
  obtain ⟨g, h0, h1, h2, g2, h3, -⟩ := h
  exact ⟨_, g, g2, h0, h1, h2, h3⟩
def xt_o (o : Option Nat) : Int32 := match o with
  | none => Int32.ofInt (-4)
  | some n => nI n
theorem xq_val_le {len : Nat} {txt : Nat → Nat} {p : Nat} (h : xq_fc len txt p ≠ 0) : xq_val txt p (xq_fc len txt p) ≤ 99 := by
  have le := xq_fc_le len txt p
  rcases (show xq_fc len txt p = 1 ∨ xq_fc len txt p = 2 by omega) with e | e
  · have := xq_fc1 e
    rw [e]
    unfold xq_val
    rw [if_neg (by decide)]
    omega
  · have := xq_fc2 e
    rw [e]
    unfold xq_val
    rw [if_pos rfl]
    omega
def xq_rr (x len : Nat) (txt : Nat → Nat) (r : Option (Nat × Nat × (Nat → Nat))) (z : xa_Z) : Prop := match r with
  | none => z.1 = some (.int (Int32.ofInt (-4))) ∧ xh_X z.2 x len txt
  | some (p', k, v) => z.1 = some (.int (nI p')) ∧ xh_Xn z.2 x len txt k v k
theorem pc_readNumbers {M : xa_M} {x len : Nat} {txt : Nat → Nat} (hX : xh_X M x len txt) (iX : xi_X len txt) (p : Nat) (hp : p ≤ len) :
    ∃ z, xa_E 24 0 (xa_ent [.ref x, .int (nI p)]) [] M z ∧ xa_fr x (x + 3) M z.2 ∧ xq_rr x len txt (xq_rn len txt 3 0 p (fun _ => 0)) z := by
  refine xa_ge2 (fun lv h0 h1 => ?_)
  have loop : ∀ (r k p : Nat) (lv : xa_L) (M1 : xa_M) (v : Nat → Nat), lv 0 = some (.ref x) → lv 2 = some (.int (nI p)) → k + r = 3 → p ≤ len → xa_fr x (x + 3) M M1 → xh_Xn M1 x len txt k v (k + 1) → ∃ z, xa_E 24 7 lv [] M1 z ∧ xa_fr x (x + 3) M z.2 ∧ xq_rr x len txt (xq_rn len txt r k p v) z := by
    intro r
    induction r with
    | zero =>
      intro k p lv M1 v h0 h2 e hp fr hx
      obtain ⟨g, x0, -⟩ := id hx
      simp (disch := omega) only [↓ra_24_7, ↓ra_24_8, ↓ra_24_11, ↓ra_24_12, xa_kli, xa_klr, xa_kll, xa_ki, xa_kl, xa_kr, xa_kii, xa_kk, xa_kir, xa_krr, xa_kiir, xa_krir, xa_kdup, xa_kdup2, xa_kcp, xa_gf, xa_pf, xa_ga, xa_pa, xa_gq, xa_pq, xa_gl, xa_args, xa_ri, xa_rz, xa_rv, xa_s1, xa_s2, xa_c1, eq_self, List.getElem?_cons_succ, List.getElem?_cons_zero, true_and, and_true, nI_add, pk_mul, xt_in, xt_cl, xt_i0, xt_i1, h0, h2, x0, xt_lt]
      simp only [if_pos (show 3 < k + 1 by omega)]
      simp (disch := omega) only [↓ra_24_102, ↓ra_24_104, xa_kli, xa_klr, xa_kll, xa_ki, xa_kl, xa_kr, xa_kii, xa_kk, xa_kir, xa_krr, xa_kiir, xa_krir, xa_kdup, xa_kdup2, xa_kcp, xa_gf, xa_pf, xa_ga, xa_pa, xa_gq, xa_pq, xa_gl, xa_args, xa_ri, xa_rz, xa_rv, xa_s1, xa_s2, xa_c1, eq_self, List.getElem?_cons_succ, List.getElem?_cons_zero, true_and, and_true, nI_add, pk_mul, xt_in, xt_cl, xt_i0, xt_i1, exists_eq_left]
      exact ⟨fr, rfl, xh_Xn_X hx⟩
    | succ r ih =>
      intro k p lv M1 v h0 h2 e hp fr hx
      have hX1 := xh_Xn_X hx
      have i1 := iX.1
      have cf := xa_iff (pc_figAt hX1 iX p (by omega))
      have cv := fun h => xa_iff (pc_valueOf hX1 iX p h)
      obtain ⟨g, x0, x1, x2, g2, x3, e3⟩ := id hx
      have le := xq_fc_le len txt p
      simp (disch := omega) only [↓ra_24_7, ↓ra_24_8, ↓ra_24_11, ↓ra_24_12, xa_kli, xa_klr, xa_kll, xa_ki, xa_kl, xa_kr, xa_kii, xa_kk, xa_kir, xa_krr, xa_kiir, xa_krir, xa_kdup, xa_kdup2, xa_kcp, xa_gf, xa_pf, xa_ga, xa_pa, xa_gq, xa_pq, xa_gl, xa_args, xa_ri, xa_rz, xa_rv, xa_s1, xa_s2, xa_c1, eq_self, List.getElem?_cons_succ, List.getElem?_cons_zero, true_and, and_true, nI_add, pk_mul, xt_in, xt_cl, xt_i0, xt_i1, h0, h2, x0, xt_lt]
      simp only [if_neg (show ¬ 3 < k + 1 by omega)]
      simp (disch := omega) only [↓ra_24_15, ↓ra_24_16, ↓ra_24_17, ↓ra_24_20, ↓ra_24_21, ↓ra_24_22, ↓ra_24_23, ↓ra_24_24, ↓ra_24_25, ↓ra_24_26, ↓ra_24_29, ↓ra_24_30, ↓ra_24_31, ↓ra_24_34, xa_kli, xa_klr, xa_kll, xa_ki, xa_kl, xa_kr, xa_kii, xa_kk, xa_kir, xa_krr, xa_kiir, xa_krir, xa_kdup, xa_kdup2, xa_kcp, xa_gf, xa_pf, xa_ga, xa_pa, xa_gq, xa_pq, xa_gl, xa_args, xa_ri, xa_rz, xa_rv, xa_s1, xa_s2, xa_c1, eq_self, List.getElem?_cons_succ, List.getElem?_cons_zero, true_and, and_true, nI_add, pk_mul, xt_in, xt_cl, xt_i0, xt_i1, xa_kc, xa_w8, xa_fit, lg_sl, List.flatMap_cons, List.flatMap_nil, List.map_cons, List.map_nil, List.sum_cons, List.sum_nil, Value.category, List.length_cons, List.length_nil, List.length_append, xa_rc, xa_rf, exists_eq_left, exists_eq', Option.some.injEq, Sum.inr.injEq, Prod.mk.injEq, Option.toList_some, Option.toList_none, List.cons_append, List.nil_append, Nat.reduceAdd, Nat.reduceLeDiff, Nat.reduceLT, List.set_cons_zero, List.set_cons_succ, eq_self, or_true, true_or, reduceIte, xt_ne, h0, h2, x0, cf, mx_25, xt_lt, xt_eq]
      unfold xq_rn
      by_cases c : xq_fc len txt p ≠ 0 ∧ p + xq_fc len txt p < len
      · have cv := cv c.1
        have vl := xq_val_le c.1
        have xm := x2 _ c.2
        have im := iX.2 _ c.2
        simp only [if_neg c.1, if_pos c.2]
        rw [show xq_num len txt p = some _ from if_pos c]
        simp (disch := omega) only [↓ra_24_40, ↓ra_24_41, ↓ra_24_44, ↓ra_24_45, ↓ra_24_48, ↓ra_24_49, ↓ra_24_50, ↓ra_24_51, ↓ra_24_52, ↓ra_24_53, ↓ra_24_54, ↓ra_24_55, ↓ra_24_58, ↓ra_24_59, ↓ra_24_60, ↓ra_24_63, ↓ra_24_64, ↓ra_24_65, ↓ra_24_67, ↓ra_24_70, ↓ra_24_72, ↓ra_24_74, xa_kli, xa_klr, xa_kll, xa_ki, xa_kl, xa_kr, xa_kii, xa_kk, xa_kir, xa_krr, xa_kiir, xa_krir, xa_kdup, xa_kdup2, xa_kcp, xa_gf, xa_pf, xa_ga, xa_pa, xa_gq, xa_pq, xa_gl, xa_args, xa_ri, xa_rz, xa_rv, xa_s1, xa_s2, xa_c1, eq_self, List.getElem?_cons_succ, List.getElem?_cons_zero, true_and, and_true, nI_add, pk_mul, xt_in, xt_cl, xt_i0, xt_i1, xa_kc, xa_w8, xa_fit, lg_sl, List.flatMap_cons, List.flatMap_nil, List.map_cons, List.map_nil, List.sum_cons, List.sum_nil, Value.category, List.length_cons, List.length_nil, List.length_append, xa_rc, xa_rf, exists_eq_left, exists_eq', Option.some.injEq, Sum.inr.injEq, Prod.mk.injEq, Option.toList_some, Option.toList_none, List.cons_append, List.nil_append, Nat.reduceAdd, Nat.reduceLeDiff, Nat.reduceLT, List.set_cons_zero, List.set_cons_succ, eq_self, or_true, true_or, reduceIte, xt_ne, h0, h2, x0, x1, x3, xm, cv, mx_27, xt_sub, xt_st, xt_eq, Nat.add_sub_cancel]
        generalize hM2 : xa_st M1 (x + 2) _ = M2
        have fr2 : xa_fr x (x + 3) M M2 := by rw [← hM2]; exact xa_fr_tr fr (xa_fr_st (by omega) (by omega))
        have hx2 : xh_Xn M2 x len txt (k + 1) (fun j => if j = k then xq_val txt p (xq_fc len txt p) else v j) (k + 1) := by
          rw [← hM2]
          exact ⟨g, (xa_st_ne (by omega)).trans x0, (xa_st_ne (by omega)).trans x1, x2, xa_ar_ps e3⟩
        by_cases m1 : txt (p + xq_fc len txt p) = 59
        · simp only [if_pos m1]
          simp (disch := omega) only [↓ra_24_77, ↓ra_24_78, xa_kli, xa_klr, xa_kll, xa_ki, xa_kl, xa_kr, xa_kii, xa_kk, xa_kir, xa_krr, xa_kiir, xa_krir, xa_kdup, xa_kdup2, xa_kcp, xa_gf, xa_pf, xa_ga, xa_pa, xa_gq, xa_pq, xa_gl, xa_args, xa_ri, xa_rz, xa_rv, xa_s1, xa_s2, xa_c1, eq_self, List.getElem?_cons_succ, List.getElem?_cons_zero, true_and, and_true, nI_add, pk_mul, xt_in, xt_cl, xt_i0, xt_i1, xa_kc, xa_w8, xa_fit, lg_sl, List.flatMap_cons, List.flatMap_nil, List.map_cons, List.map_nil, List.sum_cons, List.sum_nil, Value.category, List.length_cons, List.length_nil, List.length_append, xa_rc, xa_rf, exists_eq_left, exists_eq', Option.some.injEq, Sum.inr.injEq, Prod.mk.injEq, Option.toList_some, Option.toList_none, List.cons_append, List.nil_append, Nat.reduceAdd, Nat.reduceLeDiff, Nat.reduceLT, List.set_cons_zero, List.set_cons_succ, eq_self, or_true, true_or, reduceIte, xt_ne]
          exact ⟨fr2, rfl, hx2⟩
        · simp only [if_neg m1]
          simp (disch := omega) only [↓ra_24_79, ↓ra_24_81, ↓ra_24_83, xa_kli, xa_klr, xa_kll, xa_ki, xa_kl, xa_kr, xa_kii, xa_kk, xa_kir, xa_krr, xa_kiir, xa_krir, xa_kdup, xa_kdup2, xa_kcp, xa_gf, xa_pf, xa_ga, xa_pa, xa_gq, xa_pq, xa_gl, xa_args, xa_ri, xa_rz, xa_rv, xa_s1, xa_s2, xa_c1, eq_self, List.getElem?_cons_succ, List.getElem?_cons_zero, true_and, and_true, nI_add, pk_mul, xt_in, xt_cl, xt_i0, xt_i1, xa_kc, xa_w8, xa_fit, lg_sl, List.flatMap_cons, List.flatMap_nil, List.map_cons, List.map_nil, List.sum_cons, List.sum_nil, Value.category, List.length_cons, List.length_nil, List.length_append, xa_rc, xa_rf, exists_eq_left, exists_eq', Option.some.injEq, Sum.inr.injEq, Prod.mk.injEq, Option.toList_some, Option.toList_none, List.cons_append, List.nil_append, Nat.reduceAdd, Nat.reduceLeDiff, Nat.reduceLT, List.set_cons_zero, List.set_cons_succ, eq_self, or_true, true_or, reduceIte, xt_ne, xt_eq]
          by_cases m2 : txt (p + xq_fc len txt p) = 44
          · simp only [if_pos m2]
            obtain ⟨g', y0, y1, y2, y3⟩ := id hx2
            simp (disch := omega) only [↓ra_24_89, ↓ra_24_90, ↓ra_24_91, ↓ra_24_94, ↓ra_24_95, ↓ra_24_96, ↓ra_24_99, xa_kli, xa_klr, xa_kll, xa_ki, xa_kl, xa_kr, xa_kii, xa_kk, xa_kir, xa_krr, xa_kiir, xa_krir, xa_kdup, xa_kdup2, xa_kcp, xa_gf, xa_pf, xa_ga, xa_pa, xa_gq, xa_pq, xa_gl, xa_args, xa_ri, xa_rz, xa_rv, xa_s1, xa_s2, xa_c1, eq_self, List.getElem?_cons_succ, List.getElem?_cons_zero, true_and, and_true, nI_add, pk_mul, xt_in, xt_cl, xt_i0, xt_i1, xa_kc, xa_w8, xa_fit, lg_sl, List.flatMap_cons, List.flatMap_nil, List.map_cons, List.map_nil, List.sum_cons, List.sum_nil, Value.category, List.length_cons, List.length_nil, List.length_append, xa_rc, xa_rf, exists_eq_left, exists_eq', Option.some.injEq, Sum.inr.injEq, Prod.mk.injEq, Option.toList_some, Option.toList_none, List.cons_append, List.nil_append, Nat.reduceAdd, Nat.reduceLeDiff, Nat.reduceLT, List.set_cons_zero, List.set_cons_succ, eq_self, or_true, true_or, reduceIte, xt_ne, h0, y0]
            refine ih (k + 1) _ _ _ _ (by simp [xa_s1, xa_c1, h0]) (by simp [xa_s1, xa_c1, nI_add]) (by omega) (by omega) (xa_fr_tr fr2 (xa_fr_st (by omega) (by omega))) ⟨g', xa_st_eq, (xa_st_ne (by omega)).trans y1, y2, xa_ar_ne y3 (by omega)⟩
          · simp only [if_neg m2]
            simp (disch := omega) only [↓ra_24_86, ↓ra_24_88, xa_kli, xa_klr, xa_kll, xa_ki, xa_kl, xa_kr, xa_kii, xa_kk, xa_kir, xa_krr, xa_kiir, xa_krir, xa_kdup, xa_kdup2, xa_kcp, xa_gf, xa_pf, xa_ga, xa_pa, xa_gq, xa_pq, xa_gl, xa_args, xa_ri, xa_rz, xa_rv, xa_s1, xa_s2, xa_c1, eq_self, List.getElem?_cons_succ, List.getElem?_cons_zero, true_and, and_true, nI_add, pk_mul, xt_in, xt_cl, xt_i0, xt_i1, xa_kc, xa_w8, xa_fit, lg_sl, List.flatMap_cons, List.flatMap_nil, List.map_cons, List.map_nil, List.sum_cons, List.sum_nil, Value.category, List.length_cons, List.length_nil, List.length_append, xa_rc, xa_rf, exists_eq_left, exists_eq', Option.some.injEq, Sum.inr.injEq, Prod.mk.injEq, Option.toList_some, Option.toList_none, List.cons_append, List.nil_append, Nat.reduceAdd, Nat.reduceLeDiff, Nat.reduceLT, List.set_cons_zero, List.set_cons_succ, eq_self, or_true, true_or, reduceIte, xt_ne]
            exact ⟨fr2, rfl, xh_Xn_X hx2⟩
      · rw [show xq_num len txt p = none from if_neg c]
        refine ⟨(some (.int (Int32.ofInt (-4))), M1), ?_, fr, rfl, hX1⟩
        by_cases c1 : xq_fc len txt p = 0
        · simp (disch := omega) only [if_pos c1, ↓ra_24_37, ↓ra_24_39, xa_kli, xa_klr, xa_kll, xa_ki, xa_kl, xa_kr, xa_kii, xa_kk, xa_kir, xa_krr, xa_kiir, xa_krir, xa_kdup, xa_kdup2, xa_kcp, xa_gf, xa_pf, xa_ga, xa_pa, xa_gq, xa_pq, xa_gl, xa_args, xa_ri, xa_rz, xa_rv, xa_s1, xa_s2, xa_c1, eq_self, List.getElem?_cons_succ, List.getElem?_cons_zero, true_and, and_true, nI_add, pk_mul, xt_in, xt_cl, xt_i0, xt_i1]
        · simp (disch := omega) only [if_neg c1, if_neg (show ¬ p + xq_fc len txt p < len by omega), ↓ra_24_37, ↓ra_24_39, xa_kli, xa_klr, xa_kll, xa_ki, xa_kl, xa_kr, xa_kii, xa_kk, xa_kir, xa_krr, xa_kiir, xa_krir, xa_kdup, xa_kdup2, xa_kcp, xa_gf, xa_pf, xa_ga, xa_pa, xa_gq, xa_pq, xa_gl, xa_args, xa_ri, xa_rz, xa_rv, xa_s1, xa_s2, xa_c1, eq_self, List.getElem?_cons_succ, List.getElem?_cons_zero, true_and, and_true, nI_add, pk_mul, xt_in, xt_cl, xt_i0, xt_i1]
  obtain ⟨w, g, g2, x0, x1, x2, x3⟩ := hX
  simp (disch := omega) only [↓ra_24_0, ↓ra_24_1, ↓ra_24_2, ↓ra_24_3, ↓ra_24_4, xa_kli, xa_klr, xa_kll, xa_ki, xa_kl, xa_kr, xa_kii, xa_kk, xa_kir, xa_krr, xa_kiir, xa_krir, xa_kdup, xa_kdup2, xa_kcp, xa_gf, xa_pf, xa_ga, xa_pa, xa_gq, xa_pq, xa_gl, xa_args, xa_ri, xa_rz, xa_rv, xa_s1, xa_s2, xa_c1, eq_self, List.getElem?_cons_succ, List.getElem?_cons_zero, true_and, and_true, nI_add, pk_mul, xt_in, xt_cl, xt_i0, xt_i1, xa_kc, xa_w8, xa_fit, lg_sl, List.flatMap_cons, List.flatMap_nil, List.map_cons, List.map_nil, List.sum_cons, List.sum_nil, Value.category, List.length_cons, List.length_nil, List.length_append, xa_rc, xa_rf, exists_eq_left, exists_eq', Option.some.injEq, Sum.inr.injEq, Prod.mk.injEq, Option.toList_some, Option.toList_none, List.cons_append, List.nil_append, Nat.reduceAdd, Nat.reduceLeDiff, Nat.reduceLT, List.set_cons_zero, List.set_cons_succ, eq_self, or_true, true_or, reduceIte, xt_ne, h0, h1, x0]
  exact loop 3 0 p _ _ _ (by simp [xa_s1, xa_c1, h0]) (by simp [xa_s1, xa_c1]) rfl hp (xa_fr_st (by omega) (by omega)) ⟨g, xa_st_eq, (xa_st_ne (by omega)).trans x1, x2, g2, (xa_st_ne (by omega)).trans x3, fun _ h => by omega⟩
/-- numbers that are read are small, and the text goes on behind them -/
theorem xq_rn_le {len : Nat} {txt : Nat → Nat} : ∀ (r k p : Nat) (v : Nat → Nat) (p2 n : Nat) (v2 : Nat → Nat), xq_rn len txt r k p v = some (p2, n, v2) → (∀ j, j < k → v j ≤ 99) → p < p2 ∧ p2 ≤ len ∧ n ≤ k + r ∧ ∀ j, j < n → v2 j ≤ 99
  | 0, _, _, _, _, _, _, h, _ => by cases h
  | r + 1, k, p, v, p2, n, v2, h, hv => by
    unfold xq_rn at h
    by_cases c : xq_fc len txt p ≠ 0 ∧ p + xq_fc len txt p < len
    · rw [show xq_num len txt p = some _ from if_pos c] at h
      dsimp only at h
      have vl := xq_val_le c.1
      have hv2 : ∀ j, j < k + 1 → (fun j => if j = k then xq_val txt p (xq_fc len txt p) else v j) j ≤ 99 := by
        intro j hj
        dsimp only
        split
        · exact vl
        · exact hv j (by omega)
      split at h
      · cases h
        exact ⟨by omega, by omega, by omega, hv2⟩
      · split at h
        · have := xq_rn_le r (k + 1) _ _ p2 n v2 h hv2
          exact ⟨by omega, this.2.1, by omega, this.2.2.2⟩
        · cases h
    · rw [show xq_num len txt p = none from if_neg c] at h
      cases h
theorem xt_g64 (g q : Nat) (hg : g < 64) (hq : q < 6) : g ||| 2 ^ q < 64 := Nat.or_lt_two_pow (n := 6) hg (Nat.pow_lt_pow_right (by decide) hq)
theorem xi_acc {T T2 : xt_T} {c n : Nat} {v : Nat → Nat} (iT : xi_T T) (h5 : xnM T ≤ 5) (h : xq_acc T c n v = some T2) : xi_T T2 ∧ xnM T2 ≤ 5 := by
  obtain ⟨⟨N, C, G, nS, nM, nW⟩, fk, fl, fh, fm, fp, fs, ff, ft⟩ := T
  unfold xi_T at iT
  dsimp only [xN, xC, xG, xnS, xnM, xnW, xtk, xtl, xth, xtm, xtp, xts, xtf, xtt] at iT h5
  obtain ⟨⟨b1, b2, b3, b4, b5, b6, b7, b8⟩, bs, bm, bw⟩ := iT
  unfold xq_acc at h
  split at h
  · split at h
    · unfold xq_aN at h
      dsimp only [xN, xC, xG, xnS, xnM, xnW, xtk, xtl, xth, xtm, xtp, xts, xtf, xtt] at h
      split at h
      · cases h
        exact ⟨⟨⟨by dsimp only [xN, xC, xG, xnS, xnM, xnW, xtk, xtl, xth, xtm, xtp, xts, xtf, xtt, xq_am]; omega, by dsimp only [xN, xC, xG, xnS, xnM, xnW, xtk, xtl, xth, xtm, xtp, xts, xtf, xtt, xq_am]; omega, b3, b4, b5, b6, b7, b8⟩, bs, bm, bw⟩, h5⟩
      · cases h
    · cases h
  · split at h
    · split at h
      · unfold xq_aC at h
        dsimp only [xN, xC, xG, xnS, xnM, xnW, xtk, xtl, xth, xtm, xtp, xts, xtf, xtt] at h
        split at h
        · cases h
          exact ⟨⟨⟨b1, b2, by dsimp only [xN, xC, xG, xnS, xnM, xnW, xtk, xtl, xth, xtm, xtp, xts, xtf, xtt, xq_am]; omega, by dsimp only [xN, xC, xG, xnS, xnM, xnW, xtk, xtl, xth, xtm, xtp, xts, xtf, xtt, xq_am]; omega, b5, b6, b7, b8⟩, fun s hs => absurd hs (by dsimp only [xN, xC, xG, xnS, xnM, xnW, xtk, xtl, xth, xtm, xtp, xts, xtf, xtt, xq_am]; omega), fun s hs => absurd hs (by dsimp only [xN, xC, xG, xnS, xnM, xnW, xtk, xtl, xth, xtm, xtp, xts, xtf, xtt, xq_am]; omega), fun s hs => absurd hs (by dsimp only [xN, xC, xG, xnS, xnM, xnW, xtk, xtl, xth, xtm, xtp, xts, xtf, xtt, xq_am]; omega)⟩, h5⟩
        · cases h
      · cases h
    · split at h
      · split at h
        · unfold xq_aG at h
          dsimp only [xN, xC, xG, xnS, xnM, xnW, xtk, xtl, xth, xtm, xtp, xts, xtf, xtt] at h
          split at h
          · cases h
            exact ⟨⟨⟨b1, b2, b3, b4, xt_g64 _ _ b5 (by omega), b6, b7, b8⟩, bs, bm, bw⟩, h5⟩
          · cases h
        · cases h
      · split at h
        · split at h
          · unfold xq_aS at h
            dsimp only [xN, xC, xG, xnS, xnM, xnW, xtk, xtl, xth, xtm, xtp, xts, xtf, xtt] at h
            split at h
            · cases h
              refine ⟨⟨⟨b1, b2, b3, b4, b5, by dsimp only [xN, xC, xG, xnS, xnM, xnW, xtk, xtl, xth, xtm, xtp, xts, xtf, xtt, xq_am]; omega, b7, b8⟩, fun s hs => ?_, bm, bw⟩, h5⟩
              dsimp only [xN, xC, xG, xnS, xnM, xnW, xtk, xtl, xth, xtm, xtp, xts, xtf, xtt, xq_am] at hs ⊢
              by_cases e : s = nS
              · rw [if_pos e, if_pos e, if_pos e]; omega
              · rw [if_neg e, if_neg e, if_neg e]; exact bs s (by omega)
            · cases h
          · cases h
        · split at h
          · split at h
            · unfold xq_aM at h
              dsimp only [xN, xC, xG, xnS, xnM, xnW, xtk, xtl, xth, xtm, xtp, xts, xtf, xtt] at h
              split at h
              · cases h
                refine ⟨⟨⟨b1, b2, b3, b4, b5, b6, by dsimp only [xN, xC, xG, xnS, xnM, xnW, xtk, xtl, xth, xtm, xtp, xts, xtf, xtt, xq_am]; omega, b8⟩, bs, fun s hs => ?_, bw⟩, by dsimp only [xN, xC, xG, xnS, xnM, xnW, xtk, xtl, xth, xtm, xtp, xts, xtf, xtt, xq_am]; omega⟩
                dsimp only [xN, xC, xG, xnS, xnM, xnW, xtk, xtl, xth, xtm, xtp, xts, xtf, xtt, xq_am] at hs ⊢
                by_cases e : s = nM
                · rw [if_pos e, if_pos e, if_pos e]; omega
                · rw [if_neg e, if_neg e, if_neg e]; exact bm s (by omega)
              · cases h
            · cases h
          · split at h
            · split at h
              · unfold xq_aW at h
                dsimp only [xN, xC, xG, xnS, xnM, xnW, xtk, xtl, xth, xtm, xtp, xts, xtf, xtt] at h
                split at h
                · cases h
                  refine ⟨⟨⟨b1, b2, b3, b4, b5, b6, b7, by dsimp only [xN, xC, xG, xnS, xnM, xnW, xtk, xtl, xth, xtm, xtp, xts, xtf, xtt, xq_am]; omega⟩, bs, bm, fun s hs => ?_⟩, h5⟩
                  dsimp only [xN, xC, xG, xnS, xnM, xnW, xtk, xtl, xth, xtm, xtp, xts, xtf, xtt, xq_am] at hs ⊢
                  by_cases e : s = nW
                  · rw [if_pos e, if_pos e]; omega
                  · rw [if_neg e, if_neg e]; exact bw s (by omega)
                · cases h
              · cases h
            · cases h
theorem xi_T0 : xi_T xq_T0 := ⟨by decide, fun s hs => absurd hs (Nat.not_lt_zero s), fun s hs => absurd hs (Nat.not_lt_zero s), fun s hs => absurd hs (Nat.not_lt_zero s)⟩
/-- items: the place of the first that is not so, what the ones before tell -/
def xq_ri (len : Nat) (txt : Nat → Nat) : Nat → Nat → xt_T → Option Nat × xt_T
  | 0, _, T => (none, T)
  | f + 1, p, T => if len ≤ p then (none, T) else match xq_rn len txt 3 0 (p + 1) (fun _ => 0) with
    | none => (some p, T)
    | some (p2, k, v) => match xq_acc T (txt p) k v with
      | none => (some p, T)
      | some T2 => xq_ri len txt f p2 T2
