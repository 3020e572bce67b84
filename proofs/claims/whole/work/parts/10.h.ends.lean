/-- a question is under way: aside holds how things stand; so does now, but while days go by -/
def xz (g g2 : Nat → Nat → Int32) : Prop := g2 1 = g 1 ∧ (∀ k, k < 31 → g2 2 k = g 2 k) ∧ g2 3 = g 3 ∧ g2 5 = g 5 ∧ (∀ k, k < 31 → g2 6 k = g 2 k) ∧ g2 8 = g 8 ∧ g2 9 = g 9
theorem xz_0 {g : Nat → Nat → Int32} {h : Nat → Int32} (e : ∀ k, k < 31 → h k = g 2 k) : xz g (xb_u g 6 h) := ⟨rfl, fun _ _ => rfl, rfl, rfl, e, rfl, rfl⟩
theorem xz_b {g g2 : Nat → Nat → Int32} {h h2 : Nat → Int32} (z : xz g g2) (e : ∀ k, k < 31 → h2 k = (xb_u g2 2 h) 6 k) : xz g (xb_u (xb_u g2 2 h) 2 h2) := by
  obtain ⟨z1, z2, z3, z5, z6, z8, z9⟩ := z
  exact ⟨z1, fun k hk => (e k hk).trans (z6 k hk), z3, z5, z6, z8, z9⟩
theorem xz_w {r r2 : Nat → Int32} {g g2 : Nat → Nat → Int32} {A : xt_A} (hw : xw r g A) (iA : xi_A A) (z : xz g g2) (e2 : r2 2 = r 2) (e3 : r2 3 = r 3) (e5 : r2 5 = r 5) (e6 : r2 6 = r 6) (e8 : r2 8 = r 8) (e14 : r2 14 = r 14) (e18 : r2 18 = r 18) (e20 : r2 20 = r 20) : xw r2 g2 A := by
  obtain ⟨z1, z2, z3, z5, z6, z8, z9⟩ := z
  exact xw_ch hw iA e2 e3 e5 e6 e8 e14 e18 e20 z1 z2 z3 z5 z8 z9
/-- how many days until it is over for him, at most r -/
def xq_en (T : xt_T) (s : Nat) : Nat → Nat → xt_S → Nat × xt_S
  | 0, d, S => (d, S)
  | r + 1, d, S => if 2 ≤ xsh S s then (d, S) else xq_en T s r (d + 1) (xq_day T S)
theorem xq_en_le {T : xt_T} {s : Nat} : ∀ (r d : Nat) (S : xt_S), (xq_en T s r d S).1 ≤ d + r
  | 0, _, _ => Nat.le_refl _
  | r + 1, d, S => by
    unfold xq_en
    split
    · dsimp only; omega
    · have := xq_en_le (T := T) (s := s) r (d + 1) (xq_day T S)
      omega
theorem xq_en_end {T : xt_T} {s : Nat} : ∀ (r d : Nat) (S : xt_S), (xq_end T s r d S).1 = (if (xq_en T s (r + 1) d S).1 ≤ d + r then some (xq_en T s (r + 1) d S).1 else none) ∧ ((xq_en T s (r + 1) d S).1 ≤ d + r → (xq_end T s r d S).2 = (xq_en T s (r + 1) d S).2)
  | 0, d, S => by
    unfold xq_end xq_en
    by_cases c : 2 ≤ xsh S s
    · simp [c]
    · simp [c, xq_en]
      intro h; omega
  | r + 1, d, S => by
    unfold xq_end xq_en
    by_cases c : 2 ≤ xsh S s
    · rw [if_pos c, if_pos c]
      exact ⟨by rw [if_pos (by dsimp only; omega)], fun _ => rfl⟩
    · rw [if_neg c, if_neg c]
      have := xq_en_end (T := T) (s := s) r (d + 1) (xq_day T S)
      rw [show d + 1 + r = d + (r + 1) by omega] at this
      exact this
theorem xi_en {T : xt_T} {s : Nat} (iT : xi_T T) : ∀ (r d : Nat) (S : xt_S), xi_S T S → xsd S + r ≤ 100000 → xi_S T (xq_en T s r d S).2
  | 0, _, _, h, _ => h
  | r + 1, d, S, h, hd => by
    unfold xq_en
    split
    · exact h
    · exact xi_en iT r (d + 1) (xq_day T S) (xi_day iT h (by omega)) (by show xsd S + 1 + r ≤ _; omega)
theorem pd_ends_l {M : xa_M} {c n s : Nat} {r : Nat → Int32} {T : xt_T} (iT : xi_T T) (hs : s < xnS T) : ∀ (k i : Nat) (lv : xa_L) (M1 : xa_M) (g : Nat → Nat → Int32) (S : xt_S), lv 0 = some (.ref c) → lv 1 = some (.int (nI s)) → lv 2 = some (.int (nI i)) → i + k = 100 → xa_fr c (c + 10) M M1 → xv_A M1 c r g T n S → xi_S T S → xsd S + k ≤ 100000 → ∀ Q : xa_Z → Prop, (∀ (lv : xa_L) (M2 : xa_M) (h : Nat → Int32), lv 0 = some (.ref c) → lv 1 = some (.int (nI s)) → lv 2 = some (.int (nI (xq_en T s k i S).1)) → xa_fr c (c + 10) M M2 → xv_A M2 c r (xb_u g 2 h) T n (xq_en T s k i S).2 → ∃ z, xa_E 135 41 lv [] M2 z ∧ Q z) → ∃ z, xa_E 135 16 lv [] M1 z ∧ Q z := by
  have b6 := iT.1.2.2.2.2.2.1
  intro k
  induction k with
  | zero =>
    intro i lv M1 g S h0 h1 h2 e fr hA iS hd Q K
    have e : i = 100 := by omega
    subst e
    simp (disch := omega) only [↓ra_135_16, ↓ra_135_17, ↓ra_135_19, xa_kli, xa_klr, xa_kll, xa_ki, xa_kl, xa_kr, xa_kii, xa_kk, xa_kir, xa_krr, xa_kiir, xa_krir, xa_kdup, xa_kdup2, xa_kcp, xa_gf, xa_pf, xa_ga, xa_pa, xa_gq, xa_pq, xa_gl, xa_args, xa_ri, xa_rz, xa_rv, xa_s1, xa_s2, xa_c1, eq_self, List.getElem?_cons_succ, List.getElem?_cons_zero, true_and, and_true, nI_add, pk_mul, xt_in, xt_cl, xt_i0, xt_i1, xa_kc, xa_w8, xa_fit, lg_sl, List.flatMap_cons, List.flatMap_nil, List.map_cons, List.map_nil, List.sum_cons, List.sum_nil, Value.category, List.length_cons, List.length_nil, List.length_append, xa_rc, xa_rf, exists_eq_left, exists_eq', Option.some.injEq, Sum.inr.injEq, Prod.mk.injEq, Option.toList_some, Option.toList_none, List.cons_append, List.nil_append, Nat.reduceAdd, Nat.reduceLeDiff, Nat.reduceLT, List.set_cons_zero, List.set_cons_succ, eq_self, or_true, true_or, reduceIte, xt_ne, h0, h1, h2, xt_le, Nat.le_refl]
    exact K lv M1 (g 2) h0 h1 h2 fr (by rw [xb_ui]; exact hA)
  | succ k ih =>
    intro i lv M1 g S h0 h1 h2 e fr hA iS hd Q K
    have dd := iS.2.1 s hs
    have ch := xa_iff (pd_how hA b6 s hs)
    obtain ⟨m0, -⟩ := id hA.1
    unfold xb_c at m0
    simp (disch := omega) only [↓ra_135_16, ↓ra_135_17, ↓ra_135_19, xa_kli, xa_klr, xa_kll, xa_ki, xa_kl, xa_kr, xa_kii, xa_kk, xa_kir, xa_krr, xa_kiir, xa_krir, xa_kdup, xa_kdup2, xa_kcp, xa_gf, xa_pf, xa_ga, xa_pa, xa_gq, xa_pq, xa_gl, xa_args, xa_ri, xa_rz, xa_rv, xa_s1, xa_s2, xa_c1, eq_self, List.getElem?_cons_succ, List.getElem?_cons_zero, true_and, and_true, nI_add, pk_mul, xt_in, xt_cl, xt_i0, xt_i1, xa_kc, xa_w8, xa_fit, lg_sl, List.flatMap_cons, List.flatMap_nil, List.map_cons, List.map_nil, List.sum_cons, List.sum_nil, Value.category, List.length_cons, List.length_nil, List.length_append, xa_rc, xa_rf, exists_eq_left, exists_eq', Option.some.injEq, Sum.inr.injEq, Prod.mk.injEq, Option.toList_some, Option.toList_none, List.cons_append, List.nil_append, Nat.reduceAdd, Nat.reduceLeDiff, Nat.reduceLT, List.set_cons_zero, List.set_cons_succ, eq_self, or_true, true_or, reduceIte, xt_ne, h0, h1, h2, xt_le]
    simp only [if_neg (show ¬ 100 ≤ i by omega)]
    simp (disch := omega) only [↓ra_135_22, ↓ra_135_23, ↓ra_135_24, ↓ra_135_27, ↓ra_135_28, xa_kli, xa_klr, xa_kll, xa_ki, xa_kl, xa_kr, xa_kii, xa_kk, xa_kir, xa_krr, xa_kiir, xa_krir, xa_kdup, xa_kdup2, xa_kcp, xa_gf, xa_pf, xa_ga, xa_pa, xa_gq, xa_pq, xa_gl, xa_args, xa_ri, xa_rz, xa_rv, xa_s1, xa_s2, xa_c1, eq_self, List.getElem?_cons_succ, List.getElem?_cons_zero, true_and, and_true, nI_add, pk_mul, xt_in, xt_cl, xt_i0, xt_i1, xa_kc, xa_w8, xa_fit, lg_sl, List.flatMap_cons, List.flatMap_nil, List.map_cons, List.map_nil, List.sum_cons, List.sum_nil, Value.category, List.length_cons, List.length_nil, List.length_append, xa_rc, xa_rf, exists_eq_left, exists_eq', Option.some.injEq, Sum.inr.injEq, Prod.mk.injEq, Option.toList_some, Option.toList_none, List.cons_append, List.nil_append, Nat.reduceAdd, Nat.reduceLeDiff, Nat.reduceLT, List.set_cons_zero, List.set_cons_succ, eq_self, or_true, true_or, reduceIte, xt_ne, h0, h1, h2, m0, ch, mx_99, xt_le]
    unfold xq_en at K
    by_cases cc : 2 ≤ xsh S s
    · simp only [if_pos cc] at K ⊢
      exact K lv M1 (g 2) h0 h1 h2 fr (by rw [xb_ui]; exact hA)
    · simp only [if_neg cc] at K ⊢
      obtain ⟨⟨z2, M2⟩, cE2, c2, h, hn2, hA2⟩ := pd_goesBy hA iT iS
      have c2 : z2 = none := c2
      subst c2
      dsimp only at hn2 hA2
      simp (disch := omega) only [↓ra_135_31, ↓ra_135_32, ↓ra_135_35, ↓ra_135_38, xa_kli, xa_klr, xa_kll, xa_ki, xa_kl, xa_kr, xa_kii, xa_kk, xa_kir, xa_krr, xa_kiir, xa_krir, xa_kdup, xa_kdup2, xa_kcp, xa_gf, xa_pf, xa_ga, xa_pa, xa_gq, xa_pq, xa_gl, xa_args, xa_ri, xa_rz, xa_rv, xa_s1, xa_s2, xa_c1, eq_self, List.getElem?_cons_succ, List.getElem?_cons_zero, true_and, and_true, nI_add, pk_mul, xt_in, xt_cl, xt_i0, xt_i1, xa_kc, xa_w8, xa_fit, lg_sl, List.flatMap_cons, List.flatMap_nil, List.map_cons, List.map_nil, List.sum_cons, List.sum_nil, Value.category, List.length_cons, List.length_nil, List.length_append, xa_rc, xa_rf, exists_eq_left, exists_eq', Option.some.injEq, Sum.inr.injEq, Prod.mk.injEq, Option.toList_some, Option.toList_none, List.cons_append, List.nil_append, Nat.reduceAdd, Nat.reduceLeDiff, Nat.reduceLT, List.set_cons_zero, List.set_cons_succ, eq_self, or_true, true_or, reduceIte, xt_ne, h0, h1, h2, m0, xa_iff cE2, mx_118]
      exact ih (i + 1) _ M2 _ _ (by simp [xa_s1, xa_c1, h0]) (by simp [xa_s1, xa_c1, h1]) (by simp [xa_s1, xa_c1]) (by omega) (xa_fr_tr fr hn2.1) hA2 (xi_day iT iS (by omega)) (by show xsd S + 1 + k ≤ _; omega) Q (fun lv M3 h3 g0 g1 g2 f3 hA3 => K lv M3 h3 g0 g1 g2 f3 (by rw [xb_u2] at hA3; exact hA3))
theorem pd_freeBehind_l {M : xa_M} {c n s : Nat} {r : Nat → Int32} {T : xt_T} (iT : xi_T T) (hs : s < xnS T) : ∀ (k i : Nat) (lv : xa_L) (M1 : xa_M) (g : Nat → Nat → Int32) (S : xt_S), lv 0 = some (.ref c) → lv 1 = some (.int (nI s)) → lv 2 = some (.int (nI i)) → i + k = 100 → xa_fr c (c + 10) M M1 → xv_A M1 c r g T n S → xi_S T S → xsd S + k ≤ 100000 → ∀ Q : xa_Z → Prop, (∀ (lv : xa_L) (M2 : xa_M) (h : Nat → Int32), lv 0 = some (.ref c) → lv 1 = some (.int (nI s)) → lv 2 = some (.int (nI (xq_en T s k i S).1)) → xa_fr c (c + 10) M M2 → xv_A M2 c r (xb_u g 2 h) T n (xq_en T s k i S).2 → ∃ z, xa_E 136 27 lv [] M2 z ∧ Q z) → ∃ z, xa_E 136 2 lv [] M1 z ∧ Q z := by
  have b6 := iT.1.2.2.2.2.2.1
  intro k
  induction k with
  | zero =>
    intro i lv M1 g S h0 h1 h2 e fr hA iS hd Q K
    have e : i = 100 := by omega
    subst e
    simp (disch := omega) only [↓ra_136_2, ↓ra_136_3, ↓ra_136_5, xa_kli, xa_klr, xa_kll, xa_ki, xa_kl, xa_kr, xa_kii, xa_kk, xa_kir, xa_krr, xa_kiir, xa_krir, xa_kdup, xa_kdup2, xa_kcp, xa_gf, xa_pf, xa_ga, xa_pa, xa_gq, xa_pq, xa_gl, xa_args, xa_ri, xa_rz, xa_rv, xa_s1, xa_s2, xa_c1, eq_self, List.getElem?_cons_succ, List.getElem?_cons_zero, true_and, and_true, nI_add, pk_mul, xt_in, xt_cl, xt_i0, xt_i1, xa_kc, xa_w8, xa_fit, lg_sl, List.flatMap_cons, List.flatMap_nil, List.map_cons, List.map_nil, List.sum_cons, List.sum_nil, Value.category, List.length_cons, List.length_nil, List.length_append, xa_rc, xa_rf, exists_eq_left, exists_eq', Option.some.injEq, Sum.inr.injEq, Prod.mk.injEq, Option.toList_some, Option.toList_none, List.cons_append, List.nil_append, Nat.reduceAdd, Nat.reduceLeDiff, Nat.reduceLT, List.set_cons_zero, List.set_cons_succ, eq_self, or_true, true_or, reduceIte, xt_ne, h0, h1, h2, xt_le, Nat.le_refl]
    exact K lv M1 (g 2) h0 h1 h2 fr (by rw [xb_ui]; exact hA)
  | succ k ih =>
    intro i lv M1 g S h0 h1 h2 e fr hA iS hd Q K
    have dd := iS.2.1 s hs
    have ch := xa_iff (pd_how hA b6 s hs)
    obtain ⟨m0, -⟩ := id hA.1
    unfold xb_c at m0
    simp (disch := omega) only [↓ra_136_2, ↓ra_136_3, ↓ra_136_5, xa_kli, xa_klr, xa_kll, xa_ki, xa_kl, xa_kr, xa_kii, xa_kk, xa_kir, xa_krr, xa_kiir, xa_krir, xa_kdup, xa_kdup2, xa_kcp, xa_gf, xa_pf, xa_ga, xa_pa, xa_gq, xa_pq, xa_gl, xa_args, xa_ri, xa_rz, xa_rv, xa_s1, xa_s2, xa_c1, eq_self, List.getElem?_cons_succ, List.getElem?_cons_zero, true_and, and_true, nI_add, pk_mul, xt_in, xt_cl, xt_i0, xt_i1, xa_kc, xa_w8, xa_fit, lg_sl, List.flatMap_cons, List.flatMap_nil, List.map_cons, List.map_nil, List.sum_cons, List.sum_nil, Value.category, List.length_cons, List.length_nil, List.length_append, xa_rc, xa_rf, exists_eq_left, exists_eq', Option.some.injEq, Sum.inr.injEq, Prod.mk.injEq, Option.toList_some, Option.toList_none, List.cons_append, List.nil_append, Nat.reduceAdd, Nat.reduceLeDiff, Nat.reduceLT, List.set_cons_zero, List.set_cons_succ, eq_self, or_true, true_or, reduceIte, xt_ne, h0, h1, h2, xt_le]
    simp only [if_neg (show ¬ 100 ≤ i by omega)]
    simp (disch := omega) only [↓ra_136_8, ↓ra_136_9, ↓ra_136_10, ↓ra_136_13, ↓ra_136_14, xa_kli, xa_klr, xa_kll, xa_ki, xa_kl, xa_kr, xa_kii, xa_kk, xa_kir, xa_krr, xa_kiir, xa_krir, xa_kdup, xa_kdup2, xa_kcp, xa_gf, xa_pf, xa_ga, xa_pa, xa_gq, xa_pq, xa_gl, xa_args, xa_ri, xa_rz, xa_rv, xa_s1, xa_s2, xa_c1, eq_self, List.getElem?_cons_succ, List.getElem?_cons_zero, true_and, and_true, nI_add, pk_mul, xt_in, xt_cl, xt_i0, xt_i1, xa_kc, xa_w8, xa_fit, lg_sl, List.flatMap_cons, List.flatMap_nil, List.map_cons, List.map_nil, List.sum_cons, List.sum_nil, Value.category, List.length_cons, List.length_nil, List.length_append, xa_rc, xa_rf, exists_eq_left, exists_eq', Option.some.injEq, Sum.inr.injEq, Prod.mk.injEq, Option.toList_some, Option.toList_none, List.cons_append, List.nil_append, Nat.reduceAdd, Nat.reduceLeDiff, Nat.reduceLT, List.set_cons_zero, List.set_cons_succ, eq_self, or_true, true_or, reduceIte, xt_ne, h0, h1, h2, m0, ch, mx_99, xt_le]
    unfold xq_en at K
    by_cases cc : 2 ≤ xsh S s
    · simp only [if_pos cc] at K ⊢
      exact K lv M1 (g 2) h0 h1 h2 fr (by rw [xb_ui]; exact hA)
    · simp only [if_neg cc] at K ⊢
      obtain ⟨⟨z2, M2⟩, cE2, c2, h, hn2, hA2⟩ := pd_goesBy hA iT iS
      have c2 : z2 = none := c2
      subst c2
      dsimp only at hn2 hA2
      simp (disch := omega) only [↓ra_136_17, ↓ra_136_18, ↓ra_136_21, ↓ra_136_24, xa_kli, xa_klr, xa_kll, xa_ki, xa_kl, xa_kr, xa_kii, xa_kk, xa_kir, xa_krr, xa_kiir, xa_krir, xa_kdup, xa_kdup2, xa_kcp, xa_gf, xa_pf, xa_ga, xa_pa, xa_gq, xa_pq, xa_gl, xa_args, xa_ri, xa_rz, xa_rv, xa_s1, xa_s2, xa_c1, eq_self, List.getElem?_cons_succ, List.getElem?_cons_zero, true_and, and_true, nI_add, pk_mul, xt_in, xt_cl, xt_i0, xt_i1, xa_kc, xa_w8, xa_fit, lg_sl, List.flatMap_cons, List.flatMap_nil, List.map_cons, List.map_nil, List.sum_cons, List.sum_nil, Value.category, List.length_cons, List.length_nil, List.length_append, xa_rc, xa_rf, exists_eq_left, exists_eq', Option.some.injEq, Sum.inr.injEq, Prod.mk.injEq, Option.toList_some, Option.toList_none, List.cons_append, List.nil_append, Nat.reduceAdd, Nat.reduceLeDiff, Nat.reduceLT, List.set_cons_zero, List.set_cons_succ, eq_self, or_true, true_or, reduceIte, xt_ne, h0, h1, h2, m0, xa_iff cE2, mx_118]
      exact ih (i + 1) _ M2 _ _ (by simp [xa_s1, xa_c1, h0]) (by simp [xa_s1, xa_c1, h1]) (by simp [xa_s1, xa_c1]) (by omega) (xa_fr_tr fr hn2.1) hA2 (xi_day iT iS (by omega)) (by show xsd S + 1 + k ≤ _; omega) Q (fun lv M3 h3 g0 g1 g2 f3 hA3 => K lv M3 h3 g0 g1 g2 f3 (by rw [xb_u2] at hA3; exact hA3))
theorem pe_behind_n {M : xa_M} {c : Nat} {A : xt_A} (hh : xh_B M c A) (iA : xi_A A) {x y w : Int32} (h : ¬ (xt_k x 0 (xnS (yT A)) ∧ xt_k y 0 (99 + 1) ∧ xt_k w 0 (2 + 1))) : xa_E 134 0 (xa_ent [.ref c, .int x, .int y, .int w]) [] M (some (.int (Int32.ofInt (-1))), M) := by
  obtain ⟨r, g, hB, hw⟩ := id hh
  have hA := xw_A hB hw
  obtain ⟨⟨r2, r3, r5, r6⟩, hV, hS, ⟨hx1, hx2⟩, ⟨hu1, hu2⟩, ⟨hk1, hk2⟩, ⟨hg1, hg2⟩⟩ := id hw
  obtain ⟨iT, i5, i60, i1, ⟨iS, iD⟩, iX, iU, iK, iG⟩ := id iA
  obtain ⟨⟨b1, b2, b3, b4, b5, b6, b7, b8⟩, bs, bm, bw⟩ := id iT
  have ix := iX.1
  have iu := iU.1
  have ik := iK.1
  have ig := iG.1
  obtain ⟨⟨v0, v1, v2, v3, v4, v5⟩, vs, vm, -, vw⟩ := id hV
  obtain ⟨m0, m1, m2, m3, m4, m5, m6, m7, m8, m9⟩ := id hB
  unfold xb_c at m0
  refine xa_go4 (fun lv h0 h1 h2 h3 => ?_)
  by_cases a0 : xt_k x 0 (xnS (yT A))
  · by_cases a1 : xt_k y 0 (99 + 1)
    · have a2 : ¬ xt_k w 0 (2 + 1) := fun a => h ⟨a0, a1, a⟩
      obtain ⟨k0, -, l0, rfl⟩ := a0
      have c0 := xa_iff (pd_isSerf_y hB hV k0 l0 b6)
      obtain ⟨k1, p1, l1, rfl⟩ := a1
      have c1 := xa_iff (pd_in_k (M := M) k1 0 99 (by omega) (by omega))
      have c2 := xa_iff (pd_in_x (M := M) 0 2 a2 (by omega) (by omega))
      simp (disch := omega) only [↓ra_134_0, ↓ra_134_1, ↓ra_134_2, ↓ra_134_5, ↓ra_134_8, ↓ra_134_9, ↓ra_134_10, ↓ra_134_11, ↓ra_134_14, ↓ra_134_17, ↓ra_134_20, ↓ra_134_21, ↓ra_134_22, ↓ra_134_23, ↓ra_134_26, ↓ra_134_29, ↓ra_134_32, ↓ra_134_33, xa_kli, xa_klr, xa_kll, xa_ki, xa_kl, xa_kr, xa_kii, xa_kk, xa_kir, xa_krr, xa_kiir, xa_krir, xa_kdup, xa_kdup2, xa_kcp, xa_gf, xa_pf, xa_ga, xa_pa, xa_gq, xa_pq, xa_gl, xa_args, xa_ri, xa_rz, xa_rv, xa_s1, xa_s2, xa_c1, eq_self, List.getElem?_cons_succ, List.getElem?_cons_zero, true_and, and_true, nI_add, pk_mul, xt_in, xt_cl, xt_i0, xt_i1, xa_kc, xa_w8, xa_fit, lg_sl, List.flatMap_cons, List.flatMap_nil, List.map_cons, List.map_nil, List.sum_cons, List.sum_nil, Value.category, List.length_cons, List.length_nil, List.length_append, xa_rc, xa_rf, exists_eq_left, exists_eq', Option.some.injEq, Sum.inr.injEq, Prod.mk.injEq, Option.toList_some, Option.toList_none, List.cons_append, List.nil_append, Nat.reduceAdd, Nat.reduceLeDiff, Nat.reduceLT, List.set_cons_zero, List.set_cons_succ, eq_self, or_true, true_or, reduceIte, xt_ne, xt_eq, Nat.reduceEqDiff, Nat.one_ne_zero, if_false, h0, h1, h2, h3, c0, c1, c2, mx_96, mx_97, mx_98, mx_92, m0, nI_l]
    · obtain ⟨k0, -, l0, rfl⟩ := a0
      have c0 := xa_iff (pd_isSerf_y hB hV k0 l0 b6)
      have c1 := xa_iff (pd_in_x (M := M) 0 99 a1 (by omega) (by omega))
      simp (disch := omega) only [↓ra_134_0, ↓ra_134_1, ↓ra_134_2, ↓ra_134_5, ↓ra_134_8, ↓ra_134_9, ↓ra_134_10, ↓ra_134_11, ↓ra_134_14, ↓ra_134_17, ↓ra_134_20, ↓ra_134_21, ↓ra_134_22, ↓ra_134_23, ↓ra_134_26, ↓ra_134_29, ↓ra_134_32, ↓ra_134_33, xa_kli, xa_klr, xa_kll, xa_ki, xa_kl, xa_kr, xa_kii, xa_kk, xa_kir, xa_krr, xa_kiir, xa_krir, xa_kdup, xa_kdup2, xa_kcp, xa_gf, xa_pf, xa_ga, xa_pa, xa_gq, xa_pq, xa_gl, xa_args, xa_ri, xa_rz, xa_rv, xa_s1, xa_s2, xa_c1, eq_self, List.getElem?_cons_succ, List.getElem?_cons_zero, true_and, and_true, nI_add, pk_mul, xt_in, xt_cl, xt_i0, xt_i1, xa_kc, xa_w8, xa_fit, lg_sl, List.flatMap_cons, List.flatMap_nil, List.map_cons, List.map_nil, List.sum_cons, List.sum_nil, Value.category, List.length_cons, List.length_nil, List.length_append, xa_rc, xa_rf, exists_eq_left, exists_eq', Option.some.injEq, Sum.inr.injEq, Prod.mk.injEq, Option.toList_some, Option.toList_none, List.cons_append, List.nil_append, Nat.reduceAdd, Nat.reduceLeDiff, Nat.reduceLT, List.set_cons_zero, List.set_cons_succ, eq_self, or_true, true_or, reduceIte, xt_ne, xt_eq, Nat.reduceEqDiff, Nat.one_ne_zero, if_false, h0, h1, h2, h3, c0, c1, mx_96, mx_97, mx_98, mx_92, m0, nI_l]
  · have c0 := xa_iff (pd_isSerf_n hB hV a0 b6)
    simp (disch := omega) only [↓ra_134_0, ↓ra_134_1, ↓ra_134_2, ↓ra_134_5, ↓ra_134_8, ↓ra_134_9, ↓ra_134_10, ↓ra_134_11, ↓ra_134_14, ↓ra_134_17, ↓ra_134_20, ↓ra_134_21, ↓ra_134_22, ↓ra_134_23, ↓ra_134_26, ↓ra_134_29, ↓ra_134_32, ↓ra_134_33, xa_kli, xa_klr, xa_kll, xa_ki, xa_kl, xa_kr, xa_kii, xa_kk, xa_kir, xa_krr, xa_kiir, xa_krir, xa_kdup, xa_kdup2, xa_kcp, xa_gf, xa_pf, xa_ga, xa_pa, xa_gq, xa_pq, xa_gl, xa_args, xa_ri, xa_rz, xa_rv, xa_s1, xa_s2, xa_c1, eq_self, List.getElem?_cons_succ, List.getElem?_cons_zero, true_and, and_true, nI_add, pk_mul, xt_in, xt_cl, xt_i0, xt_i1, xa_kc, xa_w8, xa_fit, lg_sl, List.flatMap_cons, List.flatMap_nil, List.map_cons, List.map_nil, List.sum_cons, List.sum_nil, Value.category, List.length_cons, List.length_nil, List.length_append, xa_rc, xa_rf, exists_eq_left, exists_eq', Option.some.injEq, Sum.inr.injEq, Prod.mk.injEq, Option.toList_some, Option.toList_none, List.cons_append, List.nil_append, Nat.reduceAdd, Nat.reduceLeDiff, Nat.reduceLT, List.set_cons_zero, List.set_cons_succ, eq_self, or_true, true_or, reduceIte, xt_ne, xt_eq, Nat.reduceEqDiff, Nat.one_ne_zero, if_false, h0, h1, h2, h3, c0, mx_96, mx_97, mx_98, mx_92, m0, nI_l]
theorem pe_behind {M : xa_M} {c : Nat} {A : xt_A} (hh : xh_B M c A) (iA : xi_A A) (s k w : Nat) (hs : s < xnS (yT A)) (hk : k ≤ 99) (hw2 : w ≤ 2) : ∃ y0, xa_E 134 0 (xa_ent [.ref c, .int (nI s), .int (nI k), .int (nI w)]) [] M y0 ∧ xm2 c M (xs_behind A s k w) A y0 := by
  obtain ⟨r, g, hB, hw⟩ := id hh
  have hA := xw_A hB hw
  obtain ⟨⟨r2, r3, r5, r6⟩, hV, hS, ⟨hx1, hx2⟩, ⟨hu1, hu2⟩, ⟨hk1, hk2⟩, ⟨hg1, hg2⟩⟩ := id hw
  obtain ⟨iT, i5, i60, i1, ⟨iS, iD⟩, iX, iU, iK, iG⟩ := id iA
  obtain ⟨⟨b1, b2, b3, b4, b5, b6, b7, b8⟩, bs, bm, bw⟩ := id iT
  have ix := iX.1
  have iu := iU.1
  have ik := iK.1
  have ig := iG.1
  obtain ⟨⟨v0, v1, v2, v3, v4, v5⟩, vs, vm, -, vw⟩ := id hV
  obtain ⟨m0, m1, m2, m3, m4, m5, m6, m7, m8, m9⟩ := id hB
  unfold xb_c at m0
  have cn := xa_iff (pd_isSerf_y hB hV s hs b6)
  have ca := xa_iff (pd_in_k (M := M) k 0 99 (by omega) (by omega))
  have cb := xa_iff (pd_in_k (M := M) w 0 2 (by omega) (by omega))
  obtain ⟨⟨z1, M1⟩, cE1, c1, h6, hn1, e6⟩ := pd_asides hB
  have c1 : z1 = none := c1
  subst c1
  dsimp only at hn1
  have z0 := xz_0 e6
  have hA1 : xv_A M1 c r (xb_u g 6 h6) (yT A) (xnM (yT A)) (yS A) := ⟨hn1.2, hV, hS, fun h => by omega⟩
  obtain ⟨n0, n1, n2, -⟩ := id hn1.2
  unfold xb_c at n0
  obtain ⟨⟨z2, M2⟩, cE2, c2, h, hn2, hA2⟩ := pd_goesOn hA1 iT iS k (by omega)
  have c2 : z2 = none := c2
  subst c2
  dsimp only at hn2 hA2
  have i2 := (xi_days iT k iS (by omega)).1
  have ch := xa_iff (pd_how hA2 b6 s hs)
  have cs := xa_iff (pd_stayed hA2 b6 s hs)
  have cm := xa_iff (pd_many hA2 b6 (fun s hs => Nat.lt_of_le_of_lt (i2.2.1 s hs).1 (by decide)) 2 (by omega))
  obtain ⟨⟨z3, M3⟩, cE3, c3, h3, hn3, e3⟩ := pd_backs hA2.1
  have c3 : z3 = none := c3
  subst c3
  dsimp only at hn3
  have zf := xz_b z0 e3
  have fin : ∀ v, xm2 c M v A (some (.int v), M3) := fun v => xm2_n (xn_t (xn_t hn1 hn2) hn3) (xz_w hw iA zf rfl rfl rfl rfl rfl rfl rfl rfl)
  obtain ⟨k0, -⟩ := id hn2.2
  unfold xb_c at k0
  refine xa_ge4 (fun lv h0 h1 h2 h3 => ?_)
  rcases (show w = 0 ∨ w = 1 ∨ w = 2 by omega) with rfl | rfl | rfl
  · simp (disch := omega) only [↓ra_134_0, ↓ra_134_1, ↓ra_134_2, ↓ra_134_5, ↓ra_134_8, ↓ra_134_9, ↓ra_134_10, ↓ra_134_11, ↓ra_134_14, ↓ra_134_17, ↓ra_134_20, ↓ra_134_21, ↓ra_134_22, ↓ra_134_23, ↓ra_134_26, ↓ra_134_29, ↓ra_134_34, ↓ra_134_35, ↓ra_134_38, ↓ra_134_39, ↓ra_134_40, ↓ra_134_43, ↓ra_134_44, ↓ra_134_47, ↓ra_134_48, ↓ra_134_49, ↓ra_134_52, ↓ra_134_73, ↓ra_134_75, ↓ra_134_76, ↓ra_134_79, ↓ra_134_81, xa_kli, xa_klr, xa_kll, xa_ki, xa_kl, xa_kr, xa_kii, xa_kk, xa_kir, xa_krr, xa_kiir, xa_krir, xa_kdup, xa_kdup2, xa_kcp, xa_gf, xa_pf, xa_ga, xa_pa, xa_gq, xa_pq, xa_gl, xa_args, xa_ri, xa_rz, xa_rv, xa_s1, xa_s2, xa_c1, eq_self, List.getElem?_cons_succ, List.getElem?_cons_zero, true_and, and_true, nI_add, pk_mul, xt_in, xt_cl, xt_i0, xt_i1, xa_kc, xa_w8, xa_fit, lg_sl, List.flatMap_cons, List.flatMap_nil, List.map_cons, List.map_nil, List.sum_cons, List.sum_nil, Value.category, List.length_cons, List.length_nil, List.length_append, xa_rc, xa_rf, exists_eq_left, exists_eq', Option.some.injEq, Sum.inr.injEq, Prod.mk.injEq, Option.toList_some, Option.toList_none, List.cons_append, List.nil_append, Nat.reduceAdd, Nat.reduceLeDiff, Nat.reduceLT, List.set_cons_zero, List.set_cons_succ, eq_self, or_true, true_or, reduceIte, xt_ne, xt_eq, Nat.reduceEqDiff, Nat.one_ne_zero, if_false, h0, h1, h2, h3, nI_l, cn, ca, cb, mx_96, mx_92, m0, n0, k0, xa_iff cE1, xa_iff cE2, xa_iff cE3, ch, mx_132, mx_120, mx_133, mx_99]
    exact fin _
  · simp (disch := omega) only [↓ra_134_0, ↓ra_134_1, ↓ra_134_2, ↓ra_134_5, ↓ra_134_8, ↓ra_134_9, ↓ra_134_10, ↓ra_134_11, ↓ra_134_14, ↓ra_134_17, ↓ra_134_20, ↓ra_134_21, ↓ra_134_22, ↓ra_134_23, ↓ra_134_26, ↓ra_134_29, ↓ra_134_34, ↓ra_134_35, ↓ra_134_38, ↓ra_134_39, ↓ra_134_40, ↓ra_134_43, ↓ra_134_44, ↓ra_134_55, ↓ra_134_56, ↓ra_134_57, ↓ra_134_60, ↓ra_134_61, ↓ra_134_62, ↓ra_134_65, ↓ra_134_73, ↓ra_134_75, ↓ra_134_76, ↓ra_134_79, ↓ra_134_81, xa_kli, xa_klr, xa_kll, xa_ki, xa_kl, xa_kr, xa_kii, xa_kk, xa_kir, xa_krr, xa_kiir, xa_krir, xa_kdup, xa_kdup2, xa_kcp, xa_gf, xa_pf, xa_ga, xa_pa, xa_gq, xa_pq, xa_gl, xa_args, xa_ri, xa_rz, xa_rv, xa_s1, xa_s2, xa_c1, eq_self, List.getElem?_cons_succ, List.getElem?_cons_zero, true_and, and_true, nI_add, pk_mul, xt_in, xt_cl, xt_i0, xt_i1, xa_kc, xa_w8, xa_fit, lg_sl, List.flatMap_cons, List.flatMap_nil, List.map_cons, List.map_nil, List.sum_cons, List.sum_nil, Value.category, List.length_cons, List.length_nil, List.length_append, xa_rc, xa_rf, exists_eq_left, exists_eq', Option.some.injEq, Sum.inr.injEq, Prod.mk.injEq, Option.toList_some, Option.toList_none, List.cons_append, List.nil_append, Nat.reduceAdd, Nat.reduceLeDiff, Nat.reduceLT, List.set_cons_zero, List.set_cons_succ, eq_self, or_true, true_or, reduceIte, xt_ne, xt_eq, Nat.reduceEqDiff, Nat.one_ne_zero, if_false, h0, h1, h2, h3, nI_l, cn, ca, cb, mx_96, mx_92, m0, n0, k0, xa_iff cE1, xa_iff cE2, xa_iff cE3, cs, mx_132, mx_120, mx_133, mx_101]
    exact fin _
  · simp (disch := omega) only [↓ra_134_0, ↓ra_134_1, ↓ra_134_2, ↓ra_134_5, ↓ra_134_8, ↓ra_134_9, ↓ra_134_10, ↓ra_134_11, ↓ra_134_14, ↓ra_134_17, ↓ra_134_20, ↓ra_134_21, ↓ra_134_22, ↓ra_134_23, ↓ra_134_26, ↓ra_134_29, ↓ra_134_34, ↓ra_134_35, ↓ra_134_38, ↓ra_134_39, ↓ra_134_40, ↓ra_134_43, ↓ra_134_44, ↓ra_134_55, ↓ra_134_56, ↓ra_134_57, ↓ra_134_68, ↓ra_134_69, ↓ra_134_70, ↓ra_134_73, ↓ra_134_75, ↓ra_134_76, ↓ra_134_79, ↓ra_134_81, xa_kli, xa_klr, xa_kll, xa_ki, xa_kl, xa_kr, xa_kii, xa_kk, xa_kir, xa_krr, xa_kiir, xa_krir, xa_kdup, xa_kdup2, xa_kcp, xa_gf, xa_pf, xa_ga, xa_pa, xa_gq, xa_pq, xa_gl, xa_args, xa_ri, xa_rz, xa_rv, xa_s1, xa_s2, xa_c1, eq_self, List.getElem?_cons_succ, List.getElem?_cons_zero, true_and, and_true, nI_add, pk_mul, xt_in, xt_cl, xt_i0, xt_i1, xa_kc, xa_w8, xa_fit, lg_sl, List.flatMap_cons, List.flatMap_nil, List.map_cons, List.map_nil, List.sum_cons, List.sum_nil, Value.category, List.length_cons, List.length_nil, List.length_append, xa_rc, xa_rf, exists_eq_left, exists_eq', Option.some.injEq, Sum.inr.injEq, Prod.mk.injEq, Option.toList_some, Option.toList_none, List.cons_append, List.nil_append, Nat.reduceAdd, Nat.reduceLeDiff, Nat.reduceLT, List.set_cons_zero, List.set_cons_succ, eq_self, or_true, true_or, reduceIte, xt_ne, xt_eq, Nat.reduceEqDiff, Nat.one_ne_zero, if_false, h0, h1, h2, h3, nI_l, cn, ca, cb, mx_96, mx_92, m0, n0, k0, xa_iff cE1, xa_iff cE2, xa_iff cE3, cm, mx_132, mx_120, mx_133, mx_121]
    exact fin _
theorem pe_ends_n {M : xa_M} {c : Nat} {A : xt_A} (hh : xh_B M c A) (iA : xi_A A) {x : Int32} (h : ¬ (xt_k x 0 (xnS (yT A)))) : xa_E 135 0 (xa_ent [.ref c, .int x]) [] M (some (.int (Int32.ofInt (-1))), M) := by
  obtain ⟨r, g, hB, hw⟩ := id hh
  have hA := xw_A hB hw
  obtain ⟨⟨r2, r3, r5, r6⟩, hV, hS, ⟨hx1, hx2⟩, ⟨hu1, hu2⟩, ⟨hk1, hk2⟩, ⟨hg1, hg2⟩⟩ := id hw
  obtain ⟨iT, i5, i60, i1, ⟨iS, iD⟩, iX, iU, iK, iG⟩ := id iA
  obtain ⟨⟨b1, b2, b3, b4, b5, b6, b7, b8⟩, bs, bm, bw⟩ := id iT
  have ix := iX.1
  have iu := iU.1
  have ik := iK.1
  have ig := iG.1
  obtain ⟨⟨v0, v1, v2, v3, v4, v5⟩, vs, vm, -, vw⟩ := id hV
  obtain ⟨m0, m1, m2, m3, m4, m5, m6, m7, m8, m9⟩ := id hB
  unfold xb_c at m0
  refine xa_go2 (fun lv h0 h1 => ?_)
  have a0 : ¬ xt_k x 0 (xnS (yT A)) := h
  have c0 := xa_iff (pd_isSerf_n hB hV a0 b6)
  simp (disch := omega) only [↓ra_135_0, ↓ra_135_1, ↓ra_135_2, ↓ra_135_5, ↓ra_135_8, ↓ra_135_9, xa_kli, xa_klr, xa_kll, xa_ki, xa_kl, xa_kr, xa_kii, xa_kk, xa_kir, xa_krr, xa_kiir, xa_krir, xa_kdup, xa_kdup2, xa_kcp, xa_gf, xa_pf, xa_ga, xa_pa, xa_gq, xa_pq, xa_gl, xa_args, xa_ri, xa_rz, xa_rv, xa_s1, xa_s2, xa_c1, eq_self, List.getElem?_cons_succ, List.getElem?_cons_zero, true_and, and_true, nI_add, pk_mul, xt_in, xt_cl, xt_i0, xt_i1, xa_kc, xa_w8, xa_fit, lg_sl, List.flatMap_cons, List.flatMap_nil, List.map_cons, List.map_nil, List.sum_cons, List.sum_nil, Value.category, List.length_cons, List.length_nil, List.length_append, xa_rc, xa_rf, exists_eq_left, exists_eq', Option.some.injEq, Sum.inr.injEq, Prod.mk.injEq, Option.toList_some, Option.toList_none, List.cons_append, List.nil_append, Nat.reduceAdd, Nat.reduceLeDiff, Nat.reduceLT, List.set_cons_zero, List.set_cons_succ, eq_self, or_true, true_or, reduceIte, xt_ne, xt_eq, Nat.reduceEqDiff, Nat.one_ne_zero, if_false, h0, h1, c0, mx_96, mx_97, mx_98, mx_92, m0, nI_l]
theorem pe_ends {M : xa_M} {c : Nat} {A : xt_A} (hh : xh_B M c A) (iA : xi_A A) (s : Nat) (hs : s < xnS (yT A)) : ∃ y0, xa_E 135 0 (xa_ent [.ref c, .int (nI s)]) [] M y0 ∧ xm2 c M (xs_ends A s) A y0 := by
  obtain ⟨r, g, hB, hw⟩ := id hh
  have hA := xw_A hB hw
  obtain ⟨⟨r2, r3, r5, r6⟩, hV, hS, ⟨hx1, hx2⟩, ⟨hu1, hu2⟩, ⟨hk1, hk2⟩, ⟨hg1, hg2⟩⟩ := id hw
  obtain ⟨iT, i5, i60, i1, ⟨iS, iD⟩, iX, iU, iK, iG⟩ := id iA
  obtain ⟨⟨b1, b2, b3, b4, b5, b6, b7, b8⟩, bs, bm, bw⟩ := id iT
  have ix := iX.1
  have iu := iU.1
  have ik := iK.1
  have ig := iG.1
  obtain ⟨⟨v0, v1, v2, v3, v4, v5⟩, vs, vm, -, vw⟩ := id hV
  obtain ⟨m0, m1, m2, m3, m4, m5, m6, m7, m8, m9⟩ := id hB
  unfold xb_c at m0
  have cn := xa_iff (pd_isSerf_y hB hV s hs b6)
  obtain ⟨⟨z1, M1⟩, cE1, c1, h6, hn1, e6⟩ := pd_asides hB
  have c1 : z1 = none := c1
  subst c1
  dsimp only at hn1
  have z0 := xz_0 e6
  have hA1 : xv_A M1 c r (xb_u g 6 h6) (yT A) (xnM (yT A)) (yS A) := ⟨hn1.2, hV, hS, fun h => by omega⟩
  obtain ⟨n0, n1, n2, -⟩ := id hn1.2
  unfold xb_c at n0
  refine xa_ge2 (fun lv h0 h1 => ?_)
  simp (disch := omega) only [↓ra_135_0, ↓ra_135_1, ↓ra_135_2, ↓ra_135_5, ↓ra_135_10, ↓ra_135_11, ↓ra_135_14, ↓ra_135_15, xa_kli, xa_klr, xa_kll, xa_ki, xa_kl, xa_kr, xa_kii, xa_kk, xa_kir, xa_krr, xa_kiir, xa_krir, xa_kdup, xa_kdup2, xa_kcp, xa_gf, xa_pf, xa_ga, xa_pa, xa_gq, xa_pq, xa_gl, xa_args, xa_ri, xa_rz, xa_rv, xa_s1, xa_s2, xa_c1, eq_self, List.getElem?_cons_succ, List.getElem?_cons_zero, true_and, and_true, nI_add, pk_mul, xt_in, xt_cl, xt_i0, xt_i1, xa_kc, xa_w8, xa_fit, lg_sl, List.flatMap_cons, List.flatMap_nil, List.map_cons, List.map_nil, List.sum_cons, List.sum_nil, Value.category, List.length_cons, List.length_nil, List.length_append, xa_rc, xa_rf, exists_eq_left, exists_eq', Option.some.injEq, Sum.inr.injEq, Prod.mk.injEq, Option.toList_some, Option.toList_none, List.cons_append, List.nil_append, Nat.reduceAdd, Nat.reduceLeDiff, Nat.reduceLT, List.set_cons_zero, List.set_cons_succ, eq_self, or_true, true_or, reduceIte, xt_ne, xt_eq, Nat.reduceEqDiff, Nat.one_ne_zero, if_false, h0, h1, cn, mx_96, m0, xa_iff cE1, mx_132]
  refine pd_ends_l iT hs 100 0 _ M1 _ (yS A) (by simp [xa_s1, xa_c1, h0]) (by simp [xa_s1, xa_c1, h1]) (by simp [xa_s1, xa_c1]) (by omega) hn1.1 hA1 iS (by omega) _ (fun lv M2 h h0 h1 h2 f2 hA2 => ?_)
  obtain ⟨⟨z3, M3⟩, cE3, c3, h3, hn3, e3⟩ := pd_backs hA2.1
  have c3 : z3 = none := c3
  subst c3
  dsimp only at hn3
  have zf := xz_b z0 e3
  have fin : ∀ v, xm2 c M v A (some (.int v), M3) := fun v => xm2_n (⟨xa_fr_tr f2 hn3.1, hn3.2⟩ : xn c M r _ M3) (xz_w hw iA zf rfl rfl rfl rfl rfl rfl rfl rfl)
  obtain ⟨k0, -⟩ := id hA2.1
  unfold xb_c at k0
  have le := xq_en_le (T := yT A) (s := s) 100 0 (yS A)
  have ee := (xq_en_end (T := yT A) (s := s) 99 0 (yS A)).1
  rw [Nat.zero_add] at ee
  simp (disch := omega) only [↓ra_135_41, ↓ra_135_42, ↓ra_135_45, ↓ra_135_46, ↓ra_135_48, xa_kli, xa_klr, xa_kll, xa_ki, xa_kl, xa_kr, xa_kii, xa_kk, xa_kir, xa_krr, xa_kiir, xa_krir, xa_kdup, xa_kdup2, xa_kcp, xa_gf, xa_pf, xa_ga, xa_pa, xa_gq, xa_pq, xa_gl, xa_args, xa_ri, xa_rz, xa_rv, xa_s1, xa_s2, xa_c1, eq_self, List.getElem?_cons_succ, List.getElem?_cons_zero, true_and, and_true, nI_add, pk_mul, xt_in, xt_cl, xt_i0, xt_i1, xa_kc, xa_w8, xa_fit, lg_sl, List.flatMap_cons, List.flatMap_nil, List.map_cons, List.map_nil, List.sum_cons, List.sum_nil, Value.category, List.length_cons, List.length_nil, List.length_append, xa_rc, xa_rf, exists_eq_left, exists_eq', Option.some.injEq, Sum.inr.injEq, Prod.mk.injEq, Option.toList_some, Option.toList_none, List.cons_append, List.nil_append, Nat.reduceAdd, Nat.reduceLeDiff, Nat.reduceLT, List.set_cons_zero, List.set_cons_succ, eq_self, or_true, true_or, reduceIte, xt_ne, h0, h1, h2, k0, xa_iff cE3, mx_133, xt_le]
  unfold xs_ends
  by_cases cc : (xq_en (yT A) s 100 0 (yS A)).1 ≤ 99
  · simp only [if_pos cc]
    simp (disch := omega) only [↓ra_135_56, ↓ra_135_57, xa_kli, xa_klr, xa_kll, xa_ki, xa_kl, xa_kr, xa_kii, xa_kk, xa_kir, xa_krr, xa_kiir, xa_krir, xa_kdup, xa_kdup2, xa_kcp, xa_gf, xa_pf, xa_ga, xa_pa, xa_gq, xa_pq, xa_gl, xa_args, xa_ri, xa_rz, xa_rv, xa_s1, xa_s2, xa_c1, eq_self, List.getElem?_cons_succ, List.getElem?_cons_zero, true_and, and_true, nI_add, pk_mul, xt_in, xt_cl, xt_i0, xt_i1, xa_kc, xa_w8, xa_fit, lg_sl, List.flatMap_cons, List.flatMap_nil, List.map_cons, List.map_nil, List.sum_cons, List.sum_nil, Value.category, List.length_cons, List.length_nil, List.length_append, xa_rc, xa_rf, exists_eq_left, exists_eq', Option.some.injEq, Sum.inr.injEq, Prod.mk.injEq, Option.toList_some, Option.toList_none, List.cons_append, List.nil_append, Nat.reduceAdd, Nat.reduceLeDiff, Nat.reduceLT, List.set_cons_zero, List.set_cons_succ, eq_self, or_true, true_or, reduceIte, xt_ne, h2]
    rw [ee, if_pos cc]
    exact fin _
  · simp only [if_neg cc]
    simp (disch := omega) only [↓ra_135_51, ↓ra_135_53, ↓ra_135_57, xa_kli, xa_klr, xa_kll, xa_ki, xa_kl, xa_kr, xa_kii, xa_kk, xa_kir, xa_krr, xa_kiir, xa_krir, xa_kdup, xa_kdup2, xa_kcp, xa_gf, xa_pf, xa_ga, xa_pa, xa_gq, xa_pq, xa_gl, xa_args, xa_ri, xa_rz, xa_rv, xa_s1, xa_s2, xa_c1, eq_self, List.getElem?_cons_succ, List.getElem?_cons_zero, true_and, and_true, nI_add, pk_mul, xt_in, xt_cl, xt_i0, xt_i1, xa_kc, xa_w8, xa_fit, lg_sl, List.flatMap_cons, List.flatMap_nil, List.map_cons, List.map_nil, List.sum_cons, List.sum_nil, Value.category, List.length_cons, List.length_nil, List.length_append, xa_rc, xa_rf, exists_eq_left, exists_eq', Option.some.injEq, Sum.inr.injEq, Prod.mk.injEq, Option.toList_some, Option.toList_none, List.cons_append, List.nil_append, Nat.reduceAdd, Nat.reduceLeDiff, Nat.reduceLT, List.set_cons_zero, List.set_cons_succ, eq_self, or_true, true_or, reduceIte, xt_ne]
    rw [ee, if_neg cc]
    exact fin _
theorem xq_set_id {S : xt_S} {s q : Nat} (h1 : xsh S s = 0) (h2 : xsq S s = q) : xq_set S s q = S := by
  have e1 : (fun j => if j = s then 0 else xsh S j) = xsh S := by funext j; by_cases e : j = s
                                                                  · rw [if_pos e, e, h1]
                                                                  · rw [if_neg e]
  have e2 : (fun j => if j = s then q else xsq S j) = xsq S := by funext j; by_cases e : j = s
                                                                  · rw [if_pos e, e, h2]
                                                                  · rw [if_neg e]
  unfold xq_set
  rw [e1, e2]
theorem pd_freeBehind {M : xa_M} {c n : Nat} {r : Nat → Int32} {g : Nat → Nat → Int32} {T : xt_T} {S S0 : xt_S} (hA : xv_A M c r g T n S) (iT : xi_T T) (iS : xi_S T S) (hd : xsd S ≤ 9000) (s q : Nat) (hs : s < xnS T) (e0 : S = xq_set S0 s q) : ∃ z, xa_E 136 0 (xa_ent [.ref c, .int (nI s)]) [] M z ∧ z.1 = some (.int (xt_o (xq_fr T S0 s q).1)) ∧ ∃ h h2, xn c M r (xb_u (xb_u g 2 h) 2 h2) z.2 ∧ ∀ k, k < 31 → h2 k = (xb_u g 2 h) 6 k := by
  have b6 := iT.1.2.2.2.2.2.1
  have ef : (xq_fr T S0 s q).1 = if xsh (xq_end T s 99 0 S).2 s = 3 then (xq_end T s 99 0 S).1 else none := by
    unfold xq_fr
    have : (if xsh S0 s = 0 ∧ xsq S0 s = q then S0 else xq_set S0 s q) = S := by
      rw [e0]
      split
      · rename_i c; rw [xq_set_id c.1 c.2]
      · rfl
    rw [this]
  refine xa_ge2 (fun lv h0 h1 => ?_)
  simp (disch := omega) only [↓ra_136_0, ↓ra_136_1, xa_kli, xa_klr, xa_kll, xa_ki, xa_kl, xa_kr, xa_kii, xa_kk, xa_kir, xa_krr, xa_kiir, xa_krir, xa_kdup, xa_kdup2, xa_kcp, xa_gf, xa_pf, xa_ga, xa_pa, xa_gq, xa_pq, xa_gl, xa_args, xa_ri, xa_rz, xa_rv, xa_s1, xa_s2, xa_c1, eq_self, List.getElem?_cons_succ, List.getElem?_cons_zero, true_and, and_true, nI_add, pk_mul, xt_in, xt_cl, xt_i0, xt_i1, xa_kc, xa_w8, xa_fit, lg_sl, List.flatMap_cons, List.flatMap_nil, List.map_cons, List.map_nil, List.sum_cons, List.sum_nil, Value.category, List.length_cons, List.length_nil, List.length_append, xa_rc, xa_rf, exists_eq_left, exists_eq', Option.some.injEq, Sum.inr.injEq, Prod.mk.injEq, Option.toList_some, Option.toList_none, List.cons_append, List.nil_append, Nat.reduceAdd, Nat.reduceLeDiff, Nat.reduceLT, List.set_cons_zero, List.set_cons_succ, eq_self, or_true, true_or, reduceIte, xt_ne]
  refine pd_freeBehind_l iT hs 100 0 _ M _ S (by simp [xa_s1, xa_c1, h0]) (by simp [xa_s1, xa_c1, h1]) (by simp [xa_s1, xa_c1]) (by omega) xa_fr_rf hA iS (by omega) _ (fun lv M2 h h0 h1 h2 f2 hA2 => ?_)
  obtain ⟨⟨z3, M3⟩, cE3, c3, h3, hn3, e3⟩ := pd_backs hA2.1
  have c3 : z3 = none := c3
  subst c3
  dsimp only at hn3
  have fin : xn c M r (xb_u (xb_u g 2 h) 2 h3) M3 := ⟨xa_fr_tr f2 hn3.1, hn3.2⟩
  obtain ⟨k0, -⟩ := id hA2.1
  unfold xb_c at k0
  have le := xq_en_le (T := T) (s := s) 100 0 S
  have ee := xq_en_end (T := T) (s := s) 99 0 S
  simp only [Nat.zero_add, Nat.reduceAdd] at ee
  have iE := xi_en (s := s) iT 100 0 S iS (by omega)
  have ch := xa_iff (pd_how hA2 b6 s hs)
  have dd := iE.2.1 s hs
  have last : ∀ (lv : xa_L) (v : Int32), lv 0 = some (.ref c) → v = xt_o (xq_fr T S0 s q).1 → ∃ z, xa_E 136 48 lv [.int v] M2 z ∧ z.1 = some (.int (xt_o (xq_fr T S0 s q).1)) ∧ ∃ h h2, xn c M r (xb_u (xb_u g 2 h) 2 h2) z.2 ∧ ∀ k, k < 31 → h2 k = (xb_u g 2 h) 6 k := by
    intro lv v h0 hv
    simp (disch := omega) only [↓ra_136_48, ↓ra_136_49, ↓ra_136_50, ↓ra_136_53, ↓ra_136_54, xa_kli, xa_klr, xa_kll, xa_ki, xa_kl, xa_kr, xa_kii, xa_kk, xa_kir, xa_krr, xa_kiir, xa_krir, xa_kdup, xa_kdup2, xa_kcp, xa_gf, xa_pf, xa_ga, xa_pa, xa_gq, xa_pq, xa_gl, xa_args, xa_ri, xa_rz, xa_rv, xa_s1, xa_s2, xa_c1, eq_self, List.getElem?_cons_succ, List.getElem?_cons_zero, true_and, and_true, nI_add, pk_mul, xt_in, xt_cl, xt_i0, xt_i1, xa_kc, xa_w8, xa_fit, lg_sl, List.flatMap_cons, List.flatMap_nil, List.map_cons, List.map_nil, List.sum_cons, List.sum_nil, Value.category, List.length_cons, List.length_nil, List.length_append, xa_rc, xa_rf, exists_eq_left, exists_eq', Option.some.injEq, Sum.inr.injEq, Prod.mk.injEq, Option.toList_some, Option.toList_none, List.cons_append, List.nil_append, Nat.reduceAdd, Nat.reduceLeDiff, Nat.reduceLT, List.set_cons_zero, List.set_cons_succ, eq_self, or_true, true_or, reduceIte, xt_ne, h0, k0, xa_iff cE3, mx_133]
    exact ⟨by rw [hv], h, h3, fin, e3⟩
  simp (disch := omega) only [↓ra_136_27, ↓ra_136_28, ↓ra_136_30, xa_kli, xa_klr, xa_kll, xa_ki, xa_kl, xa_kr, xa_kii, xa_kk, xa_kir, xa_krr, xa_kiir, xa_krir, xa_kdup, xa_kdup2, xa_kcp, xa_gf, xa_pf, xa_ga, xa_pa, xa_gq, xa_pq, xa_gl, xa_args, xa_ri, xa_rz, xa_rv, xa_s1, xa_s2, xa_c1, eq_self, List.getElem?_cons_succ, List.getElem?_cons_zero, true_and, and_true, nI_add, pk_mul, xt_in, xt_cl, xt_i0, xt_i1, xa_kc, xa_w8, xa_fit, lg_sl, List.flatMap_cons, List.flatMap_nil, List.map_cons, List.map_nil, List.sum_cons, List.sum_nil, Value.category, List.length_cons, List.length_nil, List.length_append, xa_rc, xa_rf, exists_eq_left, exists_eq', Option.some.injEq, Sum.inr.injEq, Prod.mk.injEq, Option.toList_some, Option.toList_none, List.cons_append, List.nil_append, Nat.reduceAdd, Nat.reduceLeDiff, Nat.reduceLT, List.set_cons_zero, List.set_cons_succ, eq_self, or_true, true_or, reduceIte, xt_ne, h0, h1, h2, xt_le]
  by_cases cc : 100 ≤ (xq_en T s 100 0 S).1
  · simp only [if_pos cc]
    simp (disch := omega) only [↓ra_136_46, xa_kli, xa_klr, xa_kll, xa_ki, xa_kl, xa_kr, xa_kii, xa_kk, xa_kir, xa_krr, xa_kiir, xa_krir, xa_kdup, xa_kdup2, xa_kcp, xa_gf, xa_pf, xa_ga, xa_pa, xa_gq, xa_pq, xa_gl, xa_args, xa_ri, xa_rz, xa_rv, xa_s1, xa_s2, xa_c1, eq_self, List.getElem?_cons_succ, List.getElem?_cons_zero, true_and, and_true, nI_add, pk_mul, xt_in, xt_cl, xt_i0, xt_i1, xa_kc, xa_w8, xa_fit, lg_sl, List.flatMap_cons, List.flatMap_nil, List.map_cons, List.map_nil, List.sum_cons, List.sum_nil, Value.category, List.length_cons, List.length_nil, List.length_append, xa_rc, xa_rf, exists_eq_left, exists_eq', Option.some.injEq, Sum.inr.injEq, Prod.mk.injEq, Option.toList_some, Option.toList_none, List.cons_append, List.nil_append, Nat.reduceAdd, Nat.reduceLeDiff, Nat.reduceLT, List.set_cons_zero, List.set_cons_succ, eq_self, or_true, true_or, reduceIte, xt_ne]
    refine last lv _ h0 ?_
    rw [ef, ee.1, if_neg (show ¬ (xq_en T s 100 0 S).1 ≤ 99 by omega), ite_self]
    rfl
  · simp only [if_neg cc]
    simp (disch := omega) only [↓ra_136_33, ↓ra_136_34, ↓ra_136_35, ↓ra_136_38, ↓ra_136_39, xa_kli, xa_klr, xa_kll, xa_ki, xa_kl, xa_kr, xa_kii, xa_kk, xa_kir, xa_krr, xa_kiir, xa_krir, xa_kdup, xa_kdup2, xa_kcp, xa_gf, xa_pf, xa_ga, xa_pa, xa_gq, xa_pq, xa_gl, xa_args, xa_ri, xa_rz, xa_rv, xa_s1, xa_s2, xa_c1, eq_self, List.getElem?_cons_succ, List.getElem?_cons_zero, true_and, and_true, nI_add, pk_mul, xt_in, xt_cl, xt_i0, xt_i1, xa_kc, xa_w8, xa_fit, lg_sl, List.flatMap_cons, List.flatMap_nil, List.map_cons, List.map_nil, List.sum_cons, List.sum_nil, Value.category, List.length_cons, List.length_nil, List.length_append, xa_rc, xa_rf, exists_eq_left, exists_eq', Option.some.injEq, Sum.inr.injEq, Prod.mk.injEq, Option.toList_some, Option.toList_none, List.cons_append, List.nil_append, Nat.reduceAdd, Nat.reduceLeDiff, Nat.reduceLT, List.set_cons_zero, List.set_cons_succ, eq_self, or_true, true_or, reduceIte, xt_ne, h0, h1, h2, k0, ch, mx_99, xt_eq]
    have e2 := ee.2 (by omega)
    by_cases c3' : xsh (xq_en T s 100 0 S).2 s = 3
    · simp only [if_pos c3']
      simp (disch := omega) only [↓ra_136_42, ↓ra_136_43, xa_kli, xa_klr, xa_kll, xa_ki, xa_kl, xa_kr, xa_kii, xa_kk, xa_kir, xa_krr, xa_kiir, xa_krir, xa_kdup, xa_kdup2, xa_kcp, xa_gf, xa_pf, xa_ga, xa_pa, xa_gq, xa_pq, xa_gl, xa_args, xa_ri, xa_rz, xa_rv, xa_s1, xa_s2, xa_c1, eq_self, List.getElem?_cons_succ, List.getElem?_cons_zero, true_and, and_true, nI_add, pk_mul, xt_in, xt_cl, xt_i0, xt_i1, xa_kc, xa_w8, xa_fit, lg_sl, List.flatMap_cons, List.flatMap_nil, List.map_cons, List.map_nil, List.sum_cons, List.sum_nil, Value.category, List.length_cons, List.length_nil, List.length_append, xa_rc, xa_rf, exists_eq_left, exists_eq', Option.some.injEq, Sum.inr.injEq, Prod.mk.injEq, Option.toList_some, Option.toList_none, List.cons_append, List.nil_append, Nat.reduceAdd, Nat.reduceLeDiff, Nat.reduceLT, List.set_cons_zero, List.set_cons_succ, eq_self, or_true, true_or, reduceIte, xt_ne, h2]
      refine last lv _ h0 ?_
      rw [ef, e2, if_pos c3', ee.1, if_pos (by omega)]
      rfl
    · simp only [if_neg c3']
      simp (disch := omega) only [↓ra_136_46, xa_kli, xa_klr, xa_kll, xa_ki, xa_kl, xa_kr, xa_kii, xa_kk, xa_kir, xa_krr, xa_kiir, xa_krir, xa_kdup, xa_kdup2, xa_kcp, xa_gf, xa_pf, xa_ga, xa_pa, xa_gq, xa_pq, xa_gl, xa_args, xa_ri, xa_rz, xa_rv, xa_s1, xa_s2, xa_c1, eq_self, List.getElem?_cons_succ, List.getElem?_cons_zero, true_and, and_true, nI_add, pk_mul, xt_in, xt_cl, xt_i0, xt_i1, xa_kc, xa_w8, xa_fit, lg_sl, List.flatMap_cons, List.flatMap_nil, List.map_cons, List.map_nil, List.sum_cons, List.sum_nil, Value.category, List.length_cons, List.length_nil, List.length_append, xa_rc, xa_rf, exists_eq_left, exists_eq', Option.some.injEq, Sum.inr.injEq, Prod.mk.injEq, Option.toList_some, Option.toList_none, List.cons_append, List.nil_append, Nat.reduceAdd, Nat.reduceLeDiff, Nat.reduceLT, List.set_cons_zero, List.set_cons_succ, eq_self, or_true, true_or, reduceIte, xt_ne]
      refine last lv _ h0 ?_
      rw [ef, e2, if_neg c3']
      rfl
