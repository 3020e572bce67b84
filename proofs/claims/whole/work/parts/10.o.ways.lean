theorem xt_nb : ∀ b : Nat, b < 2 → vp_nar .boolean (nI b) = nI b := by decide +kernel
theorem pd_spot {M : xa_M} (a b d : Nat) : xa_E 138 0 (xa_ent [.int (nI a), .int (nI b), .int (nI d)]) [] M (some (.int (nI (18 * a + 3 * b + d))), M) := by
  refine xa_go3 (fun lv h0 h1 h2 => ?_)
  simp (disch := omega) only [↓ra_138_0, ↓ra_138_2, ↓ra_138_3, ↓ra_138_4, ↓ra_138_5, ↓ra_138_6, ↓ra_138_7, ↓ra_138_8, ↓ra_138_9, ↓ra_138_10, xa_kli, xa_klr, xa_kll, xa_ki, xa_kl, xa_kr, xa_kii, xa_kk, xa_kir, xa_krr, xa_kiir, xa_krir, xa_kdup, xa_kdup2, xa_kcp, xa_gf, xa_pf, xa_ga, xa_pa, xa_gq, xa_pq, xa_gl, xa_args, xa_ri, xa_rz, xa_rv, xa_s1, xa_s2, xa_c1, eq_self, List.getElem?_cons_succ, List.getElem?_cons_zero, true_and, and_true, nI_add, pk_mul, xt_in, xt_cl, xt_i0, xt_i1, xa_kc, xa_w8, xa_fit, lg_sl, List.flatMap_cons, List.flatMap_nil, List.map_cons, List.map_nil, List.sum_cons, List.sum_nil, Value.category, List.length_cons, List.length_nil, List.length_append, xa_rc, xa_rf, exists_eq_left, exists_eq', Option.some.injEq, Sum.inr.injEq, Prod.mk.injEq, Option.toList_some, Option.toList_none, List.cons_append, List.nil_append, Nat.reduceAdd, Nat.reduceLeDiff, Nat.reduceLT, List.set_cons_zero, List.set_cons_succ, eq_self, or_true, true_or, reduceIte, xt_ne, h0, h1, h2]
/-- who is near -/
theorem xt_nr : ∀ C, C < 7 → 2 ≤ C → ∀ q, q < C → ∀ r, r < C → (((r + 1) % C = q) ↔ (r = (q + C - 1) % C)) := by decide +kernel
theorem xq_near_m {C q r : Nat} (h2 : 2 ≤ C) (h6 : C ≤ 6) (hq : q < C) (hr : r < C) : xq_near C q r = (decide (r = q) || (decide (r = (q + 1) % C) || decide (r = (q + C - 1) % C))) := by
  unfold xq_near
  have e : decide ((r + 1) % C = q) = decide (r = (q + C - 1) % C) := decide_eq_decide.mpr (xt_nr C (by omega) h2 q hq r hr)
  have e2 : decide ((q + 1) % C = r) = decide (r = (q + 1) % C) := decide_eq_decide.mpr ⟨fun h => h.symm, fun h => h.symm⟩
  rw [e, e2]
theorem xq_reach_m {C q : Nat} {p : Nat → Bool} (h2 : 2 ≤ C) (h6 : C ≤ 6) (hq : q < C) : xq_reach C p q = (p q || (p ((q + 1) % C) || p ((q + C - 1) % C))) := by
  have m1 : (q + 1) % C < C := Nat.mod_lt _ (by omega)
  have m2 : (q + C - 1) % C < C := Nat.mod_lt _ (by omega)
  unfold xq_reach
  cases h : (p q || (p ((q + 1) % C) || p ((q + C - 1) % C))) with
  | false =>
    rw [Bool.or_eq_false_iff, Bool.or_eq_false_iff] at h
    have : xt_lo (fun r => p r && xq_near C q r) C = none := (xt_lo_none C).mpr (fun j hj => by
      show (p j && xq_near C q j) = false
      rw [xq_near_m h2 h6 hq hj]
      by_cases e1 : j = q
      · rw [e1, h.1]; simp
      · by_cases e2 : j = (q + 1) % C
        · rw [e2, h.2.1]; simp
        · by_cases e3 : j = (q + C - 1) % C
          · rw [e3, h.2.2]; simp
          · rw [decide_eq_false e1, decide_eq_false e2, decide_eq_false e3]; simp)
    rw [this]; rfl
  | true =>
    cases hl : xt_lo (fun r => p r && xq_near C q r) C with
    | some r => rfl
    | none =>
      have hn := (xt_lo_none C).mp hl
      rw [Bool.or_eq_true, Bool.or_eq_true] at h
      rcases h with h | h | h
      · have := hn q hq
        rw [h, xq_near_m h2 h6 hq hq] at this
        simp at this
      · have := hn _ m1
        rw [h, xq_near_m h2 h6 hq m1] at this
        simp at this
      · have := hn _ m2
        rw [h, xq_near_m h2 h6 hq m2] at this
        simp at this
/-- the posts alone are others -/
def xq_wp (S : xt_S) (P : Nat → Nat) : xt_S := (xsd S, xsh S, xsq S, xss S, xsm S, P)
theorem pd_menGo1 {M : xa_M} {c n : Nat} {r : Nat → Int32} {g : Nat → Nat → Int32} {T : xt_T} {S : xt_S} {P : Nat → Nat} (hA : xv_A M c r g T n (xq_wp S P)) (iT : xi_T T) (iP : xi_P T P) : ∃ z, xa_E 119 0 (xa_ent [.ref c]) [] M z ∧ z.1 = none ∧ ∃ h, xn c M r (xb_u g 2 h) z.2 ∧ xv_A z.2 c r (xb_u g 2 h) T n (xq_wp S (xq_pm T P)) := by
  have b6 := iT.1.2.2.2.2.2.1
  obtain ⟨z, q1, q2, h, q3, q4, q5, q6⟩ := pd_menGoOn hA iT iP
  refine ⟨z, q1, q2, h, q3, xv_up hA.2.1 q3 ⟨?_, fun s hs => ?_, q5⟩ q6⟩
  · rw [q4 0 (by omega)]; exact hA.2.2.1.1
  · rw [q4 _ (by omega), q4 _ (by omega), q4 _ (by omega), q4 _ (by omega)]; exact hA.2.2.1.2.1 s hs
/-- what a way may change -/
def xy (g g2 : Nat → Nat → Int32) : Prop := g2 1 = g 1 ∧ (∀ k, k < 31 → g2 2 k = g 2 k) ∧ g2 3 = g 3 ∧ g2 5 = g 5 ∧ g2 8 = g 8 ∧ g2 9 = g 9
theorem xy_w {r : Nat → Int32} {g g2 : Nat → Nat → Int32} {A : xt_A} (hw : xw r g A) (iA : xi_A A) (z : xy g g2) : xw r g2 A := by
  obtain ⟨z1, z2, z3, z5, z8, z9⟩ := z
  exact xw_ch hw iA rfl rfl rfl rfl rfl rfl rfl rfl z1 z2 z3 z5 z8 z9
theorem pd_ways_go {M : xa_M} {c n d : Nat} {r : Nat → Int32} {T : xt_T} {S : xt_S} {P : Nat → Nat} (iT : xi_T T) (iP : xi_P T P) (hd : d < 1000) {x0 x1 x2 x3 : Option Value} (e0 : x0 = some (.ref c)) (ed : x3 = some (.int (nI d))) (oo : xa_c1 x0 = x0 ∧ xa_c1 x1 = x1 ∧ xa_c1 x2 = x2 ∧ xa_c1 x3 = x3) : ∀ (k i : Nat) (lv : xa_L) (M1 : xa_M) (g : Nat → Nat → Int32), lv 0 = x0 → lv 1 = x1 → lv 2 = x2 → lv 3 = x3 → lv 4 = some (.int (nI i)) → i + k = d → xa_fr c (c + 10) M M1 → xv_A M1 c r g T n (xq_wp S (xq_pd T i P)) → ∀ Q : xa_Z → Prop, (∀ (lv : xa_L) (M2 : xa_M) (h : Nat → Int32), lv 0 = x0 → lv 1 = x1 → lv 2 = x2 → lv 3 = x3 → xa_fr c (c + 10) M M2 → xv_A M2 c r (xb_u g 2 h) T n (xq_wp S (xq_pd T d P)) → ∃ z, xa_E 139 73 lv [] M2 z ∧ Q z) → ∃ z, xa_E 139 57 lv [] M1 z ∧ Q z := by
  obtain ⟨o0, o1, o2, o3⟩ := oo
  intro k
  induction k with
  | zero =>
    intro i lv M1 g h0 h1 h2 h3 hi e fr hA Q K
    have e : i = d := by omega
    subst e
    have h0' := h0.trans e0
    have hd' := h3.trans ed
    simp (disch := omega) only [↓ra_139_57, ↓ra_139_59, ↓ra_139_60, xa_kli, xa_klr, xa_kll, xa_ki, xa_kl, xa_kr, xa_kii, xa_kk, xa_kir, xa_krr, xa_kiir, xa_krir, xa_kdup, xa_kdup2, xa_kcp, xa_gf, xa_pf, xa_ga, xa_pa, xa_gq, xa_pq, xa_gl, xa_args, xa_ri, xa_rz, xa_rv, xa_s1, xa_s2, xa_c1, eq_self, List.getElem?_cons_succ, List.getElem?_cons_zero, true_and, and_true, nI_add, pk_mul, xt_in, xt_cl, xt_i0, xt_i1, xa_kc, xa_w8, xa_fit, lg_sl, List.flatMap_cons, List.flatMap_nil, List.map_cons, List.map_nil, List.sum_cons, List.sum_nil, Value.category, List.length_cons, List.length_nil, List.length_append, xa_rc, xa_rf, exists_eq_left, exists_eq', Option.some.injEq, Sum.inr.injEq, Prod.mk.injEq, Option.toList_some, Option.toList_none, List.cons_append, List.nil_append, Nat.reduceAdd, Nat.reduceLeDiff, Nat.reduceLT, List.set_cons_zero, List.set_cons_succ, eq_self, or_true, true_or, reduceIte, xt_ne, hd', hi, xt_le, Nat.le_refl]
    exact K lv M1 (g 2) h0 h1 h2 h3 fr (by rw [xb_ui]; exact hA)
  | succ k ih =>
    intro i lv M1 g h0 h1 h2 h3 hi e fr hA Q K
    have h0' := h0.trans e0
    have hd' := h3.trans ed
    obtain ⟨m0, -⟩ := id hA.1
    unfold xb_c at m0
    obtain ⟨⟨z2, M2⟩, cE2, c2, h, hn2, hA2⟩ := pd_menGo1 hA iT (xi_pd (by have := iT.1; omega) iP i)
    have c2 : z2 = none := c2
    subst c2
    dsimp only at hn2 hA2
    simp (disch := omega) only [↓ra_139_57, ↓ra_139_59, ↓ra_139_60, xa_kli, xa_klr, xa_kll, xa_ki, xa_kl, xa_kr, xa_kii, xa_kk, xa_kir, xa_krr, xa_kiir, xa_krir, xa_kdup, xa_kdup2, xa_kcp, xa_gf, xa_pf, xa_ga, xa_pa, xa_gq, xa_pq, xa_gl, xa_args, xa_ri, xa_rz, xa_rv, xa_s1, xa_s2, xa_c1, eq_self, List.getElem?_cons_succ, List.getElem?_cons_zero, true_and, and_true, nI_add, pk_mul, xt_in, xt_cl, xt_i0, xt_i1, xa_kc, xa_w8, xa_fit, lg_sl, List.flatMap_cons, List.flatMap_nil, List.map_cons, List.map_nil, List.sum_cons, List.sum_nil, Value.category, List.length_cons, List.length_nil, List.length_append, xa_rc, xa_rf, exists_eq_left, exists_eq', Option.some.injEq, Sum.inr.injEq, Prod.mk.injEq, Option.toList_some, Option.toList_none, List.cons_append, List.nil_append, Nat.reduceAdd, Nat.reduceLeDiff, Nat.reduceLT, List.set_cons_zero, List.set_cons_succ, eq_self, or_true, true_or, reduceIte, xt_ne, hd', hi, xt_le]
    simp only [if_neg (show ¬ d ≤ i by omega)]
    simp (disch := omega) only [↓ra_139_63, ↓ra_139_64, ↓ra_139_67, ↓ra_139_70, xa_kli, xa_klr, xa_kll, xa_ki, xa_kl, xa_kr, xa_kii, xa_kk, xa_kir, xa_krr, xa_kiir, xa_krir, xa_kdup, xa_kdup2, xa_kcp, xa_gf, xa_pf, xa_ga, xa_pa, xa_gq, xa_pq, xa_gl, xa_args, xa_ri, xa_rz, xa_rv, xa_s1, xa_s2, xa_c1, eq_self, List.getElem?_cons_succ, List.getElem?_cons_zero, true_and, and_true, nI_add, pk_mul, xt_in, xt_cl, xt_i0, xt_i1, xa_kc, xa_w8, xa_fit, lg_sl, List.flatMap_cons, List.flatMap_nil, List.map_cons, List.map_nil, List.sum_cons, List.sum_nil, Value.category, List.length_cons, List.length_nil, List.length_append, xa_rc, xa_rf, exists_eq_left, exists_eq', Option.some.injEq, Sum.inr.injEq, Prod.mk.injEq, Option.toList_some, Option.toList_none, List.cons_append, List.nil_append, Nat.reduceAdd, Nat.reduceLeDiff, Nat.reduceLT, List.set_cons_zero, List.set_cons_succ, eq_self, or_true, true_or, reduceIte, xt_ne, h0', hi, m0, xa_iff cE2, mx_119]
    exact ih (i + 1) _ M2 _ (by simp [xa_s1, h0, o0]) (by simp [xa_s1, h1, o1]) (by simp [xa_s1, h2, o2]) (by simp [xa_s1, h3, o3]) (by simp [xa_s1]) (by omega) (xa_fr_tr fr hn2.1) hA2 Q (fun lv M3 hw3 h0 h1 h2 h3 f3 hA3 => K lv M3 hw3 h0 h1 h2 h3 f3 (by rw [xb_u2] at hA3; exact hA3))
theorem pd_way_go {M : xa_M} {c n d : Nat} {r : Nat → Int32} {T : xt_T} {S : xt_S} {P : Nat → Nat} (iT : xi_T T) (iP : xi_P T P) (hd : d < 1000) {x0 x1 x2 x3 x4 x5 x6 x7 x8 : Option Value} (e0 : x0 = some (.ref c)) (ed : x7 = some (.int (nI d))) (oo : xa_c1 x0 = x0 ∧ xa_c1 x1 = x1 ∧ xa_c1 x2 = x2 ∧ xa_c1 x3 = x3 ∧ xa_c1 x4 = x4 ∧ xa_c1 x5 = x5 ∧ xa_c1 x6 = x6 ∧ xa_c1 x7 = x7 ∧ xa_c1 x8 = x8) : ∀ (k i : Nat) (lv : xa_L) (M1 : xa_M) (g : Nat → Nat → Int32), lv 0 = x0 → lv 1 = x1 → lv 2 = x2 → lv 3 = x3 → lv 4 = x4 → lv 5 = x5 → lv 6 = x6 → lv 7 = x7 → lv 8 = x8 → lv 9 = some (.int (nI i)) → i + k = d → xa_fr c (c + 10) M M1 → xv_A M1 c r g T n (xq_wp S (xq_pd T i P)) → ∀ Q : xa_Z → Prop, (∀ (lv : xa_L) (M2 : xa_M) (h : Nat → Int32), lv 0 = x0 → lv 1 = x1 → lv 2 = x2 → lv 3 = x3 → lv 4 = x4 → lv 5 = x5 → lv 6 = x6 → lv 7 = x7 → lv 8 = x8 → xa_fr c (c + 10) M M2 → xv_A M2 c r (xb_u g 2 h) T n (xq_wp S (xq_pd T d P)) → ∃ z, xa_E 140 233 lv [] M2 z ∧ Q z) → ∃ z, xa_E 140 216 lv [] M1 z ∧ Q z := by
  obtain ⟨o0, o1, o2, o3, o4, o5, o6, o7, o8⟩ := oo
  intro k
  induction k with
  | zero =>
    intro i lv M1 g h0 h1 h2 h3 h4 h5 h6 h7 h8 hi e fr hA Q K
    have e : i = d := by omega
    subst e
    have h0' := h0.trans e0
    have hd' := h7.trans ed
    simp (disch := omega) only [↓ra_140_216, ↓ra_140_218, ↓ra_140_220, xa_kli, xa_klr, xa_kll, xa_ki, xa_kl, xa_kr, xa_kii, xa_kk, xa_kir, xa_krr, xa_kiir, xa_krir, xa_kdup, xa_kdup2, xa_kcp, xa_gf, xa_pf, xa_ga, xa_pa, xa_gq, xa_pq, xa_gl, xa_args, xa_ri, xa_rz, xa_rv, xa_s1, xa_s2, xa_c1, eq_self, List.getElem?_cons_succ, List.getElem?_cons_zero, true_and, and_true, nI_add, pk_mul, xt_in, xt_cl, xt_i0, xt_i1, xa_kc, xa_w8, xa_fit, lg_sl, List.flatMap_cons, List.flatMap_nil, List.map_cons, List.map_nil, List.sum_cons, List.sum_nil, Value.category, List.length_cons, List.length_nil, List.length_append, xa_rc, xa_rf, exists_eq_left, exists_eq', Option.some.injEq, Sum.inr.injEq, Prod.mk.injEq, Option.toList_some, Option.toList_none, List.cons_append, List.nil_append, Nat.reduceAdd, Nat.reduceLeDiff, Nat.reduceLT, List.set_cons_zero, List.set_cons_succ, eq_self, or_true, true_or, reduceIte, xt_ne, hd', hi, xt_le, Nat.le_refl]
    exact K lv M1 (g 2) h0 h1 h2 h3 h4 h5 h6 h7 h8 fr (by rw [xb_ui]; exact hA)
  | succ k ih =>
    intro i lv M1 g h0 h1 h2 h3 h4 h5 h6 h7 h8 hi e fr hA Q K
    have h0' := h0.trans e0
    have hd' := h7.trans ed
    obtain ⟨m0, -⟩ := id hA.1
    unfold xb_c at m0
    obtain ⟨⟨z2, M2⟩, cE2, c2, h, hn2, hA2⟩ := pd_menGo1 hA iT (xi_pd (by have := iT.1; omega) iP i)
    have c2 : z2 = none := c2
    subst c2
    dsimp only at hn2 hA2
    simp (disch := omega) only [↓ra_140_216, ↓ra_140_218, ↓ra_140_220, xa_kli, xa_klr, xa_kll, xa_ki, xa_kl, xa_kr, xa_kii, xa_kk, xa_kir, xa_krr, xa_kiir, xa_krir, xa_kdup, xa_kdup2, xa_kcp, xa_gf, xa_pf, xa_ga, xa_pa, xa_gq, xa_pq, xa_gl, xa_args, xa_ri, xa_rz, xa_rv, xa_s1, xa_s2, xa_c1, eq_self, List.getElem?_cons_succ, List.getElem?_cons_zero, true_and, and_true, nI_add, pk_mul, xt_in, xt_cl, xt_i0, xt_i1, xa_kc, xa_w8, xa_fit, lg_sl, List.flatMap_cons, List.flatMap_nil, List.map_cons, List.map_nil, List.sum_cons, List.sum_nil, Value.category, List.length_cons, List.length_nil, List.length_append, xa_rc, xa_rf, exists_eq_left, exists_eq', Option.some.injEq, Sum.inr.injEq, Prod.mk.injEq, Option.toList_some, Option.toList_none, List.cons_append, List.nil_append, Nat.reduceAdd, Nat.reduceLeDiff, Nat.reduceLT, List.set_cons_zero, List.set_cons_succ, eq_self, or_true, true_or, reduceIte, xt_ne, hd', hi, xt_le]
    simp only [if_neg (show ¬ d ≤ i by omega)]
    simp (disch := omega) only [↓ra_140_223, ↓ra_140_224, ↓ra_140_227, ↓ra_140_230, xa_kli, xa_klr, xa_kll, xa_ki, xa_kl, xa_kr, xa_kii, xa_kk, xa_kir, xa_krr, xa_kiir, xa_krir, xa_kdup, xa_kdup2, xa_kcp, xa_gf, xa_pf, xa_ga, xa_pa, xa_gq, xa_pq, xa_gl, xa_args, xa_ri, xa_rz, xa_rv, xa_s1, xa_s2, xa_c1, eq_self, List.getElem?_cons_succ, List.getElem?_cons_zero, true_and, and_true, nI_add, pk_mul, xt_in, xt_cl, xt_i0, xt_i1, xa_kc, xa_w8, xa_fit, lg_sl, List.flatMap_cons, List.flatMap_nil, List.map_cons, List.map_nil, List.sum_cons, List.sum_nil, Value.category, List.length_cons, List.length_nil, List.length_append, xa_rc, xa_rf, exists_eq_left, exists_eq', Option.some.injEq, Sum.inr.injEq, Prod.mk.injEq, Option.toList_some, Option.toList_none, List.cons_append, List.nil_append, Nat.reduceAdd, Nat.reduceLeDiff, Nat.reduceLT, List.set_cons_zero, List.set_cons_succ, eq_self, or_true, true_or, reduceIte, xt_ne, h0', hi, m0, xa_iff cE2, mx_119]
    exact ih (i + 1) _ M2 _ (by simp [xa_s1, h0, o0]) (by simp [xa_s1, h1, o1]) (by simp [xa_s1, h2, o2]) (by simp [xa_s1, h3, o3]) (by simp [xa_s1, h4, o4]) (by simp [xa_s1, h5, o5]) (by simp [xa_s1, h6, o6]) (by simp [xa_s1, h7, o7]) (by simp [xa_s1, h8, o8]) (by simp [xa_s1]) (by omega) (xa_fr_tr fr hn2.1) hA2 Q (fun lv M3 hw3 h0 h1 h2 h3 h4 h5 h6 h7 h8 f3 hA3 => K lv M3 hw3 h0 h1 h2 h3 h4 h5 h6 h7 h8 f3 (by rw [xb_u2] at hA3; exact hA3))
def xq_v (C : Nat) (F : Nat → Nat → Bool) (L d q l : Nat) : Nat := if xq_can C F (L - d) d l q = true then 1 else 0
theorem xq_v2 (C : Nat) (F : Nat → Nat → Bool) (L d q l : Nat) : xq_v C F L d q l < 2 := by unfold xq_v; split <;> omega
theorem pd_ways {M : xa_M} {c L s : Nat} {r : Nat → Int32} {g : Nat → Nat → Int32} {T : xt_T} {S : xt_S} (hA : xv_A M c r g T (xnM T) S) (iT : xi_T T) (iP : xi_P T (xsp S)) (hL : L ≤ 60) (hs : s < xnS T) : ∃ z, xa_E 139 0 (xa_ent [.ref c, .int (nI s), .int (nI L)]) [] M z ∧ z.1 = none ∧ ∃ g2, xn c M r g2 z.2 ∧ xy g g2 ∧ ∀ d q l, d ≤ L → q < xC T → l < 3 → g2 7 (18 * d + 3 * q + l) = nI (xq_v (xC T) (xq_F T (xsp S) s) L d q l) := by
  obtain ⟨⟨b1, b2, b3, b4, b5, b6, b7, b8⟩, bs, bm, bw⟩ := id iT
  obtain ⟨hB, hV, hS, he⟩ := id hA
  have nl := xv_nle hV
  obtain ⟨⟨v0, v1, v2, v3, v4, v5⟩, -⟩ := id hV
  generalize hF : xq_F T (xsp S) s = F
  refine xa_ge3 (fun lv h0 h1 h2 => ?_)
  -- days from the last back
  have days : ∀ (e : Nat) (lv : xa_L) (M1 : xa_M) (g1 : Nat → Nat → Int32), lv 0 = some (.ref c) → lv 1 = some (.int (nI s)) → lv 2 = some (.int (nI L)) → lv 3 = some (.int (xt_d e)) → e ≤ L → xn c M r g1 M1 → xy g g1 → (∀ d q l, e ≤ d → d ≤ L → q < xC T → l < 3 → g1 7 (18 * d + 3 * q + l) = nI (xq_v (xC T) F L d q l)) → ∃ z, xa_E 139 46 lv [] M1 z ∧ z.1 = none ∧ ∃ g2, xn c M r g2 z.2 ∧ xy g g2 ∧ ∀ d q l, d ≤ L → q < xC T → l < 3 → g2 7 (18 * d + 3 * q + l) = nI (xq_v (xC T) F L d q l) := by
    intro e
    induction e with
    | zero =>
      intro lv M1 g1 h0 h1 h2 h3 le hn yy hv
      have hd : xt_d 0 < nI 0 := by decide
      simp (disch := omega) only [↓ra_139_46, ↓ra_139_47, xa_kli, xa_klr, xa_kll, xa_ki, xa_kl, xa_kr, xa_kii, xa_kk, xa_kir, xa_krr, xa_kiir, xa_krir, xa_kdup, xa_kdup2, xa_kcp, xa_gf, xa_pf, xa_ga, xa_pa, xa_gq, xa_pq, xa_gl, xa_args, xa_ri, xa_rz, xa_rv, xa_s1, xa_s2, xa_c1, eq_self, List.getElem?_cons_succ, List.getElem?_cons_zero, true_and, and_true, nI_add, pk_mul, xt_in, xt_cl, xt_i0, xt_i1, xa_kc, xa_w8, xa_fit, lg_sl, List.flatMap_cons, List.flatMap_nil, List.map_cons, List.map_nil, List.sum_cons, List.sum_nil, Value.category, List.length_cons, List.length_nil, List.length_append, xa_rc, xa_rf, exists_eq_left, exists_eq', Option.some.injEq, Sum.inr.injEq, Prod.mk.injEq, Option.toList_some, Option.toList_none, List.cons_append, List.nil_append, Nat.reduceAdd, Nat.reduceLeDiff, Nat.reduceLT, List.set_cons_zero, List.set_cons_succ, eq_self, or_true, true_or, reduceIte, xt_ne, h3, hd, if_true]
      simp (disch := omega) only [↓ra_139_240, xa_kli, xa_klr, xa_kll, xa_ki, xa_kl, xa_kr, xa_kii, xa_kk, xa_kir, xa_krr, xa_kiir, xa_krir, xa_kdup, xa_kdup2, xa_kcp, xa_gf, xa_pf, xa_ga, xa_pa, xa_gq, xa_pq, xa_gl, xa_args, xa_ri, xa_rz, xa_rv, xa_s1, xa_s2, xa_c1, eq_self, List.getElem?_cons_succ, List.getElem?_cons_zero, true_and, and_true, nI_add, pk_mul, xt_in, xt_cl, xt_i0, xt_i1, xa_kc, xa_w8, xa_fit, lg_sl, List.flatMap_cons, List.flatMap_nil, List.map_cons, List.map_nil, List.sum_cons, List.sum_nil, Value.category, List.length_cons, List.length_nil, List.length_append, xa_rc, xa_rf, exists_eq_left, exists_eq', Option.some.injEq, Sum.inr.injEq, Prod.mk.injEq, Option.toList_some, Option.toList_none, List.cons_append, List.nil_append, Nat.reduceAdd, Nat.reduceLeDiff, Nat.reduceLT, List.set_cons_zero, List.set_cons_succ, eq_self, or_true, true_or, reduceIte, xt_ne]
      exact ⟨g1, hn, yy, fun d q l a b x => hv d q l (by omega) a b x⟩
    | succ d ih =>
      intro lv M1 g1 h0 h1 h2 h3 le hn yy hv
      have ed : xt_d (d + 1) = nI d := by unfold xt_d; rw [if_neg (by omega)]; rfl
      rw [ed] at h3
      obtain ⟨⟨z2, M2⟩, cE2, c2, h6, hn2, e6⟩ := pd_asides hn.2
      have c2 : z2 = none := c2
      subst c2
      dsimp only at hn2
      have hA2 : xv_A M2 c r (xb_u g1 6 h6) T (xnM T) (xq_wp S (xq_pd T 0 (xsp S))) := ⟨hn2.2, by show xv_T r (g1 1) T _; rw [yy.1]; exact hV, xv_S_cg hS yy.2.1 b6 (by omega), fun h => by omega⟩
      obtain ⟨m0, -⟩ := id hn.2
      unfold xb_c at m0
      simp (disch := omega) only [↓ra_139_46, ↓ra_139_47, ↓ra_139_50, ↓ra_139_51, ↓ra_139_54, ↓ra_139_55, xa_kli, xa_klr, xa_kll, xa_ki, xa_kl, xa_kr, xa_kii, xa_kk, xa_kir, xa_krr, xa_kiir, xa_krir, xa_kdup, xa_kdup2, xa_kcp, xa_gf, xa_pf, xa_ga, xa_pa, xa_gq, xa_pq, xa_gl, xa_args, xa_ri, xa_rz, xa_rv, xa_s1, xa_s2, xa_c1, eq_self, List.getElem?_cons_succ, List.getElem?_cons_zero, true_and, and_true, nI_add, pk_mul, xt_in, xt_cl, xt_i0, xt_i1, xa_kc, xa_w8, xa_fit, lg_sl, List.flatMap_cons, List.flatMap_nil, List.map_cons, List.map_nil, List.sum_cons, List.sum_nil, Value.category, List.length_cons, List.length_nil, List.length_append, xa_rc, xa_rf, exists_eq_left, exists_eq', Option.some.injEq, Sum.inr.injEq, Prod.mk.injEq, Option.toList_some, Option.toList_none, List.cons_append, List.nil_append, Nat.reduceAdd, Nat.reduceLeDiff, Nat.reduceLT, List.set_cons_zero, List.set_cons_succ, eq_self, or_true, true_or, reduceIte, xt_ne, h0, h3, xt_lt, Nat.not_lt_zero, if_false, m0, xa_iff cE2, mx_132]
      refine pd_ways_go (x0 := some (.ref c)) (x1 := some (.int (nI s))) (x2 := some (.int (nI L))) (x3 := some (.int (nI d))) iT iP (show d < 1000 by omega) rfl rfl ⟨rfl, rfl, rfl, rfl⟩ d 0 _ M2 _ (by simp [xa_s1, xa_c1, h0]) (by simp [xa_s1, xa_c1, h1]) (by simp [xa_s1, xa_c1, h2]) (by simp [xa_s1, xa_c1, h3]) (by simp [xa_s1, xa_c1]) (by omega) (xa_fr_tr hn.1 hn2.1) hA2 _ (fun lv M3 h h0 h1 h2 h3 f3 hA3 => ?_)
      have iPd := xi_pd b3 iP d
      -- the quarters
      have quarters : ∀ (kq q : Nat) (lv : xa_L) (M4 : xa_M) (h7 : Nat → Int32), lv 0 = some (.ref c) → lv 1 = some (.int (nI s)) → lv 2 = some (.int (nI L)) → lv 3 = some (.int (nI d)) → lv 4 = some (.int (nI (xC T))) → lv 5 = some (.int (nI q)) → q + kq = xC T → xn c M r (xb_u (xb_u (xb_u g1 6 h6) 2 h) 7 h7) M4 → (∀ d' q' l, d + 1 ≤ d' → d' ≤ L → q' < xC T → l < 3 → h7 (18 * d' + 3 * q' + l) = nI (xq_v (xC T) F L d' q' l)) → (∀ q' l, q' < q → l < 3 → h7 (18 * d + 3 * q' + l) = nI (xq_v (xC T) F L d q' l)) → ∃ z, xa_E 139 84 lv [] M4 z ∧ z.1 = none ∧ ∃ g2, xn c M r g2 z.2 ∧ xy g g2 ∧ ∀ d q l, d ≤ L → q < xC T → l < 3 → g2 7 (18 * d + 3 * q + l) = nI (xq_v (xC T) F L d q l) := by
        intro kq
        induction kq with
        | zero =>
          intro q lv M4 h7 h0 h1 h2 h3 h4 h5 e hn4 hv4 hq4
          have e : q = xC T := by omega
          subst e
          obtain ⟨k0, -⟩ := id hn4.2
          unfold xb_c at k0
          obtain ⟨⟨z5, M5⟩, cE5, c5, h5', hn5, e5⟩ := pd_backs hn4.2
          have c5 : z5 = none := c5
          subst c5
          dsimp only at hn5
          simp (disch := omega) only [↓ra_139_84, ↓ra_139_86, ↓ra_139_88, ↓ra_139_230, ↓ra_139_231, ↓ra_139_234, ↓ra_139_237, xa_kli, xa_klr, xa_kll, xa_ki, xa_kl, xa_kr, xa_kii, xa_kk, xa_kir, xa_krr, xa_kiir, xa_krir, xa_kdup, xa_kdup2, xa_kcp, xa_gf, xa_pf, xa_ga, xa_pa, xa_gq, xa_pq, xa_gl, xa_args, xa_ri, xa_rz, xa_rv, xa_s1, xa_s2, xa_c1, eq_self, List.getElem?_cons_succ, List.getElem?_cons_zero, true_and, and_true, nI_add, pk_mul, xt_in, xt_cl, xt_i0, xt_i1, xa_kc, xa_w8, xa_fit, lg_sl, List.flatMap_cons, List.flatMap_nil, List.map_cons, List.map_nil, List.sum_cons, List.sum_nil, Value.category, List.length_cons, List.length_nil, List.length_append, xa_rc, xa_rf, exists_eq_left, exists_eq', Option.some.injEq, Sum.inr.injEq, Prod.mk.injEq, Option.toList_some, Option.toList_none, List.cons_append, List.nil_append, Nat.reduceAdd, Nat.reduceLeDiff, Nat.reduceLT, List.set_cons_zero, List.set_cons_succ, eq_self, or_true, true_or, reduceIte, xt_ne, h0, h1, h2, h3, h4, h5, k0, xt_le, Nat.le_refl, xa_iff cE5, mx_133, xt_dec]
          refine ih _ M5 _ (by simp [xa_s1, xa_c1, h0]) (by simp [xa_s1, xa_c1, h1]) (by simp [xa_s1, xa_c1, h2]) (by simp [xa_s1, xa_c1]) (by omega) (xn_t hn4 hn5) ⟨yy.1, fun k hk => ?_, yy.2.2.1, yy.2.2.2.1, yy.2.2.2.2.1, yy.2.2.2.2.2⟩ (fun d' q' l a1 a2 a3 a4 => ?_)
          · show h5' k = _
            rw [e5 k hk]
            show h6 k = _
            rw [e6 k hk]
            exact yy.2.1 k hk
          · show h7 _ = _
            by_cases ee : d' = d
            · rw [ee]; exact hq4 q' l a3 a4
            · exact hv4 d' q' l (by omega) a2 a3 a4
        | succ kq ihq =>
          intro q lv M4 h7 h0 h1 h2 h3 h4 h5 e hn4 hv4 hq4
          have hq : q < xC T := by omega
          obtain ⟨k0, -⟩ := id hn4.2
          unfold xb_c at k0
          have hA4 : xv_A M4 c r (xb_u (xb_u (xb_u g1 6 h6) 2 h) 7 h7) T (xnM T) (xq_wp S (xq_pd T d (xsp S))) := ⟨hn4.2, hA3.2.1, hA3.2.2.1, hA3.2.2.2⟩
          have cM := xa_iff (pd_isMet hA4 iT iPd s q hs hq)
          have cM : ∀ z, xa_E 117 0 (xa_ent [.ref c, .int (nI s), .int (nI q)]) [] M4 z ↔ z = (some (.int (nI (if F d q = true then 1 else 0))), M4) := by rw [← hF]; exact cM
          simp (disch := omega) only [↓ra_139_84, ↓ra_139_86, ↓ra_139_88, xa_kli, xa_klr, xa_kll, xa_ki, xa_kl, xa_kr, xa_kii, xa_kk, xa_kir, xa_krr, xa_kiir, xa_krir, xa_kdup, xa_kdup2, xa_kcp, xa_gf, xa_pf, xa_ga, xa_pa, xa_gq, xa_pq, xa_gl, xa_args, xa_ri, xa_rz, xa_rv, xa_s1, xa_s2, xa_c1, eq_self, List.getElem?_cons_succ, List.getElem?_cons_zero, true_and, and_true, nI_add, pk_mul, xt_in, xt_cl, xt_i0, xt_i1, xa_kc, xa_w8, xa_fit, lg_sl, List.flatMap_cons, List.flatMap_nil, List.map_cons, List.map_nil, List.sum_cons, List.sum_nil, Value.category, List.length_cons, List.length_nil, List.length_append, xa_rc, xa_rf, exists_eq_left, exists_eq', Option.some.injEq, Sum.inr.injEq, Prod.mk.injEq, Option.toList_some, Option.toList_none, List.cons_append, List.nil_append, Nat.reduceAdd, Nat.reduceLeDiff, Nat.reduceLT, List.set_cons_zero, List.set_cons_succ, eq_self, or_true, true_or, reduceIte, xt_ne, h0, h1, h2, h3, h4, h5, xt_le]
          simp only [if_neg (show ¬ xC T ≤ q by omega)]
          simp (disch := omega) only [↓ra_139_91, ↓ra_139_92, ↓ra_139_93, ↓ra_139_95, ↓ra_139_98, xa_kli, xa_klr, xa_kll, xa_ki, xa_kl, xa_kr, xa_kii, xa_kk, xa_kir, xa_krr, xa_kiir, xa_krir, xa_kdup, xa_kdup2, xa_kcp, xa_gf, xa_pf, xa_ga, xa_pa, xa_gq, xa_pq, xa_gl, xa_args, xa_ri, xa_rz, xa_rv, xa_s1, xa_s2, xa_c1, eq_self, List.getElem?_cons_succ, List.getElem?_cons_zero, true_and, and_true, nI_add, pk_mul, xt_in, xt_cl, xt_i0, xt_i1, xa_kc, xa_w8, xa_fit, lg_sl, List.flatMap_cons, List.flatMap_nil, List.map_cons, List.map_nil, List.sum_cons, List.sum_nil, Value.category, List.length_cons, List.length_nil, List.length_append, xa_rc, xa_rf, exists_eq_left, exists_eq', Option.some.injEq, Sum.inr.injEq, Prod.mk.injEq, Option.toList_some, Option.toList_none, List.cons_append, List.nil_append, Nat.reduceAdd, Nat.reduceLeDiff, Nat.reduceLT, List.set_cons_zero, List.set_cons_succ, eq_self, or_true, true_or, reduceIte, xt_ne, h0, h1, h2, h3, h4, h5, k0, cM, mx_117, xt_b0]
          -- how many to spare
          have lefts : ∀ (kl l : Nat) (lv : xa_L) (M5 : xa_M) (h7' : Nat → Int32), lv 0 = some (.ref c) → lv 1 = some (.int (nI s)) → lv 2 = some (.int (nI L)) → lv 3 = some (.int (nI d)) → lv 4 = some (.int (nI (xC T))) → lv 5 = some (.int (nI q)) → lv 6 = some (.int (nI (if F d q = true then 1 else 0))) → lv 7 = some (.int (nI l)) → l + kl = 3 → xn c M r (xb_u (xb_u (xb_u g1 6 h6) 2 h) 7 h7') M5 → (∀ d' q' l, d + 1 ≤ d' → d' ≤ L → q' < xC T → l < 3 → h7' (18 * d' + 3 * q' + l) = nI (xq_v (xC T) F L d' q' l)) → (∀ q' l, q' < q → l < 3 → h7' (18 * d + 3 * q' + l) = nI (xq_v (xC T) F L d q' l)) → (∀ l', l' < l → h7' (18 * d + 3 * q + l') = nI (xq_v (xC T) F L d q l')) → ∃ z, xa_E 139 111 lv [] M5 z ∧ z.1 = none ∧ ∃ g2, xn c M r g2 z.2 ∧ xy g g2 ∧ ∀ d q l, d ≤ L → q < xC T → l < 3 → g2 7 (18 * d + 3 * q + l) = nI (xq_v (xC T) F L d q l) := by
            intro kl
            induction kl with
            | zero =>
              intro l lv M5 h7' h0 h1 h2 h3 h4 h5 h6' h7l e hn5 hv5 hq5 hl5
              have e : l = 3 := by omega
              subst e
              simp (disch := omega) only [↓ra_139_111, ↓ra_139_113, ↓ra_139_114, ↓ra_139_224, ↓ra_139_227, xa_kli, xa_klr, xa_kll, xa_ki, xa_kl, xa_kr, xa_kii, xa_kk, xa_kir, xa_krr, xa_kiir, xa_krir, xa_kdup, xa_kdup2, xa_kcp, xa_gf, xa_pf, xa_ga, xa_pa, xa_gq, xa_pq, xa_gl, xa_args, xa_ri, xa_rz, xa_rv, xa_s1, xa_s2, xa_c1, eq_self, List.getElem?_cons_succ, List.getElem?_cons_zero, true_and, and_true, nI_add, pk_mul, xt_in, xt_cl, xt_i0, xt_i1, xa_kc, xa_w8, xa_fit, lg_sl, List.flatMap_cons, List.flatMap_nil, List.map_cons, List.map_nil, List.sum_cons, List.sum_nil, Value.category, List.length_cons, List.length_nil, List.length_append, xa_rc, xa_rf, exists_eq_left, exists_eq', Option.some.injEq, Sum.inr.injEq, Prod.mk.injEq, Option.toList_some, Option.toList_none, List.cons_append, List.nil_append, Nat.reduceAdd, Nat.reduceLeDiff, Nat.reduceLT, List.set_cons_zero, List.set_cons_succ, eq_self, or_true, true_or, reduceIte, xt_ne, h5, h7l, xt_le, Nat.le_refl]
              refine ihq (q + 1) _ M5 h7' (by simp [xa_s1, xa_c1, h0]) (by simp [xa_s1, xa_c1, h1]) (by simp [xa_s1, xa_c1, h2]) (by simp [xa_s1, xa_c1, h3]) (by simp [xa_s1, xa_c1, h4]) (by simp [xa_s1, xa_c1]) (by omega) hn5 hv5 (fun q' l a1 a2 => ?_)
              by_cases ee : q' = q
              · rw [ee]; exact hl5 l a2
              · exact hq5 q' l (by omega) a2
            | succ kl ihl =>
              intro l lv M5 h7' h0 h1 h2 h3 h4 h5 h6' h7l e hn5 hv5 hq5 hl5
              obtain ⟨n0, n1, n2, n3, n4, n5, n6, n7, -⟩ := id hn5.2
              unfold xb_c at n0
              rw [xb_ue] at n7
              have cs := fun (a b d : Nat) => xa_iff (pd_spot (M := M5) a b d)
              have m1 : (q + 1) % xC T < xC T := Nat.mod_lt _ (by omega)
              have m2 : (q + xC T - 1) % xC T < xC T := Nat.mod_lt _ (by omega)
              simp (disch := omega) only [↓ra_139_111, ↓ra_139_113, ↓ra_139_114, xa_kli, xa_klr, xa_kll, xa_ki, xa_kl, xa_kr, xa_kii, xa_kk, xa_kir, xa_krr, xa_kiir, xa_krir, xa_kdup, xa_kdup2, xa_kcp, xa_gf, xa_pf, xa_ga, xa_pa, xa_gq, xa_pq, xa_gl, xa_args, xa_ri, xa_rz, xa_rv, xa_s1, xa_s2, xa_c1, eq_self, List.getElem?_cons_succ, List.getElem?_cons_zero, true_and, and_true, nI_add, pk_mul, xt_in, xt_cl, xt_i0, xt_i1, xa_kc, xa_w8, xa_fit, lg_sl, List.flatMap_cons, List.flatMap_nil, List.map_cons, List.map_nil, List.sum_cons, List.sum_nil, Value.category, List.length_cons, List.length_nil, List.length_append, xa_rc, xa_rf, exists_eq_left, exists_eq', Option.some.injEq, Sum.inr.injEq, Prod.mk.injEq, Option.toList_some, Option.toList_none, List.cons_append, List.nil_append, Nat.reduceAdd, Nat.reduceLeDiff, Nat.reduceLT, List.set_cons_zero, List.set_cons_succ, eq_self, or_true, true_or, reduceIte, xt_ne, h7l, xt_le]
              simp only [if_neg (show ¬ 3 ≤ l by omega)]
              have store : ∀ (v : Nat) (lv : xa_L), v = xq_v (xC T) F L d q l → lv 0 = some (.ref c) → lv 1 = some (.int (nI s)) → lv 2 = some (.int (nI L)) → lv 3 = some (.int (nI d)) → lv 4 = some (.int (nI (xC T))) → lv 5 = some (.int (nI q)) → lv 6 = some (.int (nI (if F d q = true then 1 else 0))) → lv 7 = some (.int (nI l)) → ∃ z, xa_E 139 201 lv [.int (nI v)] M5 z ∧ z.1 = none ∧ ∃ g2, xn c M r g2 z.2 ∧ xy g g2 ∧ ∀ d q l, d ≤ L → q < xC T → l < 3 → g2 7 (18 * d + 3 * q + l) = nI (xq_v (xC T) F L d q l) := by
                intro v lv ev h0 h1 h2 h3 h4 h5 h6' h7l
                have v2 : v < 2 := by rw [ev]; exact xq_v2 _ _ _ _ _ _
                simp (disch := omega) only [↓ra_139_201, ↓ra_139_203, ↓ra_139_204, ↓ra_139_207, ↓ra_139_208, ↓ra_139_210, ↓ra_139_212, ↓ra_139_215, ↓ra_139_217, ↓ra_139_218, ↓ra_139_221, xa_kli, xa_klr, xa_kll, xa_ki, xa_kl, xa_kr, xa_kii, xa_kk, xa_kir, xa_krr, xa_kiir, xa_krir, xa_kdup, xa_kdup2, xa_kcp, xa_gf, xa_pf, xa_ga, xa_pa, xa_gq, xa_pq, xa_gl, xa_args, xa_ri, xa_rz, xa_rv, xa_s1, xa_s2, xa_c1, eq_self, List.getElem?_cons_succ, List.getElem?_cons_zero, true_and, and_true, nI_add, pk_mul, xt_in, xt_cl, xt_i0, xt_i1, xa_kc, xa_w8, xa_fit, lg_sl, List.flatMap_cons, List.flatMap_nil, List.map_cons, List.map_nil, List.sum_cons, List.sum_nil, Value.category, List.length_cons, List.length_nil, List.length_append, xa_rc, xa_rf, exists_eq_left, exists_eq', Option.some.injEq, Sum.inr.injEq, Prod.mk.injEq, Option.toList_some, Option.toList_none, List.cons_append, List.nil_append, Nat.reduceAdd, Nat.reduceLeDiff, Nat.reduceLT, List.set_cons_zero, List.set_cons_succ, eq_self, or_true, true_or, reduceIte, xt_ne, h0, h1, h2, h3, h4, h5, h7l, n0, n7, cs, mx_138, xt_nb]
                refine ihl (l + 1) _ _ (upd h7' (18 * d + 3 * q + l) (nI v)) (by simp [xa_s1, xa_c1, h0]) (by simp [xa_s1, xa_c1, h1]) (by simp [xa_s1, xa_c1, h2]) (by simp [xa_s1, xa_c1, h3]) (by simp [xa_s1, xa_c1, h4]) (by simp [xa_s1, xa_c1, h5]) (by simp [xa_s1, xa_c1, h6']) (by simp [xa_s1, xa_c1]) (by omega) (xn_s7' _ hn5) (fun d' q' l' a1 a2 a3 a4 => ?_) (fun q' l' a1 a2 => ?_) (fun l' a1 => ?_)
                · rw [xt_us, if_neg (by omega)]; exact hv5 d' q' l' a1 a2 a3 a4
                · rw [xt_us, if_neg (by omega)]; exact hq5 q' l' a1 a2
                · rw [xt_us]
                  by_cases ee : l' = l
                  · rw [if_pos (by omega), ee, ev]
                  · rw [if_neg (by omega)]; exact hl5 l' (by omega)
              -- with rest to spare behind this day
              have go : ∀ (rest : Nat) (lv : xa_L), rest < 3 → xq_can (xC T) F (L - d) d l q = xq_reach (xC T) (xq_can (xC T) F (L - (d + 1)) (d + 1) rest) q → lv 0 = some (.ref c) → lv 1 = some (.int (nI s)) → lv 2 = some (.int (nI L)) → lv 3 = some (.int (nI d)) → lv 4 = some (.int (nI (xC T))) → lv 5 = some (.int (nI q)) → lv 6 = some (.int (nI (if F d q = true then 1 else 0))) → lv 7 = some (.int (nI l)) → lv 8 = some (.int (nI rest)) → ∃ z, xa_E 139 129 lv [] M5 z ∧ z.1 = none ∧ ∃ g2, xn c M r g2 z.2 ∧ xy g g2 ∧ ∀ d q l, d ≤ L → q < xC T → l < 3 → g2 7 (18 * d + 3 * q + l) = nI (xq_v (xC T) F L d q l) := by
                intro rest lv hr ec h0 h1 h2 h3 h4 h5 h6' h7l h8
                have w0 := hv5 (d + 1) q rest (by omega) (by omega) hq hr
                have w1 := hv5 (d + 1) ((q + 1) % xC T) rest (by omega) (by omega) m1 hr
                have w2 := hv5 (d + 1) ((q + xC T - 1) % xC T) rest (by omega) (by omega) m2 hr
                rw [xq_reach_m b3 b4 hq] at ec
                unfold xq_v at w0 w1 w2
                have yes : (xq_can (xC T) F (L - d) d l q = true) → ∃ z, xa_E 139 196 lv [] M5 z ∧ z.1 = none ∧ ∃ g2, xn c M r g2 z.2 ∧ xy g g2 ∧ ∀ d q l, d ≤ L → q < xC T → l < 3 → g2 7 (18 * d + 3 * q + l) = nI (xq_v (xC T) F L d q l) := by
                  intro et
                  simp (disch := omega) only [↓ra_139_196, ↓ra_139_197, xa_kli, xa_klr, xa_kll, xa_ki, xa_kl, xa_kr, xa_kii, xa_kk, xa_kir, xa_krr, xa_kiir, xa_krir, xa_kdup, xa_kdup2, xa_kcp, xa_gf, xa_pf, xa_ga, xa_pa, xa_gq, xa_pq, xa_gl, xa_args, xa_ri, xa_rz, xa_rv, xa_s1, xa_s2, xa_c1, eq_self, List.getElem?_cons_succ, List.getElem?_cons_zero, true_and, and_true, nI_add, pk_mul, xt_in, xt_cl, xt_i0, xt_i1, xa_kc, xa_w8, xa_fit, lg_sl, List.flatMap_cons, List.flatMap_nil, List.map_cons, List.map_nil, List.sum_cons, List.sum_nil, Value.category, List.length_cons, List.length_nil, List.length_append, xa_rc, xa_rf, exists_eq_left, exists_eq', Option.some.injEq, Sum.inr.injEq, Prod.mk.injEq, Option.toList_some, Option.toList_none, List.cons_append, List.nil_append, Nat.reduceAdd, Nat.reduceLeDiff, Nat.reduceLT, List.set_cons_zero, List.set_cons_succ, eq_self, or_true, true_or, reduceIte, xt_ne]
                  exact store 1 lv (by unfold xq_v; rw [if_pos et]) h0 h1 h2 h3 h4 h5 h6' h7l
                simp (disch := omega) only [↓ra_139_129, ↓ra_139_130, ↓ra_139_133, ↓ra_139_134, ↓ra_139_135, ↓ra_139_136, ↓ra_139_138, ↓ra_139_140, ↓ra_139_143, ↓ra_139_144, xa_kli, xa_klr, xa_kll, xa_ki, xa_kl, xa_kr, xa_kii, xa_kk, xa_kir, xa_krr, xa_kiir, xa_krir, xa_kdup, xa_kdup2, xa_kcp, xa_gf, xa_pf, xa_ga, xa_pa, xa_gq, xa_pq, xa_gl, xa_args, xa_ri, xa_rz, xa_rv, xa_s1, xa_s2, xa_c1, eq_self, List.getElem?_cons_succ, List.getElem?_cons_zero, true_and, and_true, nI_add, pk_mul, xt_in, xt_cl, xt_i0, xt_i1, xa_kc, xa_w8, xa_fit, lg_sl, List.flatMap_cons, List.flatMap_nil, List.map_cons, List.map_nil, List.sum_cons, List.sum_nil, Value.category, List.length_cons, List.length_nil, List.length_append, xa_rc, xa_rf, exists_eq_left, exists_eq', Option.some.injEq, Sum.inr.injEq, Prod.mk.injEq, Option.toList_some, Option.toList_none, List.cons_append, List.nil_append, Nat.reduceAdd, Nat.reduceLeDiff, Nat.reduceLT, List.set_cons_zero, List.set_cons_succ, eq_self, or_true, true_or, reduceIte, xt_ne, h0, h1, h2, h3, h4, h5, h8, n0, n7, cs, mx_138, w0, xt_b0]
                by_cases p0 : xq_can (xC T) F (L - (d + 1)) (d + 1) rest q = true
                · simp only [p0, not_true_eq_false, if_false]
                  exact yes (by rw [ec, p0]; rfl)
                · simp only [p0, not_false_eq_true, if_true]
                  simp (disch := omega) only [↓ra_139_147, ↓ra_139_148, ↓ra_139_151, ↓ra_139_152, ↓ra_139_153, ↓ra_139_154, ↓ra_139_156, ↓ra_139_157, ↓ra_139_158, ↓ra_139_160, ↓ra_139_161, ↓ra_139_163, ↓ra_139_166, ↓ra_139_167, xa_kli, xa_klr, xa_kll, xa_ki, xa_kl, xa_kr, xa_kii, xa_kk, xa_kir, xa_krr, xa_kiir, xa_krir, xa_kdup, xa_kdup2, xa_kcp, xa_gf, xa_pf, xa_ga, xa_pa, xa_gq, xa_pq, xa_gl, xa_args, xa_ri, xa_rz, xa_rv, xa_s1, xa_s2, xa_c1, eq_self, List.getElem?_cons_succ, List.getElem?_cons_zero, true_and, and_true, nI_add, pk_mul, xt_in, xt_cl, xt_i0, xt_i1, xa_kc, xa_w8, xa_fit, lg_sl, List.flatMap_cons, List.flatMap_nil, List.map_cons, List.map_nil, List.sum_cons, List.sum_nil, Value.category, List.length_cons, List.length_nil, List.length_append, xa_rc, xa_rf, exists_eq_left, exists_eq', Option.some.injEq, Sum.inr.injEq, Prod.mk.injEq, Option.toList_some, Option.toList_none, List.cons_append, List.nil_append, Nat.reduceAdd, Nat.reduceLeDiff, Nat.reduceLT, List.set_cons_zero, List.set_cons_succ, eq_self, or_true, true_or, reduceIte, xt_ne, xt_n0, not_false_eq_true, xt_div, xt_remA, h0, h1, h2, h3, h4, h5, h8, n0, n7, cs, mx_138, w1, xt_b0]
                  by_cases p1 : xq_can (xC T) F (L - (d + 1)) (d + 1) rest ((q + 1) % xC T) = true
                  · simp only [p1, not_true_eq_false, if_false]
                    exact yes (by rw [ec, p1]; simp)
                  · simp only [p1, not_false_eq_true, if_true]
                    simp (disch := omega) only [↓ra_139_170, ↓ra_139_171, ↓ra_139_174, ↓ra_139_175, ↓ra_139_176, ↓ra_139_177, ↓ra_139_179, ↓ra_139_181, ↓ra_139_182, ↓ra_139_183, ↓ra_139_184, ↓ra_139_186, ↓ra_139_187, ↓ra_139_189, ↓ra_139_192, ↓ra_139_193, xa_kli, xa_klr, xa_kll, xa_ki, xa_kl, xa_kr, xa_kii, xa_kk, xa_kir, xa_krr, xa_kiir, xa_krir, xa_kdup, xa_kdup2, xa_kcp, xa_gf, xa_pf, xa_ga, xa_pa, xa_gq, xa_pq, xa_gl, xa_args, xa_ri, xa_rz, xa_rv, xa_s1, xa_s2, xa_c1, eq_self, List.getElem?_cons_succ, List.getElem?_cons_zero, true_and, and_true, nI_add, pk_mul, xt_in, xt_cl, xt_i0, xt_i1, xa_kc, xa_w8, xa_fit, lg_sl, List.flatMap_cons, List.flatMap_nil, List.map_cons, List.map_nil, List.sum_cons, List.sum_nil, Value.category, List.length_cons, List.length_nil, List.length_append, xa_rc, xa_rf, exists_eq_left, exists_eq', Option.some.injEq, Sum.inr.injEq, Prod.mk.injEq, Option.toList_some, Option.toList_none, List.cons_append, List.nil_append, Nat.reduceAdd, Nat.reduceLeDiff, Nat.reduceLT, List.set_cons_zero, List.set_cons_succ, eq_self, or_true, true_or, reduceIte, xt_ne, xt_n0, not_false_eq_true, xt_div, xt_remA, h0, h1, h2, h3, h4, h5, h8, n0, n7, cs, mx_138, w2, xt_sub, xt_b0]
                    by_cases p2 : xq_can (xC T) F (L - (d + 1)) (d + 1) rest ((q + xC T - 1) % xC T) = true
                    · simp only [p2, not_true_eq_false, if_false]
                      exact yes (by rw [ec, p2]; simp)
                    · simp only [p2, not_false_eq_true, if_true]
                      simp (disch := omega) only [↓ra_139_200, xa_kli, xa_klr, xa_kll, xa_ki, xa_kl, xa_kr, xa_kii, xa_kk, xa_kir, xa_krr, xa_kiir, xa_krir, xa_kdup, xa_kdup2, xa_kcp, xa_gf, xa_pf, xa_ga, xa_pa, xa_gq, xa_pq, xa_gl, xa_args, xa_ri, xa_rz, xa_rv, xa_s1, xa_s2, xa_c1, eq_self, List.getElem?_cons_succ, List.getElem?_cons_zero, true_and, and_true, nI_add, pk_mul, xt_in, xt_cl, xt_i0, xt_i1, xa_kc, xa_w8, xa_fit, lg_sl, List.flatMap_cons, List.flatMap_nil, List.map_cons, List.map_nil, List.sum_cons, List.sum_nil, Value.category, List.length_cons, List.length_nil, List.length_append, xa_rc, xa_rf, exists_eq_left, exists_eq', Option.some.injEq, Sum.inr.injEq, Prod.mk.injEq, Option.toList_some, Option.toList_none, List.cons_append, List.nil_append, Nat.reduceAdd, Nat.reduceLeDiff, Nat.reduceLT, List.set_cons_zero, List.set_cons_succ, eq_self, or_true, true_or, reduceIte, xt_ne]
                      refine store 0 lv ?_ h0 h1 h2 h3 h4 h5 h6' h7l
                      unfold xq_v
                      rw [if_neg]
                      rw [ec]
                      simp [p0, p1, p2]
              have el : L - d = (L - (d + 1)) + 1 := by omega
              by_cases cF : F d q = true
              · rw [if_pos cF] at h6'
                by_cases cl : l = 0
                · subst cl
                  have neg : nI 0 - nI 1 < nI 0 := by decide
                  simp (disch := omega) only [↓ra_139_117, ↓ra_139_119, ↓ra_139_121, ↓ra_139_122, ↓ra_139_124, ↓ra_139_126, xa_kli, xa_klr, xa_kll, xa_ki, xa_kl, xa_kr, xa_kii, xa_kk, xa_kir, xa_krr, xa_kiir, xa_krir, xa_kdup, xa_kdup2, xa_kcp, xa_gf, xa_pf, xa_ga, xa_pa, xa_gq, xa_pq, xa_gl, xa_args, xa_ri, xa_rz, xa_rv, xa_s1, xa_s2, xa_c1, eq_self, List.getElem?_cons_succ, List.getElem?_cons_zero, true_and, and_true, nI_add, pk_mul, xt_in, xt_cl, xt_i0, xt_i1, xa_kc, xa_w8, xa_fit, lg_sl, List.flatMap_cons, List.flatMap_nil, List.map_cons, List.map_nil, List.sum_cons, List.sum_nil, Value.category, List.length_cons, List.length_nil, List.length_append, xa_rc, xa_rf, exists_eq_left, exists_eq', Option.some.injEq, Sum.inr.injEq, Prod.mk.injEq, Option.toList_some, Option.toList_none, List.cons_append, List.nil_append, Nat.reduceAdd, Nat.reduceLeDiff, Nat.reduceLT, List.set_cons_zero, List.set_cons_succ, eq_self, or_true, true_or, reduceIte, xt_ne, h6', h7l, neg, if_true]
                  simp (disch := omega) only [↓ra_139_200, xa_kli, xa_klr, xa_kll, xa_ki, xa_kl, xa_kr, xa_kii, xa_kk, xa_kir, xa_krr, xa_kiir, xa_krir, xa_kdup, xa_kdup2, xa_kcp, xa_gf, xa_pf, xa_ga, xa_pa, xa_gq, xa_pq, xa_gl, xa_args, xa_ri, xa_rz, xa_rv, xa_s1, xa_s2, xa_c1, eq_self, List.getElem?_cons_succ, List.getElem?_cons_zero, true_and, and_true, nI_add, pk_mul, xt_in, xt_cl, xt_i0, xt_i1, xa_kc, xa_w8, xa_fit, lg_sl, List.flatMap_cons, List.flatMap_nil, List.map_cons, List.map_nil, List.sum_cons, List.sum_nil, Value.category, List.length_cons, List.length_nil, List.length_append, xa_rc, xa_rf, exists_eq_left, exists_eq', Option.some.injEq, Sum.inr.injEq, Prod.mk.injEq, Option.toList_some, Option.toList_none, List.cons_append, List.nil_append, Nat.reduceAdd, Nat.reduceLeDiff, Nat.reduceLT, List.set_cons_zero, List.set_cons_succ, eq_self, or_true, true_or, reduceIte, xt_ne]
                  refine store 0 _ ?_ (by simp [xa_s1, xa_c1, h0]) (by simp [xa_s1, xa_c1, h1]) (by simp [xa_s1, xa_c1, h2]) (by simp [xa_s1, xa_c1, h3]) (by simp [xa_s1, xa_c1, h4]) (by simp [xa_s1, xa_c1, h5]) (by simp [xa_s1, xa_c1, h6', cF]) (by simp [xa_s1, xa_c1, h7l])
                  unfold xq_v
                  rw [el, xq_can, if_pos cF, if_pos rfl]
                  rfl
                · simp (disch := omega) only [↓ra_139_117, ↓ra_139_119, ↓ra_139_121, ↓ra_139_122, ↓ra_139_124, ↓ra_139_126, xa_kli, xa_klr, xa_kll, xa_ki, xa_kl, xa_kr, xa_kii, xa_kk, xa_kir, xa_krr, xa_kiir, xa_krir, xa_kdup, xa_kdup2, xa_kcp, xa_gf, xa_pf, xa_ga, xa_pa, xa_gq, xa_pq, xa_gl, xa_args, xa_ri, xa_rz, xa_rv, xa_s1, xa_s2, xa_c1, eq_self, List.getElem?_cons_succ, List.getElem?_cons_zero, true_and, and_true, nI_add, pk_mul, xt_in, xt_cl, xt_i0, xt_i1, xa_kc, xa_w8, xa_fit, lg_sl, List.flatMap_cons, List.flatMap_nil, List.map_cons, List.map_nil, List.sum_cons, List.sum_nil, Value.category, List.length_cons, List.length_nil, List.length_append, xa_rc, xa_rf, exists_eq_left, exists_eq', Option.some.injEq, Sum.inr.injEq, Prod.mk.injEq, Option.toList_some, Option.toList_none, List.cons_append, List.nil_append, Nat.reduceAdd, Nat.reduceLeDiff, Nat.reduceLT, List.set_cons_zero, List.set_cons_succ, eq_self, or_true, true_or, reduceIte, xt_ne, h6', h7l, xt_sub, xt_lt, Nat.not_lt_zero, if_false]
                  exact go (l - 1) _ (by omega) (by rw [el, xq_can, if_pos cF, if_neg cl]) (by simp [xa_s1, xa_c1, h0]) (by simp [xa_s1, xa_c1, h1]) (by simp [xa_s1, xa_c1, h2]) (by simp [xa_s1, xa_c1, h3]) (by simp [xa_s1, xa_c1, h4]) (by simp [xa_s1, xa_c1, h5]) (by simp [xa_s1, xa_c1, h6', cF]) (by simp [xa_s1, xa_c1, h7l]) (by simp [xa_s1, xa_c1])
              · rw [if_neg cF] at h6'
                simp (disch := omega) only [↓ra_139_117, ↓ra_139_119, ↓ra_139_121, ↓ra_139_122, ↓ra_139_124, ↓ra_139_126, xa_kli, xa_klr, xa_kll, xa_ki, xa_kl, xa_kr, xa_kii, xa_kk, xa_kir, xa_krr, xa_kiir, xa_krir, xa_kdup, xa_kdup2, xa_kcp, xa_gf, xa_pf, xa_ga, xa_pa, xa_gq, xa_pq, xa_gl, xa_args, xa_ri, xa_rz, xa_rv, xa_s1, xa_s2, xa_c1, eq_self, List.getElem?_cons_succ, List.getElem?_cons_zero, true_and, and_true, nI_add, pk_mul, xt_in, xt_cl, xt_i0, xt_i1, xa_kc, xa_w8, xa_fit, lg_sl, List.flatMap_cons, List.flatMap_nil, List.map_cons, List.map_nil, List.sum_cons, List.sum_nil, Value.category, List.length_cons, List.length_nil, List.length_append, xa_rc, xa_rf, exists_eq_left, exists_eq', Option.some.injEq, Sum.inr.injEq, Prod.mk.injEq, Option.toList_some, Option.toList_none, List.cons_append, List.nil_append, Nat.reduceAdd, Nat.reduceLeDiff, Nat.reduceLT, List.set_cons_zero, List.set_cons_succ, eq_self, or_true, true_or, reduceIte, xt_ne, h6', h7l, xt_sub, xt_lt, Nat.not_lt_zero, if_false, Nat.sub_zero]
                exact go l _ (by omega) (by rw [el, xq_can, if_neg cF]) (by simp [xa_s1, xa_c1, h0]) (by simp [xa_s1, xa_c1, h1]) (by simp [xa_s1, xa_c1, h2]) (by simp [xa_s1, xa_c1, h3]) (by simp [xa_s1, xa_c1, h4]) (by simp [xa_s1, xa_c1, h5]) (by simp [xa_s1, xa_c1, h6', cF]) (by simp [xa_s1, xa_c1, h7l]) (by simp [xa_s1, xa_c1])
          by_cases cF : F d q = true
          · simp only [cF, not_true_eq_false, if_false]
            simp (disch := omega) only [↓ra_139_101, ↓ra_139_102, ↓ra_139_106, ↓ra_139_108, ↓ra_139_109, xa_kli, xa_klr, xa_kll, xa_ki, xa_kl, xa_kr, xa_kii, xa_kk, xa_kir, xa_krr, xa_kiir, xa_krir, xa_kdup, xa_kdup2, xa_kcp, xa_gf, xa_pf, xa_ga, xa_pa, xa_gq, xa_pq, xa_gl, xa_args, xa_ri, xa_rz, xa_rv, xa_s1, xa_s2, xa_c1, eq_self, List.getElem?_cons_succ, List.getElem?_cons_zero, true_and, and_true, nI_add, pk_mul, xt_in, xt_cl, xt_i0, xt_i1, xa_kc, xa_w8, xa_fit, lg_sl, List.flatMap_cons, List.flatMap_nil, List.map_cons, List.map_nil, List.sum_cons, List.sum_nil, Value.category, List.length_cons, List.length_nil, List.length_append, xa_rc, xa_rf, exists_eq_left, exists_eq', Option.some.injEq, Sum.inr.injEq, Prod.mk.injEq, Option.toList_some, Option.toList_none, List.cons_append, List.nil_append, Nat.reduceAdd, Nat.reduceLeDiff, Nat.reduceLT, List.set_cons_zero, List.set_cons_succ, eq_self, or_true, true_or, reduceIte, xt_ne]
            exact lefts 3 0 _ M4 h7 (by simp [xa_s1, xa_c1, h0]) (by simp [xa_s1, xa_c1, h1]) (by simp [xa_s1, xa_c1, h2]) (by simp [xa_s1, xa_c1, h3]) (by simp [xa_s1, xa_c1, h4]) (by simp [xa_s1, xa_c1, h5]) (by simp [xa_s1, xa_c1, cF]) (by simp [xa_s1, xa_c1]) (by omega) hn4 hv4 hq4 (fun l hl => absurd hl (Nat.not_lt_zero l))
          · simp only [cF, not_false_eq_true, if_true]
            simp (disch := omega) only [↓ra_139_105, ↓ra_139_106, ↓ra_139_108, ↓ra_139_109, xa_kli, xa_klr, xa_kll, xa_ki, xa_kl, xa_kr, xa_kii, xa_kk, xa_kir, xa_krr, xa_kiir, xa_krir, xa_kdup, xa_kdup2, xa_kcp, xa_gf, xa_pf, xa_ga, xa_pa, xa_gq, xa_pq, xa_gl, xa_args, xa_ri, xa_rz, xa_rv, xa_s1, xa_s2, xa_c1, eq_self, List.getElem?_cons_succ, List.getElem?_cons_zero, true_and, and_true, nI_add, pk_mul, xt_in, xt_cl, xt_i0, xt_i1, xa_kc, xa_w8, xa_fit, lg_sl, List.flatMap_cons, List.flatMap_nil, List.map_cons, List.map_nil, List.sum_cons, List.sum_nil, Value.category, List.length_cons, List.length_nil, List.length_append, xa_rc, xa_rf, exists_eq_left, exists_eq', Option.some.injEq, Sum.inr.injEq, Prod.mk.injEq, Option.toList_some, Option.toList_none, List.cons_append, List.nil_append, Nat.reduceAdd, Nat.reduceLeDiff, Nat.reduceLT, List.set_cons_zero, List.set_cons_succ, eq_self, or_true, true_or, reduceIte, xt_ne]
            exact lefts 3 0 _ M4 h7 (by simp [xa_s1, xa_c1, h0]) (by simp [xa_s1, xa_c1, h1]) (by simp [xa_s1, xa_c1, h2]) (by simp [xa_s1, xa_c1, h3]) (by simp [xa_s1, xa_c1, h4]) (by simp [xa_s1, xa_c1, h5]) (by simp [xa_s1, xa_c1, cF]) (by simp [xa_s1, xa_c1]) (by omega) hn4 hv4 hq4 (fun l hl => absurd hl (Nat.not_lt_zero l))
      obtain ⟨k0, k1, -⟩ := id hA3.1
      unfold xb_c at k0
      have k1 : M3.1 (c + 1) = some (.inl (0, 51, .inl (g1 1))) := k1
      rw [yy.1] at k1
      simp (disch := omega) only [↓ra_139_73, ↓ra_139_74, ↓ra_139_77, ↓ra_139_78, ↓ra_139_79, ↓ra_139_81, ↓ra_139_82, xa_kli, xa_klr, xa_kll, xa_ki, xa_kl, xa_kr, xa_kii, xa_kk, xa_kir, xa_krr, xa_kiir, xa_krir, xa_kdup, xa_kdup2, xa_kcp, xa_gf, xa_pf, xa_ga, xa_pa, xa_gq, xa_pq, xa_gl, xa_args, xa_ri, xa_rz, xa_rv, xa_s1, xa_s2, xa_c1, eq_self, List.getElem?_cons_succ, List.getElem?_cons_zero, true_and, and_true, nI_add, pk_mul, xt_in, xt_cl, xt_i0, xt_i1, xa_kc, xa_w8, xa_fit, lg_sl, List.flatMap_cons, List.flatMap_nil, List.map_cons, List.map_nil, List.sum_cons, List.sum_nil, Value.category, List.length_cons, List.length_nil, List.length_append, xa_rc, xa_rf, exists_eq_left, exists_eq', Option.some.injEq, Sum.inr.injEq, Prod.mk.injEq, Option.toList_some, Option.toList_none, List.cons_append, List.nil_append, Nat.reduceAdd, Nat.reduceLeDiff, Nat.reduceLT, List.set_cons_zero, List.set_cons_succ, eq_self, or_true, true_or, reduceIte, xt_ne, h0, k0, k1, v1]
      refine quarters (xC T) 0 _ M3 (g1 7) (by simp [xa_s1, xa_c1, h0]) (by simp [xa_s1, xa_c1, h1]) (by simp [xa_s1, xa_c1, h2]) (by simp [xa_s1, xa_c1, h3]) (by simp [xa_s1, xa_c1]) (by simp [xa_s1, xa_c1]) (by omega) ⟨f3, ?_⟩ (fun d' q' l a1 a2 a3 a4 => hv d' q' l a1 a2 a3 a4) (fun q' l a => absurd a (Nat.not_lt_zero q'))
      have := hA3.1
      rw [← xb_ui (xb_u (xb_u g1 6 h6) 2 h) 7] at this
      exact this
  -- behind the last day all is well
  have init : ∀ (kq q : Nat) (lv : xa_L) (M1 : xa_M) (h7 : Nat → Int32), lv 0 = some (.ref c) → lv 1 = some (.int (nI s)) → lv 2 = some (.int (nI L)) → lv 3 = some (.int (nI q)) → q + kq = 6 → xn c M r (xb_u g 7 h7) M1 → (∀ i, i < 3 * q → h7 (18 * L + i) = nI 1) → ∃ z, xa_E 139 2 lv [] M1 z ∧ z.1 = none ∧ ∃ g2, xn c M r g2 z.2 ∧ xy g g2 ∧ ∀ d q l, d ≤ L → q < xC T → l < 3 → g2 7 (18 * d + 3 * q + l) = nI (xq_v (xC T) F L d q l) := by
    intro kq
    induction kq with
    | zero =>
      intro q lv M1 h7 h0 h1 h2 h3 e hn hi
      have e : q = 6 := by omega
      subst e
      have el : nI L - nI 1 = xt_d L := by
        unfold xt_d
        by_cases c0 : L = 0
        · rw [if_pos c0, c0]; decide
        · rw [if_neg c0, xt_sub _ _ (by omega)]
      simp (disch := omega) only [↓ra_139_2, ↓ra_139_3, ↓ra_139_5, ↓ra_139_42, ↓ra_139_43, ↓ra_139_44, ↓ra_139_45, xa_kli, xa_klr, xa_kll, xa_ki, xa_kl, xa_kr, xa_kii, xa_kk, xa_kir, xa_krr, xa_kiir, xa_krir, xa_kdup, xa_kdup2, xa_kcp, xa_gf, xa_pf, xa_ga, xa_pa, xa_gq, xa_pq, xa_gl, xa_args, xa_ri, xa_rz, xa_rv, xa_s1, xa_s2, xa_c1, eq_self, List.getElem?_cons_succ, List.getElem?_cons_zero, true_and, and_true, nI_add, pk_mul, xt_in, xt_cl, xt_i0, xt_i1, xa_kc, xa_w8, xa_fit, lg_sl, List.flatMap_cons, List.flatMap_nil, List.map_cons, List.map_nil, List.sum_cons, List.sum_nil, Value.category, List.length_cons, List.length_nil, List.length_append, xa_rc, xa_rf, exists_eq_left, exists_eq', Option.some.injEq, Sum.inr.injEq, Prod.mk.injEq, Option.toList_some, Option.toList_none, List.cons_append, List.nil_append, Nat.reduceAdd, Nat.reduceLeDiff, Nat.reduceLT, List.set_cons_zero, List.set_cons_succ, eq_self, or_true, true_or, reduceIte, xt_ne, h0, h1, h2, h3, xt_le, Nat.le_refl, el]
      refine days L _ M1 _ (by simp [xa_s1, xa_c1, h0]) (by simp [xa_s1, xa_c1, h1]) (by simp [xa_s1, xa_c1, h2]) (by simp [xa_s1, xa_c1]) (Nat.le_refl _) hn ⟨rfl, fun _ _ => rfl, rfl, rfl, rfl, rfl⟩ (fun d q l a1 a2 a3 a4 => ?_)
      have e : d = L := by omega
      subst e
      show h7 _ = _
      rw [Nat.add_assoc, hi _ (by omega)]
      unfold xq_v
      rw [Nat.sub_self, xq_can, if_pos rfl]
    | succ kq ihq =>
      intro q lv M1 h7 h0 h1 h2 h3 e hn hi
      have inl : ∀ (kl l : Nat) (lv : xa_L) (M1 : xa_M) (h7 : Nat → Int32), lv 0 = some (.ref c) → lv 1 = some (.int (nI s)) → lv 2 = some (.int (nI L)) → lv 3 = some (.int (nI q)) → lv 4 = some (.int (nI l)) → l + kl = 3 → xn c M r (xb_u g 7 h7) M1 → (∀ i, i < 3 * q + l → h7 (18 * L + i) = nI 1) → ∃ z, xa_E 139 11 lv [] M1 z ∧ z.1 = none ∧ ∃ g2, xn c M r g2 z.2 ∧ xy g g2 ∧ ∀ d q l, d ≤ L → q < xC T → l < 3 → g2 7 (18 * d + 3 * q + l) = nI (xq_v (xC T) F L d q l) := by
        intro kl
        induction kl with
        | zero =>
          intro l lv M1 h7 h0 h1 h2 h3 h4 e hn hi
          have e : l = 3 := by omega
          subst e
          simp (disch := omega) only [↓ra_139_11, ↓ra_139_13, ↓ra_139_14, ↓ra_139_36, ↓ra_139_39, xa_kli, xa_klr, xa_kll, xa_ki, xa_kl, xa_kr, xa_kii, xa_kk, xa_kir, xa_krr, xa_kiir, xa_krir, xa_kdup, xa_kdup2, xa_kcp, xa_gf, xa_pf, xa_ga, xa_pa, xa_gq, xa_pq, xa_gl, xa_args, xa_ri, xa_rz, xa_rv, xa_s1, xa_s2, xa_c1, eq_self, List.getElem?_cons_succ, List.getElem?_cons_zero, true_and, and_true, nI_add, pk_mul, xt_in, xt_cl, xt_i0, xt_i1, xa_kc, xa_w8, xa_fit, lg_sl, List.flatMap_cons, List.flatMap_nil, List.map_cons, List.map_nil, List.sum_cons, List.sum_nil, Value.category, List.length_cons, List.length_nil, List.length_append, xa_rc, xa_rf, exists_eq_left, exists_eq', Option.some.injEq, Sum.inr.injEq, Prod.mk.injEq, Option.toList_some, Option.toList_none, List.cons_append, List.nil_append, Nat.reduceAdd, Nat.reduceLeDiff, Nat.reduceLT, List.set_cons_zero, List.set_cons_succ, eq_self, or_true, true_or, reduceIte, xt_ne, h3, h4, xt_le, Nat.le_refl]
          exact ihq (q + 1) _ M1 h7 (by simp [xa_s1, xa_c1, h0]) (by simp [xa_s1, xa_c1, h1]) (by simp [xa_s1, xa_c1, h2]) (by simp [xa_s1, xa_c1]) (by omega) hn (fun i hi' => hi i (by omega))
        | succ kl ihl =>
          intro l lv M1 h7 h0 h1 h2 h3 h4 e hn hi
          obtain ⟨n0, n1, n2, n3, n4, n5, n6, n7, -⟩ := id hn.2
          unfold xb_c at n0
          rw [xb_ue] at n7
          have cs := fun (a b d : Nat) => xa_iff (pd_spot (M := M1) a b d)
          simp (disch := omega) only [↓ra_139_11, ↓ra_139_13, ↓ra_139_14, xa_kli, xa_klr, xa_kll, xa_ki, xa_kl, xa_kr, xa_kii, xa_kk, xa_kir, xa_krr, xa_kiir, xa_krir, xa_kdup, xa_kdup2, xa_kcp, xa_gf, xa_pf, xa_ga, xa_pa, xa_gq, xa_pq, xa_gl, xa_args, xa_ri, xa_rz, xa_rv, xa_s1, xa_s2, xa_c1, eq_self, List.getElem?_cons_succ, List.getElem?_cons_zero, true_and, and_true, nI_add, pk_mul, xt_in, xt_cl, xt_i0, xt_i1, xa_kc, xa_w8, xa_fit, lg_sl, List.flatMap_cons, List.flatMap_nil, List.map_cons, List.map_nil, List.sum_cons, List.sum_nil, Value.category, List.length_cons, List.length_nil, List.length_append, xa_rc, xa_rf, exists_eq_left, exists_eq', Option.some.injEq, Sum.inr.injEq, Prod.mk.injEq, Option.toList_some, Option.toList_none, List.cons_append, List.nil_append, Nat.reduceAdd, Nat.reduceLeDiff, Nat.reduceLT, List.set_cons_zero, List.set_cons_succ, eq_self, or_true, true_or, reduceIte, xt_ne, h4, xt_le]
          simp only [if_neg (show ¬ 3 ≤ l by omega)]
          simp (disch := omega) only [↓ra_139_17, ↓ra_139_18, ↓ra_139_21, ↓ra_139_22, ↓ra_139_23, ↓ra_139_25, ↓ra_139_28, ↓ra_139_29, ↓ra_139_30, ↓ra_139_33, xa_kli, xa_klr, xa_kll, xa_ki, xa_kl, xa_kr, xa_kii, xa_kk, xa_kir, xa_krr, xa_kiir, xa_krir, xa_kdup, xa_kdup2, xa_kcp, xa_gf, xa_pf, xa_ga, xa_pa, xa_gq, xa_pq, xa_gl, xa_args, xa_ri, xa_rz, xa_rv, xa_s1, xa_s2, xa_c1, eq_self, List.getElem?_cons_succ, List.getElem?_cons_zero, true_and, and_true, nI_add, pk_mul, xt_in, xt_cl, xt_i0, xt_i1, xa_kc, xa_w8, xa_fit, lg_sl, List.flatMap_cons, List.flatMap_nil, List.map_cons, List.map_nil, List.sum_cons, List.sum_nil, Value.category, List.length_cons, List.length_nil, List.length_append, xa_rc, xa_rf, exists_eq_left, exists_eq', Option.some.injEq, Sum.inr.injEq, Prod.mk.injEq, Option.toList_some, Option.toList_none, List.cons_append, List.nil_append, Nat.reduceAdd, Nat.reduceLeDiff, Nat.reduceLT, List.set_cons_zero, List.set_cons_succ, eq_self, or_true, true_or, reduceIte, xt_ne, h0, h1, h2, h3, h4, n0, n7, cs, mx_138, xt_nb]
          refine ihl (l + 1) _ _ (upd h7 (18 * L + 3 * q + l) (nI 1)) (by simp [xa_s1, xa_c1, h0]) (by simp [xa_s1, xa_c1, h1]) (by simp [xa_s1, xa_c1, h2]) (by simp [xa_s1, xa_c1, h3]) (by simp [xa_s1, xa_c1]) (by omega) (xn_s7' _ hn) (fun i hi' => ?_)
          rw [xt_us]
          by_cases ee : i = 3 * q + l
          · rw [if_pos (by omega)]
          · rw [if_neg (by omega)]; exact hi i (by omega)
      simp (disch := omega) only [↓ra_139_2, ↓ra_139_3, ↓ra_139_5, xa_kli, xa_klr, xa_kll, xa_ki, xa_kl, xa_kr, xa_kii, xa_kk, xa_kir, xa_krr, xa_kiir, xa_krir, xa_kdup, xa_kdup2, xa_kcp, xa_gf, xa_pf, xa_ga, xa_pa, xa_gq, xa_pq, xa_gl, xa_args, xa_ri, xa_rz, xa_rv, xa_s1, xa_s2, xa_c1, eq_self, List.getElem?_cons_succ, List.getElem?_cons_zero, true_and, and_true, nI_add, pk_mul, xt_in, xt_cl, xt_i0, xt_i1, xa_kc, xa_w8, xa_fit, lg_sl, List.flatMap_cons, List.flatMap_nil, List.map_cons, List.map_nil, List.sum_cons, List.sum_nil, Value.category, List.length_cons, List.length_nil, List.length_append, xa_rc, xa_rf, exists_eq_left, exists_eq', Option.some.injEq, Sum.inr.injEq, Prod.mk.injEq, Option.toList_some, Option.toList_none, List.cons_append, List.nil_append, Nat.reduceAdd, Nat.reduceLeDiff, Nat.reduceLT, List.set_cons_zero, List.set_cons_succ, eq_self, or_true, true_or, reduceIte, xt_ne, h3, xt_le]
      simp only [if_neg (show ¬ 6 ≤ q by omega)]
      simp (disch := omega) only [↓ra_139_8, ↓ra_139_9, xa_kli, xa_klr, xa_kll, xa_ki, xa_kl, xa_kr, xa_kii, xa_kk, xa_kir, xa_krr, xa_kiir, xa_krir, xa_kdup, xa_kdup2, xa_kcp, xa_gf, xa_pf, xa_ga, xa_pa, xa_gq, xa_pq, xa_gl, xa_args, xa_ri, xa_rz, xa_rv, xa_s1, xa_s2, xa_c1, eq_self, List.getElem?_cons_succ, List.getElem?_cons_zero, true_and, and_true, nI_add, pk_mul, xt_in, xt_cl, xt_i0, xt_i1, xa_kc, xa_w8, xa_fit, lg_sl, List.flatMap_cons, List.flatMap_nil, List.map_cons, List.map_nil, List.sum_cons, List.sum_nil, Value.category, List.length_cons, List.length_nil, List.length_append, xa_rc, xa_rf, exists_eq_left, exists_eq', Option.some.injEq, Sum.inr.injEq, Prod.mk.injEq, Option.toList_some, Option.toList_none, List.cons_append, List.nil_append, Nat.reduceAdd, Nat.reduceLeDiff, Nat.reduceLT, List.set_cons_zero, List.set_cons_succ, eq_self, or_true, true_or, reduceIte, xt_ne]
      exact inl 3 0 _ M1 h7 (by simp [xa_s1, xa_c1, h0]) (by simp [xa_s1, xa_c1, h1]) (by simp [xa_s1, xa_c1, h2]) (by simp [xa_s1, xa_c1, h3]) (by simp [xa_s1, xa_c1]) (by omega) hn hi
  simp (disch := omega) only [↓ra_139_0, ↓ra_139_1, xa_kli, xa_klr, xa_kll, xa_ki, xa_kl, xa_kr, xa_kii, xa_kk, xa_kir, xa_krr, xa_kiir, xa_krir, xa_kdup, xa_kdup2, xa_kcp, xa_gf, xa_pf, xa_ga, xa_pa, xa_gq, xa_pq, xa_gl, xa_args, xa_ri, xa_rz, xa_rv, xa_s1, xa_s2, xa_c1, eq_self, List.getElem?_cons_succ, List.getElem?_cons_zero, true_and, and_true, nI_add, pk_mul, xt_in, xt_cl, xt_i0, xt_i1, xa_kc, xa_w8, xa_fit, lg_sl, List.flatMap_cons, List.flatMap_nil, List.map_cons, List.map_nil, List.sum_cons, List.sum_nil, Value.category, List.length_cons, List.length_nil, List.length_append, xa_rc, xa_rf, exists_eq_left, exists_eq', Option.some.injEq, Sum.inr.injEq, Prod.mk.injEq, Option.toList_some, Option.toList_none, List.cons_append, List.nil_append, Nat.reduceAdd, Nat.reduceLeDiff, Nat.reduceLT, List.set_cons_zero, List.set_cons_succ, eq_self, or_true, true_or, reduceIte, xt_ne]
  exact init 6 0 _ M (g 7) (by simp [xa_s1, xa_c1, h0]) (by simp [xa_s1, xa_c1, h1]) (by simp [xa_s1, xa_c1, h2]) (by simp [xa_s1, xa_c1]) (by omega) (by rw [xb_ui]; exact xn_r hB) (fun i hi => absurd hi (Nat.not_lt_zero i))
