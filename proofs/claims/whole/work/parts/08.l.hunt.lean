def xq_tk (T : xt_T) (S : xt_S) (l q st : Nat) : Nat := xq_n (xq_am T l q st) (xq_hn (xq_am T l q st) 60 (xq_po S (xnM T) q)) 2
/-- where one man more had best begin: how many are taken then, where -/
def xq_hu (T : xt_T) (S : xt_S) (l : Nat) : Nat → Option (Nat × Nat)
  | 0 => none
  | i + 1 => match xq_hu T S l i with
    | none => some (xq_tk T S l (i / 6) (i % 6), 10 * (i / 6) + i % 6)
    | some (m, w) => if m < xq_tk T S l (i / 6) (i % 6) then some (xq_tk T S l (i / 6) (i % 6), 10 * (i / 6) + i % 6) else some (m, w)
theorem xq_tk_le (T : xt_T) (S : xt_S) (l q st : Nat) : xq_tk T S l q st ≤ xnS T := xt_cle _ _
theorem xq_hu_le {T : xt_T} {S : xt_S} {l : Nat} : ∀ i m w, xq_hu T S l i = some (m, w) → m ≤ xnS T
  | 0, _, _, h => by cases h
  | i + 1, m, w, h => by
    unfold xq_hu at h
    have t := xq_tk_le T S l (i / 6) (i % 6)
    split at h
    · cases h; exact t
    · rename_i m' w' hp
      have := xq_hu_le i m' w' hp
      split at h
      · cases h; exact t
      · cases h; exact this
theorem pm_hunt_n {M : xa_M} {b : Nat} {A : xt_A} (hA : xh_A M b A) (iA : xi_A A) {x y : Int32} (h : ¬ (xt_k x 0 (2 + 1) ∧ xt_k y 0 (1 + 1))) : xa_E 65 0 (xa_ent [.ref b, .int x, .int y]) [] M (some (.int (Int32.ofInt (-1))), M) := by
  obtain ⟨hO, hX, hT, ⟨T0, hU⟩, hS, ⟨S0, hN⟩, hP, hK, hG, hW⟩ := id hA
  obtain ⟨iT, i5, i60, i1, ⟨iS, iD⟩, iX, iU, iK, iG⟩ := id iA
  obtain ⟨⟨b1, b2, b3, b4, b5, b6, b7, b8⟩, bs, bm, bw⟩ := id iT
  have o0 : xh_O M b := hO
  unfold xh_O at o0
  have t0 := hT.1
  have s0 := hS.1
  have n0 := hN.1
  have u0 := hU.1
  refine xa_go3 (fun lv h0 h1 h2 => ?_)
  by_cases a0 : xt_k x 0 (2 + 1)
  · have a1 : ¬ xt_k y 0 (1 + 1) := fun a => h ⟨a0, a⟩
    obtain ⟨k0, m0, l0, rfl⟩ := a0
    have c0 := xa_iff (pc_isNot_y (M := M) k0 0 2 m0 (by omega) (by omega))
    have c1 := xa_iff (pc_isNot_n (M := M) 0 1 a1 (by omega) (by omega))
    simp (disch := omega) only [↓ra_65_0, ↓ra_65_1, ↓ra_65_2, ↓ra_65_3, ↓ra_65_6, ↓ra_65_9, ↓ra_65_10, ↓ra_65_11, ↓ra_65_12, ↓ra_65_15, ↓ra_65_18, ↓ra_65_19, xa_kli, xa_klr, xa_kll, xa_ki, xa_kl, xa_kr, xa_kii, xa_kk, xa_kir, xa_krr, xa_kiir, xa_krir, xa_kdup, xa_kdup2, xa_kcp, xa_gf, xa_pf, xa_ga, xa_pa, xa_gq, xa_pq, xa_gl, xa_args, xa_ri, xa_rz, xa_rv, xa_s1, xa_s2, xa_c1, eq_self, List.getElem?_cons_succ, List.getElem?_cons_zero, true_and, and_true, nI_add, pk_mul, xt_in, xt_cl, xt_i0, xt_i1, xa_kc, xa_w8, xa_fit, lg_sl, List.flatMap_cons, List.flatMap_nil, List.map_cons, List.map_nil, List.sum_cons, List.sum_nil, Value.category, List.length_cons, List.length_nil, List.length_append, xa_rc, xa_rf, exists_eq_left, exists_eq', Option.some.injEq, Sum.inr.injEq, Prod.mk.injEq, Option.toList_some, Option.toList_none, List.cons_append, List.nil_append, Nat.reduceAdd, Nat.reduceLeDiff, Nat.reduceLT, List.set_cons_zero, List.set_cons_succ, eq_self, or_true, true_or, reduceIte, xt_ne, xt_eq, Nat.reduceEqDiff, Nat.one_ne_zero, if_false, h0, h1, h2, c0, c1, mx_78, mx_77, o0]
  · have c0 := xa_iff (pc_isNot_n (M := M) 0 2 a0 (by omega) (by omega))
    simp (disch := omega) only [↓ra_65_0, ↓ra_65_1, ↓ra_65_2, ↓ra_65_3, ↓ra_65_6, ↓ra_65_9, ↓ra_65_10, ↓ra_65_11, ↓ra_65_12, ↓ra_65_15, ↓ra_65_18, ↓ra_65_19, xa_kli, xa_klr, xa_kll, xa_ki, xa_kl, xa_kr, xa_kii, xa_kk, xa_kir, xa_krr, xa_kiir, xa_krir, xa_kdup, xa_kdup2, xa_kcp, xa_gf, xa_pf, xa_ga, xa_pa, xa_gq, xa_pq, xa_gl, xa_args, xa_ri, xa_rz, xa_rv, xa_s1, xa_s2, xa_c1, eq_self, List.getElem?_cons_succ, List.getElem?_cons_zero, true_and, and_true, nI_add, pk_mul, xt_in, xt_cl, xt_i0, xt_i1, xa_kc, xa_w8, xa_fit, lg_sl, List.flatMap_cons, List.flatMap_nil, List.map_cons, List.map_nil, List.sum_cons, List.sum_nil, Value.category, List.length_cons, List.length_nil, List.length_append, xa_rc, xa_rf, exists_eq_left, exists_eq', Option.some.injEq, Sum.inr.injEq, Prod.mk.injEq, Option.toList_some, Option.toList_none, List.cons_append, List.nil_append, Nat.reduceAdd, Nat.reduceLeDiff, Nat.reduceLT, List.set_cons_zero, List.set_cons_succ, eq_self, or_true, true_or, reduceIte, xt_ne, xt_eq, Nat.reduceEqDiff, Nat.one_ne_zero, if_false, h0, h1, h2, c0, mx_78, mx_77, o0]
def xs_hunt (A : xt_A) (l k : Nat) : Int32 := xt_o (if k = 0 then (xq_hu (yT A) (yS A) l (6 * xC (yT A))).map Prod.snd else (xq_hu (yT A) (yS A) l (6 * xC (yT A))).map Prod.fst)
theorem pm_hunt {M : xa_M} {b : Nat} {A : xt_A} (hA : xh_A M b A) (iA : xi_A A) (l k : Nat) (hl : l ≤ 2) (hk : k ≤ 1) : ∃ z, xa_E 65 0 (xa_ent [.ref b, .int (nI l), .int (nI k)]) [] M z ∧ xm b M (xs_hunt A l k) A z := by
  obtain ⟨hO, hX, hT, ⟨T0, hU⟩, hS, ⟨S0, hN⟩, hP, hK, hG, hW⟩ := id hA
  obtain ⟨iT, i5, i60, i1, ⟨iS, iD⟩, iX, iU, iK, iG⟩ := id iA
  obtain ⟨⟨b1, b2, b3, b4, b5, b6, b7, b8⟩, bs, bm, bw⟩ := id iT
  have o0 : xh_O M b := hO
  unfold xh_O at o0
  have t0 := hT.1
  have s0 := hS.1
  have n0 := hN.1
  have u0 := hU.1
  have ca := xa_iff (pc_isNot_y (M := M) l 0 2 (by omega) hl (by omega))
  have cb := xa_iff (pc_isNot_y (M := M) k 0 1 (by omega) hk (by omega))
  refine xa_ge3 (fun lv h0 h1 h2 => ?_)
  -- one turn of the inner loop
  have turn : ∀ (q st : Nat) (lv : xa_L) (M1 : xa_M), lv 0 = some (.ref b) → lv 1 = some (.int (nI l)) → lv 2 = some (.int (nI k)) → lv 3 = some (.int (xt_o ((xq_hu (yT A) (yS A) l (6 * q + st)).map Prod.fst))) → lv 4 = some (.int (xt_o ((xq_hu (yT A) (yS A) l (6 * q + st)).map Prod.snd))) → lv 5 = some (.int (nI q)) → lv 6 = some (.int (nI st)) → q < xC (yT A) → st ≤ 5 → xa_fr b (b + 107) M M1 → xh_A M1 b A → ∀ Q : xa_Z → Prop, (∀ (lv : xa_L) (M1 : xa_M), lv 0 = some (.ref b) → lv 1 = some (.int (nI l)) → lv 2 = some (.int (nI k)) → lv 3 = some (.int (xt_o ((xq_hu (yT A) (yS A) l (6 * q + (st + 1))).map Prod.fst))) → lv 4 = some (.int (xt_o ((xq_hu (yT A) (yS A) l (6 * q + (st + 1))).map Prod.snd))) → lv 5 = some (.int (nI q)) → lv 6 = some (.int (nI (st + 1))) → xa_fr b (b + 107) M M1 → xh_A M1 b A → ∃ z, xa_E 65 45 lv [] M1 z ∧ Q z) → ∃ z, xa_E 65 51 lv [] M1 z ∧ Q z := by
    intro q st lv M1 h0 h1 h2 h3 h4 h5 h6 hq hst fr hA1 Q K
    obtain ⟨hO1, -, hT1, ⟨TU, hU1⟩, hS1, ⟨S1, hN1⟩, -, -, -, hW1⟩ := id hA1
    have o1 : xh_O M1 b := hO1
    unfold xh_O at o1
    obtain ⟨⟨z2, M2⟩, cE2, c2, f2, hU2, hN2⟩ := pc_takenWithOneMore hO1 hT1 hU1 hS1 hN1 iT i5 iS (by omega) l q st hl hq hst
    have c2 : z2 = _ := c2
    subst c2
    change xa_E _ _ _ _ _ (some (.int (nI (xq_tk (yT A) (yS A) l q st))), M2) at cE2
    dsimp only at f2 hN2 hU2
    have fr2 := xa_fr_tr fr (xa_f2_fr f2 (lo := b) (hi := b + 107) (by omega) (by omega) (by omega) (by omega))
    have hA2 := xA_2 hA1 f2 (by omega) (by omega) (by omega) (by omega) hU2 hN2 (xh_W0_sm hW1 (fun a x y => f2.1 a (by omega) (by omega)))
    have tl := xq_tk_le (yT A) (yS A) l q st
    have ed : (6 * q + st) / 6 = q := by omega
    have em : (6 * q + st) % 6 = st := by omega
    simp (disch := omega) only [↓ra_65_51, ↓ra_65_52, ↓ra_65_53, ↓ra_65_55, ↓ra_65_57, ↓ra_65_60, ↓ra_65_62, xa_kli, xa_klr, xa_kll, xa_ki, xa_kl, xa_kr, xa_kii, xa_kk, xa_kir, xa_krr, xa_kiir, xa_krir, xa_kdup, xa_kdup2, xa_kcp, xa_gf, xa_pf, xa_ga, xa_pa, xa_gq, xa_pq, xa_gl, xa_args, xa_ri, xa_rz, xa_rv, xa_s1, xa_s2, xa_c1, eq_self, List.getElem?_cons_succ, List.getElem?_cons_zero, true_and, and_true, nI_add, pk_mul, xt_in, xt_cl, xt_i0, xt_i1, xa_kc, xa_w8, xa_fit, lg_sl, List.flatMap_cons, List.flatMap_nil, List.map_cons, List.map_nil, List.sum_cons, List.sum_nil, Value.category, List.length_cons, List.length_nil, List.length_append, xa_rc, xa_rf, exists_eq_left, exists_eq', Option.some.injEq, Sum.inr.injEq, Prod.mk.injEq, Option.toList_some, Option.toList_none, List.cons_append, List.nil_append, Nat.reduceAdd, Nat.reduceLeDiff, Nat.reduceLT, List.set_cons_zero, List.set_cons_succ, eq_self, or_true, true_or, reduceIte, xt_ne, h0, h1, h2, h3, h4, h5, h6, o1, xa_iff cE2, mx_84]
    have nxt : ∀ lv' : xa_L, lv' 0 = some (.ref b) → lv' 1 = some (.int (nI l)) → lv' 2 = some (.int (nI k)) → lv' 3 = some (.int (xt_o ((xq_hu (yT A) (yS A) l (6 * q + (st + 1))).map Prod.fst))) → lv' 4 = some (.int (xt_o ((xq_hu (yT A) (yS A) l (6 * q + (st + 1))).map Prod.snd))) → lv' 5 = some (.int (nI q)) → lv' 6 = some (.int (nI st)) → ∃ z, xa_E 65 81 lv' [] M2 z ∧ Q z := by
      intro lv' g0 g1 g2 g3 g4 g5 g6
      simp (disch := omega) only [↓ra_65_81, ↓ra_65_84, xa_kli, xa_klr, xa_kll, xa_ki, xa_kl, xa_kr, xa_kii, xa_kk, xa_kir, xa_krr, xa_kiir, xa_krir, xa_kdup, xa_kdup2, xa_kcp, xa_gf, xa_pf, xa_ga, xa_pa, xa_gq, xa_pq, xa_gl, xa_args, xa_ri, xa_rz, xa_rv, xa_s1, xa_s2, xa_c1, eq_self, List.getElem?_cons_succ, List.getElem?_cons_zero, true_and, and_true, nI_add, pk_mul, xt_in, xt_cl, xt_i0, xt_i1, xa_kc, xa_w8, xa_fit, lg_sl, List.flatMap_cons, List.flatMap_nil, List.map_cons, List.map_nil, List.sum_cons, List.sum_nil, Value.category, List.length_cons, List.length_nil, List.length_append, xa_rc, xa_rf, exists_eq_left, exists_eq', Option.some.injEq, Sum.inr.injEq, Prod.mk.injEq, Option.toList_some, Option.toList_none, List.cons_append, List.nil_append, Nat.reduceAdd, Nat.reduceLeDiff, Nat.reduceLT, List.set_cons_zero, List.set_cons_succ, eq_self, or_true, true_or, reduceIte, xt_ne, g6]
      exact K _ M2 (by simp [xa_s1, xa_c1, g0]) (by simp [xa_s1, xa_c1, g1]) (by simp [xa_s1, xa_c1, g2]) (by simp [xa_s1, xa_c1, g3]) (by simp [xa_s1, xa_c1, g4]) (by simp [xa_s1, xa_c1, g5]) (by simp [xa_s1, xa_c1]) fr2 hA2
    have win : xq_hu (yT A) (yS A) l (6 * q + (st + 1)) = some (xq_tk (yT A) (yS A) l q st, 10 * q + st) → ∃ z, xa_E 65 68 (xa_s1 lv 7 (.int (nI (xq_tk (yT A) (yS A) l q st)))) [] M2 z ∧ Q z := by
      intro e1
      simp (disch := omega) only [↓ra_65_68, ↓ra_65_70, ↓ra_65_71, ↓ra_65_73, ↓ra_65_75, ↓ra_65_76, ↓ra_65_78, ↓ra_65_79, xa_kli, xa_klr, xa_kll, xa_ki, xa_kl, xa_kr, xa_kii, xa_kk, xa_kir, xa_krr, xa_kiir, xa_krir, xa_kdup, xa_kdup2, xa_kcp, xa_gf, xa_pf, xa_ga, xa_pa, xa_gq, xa_pq, xa_gl, xa_args, xa_ri, xa_rz, xa_rv, xa_s1, xa_s2, xa_c1, eq_self, List.getElem?_cons_succ, List.getElem?_cons_zero, true_and, and_true, nI_add, pk_mul, xt_in, xt_cl, xt_i0, xt_i1, xa_kc, xa_w8, xa_fit, lg_sl, List.flatMap_cons, List.flatMap_nil, List.map_cons, List.map_nil, List.sum_cons, List.sum_nil, Value.category, List.length_cons, List.length_nil, List.length_append, xa_rc, xa_rf, exists_eq_left, exists_eq', Option.some.injEq, Sum.inr.injEq, Prod.mk.injEq, Option.toList_some, Option.toList_none, List.cons_append, List.nil_append, Nat.reduceAdd, Nat.reduceLeDiff, Nat.reduceLT, List.set_cons_zero, List.set_cons_succ, eq_self, or_true, true_or, reduceIte, xt_ne, h5, h6]
      exact nxt _ (by simp [xa_s1, xa_c1, h0]) (by simp [xa_s1, xa_c1, h1]) (by simp [xa_s1, xa_c1, h2]) (by simp [xa_s1, xa_c1, e1, xt_o]) (by simp [xa_s1, xa_c1, e1, xt_o]) (by simp [xa_s1, xa_c1, h5]) (by simp [xa_s1, xa_c1, h6])
    cases hp : xq_hu (yT A) (yS A) l (6 * q + st) with
    | none =>
      have e1 : xq_hu (yT A) (yS A) l (6 * q + (st + 1)) = some (xq_tk (yT A) (yS A) l q st, 10 * q + st) := by
        show xq_hu (yT A) (yS A) l ((6 * q + st) + 1) = _
        simp only [xq_hu, hp, ed, em]
      have t4 : (nI (xq_tk (yT A) (yS A) l q st) ≤ Int32.ofInt (-4)) = False := by
        have := of_eq_true (xt_m4l (xq_tk (yT A) (yS A) l q st) (by omega))
        exact eq_false (fun h => absurd this (Int32.not_lt.mpr h))
      simp (disch := omega) only [↓ra_65_64, ↓ra_65_65, xa_kli, xa_klr, xa_kll, xa_ki, xa_kl, xa_kr, xa_kii, xa_kk, xa_kir, xa_krr, xa_kiir, xa_krir, xa_kdup, xa_kdup2, xa_kcp, xa_gf, xa_pf, xa_ga, xa_pa, xa_gq, xa_pq, xa_gl, xa_args, xa_ri, xa_rz, xa_rv, xa_s1, xa_s2, xa_c1, eq_self, List.getElem?_cons_succ, List.getElem?_cons_zero, true_and, and_true, nI_add, pk_mul, xt_in, xt_cl, xt_i0, xt_i1, xa_kc, xa_w8, xa_fit, lg_sl, List.flatMap_cons, List.flatMap_nil, List.map_cons, List.map_nil, List.sum_cons, List.sum_nil, Value.category, List.length_cons, List.length_nil, List.length_append, xa_rc, xa_rf, exists_eq_left, exists_eq', Option.some.injEq, Sum.inr.injEq, Prod.mk.injEq, Option.toList_some, Option.toList_none, List.cons_append, List.nil_append, Nat.reduceAdd, Nat.reduceLeDiff, Nat.reduceLT, List.set_cons_zero, List.set_cons_succ, eq_self, or_true, true_or, reduceIte, xt_ne, h3, hp, Option.map_none, xt_o, t4, if_false]
      exact win e1
    | some wf =>
      obtain ⟨m, w⟩ := wf
      have lf := xq_hu_le _ m w hp
      have hf : xt_o (some m) = nI m := rfl
      simp (disch := omega) only [↓ra_65_64, ↓ra_65_65, xa_kli, xa_klr, xa_kll, xa_ki, xa_kl, xa_kr, xa_kii, xa_kk, xa_kir, xa_krr, xa_kiir, xa_krir, xa_kdup, xa_kdup2, xa_kcp, xa_gf, xa_pf, xa_ga, xa_pa, xa_gq, xa_pq, xa_gl, xa_args, xa_ri, xa_rz, xa_rv, xa_s1, xa_s2, xa_c1, eq_self, List.getElem?_cons_succ, List.getElem?_cons_zero, true_and, and_true, nI_add, pk_mul, xt_in, xt_cl, xt_i0, xt_i1, xa_kc, xa_w8, xa_fit, lg_sl, List.flatMap_cons, List.flatMap_nil, List.map_cons, List.map_nil, List.sum_cons, List.sum_nil, Value.category, List.length_cons, List.length_nil, List.length_append, xa_rc, xa_rf, exists_eq_left, exists_eq', Option.some.injEq, Sum.inr.injEq, Prod.mk.injEq, Option.toList_some, Option.toList_none, List.cons_append, List.nil_append, Nat.reduceAdd, Nat.reduceLeDiff, Nat.reduceLT, List.set_cons_zero, List.set_cons_succ, eq_self, or_true, true_or, reduceIte, xt_ne, h3, hp, Option.map_some, hf, xt_le]
      by_cases cf : m < xq_tk (yT A) (yS A) l q st
      · simp only [if_neg (show ¬ xq_tk (yT A) (yS A) l q st ≤ m by omega)]
        refine win ?_
        show xq_hu (yT A) (yS A) l ((6 * q + st) + 1) = _
        simp only [xq_hu, hp, ed, em, if_pos cf]
      · simp only [if_pos (show xq_tk (yT A) (yS A) l q st ≤ m by omega)]
        have e1 : xq_hu (yT A) (yS A) l (6 * q + (st + 1)) = some (m, w) := by
          show xq_hu (yT A) (yS A) l ((6 * q + st) + 1) = _
          simp only [xq_hu, hp, ed, em, if_neg cf]
        exact nxt _ (by simp [xa_s1, xa_c1, h0]) (by simp [xa_s1, xa_c1, h1]) (by simp [xa_s1, xa_c1, h2]) (by simp [xa_s1, xa_c1, h3, hp, e1]) (by simp [xa_s1, xa_c1, h4, hp, e1]) (by simp [xa_s1, xa_c1, h5]) (by simp [xa_s1, xa_c1, h6])
  have inner : ∀ (r q st : Nat) (lv : xa_L) (M1 : xa_M), lv 0 = some (.ref b) → lv 1 = some (.int (nI l)) → lv 2 = some (.int (nI k)) → lv 3 = some (.int (xt_o ((xq_hu (yT A) (yS A) l (6 * q + st)).map Prod.fst))) → lv 4 = some (.int (xt_o ((xq_hu (yT A) (yS A) l (6 * q + st)).map Prod.snd))) → lv 5 = some (.int (nI q)) → lv 6 = some (.int (nI st)) → q < xC (yT A) → st + r = 6 → xa_fr b (b + 107) M M1 → xh_A M1 b A → ∀ Q : xa_Z → Prop, (∀ (lv : xa_L) (M1 : xa_M), lv 0 = some (.ref b) → lv 1 = some (.int (nI l)) → lv 2 = some (.int (nI k)) → lv 3 = some (.int (xt_o ((xq_hu (yT A) (yS A) l (6 * (q + 1))).map Prod.fst))) → lv 4 = some (.int (xt_o ((xq_hu (yT A) (yS A) l (6 * (q + 1))).map Prod.snd))) → lv 5 = some (.int (nI (q + 1))) → xa_fr b (b + 107) M M1 → xh_A M1 b A → ∃ z, xa_E 65 30 lv [] M1 z ∧ Q z) → ∃ z, xa_E 65 45 lv [] M1 z ∧ Q z := by
    intro r
    induction r with
    | zero =>
      intro q st lv M1 h0 h1 h2 h3 h4 h5 h6 hq e fr hA1 Q K
      have e : st = 6 := by omega
      subst e
      simp (disch := omega) only [↓ra_65_45, ↓ra_65_47, ↓ra_65_48, ↓ra_65_87, ↓ra_65_90, xa_kli, xa_klr, xa_kll, xa_ki, xa_kl, xa_kr, xa_kii, xa_kk, xa_kir, xa_krr, xa_kiir, xa_krir, xa_kdup, xa_kdup2, xa_kcp, xa_gf, xa_pf, xa_ga, xa_pa, xa_gq, xa_pq, xa_gl, xa_args, xa_ri, xa_rz, xa_rv, xa_s1, xa_s2, xa_c1, eq_self, List.getElem?_cons_succ, List.getElem?_cons_zero, true_and, and_true, nI_add, pk_mul, xt_in, xt_cl, xt_i0, xt_i1, xa_kc, xa_w8, xa_fit, lg_sl, List.flatMap_cons, List.flatMap_nil, List.map_cons, List.map_nil, List.sum_cons, List.sum_nil, Value.category, List.length_cons, List.length_nil, List.length_append, xa_rc, xa_rf, exists_eq_left, exists_eq', Option.some.injEq, Sum.inr.injEq, Prod.mk.injEq, Option.toList_some, Option.toList_none, List.cons_append, List.nil_append, Nat.reduceAdd, Nat.reduceLeDiff, Nat.reduceLT, List.set_cons_zero, List.set_cons_succ, eq_self, or_true, true_or, reduceIte, xt_ne, h5, h6, xt_lt]
      have e6 : 6 * (q + 1) = 6 * q + 6 := by omega
      exact K _ M1 (by simp [xa_s1, xa_c1, h0]) (by simp [xa_s1, xa_c1, h1]) (by simp [xa_s1, xa_c1, h2]) (by simp [xa_s1, xa_c1, h3, e6]) (by simp [xa_s1, xa_c1, h4, e6]) (by simp [xa_s1, xa_c1]) fr hA1
    | succ r ih =>
      intro q st lv M1 h0 h1 h2 h3 h4 h5 h6 hq e fr hA1 Q K
      simp (disch := omega) only [↓ra_65_45, ↓ra_65_47, ↓ra_65_48, xa_kli, xa_klr, xa_kll, xa_ki, xa_kl, xa_kr, xa_kii, xa_kk, xa_kir, xa_krr, xa_kiir, xa_krir, xa_kdup, xa_kdup2, xa_kcp, xa_gf, xa_pf, xa_ga, xa_pa, xa_gq, xa_pq, xa_gl, xa_args, xa_ri, xa_rz, xa_rv, xa_s1, xa_s2, xa_c1, eq_self, List.getElem?_cons_succ, List.getElem?_cons_zero, true_and, and_true, nI_add, pk_mul, xt_in, xt_cl, xt_i0, xt_i1, xa_kc, xa_w8, xa_fit, lg_sl, List.flatMap_cons, List.flatMap_nil, List.map_cons, List.map_nil, List.sum_cons, List.sum_nil, Value.category, List.length_cons, List.length_nil, List.length_append, xa_rc, xa_rf, exists_eq_left, exists_eq', Option.some.injEq, Sum.inr.injEq, Prod.mk.injEq, Option.toList_some, Option.toList_none, List.cons_append, List.nil_append, Nat.reduceAdd, Nat.reduceLeDiff, Nat.reduceLT, List.set_cons_zero, List.set_cons_succ, eq_self, or_true, true_or, reduceIte, xt_ne, h5, h6, xt_lt]
      simp only [if_neg (show ¬ 5 < st by omega)]
      exact turn q st lv M1 h0 h1 h2 h3 h4 h5 h6 hq (by omega) fr hA1 Q (fun lv M1 g0 g1 g2 g3 g4 g5 g6 fr hA1 => ih q (st + 1) lv M1 g0 g1 g2 g3 g4 g5 g6 hq (by omega) fr hA1 Q K)
  have outer : ∀ (r q : Nat) (lv : xa_L) (M1 : xa_M), lv 0 = some (.ref b) → lv 1 = some (.int (nI l)) → lv 2 = some (.int (nI k)) → lv 3 = some (.int (xt_o ((xq_hu (yT A) (yS A) l (6 * q)).map Prod.fst))) → lv 4 = some (.int (xt_o ((xq_hu (yT A) (yS A) l (6 * q)).map Prod.snd))) → lv 5 = some (.int (nI q)) → q + r = xC (yT A) → xa_fr b (b + 107) M M1 → xh_A M1 b A → ∃ z, xa_E 65 30 lv [] M1 z ∧ xm b M (xs_hunt A l k) A z := by
    intro r
    induction r with
    | zero =>
      intro q lv M1 h0 h1 h2 h3 h4 h5 e fr hA1
      have e : q = xC (yT A) := by omega
      subst e
      obtain ⟨hO1, -, hT1, -⟩ := id hA1
      have o1 : xh_O M1 b := hO1
      unfold xh_O at o1
      have t1 := hT1.1
      simp (disch := omega) only [↓ra_65_30, ↓ra_65_32, ↓ra_65_33, ↓ra_65_36, ↓ra_65_39, ↓ra_65_93, ↓ra_65_94, xa_kli, xa_klr, xa_kll, xa_ki, xa_kl, xa_kr, xa_kii, xa_kk, xa_kir, xa_krr, xa_kiir, xa_krir, xa_kdup, xa_kdup2, xa_kcp, xa_gf, xa_pf, xa_ga, xa_pa, xa_gq, xa_pq, xa_gl, xa_args, xa_ri, xa_rz, xa_rv, xa_s1, xa_s2, xa_c1, eq_self, List.getElem?_cons_succ, List.getElem?_cons_zero, true_and, and_true, nI_add, pk_mul, xt_in, xt_cl, xt_i0, xt_i1, xa_kc, xa_w8, xa_fit, lg_sl, List.flatMap_cons, List.flatMap_nil, List.map_cons, List.map_nil, List.sum_cons, List.sum_nil, Value.category, List.length_cons, List.length_nil, List.length_append, xa_rc, xa_rf, exists_eq_left, exists_eq', Option.some.injEq, Sum.inr.injEq, Prod.mk.injEq, Option.toList_some, Option.toList_none, List.cons_append, List.nil_append, Nat.reduceAdd, Nat.reduceLeDiff, Nat.reduceLT, List.set_cons_zero, List.set_cons_succ, eq_self, or_true, true_or, reduceIte, xt_ne, h0, h1, h2, h3, h4, h5, o1, t1, xt_le, Nat.le_refl, xt_eq]
      unfold xs_hunt
      by_cases ck : k = 0
      · simp only [if_pos ck]
        simp (disch := omega) only [↓ra_65_97, ↓ra_65_99, ↓ra_65_103, xa_kli, xa_klr, xa_kll, xa_ki, xa_kl, xa_kr, xa_kii, xa_kk, xa_kir, xa_krr, xa_kiir, xa_krir, xa_kdup, xa_kdup2, xa_kcp, xa_gf, xa_pf, xa_ga, xa_pa, xa_gq, xa_pq, xa_gl, xa_args, xa_ri, xa_rz, xa_rv, xa_s1, xa_s2, xa_c1, eq_self, List.getElem?_cons_succ, List.getElem?_cons_zero, true_and, and_true, nI_add, pk_mul, xt_in, xt_cl, xt_i0, xt_i1, xa_kc, xa_w8, xa_fit, lg_sl, List.flatMap_cons, List.flatMap_nil, List.map_cons, List.map_nil, List.sum_cons, List.sum_nil, Value.category, List.length_cons, List.length_nil, List.length_append, xa_rc, xa_rf, exists_eq_left, exists_eq', Option.some.injEq, Sum.inr.injEq, Prod.mk.injEq, Option.toList_some, Option.toList_none, List.cons_append, List.nil_append, Nat.reduceAdd, Nat.reduceLeDiff, Nat.reduceLT, List.set_cons_zero, List.set_cons_succ, eq_self, or_true, true_or, reduceIte, xt_ne, h4]
        exact ⟨rfl, fr, hA1⟩
      · simp only [if_neg ck]
        simp (disch := omega) only [↓ra_65_102, ↓ra_65_103, xa_kli, xa_klr, xa_kll, xa_ki, xa_kl, xa_kr, xa_kii, xa_kk, xa_kir, xa_krr, xa_kiir, xa_krir, xa_kdup, xa_kdup2, xa_kcp, xa_gf, xa_pf, xa_ga, xa_pa, xa_gq, xa_pq, xa_gl, xa_args, xa_ri, xa_rz, xa_rv, xa_s1, xa_s2, xa_c1, eq_self, List.getElem?_cons_succ, List.getElem?_cons_zero, true_and, and_true, nI_add, pk_mul, xt_in, xt_cl, xt_i0, xt_i1, xa_kc, xa_w8, xa_fit, lg_sl, List.flatMap_cons, List.flatMap_nil, List.map_cons, List.map_nil, List.sum_cons, List.sum_nil, Value.category, List.length_cons, List.length_nil, List.length_append, xa_rc, xa_rf, exists_eq_left, exists_eq', Option.some.injEq, Sum.inr.injEq, Prod.mk.injEq, Option.toList_some, Option.toList_none, List.cons_append, List.nil_append, Nat.reduceAdd, Nat.reduceLeDiff, Nat.reduceLT, List.set_cons_zero, List.set_cons_succ, eq_self, or_true, true_or, reduceIte, xt_ne, h3]
        exact ⟨rfl, fr, hA1⟩
    | succ r ih =>
      intro q lv M1 h0 h1 h2 h3 h4 h5 e fr hA1
      obtain ⟨hO1, -, hT1, -⟩ := id hA1
      have o1 : xh_O M1 b := hO1
      unfold xh_O at o1
      have t1 := hT1.1
      simp (disch := omega) only [↓ra_65_30, ↓ra_65_32, ↓ra_65_33, ↓ra_65_36, ↓ra_65_39, xa_kli, xa_klr, xa_kll, xa_ki, xa_kl, xa_kr, xa_kii, xa_kk, xa_kir, xa_krr, xa_kiir, xa_krir, xa_kdup, xa_kdup2, xa_kcp, xa_gf, xa_pf, xa_ga, xa_pa, xa_gq, xa_pq, xa_gl, xa_args, xa_ri, xa_rz, xa_rv, xa_s1, xa_s2, xa_c1, eq_self, List.getElem?_cons_succ, List.getElem?_cons_zero, true_and, and_true, nI_add, pk_mul, xt_in, xt_cl, xt_i0, xt_i1, xa_kc, xa_w8, xa_fit, lg_sl, List.flatMap_cons, List.flatMap_nil, List.map_cons, List.map_nil, List.sum_cons, List.sum_nil, Value.category, List.length_cons, List.length_nil, List.length_append, xa_rc, xa_rf, exists_eq_left, exists_eq', Option.some.injEq, Sum.inr.injEq, Prod.mk.injEq, Option.toList_some, Option.toList_none, List.cons_append, List.nil_append, Nat.reduceAdd, Nat.reduceLeDiff, Nat.reduceLT, List.set_cons_zero, List.set_cons_succ, eq_self, or_true, true_or, reduceIte, xt_ne, h0, h1, h2, h3, h4, h5, o1, t1, xt_le]
      simp only [if_neg (show ¬ xC (yT A) ≤ q by omega)]
      simp (disch := omega) only [↓ra_65_42, ↓ra_65_43, xa_kli, xa_klr, xa_kll, xa_ki, xa_kl, xa_kr, xa_kii, xa_kk, xa_kir, xa_krr, xa_kiir, xa_krir, xa_kdup, xa_kdup2, xa_kcp, xa_gf, xa_pf, xa_ga, xa_pa, xa_gq, xa_pq, xa_gl, xa_args, xa_ri, xa_rz, xa_rv, xa_s1, xa_s2, xa_c1, eq_self, List.getElem?_cons_succ, List.getElem?_cons_zero, true_and, and_true, nI_add, pk_mul, xt_in, xt_cl, xt_i0, xt_i1, xa_kc, xa_w8, xa_fit, lg_sl, List.flatMap_cons, List.flatMap_nil, List.map_cons, List.map_nil, List.sum_cons, List.sum_nil, Value.category, List.length_cons, List.length_nil, List.length_append, xa_rc, xa_rf, exists_eq_left, exists_eq', Option.some.injEq, Sum.inr.injEq, Prod.mk.injEq, Option.toList_some, Option.toList_none, List.cons_append, List.nil_append, Nat.reduceAdd, Nat.reduceLeDiff, Nat.reduceLT, List.set_cons_zero, List.set_cons_succ, eq_self, or_true, true_or, reduceIte, xt_ne]
      exact inner 6 q 0 _ M1 (by simp [xa_s1, xa_c1, h0]) (by simp [xa_s1, xa_c1, h1]) (by simp [xa_s1, xa_c1, h2]) (by simp [xa_s1, xa_c1, h3]) (by simp [xa_s1, xa_c1, h4]) (by simp [xa_s1, xa_c1, h5]) (by simp [xa_s1, xa_c1]) (by omega) (by omega) fr hA1 _ (fun lv M1 g0 g1 g2 g3 g4 g5 fr hA1 => ih (q + 1) lv M1 g0 g1 g2 g3 g4 g5 (by omega) fr hA1)
  simp (disch := omega) only [↓ra_65_0, ↓ra_65_1, ↓ra_65_2, ↓ra_65_3, ↓ra_65_6, ↓ra_65_9, ↓ra_65_10, ↓ra_65_11, ↓ra_65_12, ↓ra_65_15, ↓ra_65_20, ↓ra_65_22, ↓ra_65_23, ↓ra_65_25, ↓ra_65_27, ↓ra_65_28, xa_kli, xa_klr, xa_kll, xa_ki, xa_kl, xa_kr, xa_kii, xa_kk, xa_kir, xa_krr, xa_kiir, xa_krir, xa_kdup, xa_kdup2, xa_kcp, xa_gf, xa_pf, xa_ga, xa_pa, xa_gq, xa_pq, xa_gl, xa_args, xa_ri, xa_rz, xa_rv, xa_s1, xa_s2, xa_c1, eq_self, List.getElem?_cons_succ, List.getElem?_cons_zero, true_and, and_true, nI_add, pk_mul, xt_in, xt_cl, xt_i0, xt_i1, xa_kc, xa_w8, xa_fit, lg_sl, List.flatMap_cons, List.flatMap_nil, List.map_cons, List.map_nil, List.sum_cons, List.sum_nil, Value.category, List.length_cons, List.length_nil, List.length_append, xa_rc, xa_rf, exists_eq_left, exists_eq', Option.some.injEq, Sum.inr.injEq, Prod.mk.injEq, Option.toList_some, Option.toList_none, List.cons_append, List.nil_append, Nat.reduceAdd, Nat.reduceLeDiff, Nat.reduceLT, List.set_cons_zero, List.set_cons_succ, eq_self, or_true, true_or, reduceIte, xt_ne, xt_eq, Nat.reduceEqDiff, Nat.one_ne_zero, if_false, h0, h1, h2, ca, cb, mx_77]
  exact outer (xC (yT A)) 0 _ M (by simp [xa_s1, xa_c1, h0]) (by simp [xa_s1, xa_c1, h1]) (by simp [xa_s1, xa_c1, h2]) (by simp [xa_s1, xa_c1, xq_hu, xt_o]) (by simp [xa_s1, xa_c1, xq_hu, xt_o]) (by simp [xa_s1, xa_c1]) (by omega) xa_fr_rf hA
-- proof
def xq_pr (T : xt_T) (t : Nat) : Nat → Nat → Nat → Option Nat
  | 0, day, used => if t < day then some used else none
  | r + 1, day, used => if t < day then some used else match xq_pf T day (xnW T) with
    | none => none
    | some l => xq_pr T t r (l + 1) (used + 1)
def xs_proof (A : xt_A) (f t : Nat) : Int32 := xt_o (xq_pr (yT A) t (xnW (yT A) + 1) f 0)
theorem pm_proof_n {M : xa_M} {b : Nat} {A : xt_A} (hA : xh_A M b A) (iA : xi_A A) {x y : Int32} (h : ¬ ∃ f t : Nat, f ≤ t ∧ t ≤ 99 ∧ x = nI f ∧ y = nI t) : xa_E 66 0 (xa_ent [.ref b, .int x, .int y]) [] M (some (.int (Int32.ofInt (-1))), M) := by
  have cn := xa_iff (pc_noDays_n (M := M) x y h)
  refine xa_go3 (fun lv h0 h1 h2 => ?_)
  simp (disch := omega) only [↓ra_66_0, ↓ra_66_1, ↓ra_66_2, ↓ra_66_5, ↓ra_66_8, ↓ra_66_9, xa_kli, xa_klr, xa_kll, xa_ki, xa_kl, xa_kr, xa_kii, xa_kk, xa_kir, xa_krr, xa_kiir, xa_krir, xa_kdup, xa_kdup2, xa_kcp, xa_gf, xa_pf, xa_ga, xa_pa, xa_gq, xa_pq, xa_gl, xa_args, xa_ri, xa_rz, xa_rv, xa_s1, xa_s2, xa_c1, eq_self, List.getElem?_cons_succ, List.getElem?_cons_zero, true_and, and_true, nI_add, pk_mul, xt_in, xt_cl, xt_i0, xt_i1, xa_kc, xa_w8, xa_fit, lg_sl, List.flatMap_cons, List.flatMap_nil, List.map_cons, List.map_nil, List.sum_cons, List.sum_nil, Value.category, List.length_cons, List.length_nil, List.length_append, xa_rc, xa_rf, exists_eq_left, exists_eq', Option.some.injEq, Sum.inr.injEq, Prod.mk.injEq, Option.toList_some, Option.toList_none, List.cons_append, List.nil_append, Nat.reduceAdd, Nat.reduceLeDiff, Nat.reduceLT, List.set_cons_zero, List.set_cons_succ, eq_self, or_true, true_or, reduceIte, xt_ne, xt_eq, Nat.reduceEqDiff, Nat.one_ne_zero, if_false, h0, h1, h2, cn, mx_81]
theorem pm_proof {M : xa_M} {b : Nat} {A : xt_A} (hA : xh_A M b A) (iA : xi_A A) (f t : Nat) (hf : f ≤ t) (ht : t ≤ 99) : xa_E 66 0 (xa_ent [.ref b, .int (nI f), .int (nI t)]) [] M (some (.int (xs_proof A f t)), M) := by
  obtain ⟨hO, hX, hT, ⟨T0, hU⟩, hS, ⟨S0, hN⟩, hP, hK, hG, hW⟩ := id hA
  obtain ⟨iT, i5, i60, i1, ⟨iS, iD⟩, iX, iU, iK, iG⟩ := id iA
  obtain ⟨⟨b1, b2, b3, b4, b5, b6, b7, b8⟩, bs, bm, bw⟩ := id iT
  have o0 : xh_O M b := hO
  unfold xh_O at o0
  have t0 := hT.1
  have s0 := hS.1
  have n0 := hN.1
  have u0 := hU.1
  have cn := xa_iff (pc_noDays_y (M := M) f t hf ht)
  refine xa_go3 (fun lv h0 h1 h2 => ?_)
  have loop : ∀ (r i day used : Nat) (lv : xa_L), lv 0 = some (.ref b) → lv 2 = some (.int (nI t)) → lv 3 = some (.int (nI day)) → lv 4 = some (.int (nI used)) → lv 5 = some (.int (nI i)) → i + r = xnW (yT A) + 1 → day ≤ 100 → xa_E 66 18 lv [] M (some (.int (xt_o (xq_pr (yT A) t r day used))), M) := by
    intro r
    have fin : ∀ (day used : Nat) (lv : xa_L), lv 2 = some (.int (nI t)) → lv 3 = some (.int (nI day)) → lv 4 = some (.int (nI used)) → day ≤ 100 → xa_E 66 69 lv [] M (some (.int (xt_o (if t < day then some used else none))), M) := by
      intro day used lv h2 h3 h4 hd
      simp (disch := omega) only [↓ra_66_69, ↓ra_66_70, ↓ra_66_71, xa_kli, xa_klr, xa_kll, xa_ki, xa_kl, xa_kr, xa_kii, xa_kk, xa_kir, xa_krr, xa_kiir, xa_krir, xa_kdup, xa_kdup2, xa_kcp, xa_gf, xa_pf, xa_ga, xa_pa, xa_gq, xa_pq, xa_gl, xa_args, xa_ri, xa_rz, xa_rv, xa_s1, xa_s2, xa_c1, eq_self, List.getElem?_cons_succ, List.getElem?_cons_zero, true_and, and_true, nI_add, pk_mul, xt_in, xt_cl, xt_i0, xt_i1, xa_kc, xa_w8, xa_fit, lg_sl, List.flatMap_cons, List.flatMap_nil, List.map_cons, List.map_nil, List.sum_cons, List.sum_nil, Value.category, List.length_cons, List.length_nil, List.length_append, xa_rc, xa_rf, exists_eq_left, exists_eq', Option.some.injEq, Sum.inr.injEq, Prod.mk.injEq, Option.toList_some, Option.toList_none, List.cons_append, List.nil_append, Nat.reduceAdd, Nat.reduceLeDiff, Nat.reduceLT, List.set_cons_zero, List.set_cons_succ, eq_self, or_true, true_or, reduceIte, xt_ne, h2, h3, xt_le]
      by_cases c : t < day
      · rw [if_neg (show ¬ day ≤ t by omega), if_pos c]
        simp (disch := omega) only [↓ra_66_74, ↓ra_66_76, ↓ra_66_81, xa_kli, xa_klr, xa_kll, xa_ki, xa_kl, xa_kr, xa_kii, xa_kk, xa_kir, xa_krr, xa_kiir, xa_krir, xa_kdup, xa_kdup2, xa_kcp, xa_gf, xa_pf, xa_ga, xa_pa, xa_gq, xa_pq, xa_gl, xa_args, xa_ri, xa_rz, xa_rv, xa_s1, xa_s2, xa_c1, eq_self, List.getElem?_cons_succ, List.getElem?_cons_zero, true_and, and_true, nI_add, pk_mul, xt_in, xt_cl, xt_i0, xt_i1, xa_kc, xa_w8, xa_fit, lg_sl, List.flatMap_cons, List.flatMap_nil, List.map_cons, List.map_nil, List.sum_cons, List.sum_nil, Value.category, List.length_cons, List.length_nil, List.length_append, xa_rc, xa_rf, exists_eq_left, exists_eq', Option.some.injEq, Sum.inr.injEq, Prod.mk.injEq, Option.toList_some, Option.toList_none, List.cons_append, List.nil_append, Nat.reduceAdd, Nat.reduceLeDiff, Nat.reduceLT, List.set_cons_zero, List.set_cons_succ, eq_self, or_true, true_or, reduceIte, xt_ne, h4]
        rfl
      · rw [if_pos (show day ≤ t by omega), if_neg c]
        simp (disch := omega) only [↓ra_66_79, ↓ra_66_81, xa_kli, xa_klr, xa_kll, xa_ki, xa_kl, xa_kr, xa_kii, xa_kk, xa_kir, xa_krr, xa_kiir, xa_krir, xa_kdup, xa_kdup2, xa_kcp, xa_gf, xa_pf, xa_ga, xa_pa, xa_gq, xa_pq, xa_gl, xa_args, xa_ri, xa_rz, xa_rv, xa_s1, xa_s2, xa_c1, eq_self, List.getElem?_cons_succ, List.getElem?_cons_zero, true_and, and_true, nI_add, pk_mul, xt_in, xt_cl, xt_i0, xt_i1, xa_kc, xa_w8, xa_fit, lg_sl, List.flatMap_cons, List.flatMap_nil, List.map_cons, List.map_nil, List.sum_cons, List.sum_nil, Value.category, List.length_cons, List.length_nil, List.length_append, xa_rc, xa_rf, exists_eq_left, exists_eq', Option.some.injEq, Sum.inr.injEq, Prod.mk.injEq, Option.toList_some, Option.toList_none, List.cons_append, List.nil_append, Nat.reduceAdd, Nat.reduceLeDiff, Nat.reduceLT, List.set_cons_zero, List.set_cons_succ, eq_self, or_true, true_or, reduceIte, xt_ne]
        rfl
    induction r with
    | zero =>
      intro i day used lv h0 h2 h3 h4 h5 e hd
      simp (disch := omega) only [↓ra_66_18, ↓ra_66_20, ↓ra_66_21, ↓ra_66_24, ↓ra_66_27, xa_kli, xa_klr, xa_kll, xa_ki, xa_kl, xa_kr, xa_kii, xa_kk, xa_kir, xa_krr, xa_kiir, xa_krir, xa_kdup, xa_kdup2, xa_kcp, xa_gf, xa_pf, xa_ga, xa_pa, xa_gq, xa_pq, xa_gl, xa_args, xa_ri, xa_rz, xa_rv, xa_s1, xa_s2, xa_c1, eq_self, List.getElem?_cons_succ, List.getElem?_cons_zero, true_and, and_true, nI_add, pk_mul, xt_in, xt_cl, xt_i0, xt_i1, xa_kc, xa_w8, xa_fit, lg_sl, List.flatMap_cons, List.flatMap_nil, List.map_cons, List.map_nil, List.sum_cons, List.sum_nil, Value.category, List.length_cons, List.length_nil, List.length_append, xa_rc, xa_rf, exists_eq_left, exists_eq', Option.some.injEq, Sum.inr.injEq, Prod.mk.injEq, Option.toList_some, Option.toList_none, List.cons_append, List.nil_append, Nat.reduceAdd, Nat.reduceLeDiff, Nat.reduceLT, List.set_cons_zero, List.set_cons_succ, eq_self, or_true, true_or, reduceIte, xt_ne, h0, h2, h3, h4, h5, o0, t0, xt_lt]
      rw [if_pos (by omega)]
      exact fin day used lv h2 h3 h4 hd
    | succ r ih =>
      intro i day used lv h0 h2 h3 h4 h5 e hd
      simp (disch := omega) only [↓ra_66_18, ↓ra_66_20, ↓ra_66_21, ↓ra_66_24, ↓ra_66_27, xa_kli, xa_klr, xa_kll, xa_ki, xa_kl, xa_kr, xa_kii, xa_kk, xa_kir, xa_krr, xa_kiir, xa_krir, xa_kdup, xa_kdup2, xa_kcp, xa_gf, xa_pf, xa_ga, xa_pa, xa_gq, xa_pq, xa_gl, xa_args, xa_ri, xa_rz, xa_rv, xa_s1, xa_s2, xa_c1, eq_self, List.getElem?_cons_succ, List.getElem?_cons_zero, true_and, and_true, nI_add, pk_mul, xt_in, xt_cl, xt_i0, xt_i1, xa_kc, xa_w8, xa_fit, lg_sl, List.flatMap_cons, List.flatMap_nil, List.map_cons, List.map_nil, List.sum_cons, List.sum_nil, Value.category, List.length_cons, List.length_nil, List.length_append, xa_rc, xa_rf, exists_eq_left, exists_eq', Option.some.injEq, Sum.inr.injEq, Prod.mk.injEq, Option.toList_some, Option.toList_none, List.cons_append, List.nil_append, Nat.reduceAdd, Nat.reduceLeDiff, Nat.reduceLT, List.set_cons_zero, List.set_cons_succ, eq_self, or_true, true_or, reduceIte, xt_ne, h0, h2, h3, h4, h5, o0, t0, xt_lt]
      rw [if_neg (by omega)]
      simp (disch := omega) only [↓ra_66_30, ↓ra_66_31, ↓ra_66_32, xa_kli, xa_klr, xa_kll, xa_ki, xa_kl, xa_kr, xa_kii, xa_kk, xa_kir, xa_krr, xa_kiir, xa_krir, xa_kdup, xa_kdup2, xa_kcp, xa_gf, xa_pf, xa_ga, xa_pa, xa_gq, xa_pq, xa_gl, xa_args, xa_ri, xa_rz, xa_rv, xa_s1, xa_s2, xa_c1, eq_self, List.getElem?_cons_succ, List.getElem?_cons_zero, true_and, and_true, nI_add, pk_mul, xt_in, xt_cl, xt_i0, xt_i1, xa_kc, xa_w8, xa_fit, lg_sl, List.flatMap_cons, List.flatMap_nil, List.map_cons, List.map_nil, List.sum_cons, List.sum_nil, Value.category, List.length_cons, List.length_nil, List.length_append, xa_rc, xa_rf, exists_eq_left, exists_eq', Option.some.injEq, Sum.inr.injEq, Prod.mk.injEq, Option.toList_some, Option.toList_none, List.cons_append, List.nil_append, Nat.reduceAdd, Nat.reduceLeDiff, Nat.reduceLT, List.set_cons_zero, List.set_cons_succ, eq_self, or_true, true_or, reduceIte, xt_ne, h0, h2, h3, h4, h5, xt_lt]
      unfold xq_pr
      by_cases c : t < day
      · have := fin day used lv h2 h3 h4 hd
        rw [if_pos c] at this
        rw [if_pos c, if_pos c]
        exact this
      · rw [if_neg c, if_neg c]
        have cp := xa_iff (pc_provedFrom hT iT day (by omega))
        simp (disch := omega) only [↓ra_66_35, ↓ra_66_36, ↓ra_66_39, ↓ra_66_40, ↓ra_66_43, ↓ra_66_45, ↓ra_66_47, ↓ra_66_49, xa_kli, xa_klr, xa_kll, xa_ki, xa_kl, xa_kr, xa_kii, xa_kk, xa_kir, xa_krr, xa_kiir, xa_krir, xa_kdup, xa_kdup2, xa_kcp, xa_gf, xa_pf, xa_ga, xa_pa, xa_gq, xa_pq, xa_gl, xa_args, xa_ri, xa_rz, xa_rv, xa_s1, xa_s2, xa_c1, eq_self, List.getElem?_cons_succ, List.getElem?_cons_zero, true_and, and_true, nI_add, pk_mul, xt_in, xt_cl, xt_i0, xt_i1, xa_kc, xa_w8, xa_fit, lg_sl, List.flatMap_cons, List.flatMap_nil, List.map_cons, List.map_nil, List.sum_cons, List.sum_nil, Value.category, List.length_cons, List.length_nil, List.length_append, xa_rc, xa_rf, exists_eq_left, exists_eq', Option.some.injEq, Sum.inr.injEq, Prod.mk.injEq, Option.toList_some, Option.toList_none, List.cons_append, List.nil_append, Nat.reduceAdd, Nat.reduceLeDiff, Nat.reduceLT, List.set_cons_zero, List.set_cons_succ, eq_self, or_true, true_or, reduceIte, xt_ne, h0, h2, h3, h4, h5, o0, t0, cp, mx_42]
        cases hp : xq_pf (yT A) day (xnW (yT A)) with
        | none =>
          simp only [xt_o, if_true]
          simp (disch := omega) only [↓ra_66_52, ↓ra_66_54, xa_kli, xa_klr, xa_kll, xa_ki, xa_kl, xa_kr, xa_kii, xa_kk, xa_kir, xa_krr, xa_kiir, xa_krir, xa_kdup, xa_kdup2, xa_kcp, xa_gf, xa_pf, xa_ga, xa_pa, xa_gq, xa_pq, xa_gl, xa_args, xa_ri, xa_rz, xa_rv, xa_s1, xa_s2, xa_c1, eq_self, List.getElem?_cons_succ, List.getElem?_cons_zero, true_and, and_true, nI_add, pk_mul, xt_in, xt_cl, xt_i0, xt_i1, xa_kc, xa_w8, xa_fit, lg_sl, List.flatMap_cons, List.flatMap_nil, List.map_cons, List.map_nil, List.sum_cons, List.sum_nil, Value.category, List.length_cons, List.length_nil, List.length_append, xa_rc, xa_rf, exists_eq_left, exists_eq', Option.some.injEq, Sum.inr.injEq, Prod.mk.injEq, Option.toList_some, Option.toList_none, List.cons_append, List.nil_append, Nat.reduceAdd, Nat.reduceLeDiff, Nat.reduceLT, List.set_cons_zero, List.set_cons_succ, eq_self, or_true, true_or, reduceIte, xt_ne]
        | some l =>
          have ll := xq_pf_le (day := day) bw (xnW (yT A)) (Nat.le_refl _) l hp
          have hl : xt_o (some l) = nI l := rfl
          simp (disch := omega) only [hl, xt_m4n, if_false]
          simp (disch := omega) only [↓ra_66_55, ↓ra_66_58, ↓ra_66_60, ↓ra_66_61, ↓ra_66_62, ↓ra_66_63, ↓ra_66_66, xa_kli, xa_klr, xa_kll, xa_ki, xa_kl, xa_kr, xa_kii, xa_kk, xa_kir, xa_krr, xa_kiir, xa_krir, xa_kdup, xa_kdup2, xa_kcp, xa_gf, xa_pf, xa_ga, xa_pa, xa_gq, xa_pq, xa_gl, xa_args, xa_ri, xa_rz, xa_rv, xa_s1, xa_s2, xa_c1, eq_self, List.getElem?_cons_succ, List.getElem?_cons_zero, true_and, and_true, nI_add, pk_mul, xt_in, xt_cl, xt_i0, xt_i1, xa_kc, xa_w8, xa_fit, lg_sl, List.flatMap_cons, List.flatMap_nil, List.map_cons, List.map_nil, List.sum_cons, List.sum_nil, Value.category, List.length_cons, List.length_nil, List.length_append, xa_rc, xa_rf, exists_eq_left, exists_eq', Option.some.injEq, Sum.inr.injEq, Prod.mk.injEq, Option.toList_some, Option.toList_none, List.cons_append, List.nil_append, Nat.reduceAdd, Nat.reduceLeDiff, Nat.reduceLT, List.set_cons_zero, List.set_cons_succ, eq_self, or_true, true_or, reduceIte, xt_ne, h0, h2, h3, h4, h5]
          exact ih (i + 1) (l + 1) (used + 1) _ (by simp [xa_s1, xa_c1, h0]) (by simp [xa_s1, xa_c1, h2]) (by simp [xa_s1, xa_c1]) (by simp [xa_s1, xa_c1]) (by simp [xa_s1, xa_c1]) (by omega) (by omega)
  simp (disch := omega) only [↓ra_66_0, ↓ra_66_1, ↓ra_66_2, ↓ra_66_5, ↓ra_66_10, ↓ra_66_11, ↓ra_66_12, ↓ra_66_13, ↓ra_66_15, ↓ra_66_16, xa_kli, xa_klr, xa_kll, xa_ki, xa_kl, xa_kr, xa_kii, xa_kk, xa_kir, xa_krr, xa_kiir, xa_krir, xa_kdup, xa_kdup2, xa_kcp, xa_gf, xa_pf, xa_ga, xa_pa, xa_gq, xa_pq, xa_gl, xa_args, xa_ri, xa_rz, xa_rv, xa_s1, xa_s2, xa_c1, eq_self, List.getElem?_cons_succ, List.getElem?_cons_zero, true_and, and_true, nI_add, pk_mul, xt_in, xt_cl, xt_i0, xt_i1, xa_kc, xa_w8, xa_fit, lg_sl, List.flatMap_cons, List.flatMap_nil, List.map_cons, List.map_nil, List.sum_cons, List.sum_nil, Value.category, List.length_cons, List.length_nil, List.length_append, xa_rc, xa_rf, exists_eq_left, exists_eq', Option.some.injEq, Sum.inr.injEq, Prod.mk.injEq, Option.toList_some, Option.toList_none, List.cons_append, List.nil_append, Nat.reduceAdd, Nat.reduceLeDiff, Nat.reduceLT, List.set_cons_zero, List.set_cons_succ, eq_self, or_true, true_or, reduceIte, xt_ne, xt_eq, Nat.reduceEqDiff, Nat.one_ne_zero, if_false, h0, h1, h2, cn, mx_81]
  exact loop (xnW (yT A) + 1) 0 f 0 _ (by simp [xa_s1, xa_c1, h0]) (by simp [xa_s1, xa_c1, h2]) (by simp [xa_s1, xa_c1]) (by simp [xa_s1, xa_c1]) (by simp [xa_s1, xa_c1]) (by omega) (by omega)
-- gap
def xq_gp (T : xt_T) : Nat → Nat → Option Nat
  | 0, _ => none
  | r + 1, day => if xq_pf T day (xnW T) = none then some day else xq_gp T r (day + 1)
def xs_gap (A : xt_A) (f t : Nat) : Int32 := xt_o (xq_gp (yT A) (t + 1 - f) f)
theorem pm_gap_n {M : xa_M} {b : Nat} {A : xt_A} (hA : xh_A M b A) (iA : xi_A A) {x y : Int32} (h : ¬ ∃ f t : Nat, f ≤ t ∧ t ≤ 99 ∧ x = nI f ∧ y = nI t) : xa_E 67 0 (xa_ent [.ref b, .int x, .int y]) [] M (some (.int (Int32.ofInt (-1))), M) := by
  have cn := xa_iff (pc_noDays_n (M := M) x y h)
  refine xa_go3 (fun lv h0 h1 h2 => ?_)
  simp (disch := omega) only [↓ra_67_0, ↓ra_67_1, ↓ra_67_2, ↓ra_67_5, ↓ra_67_8, ↓ra_67_9, xa_kli, xa_klr, xa_kll, xa_ki, xa_kl, xa_kr, xa_kii, xa_kk, xa_kir, xa_krr, xa_kiir, xa_krir, xa_kdup, xa_kdup2, xa_kcp, xa_gf, xa_pf, xa_ga, xa_pa, xa_gq, xa_pq, xa_gl, xa_args, xa_ri, xa_rz, xa_rv, xa_s1, xa_s2, xa_c1, eq_self, List.getElem?_cons_succ, List.getElem?_cons_zero, true_and, and_true, nI_add, pk_mul, xt_in, xt_cl, xt_i0, xt_i1, xa_kc, xa_w8, xa_fit, lg_sl, List.flatMap_cons, List.flatMap_nil, List.map_cons, List.map_nil, List.sum_cons, List.sum_nil, Value.category, List.length_cons, List.length_nil, List.length_append, xa_rc, xa_rf, exists_eq_left, exists_eq', Option.some.injEq, Sum.inr.injEq, Prod.mk.injEq, Option.toList_some, Option.toList_none, List.cons_append, List.nil_append, Nat.reduceAdd, Nat.reduceLeDiff, Nat.reduceLT, List.set_cons_zero, List.set_cons_succ, eq_self, or_true, true_or, reduceIte, xt_ne, xt_eq, Nat.reduceEqDiff, Nat.one_ne_zero, if_false, h0, h1, h2, cn, mx_81]
theorem pm_gap {M : xa_M} {b : Nat} {A : xt_A} (hA : xh_A M b A) (iA : xi_A A) (f t : Nat) (hf : f ≤ t) (ht : t ≤ 99) : xa_E 67 0 (xa_ent [.ref b, .int (nI f), .int (nI t)]) [] M (some (.int (xs_gap A f t)), M) := by
  obtain ⟨hO, hX, hT, ⟨T0, hU⟩, hS, ⟨S0, hN⟩, hP, hK, hG, hW⟩ := id hA
  obtain ⟨iT, i5, i60, i1, ⟨iS, iD⟩, iX, iU, iK, iG⟩ := id iA
  obtain ⟨⟨b1, b2, b3, b4, b5, b6, b7, b8⟩, bs, bm, bw⟩ := id iT
  have o0 : xh_O M b := hO
  unfold xh_O at o0
  have t0 := hT.1
  have s0 := hS.1
  have n0 := hN.1
  have u0 := hU.1
  have cn := xa_iff (pc_noDays_y (M := M) f t hf ht)
  refine xa_go3 (fun lv h0 h1 h2 => ?_)
  have loop : ∀ (r day : Nat) (lv : xa_L), lv 0 = some (.ref b) → lv 2 = some (.int (nI t)) → lv 3 = some (.int (nI day)) → day + r = t + 1 → xa_E 67 12 lv [] M (some (.int (xt_o (xq_gp (yT A) r day))), M) := by
    intro r
    induction r with
    | zero =>
      intro day lv h0 h2 h3 e
      simp (disch := omega) only [↓ra_67_12, ↓ra_67_13, ↓ra_67_14, xa_kli, xa_klr, xa_kll, xa_ki, xa_kl, xa_kr, xa_kii, xa_kk, xa_kir, xa_krr, xa_kiir, xa_krir, xa_kdup, xa_kdup2, xa_kcp, xa_gf, xa_pf, xa_ga, xa_pa, xa_gq, xa_pq, xa_gl, xa_args, xa_ri, xa_rz, xa_rv, xa_s1, xa_s2, xa_c1, eq_self, List.getElem?_cons_succ, List.getElem?_cons_zero, true_and, and_true, nI_add, pk_mul, xt_in, xt_cl, xt_i0, xt_i1, xa_kc, xa_w8, xa_fit, lg_sl, List.flatMap_cons, List.flatMap_nil, List.map_cons, List.map_nil, List.sum_cons, List.sum_nil, Value.category, List.length_cons, List.length_nil, List.length_append, xa_rc, xa_rf, exists_eq_left, exists_eq', Option.some.injEq, Sum.inr.injEq, Prod.mk.injEq, Option.toList_some, Option.toList_none, List.cons_append, List.nil_append, Nat.reduceAdd, Nat.reduceLeDiff, Nat.reduceLT, List.set_cons_zero, List.set_cons_succ, eq_self, or_true, true_or, reduceIte, xt_ne, h0, h2, h3, xt_lt]
      rw [if_pos (by omega)]
      simp (disch := omega) only [↓ra_67_38, ↓ra_67_40, xa_kli, xa_klr, xa_kll, xa_ki, xa_kl, xa_kr, xa_kii, xa_kk, xa_kir, xa_krr, xa_kiir, xa_krir, xa_kdup, xa_kdup2, xa_kcp, xa_gf, xa_pf, xa_ga, xa_pa, xa_gq, xa_pq, xa_gl, xa_args, xa_ri, xa_rz, xa_rv, xa_s1, xa_s2, xa_c1, eq_self, List.getElem?_cons_succ, List.getElem?_cons_zero, true_and, and_true, nI_add, pk_mul, xt_in, xt_cl, xt_i0, xt_i1, xa_kc, xa_w8, xa_fit, lg_sl, List.flatMap_cons, List.flatMap_nil, List.map_cons, List.map_nil, List.sum_cons, List.sum_nil, Value.category, List.length_cons, List.length_nil, List.length_append, xa_rc, xa_rf, exists_eq_left, exists_eq', Option.some.injEq, Sum.inr.injEq, Prod.mk.injEq, Option.toList_some, Option.toList_none, List.cons_append, List.nil_append, Nat.reduceAdd, Nat.reduceLeDiff, Nat.reduceLT, List.set_cons_zero, List.set_cons_succ, eq_self, or_true, true_or, reduceIte, xt_ne]
      rfl
    | succ r ih =>
      intro day lv h0 h2 h3 e
      have cp := xa_iff (pc_provedFrom hT iT day (by omega))
      simp (disch := omega) only [↓ra_67_12, ↓ra_67_13, ↓ra_67_14, xa_kli, xa_klr, xa_kll, xa_ki, xa_kl, xa_kr, xa_kii, xa_kk, xa_kir, xa_krr, xa_kiir, xa_krir, xa_kdup, xa_kdup2, xa_kcp, xa_gf, xa_pf, xa_ga, xa_pa, xa_gq, xa_pq, xa_gl, xa_args, xa_ri, xa_rz, xa_rv, xa_s1, xa_s2, xa_c1, eq_self, List.getElem?_cons_succ, List.getElem?_cons_zero, true_and, and_true, nI_add, pk_mul, xt_in, xt_cl, xt_i0, xt_i1, xa_kc, xa_w8, xa_fit, lg_sl, List.flatMap_cons, List.flatMap_nil, List.map_cons, List.map_nil, List.sum_cons, List.sum_nil, Value.category, List.length_cons, List.length_nil, List.length_append, xa_rc, xa_rf, exists_eq_left, exists_eq', Option.some.injEq, Sum.inr.injEq, Prod.mk.injEq, Option.toList_some, Option.toList_none, List.cons_append, List.nil_append, Nat.reduceAdd, Nat.reduceLeDiff, Nat.reduceLT, List.set_cons_zero, List.set_cons_succ, eq_self, or_true, true_or, reduceIte, xt_ne, h0, h2, h3, xt_lt]
      rw [if_neg (by omega)]
      have lp : ∀ n, xq_pf (yT A) day (xnW (yT A)) = some n → n < 2147483648 := fun n h => by have := xq_pf_le (day := day) bw (xnW (yT A)) (Nat.le_refl _) n h; omega
      simp (disch := omega) only [↓ra_67_17, ↓ra_67_18, ↓ra_67_21, ↓ra_67_22, ↓ra_67_25, ↓ra_67_27, xa_kli, xa_klr, xa_kll, xa_ki, xa_kl, xa_kr, xa_kii, xa_kk, xa_kir, xa_krr, xa_kiir, xa_krir, xa_kdup, xa_kdup2, xa_kcp, xa_gf, xa_pf, xa_ga, xa_pa, xa_gq, xa_pq, xa_gl, xa_args, xa_ri, xa_rz, xa_rv, xa_s1, xa_s2, xa_c1, eq_self, List.getElem?_cons_succ, List.getElem?_cons_zero, true_and, and_true, nI_add, pk_mul, xt_in, xt_cl, xt_i0, xt_i1, xa_kc, xa_w8, xa_fit, lg_sl, List.flatMap_cons, List.flatMap_nil, List.map_cons, List.map_nil, List.sum_cons, List.sum_nil, Value.category, List.length_cons, List.length_nil, List.length_append, xa_rc, xa_rf, exists_eq_left, exists_eq', Option.some.injEq, Sum.inr.injEq, Prod.mk.injEq, Option.toList_some, Option.toList_none, List.cons_append, List.nil_append, Nat.reduceAdd, Nat.reduceLeDiff, Nat.reduceLT, List.set_cons_zero, List.set_cons_succ, eq_self, or_true, true_or, reduceIte, xt_ne, h0, h2, h3, o0, t0, cp, mx_42, xt_o4 _ lp]
      unfold xq_gp
      by_cases c : xq_pf (yT A) day (xnW (yT A)) = none
      · rw [if_pos c, if_pos c]
        simp (disch := omega) only [↓ra_67_30, ↓ra_67_31, xa_kli, xa_klr, xa_kll, xa_ki, xa_kl, xa_kr, xa_kii, xa_kk, xa_kir, xa_krr, xa_kiir, xa_krir, xa_kdup, xa_kdup2, xa_kcp, xa_gf, xa_pf, xa_ga, xa_pa, xa_gq, xa_pq, xa_gl, xa_args, xa_ri, xa_rz, xa_rv, xa_s1, xa_s2, xa_c1, eq_self, List.getElem?_cons_succ, List.getElem?_cons_zero, true_and, and_true, nI_add, pk_mul, xt_in, xt_cl, xt_i0, xt_i1, xa_kc, xa_w8, xa_fit, lg_sl, List.flatMap_cons, List.flatMap_nil, List.map_cons, List.map_nil, List.sum_cons, List.sum_nil, Value.category, List.length_cons, List.length_nil, List.length_append, xa_rc, xa_rf, exists_eq_left, exists_eq', Option.some.injEq, Sum.inr.injEq, Prod.mk.injEq, Option.toList_some, Option.toList_none, List.cons_append, List.nil_append, Nat.reduceAdd, Nat.reduceLeDiff, Nat.reduceLT, List.set_cons_zero, List.set_cons_succ, eq_self, or_true, true_or, reduceIte, xt_ne, h3]
        rfl
      · rw [if_neg c, if_neg c]
        simp (disch := omega) only [↓ra_67_32, ↓ra_67_35, xa_kli, xa_klr, xa_kll, xa_ki, xa_kl, xa_kr, xa_kii, xa_kk, xa_kir, xa_krr, xa_kiir, xa_krir, xa_kdup, xa_kdup2, xa_kcp, xa_gf, xa_pf, xa_ga, xa_pa, xa_gq, xa_pq, xa_gl, xa_args, xa_ri, xa_rz, xa_rv, xa_s1, xa_s2, xa_c1, eq_self, List.getElem?_cons_succ, List.getElem?_cons_zero, true_and, and_true, nI_add, pk_mul, xt_in, xt_cl, xt_i0, xt_i1, xa_kc, xa_w8, xa_fit, lg_sl, List.flatMap_cons, List.flatMap_nil, List.map_cons, List.map_nil, List.sum_cons, List.sum_nil, Value.category, List.length_cons, List.length_nil, List.length_append, xa_rc, xa_rf, exists_eq_left, exists_eq', Option.some.injEq, Sum.inr.injEq, Prod.mk.injEq, Option.toList_some, Option.toList_none, List.cons_append, List.nil_append, Nat.reduceAdd, Nat.reduceLeDiff, Nat.reduceLT, List.set_cons_zero, List.set_cons_succ, eq_self, or_true, true_or, reduceIte, xt_ne, h3]
        exact ih (day + 1) _ (by simp [xa_s1, xa_c1, h0]) (by simp [xa_s1, xa_c1, h2]) (by simp [xa_s1, xa_c1]) (by omega)
  simp (disch := omega) only [↓ra_67_0, ↓ra_67_1, ↓ra_67_2, ↓ra_67_5, ↓ra_67_10, ↓ra_67_11, xa_kli, xa_klr, xa_kll, xa_ki, xa_kl, xa_kr, xa_kii, xa_kk, xa_kir, xa_krr, xa_kiir, xa_krir, xa_kdup, xa_kdup2, xa_kcp, xa_gf, xa_pf, xa_ga, xa_pa, xa_gq, xa_pq, xa_gl, xa_args, xa_ri, xa_rz, xa_rv, xa_s1, xa_s2, xa_c1, eq_self, List.getElem?_cons_succ, List.getElem?_cons_zero, true_and, and_true, nI_add, pk_mul, xt_in, xt_cl, xt_i0, xt_i1, xa_kc, xa_w8, xa_fit, lg_sl, List.flatMap_cons, List.flatMap_nil, List.map_cons, List.map_nil, List.sum_cons, List.sum_nil, Value.category, List.length_cons, List.length_nil, List.length_append, xa_rc, xa_rf, exists_eq_left, exists_eq', Option.some.injEq, Sum.inr.injEq, Prod.mk.injEq, Option.toList_some, Option.toList_none, List.cons_append, List.nil_append, Nat.reduceAdd, Nat.reduceLeDiff, Nat.reduceLT, List.set_cons_zero, List.set_cons_succ, eq_self, or_true, true_or, reduceIte, xt_ne, xt_eq, Nat.reduceEqDiff, Nat.one_ne_zero, if_false, h0, h1, h2, cn, mx_81]
  exact loop (t + 1 - f) f _ (by simp [xa_s1, xa_c1, h0]) (by simp [xa_s1, xa_c1, h2]) (by simp [xa_s1, xa_c1]) (by omega)
