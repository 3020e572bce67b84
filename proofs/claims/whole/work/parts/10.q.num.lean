def xq_k1 (len : Nat) (txt : Nat → Nat) (p mark : Nat) : Option (Nat × Nat) := match xq_num len txt p with
  | some (a, m, p2) => if m = mark then some (a, p2) else none
  | none => none
theorem pd_isFigure {M : xa_M} {c len p : Nat} {txt : Nat → Nat} {r : Nat → Int32} {g : Nat → Nat → Int32} (hB : xb_M M c r g) (iX : xi_X len txt) (h8 : r 8 = nI len) (h9 : r 9 = nI p) (hp : p < 1000) (ht : ∀ j, j < len → g 3 j = nI (txt j)) : xa_E 107 0 (xa_ent [.ref c]) [] M (some (.int (nI (if xq_fig len txt p = true then 1 else 0))), M) := by
  have ix := iX.1
  obtain ⟨m0, m1, m2, m3, -⟩ := hB
  unfold xb_c at m0
  refine xa_go1 (fun lv h0 => ?_)
  simp (disch := omega) only [↓ra_107_0, ↓ra_107_1, ↓ra_107_4, ↓ra_107_5, ↓ra_107_8, xa_kli, xa_klr, xa_kll, xa_ki, xa_kl, xa_kr, xa_kii, xa_kk, xa_kir, xa_krr, xa_kiir, xa_krir, xa_kdup, xa_kdup2, xa_kcp, xa_gf, xa_pf, xa_ga, xa_pa, xa_gq, xa_pq, xa_gl, xa_args, xa_ri, xa_rz, xa_rv, xa_s1, xa_s2, xa_c1, eq_self, List.getElem?_cons_succ, List.getElem?_cons_zero, true_and, and_true, nI_add, pk_mul, xt_in, xt_cl, xt_i0, xt_i1, xa_kc, xa_w8, xa_fit, lg_sl, List.flatMap_cons, List.flatMap_nil, List.map_cons, List.map_nil, List.sum_cons, List.sum_nil, Value.category, List.length_cons, List.length_nil, List.length_append, xa_rc, xa_rf, exists_eq_left, exists_eq', Option.some.injEq, Sum.inr.injEq, Prod.mk.injEq, Option.toList_some, Option.toList_none, List.cons_append, List.nil_append, Nat.reduceAdd, Nat.reduceLeDiff, Nat.reduceLT, List.set_cons_zero, List.set_cons_succ, eq_self, or_true, true_or, reduceIte, xt_ne, h0, m0, h8, h9, xt_le]
  by_cases c1 : len ≤ p
  · rw [if_pos c1]
    simp (disch := omega) only [↓ra_107_37, ↓ra_107_38, xa_kli, xa_klr, xa_kll, xa_ki, xa_kl, xa_kr, xa_kii, xa_kk, xa_kir, xa_krr, xa_kiir, xa_krir, xa_kdup, xa_kdup2, xa_kcp, xa_gf, xa_pf, xa_ga, xa_pa, xa_gq, xa_pq, xa_gl, xa_args, xa_ri, xa_rz, xa_rv, xa_s1, xa_s2, xa_c1, eq_self, List.getElem?_cons_succ, List.getElem?_cons_zero, true_and, and_true, nI_add, pk_mul, xt_in, xt_cl, xt_i0, xt_i1, xa_kc, xa_w8, xa_fit, lg_sl, List.flatMap_cons, List.flatMap_nil, List.map_cons, List.map_nil, List.sum_cons, List.sum_nil, Value.category, List.length_cons, List.length_nil, List.length_append, xa_rc, xa_rf, exists_eq_left, exists_eq', Option.some.injEq, Sum.inr.injEq, Prod.mk.injEq, Option.toList_some, Option.toList_none, List.cons_append, List.nil_append, Nat.reduceAdd, Nat.reduceLeDiff, Nat.reduceLT, List.set_cons_zero, List.set_cons_succ, eq_self, or_true, true_or, reduceIte, xt_ne]
    rw [xq_fign (by omega)]
    rfl
  · rw [if_neg c1]
    have e := ht p (by omega)
    have it := iX.2 p (by omega)
    by_cases c2 : 48 ≤ txt p ∧ txt p ≤ 57
    · have ci := xa_iff (pd_in_k (M := M) (txt p) 48 57 c2 (by omega))
      simp (disch := omega) only [↓ra_107_11, ↓ra_107_12, ↓ra_107_15, ↓ra_107_16, ↓ra_107_19, ↓ra_107_20, ↓ra_107_21, ↓ra_107_24, ↓ra_107_27, ↓ra_107_30, ↓ra_107_33, ↓ra_107_34, ↓ra_107_38, xa_kli, xa_klr, xa_kll, xa_ki, xa_kl, xa_kr, xa_kii, xa_kk, xa_kir, xa_krr, xa_kiir, xa_krir, xa_kdup, xa_kdup2, xa_kcp, xa_gf, xa_pf, xa_ga, xa_pa, xa_gq, xa_pq, xa_gl, xa_args, xa_ri, xa_rz, xa_rv, xa_s1, xa_s2, xa_c1, eq_self, List.getElem?_cons_succ, List.getElem?_cons_zero, true_and, and_true, nI_add, pk_mul, xt_in, xt_cl, xt_i0, xt_i1, xa_kc, xa_w8, xa_fit, lg_sl, List.flatMap_cons, List.flatMap_nil, List.map_cons, List.map_nil, List.sum_cons, List.sum_nil, Value.category, List.length_cons, List.length_nil, List.length_append, xa_rc, xa_rf, exists_eq_left, exists_eq', Option.some.injEq, Sum.inr.injEq, Prod.mk.injEq, Option.toList_some, Option.toList_none, List.cons_append, List.nil_append, Nat.reduceAdd, Nat.reduceLeDiff, Nat.reduceLT, List.set_cons_zero, List.set_cons_succ, eq_self, or_true, true_or, reduceIte, xt_ne, xt_eq, Nat.reduceEqDiff, Nat.one_ne_zero, if_false, h0, m0, m3, h9, e, nI_l, ci, mx_92]
      rw [xq_figb.mpr (by omega)]
      rfl
    · have ci := xa_iff (pd_in_j (M := M) (txt p) 48 57 c2 (by omega) (by omega) (by omega))
      simp (disch := omega) only [↓ra_107_11, ↓ra_107_12, ↓ra_107_15, ↓ra_107_16, ↓ra_107_19, ↓ra_107_20, ↓ra_107_21, ↓ra_107_24, ↓ra_107_27, ↓ra_107_30, ↓ra_107_37, ↓ra_107_38, xa_kli, xa_klr, xa_kll, xa_ki, xa_kl, xa_kr, xa_kii, xa_kk, xa_kir, xa_krr, xa_kiir, xa_krir, xa_kdup, xa_kdup2, xa_kcp, xa_gf, xa_pf, xa_ga, xa_pa, xa_gq, xa_pq, xa_gl, xa_args, xa_ri, xa_rz, xa_rv, xa_s1, xa_s2, xa_c1, eq_self, List.getElem?_cons_succ, List.getElem?_cons_zero, true_and, and_true, nI_add, pk_mul, xt_in, xt_cl, xt_i0, xt_i1, xa_kc, xa_w8, xa_fit, lg_sl, List.flatMap_cons, List.flatMap_nil, List.map_cons, List.map_nil, List.sum_cons, List.sum_nil, Value.category, List.length_cons, List.length_nil, List.length_append, xa_rc, xa_rf, exists_eq_left, exists_eq', Option.some.injEq, Sum.inr.injEq, Prod.mk.injEq, Option.toList_some, Option.toList_none, List.cons_append, List.nil_append, Nat.reduceAdd, Nat.reduceLeDiff, Nat.reduceLT, List.set_cons_zero, List.set_cons_succ, eq_self, or_true, true_or, reduceIte, xt_ne, xt_eq, Nat.reduceEqDiff, Nat.one_ne_zero, if_false, h0, m0, m3, h9, e, nI_l, ci, mx_92]
      rw [xq_fign (by omega)]
      rfl
theorem pd_number {M : xa_M} {c len p : Nat} {txt : Nat → Nat} {r : Nat → Int32} {g : Nat → Nat → Int32} (hB : xb_M M c r g) (iX : xi_X len txt) (h8 : r 8 = nI len) (h9 : r 9 = nI p) (hp : p < 900) (ht : ∀ j, j < len → g 3 j = nI (txt j)) (lo hi mk : Nat) (hlo : lo < 1000) (hhi : hi < 1000) (hmk : mk < 1000) : ∃ z, xa_E 108 0 (xa_ent [.ref c, .int (nI lo), .int (nI hi), .int (nI mk)]) [] M z ∧ ∃ r2, xn c M r2 g z.2 ∧ (∀ j, j ≠ 9 → j ≠ 12 → r2 j = r j) ∧ ((∃ a p2, xq_k1 len txt p mk = some (a, p2) ∧ lo ≤ a ∧ a ≤ hi ∧ z.1 = some (.int (nI 1)) ∧ r2 9 = nI p2 ∧ r2 12 = nI a) ∨ ((∀ a p2, xq_k1 len txt p mk = some (a, p2) → ¬ (lo ≤ a ∧ a ≤ hi)) ∧ z.1 = some (.int (nI 0)))) := by
  have ix := iX.1
  obtain ⟨m0, m1, m2, m3, -⟩ := id hB
  unfold xb_c at m0
  have cf := xa_iff (pd_isFigure hB iX h8 h9 (by omega) ht)
  refine xa_ge4 (fun lv h0 h1 h2 h3 => ?_)
  simp (disch := omega) only [↓ra_108_0, ↓ra_108_1, ↓ra_108_4, xa_kli, xa_klr, xa_kll, xa_ki, xa_kl, xa_kr, xa_kii, xa_kk, xa_kir, xa_krr, xa_kiir, xa_krir, xa_kdup, xa_kdup2, xa_kcp, xa_gf, xa_pf, xa_ga, xa_pa, xa_gq, xa_pq, xa_gl, xa_args, xa_ri, xa_rz, xa_rv, xa_s1, xa_s2, xa_c1, eq_self, List.getElem?_cons_succ, List.getElem?_cons_zero, true_and, and_true, nI_add, pk_mul, xt_in, xt_cl, xt_i0, xt_i1, xa_kc, xa_w8, xa_fit, lg_sl, List.flatMap_cons, List.flatMap_nil, List.map_cons, List.map_nil, List.sum_cons, List.sum_nil, Value.category, List.length_cons, List.length_nil, List.length_append, xa_rc, xa_rf, exists_eq_left, exists_eq', Option.some.injEq, Sum.inr.injEq, Prod.mk.injEq, Option.toList_some, Option.toList_none, List.cons_append, List.nil_append, Nat.reduceAdd, Nat.reduceLeDiff, Nat.reduceLT, List.set_cons_zero, List.set_cons_succ, eq_self, or_true, true_or, reduceIte, xt_ne, h0, m0, cf, mx_107, xt_b0]
  by_cases c1 : xq_fig len txt p = true
  · simp only [c1, Bool.false_eq_true, not_true_eq_false, if_false]
    have f1 := xq_figb.mp c1
    have e1 := ht p f1.1
    -- behind the figures
    have tail : ∀ (a q : Nat) (lv : xa_L) (M1 : xa_M) (r1 : Nat → Int32), xn c M r1 g M1 → (∀ j, j ≠ 9 → j ≠ 12 → r1 j = r j) → r1 12 = nI a → r1 9 = nI q → a ≤ 99 → q < 1000 → (q < len → xq_num len txt p = some (a, txt q, q + 1)) → (¬ q < len → xq_num len txt p = none) → lv 0 = some (.ref c) → lv 1 = some (.int (nI lo)) → lv 2 = some (.int (nI hi)) → lv 3 = some (.int (nI mk)) → ∃ z, xa_E 108 76 lv [] M1 z ∧ ∃ r2, xn c M r2 g z.2 ∧ (∀ j, j ≠ 9 → j ≠ 12 → r2 j = r j) ∧ ((∃ a p2, xq_k1 len txt p mk = some (a, p2) ∧ lo ≤ a ∧ a ≤ hi ∧ z.1 = some (.int (nI 1)) ∧ r2 9 = nI p2 ∧ r2 12 = nI a) ∨ ((∀ a p2, xq_k1 len txt p mk = some (a, p2) → ¬ (lo ≤ a ∧ a ≤ hi)) ∧ z.1 = some (.int (nI 0)))) := by
      intro a q lv M1 r1 hn er ea eq ha hq hy hno h0 h1 h2 h3
      obtain ⟨n0, n1, n2, n3, -⟩ := id hn.2
      unfold xb_c at n0
      have e8 : r1 8 = nI len := (er 8 (by omega) (by omega)).trans h8
      have hnf := xn_f (r2 := upd r1 9 (nI (q + 1))) hn
      have erf : ∀ j, j ≠ 9 → j ≠ 12 → upd r1 9 (nI (q + 1)) j = r j := fun j a b => by rw [xt_us, if_neg a]; exact er j a b
      have no : (∀ a p2, xq_k1 len txt p mk = some (a, p2) → ¬ (lo ≤ a ∧ a ≤ hi)) → ∃ z, xa_E 108 119 lv [] M1 z ∧ ∃ r2, xn c M r2 g z.2 ∧ (∀ j, j ≠ 9 → j ≠ 12 → r2 j = r j) ∧ ((∃ a p2, xq_k1 len txt p mk = some (a, p2) ∧ lo ≤ a ∧ a ≤ hi ∧ z.1 = some (.int (nI 1)) ∧ r2 9 = nI p2 ∧ r2 12 = nI a) ∨ ((∀ a p2, xq_k1 len txt p mk = some (a, p2) → ¬ (lo ≤ a ∧ a ≤ hi)) ∧ z.1 = some (.int (nI 0)))) := by
        intro hne
        simp (disch := omega) only [↓ra_108_119, ↓ra_108_120, ↓ra_108_122, ↓ra_108_123, ↓ra_108_124, ↓ra_108_127, ↓ra_108_128, ↓ra_108_129, ↓ra_108_132, ↓ra_108_134, xa_kli, xa_klr, xa_kll, xa_ki, xa_kl, xa_kr, xa_kii, xa_kk, xa_kir, xa_krr, xa_kiir, xa_krir, xa_kdup, xa_kdup2, xa_kcp, xa_gf, xa_pf, xa_ga, xa_pa, xa_gq, xa_pq, xa_gl, xa_args, xa_ri, xa_rz, xa_rv, xa_s1, xa_s2, xa_c1, eq_self, List.getElem?_cons_succ, List.getElem?_cons_zero, true_and, and_true, nI_add, pk_mul, xt_in, xt_cl, xt_i0, xt_i1, xa_kc, xa_w8, xa_fit, lg_sl, List.flatMap_cons, List.flatMap_nil, List.map_cons, List.map_nil, List.sum_cons, List.sum_nil, Value.category, List.length_cons, List.length_nil, List.length_append, xa_rc, xa_rf, exists_eq_left, exists_eq', Option.some.injEq, Sum.inr.injEq, Prod.mk.injEq, Option.toList_some, Option.toList_none, List.cons_append, List.nil_append, Nat.reduceAdd, Nat.reduceLeDiff, Nat.reduceLT, List.set_cons_zero, List.set_cons_succ, eq_self, or_true, true_or, reduceIte, xt_ne, h0, n0, eq]
        exact ⟨_, hnf, erf, Or.inr hne⟩
      by_cases cr : lo ≤ a ∧ a ≤ hi
      · have ci := xa_iff (pd_in_k (M := M1) a lo hi cr (by omega))
        simp (disch := omega) only [↓ra_108_76, ↓ra_108_77, ↓ra_108_80, ↓ra_108_81, ↓ra_108_82, ↓ra_108_83, ↓ra_108_84, ↓ra_108_85, ↓ra_108_88, ↓ra_108_91, ↓ra_108_92, ↓ra_108_95, ↓ra_108_96, ↓ra_108_99, xa_kli, xa_klr, xa_kll, xa_ki, xa_kl, xa_kr, xa_kii, xa_kk, xa_kir, xa_krr, xa_kiir, xa_krir, xa_kdup, xa_kdup2, xa_kcp, xa_gf, xa_pf, xa_ga, xa_pa, xa_gq, xa_pq, xa_gl, xa_args, xa_ri, xa_rz, xa_rv, xa_s1, xa_s2, xa_c1, eq_self, List.getElem?_cons_succ, List.getElem?_cons_zero, true_and, and_true, nI_add, pk_mul, xt_in, xt_cl, xt_i0, xt_i1, xa_kc, xa_w8, xa_fit, lg_sl, List.flatMap_cons, List.flatMap_nil, List.map_cons, List.map_nil, List.sum_cons, List.sum_nil, Value.category, List.length_cons, List.length_nil, List.length_append, xa_rc, xa_rf, exists_eq_left, exists_eq', Option.some.injEq, Sum.inr.injEq, Prod.mk.injEq, Option.toList_some, Option.toList_none, List.cons_append, List.nil_append, Nat.reduceAdd, Nat.reduceLeDiff, Nat.reduceLT, List.set_cons_zero, List.set_cons_succ, eq_self, or_true, true_or, reduceIte, xt_ne, xt_eq, Nat.reduceEqDiff, Nat.one_ne_zero, if_false, h0, h1, h2, n0, ea, eq, e8, nI_l, ci, mx_92, xt_le]
        by_cases cl : len ≤ q
        · simp only [if_pos cl]
          refine no (fun a' p2 h => ?_)
          unfold xq_k1 at h
          rw [hno (by omega)] at h
          cases h
        · simp only [if_neg cl]
          have eq3 := ht q (by omega)
          have it := iX.2 q (by omega)
          simp (disch := omega) only [↓ra_108_102, ↓ra_108_103, ↓ra_108_106, ↓ra_108_107, ↓ra_108_110, ↓ra_108_111, ↓ra_108_112, xa_kli, xa_klr, xa_kll, xa_ki, xa_kl, xa_kr, xa_kii, xa_kk, xa_kir, xa_krr, xa_kiir, xa_krir, xa_kdup, xa_kdup2, xa_kcp, xa_gf, xa_pf, xa_ga, xa_pa, xa_gq, xa_pq, xa_gl, xa_args, xa_ri, xa_rz, xa_rv, xa_s1, xa_s2, xa_c1, eq_self, List.getElem?_cons_succ, List.getElem?_cons_zero, true_and, and_true, nI_add, pk_mul, xt_in, xt_cl, xt_i0, xt_i1, xa_kc, xa_w8, xa_fit, lg_sl, List.flatMap_cons, List.flatMap_nil, List.map_cons, List.map_nil, List.sum_cons, List.sum_nil, Value.category, List.length_cons, List.length_nil, List.length_append, xa_rc, xa_rf, exists_eq_left, exists_eq', Option.some.injEq, Sum.inr.injEq, Prod.mk.injEq, Option.toList_some, Option.toList_none, List.cons_append, List.nil_append, Nat.reduceAdd, Nat.reduceLeDiff, Nat.reduceLT, List.set_cons_zero, List.set_cons_succ, eq_self, or_true, true_or, reduceIte, xt_ne, h0, h3, n0, n3, eq, eq3, xt_eq]
          by_cases cm : txt q = mk
          · simp only [if_pos cm]
            simp (disch := omega) only [↓ra_108_115, ↓ra_108_116, ↓ra_108_120, ↓ra_108_122, ↓ra_108_123, ↓ra_108_124, ↓ra_108_127, ↓ra_108_128, ↓ra_108_129, ↓ra_108_132, ↓ra_108_134, xa_kli, xa_klr, xa_kll, xa_ki, xa_kl, xa_kr, xa_kii, xa_kk, xa_kir, xa_krr, xa_kiir, xa_krir, xa_kdup, xa_kdup2, xa_kcp, xa_gf, xa_pf, xa_ga, xa_pa, xa_gq, xa_pq, xa_gl, xa_args, xa_ri, xa_rz, xa_rv, xa_s1, xa_s2, xa_c1, eq_self, List.getElem?_cons_succ, List.getElem?_cons_zero, true_and, and_true, nI_add, pk_mul, xt_in, xt_cl, xt_i0, xt_i1, xa_kc, xa_w8, xa_fit, lg_sl, List.flatMap_cons, List.flatMap_nil, List.map_cons, List.map_nil, List.sum_cons, List.sum_nil, Value.category, List.length_cons, List.length_nil, List.length_append, xa_rc, xa_rf, exists_eq_left, exists_eq', Option.some.injEq, Sum.inr.injEq, Prod.mk.injEq, Option.toList_some, Option.toList_none, List.cons_append, List.nil_append, Nat.reduceAdd, Nat.reduceLeDiff, Nat.reduceLT, List.set_cons_zero, List.set_cons_succ, eq_self, or_true, true_or, reduceIte, xt_ne, h0, n0, eq]
            refine ⟨_, hnf, erf, Or.inl ⟨a, q + 1, ?_, cr.1, cr.2, by rw [xt_us, if_pos rfl], by rw [xt_us, if_neg (by omega)]; exact ea⟩⟩
            unfold xq_k1
            rw [hy (by omega)]
            dsimp only
            rw [if_pos cm]
          · simp only [if_neg cm]
            refine no (fun a' p2 h => ?_)
            unfold xq_k1 at h
            rw [hy (by omega)] at h
            dsimp only at h
            rw [if_neg cm] at h
            cases h
      · have ci := xa_iff (pd_in_j (M := M1) a lo hi cr (by omega) (by omega) (by omega))
        simp (disch := omega) only [↓ra_108_76, ↓ra_108_77, ↓ra_108_80, ↓ra_108_81, ↓ra_108_82, ↓ra_108_83, ↓ra_108_84, ↓ra_108_85, ↓ra_108_88, xa_kli, xa_klr, xa_kll, xa_ki, xa_kl, xa_kr, xa_kii, xa_kk, xa_kir, xa_krr, xa_kiir, xa_krir, xa_kdup, xa_kdup2, xa_kcp, xa_gf, xa_pf, xa_ga, xa_pa, xa_gq, xa_pq, xa_gl, xa_args, xa_ri, xa_rz, xa_rv, xa_s1, xa_s2, xa_c1, eq_self, List.getElem?_cons_succ, List.getElem?_cons_zero, true_and, and_true, nI_add, pk_mul, xt_in, xt_cl, xt_i0, xt_i1, xa_kc, xa_w8, xa_fit, lg_sl, List.flatMap_cons, List.flatMap_nil, List.map_cons, List.map_nil, List.sum_cons, List.sum_nil, Value.category, List.length_cons, List.length_nil, List.length_append, xa_rc, xa_rf, exists_eq_left, exists_eq', Option.some.injEq, Sum.inr.injEq, Prod.mk.injEq, Option.toList_some, Option.toList_none, List.cons_append, List.nil_append, Nat.reduceAdd, Nat.reduceLeDiff, Nat.reduceLT, List.set_cons_zero, List.set_cons_succ, eq_self, or_true, true_or, reduceIte, xt_ne, xt_eq, Nat.reduceEqDiff, Nat.one_ne_zero, if_false, h0, h1, h2, n0, ea, nI_l, ci, mx_92]
        refine no (fun a' p2 h => ?_)
        unfold xq_k1 at h
        by_cases cl : q < len
        · rw [hy cl] at h
          dsimp only at h
          split at h
          · cases h; exact cr
          · cases h
        · rw [hno cl] at h
          cases h
    simp (disch := omega) only [↓ra_108_9, ↓ra_108_10, ↓ra_108_11, ↓ra_108_14, ↓ra_108_15, ↓ra_108_18, ↓ra_108_19, ↓ra_108_21, ↓ra_108_22, ↓ra_108_25, ↓ra_108_26, ↓ra_108_27, ↓ra_108_30, ↓ra_108_31, ↓ra_108_32, xa_kli, xa_klr, xa_kll, xa_ki, xa_kl, xa_kr, xa_kii, xa_kk, xa_kir, xa_krr, xa_kiir, xa_krir, xa_kdup, xa_kdup2, xa_kcp, xa_gf, xa_pf, xa_ga, xa_pa, xa_gq, xa_pq, xa_gl, xa_args, xa_ri, xa_rz, xa_rv, xa_s1, xa_s2, xa_c1, eq_self, List.getElem?_cons_succ, List.getElem?_cons_zero, true_and, and_true, nI_add, pk_mul, xt_in, xt_cl, xt_i0, xt_i1, xa_kc, xa_w8, xa_fit, lg_sl, List.flatMap_cons, List.flatMap_nil, List.map_cons, List.map_nil, List.sum_cons, List.sum_nil, Value.category, List.length_cons, List.length_nil, List.length_append, xa_rc, xa_rf, exists_eq_left, exists_eq', Option.some.injEq, Sum.inr.injEq, Prod.mk.injEq, Option.toList_some, Option.toList_none, List.cons_append, List.nil_append, Nat.reduceAdd, Nat.reduceLeDiff, Nat.reduceLT, List.set_cons_zero, List.set_cons_succ, eq_self, or_true, true_or, reduceIte, xt_ne, h0, m0, m3, h9, e1, xt_sub, xt_st]
    have hn2 : xn c M (upd (upd r 12 (nI (txt p - 48))) 9 (nI (p + 1))) g (xa_st (xa_st M c (.inr (7, [.ref (c + 1), .ref (c + 2), .int (r 2), .int (r 3), .int (r 4), .int (r 5), .int (r 6), .ref (c + 3), .int (r 8), .int (nI p), .ref (c + 4), .int (r 11), .int (nI (txt p - 48)), .ref (c + 5), .int (r 14), .ref (c + 6), .ref (c + 7), .ref (c + 8), .int (r 18), .ref (c + 9), .int (r 20)]))) c (.inr (7, [.ref (c + 1), .ref (c + 2), .int (r 2), .int (r 3), .int (r 4), .int (r 5), .int (r 6), .ref (c + 3), .int (r 8), .int (nI (p + 1)), .ref (c + 4), .int (r 11), .int (nI (txt p - 48)), .ref (c + 5), .int (r 14), .ref (c + 6), .ref (c + 7), .ref (c + 8), .int (r 18), .ref (c + 9), .int (r 20)]))) := by
      have := xn_f (r2 := upd (upd r 12 (nI (txt p - 48))) 9 (nI (p + 1))) (xn_f (r2 := upd r 12 (nI (txt p - 48))) (xn_r hB))
      rw [← h9]
      exact this
    generalize xa_st (xa_st M c _) c _ = M2 at hn2 ⊢
    have er2 : ∀ j, j ≠ 9 → j ≠ 12 → upd (upd r 12 (nI (txt p - 48))) 9 (nI (p + 1)) j = r j := fun j a b => by rw [xt_us, if_neg a, xt_us, if_neg b]
    have e12 : upd (upd r 12 (nI (txt p - 48))) 9 (nI (p + 1)) 12 = nI (txt p - 48) := by rw [xt_us, if_neg (by omega), xt_us, if_pos rfl]
    have e9 : upd (upd r 12 (nI (txt p - 48))) 9 (nI (p + 1)) 9 = nI (p + 1) := by rw [xt_us, if_pos rfl]
    generalize upd (upd r 12 (nI (txt p - 48))) 9 (nI (p + 1)) = r1 at hn2 er2 e12 e9
    have e8 : r1 8 = nI len := (er2 8 (by omega) (by omega)).trans h8
    have cf2 := xa_iff (pd_isFigure hn2.2 iX e8 e9 (by omega) ht)
    obtain ⟨n0, n1, n2, n3, -⟩ := id hn2.2
    unfold xb_c at n0
    simp (disch := omega) only [↓ra_108_35, ↓ra_108_36, ↓ra_108_39, xa_kli, xa_klr, xa_kll, xa_ki, xa_kl, xa_kr, xa_kii, xa_kk, xa_kir, xa_krr, xa_kiir, xa_krir, xa_kdup, xa_kdup2, xa_kcp, xa_gf, xa_pf, xa_ga, xa_pa, xa_gq, xa_pq, xa_gl, xa_args, xa_ri, xa_rz, xa_rv, xa_s1, xa_s2, xa_c1, eq_self, List.getElem?_cons_succ, List.getElem?_cons_zero, true_and, and_true, nI_add, pk_mul, xt_in, xt_cl, xt_i0, xt_i1, xa_kc, xa_w8, xa_fit, lg_sl, List.flatMap_cons, List.flatMap_nil, List.map_cons, List.map_nil, List.sum_cons, List.sum_nil, Value.category, List.length_cons, List.length_nil, List.length_append, xa_rc, xa_rf, exists_eq_left, exists_eq', Option.some.injEq, Sum.inr.injEq, Prod.mk.injEq, Option.toList_some, Option.toList_none, List.cons_append, List.nil_append, Nat.reduceAdd, Nat.reduceLeDiff, Nat.reduceLT, List.set_cons_zero, List.set_cons_succ, eq_self, or_true, true_or, reduceIte, xt_ne, h0, n0, cf2, mx_107, xt_b0]
    by_cases c2 : xq_fig len txt (p + 1) = true
    · simp only [c2, Bool.false_eq_true, not_true_eq_false, if_false]
      have f2 := xq_figb.mp c2
      have e2 := ht (p + 1) f2.1
      have fc : xq_fc len txt p = 2 := by unfold xq_fc; rw [if_pos c1, if_pos c2]
      have ev : nI (10 * (txt p - 48) + txt (p + 1)) - nI 48 = nI (10 * (txt p - 48) + (txt (p + 1) - 48)) := by rw [xt_sub _ _ (by omega)]; exact congrArg nI (by omega)
      simp (disch := omega) only [↓ra_108_42, ↓ra_108_43, ↓ra_108_45, ↓ra_108_46, ↓ra_108_49, ↓ra_108_50, ↓ra_108_51, ↓ra_108_54, ↓ra_108_55, ↓ra_108_58, ↓ra_108_59, ↓ra_108_60, ↓ra_108_62, ↓ra_108_63, ↓ra_108_66, ↓ra_108_67, ↓ra_108_68, ↓ra_108_71, ↓ra_108_72, ↓ra_108_73, xa_kli, xa_klr, xa_kll, xa_ki, xa_kl, xa_kr, xa_kii, xa_kk, xa_kir, xa_krr, xa_kiir, xa_krir, xa_kdup, xa_kdup2, xa_kcp, xa_gf, xa_pf, xa_ga, xa_pa, xa_gq, xa_pq, xa_gl, xa_args, xa_ri, xa_rz, xa_rv, xa_s1, xa_s2, xa_c1, eq_self, List.getElem?_cons_succ, List.getElem?_cons_zero, true_and, and_true, nI_add, pk_mul, xt_in, xt_cl, xt_i0, xt_i1, xa_kc, xa_w8, xa_fit, lg_sl, List.flatMap_cons, List.flatMap_nil, List.map_cons, List.map_nil, List.sum_cons, List.sum_nil, Value.category, List.length_cons, List.length_nil, List.length_append, xa_rc, xa_rf, exists_eq_left, exists_eq', Option.some.injEq, Sum.inr.injEq, Prod.mk.injEq, Option.toList_some, Option.toList_none, List.cons_append, List.nil_append, Nat.reduceAdd, Nat.reduceLeDiff, Nat.reduceLT, List.set_cons_zero, List.set_cons_succ, eq_self, or_true, true_or, reduceIte, xt_ne, h0, n0, n3, e9, e12, e2, xt_st, ev]
      have hn3 : xn c M (upd (upd r1 12 (nI (10 * (txt p - 48) + (txt (p + 1) - 48)))) 9 (nI (p + 1 + 1))) g (xa_st (xa_st M2 c (.inr (7, [.ref (c + 1), .ref (c + 2), .int (r1 2), .int (r1 3), .int (r1 4), .int (r1 5), .int (r1 6), .ref (c + 3), .int (r1 8), .int (nI (p + 1)), .ref (c + 4), .int (r1 11), .int (nI (10 * (txt p - 48) + (txt (p + 1) - 48))), .ref (c + 5), .int (r1 14), .ref (c + 6), .ref (c + 7), .ref (c + 8), .int (r1 18), .ref (c + 9), .int (r1 20)]))) c (.inr (7, [.ref (c + 1), .ref (c + 2), .int (r1 2), .int (r1 3), .int (r1 4), .int (r1 5), .int (r1 6), .ref (c + 3), .int (r1 8), .int (nI (p + 1 + 1)), .ref (c + 4), .int (r1 11), .int (nI (10 * (txt p - 48) + (txt (p + 1) - 48))), .ref (c + 5), .int (r1 14), .ref (c + 6), .ref (c + 7), .ref (c + 8), .int (r1 18), .ref (c + 9), .int (r1 20)]))) := by
        have := xn_f (r2 := upd (upd r1 12 (nI (10 * (txt p - 48) + (txt (p + 1) - 48)))) 9 (nI (p + 1 + 1))) (xn_f (r2 := upd r1 12 (nI (10 * (txt p - 48) + (txt (p + 1) - 48)))) hn2)
        rw [← e9]
        exact this
      refine tail (10 * (txt p - 48) + (txt (p + 1) - 48)) (p + 1 + 1) lv _ _ hn3 (fun j a b => by rw [xt_us, if_neg a, xt_us, if_neg b]; exact er2 j a b) (by rw [xt_us, if_neg (by omega), xt_us, if_pos rfl]) (by rw [xt_us, if_pos rfl]) (by omega) (by omega) (fun hq => ?_) (fun hq => ?_) h0 h1 h2 h3
      · unfold xq_num
        rw [fc, if_pos ⟨by decide, hq⟩]
        unfold xq_val
        rw [if_pos rfl]
      · unfold xq_num
        rw [fc, if_neg (fun h => hq h.2)]
    · have c2' : xq_fig len txt (p + 1) = false := by simpa using c2
      simp only [c2', Bool.false_eq_true, not_false_eq_true, if_true]
      have fc : xq_fc len txt p = 1 := by unfold xq_fc; rw [if_pos c1, if_neg c2]
      refine tail (txt p - 48) (p + 1) lv M2 r1 hn2 er2 e12 e9 (by omega) (by omega) (fun hq => ?_) (fun hq => ?_) h0 h1 h2 h3
      · unfold xq_num
        rw [fc, if_pos ⟨by decide, hq⟩]
        unfold xq_val
        rw [if_neg (by decide)]
      · unfold xq_num
        rw [fc, if_neg (fun h => hq h.2)]
  · have c1' : xq_fig len txt p = false := by simpa using c1
    simp only [c1', Bool.false_eq_true, not_false_eq_true, if_true]
    simp (disch := omega) only [↓ra_108_7, ↓ra_108_8, xa_kli, xa_klr, xa_kll, xa_ki, xa_kl, xa_kr, xa_kii, xa_kk, xa_kir, xa_krr, xa_kiir, xa_krir, xa_kdup, xa_kdup2, xa_kcp, xa_gf, xa_pf, xa_ga, xa_pa, xa_gq, xa_pq, xa_gl, xa_args, xa_ri, xa_rz, xa_rv, xa_s1, xa_s2, xa_c1, eq_self, List.getElem?_cons_succ, List.getElem?_cons_zero, true_and, and_true, nI_add, pk_mul, xt_in, xt_cl, xt_i0, xt_i1, xa_kc, xa_w8, xa_fit, lg_sl, List.flatMap_cons, List.flatMap_nil, List.map_cons, List.map_nil, List.sum_cons, List.sum_nil, Value.category, List.length_cons, List.length_nil, List.length_append, xa_rc, xa_rf, exists_eq_left, exists_eq', Option.some.injEq, Sum.inr.injEq, Prod.mk.injEq, Option.toList_some, Option.toList_none, List.cons_append, List.nil_append, Nat.reduceAdd, Nat.reduceLeDiff, Nat.reduceLT, List.set_cons_zero, List.set_cons_succ, eq_self, or_true, true_or, reduceIte, xt_ne]
    refine ⟨r, xn_r hB, fun _ _ _ => rfl, Or.inr (fun a p2 h => ?_)⟩
    have fc : xq_fc len txt p = 0 := by unfold xq_fc; rw [if_neg c1]
    have : xq_num len txt p = none := by unfold xq_num; rw [fc, if_neg (fun h => h.1 rfl)]
    unfold xq_k1 at h
    rw [this] at h
    cases h
theorem pd_readOne {M : xa_M} {c len p : Nat} {txt : Nat → Nat} {r : Nat → Int32} {g : Nat → Nat → Int32} (hB : xb_M M c r g) (iX : xi_X len txt) (h8 : r 8 = nI len) (h9 : r 9 = nI p) (hp : p < 900) (ht : ∀ j, j < len → g 3 j = nI (txt j)) (to lo hi : Nat) (hto : to < 51) (hlo : lo < 1000) (hhi : hi < 1000) : ∃ z, xa_E 109 0 (xa_ent [.ref c, .int (nI to), .int (nI lo), .int (nI hi)]) [] M z ∧ ∃ r2 h, xn c M r2 (xb_u g 4 h) z.2 ∧ (∀ j, j ≠ 9 → j ≠ 12 → r2 j = r j) ∧ (∀ j, j ≠ to → h j = g 4 j) ∧ ((∃ a p2, xq_k1 len txt p 59 = some (a, p2) ∧ lo ≤ a ∧ a ≤ hi ∧ z.1 = some (.int (nI 1)) ∧ r2 9 = nI p2 ∧ h to = nI a) ∨ ((∀ a p2, xq_k1 len txt p 59 = some (a, p2) → ¬ (lo ≤ a ∧ a ≤ hi)) ∧ z.1 = some (.int (nI 0)))) := by
  obtain ⟨m0, -⟩ := id hB
  unfold xb_c at m0
  obtain ⟨⟨z1, M1⟩, cE1, r1, hn1, er, hc⟩ := pd_number hB iX h8 h9 hp ht lo hi 59 hlo hhi (by omega)
  dsimp only at hn1 hc
  obtain ⟨n0, n1, n2, n3, n4, -⟩ := id hn1.2
  unfold xb_c at n0
  refine xa_ge4 (fun lv h0 h1 h2 h3 => ?_)
  rcases hc with ⟨a, p2, q1, q2, q3, q4, q5, q6⟩ | ⟨q1, q2⟩
  · subst q4
    simp (disch := omega) only [↓ra_109_0, ↓ra_109_1, ↓ra_109_2, ↓ra_109_3, ↓ra_109_5, ↓ra_109_8, ↓ra_109_10, ↓ra_109_11, ↓ra_109_14, ↓ra_109_15, ↓ra_109_16, ↓ra_109_19, ↓ra_109_20, ↓ra_109_22, xa_kli, xa_klr, xa_kll, xa_ki, xa_kl, xa_kr, xa_kii, xa_kk, xa_kir, xa_krr, xa_kiir, xa_krir, xa_kdup, xa_kdup2, xa_kcp, xa_gf, xa_pf, xa_ga, xa_pa, xa_gq, xa_pq, xa_gl, xa_args, xa_ri, xa_rz, xa_rv, xa_s1, xa_s2, xa_c1, eq_self, List.getElem?_cons_succ, List.getElem?_cons_zero, true_and, and_true, nI_add, pk_mul, xt_in, xt_cl, xt_i0, xt_i1, xa_kc, xa_w8, xa_fit, lg_sl, List.flatMap_cons, List.flatMap_nil, List.map_cons, List.map_nil, List.sum_cons, List.sum_nil, Value.category, List.length_cons, List.length_nil, List.length_append, xa_rc, xa_rf, exists_eq_left, exists_eq', Option.some.injEq, Sum.inr.injEq, Prod.mk.injEq, Option.toList_some, Option.toList_none, List.cons_append, List.nil_append, Nat.reduceAdd, Nat.reduceLeDiff, Nat.reduceLT, List.set_cons_zero, List.set_cons_succ, eq_self, or_true, true_or, reduceIte, xt_ne, h0, h1, h2, h3, m0, n0, n4, xa_iff cE1, mx_108]
    exact ⟨r1, _, xn_s4 hn1, er, fun j hj => by rw [xt_us, if_neg hj], Or.inl ⟨a, p2, q1, q2, q3, q5, by rw [xt_us, if_pos rfl]; exact q6⟩⟩
  · subst q2
    simp (disch := omega) only [↓ra_109_0, ↓ra_109_1, ↓ra_109_2, ↓ra_109_3, ↓ra_109_5, ↓ra_109_8, ↓ra_109_10, ↓ra_109_11, ↓ra_109_14, ↓ra_109_15, ↓ra_109_16, ↓ra_109_19, ↓ra_109_20, ↓ra_109_22, xa_kli, xa_klr, xa_kll, xa_ki, xa_kl, xa_kr, xa_kii, xa_kk, xa_kir, xa_krr, xa_kiir, xa_krir, xa_kdup, xa_kdup2, xa_kcp, xa_gf, xa_pf, xa_ga, xa_pa, xa_gq, xa_pq, xa_gl, xa_args, xa_ri, xa_rz, xa_rv, xa_s1, xa_s2, xa_c1, eq_self, List.getElem?_cons_succ, List.getElem?_cons_zero, true_and, and_true, nI_add, pk_mul, xt_in, xt_cl, xt_i0, xt_i1, xa_kc, xa_w8, xa_fit, lg_sl, List.flatMap_cons, List.flatMap_nil, List.map_cons, List.map_nil, List.sum_cons, List.sum_nil, Value.category, List.length_cons, List.length_nil, List.length_append, xa_rc, xa_rf, exists_eq_left, exists_eq', Option.some.injEq, Sum.inr.injEq, Prod.mk.injEq, Option.toList_some, Option.toList_none, List.cons_append, List.nil_append, Nat.reduceAdd, Nat.reduceLeDiff, Nat.reduceLT, List.set_cons_zero, List.set_cons_succ, eq_self, or_true, true_or, reduceIte, xt_ne, h0, h1, h2, h3, m0, n0, n4, xa_iff cE1, mx_108]
    exact ⟨r1, _, xn_s4 hn1, er, fun j hj => by rw [xt_us, if_neg hj], Or.inr q1⟩
