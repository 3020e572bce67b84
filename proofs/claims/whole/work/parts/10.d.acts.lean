theorem xb_s1 {M : xa_M} {c : Nat} {r : Nat → Int32} {g : Nat → Nat → Int32} {h2 : Nat → Int32} (h : xb_M M c r g) : xb_M (xa_st M (c + 1) (.inl (0, 51, .inl h2))) c r (xb_u g 1 h2) := by
  obtain ⟨m0, m1, m2, m3, m4, m5, m6, m7, m8, m9⟩ := h
  exact ⟨(xa_st_ne (by omega)).trans m0, xa_st_eq, (xa_st_ne (by omega)).trans m2, (xa_st_ne (by omega)).trans m3, (xa_st_ne (by omega)).trans m4, (xa_st_ne (by omega)).trans m5, (xa_st_ne (by omega)).trans m6, (xa_st_ne (by omega)).trans m7, (xa_st_ne (by omega)).trans m8, (xa_st_ne (by omega)).trans m9⟩
theorem xn_s1 {c : Nat} {M M1 : xa_M} {r : Nat → Int32} {g : Nat → Nat → Int32} {h2 : Nat → Int32} (h : xn c M r g M1) : xn c M r (xb_u g 1 h2) (xa_st M1 (c + 1) (.inl (0, 51, .inl h2))) := ⟨xa_fr_tr h.1 (xa_fr_st (by omega) (by omega)), xb_s1 h.2⟩
theorem xn_s1' {c : Nat} {M M1 : xa_M} {r : Nat → Int32} {g : Nat → Nat → Int32} {h : Nat → Int32} (h2 : Nat → Int32) (hn : xn c M r (xb_u g 1 h) M1) : xn c M r (xb_u g 1 h2) (xa_st M1 (c + 1) (.inl (0, 51, .inl h2))) := by
  have := xn_s1 (h2 := h2) hn
  rw [xb_u2] at this
  exact this
theorem xb_s3 {M : xa_M} {c : Nat} {r : Nat → Int32} {g : Nat → Nat → Int32} {h2 : Nat → Int32} (h : xb_M M c r g) : xb_M (xa_st M (c + 3) (.inl (0, 200, .inl h2))) c r (xb_u g 3 h2) := by
  obtain ⟨m0, m1, m2, m3, m4, m5, m6, m7, m8, m9⟩ := h
  exact ⟨(xa_st_ne (by omega)).trans m0, (xa_st_ne (by omega)).trans m1, (xa_st_ne (by omega)).trans m2, xa_st_eq, (xa_st_ne (by omega)).trans m4, (xa_st_ne (by omega)).trans m5, (xa_st_ne (by omega)).trans m6, (xa_st_ne (by omega)).trans m7, (xa_st_ne (by omega)).trans m8, (xa_st_ne (by omega)).trans m9⟩
theorem xn_s3 {c : Nat} {M M1 : xa_M} {r : Nat → Int32} {g : Nat → Nat → Int32} {h2 : Nat → Int32} (h : xn c M r g M1) : xn c M r (xb_u g 3 h2) (xa_st M1 (c + 3) (.inl (0, 200, .inl h2))) := ⟨xa_fr_tr h.1 (xa_fr_st (by omega) (by omega)), xb_s3 h.2⟩
theorem xn_s3' {c : Nat} {M M1 : xa_M} {r : Nat → Int32} {g : Nat → Nat → Int32} {h : Nat → Int32} (h2 : Nat → Int32) (hn : xn c M r (xb_u g 3 h) M1) : xn c M r (xb_u g 3 h2) (xa_st M1 (c + 3) (.inl (0, 200, .inl h2))) := by
  have := xn_s3 (h2 := h2) hn
  rw [xb_u2] at this
  exact this
theorem xb_s4 {M : xa_M} {c : Nat} {r : Nat → Int32} {g : Nat → Nat → Int32} {h2 : Nat → Int32} (h : xb_M M c r g) : xb_M (xa_st M (c + 4) (.inl (0, 51, .inl h2))) c r (xb_u g 4 h2) := by
  obtain ⟨m0, m1, m2, m3, m4, m5, m6, m7, m8, m9⟩ := h
  exact ⟨(xa_st_ne (by omega)).trans m0, (xa_st_ne (by omega)).trans m1, (xa_st_ne (by omega)).trans m2, (xa_st_ne (by omega)).trans m3, xa_st_eq, (xa_st_ne (by omega)).trans m5, (xa_st_ne (by omega)).trans m6, (xa_st_ne (by omega)).trans m7, (xa_st_ne (by omega)).trans m8, (xa_st_ne (by omega)).trans m9⟩
theorem xn_s4 {c : Nat} {M M1 : xa_M} {r : Nat → Int32} {g : Nat → Nat → Int32} {h2 : Nat → Int32} (h : xn c M r g M1) : xn c M r (xb_u g 4 h2) (xa_st M1 (c + 4) (.inl (0, 51, .inl h2))) := ⟨xa_fr_tr h.1 (xa_fr_st (by omega) (by omega)), xb_s4 h.2⟩
theorem xn_s4' {c : Nat} {M M1 : xa_M} {r : Nat → Int32} {g : Nat → Nat → Int32} {h : Nat → Int32} (h2 : Nat → Int32) (hn : xn c M r (xb_u g 4 h) M1) : xn c M r (xb_u g 4 h2) (xa_st M1 (c + 4) (.inl (0, 51, .inl h2))) := by
  have := xn_s4 (h2 := h2) hn
  rw [xb_u2] at this
  exact this
theorem xb_s5 {M : xa_M} {c : Nat} {r : Nat → Int32} {g : Nat → Nat → Int32} {h2 : Nat → Int32} (h : xb_M M c r g) : xb_M (xa_st M (c + 5) (.inl (0, 248, .inl h2))) c r (xb_u g 5 h2) := by
  obtain ⟨m0, m1, m2, m3, m4, m5, m6, m7, m8, m9⟩ := h
  exact ⟨(xa_st_ne (by omega)).trans m0, (xa_st_ne (by omega)).trans m1, (xa_st_ne (by omega)).trans m2, (xa_st_ne (by omega)).trans m3, (xa_st_ne (by omega)).trans m4, xa_st_eq, (xa_st_ne (by omega)).trans m6, (xa_st_ne (by omega)).trans m7, (xa_st_ne (by omega)).trans m8, (xa_st_ne (by omega)).trans m9⟩
theorem xn_s5 {c : Nat} {M M1 : xa_M} {r : Nat → Int32} {g : Nat → Nat → Int32} {h2 : Nat → Int32} (h : xn c M r g M1) : xn c M r (xb_u g 5 h2) (xa_st M1 (c + 5) (.inl (0, 248, .inl h2))) := ⟨xa_fr_tr h.1 (xa_fr_st (by omega) (by omega)), xb_s5 h.2⟩
theorem xn_s5' {c : Nat} {M M1 : xa_M} {r : Nat → Int32} {g : Nat → Nat → Int32} {h : Nat → Int32} (h2 : Nat → Int32) (hn : xn c M r (xb_u g 5 h) M1) : xn c M r (xb_u g 5 h2) (xa_st M1 (c + 5) (.inl (0, 248, .inl h2))) := by
  have := xn_s5 (h2 := h2) hn
  rw [xb_u2] at this
  exact this
theorem xb_s6 {M : xa_M} {c : Nat} {r : Nat → Int32} {g : Nat → Nat → Int32} {h2 : Nat → Int32} (h : xb_M M c r g) : xb_M (xa_st M (c + 6) (.inl (0, 31, .inl h2))) c r (xb_u g 6 h2) := by
  obtain ⟨m0, m1, m2, m3, m4, m5, m6, m7, m8, m9⟩ := h
  exact ⟨(xa_st_ne (by omega)).trans m0, (xa_st_ne (by omega)).trans m1, (xa_st_ne (by omega)).trans m2, (xa_st_ne (by omega)).trans m3, (xa_st_ne (by omega)).trans m4, (xa_st_ne (by omega)).trans m5, xa_st_eq, (xa_st_ne (by omega)).trans m7, (xa_st_ne (by omega)).trans m8, (xa_st_ne (by omega)).trans m9⟩
theorem xn_s6 {c : Nat} {M M1 : xa_M} {r : Nat → Int32} {g : Nat → Nat → Int32} {h2 : Nat → Int32} (h : xn c M r g M1) : xn c M r (xb_u g 6 h2) (xa_st M1 (c + 6) (.inl (0, 31, .inl h2))) := ⟨xa_fr_tr h.1 (xa_fr_st (by omega) (by omega)), xb_s6 h.2⟩
theorem xn_s6' {c : Nat} {M M1 : xa_M} {r : Nat → Int32} {g : Nat → Nat → Int32} {h : Nat → Int32} (h2 : Nat → Int32) (hn : xn c M r (xb_u g 6 h) M1) : xn c M r (xb_u g 6 h2) (xa_st M1 (c + 6) (.inl (0, 31, .inl h2))) := by
  have := xn_s6 (h2 := h2) hn
  rw [xb_u2] at this
  exact this
theorem xb_s7 {M : xa_M} {c : Nat} {r : Nat → Int32} {g : Nat → Nat → Int32} {h2 : Nat → Int32} (h : xb_M M c r g) : xb_M (xa_st M (c + 7) (.inl (2, 1098, .inl h2))) c r (xb_u g 7 h2) := by
  obtain ⟨m0, m1, m2, m3, m4, m5, m6, m7, m8, m9⟩ := h
  exact ⟨(xa_st_ne (by omega)).trans m0, (xa_st_ne (by omega)).trans m1, (xa_st_ne (by omega)).trans m2, (xa_st_ne (by omega)).trans m3, (xa_st_ne (by omega)).trans m4, (xa_st_ne (by omega)).trans m5, (xa_st_ne (by omega)).trans m6, xa_st_eq, (xa_st_ne (by omega)).trans m8, (xa_st_ne (by omega)).trans m9⟩
theorem xn_s7 {c : Nat} {M M1 : xa_M} {r : Nat → Int32} {g : Nat → Nat → Int32} {h2 : Nat → Int32} (h : xn c M r g M1) : xn c M r (xb_u g 7 h2) (xa_st M1 (c + 7) (.inl (2, 1098, .inl h2))) := ⟨xa_fr_tr h.1 (xa_fr_st (by omega) (by omega)), xb_s7 h.2⟩
theorem xn_s7' {c : Nat} {M M1 : xa_M} {r : Nat → Int32} {g : Nat → Nat → Int32} {h : Nat → Int32} (h2 : Nat → Int32) (hn : xn c M r (xb_u g 7 h) M1) : xn c M r (xb_u g 7 h2) (xa_st M1 (c + 7) (.inl (2, 1098, .inl h2))) := by
  have := xn_s7 (h2 := h2) hn
  rw [xb_u2] at this
  exact this
theorem xb_s8 {M : xa_M} {c : Nat} {r : Nat → Int32} {g : Nat → Nat → Int32} {h2 : Nat → Int32} (h : xb_M M c r g) : xb_M (xa_st M (c + 8) (.inl (0, 24, .inl h2))) c r (xb_u g 8 h2) := by
  obtain ⟨m0, m1, m2, m3, m4, m5, m6, m7, m8, m9⟩ := h
  exact ⟨(xa_st_ne (by omega)).trans m0, (xa_st_ne (by omega)).trans m1, (xa_st_ne (by omega)).trans m2, (xa_st_ne (by omega)).trans m3, (xa_st_ne (by omega)).trans m4, (xa_st_ne (by omega)).trans m5, (xa_st_ne (by omega)).trans m6, (xa_st_ne (by omega)).trans m7, xa_st_eq, (xa_st_ne (by omega)).trans m9⟩
theorem xn_s8 {c : Nat} {M M1 : xa_M} {r : Nat → Int32} {g : Nat → Nat → Int32} {h2 : Nat → Int32} (h : xn c M r g M1) : xn c M r (xb_u g 8 h2) (xa_st M1 (c + 8) (.inl (0, 24, .inl h2))) := ⟨xa_fr_tr h.1 (xa_fr_st (by omega) (by omega)), xb_s8 h.2⟩
theorem xn_s8' {c : Nat} {M M1 : xa_M} {r : Nat → Int32} {g : Nat → Nat → Int32} {h : Nat → Int32} (h2 : Nat → Int32) (hn : xn c M r (xb_u g 8 h) M1) : xn c M r (xb_u g 8 h2) (xa_st M1 (c + 8) (.inl (0, 24, .inl h2))) := by
  have := xn_s8 (h2 := h2) hn
  rw [xb_u2] at this
  exact this
theorem xb_s9 {M : xa_M} {c : Nat} {r : Nat → Int32} {g : Nat → Nat → Int32} {h2 : Nat → Int32} (h : xb_M M c r g) : xb_M (xa_st M (c + 9) (.inl (0, 62, .inl h2))) c r (xb_u g 9 h2) := by
  obtain ⟨m0, m1, m2, m3, m4, m5, m6, m7, m8, m9⟩ := h
  exact ⟨(xa_st_ne (by omega)).trans m0, (xa_st_ne (by omega)).trans m1, (xa_st_ne (by omega)).trans m2, (xa_st_ne (by omega)).trans m3, (xa_st_ne (by omega)).trans m4, (xa_st_ne (by omega)).trans m5, (xa_st_ne (by omega)).trans m6, (xa_st_ne (by omega)).trans m7, (xa_st_ne (by omega)).trans m8, xa_st_eq⟩
theorem xn_s9 {c : Nat} {M M1 : xa_M} {r : Nat → Int32} {g : Nat → Nat → Int32} {h2 : Nat → Int32} (h : xn c M r g M1) : xn c M r (xb_u g 9 h2) (xa_st M1 (c + 9) (.inl (0, 62, .inl h2))) := ⟨xa_fr_tr h.1 (xa_fr_st (by omega) (by omega)), xb_s9 h.2⟩
theorem xn_s9' {c : Nat} {M M1 : xa_M} {r : Nat → Int32} {g : Nat → Nat → Int32} {h : Nat → Int32} (h2 : Nat → Int32) (hn : xn c M r (xb_u g 9 h) M1) : xn c M r (xb_u g 9 h2) (xa_st M1 (c + 9) (.inl (0, 62, .inl h2))) := by
  have := xn_s9 (h2 := h2) hn
  rw [xb_u2] at this
  exact this
theorem xv_up {M M1 : xa_M} {c n : Nat} {r : Nat → Int32} {g : Nat → Nat → Int32} {T : xt_T} {h : Nat → Int32} {S1 : xt_S} (hV : xv_T r (g 1) T n) (a : xn c M r (xb_u g 2 h) M1) (b : xv_S h (xnS T) n S1) (d : xnM T = n + 1 → h 30 = nI (xsp S1 n)) : xv_A M1 c r (xb_u g 2 h) T n S1 := ⟨a.2, by rw [xb_un _ _ _ _ (by omega)]; exact hV, by rw [xb_ue]; exact b, by rw [xb_ue]; exact d⟩
theorem pd_goesOn {M : xa_M} {c n : Nat} {r : Nat → Int32} {g : Nat → Nat → Int32} {T : xt_T} {S : xt_S} (hA : xv_A M c r g T n S) (iT : xi_T T) (iS : xi_S T S) (N : Nat) (hN : xsd S + N ≤ 100000) : ∃ z, xa_E 120 0 (xa_ent [.ref c, .int (nI N)]) [] M z ∧ z.1 = none ∧ ∃ h, xn c M r (xb_u g 2 h) z.2 ∧ xv_A z.2 c r (xb_u g 2 h) T n (xq_days T N S) := by
  refine xa_ge2 (fun lv h0 h1 => ?_)
  have loop : ∀ (k i : Nat) (lv : xa_L) (M1 : xa_M) (h : Nat → Int32), lv 0 = some (.ref c) → lv 1 = some (.int (nI N)) → lv 2 = some (.int (nI i)) → i + k = N → xn c M r (xb_u g 2 h) M1 → xv_A M1 c r (xb_u g 2 h) T n (xq_days T i S) → ∃ z, xa_E 120 2 lv [] M1 z ∧ z.1 = none ∧ ∃ h, xn c M r (xb_u g 2 h) z.2 ∧ xv_A z.2 c r (xb_u g 2 h) T n (xq_days T N S) := by
    intro k
    induction k with
    | zero =>
      intro i lv M1 h h0 h1 h2 e hn hA1
      have e : i = N := by omega
      subst e
      simp (disch := omega) only [↓ra_120_2, ↓ra_120_3, ↓ra_120_4, ↓ra_120_17, xa_kli, xa_klr, xa_kll, xa_ki, xa_kl, xa_kr, xa_kii, xa_kk, xa_kir, xa_krr, xa_kiir, xa_krir, xa_kdup, xa_kdup2, xa_kcp, xa_gf, xa_pf, xa_ga, xa_pa, xa_gq, xa_pq, xa_gl, xa_args, xa_ri, xa_rz, xa_rv, xa_s1, xa_s2, xa_c1, eq_self, List.getElem?_cons_succ, List.getElem?_cons_zero, true_and, and_true, nI_add, pk_mul, xt_in, xt_cl, xt_i0, xt_i1, xa_kc, xa_w8, xa_fit, lg_sl, List.flatMap_cons, List.flatMap_nil, List.map_cons, List.map_nil, List.sum_cons, List.sum_nil, Value.category, List.length_cons, List.length_nil, List.length_append, xa_rc, xa_rf, exists_eq_left, exists_eq', Option.some.injEq, Sum.inr.injEq, Prod.mk.injEq, Option.toList_some, Option.toList_none, List.cons_append, List.nil_append, Nat.reduceAdd, Nat.reduceLeDiff, Nat.reduceLT, List.set_cons_zero, List.set_cons_succ, eq_self, or_true, true_or, reduceIte, xt_ne, h0, h1, h2, xt_le, Nat.le_refl]
      exact ⟨h, hn, hA1⟩
    | succ k ih =>
      intro i lv M1 h h0 h1 h2 e hn hA1
      obtain ⟨⟨z2, M2⟩, cE, c1, h', hn2, hA2⟩ := pd_goesBy hA1 iT (xi_days iT i iS (by omega)).1
      have c1 : z2 = none := c1
      subst c1
      dsimp only at hn2 hA2
      rw [xb_u2] at hn2 hA2
      obtain ⟨m0, -⟩ := hn.2
      simp (disch := omega) only [↓ra_120_2, ↓ra_120_3, ↓ra_120_4, xa_kli, xa_klr, xa_kll, xa_ki, xa_kl, xa_kr, xa_kii, xa_kk, xa_kir, xa_krr, xa_kiir, xa_krir, xa_kdup, xa_kdup2, xa_kcp, xa_gf, xa_pf, xa_ga, xa_pa, xa_gq, xa_pq, xa_gl, xa_args, xa_ri, xa_rz, xa_rv, xa_s1, xa_s2, xa_c1, eq_self, List.getElem?_cons_succ, List.getElem?_cons_zero, true_and, and_true, nI_add, pk_mul, xt_in, xt_cl, xt_i0, xt_i1, xa_kc, xa_w8, xa_fit, lg_sl, List.flatMap_cons, List.flatMap_nil, List.map_cons, List.map_nil, List.sum_cons, List.sum_nil, Value.category, List.length_cons, List.length_nil, List.length_append, xa_rc, xa_rf, exists_eq_left, exists_eq', Option.some.injEq, Sum.inr.injEq, Prod.mk.injEq, Option.toList_some, Option.toList_none, List.cons_append, List.nil_append, Nat.reduceAdd, Nat.reduceLeDiff, Nat.reduceLT, List.set_cons_zero, List.set_cons_succ, eq_self, or_true, true_or, reduceIte, xt_ne, h0, h1, h2, xt_le]
      simp only [if_neg (show ¬ N ≤ i by omega)]
      simp (disch := omega) only [↓ra_120_7, ↓ra_120_8, ↓ra_120_11, ↓ra_120_14, xa_kli, xa_klr, xa_kll, xa_ki, xa_kl, xa_kr, xa_kii, xa_kk, xa_kir, xa_krr, xa_kiir, xa_krir, xa_kdup, xa_kdup2, xa_kcp, xa_gf, xa_pf, xa_ga, xa_pa, xa_gq, xa_pq, xa_gl, xa_args, xa_ri, xa_rz, xa_rv, xa_s1, xa_s2, xa_c1, eq_self, List.getElem?_cons_succ, List.getElem?_cons_zero, true_and, and_true, nI_add, pk_mul, xt_in, xt_cl, xt_i0, xt_i1, xa_kc, xa_w8, xa_fit, lg_sl, List.flatMap_cons, List.flatMap_nil, List.map_cons, List.map_nil, List.sum_cons, List.sum_nil, Value.category, List.length_cons, List.length_nil, List.length_append, xa_rc, xa_rf, exists_eq_left, exists_eq', Option.some.injEq, Sum.inr.injEq, Prod.mk.injEq, Option.toList_some, Option.toList_none, List.cons_append, List.nil_append, Nat.reduceAdd, Nat.reduceLeDiff, Nat.reduceLT, List.set_cons_zero, List.set_cons_succ, eq_self, or_true, true_or, reduceIte, xt_ne, h0, h1, h2, m0, xa_iff cE, mx_118]
      exact ih (i + 1) _ M2 h' (by simp [xa_s1, xa_c1, h0]) (by simp [xa_s1, xa_c1, h1]) (by simp [xa_s1, xa_c1]) (by omega) (xn_t hn hn2) hA2
  simp (disch := omega) only [↓ra_120_0, ↓ra_120_1, xa_kli, xa_klr, xa_kll, xa_ki, xa_kl, xa_kr, xa_kii, xa_kk, xa_kir, xa_krr, xa_kiir, xa_krir, xa_kdup, xa_kdup2, xa_kcp, xa_gf, xa_pf, xa_ga, xa_pa, xa_gq, xa_pq, xa_gl, xa_args, xa_ri, xa_rz, xa_rv, xa_s1, xa_s2, xa_c1, eq_self, List.getElem?_cons_succ, List.getElem?_cons_zero, true_and, and_true, nI_add, pk_mul, xt_in, xt_cl, xt_i0, xt_i1, xa_kc, xa_w8, xa_fit, lg_sl, List.flatMap_cons, List.flatMap_nil, List.map_cons, List.map_nil, List.sum_cons, List.sum_nil, Value.category, List.length_cons, List.length_nil, List.length_append, xa_rc, xa_rf, exists_eq_left, exists_eq', Option.some.injEq, Sum.inr.injEq, Prod.mk.injEq, Option.toList_some, Option.toList_none, List.cons_append, List.nil_append, Nat.reduceAdd, Nat.reduceLeDiff, Nat.reduceLT, List.set_cons_zero, List.set_cons_succ, eq_self, or_true, true_or, reduceIte, xt_ne]
  exact loop N 0 _ M (g 2) (by simp [xa_s1, xa_c1, h0]) (by simp [xa_s1, xa_c1, h1]) (by simp [xa_s1, xa_c1]) (by omega) (by rw [xb_ui]; exact xn_r hA.1) (by rw [xb_ui]; exact hA)
theorem pd_many {M : xa_M} {c n : Nat} {r : Nat → Int32} {g : Nat → Nat → Int32} {T : xt_T} {S : xt_S} (hA : xv_A M c r g T n S) (hn : xnS T ≤ 6) (hb : ∀ s, s < xnS T → xsh S s < 2147483648) (w : Nat) (hw : w < 2147483648) : xa_E 121 0 (xa_ent [.ref c, .int (nI w)]) [] M (some (.int (nI (xq_n T S w))), M) := by
  have ch := fun (s : Nat) (hs : s < xnS T) => xa_iff (pd_how hA hn s hs)
  obtain ⟨⟨m0, m1, -⟩, ⟨⟨v0, v1, v2, v3, v4, v5⟩, -⟩, -⟩ := hA
  unfold xb_c at m0
  refine xa_go2 (fun lv h0 h1 => ?_)
  have loop : ∀ (k i : Nat) (lv : xa_L), lv 0 = some (.ref c) → lv 1 = some (.int (nI w)) → lv 2 = some (.int (nI (xt_c (fun s => decide (xsh S s = w)) i))) → lv 3 = some (.int (nI i)) → i + k = xnS T → xa_E 121 4 lv [] M (some (.int (nI (xq_n T S w))), M) := by
    intro k
    induction k with
    | zero =>
      intro i lv h0 h1 h2 h3 e
      have e : i = xnS T := by omega
      subst e
      simp (disch := omega) only [↓ra_121_4, ↓ra_121_5, ↓ra_121_6, ↓ra_121_9, ↓ra_121_10, ↓ra_121_11, ↓ra_121_37, ↓ra_121_38, xa_kli, xa_klr, xa_kll, xa_ki, xa_kl, xa_kr, xa_kii, xa_kk, xa_kir, xa_krr, xa_kiir, xa_krir, xa_kdup, xa_kdup2, xa_kcp, xa_gf, xa_pf, xa_ga, xa_pa, xa_gq, xa_pq, xa_gl, xa_args, xa_ri, xa_rz, xa_rv, xa_s1, xa_s2, xa_c1, eq_self, List.getElem?_cons_succ, List.getElem?_cons_zero, true_and, and_true, nI_add, pk_mul, xt_in, xt_cl, xt_i0, xt_i1, xa_kc, xa_w8, xa_fit, lg_sl, List.flatMap_cons, List.flatMap_nil, List.map_cons, List.map_nil, List.sum_cons, List.sum_nil, Value.category, List.length_cons, List.length_nil, List.length_append, xa_rc, xa_rf, exists_eq_left, exists_eq', Option.some.injEq, Sum.inr.injEq, Prod.mk.injEq, Option.toList_some, Option.toList_none, List.cons_append, List.nil_append, Nat.reduceAdd, Nat.reduceLeDiff, Nat.reduceLT, List.set_cons_zero, List.set_cons_succ, eq_self, or_true, true_or, reduceIte, xt_ne, h0, h1, h2, h3, m0, m1, v3, xt_le, Nat.le_refl]
      rfl
    | succ k ih =>
      intro i lv h0 h1 h2 h3 e
      have hi := hb i (by omega)
      simp (disch := omega) only [↓ra_121_4, ↓ra_121_5, ↓ra_121_6, ↓ra_121_9, ↓ra_121_10, ↓ra_121_11, xa_kli, xa_klr, xa_kll, xa_ki, xa_kl, xa_kr, xa_kii, xa_kk, xa_kir, xa_krr, xa_kiir, xa_krir, xa_kdup, xa_kdup2, xa_kcp, xa_gf, xa_pf, xa_ga, xa_pa, xa_gq, xa_pq, xa_gl, xa_args, xa_ri, xa_rz, xa_rv, xa_s1, xa_s2, xa_c1, eq_self, List.getElem?_cons_succ, List.getElem?_cons_zero, true_and, and_true, nI_add, pk_mul, xt_in, xt_cl, xt_i0, xt_i1, xa_kc, xa_w8, xa_fit, lg_sl, List.flatMap_cons, List.flatMap_nil, List.map_cons, List.map_nil, List.sum_cons, List.sum_nil, Value.category, List.length_cons, List.length_nil, List.length_append, xa_rc, xa_rf, exists_eq_left, exists_eq', Option.some.injEq, Sum.inr.injEq, Prod.mk.injEq, Option.toList_some, Option.toList_none, List.cons_append, List.nil_append, Nat.reduceAdd, Nat.reduceLeDiff, Nat.reduceLT, List.set_cons_zero, List.set_cons_succ, eq_self, or_true, true_or, reduceIte, xt_ne, h0, h1, h2, h3, m0, m1, v3, xt_le]
      rw [if_neg (by omega)]
      simp (disch := omega) only [↓ra_121_14, ↓ra_121_15, ↓ra_121_16, ↓ra_121_17, ↓ra_121_20, ↓ra_121_21, xa_kli, xa_klr, xa_kll, xa_ki, xa_kl, xa_kr, xa_kii, xa_kk, xa_kir, xa_krr, xa_kiir, xa_krir, xa_kdup, xa_kdup2, xa_kcp, xa_gf, xa_pf, xa_ga, xa_pa, xa_gq, xa_pq, xa_gl, xa_args, xa_ri, xa_rz, xa_rv, xa_s1, xa_s2, xa_c1, eq_self, List.getElem?_cons_succ, List.getElem?_cons_zero, true_and, and_true, nI_add, pk_mul, xt_in, xt_cl, xt_i0, xt_i1, xa_kc, xa_w8, xa_fit, lg_sl, List.flatMap_cons, List.flatMap_nil, List.map_cons, List.map_nil, List.sum_cons, List.sum_nil, Value.category, List.length_cons, List.length_nil, List.length_append, xa_rc, xa_rf, exists_eq_left, exists_eq', Option.some.injEq, Sum.inr.injEq, Prod.mk.injEq, Option.toList_some, Option.toList_none, List.cons_append, List.nil_append, Nat.reduceAdd, Nat.reduceLeDiff, Nat.reduceLT, List.set_cons_zero, List.set_cons_succ, eq_self, or_true, true_or, reduceIte, xt_ne, h0, h1, h2, h3, m0, ch, mx_99, xt_eq]
      by_cases c1 : xsh S i = w
      · rw [if_pos c1]
        simp (disch := omega) only [↓ra_121_24, ↓ra_121_25, ↓ra_121_29, ↓ra_121_30, ↓ra_121_31, ↓ra_121_34, xa_kli, xa_klr, xa_kll, xa_ki, xa_kl, xa_kr, xa_kii, xa_kk, xa_kir, xa_krr, xa_kiir, xa_krir, xa_kdup, xa_kdup2, xa_kcp, xa_gf, xa_pf, xa_ga, xa_pa, xa_gq, xa_pq, xa_gl, xa_args, xa_ri, xa_rz, xa_rv, xa_s1, xa_s2, xa_c1, eq_self, List.getElem?_cons_succ, List.getElem?_cons_zero, true_and, and_true, nI_add, pk_mul, xt_in, xt_cl, xt_i0, xt_i1, xa_kc, xa_w8, xa_fit, lg_sl, List.flatMap_cons, List.flatMap_nil, List.map_cons, List.map_nil, List.sum_cons, List.sum_nil, Value.category, List.length_cons, List.length_nil, List.length_append, xa_rc, xa_rf, exists_eq_left, exists_eq', Option.some.injEq, Sum.inr.injEq, Prod.mk.injEq, Option.toList_some, Option.toList_none, List.cons_append, List.nil_append, Nat.reduceAdd, Nat.reduceLeDiff, Nat.reduceLT, List.set_cons_zero, List.set_cons_succ, eq_self, or_true, true_or, reduceIte, xt_ne, h3]
        exact ih (i + 1) _ (by simp [xa_s1, xa_c1, h0]) (by simp [xa_s1, xa_c1, h1]) (by simp [xa_s1, xa_c1, xt_c, c1]) (by simp [xa_s1, xa_c1]) (by omega)
      · rw [if_neg c1]
        simp (disch := omega) only [↓ra_121_28, ↓ra_121_29, ↓ra_121_30, ↓ra_121_31, ↓ra_121_34, xa_kli, xa_klr, xa_kll, xa_ki, xa_kl, xa_kr, xa_kii, xa_kk, xa_kir, xa_krr, xa_kiir, xa_krir, xa_kdup, xa_kdup2, xa_kcp, xa_gf, xa_pf, xa_ga, xa_pa, xa_gq, xa_pq, xa_gl, xa_args, xa_ri, xa_rz, xa_rv, xa_s1, xa_s2, xa_c1, eq_self, List.getElem?_cons_succ, List.getElem?_cons_zero, true_and, and_true, nI_add, pk_mul, xt_in, xt_cl, xt_i0, xt_i1, xa_kc, xa_w8, xa_fit, lg_sl, List.flatMap_cons, List.flatMap_nil, List.map_cons, List.map_nil, List.sum_cons, List.sum_nil, Value.category, List.length_cons, List.length_nil, List.length_append, xa_rc, xa_rf, exists_eq_left, exists_eq', Option.some.injEq, Sum.inr.injEq, Prod.mk.injEq, Option.toList_some, Option.toList_none, List.cons_append, List.nil_append, Nat.reduceAdd, Nat.reduceLeDiff, Nat.reduceLT, List.set_cons_zero, List.set_cons_succ, eq_self, or_true, true_or, reduceIte, xt_ne, h3]
        exact ih (i + 1) _ (by simp [xa_s1, xa_c1, h0]) (by simp [xa_s1, xa_c1, h1]) (by simp [xa_s1, xa_c1, xt_c, c1]) (by simp [xa_s1, xa_c1]) (by omega)
  simp (disch := omega) only [↓ra_121_0, ↓ra_121_1, ↓ra_121_2, ↓ra_121_3, xa_kli, xa_klr, xa_kll, xa_ki, xa_kl, xa_kr, xa_kii, xa_kk, xa_kir, xa_krr, xa_kiir, xa_krir, xa_kdup, xa_kdup2, xa_kcp, xa_gf, xa_pf, xa_ga, xa_pa, xa_gq, xa_pq, xa_gl, xa_args, xa_ri, xa_rz, xa_rv, xa_s1, xa_s2, xa_c1, eq_self, List.getElem?_cons_succ, List.getElem?_cons_zero, true_and, and_true, nI_add, pk_mul, xt_in, xt_cl, xt_i0, xt_i1, xa_kc, xa_w8, xa_fit, lg_sl, List.flatMap_cons, List.flatMap_nil, List.map_cons, List.map_nil, List.sum_cons, List.sum_nil, Value.category, List.length_cons, List.length_nil, List.length_append, xa_rc, xa_rf, exists_eq_left, exists_eq', Option.some.injEq, Sum.inr.injEq, Prod.mk.injEq, Option.toList_some, Option.toList_none, List.cons_append, List.nil_append, Nat.reduceAdd, Nat.reduceLeDiff, Nat.reduceLT, List.set_cons_zero, List.set_cons_succ, eq_self, or_true, true_or, reduceIte, xt_ne]
  exact loop (xnS T) 0 _ (by simp [xa_s1, xa_c1, h0]) (by simp [xa_s1, xa_c1, h1]) (by simp [xa_s1, xa_c1, xt_c]) (by simp [xa_s1, xa_c1]) (by omega)
theorem pd_moves {M : xa_M} {c n : Nat} {r : Nat → Int32} {g : Nat → Nat → Int32} {T : xt_T} {S : xt_S} (hA : xv_A M c r g T n S) (hn6 : xnS T ≤ 6) (s q : Nat) (hs : s < xnS T) (hb : xsh S s ≤ 3) (h1s : xsh S s = 1 → xss S s = 0) : ∃ z, xa_E 125 0 (xa_ent [.ref c, .int (nI s), .int (nI q)]) [] M z ∧ z.1 = none ∧ ∃ h, xn c M r (xb_u g 2 h) z.2 ∧ xv_A z.2 c r (xb_u g 2 h) T n (xq_set S s q) := by
  obtain ⟨hB, hV, ⟨hd, hs0, hp⟩, he⟩ := hA
  have nl := xv_nle hV
  obtain ⟨m0, m1, m2, -⟩ := id hB
  unfold xb_c at m0
  obtain ⟨q1, q2, q3, q4⟩ := hs0 s hs
  refine xa_ge3 (fun lv h0 h1 h2 => ?_)
  simp (disch := omega) only [↓ra_125_0, ↓ra_125_1, ↓ra_125_2, ↓ra_125_3, ↓ra_125_4, ↓ra_125_5, ↓ra_125_6, ↓ra_125_7, ↓ra_125_10, ↓ra_125_11, ↓ra_125_12, ↓ra_125_13, ↓ra_125_14, ↓ra_125_17, ↓ra_125_18, ↓ra_125_19, ↓ra_125_20, xa_kli, xa_klr, xa_kll, xa_ki, xa_kl, xa_kr, xa_kii, xa_kk, xa_kir, xa_krr, xa_kiir, xa_krir, xa_kdup, xa_kdup2, xa_kcp, xa_gf, xa_pf, xa_ga, xa_pa, xa_gq, xa_pq, xa_gl, xa_args, xa_ri, xa_rz, xa_rv, xa_s1, xa_s2, xa_c1, eq_self, List.getElem?_cons_succ, List.getElem?_cons_zero, true_and, and_true, nI_add, pk_mul, xt_in, xt_cl, xt_i0, xt_i1, xa_kc, xa_w8, xa_fit, lg_sl, List.flatMap_cons, List.flatMap_nil, List.map_cons, List.map_nil, List.sum_cons, List.sum_nil, Value.category, List.length_cons, List.length_nil, List.length_append, xa_rc, xa_rf, exists_eq_left, exists_eq', Option.some.injEq, Sum.inr.injEq, Prod.mk.injEq, Option.toList_some, Option.toList_none, List.cons_append, List.nil_append, Nat.reduceAdd, Nat.reduceLeDiff, Nat.reduceLT, List.set_cons_zero, List.set_cons_succ, eq_self, or_true, true_or, reduceIte, xt_ne, h0, h1, h2, m0, m2, q1, xt_eq]
  have fin : ∀ lv : xa_L, lv 0 = some (.ref c) → lv 2 = some (.int (nI q)) → lv 3 = some (.int (nI (1 + 4 * s))) → ∃ z, xa_E 125 35 lv [.int (nI (xss S s)), .int (nI (1 + 4 * s + 2)), .ref (c + 2)] M z ∧ z.1 = none ∧ ∃ h, xn c M r (xb_u g 2 h) z.2 ∧ xv_A z.2 c r (xb_u g 2 h) T n (xq_set S s q) := by
    intro lv h0 h2 h3
    simp (disch := omega) only [↓ra_125_35, ↓ra_125_36, ↓ra_125_37, ↓ra_125_40, ↓ra_125_41, ↓ra_125_42, ↓ra_125_43, ↓ra_125_44, ↓ra_125_47, ↓ra_125_48, ↓ra_125_49, ↓ra_125_50, ↓ra_125_51, ↓ra_125_52, xa_kli, xa_klr, xa_kll, xa_ki, xa_kl, xa_kr, xa_kii, xa_kk, xa_kir, xa_krr, xa_kiir, xa_krir, xa_kdup, xa_kdup2, xa_kcp, xa_gf, xa_pf, xa_ga, xa_pa, xa_gq, xa_pq, xa_gl, xa_args, xa_ri, xa_rz, xa_rv, xa_s1, xa_s2, xa_c1, eq_self, List.getElem?_cons_succ, List.getElem?_cons_zero, true_and, and_true, nI_add, pk_mul, xt_in, xt_cl, xt_i0, xt_i1, xa_kc, xa_w8, xa_fit, lg_sl, List.flatMap_cons, List.flatMap_nil, List.map_cons, List.map_nil, List.sum_cons, List.sum_nil, Value.category, List.length_cons, List.length_nil, List.length_append, xa_rc, xa_rf, exists_eq_left, exists_eq', Option.some.injEq, Sum.inr.injEq, Prod.mk.injEq, Option.toList_some, Option.toList_none, List.cons_append, List.nil_append, Nat.reduceAdd, Nat.reduceLeDiff, Nat.reduceLT, List.set_cons_zero, List.set_cons_succ, eq_self, or_true, true_or, reduceIte, xt_ne, h0, h2, h3, m0, m2, xt_st]
    have hn := xn_s2' (upd (upd (upd (g 2) (1 + 4 * s + 2) (nI (xss S s))) (1 + 4 * s) (nI 0)) (1 + 4 * s + 1) (nI q)) (xn_s2' (upd (upd (g 2) (1 + 4 * s + 2) (nI (xss S s))) (1 + 4 * s) (nI 0)) (xn_s2 (h2 := upd (g 2) (1 + 4 * s + 2) (nI (xss S s))) (xn_r hB)))
    refine ⟨_, hn, xv_up hV hn ⟨?_, fun j hj => ?_, fun m hm => ?_⟩ (fun hx => ?_)⟩
    · rw [xt_us, if_neg (by omega), xt_us, if_neg (by omega), xt_us, if_neg (by omega)]; exact hd
    · obtain ⟨p1, p2, p3, p4⟩ := hs0 j hj
      simp only [xt_us]
      show _ = nI (if j = s then _ else _) ∧ _ = nI (if j = s then _ else _) ∧ _ ∧ _
      by_cases e : j = s
      · subst e
        rw [if_pos rfl, if_pos rfl, if_neg (by omega), if_pos rfl, if_pos rfl, if_neg (by omega), if_neg (by omega), if_pos rfl, if_neg (by omega), if_neg (by omega), if_neg (by omega)]
        exact ⟨rfl, rfl, rfl, p4⟩
      · rw [if_neg e, if_neg e, if_neg (by omega), if_neg (by omega), if_neg (by omega), if_neg (by omega), if_neg (by omega), if_neg (by omega), if_neg (by omega), if_neg (by omega), if_neg (by omega), if_neg (by omega), if_neg (by omega), if_neg (by omega)]
        exact ⟨p1, p2, p3, p4⟩
    · rw [xt_us, if_neg (by omega), xt_us, if_neg (by omega), xt_us, if_neg (by omega)]; exact hp m hm
    · rw [xt_us, if_neg (by omega), xt_us, if_neg (by omega), xt_us, if_neg (by omega)]; exact he hx
  by_cases c1 : xsh S s = 1
  · simp only [if_pos c1]
    have e0 := h1s c1
    simp (disch := omega) only [↓ra_125_23, ↓ra_125_24, xa_kli, xa_klr, xa_kll, xa_ki, xa_kl, xa_kr, xa_kii, xa_kk, xa_kir, xa_krr, xa_kiir, xa_krir, xa_kdup, xa_kdup2, xa_kcp, xa_gf, xa_pf, xa_ga, xa_pa, xa_gq, xa_pq, xa_gl, xa_args, xa_ri, xa_rz, xa_rv, xa_s1, xa_s2, xa_c1, eq_self, List.getElem?_cons_succ, List.getElem?_cons_zero, true_and, and_true, nI_add, pk_mul, xt_in, xt_cl, xt_i0, xt_i1, xa_kc, xa_w8, xa_fit, lg_sl, List.flatMap_cons, List.flatMap_nil, List.map_cons, List.map_nil, List.sum_cons, List.sum_nil, Value.category, List.length_cons, List.length_nil, List.length_append, xa_rc, xa_rf, exists_eq_left, exists_eq', Option.some.injEq, Sum.inr.injEq, Prod.mk.injEq, Option.toList_some, Option.toList_none, List.cons_append, List.nil_append, Nat.reduceAdd, Nat.reduceLeDiff, Nat.reduceLT, List.set_cons_zero, List.set_cons_succ, eq_self, or_true, true_or, reduceIte, xt_ne]
    have := fin (xa_s1 lv 3 (.int (nI (1 + 4 * s)))) (by simp [xa_s1, xa_c1, h0]) (by simp [xa_s1, xa_c1, h2]) (by simp [xa_s1, xa_c1])
    rw [e0] at this
    exact this
  · simp only [if_neg c1]
    simp (disch := omega) only [↓ra_125_27, ↓ra_125_28, ↓ra_125_31, ↓ra_125_32, ↓ra_125_33, ↓ra_125_34, xa_kli, xa_klr, xa_kll, xa_ki, xa_kl, xa_kr, xa_kii, xa_kk, xa_kir, xa_krr, xa_kiir, xa_krir, xa_kdup, xa_kdup2, xa_kcp, xa_gf, xa_pf, xa_ga, xa_pa, xa_gq, xa_pq, xa_gl, xa_args, xa_ri, xa_rz, xa_rv, xa_s1, xa_s2, xa_c1, eq_self, List.getElem?_cons_succ, List.getElem?_cons_zero, true_and, and_true, nI_add, pk_mul, xt_in, xt_cl, xt_i0, xt_i1, xa_kc, xa_w8, xa_fit, lg_sl, List.flatMap_cons, List.flatMap_nil, List.map_cons, List.map_nil, List.sum_cons, List.sum_nil, Value.category, List.length_cons, List.length_nil, List.length_append, xa_rc, xa_rf, exists_eq_left, exists_eq', Option.some.injEq, Sum.inr.injEq, Prod.mk.injEq, Option.toList_some, Option.toList_none, List.cons_append, List.nil_append, Nat.reduceAdd, Nat.reduceLeDiff, Nat.reduceLT, List.set_cons_zero, List.set_cons_succ, eq_self, or_true, true_or, reduceIte, xt_ne, h0, h1, h2, m0, m2, q3]
    exact fin (xa_s1 lv 3 (.int (nI (1 + 4 * s)))) (by simp [xa_s1, xa_c1, h0]) (by simp [xa_s1, xa_c1, h2]) (by simp [xa_s1, xa_c1])
theorem pd_leaves {M : xa_M} {c n : Nat} {r : Nat → Int32} {g : Nat → Nat → Int32} {T : xt_T} {S : xt_S} (hA : xv_A M c r g T n S) (hn6 : xnS T ≤ 6) (s : Nat) (hs : s < xnS T) : ∃ z, xa_E 126 0 (xa_ent [.ref c, .int (nI s)]) [] M z ∧ z.1 = none ∧ ∃ h, xn c M r (xb_u g 2 h) z.2 ∧ xv_A z.2 c r (xb_u g 2 h) T n (xq_out S s) := by
  obtain ⟨hB, hV, ⟨hd, hs0, hp⟩, he⟩ := hA
  have nl := xv_nle hV
  obtain ⟨m0, m1, m2, -⟩ := id hB
  unfold xb_c at m0
  refine xa_ge2 (fun lv h0 h1 => ?_)
  simp (disch := omega) only [↓ra_126_0, ↓ra_126_1, ↓ra_126_4, ↓ra_126_5, ↓ra_126_6, ↓ra_126_7, ↓ra_126_8, ↓ra_126_9, ↓ra_126_10, ↓ra_126_11, ↓ra_126_12, ↓ra_126_15, ↓ra_126_16, ↓ra_126_17, ↓ra_126_18, ↓ra_126_19, ↓ra_126_20, ↓ra_126_21, ↓ra_126_22, ↓ra_126_23, ↓ra_126_24, xa_kli, xa_klr, xa_kll, xa_ki, xa_kl, xa_kr, xa_kii, xa_kk, xa_kir, xa_krr, xa_kiir, xa_krir, xa_kdup, xa_kdup2, xa_kcp, xa_gf, xa_pf, xa_ga, xa_pa, xa_gq, xa_pq, xa_gl, xa_args, xa_ri, xa_rz, xa_rv, xa_s1, xa_s2, xa_c1, eq_self, List.getElem?_cons_succ, List.getElem?_cons_zero, true_and, and_true, nI_add, pk_mul, xt_in, xt_cl, xt_i0, xt_i1, xa_kc, xa_w8, xa_fit, lg_sl, List.flatMap_cons, List.flatMap_nil, List.map_cons, List.map_nil, List.sum_cons, List.sum_nil, Value.category, List.length_cons, List.length_nil, List.length_append, xa_rc, xa_rf, exists_eq_left, exists_eq', Option.some.injEq, Sum.inr.injEq, Prod.mk.injEq, Option.toList_some, Option.toList_none, List.cons_append, List.nil_append, Nat.reduceAdd, Nat.reduceLeDiff, Nat.reduceLT, List.set_cons_zero, List.set_cons_succ, eq_self, or_true, true_or, reduceIte, xt_ne, h0, h1, m0, m2, xt_st]
  have hn := xn_s2' (upd (upd (g 2) (1 + 4 * s) (nI 1)) (1 + 4 * s + 2) (nI 0)) (xn_s2 (h2 := upd (g 2) (1 + 4 * s) (nI 1)) (xn_r hB))
  refine ⟨_, hn, xv_up hV hn ⟨?_, fun j hj => ?_, fun m hm => ?_⟩ (fun hx => ?_)⟩
  · rw [xt_us, if_neg (by omega), xt_us, if_neg (by omega)]; exact hd
  · obtain ⟨p1, p2, p3, p4⟩ := hs0 j hj
    simp only [xt_us]
    show _ = nI (if j = s then _ else _) ∧ _ ∧ _ = nI (if j = s then _ else _) ∧ _
    by_cases e : j = s
    · subst e
      rw [if_pos rfl, if_pos rfl, if_neg (by omega), if_pos rfl, if_neg (by omega), if_neg (by omega), if_pos rfl, if_neg (by omega), if_neg (by omega)]
      exact ⟨rfl, p2, rfl, p4⟩
    · rw [if_neg e, if_neg e, if_neg (by omega), if_neg (by omega), if_neg (by omega), if_neg (by omega), if_neg (by omega), if_neg (by omega), if_neg (by omega), if_neg (by omega)]
      exact ⟨p1, p2, p3, p4⟩
  · rw [xt_us, if_neg (by omega), xt_us, if_neg (by omega)]; exact hp m hm
  · rw [xt_us, if_neg (by omega), xt_us, if_neg (by omega)]; exact he hx
theorem pd_asides {M : xa_M} {c : Nat} {r : Nat → Int32} {g : Nat → Nat → Int32} (hB : xb_M M c r g) : ∃ z, xa_E 132 0 (xa_ent [.ref c]) [] M z ∧ z.1 = none ∧ ∃ h, xn c M r (xb_u g 6 h) z.2 ∧ ∀ k, k < 31 → h k = g 2 k := by
  refine xa_ge1 (fun lv h0 => ?_)
  have loop : ∀ (k i : Nat) (lv : xa_L) (M1 : xa_M) (h : Nat → Int32), lv 0 = some (.ref c) → lv 1 = some (.int (nI i)) → i + k = 31 → xn c M r (xb_u g 6 h) M1 → (∀ j, j < i → h j = g 2 j) → ∃ z, xa_E 132 2 lv [] M1 z ∧ z.1 = none ∧ ∃ h, xn c M r (xb_u g 6 h) z.2 ∧ ∀ k, k < 31 → h k = g 2 k := by
    intro k
    induction k with
    | zero =>
      intro i lv M1 h h0 h1 e hn ho
      have e : i = 31 := by omega
      subst e
      simp (disch := omega) only [↓ra_132_2, ↓ra_132_3, ↓ra_132_5, ↓ra_132_26, xa_kli, xa_klr, xa_kll, xa_ki, xa_kl, xa_kr, xa_kii, xa_kk, xa_kir, xa_krr, xa_kiir, xa_krir, xa_kdup, xa_kdup2, xa_kcp, xa_gf, xa_pf, xa_ga, xa_pa, xa_gq, xa_pq, xa_gl, xa_args, xa_ri, xa_rz, xa_rv, xa_s1, xa_s2, xa_c1, eq_self, List.getElem?_cons_succ, List.getElem?_cons_zero, true_and, and_true, nI_add, pk_mul, xt_in, xt_cl, xt_i0, xt_i1, xa_kc, xa_w8, xa_fit, lg_sl, List.flatMap_cons, List.flatMap_nil, List.map_cons, List.map_nil, List.sum_cons, List.sum_nil, Value.category, List.length_cons, List.length_nil, List.length_append, xa_rc, xa_rf, exists_eq_left, exists_eq', Option.some.injEq, Sum.inr.injEq, Prod.mk.injEq, Option.toList_some, Option.toList_none, List.cons_append, List.nil_append, Nat.reduceAdd, Nat.reduceLeDiff, Nat.reduceLT, List.set_cons_zero, List.set_cons_succ, eq_self, or_true, true_or, reduceIte, xt_ne, h0, h1, xt_le, Nat.le_refl]
      exact ⟨h, hn, ho⟩
    | succ k ih =>
      intro i lv M1 h h0 h1 e hn ho
      obtain ⟨m0, m1, m2, m3, m4, m5, m6, -⟩ := hn.2
      unfold xb_c at m0
      rw [xb_ue] at m6
      rw [xb_un _ _ _ _ (by omega)] at m2
      simp (disch := omega) only [↓ra_132_2, ↓ra_132_3, ↓ra_132_5, xa_kli, xa_klr, xa_kll, xa_ki, xa_kl, xa_kr, xa_kii, xa_kk, xa_kir, xa_krr, xa_kiir, xa_krir, xa_kdup, xa_kdup2, xa_kcp, xa_gf, xa_pf, xa_ga, xa_pa, xa_gq, xa_pq, xa_gl, xa_args, xa_ri, xa_rz, xa_rv, xa_s1, xa_s2, xa_c1, eq_self, List.getElem?_cons_succ, List.getElem?_cons_zero, true_and, and_true, nI_add, pk_mul, xt_in, xt_cl, xt_i0, xt_i1, xa_kc, xa_w8, xa_fit, lg_sl, List.flatMap_cons, List.flatMap_nil, List.map_cons, List.map_nil, List.sum_cons, List.sum_nil, Value.category, List.length_cons, List.length_nil, List.length_append, xa_rc, xa_rf, exists_eq_left, exists_eq', Option.some.injEq, Sum.inr.injEq, Prod.mk.injEq, Option.toList_some, Option.toList_none, List.cons_append, List.nil_append, Nat.reduceAdd, Nat.reduceLeDiff, Nat.reduceLT, List.set_cons_zero, List.set_cons_succ, eq_self, or_true, true_or, reduceIte, xt_ne, h0, h1, xt_le]
      simp only [if_neg (show ¬ 31 ≤ i by omega)]
      simp (disch := omega) only [↓ra_132_8, ↓ra_132_9, ↓ra_132_12, ↓ra_132_13, ↓ra_132_14, ↓ra_132_17, ↓ra_132_18, ↓ra_132_19, ↓ra_132_20, ↓ra_132_23, xa_kli, xa_klr, xa_kll, xa_ki, xa_kl, xa_kr, xa_kii, xa_kk, xa_kir, xa_krr, xa_kiir, xa_krir, xa_kdup, xa_kdup2, xa_kcp, xa_gf, xa_pf, xa_ga, xa_pa, xa_gq, xa_pq, xa_gl, xa_args, xa_ri, xa_rz, xa_rv, xa_s1, xa_s2, xa_c1, eq_self, List.getElem?_cons_succ, List.getElem?_cons_zero, true_and, and_true, nI_add, pk_mul, xt_in, xt_cl, xt_i0, xt_i1, xa_kc, xa_w8, xa_fit, lg_sl, List.flatMap_cons, List.flatMap_nil, List.map_cons, List.map_nil, List.sum_cons, List.sum_nil, Value.category, List.length_cons, List.length_nil, List.length_append, xa_rc, xa_rf, exists_eq_left, exists_eq', Option.some.injEq, Sum.inr.injEq, Prod.mk.injEq, Option.toList_some, Option.toList_none, List.cons_append, List.nil_append, Nat.reduceAdd, Nat.reduceLeDiff, Nat.reduceLT, List.set_cons_zero, List.set_cons_succ, eq_self, or_true, true_or, reduceIte, xt_ne, h0, h1, m0, m2, m6]
      refine ih (i + 1) _ _ (upd h i (g 2 i)) (by simp [xa_s1, xa_c1, h0]) (by simp [xa_s1, xa_c1]) (by omega) (xn_s6' _ hn) (fun j hj => ?_)
      rw [xt_us]
      by_cases e : j = i
      · rw [if_pos e, e]
      · rw [if_neg e]; exact ho j (by omega)
  simp (disch := omega) only [↓ra_132_0, ↓ra_132_1, xa_kli, xa_klr, xa_kll, xa_ki, xa_kl, xa_kr, xa_kii, xa_kk, xa_kir, xa_krr, xa_kiir, xa_krir, xa_kdup, xa_kdup2, xa_kcp, xa_gf, xa_pf, xa_ga, xa_pa, xa_gq, xa_pq, xa_gl, xa_args, xa_ri, xa_rz, xa_rv, xa_s1, xa_s2, xa_c1, eq_self, List.getElem?_cons_succ, List.getElem?_cons_zero, true_and, and_true, nI_add, pk_mul, xt_in, xt_cl, xt_i0, xt_i1, xa_kc, xa_w8, xa_fit, lg_sl, List.flatMap_cons, List.flatMap_nil, List.map_cons, List.map_nil, List.sum_cons, List.sum_nil, Value.category, List.length_cons, List.length_nil, List.length_append, xa_rc, xa_rf, exists_eq_left, exists_eq', Option.some.injEq, Sum.inr.injEq, Prod.mk.injEq, Option.toList_some, Option.toList_none, List.cons_append, List.nil_append, Nat.reduceAdd, Nat.reduceLeDiff, Nat.reduceLT, List.set_cons_zero, List.set_cons_succ, eq_self, or_true, true_or, reduceIte, xt_ne]
  exact loop 31 0 _ M (g 6) (by simp [xa_s1, xa_c1, h0]) (by simp [xa_s1, xa_c1]) (by omega) (by rw [xb_ui]; exact xn_r hB) (fun j hj => absurd hj (Nat.not_lt_zero j))
theorem pd_backs {M : xa_M} {c : Nat} {r : Nat → Int32} {g : Nat → Nat → Int32} (hB : xb_M M c r g) : ∃ z, xa_E 133 0 (xa_ent [.ref c]) [] M z ∧ z.1 = none ∧ ∃ h, xn c M r (xb_u g 2 h) z.2 ∧ ∀ k, k < 31 → h k = g 6 k := by
  refine xa_ge1 (fun lv h0 => ?_)
  have loop : ∀ (k i : Nat) (lv : xa_L) (M1 : xa_M) (h : Nat → Int32), lv 0 = some (.ref c) → lv 1 = some (.int (nI i)) → i + k = 31 → xn c M r (xb_u g 2 h) M1 → (∀ j, j < i → h j = g 6 j) → ∃ z, xa_E 133 2 lv [] M1 z ∧ z.1 = none ∧ ∃ h, xn c M r (xb_u g 2 h) z.2 ∧ ∀ k, k < 31 → h k = g 6 k := by
    intro k
    induction k with
    | zero =>
      intro i lv M1 h h0 h1 e hn ho
      have e : i = 31 := by omega
      subst e
      simp (disch := omega) only [↓ra_133_2, ↓ra_133_3, ↓ra_133_5, ↓ra_133_26, xa_kli, xa_klr, xa_kll, xa_ki, xa_kl, xa_kr, xa_kii, xa_kk, xa_kir, xa_krr, xa_kiir, xa_krir, xa_kdup, xa_kdup2, xa_kcp, xa_gf, xa_pf, xa_ga, xa_pa, xa_gq, xa_pq, xa_gl, xa_args, xa_ri, xa_rz, xa_rv, xa_s1, xa_s2, xa_c1, eq_self, List.getElem?_cons_succ, List.getElem?_cons_zero, true_and, and_true, nI_add, pk_mul, xt_in, xt_cl, xt_i0, xt_i1, xa_kc, xa_w8, xa_fit, lg_sl, List.flatMap_cons, List.flatMap_nil, List.map_cons, List.map_nil, List.sum_cons, List.sum_nil, Value.category, List.length_cons, List.length_nil, List.length_append, xa_rc, xa_rf, exists_eq_left, exists_eq', Option.some.injEq, Sum.inr.injEq, Prod.mk.injEq, Option.toList_some, Option.toList_none, List.cons_append, List.nil_append, Nat.reduceAdd, Nat.reduceLeDiff, Nat.reduceLT, List.set_cons_zero, List.set_cons_succ, eq_self, or_true, true_or, reduceIte, xt_ne, h0, h1, xt_le, Nat.le_refl]
      exact ⟨h, hn, ho⟩
    | succ k ih =>
      intro i lv M1 h h0 h1 e hn ho
      obtain ⟨m0, m1, m2, m3, m4, m5, m6, -⟩ := hn.2
      unfold xb_c at m0
      rw [xb_ue] at m2
      rw [xb_un _ _ _ _ (by omega)] at m6
      simp (disch := omega) only [↓ra_133_2, ↓ra_133_3, ↓ra_133_5, xa_kli, xa_klr, xa_kll, xa_ki, xa_kl, xa_kr, xa_kii, xa_kk, xa_kir, xa_krr, xa_kiir, xa_krir, xa_kdup, xa_kdup2, xa_kcp, xa_gf, xa_pf, xa_ga, xa_pa, xa_gq, xa_pq, xa_gl, xa_args, xa_ri, xa_rz, xa_rv, xa_s1, xa_s2, xa_c1, eq_self, List.getElem?_cons_succ, List.getElem?_cons_zero, true_and, and_true, nI_add, pk_mul, xt_in, xt_cl, xt_i0, xt_i1, xa_kc, xa_w8, xa_fit, lg_sl, List.flatMap_cons, List.flatMap_nil, List.map_cons, List.map_nil, List.sum_cons, List.sum_nil, Value.category, List.length_cons, List.length_nil, List.length_append, xa_rc, xa_rf, exists_eq_left, exists_eq', Option.some.injEq, Sum.inr.injEq, Prod.mk.injEq, Option.toList_some, Option.toList_none, List.cons_append, List.nil_append, Nat.reduceAdd, Nat.reduceLeDiff, Nat.reduceLT, List.set_cons_zero, List.set_cons_succ, eq_self, or_true, true_or, reduceIte, xt_ne, h0, h1, xt_le]
      simp only [if_neg (show ¬ 31 ≤ i by omega)]
      simp (disch := omega) only [↓ra_133_8, ↓ra_133_9, ↓ra_133_12, ↓ra_133_13, ↓ra_133_14, ↓ra_133_17, ↓ra_133_18, ↓ra_133_19, ↓ra_133_20, ↓ra_133_23, xa_kli, xa_klr, xa_kll, xa_ki, xa_kl, xa_kr, xa_kii, xa_kk, xa_kir, xa_krr, xa_kiir, xa_krir, xa_kdup, xa_kdup2, xa_kcp, xa_gf, xa_pf, xa_ga, xa_pa, xa_gq, xa_pq, xa_gl, xa_args, xa_ri, xa_rz, xa_rv, xa_s1, xa_s2, xa_c1, eq_self, List.getElem?_cons_succ, List.getElem?_cons_zero, true_and, and_true, nI_add, pk_mul, xt_in, xt_cl, xt_i0, xt_i1, xa_kc, xa_w8, xa_fit, lg_sl, List.flatMap_cons, List.flatMap_nil, List.map_cons, List.map_nil, List.sum_cons, List.sum_nil, Value.category, List.length_cons, List.length_nil, List.length_append, xa_rc, xa_rf, exists_eq_left, exists_eq', Option.some.injEq, Sum.inr.injEq, Prod.mk.injEq, Option.toList_some, Option.toList_none, List.cons_append, List.nil_append, Nat.reduceAdd, Nat.reduceLeDiff, Nat.reduceLT, List.set_cons_zero, List.set_cons_succ, eq_self, or_true, true_or, reduceIte, xt_ne, h0, h1, m0, m2, m6]
      refine ih (i + 1) _ _ (upd h i (g 6 i)) (by simp [xa_s1, xa_c1, h0]) (by simp [xa_s1, xa_c1]) (by omega) (xn_s2' _ hn) (fun j hj => ?_)
      rw [xt_us]
      by_cases e : j = i
      · rw [if_pos e, e]
      · rw [if_neg e]; exact ho j (by omega)
  simp (disch := omega) only [↓ra_133_0, ↓ra_133_1, xa_kli, xa_klr, xa_kll, xa_ki, xa_kl, xa_kr, xa_kii, xa_kk, xa_kir, xa_krr, xa_kiir, xa_krir, xa_kdup, xa_kdup2, xa_kcp, xa_gf, xa_pf, xa_ga, xa_pa, xa_gq, xa_pq, xa_gl, xa_args, xa_ri, xa_rz, xa_rv, xa_s1, xa_s2, xa_c1, eq_self, List.getElem?_cons_succ, List.getElem?_cons_zero, true_and, and_true, nI_add, pk_mul, xt_in, xt_cl, xt_i0, xt_i1, xa_kc, xa_w8, xa_fit, lg_sl, List.flatMap_cons, List.flatMap_nil, List.map_cons, List.map_nil, List.sum_cons, List.sum_nil, Value.category, List.length_cons, List.length_nil, List.length_append, xa_rc, xa_rf, exists_eq_left, exists_eq', Option.some.injEq, Sum.inr.injEq, Prod.mk.injEq, Option.toList_some, Option.toList_none, List.cons_append, List.nil_append, Nat.reduceAdd, Nat.reduceLeDiff, Nat.reduceLT, List.set_cons_zero, List.set_cons_succ, eq_self, or_true, true_or, reduceIte, xt_ne]
  exact loop 31 0 _ M (g 2) (by simp [xa_s1, xa_c1, h0]) (by simp [xa_s1, xa_c1]) (by omega) (by rw [xb_ui]; exact xn_r hB) (fun j hj => absurd hj (Nat.not_lt_zero j))
