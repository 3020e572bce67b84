def xt_d (e : Nat) : Int32 := if e = 0 then Int32.ofInt (-1) else nI (e - 1)
theorem xt_dec (e : Nat) : nI e + xa_cst (-1) = xt_d e := by
  unfold xt_d
  by_cases h : e = 0
  · subst h; decide
  · rw [if_neg h]
    obtain ⟨k, rfl⟩ : ∃ k, e = k + 1 := ⟨e - 1, by omega⟩
    rw [← nI_add, Nat.add_sub_cancel, Int32.add_assoc, show nI 1 + xa_cst (-1) = 0 by decide, Int32.add_zero]
/-- found where and when, from the posts P -/
def xq_F (T : xt_T) (P : Nat → Nat) (s d q : Nat) : Bool := xq_f T (xq_pd T d P) (xtl T s) s q
def xq_sp (T : xt_T) (S : xt_S) (s : Nat) : Nat := if xtk T s = 3 ∧ xsm S s = 0 then 1 else 0
theorem pc_look {M : xa_M} {w k t : Nat} {S : xt_S} {T : xt_T} (hW : xh_W0 M w) (hS : xh_S M k (xnS T) (xnM T) S) (hT : xh_T M t T) (ht : t + 9 ≤ k ∨ k + 6 ≤ t) (hw : w + 5 ≤ k ∨ k + 6 ≤ w) (hwt : w + 5 ≤ t ∨ t + 9 ≤ w) (iT : xi_T T) (iP : xi_P T (xsp S)) (hN : xN T ≤ 60) (s : Nat) (hs : s < xnS T) (hst : xss S s < xN T) (hm : xsm S s ≤ 2) :
    ∃ z, xa_E 44 0 (xa_ent [.ref w, .ref t, .ref k, .int (nI s)]) [] M z ∧ z.1 = none ∧ xa_f2 w (w + 5) k (k + 6) M z.2 ∧ xh_W z.2 w (xN T - xss S s) (xq_sp T S s) (xC T) (xq_F T (xsp S) s) (xN T - xss S s) 0 ∧ xh_S z.2 k (xnS T) (xnM T) (xsd S, xsh S, xsq S, xss S, xsm S, xq_pd T (xN T - xss S s) (xsp S)) := by
  obtain ⟨⟨b1, b2, b3, b4, b5, b6, b7, b8⟩, bs, bm, bw⟩ := id iT
  refine xa_ge4 (fun lv h0 h1 h2 h3 => ?_)
  generalize hL : xN T - xss S s = L
  have L1 : 1 ≤ L ∧ L ≤ 60 := by omega
  -- from the last day back
  have back : ∀ (e : Nat) (lv : xa_L) (M1 : xa_M), lv 0 = some (.ref w) → lv 1 = some (.ref t) → lv 5 = some (.int (xt_d e)) → e ≤ L → xa_f2 w (w + 5) k (k + 6) M M1 → xh_W M1 w L (xq_sp T S s) (xC T) (xq_F T (xsp S) s) L e → xh_S M1 k (xnS T) (xnM T) (xsd S, xsh S, xsq S, xss S, xsm S, xq_pd T L (xsp S)) → xh_T M1 t T → ∃ z, xa_E 44 133 lv [] M1 z ∧ z.1 = none ∧ xa_f2 w (w + 5) k (k + 6) M z.2 ∧ xh_W z.2 w L (xq_sp T S s) (xC T) (xq_F T (xsp S) s) L 0 ∧ xh_S z.2 k (xnS T) (xnM T) (xsd S, xsh S, xsq S, xss S, xsm S, xq_pd T L (xsp S)) := by
    intro e
    induction e with
    | zero =>
      intro lv M1 h0 h1 h5 he fr hW1 hS1 hT1
      have hd : xt_d 0 < nI 0 := by decide
      simp (disch := omega) only [↓ra_44_133, ↓ra_44_135, ↓ra_44_239, xa_kli, xa_klr, xa_kll, xa_ki, xa_kl, xa_kr, xa_kii, xa_kk, xa_kir, xa_krr, xa_kiir, xa_krir, xa_kdup, xa_kdup2, xa_kcp, xa_gf, xa_pf, xa_ga, xa_pa, xa_gq, xa_pq, xa_gl, xa_args, xa_ri, xa_rz, xa_rv, xa_s1, xa_s2, xa_c1, eq_self, List.getElem?_cons_succ, List.getElem?_cons_zero, true_and, and_true, nI_add, pk_mul, xt_in, xt_cl, xt_i0, xt_i1, xa_kc, xa_w8, xa_fit, lg_sl, List.flatMap_cons, List.flatMap_nil, List.map_cons, List.map_nil, List.sum_cons, List.sum_nil, Value.category, List.length_cons, List.length_nil, List.length_append, xa_rc, xa_rf, exists_eq_left, exists_eq', Option.some.injEq, Sum.inr.injEq, Prod.mk.injEq, Option.toList_some, Option.toList_none, List.cons_append, List.nil_append, Nat.reduceAdd, Nat.reduceLeDiff, Nat.reduceLT, List.set_cons_zero, List.set_cons_succ, eq_self, or_true, true_or, reduceIte, xt_ne, h0, h1, h5, if_pos hd]
      exact ⟨fr, hW1, hS1⟩
    | succ d ih =>
      intro lv M1 h0 h1 h5 he fr hW1 hS1 hT1
      have h5 : lv 5 = some (.int (nI d)) := h5
      obtain ⟨g0, g1, g, w0, ⟨f, w1, wf⟩, w2, q0, q1, w3, w4, wg⟩ := hW1
      have fd := wf d (by omega)
      have gd := wg (d + 1) (by omega) (by omega)
      have fr1 : xt_bs (xq_F T (xsp S) s d) (xC T) < 64 := xt_bs_64 _ _ b4
      have l0 : xt_bs (xq_can (xC T) (xq_F T (xsp S) s) (L - (d + 1)) (d + 1) 0) (xC T) < 64 := xt_bs_64 _ _ b4
      have l1 : xt_bs (xq_can (xC T) (xq_F T (xsp S) s) (L - (d + 1)) (d + 1) 1) (xC T) < 64 := xt_bs_64 _ _ b4
      have cE1 := xa_iff (pc_bitsReaching w0 hT1 b3 b4 _ l0)
      have lr : xt_bs (xq_reach (xC T) (xt_bs (xq_can (xC T) (xq_F T (xsp S) s) (L - (d + 1)) (d + 1) 0) (xC T)).testBit) (xC T) < 64 := xt_bs_64 _ _ b4
      have lr1 : xt_bs (xq_reach (xC T) (xt_bs (xq_can (xC T) (xq_F T (xsp S) s) (L - (d + 1)) (d + 1) 1) (xC T)).testBit) (xC T) < 64 := xt_bs_64 _ _ b4
      have ea := (xt_andn _ lr _ fr1).trans (congrArg nI (xq_can0 (F := xq_F T (xsp S) s) b4 (L - (d + 1)) d))
      have t0 := hT1.1
      simp (disch := omega) only [↓ra_44_133, ↓ra_44_135, xa_kli, xa_klr, xa_kll, xa_ki, xa_kl, xa_kr, xa_kii, xa_kk, xa_kir, xa_krr, xa_kiir, xa_krir, xa_kdup, xa_kdup2, xa_kcp, xa_gf, xa_pf, xa_ga, xa_pa, xa_gq, xa_pq, xa_gl, xa_args, xa_ri, xa_rz, xa_rv, xa_s1, xa_s2, xa_c1, eq_self, List.getElem?_cons_succ, List.getElem?_cons_zero, true_and, and_true, nI_add, pk_mul, xt_in, xt_cl, xt_i0, xt_i1, xa_kc, xa_w8, xa_fit, lg_sl, List.flatMap_cons, List.flatMap_nil, List.map_cons, List.map_nil, List.sum_cons, List.sum_nil, Value.category, List.length_cons, List.length_nil, List.length_append, xa_rc, xa_rf, exists_eq_left, exists_eq', Option.some.injEq, Sum.inr.injEq, Prod.mk.injEq, Option.toList_some, Option.toList_none, List.cons_append, List.nil_append, Nat.reduceAdd, Nat.reduceLeDiff, Nat.reduceLT, List.set_cons_zero, List.set_cons_succ, eq_self, or_true, true_or, reduceIte, xt_ne, h0, h1, h5, xt_lt]
      simp only [if_neg (show ¬ d < 0 by omega)]
      simp (disch := omega) only [↓ra_44_138, ↓ra_44_139, ↓ra_44_142, ↓ra_44_143, ↓ra_44_144, ↓ra_44_146, ↓ra_44_147, ↓ra_44_148, ↓ra_44_149, ↓ra_44_152, ↓ra_44_153, ↓ra_44_154, ↓ra_44_156, ↓ra_44_157, ↓ra_44_158, ↓ra_44_159, ↓ra_44_162, ↓ra_44_163, ↓ra_44_166, ↓ra_44_168, ↓ra_44_169, ↓ra_44_170, ↓ra_44_171, ↓ra_44_172, xa_kli, xa_klr, xa_kll, xa_ki, xa_kl, xa_kr, xa_kii, xa_kk, xa_kir, xa_krr, xa_kiir, xa_krir, xa_kdup, xa_kdup2, xa_kcp, xa_gf, xa_pf, xa_ga, xa_pa, xa_gq, xa_pq, xa_gl, xa_args, xa_ri, xa_rz, xa_rv, xa_s1, xa_s2, xa_c1, eq_self, List.getElem?_cons_succ, List.getElem?_cons_zero, true_and, and_true, nI_add, pk_mul, xt_in, xt_cl, xt_i0, xt_i1, xa_kc, xa_w8, xa_fit, lg_sl, List.flatMap_cons, List.flatMap_nil, List.map_cons, List.map_nil, List.sum_cons, List.sum_nil, Value.category, List.length_cons, List.length_nil, List.length_append, xa_rc, xa_rf, exists_eq_left, exists_eq', Option.some.injEq, Sum.inr.injEq, Prod.mk.injEq, Option.toList_some, Option.toList_none, List.cons_append, List.nil_append, Nat.reduceAdd, Nat.reduceLeDiff, Nat.reduceLT, List.set_cons_zero, List.set_cons_succ, eq_self, or_true, true_or, reduceIte, xt_ne, h0, h1, h5, w0, w1, w2, q0, q1, w3, w4, gd.1, fd, t0, cE1, mx_46, ea]
      generalize hM2 : xa_st M1 (w + 3) _ = M2
      have f2 : xa_fr (w + 3) (w + 4) M1 M2 := by rw [← hM2]; exact xa_fr_st (by omega) (by omega)
      have hT2 := xh_T_fr hT1 f2 (by omega)
      have hS2 := xh_S_fr hS1 f2 (by omega)
      have v0 := (f2.1 w (by omega)).trans w0
      have v1 := (f2.1 (w + 1) (by omega)).trans w1
      have v2 := (f2.1 (w + 2) (by omega)).trans w2
      have v4 := (f2.1 (w + 4) (by omega)).trans w4
      have v3 : M2.1 (w + 3) = some (.inl (0, 61, .inl (upd g0 d (nI (xt_bs (xq_can (xC T) (xq_F T (xsp S) s) (L - (d + 1) + 1) d 0) (xC T)))))) := by rw [← hM2]; exact xa_st_eq
      have u0 := hT2.1
      have cE2 := xa_iff (pc_bitsReaching v0 hT2 b3 b4 _ l1)
      have cE3 := xa_iff (pc_bitsReaching v0 hT2 b3 b4 _ l0)
      have ud : upd g0 d (nI (xt_bs (xq_can (xC T) (xq_F T (xsp S) s) (L - (d + 1) + 1) d 0) (xC T))) (d + 1) = nI (xt_bs (xq_can (xC T) (xq_F T (xsp S) s) (L - (d + 1)) (d + 1) 0) (xC T)) := by rw [xt_us, if_neg (by omega)]; exact gd.1
      have eb : (nI (xt_bs (xq_reach (xC T) (xt_bs (xq_can (xC T) (xq_F T (xsp S) s) (L - (d + 1)) (d + 1) 1) (xC T)).testBit) (xC T)) &&& (nI (xt_bs (xq_F T (xsp S) s d) (xC T)) ^^^ Int32.ofInt (-1))) ||| (nI (xt_bs (xq_reach (xC T) (xt_bs (xq_can (xC T) (xq_F T (xsp S) s) (L - (d + 1)) (d + 1) 0) (xC T)).testBit) (xC T)) &&& nI (xt_bs (xq_F T (xsp S) s d) (xC T))) = nI (xt_bs (xq_can (xC T) (xq_F T (xsp S) s) (L - (d + 1) + 1) d 1) (xC T)) := by
        rw [xt_andn _ lr1 _ fr1, xt_and, xt_or]
        exact congrArg nI (xq_can1 b4 _ _)
      simp (disch := omega) only [↓ra_44_173, ↓ra_44_174, ↓ra_44_177, ↓ra_44_178, ↓ra_44_179, ↓ra_44_181, ↓ra_44_182, ↓ra_44_183, ↓ra_44_184, ↓ra_44_187, ↓ra_44_188, ↓ra_44_189, ↓ra_44_191, ↓ra_44_192, ↓ra_44_193, ↓ra_44_194, ↓ra_44_197, ↓ra_44_198, ↓ra_44_201, ↓ra_44_203, ↓ra_44_204, ↓ra_44_205, ↓ra_44_206, ↓ra_44_207, ↓ra_44_208, ↓ra_44_209, ↓ra_44_210, ↓ra_44_213, ↓ra_44_214, ↓ra_44_215, ↓ra_44_217, ↓ra_44_218, ↓ra_44_219, ↓ra_44_220, ↓ra_44_223, ↓ra_44_224, ↓ra_44_227, ↓ra_44_229, ↓ra_44_230, ↓ra_44_231, ↓ra_44_232, ↓ra_44_233, ↓ra_44_236, xa_kli, xa_klr, xa_kll, xa_ki, xa_kl, xa_kr, xa_kii, xa_kk, xa_kir, xa_krr, xa_kiir, xa_krir, xa_kdup, xa_kdup2, xa_kcp, xa_gf, xa_pf, xa_ga, xa_pa, xa_gq, xa_pq, xa_gl, xa_args, xa_ri, xa_rz, xa_rv, xa_s1, xa_s2, xa_c1, eq_self, List.getElem?_cons_succ, List.getElem?_cons_zero, true_and, and_true, nI_add, pk_mul, xt_in, xt_cl, xt_i0, xt_i1, xa_kc, xa_w8, xa_fit, lg_sl, List.flatMap_cons, List.flatMap_nil, List.map_cons, List.map_nil, List.sum_cons, List.sum_nil, Value.category, List.length_cons, List.length_nil, List.length_append, xa_rc, xa_rf, exists_eq_left, exists_eq', Option.some.injEq, Sum.inr.injEq, Prod.mk.injEq, Option.toList_some, Option.toList_none, List.cons_append, List.nil_append, Nat.reduceAdd, Nat.reduceLeDiff, Nat.reduceLT, List.set_cons_zero, List.set_cons_succ, eq_self, or_true, true_or, reduceIte, xt_ne, h0, h1, h5, v0, v1, v2, q0, q1, v3, v4, gd.2, ud, fd, u0, cE2, cE3, mx_46, eb, xt_dec]
      have f3 : ∀ c, xa_fr (w + 4) (w + 5) M2 (xa_st M2 (w + 4) c) := fun c => xa_fr_st (by omega) (by omega)
      refine ih _ _ (by simp [xa_s1, xa_c1, h0]) (by simp [xa_s1, xa_c1, h1]) (by simp [xa_s1, xa_c1]) (by omega) (xa_f2_1 (xa_f2_1 fr (xa_fr_w f2 (by omega) (by omega))) (xa_fr_w (f3 _) (by omega) (by omega))) ⟨_, _, g, (xa_st_ne (by omega)).trans v0, xa_ar_fr (xa_ar_fr ⟨f, w1, wf⟩ f2 (by omega)) (f3 _) (by omega), (xa_st_ne (by omega)).trans v2, q0, q1, (xa_st_ne (by omega)).trans v3, xa_st_eq, fun j h1 h2 => ?_⟩ (xh_S_fr hS2 (f3 _) (by omega)) (xh_T_fr hT2 (f3 _) (by omega))
      rw [xt_us, xt_us]
      by_cases e : j = d
      · subst e
        rw [if_pos rfl, if_pos rfl, show L - j = L - (j + 1) + 1 by omega]
        exact ⟨rfl, rfl⟩
      · rw [if_neg e, if_neg e]
        exact wg j (by omega) h2
  -- day by day, where he would be found
  have loop : ∀ (n d : Nat) (lv : xa_L) (M1 : xa_M), lv 0 = some (.ref w) → lv 1 = some (.ref t) → lv 2 = some (.ref k) → lv 3 = some (.int (nI s)) → lv 4 = some (.int (nI d)) → d + n = L → xa_f2 w (w + 5) k (k + 6) M M1 → xh_W M1 w L (xq_sp T S s) (xC T) (xq_F T (xsp S) s) d (L + 1) → xh_S M1 k (xnS T) (xnM T) (xsd S, xsh S, xsq S, xss S, xsm S, xq_pd T d (xsp S)) → xh_T M1 t T → ∃ z, xa_E 44 55 lv [] M1 z ∧ z.1 = none ∧ xa_f2 w (w + 5) k (k + 6) M z.2 ∧ xh_W z.2 w L (xq_sp T S s) (xC T) (xq_F T (xsp S) s) L 0 ∧ xh_S z.2 k (xnS T) (xnM T) (xsd S, xsh S, xsq S, xss S, xsm S, xq_pd T L (xsp S)) := by
    intro n
    induction n with
    | zero =>
      intro d lv M1 h0 h1 h2 h3 h4 e fr hW1 hS1 hT1
      have e : d = L := by omega
      subst e
      obtain ⟨g0, g1, g, w0, ⟨f, w1, wf⟩, w2, q0, q1, w3, w4, wg⟩ := hW1
      have t0 := hT1.1
      have eb := xt_bit (xC T) (by omega)
      have ea : nI (2 ^ xC T) - nI 1 = nI (xt_bs (fun _ => true) (xC T)) := by rw [xt_sub _ _ (Nat.one_le_two_pow), xt_bs_all]
      simp (disch := omega) only [↓ra_44_55, ↓ra_44_57, ↓ra_44_58, ↓ra_44_61, xa_kli, xa_klr, xa_kll, xa_ki, xa_kl, xa_kr, xa_kii, xa_kk, xa_kir, xa_krr, xa_kiir, xa_krir, xa_kdup, xa_kdup2, xa_kcp, xa_gf, xa_pf, xa_ga, xa_pa, xa_gq, xa_pq, xa_gl, xa_args, xa_ri, xa_rz, xa_rv, xa_s1, xa_s2, xa_c1, eq_self, List.getElem?_cons_succ, List.getElem?_cons_zero, true_and, and_true, nI_add, pk_mul, xt_in, xt_cl, xt_i0, xt_i1, xa_kc, xa_w8, xa_fit, lg_sl, List.flatMap_cons, List.flatMap_nil, List.map_cons, List.map_nil, List.sum_cons, List.sum_nil, Value.category, List.length_cons, List.length_nil, List.length_append, xa_rc, xa_rf, exists_eq_left, exists_eq', Option.some.injEq, Sum.inr.injEq, Prod.mk.injEq, Option.toList_some, Option.toList_none, List.cons_append, List.nil_append, Nat.reduceAdd, Nat.reduceLeDiff, Nat.reduceLT, List.set_cons_zero, List.set_cons_succ, eq_self, or_true, true_or, reduceIte, xt_ne, h0, h1, h2, h3, h4, w0, xt_le, Nat.le_refl]
      simp (disch := omega) only [↓ra_44_89, ↓ra_44_90, ↓ra_44_91, ↓ra_44_94, ↓ra_44_95, ↓ra_44_96, ↓ra_44_97, ↓ra_44_99, ↓ra_44_100, ↓ra_44_103, ↓ra_44_104, ↓ra_44_105, ↓ra_44_106, ↓ra_44_109, ↓ra_44_111, ↓ra_44_112, ↓ra_44_113, ↓ra_44_116, ↓ra_44_117, ↓ra_44_118, ↓ra_44_119, ↓ra_44_122, ↓ra_44_124, ↓ra_44_125, ↓ra_44_126, ↓ra_44_129, ↓ra_44_130, ↓ra_44_131, xa_kli, xa_klr, xa_kll, xa_ki, xa_kl, xa_kr, xa_kii, xa_kk, xa_kir, xa_krr, xa_kiir, xa_krir, xa_kdup, xa_kdup2, xa_kcp, xa_gf, xa_pf, xa_ga, xa_pa, xa_gq, xa_pq, xa_gl, xa_args, xa_ri, xa_rz, xa_rv, xa_s1, xa_s2, xa_c1, eq_self, List.getElem?_cons_succ, List.getElem?_cons_zero, true_and, and_true, nI_add, pk_mul, xt_in, xt_cl, xt_i0, xt_i1, xa_kc, xa_w8, xa_fit, lg_sl, List.flatMap_cons, List.flatMap_nil, List.map_cons, List.map_nil, List.sum_cons, List.sum_nil, Value.category, List.length_cons, List.length_nil, List.length_append, xa_rc, xa_rf, exists_eq_left, exists_eq', Option.some.injEq, Sum.inr.injEq, Prod.mk.injEq, Option.toList_some, Option.toList_none, List.cons_append, List.nil_append, Nat.reduceAdd, Nat.reduceLeDiff, Nat.reduceLT, List.set_cons_zero, List.set_cons_succ, eq_self, or_true, true_or, reduceIte, xt_ne, h0, h1, h2, h3, h4, w0, w2, q0, q1, w3, w4, t0, eb, ea, xt_st, xt_sub]
      have f2 : ∀ c, xa_fr (w + 3) (w + 5) M1 (xa_st M1 (w + 3) c) := fun c => xa_fr_st (by omega) (by omega)
      have f3 : ∀ M2 c, xa_fr (w + 3) (w + 5) M2 (xa_st M2 (w + 4) c) := fun M2 c => xa_fr_st (by omega) (by omega)
      refine back d _ _ (by simp [xa_s1, xa_c1, h0]) (by simp [xa_s1, xa_c1, h1]) (by simp [xa_s1, xa_c1, xt_d, show ¬ d = 0 by omega]) (Nat.le_refl _) (xa_f2_1 fr (xa_fr_w (xa_fr_tr (f2 _) (f3 _ _)) (by omega) (by omega))) ⟨_, _, g, (xa_st_ne (by omega)).trans ((xa_st_ne (by omega)).trans w0), xa_ar_fr ⟨f, w1, wf⟩ (xa_fr_tr (f2 _) (f3 _ _)) (by omega), (xa_st_ne (by omega)).trans ((xa_st_ne (by omega)).trans w2), q0, q1, (xa_st_ne (by omega)).trans xa_st_eq, xa_st_eq, fun j h1 h2 => ?_⟩ (xh_S_fr hS1 (xa_fr_tr (f2 _) (f3 _ _)) (by omega)) (xh_T_fr hT1 (xa_fr_tr (f2 _) (f3 _ _)) (by omega))
      have e : j = d := by omega
      subst e
      rw [xt_us, xt_us, if_pos rfl, if_pos rfl, Nat.sub_self]
      exact ⟨rfl, rfl⟩
    | succ n ih =>
      intro d lv M1 h0 h1 h2 h3 h4 e fr hW1 hS1 hT1
      have iPd := xi_pd b3 iP d
      have cb := xa_iff (pc_bitsFound (w := w) hS1 hT1 iT iPd s hs)
      obtain ⟨g0, g1, g, w0, ⟨f, w1, wf⟩, w2, q0, q1, w3, w4, wg⟩ := hW1
      have t0 := hT1.1
      have s0 := hS1.1
      simp (disch := omega) only [↓ra_44_55, ↓ra_44_57, ↓ra_44_58, ↓ra_44_61, xa_kli, xa_klr, xa_kll, xa_ki, xa_kl, xa_kr, xa_kii, xa_kk, xa_kir, xa_krr, xa_kiir, xa_krir, xa_kdup, xa_kdup2, xa_kcp, xa_gf, xa_pf, xa_ga, xa_pa, xa_gq, xa_pq, xa_gl, xa_args, xa_ri, xa_rz, xa_rv, xa_s1, xa_s2, xa_c1, eq_self, List.getElem?_cons_succ, List.getElem?_cons_zero, true_and, and_true, nI_add, pk_mul, xt_in, xt_cl, xt_i0, xt_i1, xa_kc, xa_w8, xa_fit, lg_sl, List.flatMap_cons, List.flatMap_nil, List.map_cons, List.map_nil, List.sum_cons, List.sum_nil, Value.category, List.length_cons, List.length_nil, List.length_append, xa_rc, xa_rf, exists_eq_left, exists_eq', Option.some.injEq, Sum.inr.injEq, Prod.mk.injEq, Option.toList_some, Option.toList_none, List.cons_append, List.nil_append, Nat.reduceAdd, Nat.reduceLeDiff, Nat.reduceLT, List.set_cons_zero, List.set_cons_succ, eq_self, or_true, true_or, reduceIte, xt_ne, h0, h1, h2, h3, h4, w0, xt_le]
      simp only [if_neg (show ¬ L ≤ d by omega)]
      simp (disch := omega) only [↓ra_44_64, ↓ra_44_65, ↓ra_44_68, ↓ra_44_70, ↓ra_44_71, ↓ra_44_72, ↓ra_44_73, ↓ra_44_74, ↓ra_44_77, xa_kli, xa_klr, xa_kll, xa_ki, xa_kl, xa_kr, xa_kii, xa_kk, xa_kir, xa_krr, xa_kiir, xa_krir, xa_kdup, xa_kdup2, xa_kcp, xa_gf, xa_pf, xa_ga, xa_pa, xa_gq, xa_pq, xa_gl, xa_args, xa_ri, xa_rz, xa_rv, xa_s1, xa_s2, xa_c1, eq_self, List.getElem?_cons_succ, List.getElem?_cons_zero, true_and, and_true, nI_add, pk_mul, xt_in, xt_cl, xt_i0, xt_i1, xa_kc, xa_w8, xa_fit, lg_sl, List.flatMap_cons, List.flatMap_nil, List.map_cons, List.map_nil, List.sum_cons, List.sum_nil, Value.category, List.length_cons, List.length_nil, List.length_append, xa_rc, xa_rf, exists_eq_left, exists_eq', Option.some.injEq, Sum.inr.injEq, Prod.mk.injEq, Option.toList_some, Option.toList_none, List.cons_append, List.nil_append, Nat.reduceAdd, Nat.reduceLeDiff, Nat.reduceLT, List.set_cons_zero, List.set_cons_succ, eq_self, or_true, true_or, reduceIte, xt_ne, h0, h1, h2, h3, h4, w0, w1, t0, s0, cb, mx_45]
      generalize hM2 : xa_st M1 (w + 1) _ = M2
      have f2 : xa_fr (w + 1) (w + 2) M1 M2 := by rw [← hM2]; exact xa_fr_st (by omega) (by omega)
      have hT2 := xh_T_fr hT1 f2 (by omega)
      have hS2 := xh_S_fr hS1 f2 (by omega)
      have v1 : xa_ar M2 (w + 1) 60 (d + 1) (fun d => xt_bs (xq_F T (xsp S) s d) (xC T)) := by
        rw [← hM2]
        refine xa_ar_cg (xa_ar_ps wf) (fun j hj => ?_)
        by_cases e : j = d
        · subst e; rw [if_pos rfl]; rfl
        · rw [if_neg e]
      obtain ⟨⟨z1, M3⟩, cE, c1, c2, c3⟩ := pc_menGoOn hS2 hT2 ht iT iPd
      have c1 : z1 = none := c1
      subst c1
      dsimp only at c2 c3
      have u0 := hT2.1
      have u1 := hS2.1
      simp (disch := omega) only [↓ra_44_78, ↓ra_44_79, ↓ra_44_80, ↓ra_44_83, ↓ra_44_86, xa_kli, xa_klr, xa_kll, xa_ki, xa_kl, xa_kr, xa_kii, xa_kk, xa_kir, xa_krr, xa_kiir, xa_krir, xa_kdup, xa_kdup2, xa_kcp, xa_gf, xa_pf, xa_ga, xa_pa, xa_gq, xa_pq, xa_gl, xa_args, xa_ri, xa_rz, xa_rv, xa_s1, xa_s2, xa_c1, eq_self, List.getElem?_cons_succ, List.getElem?_cons_zero, true_and, and_true, nI_add, pk_mul, xt_in, xt_cl, xt_i0, xt_i1, xa_kc, xa_w8, xa_fit, lg_sl, List.flatMap_cons, List.flatMap_nil, List.map_cons, List.map_nil, List.sum_cons, List.sum_nil, Value.category, List.length_cons, List.length_nil, List.length_append, xa_rc, xa_rf, exists_eq_left, exists_eq', Option.some.injEq, Sum.inr.injEq, Prod.mk.injEq, Option.toList_some, Option.toList_none, List.cons_append, List.nil_append, Nat.reduceAdd, Nat.reduceLeDiff, Nat.reduceLT, List.set_cons_zero, List.set_cons_succ, eq_self, or_true, true_or, reduceIte, xt_ne, h0, h1, h2, h3, h4, u0, u1, xa_iff cE, mx_19]
      exact ih (d + 1) _ _ (by simp [xa_s1, xa_c1, h0]) (by simp [xa_s1, xa_c1, h1]) (by simp [xa_s1, xa_c1, h2]) (by simp [xa_s1, xa_c1, h3]) (by simp [xa_s1, xa_c1, nI_add]) (by omega) (xa_f2_2 (xa_f2_1 fr (xa_fr_w f2 (by omega) (by omega))) c2) (xh_W_fr ⟨g0, g1, g, (f2.1 _ (by omega)).trans w0, v1, (f2.1 _ (by omega)).trans w2, q0, q1, (f2.1 _ (by omega)).trans w3, (f2.1 _ (by omega)).trans w4, fun j h1 h2 => by omega⟩ c2 (by omega)) c3 (xh_T_fr hT2 c2 (by omega))
  obtain ⟨a, b, f, g0, g1, g, w0, w1, w2, q0, q1, w3, w4⟩ := hW
  obtain ⟨t0, ⟨gk, t1, ek⟩, -⟩ := id hT
  obtain ⟨s0, -, -, ⟨gs, s3, es⟩, ⟨gm, s4, em⟩, -⟩ := id hS
  have es := es s hs
  have em := em s hs
  have ek := ek s hs
  have bk := (bs s hs).1
  have e1 : (if nI L < nI 60 then nI L else nI 60) = nI L := by
    simp (disch := omega) only [xt_lt]
    by_cases c : L < 60
    · rw [if_pos c]
    · rw [if_neg c, show L = 60 by omega]
  have e2 : (if nI 0 < nI L then nI L else nI 0) = nI L := by simp (disch := omega) only [xt_lt]; rw [if_pos (by omega)]
  have e0 : nI (xN T) - nI (xss S s) = nI L := by rw [xt_sub _ _ (by omega), hL]
  simp (disch := omega) only [↓ra_44_0, ↓ra_44_1, ↓ra_44_2, ↓ra_44_4, ↓ra_44_5, ↓ra_44_8, ↓ra_44_9, ↓ra_44_12, ↓ra_44_13, ↓ra_44_14, ↓ra_44_15, ↓ra_44_18, ↓ra_44_21, ↓ra_44_24, ↓ra_44_25, ↓ra_44_26, ↓ra_44_29, ↓ra_44_30, ↓ra_44_31, ↓ra_44_32, xa_kli, xa_klr, xa_kll, xa_ki, xa_kl, xa_kr, xa_kii, xa_kk, xa_kir, xa_krr, xa_kiir, xa_krir, xa_kdup, xa_kdup2, xa_kcp, xa_gf, xa_pf, xa_ga, xa_pa, xa_gq, xa_pq, xa_gl, xa_args, xa_ri, xa_rz, xa_rv, xa_s1, xa_s2, xa_c1, eq_self, List.getElem?_cons_succ, List.getElem?_cons_zero, true_and, and_true, nI_add, pk_mul, xt_in, xt_cl, xt_i0, xt_i1, xa_kc, xa_w8, xa_fit, lg_sl, List.flatMap_cons, List.flatMap_nil, List.map_cons, List.map_nil, List.sum_cons, List.sum_nil, Value.category, List.length_cons, List.length_nil, List.length_append, xa_rc, xa_rf, exists_eq_left, exists_eq', Option.some.injEq, Sum.inr.injEq, Prod.mk.injEq, Option.toList_some, Option.toList_none, List.cons_append, List.nil_append, Nat.reduceAdd, Nat.reduceLeDiff, Nat.reduceLT, List.set_cons_zero, List.set_cons_succ, eq_self, or_true, true_or, reduceIte, xt_ne, h0, h1, h2, h3, w0, t0, t1, s0, s3, es, ek, e0, e1, e2, xt_st, xt_eq]
  have fin : ∀ (lv : xa_L) (M1 : xa_M) (sp : Nat), sp = xq_sp T S s → lv 0 = some (.ref w) → lv 1 = some (.ref t) → lv 2 = some (.ref k) → lv 3 = some (.int (nI s)) → M1 = xa_st M w (.inr (5, [.int (nI L), .int b, .ref (w + 1), .ref (w + 2)])) → ∃ z, xa_E 44 49 lv [.int (nI sp), .ref w] M1 z ∧ z.1 = none ∧ xa_f2 w (w + 5) k (k + 6) M z.2 ∧ xh_W z.2 w L (xq_sp T S s) (xC T) (xq_F T (xsp S) s) L 0 ∧ xh_S z.2 k (xnS T) (xnM T) (xsd S, xsh S, xsq S, xss S, xsm S, xq_pd T L (xsp S)) := by
    intro lv M1 sp hsp h0 h1 h2 h3 hM1
    have m0 : M1.1 w = some (.inr (5, [.int (nI L), .int b, .ref (w + 1), .ref (w + 2)])) := by rw [hM1]; exact xa_st_eq
    have f1 : xa_fr w (w + 1) M M1 := by rw [hM1]; exact xa_fr_st (by omega) (by omega)
    simp (disch := omega) only [↓ra_44_49, ↓ra_44_52, ↓ra_44_53, xa_kli, xa_klr, xa_kll, xa_ki, xa_kl, xa_kr, xa_kii, xa_kk, xa_kir, xa_krr, xa_kiir, xa_krir, xa_kdup, xa_kdup2, xa_kcp, xa_gf, xa_pf, xa_ga, xa_pa, xa_gq, xa_pq, xa_gl, xa_args, xa_ri, xa_rz, xa_rv, xa_s1, xa_s2, xa_c1, eq_self, List.getElem?_cons_succ, List.getElem?_cons_zero, true_and, and_true, nI_add, pk_mul, xt_in, xt_cl, xt_i0, xt_i1, xa_kc, xa_w8, xa_fit, lg_sl, List.flatMap_cons, List.flatMap_nil, List.map_cons, List.map_nil, List.sum_cons, List.sum_nil, Value.category, List.length_cons, List.length_nil, List.length_append, xa_rc, xa_rf, exists_eq_left, exists_eq', Option.some.injEq, Sum.inr.injEq, Prod.mk.injEq, Option.toList_some, Option.toList_none, List.cons_append, List.nil_append, Nat.reduceAdd, Nat.reduceLeDiff, Nat.reduceLT, List.set_cons_zero, List.set_cons_succ, eq_self, or_true, true_or, reduceIte, xt_ne, h0, h1, h2, h3, m0]
    have f2 : ∀ c, xa_fr w (w + 1) M (xa_st M1 w c) := fun c => xa_fr_tr f1 (xa_fr_st (by omega) (by omega))
    refine loop L 0 _ _ (by simp [xa_s1, xa_c1, h0]) (by simp [xa_s1, xa_c1, h1]) (by simp [xa_s1, xa_c1, h2]) (by simp [xa_s1, xa_c1, h3]) (by simp [xa_s1, xa_c1]) (by omega) (xa_f2_1 xa_f2_r (xa_fr_w (f2 _) (by omega) (by omega))) ⟨g0, g1, g, by rw [← hsp]; exact xa_st_eq, ⟨f, ((f2 _).1 _ (by omega)).trans w1, fun j hj => absurd hj (Nat.not_lt_zero j)⟩, ((f2 _).1 _ (by omega)).trans w2, q0, q1, ((f2 _).1 _ (by omega)).trans w3, ((f2 _).1 _ (by omega)).trans w4, fun j h1 h2 => by omega⟩ (xh_S_fr hS (f2 _) (by omega)) (xh_T_fr hT (f2 _) (by omega))
  by_cases k3 : xtk T s = 3
  · simp only [if_pos k3]
    simp (disch := omega) only [↓ra_44_35, ↓ra_44_36, ↓ra_44_39, ↓ra_44_40, ↓ra_44_41, xa_kli, xa_klr, xa_kll, xa_ki, xa_kl, xa_kr, xa_kii, xa_kk, xa_kir, xa_krr, xa_kiir, xa_krir, xa_kdup, xa_kdup2, xa_kcp, xa_gf, xa_pf, xa_ga, xa_pa, xa_gq, xa_pq, xa_gl, xa_args, xa_ri, xa_rz, xa_rv, xa_s1, xa_s2, xa_c1, eq_self, List.getElem?_cons_succ, List.getElem?_cons_zero, true_and, and_true, nI_add, pk_mul, xt_in, xt_cl, xt_i0, xt_i1, xa_kc, xa_w8, xa_fit, lg_sl, List.flatMap_cons, List.flatMap_nil, List.map_cons, List.map_nil, List.sum_cons, List.sum_nil, Value.category, List.length_cons, List.length_nil, List.length_append, xa_rc, xa_rf, exists_eq_left, exists_eq', Option.some.injEq, Sum.inr.injEq, Prod.mk.injEq, Option.toList_some, Option.toList_none, List.cons_append, List.nil_append, Nat.reduceAdd, Nat.reduceLeDiff, Nat.reduceLT, List.set_cons_zero, List.set_cons_succ, eq_self, or_true, true_or, reduceIte, xt_ne, h0, h1, h2, h3, s0, s4, em, xt_st, xt_eq]
    by_cases m0 : xsm S s = 0
    · simp only [if_pos m0]
      simp (disch := omega) only [↓ra_44_44, ↓ra_44_45, xa_kli, xa_klr, xa_kll, xa_ki, xa_kl, xa_kr, xa_kii, xa_kk, xa_kir, xa_krr, xa_kiir, xa_krir, xa_kdup, xa_kdup2, xa_kcp, xa_gf, xa_pf, xa_ga, xa_pa, xa_gq, xa_pq, xa_gl, xa_args, xa_ri, xa_rz, xa_rv, xa_s1, xa_s2, xa_c1, eq_self, List.getElem?_cons_succ, List.getElem?_cons_zero, true_and, and_true, nI_add, pk_mul, xt_in, xt_cl, xt_i0, xt_i1, xa_kc, xa_w8, xa_fit, lg_sl, List.flatMap_cons, List.flatMap_nil, List.map_cons, List.map_nil, List.sum_cons, List.sum_nil, Value.category, List.length_cons, List.length_nil, List.length_append, xa_rc, xa_rf, exists_eq_left, exists_eq', Option.some.injEq, Sum.inr.injEq, Prod.mk.injEq, Option.toList_some, Option.toList_none, List.cons_append, List.nil_append, Nat.reduceAdd, Nat.reduceLeDiff, Nat.reduceLT, List.set_cons_zero, List.set_cons_succ, eq_self, or_true, true_or, reduceIte, xt_ne]
      exact fin _ _ 1 (by unfold xq_sp; rw [if_pos ⟨k3, m0⟩]) h0 h1 h2 h3 rfl
    · simp only [if_neg m0]
      simp (disch := omega) only [↓ra_44_48, xa_kli, xa_klr, xa_kll, xa_ki, xa_kl, xa_kr, xa_kii, xa_kk, xa_kir, xa_krr, xa_kiir, xa_krir, xa_kdup, xa_kdup2, xa_kcp, xa_gf, xa_pf, xa_ga, xa_pa, xa_gq, xa_pq, xa_gl, xa_args, xa_ri, xa_rz, xa_rv, xa_s1, xa_s2, xa_c1, eq_self, List.getElem?_cons_succ, List.getElem?_cons_zero, true_and, and_true, nI_add, pk_mul, xt_in, xt_cl, xt_i0, xt_i1, xa_kc, xa_w8, xa_fit, lg_sl, List.flatMap_cons, List.flatMap_nil, List.map_cons, List.map_nil, List.sum_cons, List.sum_nil, Value.category, List.length_cons, List.length_nil, List.length_append, xa_rc, xa_rf, exists_eq_left, exists_eq', Option.some.injEq, Sum.inr.injEq, Prod.mk.injEq, Option.toList_some, Option.toList_none, List.cons_append, List.nil_append, Nat.reduceAdd, Nat.reduceLeDiff, Nat.reduceLT, List.set_cons_zero, List.set_cons_succ, eq_self, or_true, true_or, reduceIte, xt_ne]
      exact fin _ _ 0 (by unfold xq_sp; rw [if_neg (fun h => m0 h.2)]) h0 h1 h2 h3 rfl
  · simp only [if_neg k3]
    simp (disch := omega) only [↓ra_44_48, xa_kli, xa_klr, xa_kll, xa_ki, xa_kl, xa_kr, xa_kii, xa_kk, xa_kir, xa_krr, xa_kiir, xa_krir, xa_kdup, xa_kdup2, xa_kcp, xa_gf, xa_pf, xa_ga, xa_pa, xa_gq, xa_pq, xa_gl, xa_args, xa_ri, xa_rz, xa_rv, xa_s1, xa_s2, xa_c1, eq_self, List.getElem?_cons_succ, List.getElem?_cons_zero, true_and, and_true, nI_add, pk_mul, xt_in, xt_cl, xt_i0, xt_i1, xa_kc, xa_w8, xa_fit, lg_sl, List.flatMap_cons, List.flatMap_nil, List.map_cons, List.map_nil, List.sum_cons, List.sum_nil, Value.category, List.length_cons, List.length_nil, List.length_append, xa_rc, xa_rf, exists_eq_left, exists_eq', Option.some.injEq, Sum.inr.injEq, Prod.mk.injEq, Option.toList_some, Option.toList_none, List.cons_append, List.nil_append, Nat.reduceAdd, Nat.reduceLeDiff, Nat.reduceLT, List.set_cons_zero, List.set_cons_succ, eq_self, or_true, true_or, reduceIte, xt_ne]
    exact fin _ _ 0 (by unfold xq_sp; rw [if_neg (fun h => k3 h.1)]) h0 h1 h2 h3 rfl
