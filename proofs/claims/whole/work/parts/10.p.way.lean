def xt_or2 (a b : Option Nat) : Option Nat := match a with
  | some r => some r
  | none => b
theorem xt_lo_dn {p : Nat → Bool} {e : Nat} {v : Option Nat} : xt_or2 (xt_lo p (e + 1)) v = xt_or2 (xt_lo p e) (if p e = true then some e else v) := by
  rw [xt_lo]
  cases h : xt_lo p e with
  | some r => rfl
  | none =>
    dsimp only
    by_cases c : p e = true
    · rw [if_pos c, if_pos c] <;> rfl
    · rw [if_neg c, if_neg c] <;> rfl
theorem pe_way_n {M : xa_M} {c : Nat} {A : xt_A} (hh : xh_B M c A) (iA : xi_A A) {x y : Int32} (h : ¬ (xt_k x 0 (xnS (yT A)) ∧ xt_k y 1 (60 + 1))) : xa_E 140 0 (xa_ent [.ref c, .int x, .int y]) [] M (some (.int (Int32.ofInt (-1))), M) := by
  obtain ⟨r, g, hB, hw⟩ := id hh
  have hA := xw_A hB hw
  obtain ⟨⟨r2, r3, r5, r6⟩, hV, hS, ⟨hx1, hx2⟩, ⟨hu1, hu2⟩, ⟨hk1, hk2⟩, ⟨hg1, hg2⟩⟩ := id hw
  obtain ⟨iT, i5, i60, i1, ⟨iS, iD⟩, iX, iU, iK, iG⟩ := id iA
  obtain ⟨⟨b1, b2, b3, b4, b5, b6, b7, b8⟩, bs, bm, bw⟩ := id iT
  have ix := iX.1
  have iu := iU.1
  have ik := iK.1
  have ig := iG.1
  obtain ⟨⟨v0, v1, v2, v3, v4, v5⟩, vs, vm, -, vw⟩ := id hV
  obtain ⟨m0, m1, m2, m3, m4, m5, m6, m7, m8, m9⟩ := id hB
  unfold xb_c at m0
  refine xa_go3 (fun lv h0 h1 h2 => ?_)
  by_cases a0 : xt_k x 0 (xnS (yT A))
  · have a1 : ¬ xt_k y 1 (60 + 1) := fun a => h ⟨a0, a⟩
    obtain ⟨k0, -, l0, rfl⟩ := a0
    have c0 := xa_iff (pd_isSerf_y hB hV k0 l0 b6)
    have c1 := xa_iff (pd_in_x (M := M) 1 60 a1 (by omega) (by omega))
    simp (disch := omega) only [↓ra_140_0, ↓ra_140_1, ↓ra_140_2, ↓ra_140_5, ↓ra_140_8, ↓ra_140_9, ↓ra_140_10, ↓ra_140_11, ↓ra_140_14, ↓ra_140_17, ↓ra_140_20, ↓ra_140_21, xa_kli, xa_klr, xa_kll, xa_ki, xa_kl, xa_kr, xa_kii, xa_kk, xa_kir, xa_krr, xa_kiir, xa_krir, xa_kdup, xa_kdup2, xa_kcp, xa_gf, xa_pf, xa_ga, xa_pa, xa_gq, xa_pq, xa_gl, xa_args, xa_ri, xa_rz, xa_rv, xa_s1, xa_s2, xa_c1, eq_self, List.getElem?_cons_succ, List.getElem?_cons_zero, true_and, and_true, nI_add, pk_mul, xt_in, xt_cl, xt_i0, xt_i1, xa_kc, xa_w8, xa_fit, lg_sl, List.flatMap_cons, List.flatMap_nil, List.map_cons, List.map_nil, List.sum_cons, List.sum_nil, Value.category, List.length_cons, List.length_nil, List.length_append, xa_rc, xa_rf, exists_eq_left, exists_eq', Option.some.injEq, Sum.inr.injEq, Prod.mk.injEq, Option.toList_some, Option.toList_none, List.cons_append, List.nil_append, Nat.reduceAdd, Nat.reduceLeDiff, Nat.reduceLT, List.set_cons_zero, List.set_cons_succ, eq_self, or_true, true_or, reduceIte, xt_ne, xt_eq, Nat.reduceEqDiff, Nat.one_ne_zero, if_false, h0, h1, h2, c0, c1, mx_96, mx_97, mx_98, mx_92, m0, nI_l]
  · have c0 := xa_iff (pd_isSerf_n hB hV a0 b6)
    simp (disch := omega) only [↓ra_140_0, ↓ra_140_1, ↓ra_140_2, ↓ra_140_5, ↓ra_140_8, ↓ra_140_9, ↓ra_140_10, ↓ra_140_11, ↓ra_140_14, ↓ra_140_17, ↓ra_140_20, ↓ra_140_21, xa_kli, xa_klr, xa_kll, xa_ki, xa_kl, xa_kr, xa_kii, xa_kk, xa_kir, xa_krr, xa_kiir, xa_krir, xa_kdup, xa_kdup2, xa_kcp, xa_gf, xa_pf, xa_ga, xa_pa, xa_gq, xa_pq, xa_gl, xa_args, xa_ri, xa_rz, xa_rv, xa_s1, xa_s2, xa_c1, eq_self, List.getElem?_cons_succ, List.getElem?_cons_zero, true_and, and_true, nI_add, pk_mul, xt_in, xt_cl, xt_i0, xt_i1, xa_kc, xa_w8, xa_fit, lg_sl, List.flatMap_cons, List.flatMap_nil, List.map_cons, List.map_nil, List.sum_cons, List.sum_nil, Value.category, List.length_cons, List.length_nil, List.length_append, xa_rc, xa_rf, exists_eq_left, exists_eq', Option.some.injEq, Sum.inr.injEq, Prod.mk.injEq, Option.toList_some, Option.toList_none, List.cons_append, List.nil_append, Nat.reduceAdd, Nat.reduceLeDiff, Nat.reduceLT, List.set_cons_zero, List.set_cons_succ, eq_self, or_true, true_or, reduceIte, xt_ne, xt_eq, Nat.reduceEqDiff, Nat.one_ne_zero, if_false, h0, h1, h2, c0, mx_96, mx_97, mx_98, mx_92, m0, nI_l]
theorem pe_way {M : xa_M} {c : Nat} {A : xt_A} (hh : xh_B M c A) (iA : xi_A A) (s k : Nat) (hs : s < xnS (yT A)) (k1 : 1 ≤ k) (k2 : k ≤ 60) : ∃ y0, xa_E 140 0 (xa_ent [.ref c, .int (nI s), .int (nI k)]) [] M y0 ∧ xm2 c M (xs_way A s k) A y0 := by
  obtain ⟨r, g, hB, hw⟩ := id hh
  have hA := xw_A hB hw
  obtain ⟨⟨ra2, ra3, ra5, ra6⟩, hV, hS, ⟨hx1, hx2⟩, ⟨hu1, hu2⟩, ⟨hk1, hk2⟩, ⟨hg1, hg2⟩⟩ := id hw
  obtain ⟨iT, i5, i60, i1, ⟨iS, iD⟩, iX, iU, iK, iG⟩ := id iA
  obtain ⟨⟨b1, b2, b3, b4, b5, b6, b7, b8⟩, bs, bm, bw⟩ := id iT
  have ix := iX.1
  have iu := iU.1
  have ik := iK.1
  have ig := iG.1
  obtain ⟨⟨v0, v1, v2, v3, v4, v5⟩, vs, vm, -, vw⟩ := id hV
  obtain ⟨m0, m1, m2, m3, m4, m5, m6, m7, m8, m9⟩ := id hB
  unfold xb_c at m0
  have cn := xa_iff (pd_isSerf_y hB hV s hs b6)
  have ca := xa_iff (pd_in_k (M := M) k 1 60 (by omega) (by omega))
  have ch := xa_iff (pd_how hA b6 s hs)
  have cst := xa_iff (pd_stayed hA b6 s hs)
  have dd := iS.2.1 s hs
  have bk := bs s hs
  have en : g 1 0 = nI (xN (yT A)) := by
    rw [ra2] at v0
    have z : g 1 0 + nI 0 = g 1 0 := by simp [nI]
    rw [z] at v0
    exact v0
  refine xa_ge3 (fun lv h0 h1 h2 => ?_)
  simp (disch := omega) only [↓ra_140_0, ↓ra_140_1, ↓ra_140_2, ↓ra_140_5, ↓ra_140_8, ↓ra_140_9, ↓ra_140_10, ↓ra_140_11, ↓ra_140_14, ↓ra_140_17, ↓ra_140_22, ↓ra_140_23, ↓ra_140_24, ↓ra_140_27, xa_kli, xa_klr, xa_kll, xa_ki, xa_kl, xa_kr, xa_kii, xa_kk, xa_kir, xa_krr, xa_kiir, xa_krir, xa_kdup, xa_kdup2, xa_kcp, xa_gf, xa_pf, xa_ga, xa_pa, xa_gq, xa_pq, xa_gl, xa_args, xa_ri, xa_rz, xa_rv, xa_s1, xa_s2, xa_c1, eq_self, List.getElem?_cons_succ, List.getElem?_cons_zero, true_and, and_true, nI_add, pk_mul, xt_in, xt_cl, xt_i0, xt_i1, xa_kc, xa_w8, xa_fit, lg_sl, List.flatMap_cons, List.flatMap_nil, List.map_cons, List.map_nil, List.sum_cons, List.sum_nil, Value.category, List.length_cons, List.length_nil, List.length_append, xa_rc, xa_rf, exists_eq_left, exists_eq', Option.some.injEq, Sum.inr.injEq, Prod.mk.injEq, Option.toList_some, Option.toList_none, List.cons_append, List.nil_append, Nat.reduceAdd, Nat.reduceLeDiff, Nat.reduceLT, List.set_cons_zero, List.set_cons_succ, eq_self, or_true, true_or, reduceIte, xt_ne, xt_eq, Nat.reduceEqDiff, Nat.one_ne_zero, if_false, h0, h1, h2, nI_l, cn, ca, mx_96, mx_92, m0, ch, mx_99]
  unfold xs_way
  by_cases ci : xsh (yS A) s = 0
  · simp only [if_pos ci]
    have dc := dd.2.2.2.2.1 ci
    generalize hL : xN (yT A) - xss (yS A) s = L
    have hL60 : L ≤ 60 := by omega
    generalize hF : xq_F (yT A) (xsp (yS A)) s = F
    obtain ⟨⟨z1, M1⟩, cE1, c1, g1, hn1, yy1, tb1⟩ := pd_ways (L := L) hA iT iS.2.2 hL60 hs
    have c1 : z1 = none := c1
    subst c1
    dsimp only at hn1
    rw [hF] at tb1
    have hA1 : xv_A M1 c r g1 (yT A) (xnM (yT A)) (yS A) := ⟨hn1.2, by rw [yy1.1]; exact hV, xv_S_cg hS yy1.2.1 b6 b7, fun h => by omega⟩
    have cq1 := xa_iff (pd_quarter hA1 b6 s hs)
    have ck1 := xa_iff (pd_kind hA1 b6 s hs)
    have cm1 := xa_iff (pd_met hA1 b6 s hs)
    obtain ⟨k0, kk1, -⟩ := id hn1.2
    unfold xb_c at k0
    rw [yy1.1] at kk1
    -- days one behind the other
    have loop : ∀ (t d l q : Nat) (lv : xa_L) (M2 : xa_M) (g3 : Nat → Nat → Int32), lv 0 = some (.ref c) → lv 1 = some (.int (nI s)) → lv 2 = some (.int (nI k)) → lv 3 = some (.int (nI L)) → lv 4 = some (.int (nI (xC (yT A)))) → lv 5 = some (.int (nI q)) → lv 6 = some (.int (nI l)) → lv 7 = some (.int (nI d)) → d + t = k → k ≤ L → l ≤ 1 → q < xC (yT A) → xn c M r g3 M2 → xy g g3 → (∀ d q l, d ≤ L → q < xC (yT A) → l < 3 → g3 7 (18 * d + 3 * q + l) = nI (xq_v (xC (yT A)) F L d q l)) → ∃ y0, xa_E 140 100 lv [] M2 y0 ∧ xm2 c M (xt_o (xq_go (xC (yT A)) F L t d l q)) A y0 := by
      intro t
      induction t with
      | zero =>
        intro d l q lv M2 g3 h0 h1 h2 h3 h4 h5 h6 h7 e kL hl hq hn yy tb
        have e : d = k := by omega
        subst e
        simp (disch := omega) only [↓ra_140_100, ↓ra_140_102, ↓ra_140_103, ↓ra_140_267, ↓ra_140_269, xa_kli, xa_klr, xa_kll, xa_ki, xa_kl, xa_kr, xa_kii, xa_kk, xa_kir, xa_krr, xa_kiir, xa_krir, xa_kdup, xa_kdup2, xa_kcp, xa_gf, xa_pf, xa_ga, xa_pa, xa_gq, xa_pq, xa_gl, xa_args, xa_ri, xa_rz, xa_rv, xa_s1, xa_s2, xa_c1, eq_self, List.getElem?_cons_succ, List.getElem?_cons_zero, true_and, and_true, nI_add, pk_mul, xt_in, xt_cl, xt_i0, xt_i1, xa_kc, xa_w8, xa_fit, lg_sl, List.flatMap_cons, List.flatMap_nil, List.map_cons, List.map_nil, List.sum_cons, List.sum_nil, Value.category, List.length_cons, List.length_nil, List.length_append, xa_rc, xa_rf, exists_eq_left, exists_eq', Option.some.injEq, Sum.inr.injEq, Prod.mk.injEq, Option.toList_some, Option.toList_none, List.cons_append, List.nil_append, Nat.reduceAdd, Nat.reduceLeDiff, Nat.reduceLT, List.set_cons_zero, List.set_cons_succ, eq_self, or_true, true_or, reduceIte, xt_ne, h2, h5, h7, xt_le, Nat.le_refl]
        exact xm2_n hn (xy_w hw iA yy)
      | succ t ih =>
        intro d l q lv M2 g3 h0 h1 h2 h3 h4 h5 h6 h7 e kL hl hq hn yy tb
        have m1 : (q + 1) % xC (yT A) < xC (yT A) := Nat.mod_lt _ (by omega)
        have m2 : (q + xC (yT A) - 1) % xC (yT A) < xC (yT A) := Nat.mod_lt _ (by omega)
        generalize hp : (fun r => xq_can (xC (yT A)) F (L - d) d l r && xq_near (xC (yT A)) q r) = p
        have cs := fun (a b d : Nat) => xa_iff (pd_spot (M := M2) a b d)
        obtain ⟨n0, n1, n2, n3, n4, n5, n6, n7, -⟩ := id hn.2
        unfold xb_c at n0
        -- which is next
        have down : ∀ (e : Nat) (v : Option Nat) (lv : xa_L), lv 0 = some (.ref c) → lv 1 = some (.int (nI s)) → lv 2 = some (.int (nI k)) → lv 3 = some (.int (nI L)) → lv 4 = some (.int (nI (xC (yT A)))) → lv 5 = some (.int (nI q)) → lv 6 = some (.int (nI l)) → lv 7 = some (.int (nI d)) → lv 8 = some (.int (xt_o v)) → lv 9 = some (.int (xt_d e)) → e ≤ xC (yT A) → xt_lo p (xC (yT A)) = xt_or2 (xt_lo p e) v → ∀ Q : xa_Z → Prop, (∀ lv : xa_L, lv 0 = some (.ref c) → lv 1 = some (.int (nI s)) → lv 2 = some (.int (nI k)) → lv 3 = some (.int (nI L)) → lv 4 = some (.int (nI (xC (yT A)))) → lv 5 = some (.int (nI q)) → lv 6 = some (.int (nI l)) → lv 7 = some (.int (nI d)) → lv 8 = some (.int (xt_o (xt_lo p (xC (yT A))))) → ∃ y0, xa_E 140 199 lv [] M2 y0 ∧ Q y0) → ∃ y0, xa_E 140 116 lv [] M2 y0 ∧ Q y0 := by
          intro e
          induction e with
          | zero =>
            intro v lv h0 h1 h2 h3 h4 h5 h6 h7 h8 h9 le ev Q K
            have hd : xt_d 0 < nI 0 := by decide
            simp (disch := omega) only [↓ra_140_116, ↓ra_140_118, xa_kli, xa_klr, xa_kll, xa_ki, xa_kl, xa_kr, xa_kii, xa_kk, xa_kir, xa_krr, xa_kiir, xa_krir, xa_kdup, xa_kdup2, xa_kcp, xa_gf, xa_pf, xa_ga, xa_pa, xa_gq, xa_pq, xa_gl, xa_args, xa_ri, xa_rz, xa_rv, xa_s1, xa_s2, xa_c1, eq_self, List.getElem?_cons_succ, List.getElem?_cons_zero, true_and, and_true, nI_add, pk_mul, xt_in, xt_cl, xt_i0, xt_i1, xa_kc, xa_w8, xa_fit, lg_sl, List.flatMap_cons, List.flatMap_nil, List.map_cons, List.map_nil, List.sum_cons, List.sum_nil, Value.category, List.length_cons, List.length_nil, List.length_append, xa_rc, xa_rf, exists_eq_left, exists_eq', Option.some.injEq, Sum.inr.injEq, Prod.mk.injEq, Option.toList_some, Option.toList_none, List.cons_append, List.nil_append, Nat.reduceAdd, Nat.reduceLeDiff, Nat.reduceLT, List.set_cons_zero, List.set_cons_succ, eq_self, or_true, true_or, reduceIte, xt_ne, h9, hd, if_true]
            exact K lv h0 h1 h2 h3 h4 h5 h6 h7 (by rw [ev]; exact h8)
          | succ j ihj =>
            intro v lv h0 h1 h2 h3 h4 h5 h6 h7 h8 h9 le ev Q K
            have ed : xt_d (j + 1) = nI j := by unfold xt_d; rw [if_neg (by omega)]; rfl
            rw [ed] at h9
            have hj : j < xC (yT A) := by omega
            rw [xt_lo_dn] at ev
            have pe : p j = (xq_can (xC (yT A)) F (L - d) d l j && (decide (j = q) || (decide (j = (q + 1) % xC (yT A)) || decide (j = (q + xC (yT A) - 1) % xC (yT A))))) := by rw [← hp]; show (_ && xq_near _ _ _) = _; rw [xq_near_m b3 b4 hq hj]
            have tv := tb d j l (by omega) hj (by omega)
            unfold xq_v at tv
            simp (disch := omega) only [↓ra_140_116, ↓ra_140_118, xa_kli, xa_klr, xa_kll, xa_ki, xa_kl, xa_kr, xa_kii, xa_kk, xa_kir, xa_krr, xa_kiir, xa_krir, xa_kdup, xa_kdup2, xa_kcp, xa_gf, xa_pf, xa_ga, xa_pa, xa_gq, xa_pq, xa_gl, xa_args, xa_ri, xa_rz, xa_rv, xa_s1, xa_s2, xa_c1, eq_self, List.getElem?_cons_succ, List.getElem?_cons_zero, true_and, and_true, nI_add, pk_mul, xt_in, xt_cl, xt_i0, xt_i1, xa_kc, xa_w8, xa_fit, lg_sl, List.flatMap_cons, List.flatMap_nil, List.map_cons, List.map_nil, List.sum_cons, List.sum_nil, Value.category, List.length_cons, List.length_nil, List.length_append, xa_rc, xa_rf, exists_eq_left, exists_eq', Option.some.injEq, Sum.inr.injEq, Prod.mk.injEq, Option.toList_some, Option.toList_none, List.cons_append, List.nil_append, Nat.reduceAdd, Nat.reduceLeDiff, Nat.reduceLT, List.set_cons_zero, List.set_cons_succ, eq_self, or_true, true_or, reduceIte, xt_ne, h9, xt_lt, Nat.not_lt_zero, if_false]
            have lose : ∀ lv : xa_L, p j = false → lv 0 = some (.ref c) → lv 1 = some (.int (nI s)) → lv 2 = some (.int (nI k)) → lv 3 = some (.int (nI L)) → lv 4 = some (.int (nI (xC (yT A)))) → lv 5 = some (.int (nI q)) → lv 6 = some (.int (nI l)) → lv 7 = some (.int (nI d)) → lv 8 = some (.int (xt_o v)) → lv 9 = some (.int (nI j)) → ∃ y0, xa_E 140 189 lv [] M2 y0 ∧ Q y0 := by
              intro lv ef h0 h1 h2 h3 h4 h5 h6 h7 h8 h9
              simp (disch := omega) only [↓ra_140_189, ↓ra_140_191, ↓ra_140_193, ↓ra_140_196, xa_kli, xa_klr, xa_kll, xa_ki, xa_kl, xa_kr, xa_kii, xa_kk, xa_kir, xa_krr, xa_kiir, xa_krir, xa_kdup, xa_kdup2, xa_kcp, xa_gf, xa_pf, xa_ga, xa_pa, xa_gq, xa_pq, xa_gl, xa_args, xa_ri, xa_rz, xa_rv, xa_s1, xa_s2, xa_c1, eq_self, List.getElem?_cons_succ, List.getElem?_cons_zero, true_and, and_true, nI_add, pk_mul, xt_in, xt_cl, xt_i0, xt_i1, xa_kc, xa_w8, xa_fit, lg_sl, List.flatMap_cons, List.flatMap_nil, List.map_cons, List.map_nil, List.sum_cons, List.sum_nil, Value.category, List.length_cons, List.length_nil, List.length_append, xa_rc, xa_rf, exists_eq_left, exists_eq', Option.some.injEq, Sum.inr.injEq, Prod.mk.injEq, Option.toList_some, Option.toList_none, List.cons_append, List.nil_append, Nat.reduceAdd, Nat.reduceLeDiff, Nat.reduceLT, List.set_cons_zero, List.set_cons_succ, eq_self, or_true, true_or, reduceIte, xt_ne, h8, h9, xt_dec]
              exact ihj v _ (by simp [xa_s1, xa_c1, h0]) (by simp [xa_s1, xa_c1, h1]) (by simp [xa_s1, xa_c1, h2]) (by simp [xa_s1, xa_c1, h3]) (by simp [xa_s1, xa_c1, h4]) (by simp [xa_s1, xa_c1, h5]) (by simp [xa_s1, xa_c1, h6]) (by simp [xa_s1, xa_c1, h7]) (by simp [xa_s1, xa_c1]) (by simp [xa_s1, xa_c1]) (by omega) (by rw [ev, ef]; rfl) Q K
            have near : (decide (j = q) || (decide (j = (q + 1) % xC (yT A)) || decide (j = (q + xC (yT A) - 1) % xC (yT A)))) = true → ∃ y0, xa_E 140 155 lv [] M2 y0 ∧ Q y0 := by
              intro et
              rw [et, Bool.and_true] at pe
              simp (disch := omega) only [↓ra_140_155, ↓ra_140_156, ↓ra_140_160, ↓ra_140_162, ↓ra_140_164, ↓ra_140_167, ↓ra_140_168, ↓ra_140_171, ↓ra_140_173, ↓ra_140_175, ↓ra_140_177, ↓ra_140_180, ↓ra_140_181, xa_kli, xa_klr, xa_kll, xa_ki, xa_kl, xa_kr, xa_kii, xa_kk, xa_kir, xa_krr, xa_kiir, xa_krir, xa_kdup, xa_kdup2, xa_kcp, xa_gf, xa_pf, xa_ga, xa_pa, xa_gq, xa_pq, xa_gl, xa_args, xa_ri, xa_rz, xa_rv, xa_s1, xa_s2, xa_c1, eq_self, List.getElem?_cons_succ, List.getElem?_cons_zero, true_and, and_true, nI_add, pk_mul, xt_in, xt_cl, xt_i0, xt_i1, xa_kc, xa_w8, xa_fit, lg_sl, List.flatMap_cons, List.flatMap_nil, List.map_cons, List.map_nil, List.sum_cons, List.sum_nil, Value.category, List.length_cons, List.length_nil, List.length_append, xa_rc, xa_rf, exists_eq_left, exists_eq', Option.some.injEq, Sum.inr.injEq, Prod.mk.injEq, Option.toList_some, Option.toList_none, List.cons_append, List.nil_append, Nat.reduceAdd, Nat.reduceLeDiff, Nat.reduceLT, List.set_cons_zero, List.set_cons_succ, eq_self, or_true, true_or, reduceIte, xt_ne, xt_eq, Nat.reduceEqDiff, Nat.one_ne_zero, if_false, h0, h1, h2, h3, h4, h5, h6, h7, h8, h9, n0, n7, cs, mx_138, tv, xt_b0]
              by_cases cc : xq_can (xC (yT A)) F (L - d) d l j = true
              · simp only [cc, not_true_eq_false, if_false]
                simp (disch := omega) only [↓ra_140_184, ↓ra_140_186, ↓ra_140_191, ↓ra_140_193, ↓ra_140_196, xa_kli, xa_klr, xa_kll, xa_ki, xa_kl, xa_kr, xa_kii, xa_kk, xa_kir, xa_krr, xa_kiir, xa_krir, xa_kdup, xa_kdup2, xa_kcp, xa_gf, xa_pf, xa_ga, xa_pa, xa_gq, xa_pq, xa_gl, xa_args, xa_ri, xa_rz, xa_rv, xa_s1, xa_s2, xa_c1, eq_self, List.getElem?_cons_succ, List.getElem?_cons_zero, true_and, and_true, nI_add, pk_mul, xt_in, xt_cl, xt_i0, xt_i1, xa_kc, xa_w8, xa_fit, lg_sl, List.flatMap_cons, List.flatMap_nil, List.map_cons, List.map_nil, List.sum_cons, List.sum_nil, Value.category, List.length_cons, List.length_nil, List.length_append, xa_rc, xa_rf, exists_eq_left, exists_eq', Option.some.injEq, Sum.inr.injEq, Prod.mk.injEq, Option.toList_some, Option.toList_none, List.cons_append, List.nil_append, Nat.reduceAdd, Nat.reduceLeDiff, Nat.reduceLT, List.set_cons_zero, List.set_cons_succ, eq_self, or_true, true_or, reduceIte, xt_ne, h9, xt_dec]
                rw [cc] at pe
                exact ihj (some j) _ (by simp [xa_s1, xa_c1, h0]) (by simp [xa_s1, xa_c1, h1]) (by simp [xa_s1, xa_c1, h2]) (by simp [xa_s1, xa_c1, h3]) (by simp [xa_s1, xa_c1, h4]) (by simp [xa_s1, xa_c1, h5]) (by simp [xa_s1, xa_c1, h6]) (by simp [xa_s1, xa_c1, h7]) (by simp [xa_s1, xa_c1, xt_o]) (by simp [xa_s1, xa_c1]) (by omega) (by rw [ev, pe]; rfl) Q K
              · simp only [cc, not_false_eq_true, if_true]
                exact lose _ (by rw [pe]; simpa using cc) (by simp [xa_s1, xa_c1, h0]) (by simp [xa_s1, xa_c1, h1]) (by simp [xa_s1, xa_c1, h2]) (by simp [xa_s1, xa_c1, h3]) (by simp [xa_s1, xa_c1, h4]) (by simp [xa_s1, xa_c1, h5]) (by simp [xa_s1, xa_c1, h6]) (by simp [xa_s1, xa_c1, h7]) (by simp [xa_s1, xa_c1, h8]) (by simp [xa_s1, xa_c1, h9])
            simp (disch := omega) only [↓ra_140_121, ↓ra_140_123, ↓ra_140_125, xa_kli, xa_klr, xa_kll, xa_ki, xa_kl, xa_kr, xa_kii, xa_kk, xa_kir, xa_krr, xa_kiir, xa_krir, xa_kdup, xa_kdup2, xa_kcp, xa_gf, xa_pf, xa_ga, xa_pa, xa_gq, xa_pq, xa_gl, xa_args, xa_ri, xa_rz, xa_rv, xa_s1, xa_s2, xa_c1, eq_self, List.getElem?_cons_succ, List.getElem?_cons_zero, true_and, and_true, nI_add, pk_mul, xt_in, xt_cl, xt_i0, xt_i1, xa_kc, xa_w8, xa_fit, lg_sl, List.flatMap_cons, List.flatMap_nil, List.map_cons, List.map_nil, List.sum_cons, List.sum_nil, Value.category, List.length_cons, List.length_nil, List.length_append, xa_rc, xa_rf, exists_eq_left, exists_eq', Option.some.injEq, Sum.inr.injEq, Prod.mk.injEq, Option.toList_some, Option.toList_none, List.cons_append, List.nil_append, Nat.reduceAdd, Nat.reduceLeDiff, Nat.reduceLT, List.set_cons_zero, List.set_cons_succ, eq_self, or_true, true_or, reduceIte, xt_ne, h5, h9, xt_eq]
            by_cases e1 : j = q
            · simp only [if_pos e1]
              exact near (by rw [decide_eq_true e1]; rfl)
            · simp only [if_neg e1]
              simp (disch := omega) only [↓ra_140_128, ↓ra_140_130, ↓ra_140_132, ↓ra_140_133, ↓ra_140_134, ↓ra_140_136, ↓ra_140_137, xa_kli, xa_klr, xa_kll, xa_ki, xa_kl, xa_kr, xa_kii, xa_kk, xa_kir, xa_krr, xa_kiir, xa_krir, xa_kdup, xa_kdup2, xa_kcp, xa_gf, xa_pf, xa_ga, xa_pa, xa_gq, xa_pq, xa_gl, xa_args, xa_ri, xa_rz, xa_rv, xa_s1, xa_s2, xa_c1, eq_self, List.getElem?_cons_succ, List.getElem?_cons_zero, true_and, and_true, nI_add, pk_mul, xt_in, xt_cl, xt_i0, xt_i1, xa_kc, xa_w8, xa_fit, lg_sl, List.flatMap_cons, List.flatMap_nil, List.map_cons, List.map_nil, List.sum_cons, List.sum_nil, Value.category, List.length_cons, List.length_nil, List.length_append, xa_rc, xa_rf, exists_eq_left, exists_eq', Option.some.injEq, Sum.inr.injEq, Prod.mk.injEq, Option.toList_some, Option.toList_none, List.cons_append, List.nil_append, Nat.reduceAdd, Nat.reduceLeDiff, Nat.reduceLT, List.set_cons_zero, List.set_cons_succ, eq_self, or_true, true_or, reduceIte, xt_ne, xt_n0, not_false_eq_true, xt_div, xt_remA, h4, h5, h9, xt_eq]
              by_cases e2 : j = (q + 1) % xC (yT A)
              · simp only [if_pos e2]
                exact near (by rw [decide_eq_true e2]; simp)
              · simp only [if_neg e2]
                simp (disch := omega) only [↓ra_140_140, ↓ra_140_142, ↓ra_140_144, ↓ra_140_146, ↓ra_140_147, ↓ra_140_148, ↓ra_140_149, ↓ra_140_151, ↓ra_140_152, xa_kli, xa_klr, xa_kll, xa_ki, xa_kl, xa_kr, xa_kii, xa_kk, xa_kir, xa_krr, xa_kiir, xa_krir, xa_kdup, xa_kdup2, xa_kcp, xa_gf, xa_pf, xa_ga, xa_pa, xa_gq, xa_pq, xa_gl, xa_args, xa_ri, xa_rz, xa_rv, xa_s1, xa_s2, xa_c1, eq_self, List.getElem?_cons_succ, List.getElem?_cons_zero, true_and, and_true, nI_add, pk_mul, xt_in, xt_cl, xt_i0, xt_i1, xa_kc, xa_w8, xa_fit, lg_sl, List.flatMap_cons, List.flatMap_nil, List.map_cons, List.map_nil, List.sum_cons, List.sum_nil, Value.category, List.length_cons, List.length_nil, List.length_append, xa_rc, xa_rf, exists_eq_left, exists_eq', Option.some.injEq, Sum.inr.injEq, Prod.mk.injEq, Option.toList_some, Option.toList_none, List.cons_append, List.nil_append, Nat.reduceAdd, Nat.reduceLeDiff, Nat.reduceLT, List.set_cons_zero, List.set_cons_succ, eq_self, or_true, true_or, reduceIte, xt_ne, xt_n0, not_false_eq_true, xt_div, xt_remA, h4, h5, h9, xt_sub, xt_eq]
                by_cases e3 : j = (q + xC (yT A) - 1) % xC (yT A)
                · simp only [if_pos e3]
                  exact near (by rw [decide_eq_true e3]; simp)
                · simp only [if_neg e3]
                  simp (disch := omega) only [↓ra_140_159, ↓ra_140_160, ↓ra_140_162, ↓ra_140_164, xa_kli, xa_klr, xa_kll, xa_ki, xa_kl, xa_kr, xa_kii, xa_kk, xa_kir, xa_krr, xa_kiir, xa_krir, xa_kdup, xa_kdup2, xa_kcp, xa_gf, xa_pf, xa_ga, xa_pa, xa_gq, xa_pq, xa_gl, xa_args, xa_ri, xa_rz, xa_rv, xa_s1, xa_s2, xa_c1, eq_self, List.getElem?_cons_succ, List.getElem?_cons_zero, true_and, and_true, nI_add, pk_mul, xt_in, xt_cl, xt_i0, xt_i1, xa_kc, xa_w8, xa_fit, lg_sl, List.flatMap_cons, List.flatMap_nil, List.map_cons, List.map_nil, List.sum_cons, List.sum_nil, Value.category, List.length_cons, List.length_nil, List.length_append, xa_rc, xa_rf, exists_eq_left, exists_eq', Option.some.injEq, Sum.inr.injEq, Prod.mk.injEq, Option.toList_some, Option.toList_none, List.cons_append, List.nil_append, Nat.reduceAdd, Nat.reduceLeDiff, Nat.reduceLT, List.set_cons_zero, List.set_cons_succ, eq_self, or_true, true_or, reduceIte, xt_ne, xt_eq, Nat.reduceEqDiff, Nat.one_ne_zero, if_false]
                  exact lose _ (by rw [pe, decide_eq_false e1, decide_eq_false e2, decide_eq_false e3]; simp) (by simp [xa_s1, xa_c1, h0]) (by simp [xa_s1, xa_c1, h1]) (by simp [xa_s1, xa_c1, h2]) (by simp [xa_s1, xa_c1, h3]) (by simp [xa_s1, xa_c1, h4]) (by simp [xa_s1, xa_c1, h5]) (by simp [xa_s1, xa_c1, h6]) (by simp [xa_s1, xa_c1, h7]) (by simp [xa_s1, xa_c1, h8]) (by simp [xa_s1, xa_c1, h9])
        simp (disch := omega) only [↓ra_140_100, ↓ra_140_102, ↓ra_140_103, xa_kli, xa_klr, xa_kll, xa_ki, xa_kl, xa_kr, xa_kii, xa_kk, xa_kir, xa_krr, xa_kiir, xa_krir, xa_kdup, xa_kdup2, xa_kcp, xa_gf, xa_pf, xa_ga, xa_pa, xa_gq, xa_pq, xa_gl, xa_args, xa_ri, xa_rz, xa_rv, xa_s1, xa_s2, xa_c1, eq_self, List.getElem?_cons_succ, List.getElem?_cons_zero, true_and, and_true, nI_add, pk_mul, xt_in, xt_cl, xt_i0, xt_i1, xa_kc, xa_w8, xa_fit, lg_sl, List.flatMap_cons, List.flatMap_nil, List.map_cons, List.map_nil, List.sum_cons, List.sum_nil, Value.category, List.length_cons, List.length_nil, List.length_append, xa_rc, xa_rf, exists_eq_left, exists_eq', Option.some.injEq, Sum.inr.injEq, Prod.mk.injEq, Option.toList_some, Option.toList_none, List.cons_append, List.nil_append, Nat.reduceAdd, Nat.reduceLeDiff, Nat.reduceLT, List.set_cons_zero, List.set_cons_succ, eq_self, or_true, true_or, reduceIte, xt_ne, h2, h7, xt_le]
        simp only [if_neg (show ¬ k ≤ d by omega)]
        have ec : nI (xC (yT A) - 1) = xt_d (xC (yT A)) := by unfold xt_d; rw [if_neg (by omega)]
        simp (disch := omega) only [↓ra_140_106, ↓ra_140_108, ↓ra_140_110, ↓ra_140_112, ↓ra_140_113, ↓ra_140_114, xa_kli, xa_klr, xa_kll, xa_ki, xa_kl, xa_kr, xa_kii, xa_kk, xa_kir, xa_krr, xa_kiir, xa_krir, xa_kdup, xa_kdup2, xa_kcp, xa_gf, xa_pf, xa_ga, xa_pa, xa_gq, xa_pq, xa_gl, xa_args, xa_ri, xa_rz, xa_rv, xa_s1, xa_s2, xa_c1, eq_self, List.getElem?_cons_succ, List.getElem?_cons_zero, true_and, and_true, nI_add, pk_mul, xt_in, xt_cl, xt_i0, xt_i1, xa_kc, xa_w8, xa_fit, lg_sl, List.flatMap_cons, List.flatMap_nil, List.map_cons, List.map_nil, List.sum_cons, List.sum_nil, Value.category, List.length_cons, List.length_nil, List.length_append, xa_rc, xa_rf, exists_eq_left, exists_eq', Option.some.injEq, Sum.inr.injEq, Prod.mk.injEq, Option.toList_some, Option.toList_none, List.cons_append, List.nil_append, Nat.reduceAdd, Nat.reduceLeDiff, Nat.reduceLT, List.set_cons_zero, List.set_cons_succ, eq_self, or_true, true_or, reduceIte, xt_ne, h4, xt_sub]
        rw [ec]
        refine down (xC (yT A)) none _ (by simp [xa_s1, xa_c1, h0]) (by simp [xa_s1, xa_c1, h1]) (by simp [xa_s1, xa_c1, h2]) (by simp [xa_s1, xa_c1, h3]) (by simp [xa_s1, xa_c1, h4]) (by simp [xa_s1, xa_c1, h5]) (by simp [xa_s1, xa_c1, h6]) (by simp [xa_s1, xa_c1, h7]) (by simp [xa_s1, xa_c1, xt_o]) (by simp [xa_s1, xa_c1]) (Nat.le_refl _) (by cases xt_lo p (xC (yT A)) <;> rfl) _ (fun lv h0 h1 h2 h3 h4 h5 h6 h7 h8 => ?_)
        rw [xq_go, hp]
        cases hlo : xt_lo p (xC (yT A)) with
        | none =>
          rw [hlo] at h8
          simp (disch := omega) only [↓ra_140_199, ↓ra_140_201, ↓ra_140_203, ↓ra_140_206, ↓ra_140_208, xa_kli, xa_klr, xa_kll, xa_ki, xa_kl, xa_kr, xa_kii, xa_kk, xa_kir, xa_krr, xa_kiir, xa_krir, xa_kdup, xa_kdup2, xa_kcp, xa_gf, xa_pf, xa_ga, xa_pa, xa_gq, xa_pq, xa_gl, xa_args, xa_ri, xa_rz, xa_rv, xa_s1, xa_s2, xa_c1, eq_self, List.getElem?_cons_succ, List.getElem?_cons_zero, true_and, and_true, nI_add, pk_mul, xt_in, xt_cl, xt_i0, xt_i1, xa_kc, xa_w8, xa_fit, lg_sl, List.flatMap_cons, List.flatMap_nil, List.map_cons, List.map_nil, List.sum_cons, List.sum_nil, Value.category, List.length_cons, List.length_nil, List.length_append, xa_rc, xa_rf, exists_eq_left, exists_eq', Option.some.injEq, Sum.inr.injEq, Prod.mk.injEq, Option.toList_some, Option.toList_none, List.cons_append, List.nil_append, Nat.reduceAdd, Nat.reduceLeDiff, Nat.reduceLT, List.set_cons_zero, List.set_cons_succ, eq_self, or_true, true_or, reduceIte, xt_ne, h8, xt_o]
          exact xm2_n hn (xy_w hw iA yy)
        | some x =>
          rw [hlo] at h8
          have hx := xt_lo_some (xC (yT A)) hlo
          have h8 : lv 8 = some (.int (nI x)) := h8
          dsimp only
          have hA2 : xv_A M2 c r g3 (yT A) (xnM (yT A)) (yS A) := ⟨hn.2, by rw [yy.1]; exact hV, xv_S_cg hS yy.2.1 b6 b7, fun h => by omega⟩
          obtain ⟨⟨z3, M3⟩, cE3, c3, h6', hn3, e6⟩ := pd_asides hn.2
          have c3 : z3 = none := c3
          subst c3
          dsimp only at hn3
          have hA3 : xv_A M3 c r (xb_u g3 6 h6') (yT A) (xnM (yT A)) (xq_wp (yS A) (xq_pd (yT A) 0 (xsp (yS A)))) := ⟨hn3.2, hA2.2.1, hA2.2.2.1, hA2.2.2.2⟩
          simp (disch := omega) only [↓ra_140_199, ↓ra_140_201, ↓ra_140_203, ↓ra_140_206, ↓ra_140_208, ↓ra_140_209, ↓ra_140_210, ↓ra_140_213, ↓ra_140_214, xa_kli, xa_klr, xa_kll, xa_ki, xa_kl, xa_kr, xa_kii, xa_kk, xa_kir, xa_krr, xa_kiir, xa_krir, xa_kdup, xa_kdup2, xa_kcp, xa_gf, xa_pf, xa_ga, xa_pa, xa_gq, xa_pq, xa_gl, xa_args, xa_ri, xa_rz, xa_rv, xa_s1, xa_s2, xa_c1, eq_self, List.getElem?_cons_succ, List.getElem?_cons_zero, true_and, and_true, nI_add, pk_mul, xt_in, xt_cl, xt_i0, xt_i1, xa_kc, xa_w8, xa_fit, lg_sl, List.flatMap_cons, List.flatMap_nil, List.map_cons, List.map_nil, List.sum_cons, List.sum_nil, Value.category, List.length_cons, List.length_nil, List.length_append, xa_rc, xa_rf, exists_eq_left, exists_eq', Option.some.injEq, Sum.inr.injEq, Prod.mk.injEq, Option.toList_some, Option.toList_none, List.cons_append, List.nil_append, Nat.reduceAdd, Nat.reduceLeDiff, Nat.reduceLT, List.set_cons_zero, List.set_cons_succ, eq_self, or_true, true_or, reduceIte, xt_ne, h0, h8, xt_m4n, if_false, n0, xa_iff cE3, mx_132]
          refine pd_way_go (x0 := some (.ref c)) (x1 := some (.int (nI s))) (x2 := some (.int (nI k))) (x3 := some (.int (nI L))) (x4 := some (.int (nI (xC (yT A))))) (x5 := some (.int (nI q))) (x6 := some (.int (nI l))) (x7 := some (.int (nI d))) (x8 := some (.int (nI x))) iT iS.2.2 (show d < 1000 by omega) rfl rfl ⟨rfl, rfl, rfl, rfl, rfl, rfl, rfl, rfl, rfl⟩ d 0 _ M3 _ (by simp [xa_s1, xa_c1, h0]) (by simp [xa_s1, xa_c1, h1]) (by simp [xa_s1, xa_c1, h2]) (by simp [xa_s1, xa_c1, h3]) (by simp [xa_s1, xa_c1, h4]) (by simp [xa_s1, xa_c1, h5]) (by simp [xa_s1, xa_c1, h6]) (by simp [xa_s1, xa_c1, h7]) (by simp [xa_s1, xa_c1, h8]) (by simp [xa_s1, xa_c1]) (by omega) (xa_fr_tr hn.1 hn3.1) hA3 _ (fun lv M4 h h0 h1 h2 h3 h4 h5 h6 h7 h8 f4 hA4 => ?_)
          have iPd := xi_pd b3 iS.2.2 d
          have cM := xa_iff (pd_isMet hA4 iT iPd s x hs hx.1)
          have cM : ∀ z, xa_E 117 0 (xa_ent [.ref c, .int (nI s), .int (nI x)]) [] M4 z ↔ z = (some (.int (nI (if F d x = true then 1 else 0))), M4) := by rw [← hF]; exact cM
          obtain ⟨⟨z5, M5⟩, cE5, c5, h5', hn5, e5⟩ := pd_backs hA4.1
          have c5 : z5 = none := c5
          subst c5
          dsimp only at hn5
          obtain ⟨j0, -⟩ := id hA4.1
          unfold xb_c at j0
          have nxt : ∀ (l2 : Nat) (lv : xa_L), l2 ≤ 1 → l2 = (if F d x = true then 0 else l) → lv 0 = some (.ref c) → lv 1 = some (.int (nI s)) → lv 2 = some (.int (nI k)) → lv 3 = some (.int (nI L)) → lv 4 = some (.int (nI (xC (yT A)))) → lv 7 = some (.int (nI d)) → lv 8 = some (.int (nI x)) → lv 6 = some (.int (nI l2)) → ∃ y0, xa_E 140 253 lv [] M4 y0 ∧ xm2 c M (xt_o (xq_go (xC (yT A)) F L t (d + 1) (if F d x = true then 0 else l) x)) A y0 := by
            intro l2 lv hl2 el2 h0 h1 h2 h3 h4 h7 h8 h6
            simp (disch := omega) only [↓ra_140_253, ↓ra_140_254, ↓ra_140_257, ↓ra_140_259, ↓ra_140_261, ↓ra_140_264, xa_kli, xa_klr, xa_kll, xa_ki, xa_kl, xa_kr, xa_kii, xa_kk, xa_kir, xa_krr, xa_kiir, xa_krir, xa_kdup, xa_kdup2, xa_kcp, xa_gf, xa_pf, xa_ga, xa_pa, xa_gq, xa_pq, xa_gl, xa_args, xa_ri, xa_rz, xa_rv, xa_s1, xa_s2, xa_c1, eq_self, List.getElem?_cons_succ, List.getElem?_cons_zero, true_and, and_true, nI_add, pk_mul, xt_in, xt_cl, xt_i0, xt_i1, xa_kc, xa_w8, xa_fit, lg_sl, List.flatMap_cons, List.flatMap_nil, List.map_cons, List.map_nil, List.sum_cons, List.sum_nil, Value.category, List.length_cons, List.length_nil, List.length_append, xa_rc, xa_rf, exists_eq_left, exists_eq', Option.some.injEq, Sum.inr.injEq, Prod.mk.injEq, Option.toList_some, Option.toList_none, List.cons_append, List.nil_append, Nat.reduceAdd, Nat.reduceLeDiff, Nat.reduceLT, List.set_cons_zero, List.set_cons_succ, eq_self, or_true, true_or, reduceIte, xt_ne, h0, h7, h8, j0, xa_iff cE5, mx_133]
            rw [← el2]
            refine ih (d + 1) l2 x _ M5 _ (by simp [xa_s1, xa_c1, h0]) (by simp [xa_s1, xa_c1, h1]) (by simp [xa_s1, xa_c1, h2]) (by simp [xa_s1, xa_c1, h3]) (by simp [xa_s1, xa_c1, h4]) (by simp [xa_s1, xa_c1]) (by simp [xa_s1, xa_c1, h6]) (by simp [xa_s1, xa_c1]) (by omega) kL hl2 hx.1 ⟨xa_fr_tr f4 hn5.1, hn5.2⟩ ⟨yy.1, fun k hk => ?_, yy.2.2.1, yy.2.2.2.1, yy.2.2.2.2.1, yy.2.2.2.2.2⟩ tb
            show h5' k = _
            rw [e5 k hk]
            show h6' k = _
            rw [e6 k hk]
            exact yy.2.1 k hk
          simp (disch := omega) only [↓ra_140_233, ↓ra_140_235, ↓ra_140_236, ↓ra_140_237, ↓ra_140_239, ↓ra_140_242, xa_kli, xa_klr, xa_kll, xa_ki, xa_kl, xa_kr, xa_kii, xa_kk, xa_kir, xa_krr, xa_kiir, xa_krir, xa_kdup, xa_kdup2, xa_kcp, xa_gf, xa_pf, xa_ga, xa_pa, xa_gq, xa_pq, xa_gl, xa_args, xa_ri, xa_rz, xa_rv, xa_s1, xa_s2, xa_c1, eq_self, List.getElem?_cons_succ, List.getElem?_cons_zero, true_and, and_true, nI_add, pk_mul, xt_in, xt_cl, xt_i0, xt_i1, xa_kc, xa_w8, xa_fit, lg_sl, List.flatMap_cons, List.flatMap_nil, List.map_cons, List.map_nil, List.sum_cons, List.sum_nil, Value.category, List.length_cons, List.length_nil, List.length_append, xa_rc, xa_rf, exists_eq_left, exists_eq', Option.some.injEq, Sum.inr.injEq, Prod.mk.injEq, Option.toList_some, Option.toList_none, List.cons_append, List.nil_append, Nat.reduceAdd, Nat.reduceLeDiff, Nat.reduceLT, List.set_cons_zero, List.set_cons_succ, eq_self, or_true, true_or, reduceIte, xt_ne, h0, h1, h6, h8, j0, cM, mx_117, xt_b0]
          by_cases cF : F d x = true
          · have pl : 1 ≤ l := by
              have := hx.2
              rw [← hp] at this
              dsimp only at this
              rw [Bool.and_eq_true] at this
              have := this.1
              rw [show L - d = (L - (d + 1)) + 1 by omega, xq_can, if_pos cF] at this
              refine Nat.not_lt.mp (fun c0 => ?_)
              rw [if_pos (by omega)] at this
              cases this
            simp only [cF, not_true_eq_false, if_false]
            simp (disch := omega) only [↓ra_140_245, ↓ra_140_246, ↓ra_140_250, ↓ra_140_251, xa_kli, xa_klr, xa_kll, xa_ki, xa_kl, xa_kr, xa_kii, xa_kk, xa_kir, xa_krr, xa_kiir, xa_krir, xa_kdup, xa_kdup2, xa_kcp, xa_gf, xa_pf, xa_ga, xa_pa, xa_gq, xa_pq, xa_gl, xa_args, xa_ri, xa_rz, xa_rv, xa_s1, xa_s2, xa_c1, eq_self, List.getElem?_cons_succ, List.getElem?_cons_zero, true_and, and_true, nI_add, pk_mul, xt_in, xt_cl, xt_i0, xt_i1, xa_kc, xa_w8, xa_fit, lg_sl, List.flatMap_cons, List.flatMap_nil, List.map_cons, List.map_nil, List.sum_cons, List.sum_nil, Value.category, List.length_cons, List.length_nil, List.length_append, xa_rc, xa_rf, exists_eq_left, exists_eq', Option.some.injEq, Sum.inr.injEq, Prod.mk.injEq, Option.toList_some, Option.toList_none, List.cons_append, List.nil_append, Nat.reduceAdd, Nat.reduceLeDiff, Nat.reduceLT, List.set_cons_zero, List.set_cons_succ, eq_self, or_true, true_or, reduceIte, xt_ne, xt_sub]
            have := nxt (l - 1) (xa_s1 lv 6 (.int (nI (l - 1)))) (by omega) (by rw [if_pos cF]; omega) (by simp [xa_s1, xa_c1, h0]) (by simp [xa_s1, xa_c1, h1]) (by simp [xa_s1, xa_c1, h2]) (by simp [xa_s1, xa_c1, h3]) (by simp [xa_s1, xa_c1, h4]) (by simp [xa_s1, xa_c1, h7]) (by simp [xa_s1, xa_c1, h8]) (by simp [xa_s1, xa_c1])
            simpa only [cF, if_true] using this
          · simp only [cF, Bool.false_eq_true, not_false_eq_true, if_true, if_false]
            simp (disch := omega) only [↓ra_140_249, ↓ra_140_250, ↓ra_140_251, xa_kli, xa_klr, xa_kll, xa_ki, xa_kl, xa_kr, xa_kii, xa_kk, xa_kir, xa_krr, xa_kiir, xa_krir, xa_kdup, xa_kdup2, xa_kcp, xa_gf, xa_pf, xa_ga, xa_pa, xa_gq, xa_pq, xa_gl, xa_args, xa_ri, xa_rz, xa_rv, xa_s1, xa_s2, xa_c1, eq_self, List.getElem?_cons_succ, List.getElem?_cons_zero, true_and, and_true, nI_add, pk_mul, xt_in, xt_cl, xt_i0, xt_i1, xa_kc, xa_w8, xa_fit, lg_sl, List.flatMap_cons, List.flatMap_nil, List.map_cons, List.map_nil, List.sum_cons, List.sum_nil, Value.category, List.length_cons, List.length_nil, List.length_append, xa_rc, xa_rf, exists_eq_left, exists_eq', Option.some.injEq, Sum.inr.injEq, Prod.mk.injEq, Option.toList_some, Option.toList_none, List.cons_append, List.nil_append, Nat.reduceAdd, Nat.reduceLeDiff, Nat.reduceLT, List.set_cons_zero, List.set_cons_succ, eq_self, or_true, true_or, reduceIte, xt_ne, xt_sub, Nat.sub_zero]
            have := nxt l (xa_s1 lv 6 (.int (nI l))) hl (by rw [if_neg cF]) (by simp [xa_s1, xa_c1, h0]) (by simp [xa_s1, xa_c1, h1]) (by simp [xa_s1, xa_c1, h2]) (by simp [xa_s1, xa_c1, h3]) (by simp [xa_s1, xa_c1, h4]) (by simp [xa_s1, xa_c1, h7]) (by simp [xa_s1, xa_c1, h8]) (by simp [xa_s1, xa_c1])
            simpa only [cF, Bool.false_eq_true, if_false] using this
    have eL : nI (xN (yT A)) - nI (xss (yS A) s) = nI L := by rw [xt_sub _ _ (by omega), hL]
    simp (disch := omega) only [↓ra_140_33, ↓ra_140_34, ↓ra_140_37, ↓ra_140_38, ↓ra_140_39, ↓ra_140_40, ↓ra_140_41, ↓ra_140_44, ↓ra_140_45, ↓ra_140_46, ↓ra_140_47, ↓ra_140_48, ↓ra_140_49, ↓ra_140_52, ↓ra_140_53, ↓ra_140_56, ↓ra_140_57, ↓ra_140_58, ↓ra_140_60, ↓ra_140_61, ↓ra_140_62, ↓ra_140_65, ↓ra_140_67, ↓ra_140_68, ↓ra_140_69, ↓ra_140_72, ↓ra_140_73, xa_kli, xa_klr, xa_kll, xa_ki, xa_kl, xa_kr, xa_kii, xa_kk, xa_kir, xa_krr, xa_kiir, xa_krir, xa_kdup, xa_kdup2, xa_kcp, xa_gf, xa_pf, xa_ga, xa_pa, xa_gq, xa_pq, xa_gl, xa_args, xa_ri, xa_rz, xa_rv, xa_s1, xa_s2, xa_c1, eq_self, List.getElem?_cons_succ, List.getElem?_cons_zero, true_and, and_true, nI_add, pk_mul, xt_in, xt_cl, xt_i0, xt_i1, xa_kc, xa_w8, xa_fit, lg_sl, List.flatMap_cons, List.flatMap_nil, List.map_cons, List.map_nil, List.sum_cons, List.sum_nil, Value.category, List.length_cons, List.length_nil, List.length_append, xa_rc, xa_rf, exists_eq_left, exists_eq', Option.some.injEq, Sum.inr.injEq, Prod.mk.injEq, Option.toList_some, Option.toList_none, List.cons_append, List.nil_append, Nat.reduceAdd, Nat.reduceLeDiff, Nat.reduceLT, List.set_cons_zero, List.set_cons_succ, eq_self, or_true, true_or, reduceIte, xt_ne, h0, h1, h2, m0, m1, en, cst, mx_101, eL, xa_iff cE1, mx_139, k0, kk1, v1, cq1, mx_100, ck1, mx_103, xt_eq]
    have rest : ∀ (lv : xa_L), lv 0 = some (.ref c) → lv 1 = some (.int (nI s)) → lv 2 = some (.int (nI k)) → lv 3 = some (.int (nI L)) → lv 4 = some (.int (nI (xC (yT A)))) → lv 5 = some (.int (nI (xsq (yS A) s))) → lv 6 = some (.int (nI (xq_sp (yT A) (yS A) s))) → ∃ y0, xa_E 140 89 lv [] M1 y0 ∧ xm2 c M (xt_o (if L < k then none else xq_go (xC (yT A)) F L k 0 (xq_sp (yT A) (yS A) s) (xsq (yS A) s))) A y0 := by
      intro lv h0 h1 h2 h3 h4 h5 h6
      simp (disch := omega) only [↓ra_140_89, ↓ra_140_90, ↓ra_140_91, xa_kli, xa_klr, xa_kll, xa_ki, xa_kl, xa_kr, xa_kii, xa_kk, xa_kir, xa_krr, xa_kiir, xa_krir, xa_kdup, xa_kdup2, xa_kcp, xa_gf, xa_pf, xa_ga, xa_pa, xa_gq, xa_pq, xa_gl, xa_args, xa_ri, xa_rz, xa_rv, xa_s1, xa_s2, xa_c1, eq_self, List.getElem?_cons_succ, List.getElem?_cons_zero, true_and, and_true, nI_add, pk_mul, xt_in, xt_cl, xt_i0, xt_i1, xa_kc, xa_w8, xa_fit, lg_sl, List.flatMap_cons, List.flatMap_nil, List.map_cons, List.map_nil, List.sum_cons, List.sum_nil, Value.category, List.length_cons, List.length_nil, List.length_append, xa_rc, xa_rf, exists_eq_left, exists_eq', Option.some.injEq, Sum.inr.injEq, Prod.mk.injEq, Option.toList_some, Option.toList_none, List.cons_append, List.nil_append, Nat.reduceAdd, Nat.reduceLeDiff, Nat.reduceLT, List.set_cons_zero, List.set_cons_succ, eq_self, or_true, true_or, reduceIte, xt_ne, h2, h3, xt_le]
      by_cases ck : k ≤ L
      · simp only [if_pos ck]
        rw [if_neg (show ¬ L < k by omega)]
        simp (disch := omega) only [↓ra_140_97, ↓ra_140_98, xa_kli, xa_klr, xa_kll, xa_ki, xa_kl, xa_kr, xa_kii, xa_kk, xa_kir, xa_krr, xa_kiir, xa_krir, xa_kdup, xa_kdup2, xa_kcp, xa_gf, xa_pf, xa_ga, xa_pa, xa_gq, xa_pq, xa_gl, xa_args, xa_ri, xa_rz, xa_rv, xa_s1, xa_s2, xa_c1, eq_self, List.getElem?_cons_succ, List.getElem?_cons_zero, true_and, and_true, nI_add, pk_mul, xt_in, xt_cl, xt_i0, xt_i1, xa_kc, xa_w8, xa_fit, lg_sl, List.flatMap_cons, List.flatMap_nil, List.map_cons, List.map_nil, List.sum_cons, List.sum_nil, Value.category, List.length_cons, List.length_nil, List.length_append, xa_rc, xa_rf, exists_eq_left, exists_eq', Option.some.injEq, Sum.inr.injEq, Prod.mk.injEq, Option.toList_some, Option.toList_none, List.cons_append, List.nil_append, Nat.reduceAdd, Nat.reduceLeDiff, Nat.reduceLT, List.set_cons_zero, List.set_cons_succ, eq_self, or_true, true_or, reduceIte, xt_ne]
        exact loop k 0 (xq_sp (yT A) (yS A) s) (xsq (yS A) s) _ M1 g1 (by simp [xa_s1, xa_c1, h0]) (by simp [xa_s1, xa_c1, h1]) (by simp [xa_s1, xa_c1, h2]) (by simp [xa_s1, xa_c1, h3]) (by simp [xa_s1, xa_c1, h4]) (by simp [xa_s1, xa_c1, h5]) (by simp [xa_s1, xa_c1, h6]) (by simp [xa_s1, xa_c1]) (by omega) ck (by unfold xq_sp; split <;> omega) dd.2.1 hn1 yy1 tb1
      · simp only [if_neg ck]
        rw [if_pos (show L < k by omega)]
        simp (disch := omega) only [↓ra_140_94, ↓ra_140_96, xa_kli, xa_klr, xa_kll, xa_ki, xa_kl, xa_kr, xa_kii, xa_kk, xa_kir, xa_krr, xa_kiir, xa_krir, xa_kdup, xa_kdup2, xa_kcp, xa_gf, xa_pf, xa_ga, xa_pa, xa_gq, xa_pq, xa_gl, xa_args, xa_ri, xa_rz, xa_rv, xa_s1, xa_s2, xa_c1, eq_self, List.getElem?_cons_succ, List.getElem?_cons_zero, true_and, and_true, nI_add, pk_mul, xt_in, xt_cl, xt_i0, xt_i1, xa_kc, xa_w8, xa_fit, lg_sl, List.flatMap_cons, List.flatMap_nil, List.map_cons, List.map_nil, List.sum_cons, List.sum_nil, Value.category, List.length_cons, List.length_nil, List.length_append, xa_rc, xa_rf, exists_eq_left, exists_eq', Option.some.injEq, Sum.inr.injEq, Prod.mk.injEq, Option.toList_some, Option.toList_none, List.cons_append, List.nil_append, Nat.reduceAdd, Nat.reduceLeDiff, Nat.reduceLT, List.set_cons_zero, List.set_cons_succ, eq_self, or_true, true_or, reduceIte, xt_ne]
        exact xm2_n hn1 (xy_w hw iA yy1)
    by_cases c3 : xtk (yT A) s = 3
    · simp only [if_pos c3]
      have em : nI 1 - nI (xsm (yS A) s) = nI (xq_sp (yT A) (yS A) s) := by
        rw [xt_sub _ _ (by omega)]
        refine congrArg nI ?_
        unfold xq_sp
        by_cases c0 : xsm (yS A) s = 0
        · rw [if_pos ⟨c3, c0⟩]; omega
        · rw [if_neg (fun h => c0 h.2)]; omega
      simp (disch := omega) only [↓ra_140_76, ↓ra_140_77, ↓ra_140_78, ↓ra_140_79, ↓ra_140_82, ↓ra_140_83, ↓ra_140_87, xa_kli, xa_klr, xa_kll, xa_ki, xa_kl, xa_kr, xa_kii, xa_kk, xa_kir, xa_krr, xa_kiir, xa_krir, xa_kdup, xa_kdup2, xa_kcp, xa_gf, xa_pf, xa_ga, xa_pa, xa_gq, xa_pq, xa_gl, xa_args, xa_ri, xa_rz, xa_rv, xa_s1, xa_s2, xa_c1, eq_self, List.getElem?_cons_succ, List.getElem?_cons_zero, true_and, and_true, nI_add, pk_mul, xt_in, xt_cl, xt_i0, xt_i1, xa_kc, xa_w8, xa_fit, lg_sl, List.flatMap_cons, List.flatMap_nil, List.map_cons, List.map_nil, List.sum_cons, List.sum_nil, Value.category, List.length_cons, List.length_nil, List.length_append, xa_rc, xa_rf, exists_eq_left, exists_eq', Option.some.injEq, Sum.inr.injEq, Prod.mk.injEq, Option.toList_some, Option.toList_none, List.cons_append, List.nil_append, Nat.reduceAdd, Nat.reduceLeDiff, Nat.reduceLT, List.set_cons_zero, List.set_cons_succ, eq_self, or_true, true_or, reduceIte, xt_ne, h0, h1, k0, cm1, mx_102, em]
      exact rest _ (by simp [xa_s1, xa_c1, h0]) (by simp [xa_s1, xa_c1, h1]) (by simp [xa_s1, xa_c1, h2]) (by simp [xa_s1, xa_c1]) (by simp [xa_s1, xa_c1]) (by simp [xa_s1, xa_c1]) (by simp [xa_s1, xa_c1])
    · simp only [if_neg c3]
      have em : nI 0 = nI (xq_sp (yT A) (yS A) s) := by unfold xq_sp; rw [if_neg (fun h => c3 h.1)]
      simp (disch := omega) only [↓ra_140_86, ↓ra_140_87, xa_kli, xa_klr, xa_kll, xa_ki, xa_kl, xa_kr, xa_kii, xa_kk, xa_kir, xa_krr, xa_kiir, xa_krir, xa_kdup, xa_kdup2, xa_kcp, xa_gf, xa_pf, xa_ga, xa_pa, xa_gq, xa_pq, xa_gl, xa_args, xa_ri, xa_rz, xa_rv, xa_s1, xa_s2, xa_c1, eq_self, List.getElem?_cons_succ, List.getElem?_cons_zero, true_and, and_true, nI_add, pk_mul, xt_in, xt_cl, xt_i0, xt_i1, xa_kc, xa_w8, xa_fit, lg_sl, List.flatMap_cons, List.flatMap_nil, List.map_cons, List.map_nil, List.sum_cons, List.sum_nil, Value.category, List.length_cons, List.length_nil, List.length_append, xa_rc, xa_rf, exists_eq_left, exists_eq', Option.some.injEq, Sum.inr.injEq, Prod.mk.injEq, Option.toList_some, Option.toList_none, List.cons_append, List.nil_append, Nat.reduceAdd, Nat.reduceLeDiff, Nat.reduceLT, List.set_cons_zero, List.set_cons_succ, eq_self, or_true, true_or, reduceIte, xt_ne]
      exact rest _ (by simp [xa_s1, xa_c1, h0]) (by simp [xa_s1, xa_c1, h1]) (by simp [xa_s1, xa_c1, h2]) (by simp [xa_s1, xa_c1]) (by simp [xa_s1, xa_c1]) (by simp [xa_s1, xa_c1]) (by rw [← em]; simp [xa_s1, xa_c1])
  · simp only [if_neg ci]
    simp (disch := omega) only [↓ra_140_30, ↓ra_140_32, xa_kli, xa_klr, xa_kll, xa_ki, xa_kl, xa_kr, xa_kii, xa_kk, xa_kir, xa_krr, xa_kiir, xa_krir, xa_kdup, xa_kdup2, xa_kcp, xa_gf, xa_pf, xa_ga, xa_pa, xa_gq, xa_pq, xa_gl, xa_args, xa_ri, xa_rz, xa_rv, xa_s1, xa_s2, xa_c1, eq_self, List.getElem?_cons_succ, List.getElem?_cons_zero, true_and, and_true, nI_add, pk_mul, xt_in, xt_cl, xt_i0, xt_i1, xa_kc, xa_w8, xa_fit, lg_sl, List.flatMap_cons, List.flatMap_nil, List.map_cons, List.map_nil, List.sum_cons, List.sum_nil, Value.category, List.length_cons, List.length_nil, List.length_append, xa_rc, xa_rf, exists_eq_left, exists_eq', Option.some.injEq, Sum.inr.injEq, Prod.mk.injEq, Option.toList_some, Option.toList_none, List.cons_append, List.nil_append, Nat.reduceAdd, Nat.reduceLeDiff, Nat.reduceLT, List.set_cons_zero, List.set_cons_succ, eq_self, or_true, true_or, reduceIte, xt_ne]
    exact xm2_r hh
