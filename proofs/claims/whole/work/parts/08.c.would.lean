/-- he settles in q -/
def xq_set (S : xt_S) (s q : Nat) : xt_S := (xsd S, fun j => if j = s then 0 else xsh S j, fun j => if j = s then q else xsq S j, xss S, xsm S, xsp S)
def xq_out (S : xt_S) (s : Nat) : xt_S := (xsd S, fun j => if j = s then 1 else xsh S j, xsq S, fun j => if j = s then 0 else xss S j, xsm S, xsp S)
theorem xi_set {T : xt_T} {S : xt_S} {s q : Nat} (iT : xi_T T) (iS : xi_S T S) (hh : xsh S s ≤ 1) (hq : q < xC T) (hs : s < xnS T) : xi_S T (xq_set S s q) := by
  obtain ⟨⟨b1, -⟩, -⟩ := iT
  obtain ⟨d0, ds, dp⟩ := iS
  refine ⟨d0, fun j hj => ?_, dp⟩
  have d := ds j hj
  show (if j = s then 0 else xsh S j) ≤ 3 ∧ (if j = s then q else xsq S j) < xC T ∧ xss S j ≤ 61 ∧ xsm S j ≤ 2 ∧ ((if j = s then 0 else xsh S j) = 0 → xss S j < xN T ∧ xsm S j ≤ 1) ∧ ((if j = s then 0 else xsh S j) = 1 → xss S j = 0 ∧ xsm S j ≤ 1)
  by_cases e : j = s
  · subst e
    rw [if_pos rfl, if_pos rfl]
    refine ⟨by omega, hq, d.2.2.1, d.2.2.2.1, fun _ => ?_, fun h => by omega⟩
    rcases (show xsh S j = 0 ∨ xsh S j = 1 by omega) with h | h
    · exact d.2.2.2.2.1 h
    · have := d.2.2.2.2.2 h
      omega
  · rw [if_neg e, if_neg e]
    exact d
theorem xi_out {T : xt_T} {S : xt_S} {s : Nat} (iS : xi_S T S) (hh : xsh S s ≤ 1) : xi_S T (xq_out S s) := by
  obtain ⟨d0, ds, dp⟩ := iS
  refine ⟨d0, fun j hj => ?_, dp⟩
  have d := ds j hj
  show (if j = s then 1 else xsh S j) ≤ 3 ∧ xsq S j < xC T ∧ (if j = s then 0 else xss S j) ≤ 61 ∧ xsm S j ≤ 2 ∧ ((if j = s then 1 else xsh S j) = 0 → (if j = s then 0 else xss S j) < xN T ∧ xsm S j ≤ 1) ∧ ((if j = s then 1 else xsh S j) = 1 → (if j = s then 0 else xss S j) = 0 ∧ xsm S j ≤ 1)
  by_cases e : j = s
  · subst e
    rw [if_pos rfl, if_pos rfl]
    refine ⟨by omega, d.2.1, by omega, d.2.2.2.1, fun h => by omega, fun _ => ⟨rfl, ?_⟩⟩
    rcases (show xsh S j = 0 ∨ xsh S j = 1 by omega) with h | h
    · exact (d.2.2.2.2.1 h).2
    · exact (d.2.2.2.2.2 h).2
  · rw [if_neg e, if_neg e]
    exact d
/-- in how many days he is free if he lives in q from now on -/
def xq_fr (T : xt_T) (S : xt_S) (s q : Nat) : Option Nat × xt_S :=
  let r := xq_end T s 99 0 (if xsh S s = 0 ∧ xsq S s = q then S else xq_set S s q)
  (if xsh r.2 s = 3 then r.1 else none, r.2)
theorem xi_end {T : xt_T} {s : Nat} (iT : xi_T T) : ∀ (r d : Nat) (S : xt_S), xi_S T S → xsd S + r ≤ 100000 → xi_S T (xq_end T s r d S).2
  | 0, _, _, h, _ => h
  | r + 1, d, S, h, hd => by
    unfold xq_end
    split
    · exact h
    · exact xi_end iT r (d + 1) (xq_day T S) (xi_day iT h (by omega)) (by show xsd S + 1 + r ≤ _; omega)
theorem pc_daysToFree {M : xa_M} {b : Nat} {T : xt_T} {S S0 : xt_S} (hO : xh_O M b) (hT : xh_T M (b + 4) T) (hS : xh_S M (b + 22) (xnS T) (xnM T) S) (hN : xh_S M (b + 28) 0 0 S0) (iT : xi_T T) (iS : xi_S T S) (hd : xsd S ≤ 9000) (s q : Nat) (hs : s < xnS T) (hq : q < xC T) (hh : xsh S s ≤ 1) :
    ∃ z, xa_E 83 0 (xa_ent [.ref b, .int (nI s), .int (nI q)]) [] M z ∧ z.1 = some (.int (xt_o (xq_fr T S s q).1)) ∧ xa_fr (b + 28) (b + 34) M z.2 ∧ ∃ S1, xh_S z.2 (b + 28) 0 0 S1 := by
  obtain ⟨⟨b1, b2, b3, b4, b5, b6, b7, b8⟩, bs, bm, bw⟩ := id iT
  have o0 : xh_O M b := hO
  unfold xh_O at o0
  refine xa_ge3 (fun lv h0 h1 h2 => ?_)
  obtain ⟨⟨z1, M1⟩, cE, c1, f1, hS1⟩ := pc_copyS hN hS (by omega) b6 b7
  have c1 : z1 = none := c1
  subst c1
  dsimp only at f1 hS1
  have n0 := hN.1
  have m0 := hS.1
  have u0 := hS1.1
  have o1 := (f1.1 b (by omega)).trans o0
  have dd := iS.2.1 s hs
  have cl := xa_iff (pc_livesIn hS1 s q hs b6 (by omega) (by omega) (by omega))
  simp (disch := omega) only [↓ra_83_0, ↓ra_83_1, ↓ra_83_4, ↓ra_83_5, ↓ra_83_8, ↓ra_83_11, ↓ra_83_12, ↓ra_83_15, ↓ra_83_16, ↓ra_83_17, ↓ra_83_20, xa_kli, xa_klr, xa_kll, xa_ki, xa_kl, xa_kr, xa_kii, xa_kk, xa_kir, xa_krr, xa_kiir, xa_krir, xa_kdup, xa_kdup2, xa_kcp, xa_gf, xa_pf, xa_ga, xa_pa, xa_gq, xa_pq, xa_gl, xa_args, xa_ri, xa_rz, xa_rv, xa_s1, xa_s2, xa_c1, eq_self, List.getElem?_cons_succ, List.getElem?_cons_zero, true_and, and_true, nI_add, pk_mul, xt_in, xt_cl, xt_i0, xt_i1, xa_kc, xa_w8, xa_fit, lg_sl, List.flatMap_cons, List.flatMap_nil, List.map_cons, List.map_nil, List.sum_cons, List.sum_nil, Value.category, List.length_cons, List.length_nil, List.length_append, xa_rc, xa_rf, exists_eq_left, exists_eq', Option.some.injEq, Sum.inr.injEq, Prod.mk.injEq, Option.toList_some, Option.toList_none, List.cons_append, List.nil_append, Nat.reduceAdd, Nat.reduceLeDiff, Nat.reduceLT, List.set_cons_zero, List.set_cons_succ, eq_self, or_true, true_or, reduceIte, xt_ne, h0, h1, h2, o0, n0, m0, u0, o1, xa_iff cE, mx_9, cl, mx_11, xt_b0]
  have rest : ∀ (M2 : xa_M) (S2 : xt_S), S2 = (if xsh S s = 0 ∧ xsq S s = q then S else xq_set S s q) → xa_fr (b + 28) (b + 34) M M2 → xh_S M2 (b + 28) (xnS T) (xnM T) S2 → xi_S T S2 → xsd S2 ≤ 9000 → ∃ z, xa_E 83 32 lv [] M2 z ∧ z.1 = some (.int (xt_o (xq_fr T S s q).1)) ∧ xa_fr (b + 28) (b + 34) M z.2 ∧ ∃ S1, xh_S z.2 (b + 28) 0 0 S1 := by
    intro M2 S2 hS2e fr hS2 iS2 hd2
    have o2 := (fr.1 b (by omega)).trans o0
    obtain ⟨⟨z3, M3⟩, cE3, c3, f3, hS3⟩ := pc_daysToEnd (b := b) o2 (xh_T_fr hT fr (by omega)) hS2 iT iS2 (by omega) s hs
    have c3 : z3 = _ := c3
    subst c3
    dsimp only at f3 hS3
    have o3 := (f3.1 b (by omega)).trans o2
    obtain ⟨v0, ⟨g1, v1, e1⟩, -⟩ := id hS3
    have e1 := e1 s hs
    have i3 := xi_end (s := s) iT 99 0 S2 iS2 (by omega)
    have i3 := (i3.2.1 s hs).1
    simp (disch := omega) only [↓ra_83_32, ↓ra_83_33, ↓ra_83_34, ↓ra_83_37, ↓ra_83_38, ↓ra_83_39, ↓ra_83_42, ↓ra_83_45, ↓ra_83_46, ↓ra_83_47, ↓ra_83_48, xa_kli, xa_klr, xa_kll, xa_ki, xa_kl, xa_kr, xa_kii, xa_kk, xa_kir, xa_krr, xa_kiir, xa_krir, xa_kdup, xa_kdup2, xa_kcp, xa_gf, xa_pf, xa_ga, xa_pa, xa_gq, xa_pq, xa_gl, xa_args, xa_ri, xa_rz, xa_rv, xa_s1, xa_s2, xa_c1, eq_self, List.getElem?_cons_succ, List.getElem?_cons_zero, true_and, and_true, nI_add, pk_mul, xt_in, xt_cl, xt_i0, xt_i1, xa_kc, xa_w8, xa_fit, lg_sl, List.flatMap_cons, List.flatMap_nil, List.map_cons, List.map_nil, List.sum_cons, List.sum_nil, Value.category, List.length_cons, List.length_nil, List.length_append, xa_rc, xa_rf, exists_eq_left, exists_eq', Option.some.injEq, Sum.inr.injEq, Prod.mk.injEq, Option.toList_some, Option.toList_none, List.cons_append, List.nil_append, Nat.reduceAdd, Nat.reduceLeDiff, Nat.reduceLT, List.set_cons_zero, List.set_cons_succ, eq_self, or_true, true_or, reduceIte, xt_ne, h0, h1, h2, o2, o3, v0, v1, e1, xa_iff cE3, mx_82, xt_eq]
    have fin : ∀ z : Int32, z = xt_o (xq_fr T S s q).1 → ∃ y : xa_Z, y = (some (.int z), M3) ∧ y.1 = some (.int (xt_o (xq_fr T S s q).1)) ∧ xa_fr (b + 28) (b + 34) M y.2 ∧ ∃ S1, xh_S y.2 (b + 28) 0 0 S1 := fun z hz => ⟨_, rfl, by rw [hz], xa_fr_tr fr f3, _, xh_S0 hS3⟩
    by_cases c : xsh (xq_end T s 99 0 S2).2 s = 3
    · simp only [if_pos c]
      simp (disch := omega) only [↓ra_83_51, ↓ra_83_52, ↓ra_83_55, ↓ra_83_57, xa_kli, xa_klr, xa_kll, xa_ki, xa_kl, xa_kr, xa_kii, xa_kk, xa_kir, xa_krr, xa_kiir, xa_krir, xa_kdup, xa_kdup2, xa_kcp, xa_gf, xa_pf, xa_ga, xa_pa, xa_gq, xa_pq, xa_gl, xa_args, xa_ri, xa_rz, xa_rv, xa_s1, xa_s2, xa_c1, eq_self, List.getElem?_cons_succ, List.getElem?_cons_zero, true_and, and_true, nI_add, pk_mul, xt_in, xt_cl, xt_i0, xt_i1, xa_kc, xa_w8, xa_fit, lg_sl, List.flatMap_cons, List.flatMap_nil, List.map_cons, List.map_nil, List.sum_cons, List.sum_nil, Value.category, List.length_cons, List.length_nil, List.length_append, xa_rc, xa_rf, exists_eq_left, exists_eq', Option.some.injEq, Sum.inr.injEq, Prod.mk.injEq, Option.toList_some, Option.toList_none, List.cons_append, List.nil_append, Nat.reduceAdd, Nat.reduceLeDiff, Nat.reduceLT, List.set_cons_zero, List.set_cons_succ, eq_self, or_true, true_or, reduceIte, xt_ne]
      refine ⟨?_, xa_fr_tr fr f3, _, xh_S0 hS3⟩
      unfold xq_fr
      rw [← hS2e]
      dsimp only
      rw [if_pos c]
    · simp only [if_neg c]
      simp (disch := omega) only [↓ra_83_55, ↓ra_83_57, xa_kli, xa_klr, xa_kll, xa_ki, xa_kl, xa_kr, xa_kii, xa_kk, xa_kir, xa_krr, xa_kiir, xa_krir, xa_kdup, xa_kdup2, xa_kcp, xa_gf, xa_pf, xa_ga, xa_pa, xa_gq, xa_pq, xa_gl, xa_args, xa_ri, xa_rz, xa_rv, xa_s1, xa_s2, xa_c1, eq_self, List.getElem?_cons_succ, List.getElem?_cons_zero, true_and, and_true, nI_add, pk_mul, xt_in, xt_cl, xt_i0, xt_i1, xa_kc, xa_w8, xa_fit, lg_sl, List.flatMap_cons, List.flatMap_nil, List.map_cons, List.map_nil, List.sum_cons, List.sum_nil, Value.category, List.length_cons, List.length_nil, List.length_append, xa_rc, xa_rf, exists_eq_left, exists_eq', Option.some.injEq, Sum.inr.injEq, Prod.mk.injEq, Option.toList_some, Option.toList_none, List.cons_append, List.nil_append, Nat.reduceAdd, Nat.reduceLeDiff, Nat.reduceLT, List.set_cons_zero, List.set_cons_succ, eq_self, or_true, true_or, reduceIte, xt_ne]
      refine ⟨?_, xa_fr_tr fr f3, _, xh_S0 hS3⟩
      unfold xq_fr
      rw [← hS2e]
      dsimp only
      rw [if_neg c]
      rfl
  by_cases c : xsh S s = 0 ∧ xsq S s = q
  · simp only [c, not_true_eq_false, if_false]
    exact rest M1 S (by rw [if_pos c]) f1 hS1 iS hd
  · obtain ⟨⟨z2, M2⟩, cE2, c2, f2, hS2⟩ := pc_settle hS1 s q hs b6
    have c2 : z2 = none := c2
    subst c2
    dsimp only at f2 hS2
    simp only [c, not_false_eq_true, if_true]
    simp (disch := omega) only [↓ra_83_23, ↓ra_83_24, ↓ra_83_27, ↓ra_83_28, ↓ra_83_29, xa_kli, xa_klr, xa_kll, xa_ki, xa_kl, xa_kr, xa_kii, xa_kk, xa_kir, xa_krr, xa_kiir, xa_krir, xa_kdup, xa_kdup2, xa_kcp, xa_gf, xa_pf, xa_ga, xa_pa, xa_gq, xa_pq, xa_gl, xa_args, xa_ri, xa_rz, xa_rv, xa_s1, xa_s2, xa_c1, eq_self, List.getElem?_cons_succ, List.getElem?_cons_zero, true_and, and_true, nI_add, pk_mul, xt_in, xt_cl, xt_i0, xt_i1, xa_kc, xa_w8, xa_fit, lg_sl, List.flatMap_cons, List.flatMap_nil, List.map_cons, List.map_nil, List.sum_cons, List.sum_nil, Value.category, List.length_cons, List.length_nil, List.length_append, xa_rc, xa_rf, exists_eq_left, exists_eq', Option.some.injEq, Sum.inr.injEq, Prod.mk.injEq, Option.toList_some, Option.toList_none, List.cons_append, List.nil_append, Nat.reduceAdd, Nat.reduceLeDiff, Nat.reduceLT, List.set_cons_zero, List.set_cons_succ, eq_self, or_true, true_or, reduceIte, xt_ne, h0, h1, h2, o1, u0, xa_iff cE2, mx_12]
    exact rest M2 (xq_set S s q) (by rw [if_neg c]) (xa_fr_tr f1 f2) hS2 (xi_set iT iS hh hq hs) hd
