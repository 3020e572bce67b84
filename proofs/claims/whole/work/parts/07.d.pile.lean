theorem xh_S0 {M : xa_M} {k nS nM : Nat} {S : xt_S} (h : xh_S M k nS nM S) : xh_S M k 0 0 S := by
  obtain ⟨h0, h1, h2, h3, h4, h5⟩ := h
  exact ⟨h0, xa_ar_mono h1 (by omega), xa_ar_mono h2 (by omega), xa_ar_mono h3 (by omega), xa_ar_mono h4 (by omega), xa_ar_mono h5 (by omega)⟩
/-- a Pile at p, of n places: which Standing lies where, what the lowest hold -/
def xh_P (M : xa_M) (p n nS nM size : Nat) (L : Nat → xt_S) : Prop := ∃ (g : Nat → Option Nat) (σ : Nat → Nat), M.1 p = some (.inr (0, [.ref (p + 1), .int (nI size)])) ∧ M.1 (p + 1) = some (.inl (3, n, .inr (.inr (.inr (.inr g))))) ∧ (∀ i, i < n → σ i < n ∧ g i = some (p + 2 + 6 * σ i)) ∧ (∀ i j, i < n → j < n → σ i = σ j → i = j) ∧ (∀ i, i < size → xh_S M (p + 2 + 6 * σ i) nS nM (L i)) ∧ (∀ i, i < n → ∃ S0, xh_S M (p + 2 + 6 * σ i) 0 0 S0) ∧ size ≤ n
theorem xh_P_fr {M M1 : xa_M} {p n nS nM size lo hi : Nat} {L : Nat → xt_S} (h : xh_P M p n nS nM size L) (hf : xa_fr lo hi M M1) (ha : p + 2 + 6 * n ≤ lo ∨ hi ≤ p) : xh_P M1 p n nS nM size L := by
  obtain ⟨g, σ, h1, h2, h3, h4, h5, h6, h7⟩ := h
  have hb : ∀ i, i < n → p + 2 + 6 * σ i + 6 ≤ lo ∨ hi ≤ p + 2 + 6 * σ i := fun i hi => by have := (h3 i hi).1; omega
  exact ⟨g, σ, by rw [hf.1 p (by omega)]; exact h1, by rw [hf.1 (p + 1) (by omega)]; exact h2, h3, h4, fun i hi => xh_S_fr (h5 i hi) hf (hb i (by omega)), fun i hi => (h6 i hi).imp (fun _ h => xh_S_fr h hf (hb i hi)), h7⟩
theorem xt_va {f : Nat → Option Nat} (k : Nat) (x : Option Nat) (j : Nat) : va_up f k x j = if j = k then x else f j := rfl
theorem pc_loseLowest {M : xa_M} {p n nS nM : Nat} {L : Nat → xt_S} (hP : xh_P M p n nS nM n L) (hn : 1 ≤ n) (hn2 : n ≤ 8) :
    ∃ z, xa_E 2 0 (xa_ent [.ref p]) [] M z ∧ z.1 = none ∧ xa_fr p (p + 2 + 6 * n) M z.2 ∧ xh_P z.2 p n nS nM (n - 1) (fun i => L (i + 1)) := by
  obtain ⟨g, σ, p0, p1, p2, p3, p4, p5, p6⟩ := hP
  have p20 := p2 0 (by omega)
  refine xa_ge1 (fun lv h0 => ?_)
  have obj : ∀ i, i < n → ∃ fs, M.1 (p + 2 + 6 * σ i) = some (.inr (2, fs)) := fun i hi => by obtain ⟨S0, h, -⟩ := p5 i hi; exact ⟨_, h⟩
  have loop : ∀ (k i : Nat) (lv : xa_L) (M1 : xa_M), lv 0 = some (.ref p) → lv 1 = some (.ref (p + 2 + 6 * σ 0)) → lv 2 = some (.int (nI (i + 1))) → i + 1 + k = n → (∀ a, a ≠ p + 1 → M1.1 a = M.1 a) → M1.2 = M.2 → (∃ g1, M1.1 (p + 1) = some (.inl (3, n, .inr (.inr (.inr (.inr g1))))) ∧ ∀ j, j < n → g1 j = if j < i then g (j + 1) else g j) → ∃ z, xa_E 2 9 lv [] M1 z ∧ z.1 = none ∧ xa_fr p (p + 2 + 6 * n) M z.2 ∧ xh_P z.2 p n nS nM (n - 1) (fun i => L (i + 1)) := by
    intro k
    induction k with
    | zero =>
      intro i lv M1 h0 h1 h2 e fr fr2 hg
      obtain ⟨g1, q1, q2⟩ := hg
      have e : i = n - 1 := by omega
      subst e
      have q0 : M1.1 p = _ := (fr p (by omega)).trans p0
      have ob : M1.1 (p + 2 + 6 * σ 0) = M.1 (p + 2 + 6 * σ 0) := fr _ (by omega)
      obtain ⟨fs, ob0⟩ := obj 0 (by omega)
      rw [ob0] at ob
      simp (disch := omega) only [↓ra_2_9, ↓ra_2_10, ↓ra_2_11, ↓ra_2_14, ↓ra_2_15, ↓ra_2_38, ↓ra_2_39, ↓ra_2_40, ↓ra_2_43, ↓ra_2_44, ↓ra_2_45, ↓ra_2_46, ↓ra_2_49, ↓ra_2_50, ↓ra_2_53, ↓ra_2_54, ↓ra_2_57, ↓ra_2_58, ↓ra_2_59, xa_kli, xa_klr, xa_kll, xa_ki, xa_kl, xa_kr, xa_kii, xa_kk, xa_kir, xa_krr, xa_kiir, xa_krir, xa_kdup, xa_kdup2, xa_kcp, xa_gf, xa_pf, xa_ga, xa_pa, xa_gq, xa_pq, xa_gl, xa_args, xa_ri, xa_rz, xa_rv, xa_s1, xa_s2, xa_c1, eq_self, List.getElem?_cons_succ, List.getElem?_cons_zero, true_and, and_true, nI_add, pk_mul, xt_in, xt_cl, xt_i0, xt_i1, xa_kc, xa_w8, xa_fit, lg_sl, List.flatMap_cons, List.flatMap_nil, List.map_cons, List.map_nil, List.sum_cons, List.sum_nil, Value.category, List.length_cons, List.length_nil, List.length_append, xa_rc, xa_rf, exists_eq_left, exists_eq', Option.some.injEq, Sum.inr.injEq, Prod.mk.injEq, Option.toList_some, Option.toList_none, List.cons_append, List.nil_append, Nat.reduceAdd, Nat.reduceLeDiff, Nat.reduceLT, List.set_cons_zero, List.set_cons_succ, eq_self, or_true, true_or, reduceIte, xt_ne, h0, h1, h2, q0, q1, ob, xt_st, xt_le, xt_sub, if_true, Nat.sub_add_cancel, Nat.le_refl]
      refine ⟨⟨fun a ha => ?_, ?_⟩, va_up g1 (n - 1) (some (p + 2 + 6 * σ 0)), fun i => if i < n - 1 then σ (i + 1) else σ 0, ?_, ?_, fun i hi => ?_, fun i j hi hj hij => ?_, fun i hi => ?_, fun i hi => ?_, by omega⟩
      · rw [xt_st, xt_st, if_neg (by omega), if_neg (by omega)]; exact fr a (by omega)
      · exact fr2
      · rw [xt_st, xt_st, if_neg (by omega), if_pos rfl]
      · rw [xt_st, if_pos rfl]
      · dsimp only
        rw [xt_va]
        by_cases c : i < n - 1
        · have := p2 (i + 1) (by omega)
          rw [if_pos c, if_neg (by omega), q2 i hi, if_pos c]
          exact this
        · rw [if_neg c, if_pos (by omega)]
          exact ⟨p20.1, rfl⟩
      · dsimp only at hij
        by_cases c : i < n - 1 <;> by_cases d : j < n - 1
        · rw [if_pos c, if_pos d] at hij
          have := p3 (i + 1) (j + 1) (by omega) (by omega) hij
          omega
        · rw [if_pos c, if_neg d] at hij
          have := p3 (i + 1) 0 (by omega) (by omega) hij
          omega
        · rw [if_neg c, if_pos d] at hij
          have := p3 0 (j + 1) (by omega) (by omega) hij
          omega
        · omega
      · dsimp only
        rw [if_pos hi]
        have hx := (p2 (i + 1) (by omega)).1
        have f2 : xa_fr p (p + 2) M (xa_st (xa_st M1 p (.inr (0, [.ref (p + 1), .int (nI (n - 1))]))) (p + 1) (.inl (3, n, .inr (.inr (.inr (.inr (va_up g1 (n - 1) (some (p + 2 + 6 * σ 0))))))))) := ⟨fun a ha => by rw [xt_st, xt_st, if_neg (by omega), if_neg (by omega)]; exact fr a (by omega), fr2⟩
        exact xh_S_fr (p4 (i + 1) (by omega)) f2 (by omega)
      · dsimp only
        have f2 : xa_fr p (p + 2) M (xa_st (xa_st M1 p (.inr (0, [.ref (p + 1), .int (nI (n - 1))]))) (p + 1) (.inl (3, n, .inr (.inr (.inr (.inr (va_up g1 (n - 1) (some (p + 2 + 6 * σ 0))))))))) := ⟨fun a ha => by rw [xt_st, xt_st, if_neg (by omega), if_neg (by omega)]; exact fr a (by omega), fr2⟩
        by_cases c : i < n - 1
        · rw [if_pos c]
          exact (p5 (i + 1) (by omega)).imp (fun _ h => xh_S_fr h f2 (by omega))
        · rw [if_neg c]
          exact (p5 0 (by omega)).imp (fun _ h => xh_S_fr h f2 (by omega))
    | succ k ih =>
      intro i lv M1 h0 h1 h2 e fr fr2 hg
      obtain ⟨g1, q1, q2⟩ := hg
      have q0 : M1.1 p = _ := (fr p (by omega)).trans p0
      have gi : g1 (i + 1) = some (p + 2 + 6 * σ (i + 1)) := by rw [q2 (i + 1) (by omega), if_neg (by omega)]; exact (p2 (i + 1) (by omega)).2
      have ob : M1.1 (p + 2 + 6 * σ (i + 1)) = M.1 (p + 2 + 6 * σ (i + 1)) := fr _ (by omega)
      obtain ⟨fs, ob0⟩ := obj (i + 1) (by omega)
      rw [ob0] at ob
      simp (disch := omega) only [↓ra_2_9, ↓ra_2_10, ↓ra_2_11, ↓ra_2_14, ↓ra_2_15, xa_kli, xa_klr, xa_kll, xa_ki, xa_kl, xa_kr, xa_kii, xa_kk, xa_kir, xa_krr, xa_kiir, xa_krir, xa_kdup, xa_kdup2, xa_kcp, xa_gf, xa_pf, xa_ga, xa_pa, xa_gq, xa_pq, xa_gl, xa_args, xa_ri, xa_rz, xa_rv, xa_s1, xa_s2, xa_c1, eq_self, List.getElem?_cons_succ, List.getElem?_cons_zero, true_and, and_true, nI_add, pk_mul, xt_in, xt_cl, xt_i0, xt_i1, h0, h1, h2, q0, q1, xt_le, true_or, or_true]
      simp only [if_neg (show ¬ n ≤ i + 1 by omega)]
      simp (disch := omega) only [↓ra_2_18, ↓ra_2_19, ↓ra_2_22, ↓ra_2_23, ↓ra_2_24, ↓ra_2_25, ↓ra_2_26, ↓ra_2_29, ↓ra_2_30, ↓ra_2_31, ↓ra_2_32, ↓ra_2_35, xa_kli, xa_klr, xa_kll, xa_ki, xa_kl, xa_kr, xa_kii, xa_kk, xa_kir, xa_krr, xa_kiir, xa_krir, xa_kdup, xa_kdup2, xa_kcp, xa_gf, xa_pf, xa_ga, xa_pa, xa_gq, xa_pq, xa_gl, xa_args, xa_ri, xa_rz, xa_rv, xa_s1, xa_s2, xa_c1, eq_self, List.getElem?_cons_succ, List.getElem?_cons_zero, true_and, and_true, nI_add, pk_mul, xt_in, xt_cl, xt_i0, xt_i1, xa_kc, xa_w8, xa_fit, lg_sl, List.flatMap_cons, List.flatMap_nil, List.map_cons, List.map_nil, List.sum_cons, List.sum_nil, Value.category, List.length_cons, List.length_nil, List.length_append, xa_rc, xa_rf, exists_eq_left, exists_eq', Option.some.injEq, Sum.inr.injEq, Prod.mk.injEq, Option.toList_some, Option.toList_none, List.cons_append, List.nil_append, Nat.reduceAdd, Nat.reduceLeDiff, Nat.reduceLT, List.set_cons_zero, List.set_cons_succ, eq_self, or_true, true_or, reduceIte, xt_ne, h0, h1, h2, q0, q1, ob, gi, xt_st, xt_sub, Nat.add_sub_cancel]
      refine ih (i + 1) _ _ (by simp [xa_s1, h0]) (by simp [xa_s1, xa_c1, h1]) (by simp [xa_s1]) (by omega) (fun a ha => by rw [xt_st, if_neg ha]; exact fr a ha) fr2 ⟨_, xa_st_eq, fun j hj => ?_⟩
      rw [xt_va]
      by_cases c : j = i
      · subst c
        rw [if_pos rfl, if_pos (by omega)]
        exact ((p2 (j + 1) (by omega)).2).symm
      · rw [if_neg c, q2 j hj]
        by_cases d : j < i
        · rw [if_pos d, if_pos (by omega)]
        · rw [if_neg d, if_neg (by omega)]
  simp (disch := omega) only [↓ra_2_0, ↓ra_2_1, ↓ra_2_4, ↓ra_2_5, ↓ra_2_6, ↓ra_2_7, ↓ra_2_8, xa_kli, xa_klr, xa_kll, xa_ki, xa_kl, xa_kr, xa_kii, xa_kk, xa_kir, xa_krr, xa_kiir, xa_krir, xa_kdup, xa_kdup2, xa_kcp, xa_gf, xa_pf, xa_ga, xa_pa, xa_gq, xa_pq, xa_gl, xa_args, xa_ri, xa_rz, xa_rv, xa_s1, xa_s2, xa_c1, eq_self, List.getElem?_cons_succ, List.getElem?_cons_zero, true_and, and_true, nI_add, pk_mul, xt_in, xt_cl, xt_i0, xt_i1, h0, p0, p1, p20.2, true_or, or_true]
  exact loop (n - 1) 0 _ M (by simp [xa_s1, xa_c1, h0]) (by simp [xa_s1, xa_c1]) (by simp [xa_s1]) (by omega) (fun _ _ => rfl) rfl ⟨g, p1, fun j _ => rfl⟩
/-- what lies on a Pile of n places behind a put -/
def xq_put (n size : Nat) (L : Nat → xt_S) (S : xt_S) : Nat → xt_S := if size < n then (fun i => if i = size then S else L i) else (fun i => if i = n - 1 then S else L (i + 1))
def xq_pz (n size : Nat) : Nat := if size < n then size + 1 else n
theorem pc_put {M : xa_M} {p k n nS nM size : Nat} {L : Nat → xt_S} {S : xt_S} (hP : xh_P M p n nS nM size L) (hS : xh_S M k nS nM S) (hk : k + 6 ≤ p ∨ p + 2 + 6 * n ≤ k) (hn : 1 ≤ n) (hn2 : n ≤ 8) (hs : nS ≤ 6) (hm : nM ≤ 6) :
    ∃ z, xa_E 1 0 (xa_ent [.ref p, .ref k]) [] M z ∧ z.1 = none ∧ xa_fr p (p + 2 + 6 * n) M z.2 ∧ xh_P z.2 p n nS nM (xq_pz n size) (xq_put n size L S) := by
  refine xa_ge2 (fun lv h0 h1 => ?_)
  have rest : ∀ (M1 : xa_M) (sz : Nat) (L1 : Nat → xt_S), sz < n → xa_fr p (p + 2 + 6 * n) M M1 → xh_P M1 p n nS nM sz L1 → ∃ z, xa_E 1 16 lv [] M1 z ∧ z.1 = none ∧ xa_fr p (p + 2 + 6 * n) M z.2 ∧ xh_P z.2 p n nS nM (sz + 1) (fun i => if i = sz then S else L1 i) := by
    intro M1 sz L1 hsz fr hP1
    obtain ⟨g, σ, p0, p1, p2, p3, p4, p5, p6⟩ := hP1
    have hS1 := xh_S_fr hS fr (by omega)
    have ps := p2 sz hsz
    obtain ⟨S0, c0⟩ := p5 sz hsz
    obtain ⟨⟨z1, M2⟩, cE, c1, c2, c3⟩ := pc_copyS c0 hS1 (by omega) hs hm
    have c1 : z1 = none := c1
    subst c1
    dsimp only at c2 c3
    have q0 : M2.1 p = _ := (c2.1 p (by omega)).trans p0
    have ob := c0.1
    simp (disch := omega) only [↓ra_1_16, ↓ra_1_17, ↓ra_1_20, ↓ra_1_21, ↓ra_1_24, ↓ra_1_25, ↓ra_1_26, ↓ra_1_29, ↓ra_1_30, ↓ra_1_31, ↓ra_1_34, ↓ra_1_35, ↓ra_1_36, ↓ra_1_39, xa_kli, xa_klr, xa_kll, xa_ki, xa_kl, xa_kr, xa_kii, xa_kk, xa_kir, xa_krr, xa_kiir, xa_krir, xa_kdup, xa_kdup2, xa_kcp, xa_gf, xa_pf, xa_ga, xa_pa, xa_gq, xa_pq, xa_gl, xa_args, xa_ri, xa_rz, xa_rv, xa_s1, xa_s2, xa_c1, eq_self, List.getElem?_cons_succ, List.getElem?_cons_zero, true_and, and_true, nI_add, pk_mul, xt_in, xt_cl, xt_i0, xt_i1, xa_kc, xa_w8, xa_fit, lg_sl, List.flatMap_cons, List.flatMap_nil, List.map_cons, List.map_nil, List.sum_cons, List.sum_nil, Value.category, List.length_cons, List.length_nil, List.length_append, xa_rc, xa_rf, exists_eq_left, exists_eq', Option.some.injEq, Sum.inr.injEq, Prod.mk.injEq, Option.toList_some, Option.toList_none, List.cons_append, List.nil_append, Nat.reduceAdd, Nat.reduceLeDiff, Nat.reduceLT, List.set_cons_zero, List.set_cons_succ, eq_self, or_true, true_or, reduceIte, xt_ne, h0, h1, p0, p1, ps.2, ob, xa_iff cE, mx_9, q0]
    have f2 : xa_fr (p + 2 + 6 * σ sz) (p + 2 + 6 * σ sz + 6) M1 M2 := c2
    have f3 : xa_fr p (p + 1) M2 (xa_st M2 p (.inr (0, [.ref (p + 1), .int (nI (sz + 1))]))) := xa_fr_st (by omega) (by omega)
    refine ⟨xa_fr_tr (xa_fr_tr fr (xa_fr_w f2 (by omega) (by omega))) (xa_fr_w f3 (by omega) (by omega)), g, σ, xa_st_eq, (xa_st_ne (by omega)).trans ((c2.1 (p + 1) (by omega)).trans p1), p2, p3, fun i hi => ?_, fun i hi => ?_, by omega⟩
    · dsimp only
      by_cases c : i = sz
      · subst c
        rw [if_pos rfl]
        exact xh_S_fr c3 f3 (by omega)
      · rw [if_neg c]
        have hne : σ i ≠ σ sz := fun h => c (p3 i sz (by omega) hsz h)
        exact xh_S_fr (xh_S_fr (p4 i (by omega)) f2 (by omega)) f3 (by omega)
    · by_cases c : i = sz
      · subst c
        exact ⟨S, xh_S_fr (xh_S0 c3) f3 (by omega)⟩
      · have hne : σ i ≠ σ sz := fun h => c (p3 i sz hi hsz h)
        exact (p5 i hi).imp (fun _ h => xh_S_fr (xh_S_fr h f2 (by omega)) f3 (by omega))
  obtain ⟨g, σ, p0, p1, -, -, -, -, p6⟩ := id hP
  simp (disch := omega) only [↓ra_1_0, ↓ra_1_1, ↓ra_1_4, ↓ra_1_5, ↓ra_1_8, ↓ra_1_9, xa_kli, xa_klr, xa_kll, xa_ki, xa_kl, xa_kr, xa_kii, xa_kk, xa_kir, xa_krr, xa_kiir, xa_krir, xa_kdup, xa_kdup2, xa_kcp, xa_gf, xa_pf, xa_ga, xa_pa, xa_gq, xa_pq, xa_gl, xa_args, xa_ri, xa_rz, xa_rv, xa_s1, xa_s2, xa_c1, eq_self, List.getElem?_cons_succ, List.getElem?_cons_zero, true_and, and_true, nI_add, pk_mul, xt_in, xt_cl, xt_i0, xt_i1, h0, p0, p1, xt_lt, or_true]
  by_cases c : size < n
  · simp only [if_pos c]
    have := rest M size L c xa_fr_rf hP
    unfold xq_pz xq_put
    rw [if_pos c, if_pos c]
    exact this
  · have e : size = n := by omega
    subst e
    obtain ⟨⟨z1, M2⟩, cE, c1, c2, c3⟩ := pc_loseLowest hP hn hn2
    have c1 : z1 = none := c1
    subst c1
    dsimp only at c2 c3
    simp only [if_neg c]
    simp (disch := omega) only [↓ra_1_12, ↓ra_1_13, xa_kli, xa_klr, xa_kll, xa_ki, xa_kl, xa_kr, xa_kii, xa_kk, xa_kir, xa_krr, xa_kiir, xa_krir, xa_kdup, xa_kdup2, xa_kcp, xa_gf, xa_pf, xa_ga, xa_pa, xa_gq, xa_pq, xa_gl, xa_args, xa_ri, xa_rz, xa_rv, xa_s1, xa_s2, xa_c1, eq_self, List.getElem?_cons_succ, List.getElem?_cons_zero, true_and, and_true, nI_add, pk_mul, xt_in, xt_cl, xt_i0, xt_i1, xa_kc, xa_w8, xa_fit, lg_sl, List.flatMap_cons, List.flatMap_nil, List.map_cons, List.map_nil, List.sum_cons, List.sum_nil, Value.category, List.length_cons, List.length_nil, List.length_append, xa_rc, xa_rf, exists_eq_left, exists_eq', Option.some.injEq, Sum.inr.injEq, Prod.mk.injEq, Option.toList_some, Option.toList_none, List.cons_append, List.nil_append, Nat.reduceAdd, Nat.reduceLeDiff, Nat.reduceLT, List.set_cons_zero, List.set_cons_succ, eq_self, or_true, true_or, reduceIte, xt_ne, h0, p0, xa_iff cE, mx_2]
    have := rest M2 (size - 1) _ (by omega) c2 c3
    unfold xq_pz xq_put
    rw [if_neg c, if_neg c]
    rw [show size - 1 + 1 = size by omega] at this
    exact this
theorem pc_takeInto {M : xa_M} {p k n nS nM size : Nat} {L : Nat → xt_S} {S0 : xt_S} (hP : xh_P M p n nS nM size L) (hS : xh_S M k 0 0 S0) (hk : k + 6 ≤ p ∨ p + 2 + 6 * n ≤ k) (h1s : 1 ≤ size) (hn2 : n ≤ 8) (hs : nS ≤ 6) (hm : nM ≤ 6) :
    ∃ z, xa_E 3 0 (xa_ent [.ref p, .ref k]) [] M z ∧ z.1 = none ∧ (∀ a, a ≠ p → (a < k ∨ k + 6 ≤ a) → z.2.1 a = M.1 a) ∧ z.2.2 = M.2 ∧ xh_P z.2 p n nS nM (size - 1) L ∧ xh_S z.2 k nS nM (L (size - 1)) := by
  refine xa_ge2 (fun lv h0 h1 => ?_)
  obtain ⟨g, σ, p0, p1, p2, p3, p4, p5, p6⟩ := id hP
  have ps := p2 (size - 1) (by omega)
  simp (disch := omega) only [↓ra_3_0, ↓ra_3_1, ↓ra_3_4, ↓ra_3_7, ↓ra_3_8, ↓ra_3_9, ↓ra_3_12, ↓ra_3_13, ↓ra_3_14, xa_kli, xa_klr, xa_kll, xa_ki, xa_kl, xa_kr, xa_kii, xa_kk, xa_kir, xa_krr, xa_kiir, xa_krir, xa_kdup, xa_kdup2, xa_kcp, xa_gf, xa_pf, xa_ga, xa_pa, xa_gq, xa_pq, xa_gl, xa_args, xa_ri, xa_rz, xa_rv, xa_s1, xa_s2, xa_c1, eq_self, List.getElem?_cons_succ, List.getElem?_cons_zero, true_and, and_true, nI_add, pk_mul, xt_in, xt_cl, xt_i0, xt_i1, xa_kc, xa_w8, xa_fit, lg_sl, List.flatMap_cons, List.flatMap_nil, List.map_cons, List.map_nil, List.sum_cons, List.sum_nil, Value.category, List.length_cons, List.length_nil, List.length_append, xa_rc, xa_rf, exists_eq_left, exists_eq', Option.some.injEq, Sum.inr.injEq, Prod.mk.injEq, Option.toList_some, Option.toList_none, List.cons_append, List.nil_append, Nat.reduceAdd, Nat.reduceLeDiff, Nat.reduceLT, List.set_cons_zero, List.set_cons_succ, eq_self, or_true, true_or, reduceIte, xt_ne, h0, h1, p0, xt_le, xt_sub]
  simp only [if_neg (show ¬ size ≤ 0 by omega)]
  generalize hM1 : xa_st M p _ = M1
  have f1 : xa_fr p (p + 1) M M1 := by rw [← hM1]; exact xa_fr_st (by omega) (by omega)
  have q0 : M1.1 p = some (.inr (0, [.ref (p + 1), .int (nI (size - 1))])) := by rw [← hM1]; exact xa_st_eq
  have q1 := (f1.1 (p + 1) (by omega)).trans p1
  have hS1 := xh_S_fr hS f1 (by omega)
  have hB := xh_S_fr (p4 (size - 1) (by omega)) f1 (by omega)
  obtain ⟨⟨z1, M2⟩, cE, c1, c2, c3⟩ := pc_copyS hS1 hB (by omega) hs hm
  have c1 : z1 = none := c1
  subst c1
  dsimp only at c2 c3
  have ob := hS1.1
  simp (disch := omega) only [↓ra_3_17, ↓ra_3_18, ↓ra_3_19, ↓ra_3_22, ↓ra_3_23, ↓ra_3_26, ↓ra_3_27, ↓ra_3_30, xa_kli, xa_klr, xa_kll, xa_ki, xa_kl, xa_kr, xa_kii, xa_kk, xa_kir, xa_krr, xa_kiir, xa_krir, xa_kdup, xa_kdup2, xa_kcp, xa_gf, xa_pf, xa_ga, xa_pa, xa_gq, xa_pq, xa_gl, xa_args, xa_ri, xa_rz, xa_rv, xa_s1, xa_s2, xa_c1, eq_self, List.getElem?_cons_succ, List.getElem?_cons_zero, true_and, and_true, nI_add, pk_mul, xt_in, xt_cl, xt_i0, xt_i1, xa_kc, xa_w8, xa_fit, lg_sl, List.flatMap_cons, List.flatMap_nil, List.map_cons, List.map_nil, List.sum_cons, List.sum_nil, Value.category, List.length_cons, List.length_nil, List.length_append, xa_rc, xa_rf, exists_eq_left, exists_eq', Option.some.injEq, Sum.inr.injEq, Prod.mk.injEq, Option.toList_some, Option.toList_none, List.cons_append, List.nil_append, Nat.reduceAdd, Nat.reduceLeDiff, Nat.reduceLT, List.set_cons_zero, List.set_cons_succ, eq_self, or_true, true_or, reduceIte, xt_ne, h0, h1, q0, q1, ps.2, ob, xa_iff cE, mx_9]
  refine ⟨fun a h2 h3 => (c2.1 a (by omega)).trans (f1.1 a (by omega)), c2.2.trans f1.2, ⟨g, σ, (c2.1 p (by omega)).trans q0, (c2.1 (p + 1) (by omega)).trans q1, p2, p3, fun i hi => ?_, fun i hi => ?_, by omega⟩, c3⟩
  · have := (p2 i (by omega)).1
    exact xh_S_fr (xh_S_fr (p4 i (by omega)) f1 (by omega)) c2 (by omega)
  · have := (p2 i hi).1
    exact (p5 i hi).imp (fun _ h => xh_S_fr (xh_S_fr h f1 (by omega)) c2 (by omega))
/-- what is SEEN: of whom, on which day, how -/
def xh_G (M : xa_M) (p size : Nat) (a b c : Nat → Nat) : Prop := M.1 p = some (.inr (1, [.ref (p + 1), .ref (p + 2), .ref (p + 3), .int (nI size)])) ∧ xa_ar M (p + 1) 8 size a ∧ xa_ar M (p + 2) 8 size b ∧ xa_ar M (p + 3) 8 size c
theorem xa_ar_ps {M : xa_M} {a n k v : Nat} {g : Nat → Int32} {f : Nat → Nat} (hg : ∀ j, j < k → g j = nI (f j)) : xa_ar (xa_st M a (.inl (0, n, .inl (upd g k (nI v))))) a n (k + 1) (fun j => if j = k then v else f j) := by
  refine ⟨_, by rw [xt_st, if_pos rfl], fun j hk => ?_⟩
  rw [xt_us]
  show (if j = k then _ else _) = nI (if j = k then v else f j)
  by_cases e : j = k
  · rw [if_pos e, if_pos e]
  · rw [if_neg e, if_neg e, hg j (by omega)]
theorem pc_gadd {M : xa_M} {p size : Nat} {a b c : Nat → Nat} (hG : xh_G M p size a b c) (hs : size < 8) (x y w : Nat) :
    ∃ z, xa_E 5 0 (xa_ent [.ref p, .int (nI x), .int (nI y), .int (nI w)]) [] M z ∧ z.1 = some (.int (nI 1)) ∧ xa_fr p (p + 4) M z.2 ∧ xh_G z.2 p (size + 1) (fun j => if j = size then x else a j) (fun j => if j = size then y else b j) (fun j => if j = size then w else c j) := by
  obtain ⟨p0, ⟨g1, p1, e1⟩, ⟨g2, p2, e2⟩, ⟨g3, p3, e3⟩⟩ := hG
  refine xa_ge4 (fun lv h0 h1 h2 h3 => ?_)
  simp (disch := omega) only [↓ra_5_0, ↓ra_5_1, ↓ra_5_4, ↓ra_5_6, xa_kli, xa_klr, xa_kll, xa_ki, xa_kl, xa_kr, xa_kii, xa_kk, xa_kir, xa_krr, xa_kiir, xa_krir, xa_kdup, xa_kdup2, xa_kcp, xa_gf, xa_pf, xa_ga, xa_pa, xa_gq, xa_pq, xa_gl, xa_args, xa_ri, xa_rz, xa_rv, xa_s1, xa_s2, xa_c1, eq_self, List.getElem?_cons_succ, List.getElem?_cons_zero, true_and, and_true, nI_add, pk_mul, xt_in, xt_cl, xt_i0, xt_i1, h0, p0, xt_lt]
  simp only [if_pos hs]
  simp (disch := omega) only [↓ra_5_11, ↓ra_5_12, ↓ra_5_15, ↓ra_5_16, ↓ra_5_19, ↓ra_5_20, ↓ra_5_21, ↓ra_5_22, ↓ra_5_25, ↓ra_5_26, ↓ra_5_29, ↓ra_5_30, ↓ra_5_31, ↓ra_5_32, ↓ra_5_35, ↓ra_5_36, ↓ra_5_39, ↓ra_5_40, ↓ra_5_41, ↓ra_5_42, ↓ra_5_43, ↓ra_5_46, ↓ra_5_47, ↓ra_5_48, ↓ra_5_51, ↓ra_5_52, xa_kli, xa_klr, xa_kll, xa_ki, xa_kl, xa_kr, xa_kii, xa_kk, xa_kir, xa_krr, xa_kiir, xa_krir, xa_kdup, xa_kdup2, xa_kcp, xa_gf, xa_pf, xa_ga, xa_pa, xa_gq, xa_pq, xa_gl, xa_args, xa_ri, xa_rz, xa_rv, xa_s1, xa_s2, xa_c1, eq_self, List.getElem?_cons_succ, List.getElem?_cons_zero, true_and, and_true, nI_add, pk_mul, xt_in, xt_cl, xt_i0, xt_i1, xa_kc, xa_w8, xa_fit, lg_sl, List.flatMap_cons, List.flatMap_nil, List.map_cons, List.map_nil, List.sum_cons, List.sum_nil, Value.category, List.length_cons, List.length_nil, List.length_append, xa_rc, xa_rf, exists_eq_left, exists_eq', Option.some.injEq, Sum.inr.injEq, Prod.mk.injEq, Option.toList_some, Option.toList_none, List.cons_append, List.nil_append, Nat.reduceAdd, Nat.reduceLeDiff, Nat.reduceLT, List.set_cons_zero, List.set_cons_succ, eq_self, or_true, true_or, reduceIte, xt_ne, h0, h1, h2, h3, p0, p1, p2, p3, xt_st]
  refine ⟨xa_fr_tr (xa_fr_tr (xa_fr_tr (xa_fr_st (by omega) (by omega)) (xa_fr_st (by omega) (by omega))) (xa_fr_st (by omega) (by omega))) (xa_fr_st (by omega) (by omega)), xa_st_eq, ?_, ?_, ?_⟩
  · exact xa_ar_ne (xa_ar_ne (xa_ar_ne (xa_ar_ps e1) (by omega)) (by omega)) (by omega)
  · exact xa_ar_ne (xa_ar_ne (xa_ar_ps e2) (by omega)) (by omega)
  · exact xa_ar_ne (xa_ar_ps e3) (by omega)
theorem pc_gfull {M : xa_M} {p : Nat} {a b c : Nat → Nat} (hG : xh_G M p 8 a b c) (x y w : Int32) : xa_E 5 0 (xa_ent [.ref p, .int x, .int y, .int w]) [] M (some (.int (nI 0)), M) := by
  obtain ⟨p0, -⟩ := hG
  refine xa_go4 (fun lv h0 h1 h2 h3 => ?_)
  simp (disch := omega) only [↓ra_5_0, ↓ra_5_1, ↓ra_5_4, ↓ra_5_6, ↓ra_5_9, ↓ra_5_10, xa_kli, xa_klr, xa_kll, xa_ki, xa_kl, xa_kr, xa_kii, xa_kk, xa_kir, xa_krr, xa_kiir, xa_krir, xa_kdup, xa_kdup2, xa_kcp, xa_gf, xa_pf, xa_ga, xa_pa, xa_gq, xa_pq, xa_gl, xa_args, xa_ri, xa_rz, xa_rv, xa_s1, xa_s2, xa_c1, eq_self, List.getElem?_cons_succ, List.getElem?_cons_zero, true_and, and_true, nI_add, pk_mul, xt_in, xt_cl, xt_i0, xt_i1, h0, p0, xt_lt, Nat.lt_irrefl, if_false, true_or]
/-- is it denied that s is so on this day -/
def xq_deny (size : Nat) (a b c : Nat → Nat) (s d h : Nat) : Bool := (List.range size).any (fun i => decide (a i = s) && (decide (b i = d) && !(decide (c i = h))))
theorem pc_deny {M : xa_M} {p size : Nat} {a b c : Nat → Nat} (hG : xh_G M p size a b c) (hs : size ≤ 8) (hb : ∀ i, i < size → a i < 2147483648 ∧ b i < 2147483648 ∧ c i < 2147483648) (s d h : Nat) (h1s : s < 2147483648) (h1d : d < 2147483648) (h1h : h < 2147483648) :
    xa_E 6 0 (xa_ent [.ref p, .int (nI s), .int (nI d), .int (nI h)]) [] M (some (.int (nI (if xq_deny size a b c s d h = true then 1 else 0))), M) := by
  obtain ⟨p0, ⟨g1, p1, e1⟩, ⟨g2, p2, e2⟩, ⟨g3, p3, e3⟩⟩ := hG
  refine xa_go4 (fun lv h0 h1 h2 h3 => ?_)
  have loop : ∀ (n i : Nat) (lv : xa_L), lv 0 = some (.ref p) → lv 1 = some (.int (nI s)) → lv 2 = some (.int (nI d)) → lv 3 = some (.int (nI h)) → lv 4 = some (.int (nI i)) → i + n = size → (∀ j, j < i → ¬ (a j = s ∧ b j = d ∧ ¬ c j = h)) → xa_E 6 3 lv [] M (some (.int (nI (if xq_deny size a b c s d h = true then 1 else 0))), M) := by
    intro n
    induction n with
    | zero =>
      intro i lv h0 h1 h2 h3 h4 e hno
      have e : i = size := by omega
      subst e
      have hf : ¬ xq_deny i a b c s d h = true := by
        intro hc
        obtain ⟨j, hj, hc⟩ := List.any_eq_true.mp hc
        exact hno j (List.mem_range.mp hj) (by simpa using hc)
      rw [if_neg hf]
      simp (disch := omega) only [↓ra_6_3, ↓ra_6_5, ↓ra_6_6, ↓ra_6_9, ↓ra_6_53, ↓ra_6_54, xa_kli, xa_klr, xa_kll, xa_ki, xa_kl, xa_kr, xa_kii, xa_kk, xa_kir, xa_krr, xa_kiir, xa_krir, xa_kdup, xa_kdup2, xa_kcp, xa_gf, xa_pf, xa_ga, xa_pa, xa_gq, xa_pq, xa_gl, xa_args, xa_ri, xa_rz, xa_rv, xa_s1, xa_s2, xa_c1, eq_self, List.getElem?_cons_succ, List.getElem?_cons_zero, true_and, and_true, nI_add, pk_mul, xt_in, xt_cl, xt_i0, xt_i1, h0, h1, h2, h3, h4, p0, xt_le, Nat.le_refl, if_true, true_or]
    | succ n ih =>
      intro i lv h0 h1 h2 h3 h4 e hno
      have hi := hb i (by omega)
      simp (disch := omega) only [↓ra_6_3, ↓ra_6_5, ↓ra_6_6, ↓ra_6_9, ↓ra_6_12, ↓ra_6_13, ↓ra_6_16, ↓ra_6_18, ↓ra_6_19, ↓ra_6_20, ↓ra_6_23, ↓ra_6_24, ↓ra_6_27, ↓ra_6_29, ↓ra_6_30, ↓ra_6_31, ↓ra_6_34, ↓ra_6_35, ↓ra_6_38, ↓ra_6_40, ↓ra_6_41, ↓ra_6_42, ↓ra_6_45, ↓ra_6_46, xa_kli, xa_klr, xa_kll, xa_ki, xa_kl, xa_kr, xa_kii, xa_kk, xa_kir, xa_krr, xa_kiir, xa_krir, xa_kdup, xa_kdup2, xa_kcp, xa_gf, xa_pf, xa_ga, xa_pa, xa_gq, xa_pq, xa_gl, xa_args, xa_ri, xa_rz, xa_rv, xa_s1, xa_s2, xa_c1, eq_self, List.getElem?_cons_succ, List.getElem?_cons_zero, true_and, and_true, nI_add, pk_mul, xt_in, xt_cl, xt_i0, xt_i1, h0, h1, h2, h3, h4, p0, p1, p2, p3, e1, e2, e3, xt_le, xt_eq, or_true]
      rw [if_neg (by omega)]
      have nxt : ¬ (a i = s ∧ b i = d ∧ ¬ c i = h) → xa_E 6 47 lv [] M (some (.int (nI (if xq_deny size a b c s d h = true then 1 else 0))), M) := by
        intro hn
        simp (disch := omega) only [↓ra_6_47, ↓ra_6_50, xa_kli, xa_klr, xa_kll, xa_ki, xa_kl, xa_kr, xa_kii, xa_kk, xa_kir, xa_krr, xa_kiir, xa_krir, xa_kdup, xa_kdup2, xa_kcp, xa_gf, xa_pf, xa_ga, xa_pa, xa_gq, xa_pq, xa_gl, xa_args, xa_ri, xa_rz, xa_rv, xa_s1, xa_s2, xa_c1, eq_self, List.getElem?_cons_succ, List.getElem?_cons_zero, true_and, and_true, nI_add, pk_mul, xt_in, xt_cl, xt_i0, xt_i1, h4]
        refine ih (i + 1) _ (by simp [xa_s1, h0]) (by simp [xa_s1, h1]) (by simp [xa_s1, h2]) (by simp [xa_s1, xa_c1, h3]) (by simp [xa_s1]) (by omega) (fun j hj => ?_)
        by_cases c : j = i
        · subst c; exact hn
        · exact hno j (by omega)
      by_cases c1 : a i = s
      · rw [if_pos c1]
        by_cases c2 : b i = d
        · rw [if_pos c2]
          by_cases c3 : c i = h
          · rw [if_pos c3]
            exact nxt (fun z => z.2.2 c3)
          · rw [if_neg c3]
            have ht : xq_deny size a b c s d h = true := List.any_eq_true.mpr ⟨i, List.mem_range.mpr (by omega), by simp [c1, c2, c3]⟩
            rw [if_pos ht]
        · rw [if_neg c2]
          exact nxt (fun z => c2 z.2.1)
      · rw [if_neg c1]
        exact nxt (fun z => c1 z.1)
  simp only [↓ra_6_0, ↓ra_6_1, xa_kli, xa_klr, xa_kll, xa_ki, xa_kl, xa_kr, xa_kii, xa_kk, xa_kir, xa_krr, xa_kiir, xa_krir, xa_kdup, xa_kdup2, xa_kcp, xa_gf, xa_pf, xa_ga, xa_pa, xa_gq, xa_pq, xa_gl, xa_args, xa_ri, xa_rz, xa_rv, xa_s1, xa_s2, xa_c1, eq_self, List.getElem?_cons_succ, List.getElem?_cons_zero, true_and, and_true, nI_add, pk_mul, xt_in, xt_cl, xt_i0, xt_i1]
  exact loop size 0 _ (by simp [xa_s1, h0]) (by simp [xa_s1, h1]) (by simp [xa_s1, h2]) (by simp [xa_s1, xa_c1, h3]) (by simp [xa_s1]) (by omega) (fun j hj => absurd hj (by omega))
