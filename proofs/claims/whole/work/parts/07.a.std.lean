theorem xt_b0 (P : Prop) [Decidable P] : (nI (if P then 1 else 0) = nI 0) = ¬ P := by
  by_cases h : P
  · simp only [h, if_true, not_true_eq_false]; exact eq_false (by decide)
  · simp only [h, if_false, not_false_eq_true]
theorem xt_b0' (P : Prop) [Decidable P] : (nI (if P then 1 else 0) = 0) = ¬ P := xt_b0 P
theorem xt_b1 (P : Prop) [Decidable P] : (nI (if P then 1 else 0) = nI 1) = P := by
  by_cases h : P
  · simp only [h, if_true]
  · simp only [h, if_false]; exact eq_false (by decide)
theorem pc_isNot {M : xa_M} (x a b : Int32) : xa_E 77 0 (xa_ent [.int x, .int a, .int b]) [] M (some (.int (nI (if x < a ∨ b < x then 1 else 0))), M) := by
  refine xa_go3 (fun lv h0 h1 h2 => ?_)
  simp only [↓ra_77_0, ↓ra_77_1, ↓ra_77_2, ↓ra_77_5, ↓ra_77_6, ↓ra_77_7, ↓ra_77_10, ↓ra_77_11, ↓ra_77_14, ↓ra_77_15, xa_kli, xa_klr, xa_kll, xa_ki, xa_kl, xa_kr, xa_kii, xa_kk, xa_kir, xa_krr, xa_kiir, xa_krir, xa_kdup, xa_kdup2, xa_kcp, xa_gf, xa_pf, xa_ga, xa_pa, xa_gq, xa_pq, xa_gl, xa_args, xa_ri, xa_rz, xa_rv, xa_s1, xa_s2, xa_c1, eq_self, List.getElem?_cons_succ, List.getElem?_cons_zero, true_and, and_true, nI_add, pk_mul, xt_in, xt_cl, xt_i0, xt_i1, h0, h1, h2, eq_self, or_true, true_or]
  by_cases c1 : x < a
  · simp [c1]
  · by_cases c2 : x ≤ b
    · simp [c1, c2, Int32.not_lt.mpr c2]
    · simp [c1, c2, Int32.not_le.mp c2]
theorem pc_onRing {M : xa_M} {t : Nat} {T : xt_T} (hT : xh_T M t T) (hC : 2 ≤ xC T) (hC6 : xC T ≤ 6) (x : Nat) (hx : x < 2147483648) : xa_E 40 0 (xa_ent [.ref t, .int (nI x)]) [] M (some (.int (nI (x % xC T))), M) := by
  obtain ⟨t0, -⟩ := hT
  refine xa_go2 (fun lv h0 h1 => ?_)
  simp (disch := omega) only [↓ra_40_0, ↓ra_40_1, ↓ra_40_4, ↓ra_40_5, ↓ra_40_8, ↓ra_40_9, ↓ra_40_12, ↓ra_40_13, ↓ra_40_14, ↓ra_40_17, ↓ra_40_18, xa_kli, xa_klr, xa_kll, xa_ki, xa_kl, xa_kr, xa_kii, xa_kk, xa_kir, xa_krr, xa_kiir, xa_krir, xa_kdup, xa_kdup2, xa_kcp, xa_gf, xa_pf, xa_ga, xa_pa, xa_gq, xa_pq, xa_gl, xa_args, xa_ri, xa_rz, xa_rv, xa_s1, xa_s2, xa_c1, eq_self, List.getElem?_cons_succ, List.getElem?_cons_zero, true_and, and_true, nI_add, pk_mul, xt_in, xt_cl, xt_i0, xt_i1, h0, h1, t0, xt_le]
  rw [if_pos (by omega)]
  refine ⟨?_, ?_⟩
  · exact nI_ne0 (by omega) (by omega)
  · rw [xt_rem _ _ hx (by omega) (by omega)]
theorem xt_shr (n k : Nat) (hn : n < 2147483648) (hk : k < 32) : nI n >>> (nI k &&& 31) = nI (n / 2 ^ k) := pk_shrN hn _ k (s_l k hk)
theorem pc_hasGuild {M : xa_M} {t : Nat} {T : xt_T} (hT : xh_T M t T) (hG : xG T < 64) (q : Nat) (hq : q < 6) : xa_E 39 0 (xa_ent [.ref t, .int (nI q)]) [] M (some (.int (nI (if (xG T).testBit q = true then 1 else 0))), M) := by
  obtain ⟨t0, -⟩ := hT
  refine xa_go2 (fun lv h0 h1 => ?_)
  simp (disch := omega) only [↓ra_39_0, ↓ra_39_1, ↓ra_39_4, ↓ra_39_5, ↓ra_39_6, ↓ra_39_7, ↓ra_39_8, ↓ra_39_9, ↓ra_39_12, ↓ra_39_13, ↓ra_39_16, ↓ra_39_17, xa_kli, xa_klr, xa_kll, xa_ki, xa_kl, xa_kr, xa_kii, xa_kk, xa_kir, xa_krr, xa_kiir, xa_krir, xa_kdup, xa_kdup2, xa_kcp, xa_gf, xa_pf, xa_ga, xa_pa, xa_gq, xa_pq, xa_gl, xa_args, xa_ri, xa_rz, xa_rv, xa_s1, xa_s2, xa_c1, eq_self, List.getElem?_cons_succ, List.getElem?_cons_zero, true_and, and_true, nI_add, pk_mul, xt_in, xt_cl, xt_i0, xt_i1, h0, h1, t0, xt_shr, eq_self, or_true, true_or]
  have e : nI (xG T / 2 ^ q) &&& nI 1 = nI (if (xG T).testBit q = true then 1 else 0) := by
    have e1 := pk_andN (n := xG T / 2 ^ q) (Nat.lt_of_le_of_lt (Nat.div_le_self _ _) (by omega)) (m := nI 1) 1 (by decide)
    rw [e1, Nat.testBit_eq_decide_div_mod_eq]
    rcases Nat.mod_two_eq_zero_or_one (xG T / 2 ^ q) with h | h <;> simp [h]
  rw [e]
  simp only [xt_b1]
  split <;> rfl
theorem pc_isOver {M : xa_M} {k nS nM : Nat} {S : xt_S} (hS : xh_S M k nS nM S) (s : Nat) (hs : s < nS) (hn : nS ≤ 6) (hb : xsh S s ≤ 3) : xa_E 10 0 (xa_ent [.ref k, .int (nI s)]) [] M (some (.int (nI (if 2 ≤ xsh S s then 1 else 0))), M) := by
  obtain ⟨s0, ⟨g1, s1, e1⟩, -⟩ := hS
  refine xa_go2 (fun lv h0 h1 => ?_)
  simp (disch := omega) only [↓ra_10_0, ↓ra_10_1, ↓ra_10_4, ↓ra_10_5, ↓ra_10_6, ↓ra_10_7, ↓ra_10_10, ↓ra_10_11, ↓ra_10_14, ↓ra_10_15, ↓ra_10_16, ↓ra_10_17, ↓ra_10_20, ↓ra_10_21, ↓ra_10_24, ↓ra_10_25, xa_kli, xa_klr, xa_kll, xa_ki, xa_kl, xa_kr, xa_kii, xa_kk, xa_kir, xa_krr, xa_kiir, xa_krir, xa_kdup, xa_kdup2, xa_kcp, xa_gf, xa_pf, xa_ga, xa_pa, xa_gq, xa_pq, xa_gl, xa_args, xa_ri, xa_rz, xa_rv, xa_s1, xa_s2, xa_c1, eq_self, List.getElem?_cons_succ, List.getElem?_cons_zero, true_and, and_true, nI_add, pk_mul, xt_in, xt_cl, xt_i0, xt_i1, h0, h1, s0, s1, e1, xt_eq, eq_self, or_true, true_or]
  rcases (show xsh S s = 0 ∨ xsh S s = 1 ∨ xsh S s = 2 ∨ xsh S s = 3 by omega) with h | h | h | h <;> simp [h]
theorem pc_livesIn {M : xa_M} {k nS nM : Nat} {S : xt_S} (hS : xh_S M k nS nM S) (s q : Nat) (hs : s < nS) (hn : nS ≤ 6) (hb : xsh S s ≤ 3) (hq : q < 2147483648) (hq2 : xsq S s < 2147483648) : xa_E 11 0 (xa_ent [.ref k, .int (nI s), .int (nI q)]) [] M (some (.int (nI (if xsh S s = 0 ∧ xsq S s = q then 1 else 0))), M) := by
  obtain ⟨s0, ⟨g1, s1, e1⟩, ⟨g2, s2, e2⟩, -⟩ := hS
  refine xa_go3 (fun lv h0 h1 h2 => ?_)
  simp (disch := omega) only [↓ra_11_0, ↓ra_11_1, ↓ra_11_4, ↓ra_11_5, ↓ra_11_6, ↓ra_11_9, ↓ra_11_10, ↓ra_11_13, ↓ra_11_14, ↓ra_11_15, ↓ra_11_16, ↓ra_11_19, ↓ra_11_20, ↓ra_11_23, ↓ra_11_24, xa_kli, xa_klr, xa_kll, xa_ki, xa_kl, xa_kr, xa_kii, xa_kk, xa_kir, xa_krr, xa_kiir, xa_krir, xa_kdup, xa_kdup2, xa_kcp, xa_gf, xa_pf, xa_ga, xa_pa, xa_gq, xa_pq, xa_gl, xa_args, xa_ri, xa_rz, xa_rv, xa_s1, xa_s2, xa_c1, eq_self, List.getElem?_cons_succ, List.getElem?_cons_zero, true_and, and_true, nI_add, pk_mul, xt_in, xt_cl, xt_i0, xt_i1, h0, h1, h2, s0, s1, s2, e1, e2, xt_eq, eq_self, or_true, true_or]
  by_cases c1 : xsh S s = 0 <;> by_cases c2 : xsq S s = q <;> simp [c1, c2]
/-- how and quarter of one -/
theorem pc_settle {M : xa_M} {k nS nM : Nat} {S : xt_S} (hS : xh_S M k nS nM S) (s q : Nat) (hs : s < nS) (hn : nS ≤ 6) : ∃ z, xa_E 12 0 (xa_ent [.ref k, .int (nI s), .int (nI q)]) [] M z ∧ z.1 = none ∧ xa_fr k (k + 6) M z.2 ∧ xh_S z.2 k nS nM (xsd S, fun j => if j = s then 0 else xsh S j, fun j => if j = s then q else xsq S j, xss S, xsm S, xsp S) := by
  obtain ⟨s0, ⟨g1, s1, e1⟩, ⟨g2, s2, e2⟩, s3, s4, s5⟩ := hS
  refine xa_ge3 (fun lv h0 h1 h2 => ?_)
  simp (disch := omega) only [↓ra_12_0, ↓ra_12_1, ↓ra_12_4, ↓ra_12_5, ↓ra_12_6, ↓ra_12_7, ↓ra_12_8, ↓ra_12_11, ↓ra_12_12, ↓ra_12_13, ↓ra_12_14, xa_kli, xa_klr, xa_kll, xa_ki, xa_kl, xa_kr, xa_kii, xa_kk, xa_kir, xa_krr, xa_kiir, xa_krir, xa_kdup, xa_kdup2, xa_kcp, xa_gf, xa_pf, xa_ga, xa_pa, xa_gq, xa_pq, xa_gl, xa_args, xa_ri, xa_rz, xa_rv, xa_s1, xa_s2, xa_c1, eq_self, List.getElem?_cons_succ, List.getElem?_cons_zero, true_and, and_true, nI_add, pk_mul, xt_in, xt_cl, xt_i0, xt_i1, h0, h1, h2, s0, s1, s2, xt_st, xt_ne, reduceIte, exists_eq_left]
  refine ⟨xa_fr_tr (xa_fr_st (by omega) (by omega)) (xa_fr_st (by omega) (by omega)), ?_, ?_, ?_, ?_, ?_, ?_⟩
  · simpa [xt_st] using s0
  · exact xa_ar_ne (xa_ar_up e1 (if_pos rfl) (fun j _ h => if_neg h)) (by omega)
  · exact xa_ar_up e2 (if_pos rfl) (fun j _ h => if_neg h)
  · exact xa_ar_ne (xa_ar_ne s3 (by omega)) (by omega)
  · exact xa_ar_ne (xa_ar_ne s4 (by omega)) (by omega)
  · exact xa_ar_ne (xa_ar_ne s5 (by omega)) (by omega)
theorem pc_goOut {M : xa_M} {k nS nM : Nat} {S : xt_S} (hS : xh_S M k nS nM S) (s : Nat) (hs : s < nS) (hn : nS ≤ 6) : ∃ z, xa_E 13 0 (xa_ent [.ref k, .int (nI s)]) [] M z ∧ z.1 = none ∧ xa_fr k (k + 6) M z.2 ∧ xh_S z.2 k nS nM (xsd S, fun j => if j = s then 1 else xsh S j, xsq S, fun j => if j = s then 0 else xss S j, xsm S, xsp S) := by
  obtain ⟨s0, ⟨g1, s1, e1⟩, s2, ⟨g3, s3, e3⟩, s4, s5⟩ := hS
  refine xa_ge2 (fun lv h0 h1 => ?_)
  simp (disch := omega) only [↓ra_13_0, ↓ra_13_1, ↓ra_13_4, ↓ra_13_5, ↓ra_13_6, ↓ra_13_7, ↓ra_13_8, ↓ra_13_11, ↓ra_13_12, ↓ra_13_13, ↓ra_13_14, xa_kli, xa_klr, xa_kll, xa_ki, xa_kl, xa_kr, xa_kii, xa_kk, xa_kir, xa_krr, xa_kiir, xa_krir, xa_kdup, xa_kdup2, xa_kcp, xa_gf, xa_pf, xa_ga, xa_pa, xa_gq, xa_pq, xa_gl, xa_args, xa_ri, xa_rz, xa_rv, xa_s1, xa_s2, xa_c1, eq_self, List.getElem?_cons_succ, List.getElem?_cons_zero, true_and, and_true, nI_add, pk_mul, xt_in, xt_cl, xt_i0, xt_i1, h0, h1, s0, s1, s3, xt_st, xt_ne, reduceIte, exists_eq_left]
  refine ⟨xa_fr_tr (xa_fr_st (by omega) (by omega)) (xa_fr_st (by omega) (by omega)), ?_, ?_, ?_, ?_, ?_, ?_⟩
  · simpa [xt_st] using s0
  · exact xa_ar_ne (xa_ar_up e1 (if_pos rfl) (fun j _ h => if_neg h)) (by omega)
  · exact xa_ar_ne (xa_ar_ne s2 (by omega)) (by omega)
  · exact xa_ar_up e3 (if_pos rfl) (fun j _ h => if_neg h)
  · exact xa_ar_ne (xa_ar_ne s4 (by omega)) (by omega)
  · exact xa_ar_ne (xa_ar_ne s5 (by omega)) (by omega)
/-- how many men of lord l are in q -/
def xq_m (T : xt_T) (P : Nat → Nat) (l q : Nat) : Nat := xt_c (fun m => decide (xtm T m = l) && decide (P m = q)) (xnM T)
/-- how many serfs are so -/
def xq_n (T : xt_T) (S : xt_S) (h : Nat) : Nat := xt_c (fun s => decide (xsh S s = h)) (xnS T)
theorem pc_menIn {M : xa_M} {k t nS : Nat} {S : xt_S} {T : xt_T} (hS : xh_S M k nS (xnM T) S) (hT : xh_T M t T) (hm : xnM T ≤ 6) (hb : ∀ m, m < xnM T → xtm T m < 2147483648 ∧ xsp S m < 2147483648) (l q : Nat) (hl : l < 2147483648) (hq : q < 2147483648) :
    xa_E 15 0 (xa_ent [.ref k, .ref t, .int (nI l), .int (nI q)]) [] M (some (.int (nI (xq_m T (xsp S) l q))), M) := by
  obtain ⟨s0, -, -, -, -, ⟨g5, s5, e5⟩⟩ := hS
  obtain ⟨t0, -, -, -, ⟨g4, t4, f4⟩, -⟩ := hT
  refine xa_go4 (fun lv h0 h1 h2 h3 => ?_)
  have loop : ∀ (n i : Nat) (lv : xa_L), lv 0 = some (.ref k) → lv 1 = some (.ref t) → lv 2 = some (.int (nI l)) → lv 3 = some (.int (nI q)) → lv 4 = some (.int (nI (xt_c (fun m => decide (xtm T m = l) && decide (xsp S m = q)) i))) → lv 5 = some (.int (nI i)) → i + n = xnM T → xa_E 15 6 lv [] M (some (.int (nI (xq_m T (xsp S) l q))), M) := by
    intro n
    induction n with
    | zero =>
      intro i lv h0 h1 h2 h3 h4 h5 e
      have e : i = xnM T := by omega
      subst e
      simp (disch := omega) only [↓ra_15_6, ↓ra_15_8, ↓ra_15_9, ↓ra_15_12, xa_kli, xa_klr, xa_kll, xa_ki, xa_kl, xa_kr, xa_kii, xa_kk, xa_kir, xa_krr, xa_kiir, xa_krir, xa_kdup, xa_kdup2, xa_kcp, xa_gf, xa_pf, xa_ga, xa_pa, xa_gq, xa_pq, xa_gl, xa_args, xa_ri, xa_rz, xa_rv, xa_s1, xa_s2, xa_c1, eq_self, List.getElem?_cons_succ, List.getElem?_cons_zero, true_and, and_true, nI_add, pk_mul, xt_in, xt_cl, xt_i0, xt_i1, h0, h1, h2, h3, h4, h5, t0, xt_le, Nat.le_refl, if_true]
      simp only [↓ra_15_46, ↓ra_15_48, xa_kli, xa_klr, xa_kll, xa_ki, xa_kl, xa_kr, xa_kii, xa_kk, xa_kir, xa_krr, xa_kiir, xa_krir, xa_kdup, xa_kdup2, xa_kcp, xa_gf, xa_pf, xa_ga, xa_pa, xa_gq, xa_pq, xa_gl, xa_args, xa_ri, xa_rz, xa_rv, xa_s1, xa_s2, xa_c1, eq_self, List.getElem?_cons_succ, List.getElem?_cons_zero, true_and, and_true, nI_add, pk_mul, xt_in, xt_cl, xt_i0, xt_i1, h4, xq_m]
    | succ n ih =>
      intro i lv h0 h1 h2 h3 h4 h5 e
      have hi := hb i (by omega)
      simp (disch := omega) only [↓ra_15_6, ↓ra_15_8, ↓ra_15_9, ↓ra_15_12, ↓ra_15_15, ↓ra_15_16, ↓ra_15_19, ↓ra_15_21, ↓ra_15_22, ↓ra_15_23, ↓ra_15_26, ↓ra_15_27, ↓ra_15_30, ↓ra_15_32, ↓ra_15_33, ↓ra_15_34, xa_kli, xa_klr, xa_kll, xa_ki, xa_kl, xa_kr, xa_kii, xa_kk, xa_kir, xa_krr, xa_kiir, xa_krir, xa_kdup, xa_kdup2, xa_kcp, xa_gf, xa_pf, xa_ga, xa_pa, xa_gq, xa_pq, xa_gl, xa_args, xa_ri, xa_rz, xa_rv, xa_s1, xa_s2, xa_c1, eq_self, List.getElem?_cons_succ, List.getElem?_cons_zero, true_and, and_true, nI_add, pk_mul, xt_in, xt_cl, xt_i0, xt_i1, h0, h1, h2, h3, h4, h5, t0, t4, s0, s5, f4, e5, xt_le, xt_eq]
      rw [if_neg (by omega)]
      have fin : ∀ lv' : xa_L, lv' 0 = some (.ref k) → lv' 1 = some (.ref t) → lv' 2 = some (.int (nI l)) → lv' 3 = some (.int (nI q)) → lv' 4 = some (.int (nI (xt_c (fun m => decide (xtm T m = l) && decide (xsp S m = q)) (i + 1)))) → lv' 5 = some (.int (nI i)) → xa_E 15 40 lv' [] M (some (.int (nI (xq_m T (xsp S) l q))), M) := by
        intro lv' g0 g1 g2 g3 g4 g5
        simp only [↓ra_15_40, ↓ra_15_43, xa_kli, xa_klr, xa_kll, xa_ki, xa_kl, xa_kr, xa_kii, xa_kk, xa_kir, xa_krr, xa_kiir, xa_krir, xa_kdup, xa_kdup2, xa_kcp, xa_gf, xa_pf, xa_ga, xa_pa, xa_gq, xa_pq, xa_gl, xa_args, xa_ri, xa_rz, xa_rv, xa_s1, xa_s2, xa_c1, eq_self, List.getElem?_cons_succ, List.getElem?_cons_zero, true_and, and_true, nI_add, pk_mul, xt_in, xt_cl, xt_i0, xt_i1, g5]
        exact ih (i + 1) _ (by simp [xa_s1, g0]) (by simp [xa_s1, g1]) (by simp [xa_s1, g2]) (by simp [xa_s1, g3]) (by simp [xa_s1, g4, xa_c1]) (by simp [xa_s1]) (by omega)
      by_cases c1 : xtm T i = l
      · rw [if_pos c1]
        by_cases c2 : xsp S i = q
        · rw [if_pos c2]
          simp only [↓ra_15_37, xa_kli, xa_klr, xa_kll, xa_ki, xa_kl, xa_kr, xa_kii, xa_kk, xa_kir, xa_krr, xa_kiir, xa_krir, xa_kdup, xa_kdup2, xa_kcp, xa_gf, xa_pf, xa_ga, xa_pa, xa_gq, xa_pq, xa_gl, xa_args, xa_ri, xa_rz, xa_rv, xa_s1, xa_s2, xa_c1, eq_self, List.getElem?_cons_succ, List.getElem?_cons_zero, true_and, and_true, nI_add, pk_mul, xt_in, xt_cl, xt_i0, xt_i1, h4]
          exact fin _ (by simp [xa_s1, h0]) (by simp [xa_s1, h1]) (by simp [xa_s1, h2]) (by simp [xa_s1, xa_c1, h3]) (by simp [xa_s1, xt_c, c1, c2]) (by simp [xa_s1, h5])
        · rw [if_neg c2]
          exact fin _ h0 h1 h2 h3 (by rw [h4]; simp [xt_c, c2]) h5
      · rw [if_neg c1]
        exact fin _ h0 h1 h2 h3 (by rw [h4]; simp [xt_c, c1]) h5
  simp only [↓ra_15_0, ↓ra_15_1, ↓ra_15_3, ↓ra_15_4, xa_kli, xa_klr, xa_kll, xa_ki, xa_kl, xa_kr, xa_kii, xa_kk, xa_kir, xa_krr, xa_kiir, xa_krir, xa_kdup, xa_kdup2, xa_kcp, xa_gf, xa_pf, xa_ga, xa_pa, xa_gq, xa_pq, xa_gl, xa_args, xa_ri, xa_rz, xa_rv, xa_s1, xa_s2, xa_c1, eq_self, List.getElem?_cons_succ, List.getElem?_cons_zero, true_and, and_true, nI_add, pk_mul, xt_in, xt_cl, xt_i0, xt_i1]
  exact loop (xnM T) 0 _ (by simp [xa_s1, h0]) (by simp [xa_s1, h1]) (by simp [xa_s1, h2]) (by simp [xa_s1, xa_c1, h3]) (by simp [xa_s1, xt_c, xa_c1]) (by simp [xa_s1]) (by omega)
theorem pc_howMany {M : xa_M} {k t nM : Nat} {S : xt_S} {T : xt_T} (hS : xh_S M k (xnS T) nM S) (hT : xh_T M t T) (hm : xnS T ≤ 6) (hb : ∀ s, s < xnS T → xsh S s < 2147483648) (w : Nat) (hw : w < 2147483648) :
    xa_E 14 0 (xa_ent [.ref k, .ref t, .int (nI w)]) [] M (some (.int (nI (xq_n T S w))), M) := by
  obtain ⟨s0, ⟨g1, s1, e1⟩, -⟩ := hS
  obtain ⟨t0, -⟩ := hT
  refine xa_go3 (fun lv h0 h1 h2 => ?_)
  have loop : ∀ (n i : Nat) (lv : xa_L), lv 0 = some (.ref k) → lv 1 = some (.ref t) → lv 2 = some (.int (nI w)) → lv 3 = some (.int (nI (xt_c (fun s => decide (xsh S s = w)) i))) → lv 4 = some (.int (nI i)) → i + n = xnS T → xa_E 14 5 lv [] M (some (.int (nI (xq_n T S w))), M) := by
    intro n
    induction n with
    | zero =>
      intro i lv h0 h1 h2 h3 h4 e
      have e : i = xnS T := by omega
      subst e
      simp (disch := omega) only [↓ra_14_5, ↓ra_14_7, ↓ra_14_8, ↓ra_14_11, xa_kli, xa_klr, xa_kll, xa_ki, xa_kl, xa_kr, xa_kii, xa_kk, xa_kir, xa_krr, xa_kiir, xa_krir, xa_kdup, xa_kdup2, xa_kcp, xa_gf, xa_pf, xa_ga, xa_pa, xa_gq, xa_pq, xa_gl, xa_args, xa_ri, xa_rz, xa_rv, xa_s1, xa_s2, xa_c1, eq_self, List.getElem?_cons_succ, List.getElem?_cons_zero, true_and, and_true, nI_add, pk_mul, xt_in, xt_cl, xt_i0, xt_i1, h0, h1, h2, h3, h4, t0, xt_le, Nat.le_refl, if_true]
      simp only [↓ra_14_34, ↓ra_14_35, xa_kli, xa_klr, xa_kll, xa_ki, xa_kl, xa_kr, xa_kii, xa_kk, xa_kir, xa_krr, xa_kiir, xa_krir, xa_kdup, xa_kdup2, xa_kcp, xa_gf, xa_pf, xa_ga, xa_pa, xa_gq, xa_pq, xa_gl, xa_args, xa_ri, xa_rz, xa_rv, xa_s1, xa_s2, xa_c1, eq_self, List.getElem?_cons_succ, List.getElem?_cons_zero, true_and, and_true, nI_add, pk_mul, xt_in, xt_cl, xt_i0, xt_i1, h3, xq_n]
    | succ n ih =>
      intro i lv h0 h1 h2 h3 h4 e
      have hi := hb i (by omega)
      simp (disch := omega) only [↓ra_14_5, ↓ra_14_7, ↓ra_14_8, ↓ra_14_11, ↓ra_14_14, ↓ra_14_15, ↓ra_14_18, ↓ra_14_20, ↓ra_14_21, ↓ra_14_22, xa_kli, xa_klr, xa_kll, xa_ki, xa_kl, xa_kr, xa_kii, xa_kk, xa_kir, xa_krr, xa_kiir, xa_krir, xa_kdup, xa_kdup2, xa_kcp, xa_gf, xa_pf, xa_ga, xa_pa, xa_gq, xa_pq, xa_gl, xa_args, xa_ri, xa_rz, xa_rv, xa_s1, xa_s2, xa_c1, eq_self, List.getElem?_cons_succ, List.getElem?_cons_zero, true_and, and_true, nI_add, pk_mul, xt_in, xt_cl, xt_i0, xt_i1, h0, h1, h2, h3, h4, t0, s0, s1, e1, xt_le, xt_eq]
      rw [if_neg (by omega)]
      have fin : ∀ lv' : xa_L, lv' 0 = some (.ref k) → lv' 1 = some (.ref t) → lv' 2 = some (.int (nI w)) → lv' 3 = some (.int (nI (xt_c (fun s => decide (xsh S s = w)) (i + 1)))) → lv' 4 = some (.int (nI i)) → xa_E 14 28 lv' [] M (some (.int (nI (xq_n T S w))), M) := by
        intro lv' g0 g1 g2 g3 g4
        simp only [↓ra_14_28, ↓ra_14_31, xa_kli, xa_klr, xa_kll, xa_ki, xa_kl, xa_kr, xa_kii, xa_kk, xa_kir, xa_krr, xa_kiir, xa_krir, xa_kdup, xa_kdup2, xa_kcp, xa_gf, xa_pf, xa_ga, xa_pa, xa_gq, xa_pq, xa_gl, xa_args, xa_ri, xa_rz, xa_rv, xa_s1, xa_s2, xa_c1, eq_self, List.getElem?_cons_succ, List.getElem?_cons_zero, true_and, and_true, nI_add, pk_mul, xt_in, xt_cl, xt_i0, xt_i1, g4]
        exact ih (i + 1) _ (by simp [xa_s1, g0]) (by simp [xa_s1, g1]) (by simp [xa_s1, g2]) (by simp [xa_s1, g3, xa_c1]) (by simp [xa_s1]) (by omega)
      by_cases c1 : xsh S i = w
      · rw [if_pos c1]
        simp only [↓ra_14_25, xa_kli, xa_klr, xa_kll, xa_ki, xa_kl, xa_kr, xa_kii, xa_kk, xa_kir, xa_krr, xa_kiir, xa_krir, xa_kdup, xa_kdup2, xa_kcp, xa_gf, xa_pf, xa_ga, xa_pa, xa_gq, xa_pq, xa_gl, xa_args, xa_ri, xa_rz, xa_rv, xa_s1, xa_s2, xa_c1, eq_self, List.getElem?_cons_succ, List.getElem?_cons_zero, true_and, and_true, nI_add, pk_mul, xt_in, xt_cl, xt_i0, xt_i1, h3]
        exact fin _ (by simp [xa_s1, h0]) (by simp [xa_s1, h1]) (by simp [xa_s1, xa_c1, h2]) (by simp [xa_s1, xt_c, c1]) (by simp [xa_s1, h4])
      · rw [if_neg c1]
        exact fin _ h0 h1 h2 (by rw [h3]; simp [xt_c, c1]) h4
  simp only [↓ra_14_0, ↓ra_14_1, ↓ra_14_2, ↓ra_14_3, xa_kli, xa_klr, xa_kll, xa_ki, xa_kl, xa_kr, xa_kii, xa_kk, xa_kir, xa_krr, xa_kiir, xa_krir, xa_kdup, xa_kdup2, xa_kcp, xa_gf, xa_pf, xa_ga, xa_pa, xa_gq, xa_pq, xa_gl, xa_args, xa_ri, xa_rz, xa_rv, xa_s1, xa_s2, xa_c1, eq_self, List.getElem?_cons_succ, List.getElem?_cons_zero, true_and, and_true, nI_add, pk_mul, xt_in, xt_cl, xt_i0, xt_i1]
  exact loop (xnS T) 0 _ (by simp [xa_s1, h0]) (by simp [xa_s1, h1]) (by simp [xa_s1, xa_c1, h2]) (by simp [xa_s1, xt_c, xa_c1]) (by simp [xa_s1]) (by omega)
/-- would he be found in q: his lord's men there, his kind -/
def xq_f (T : xt_T) (P : Nat → Nat) (l s q : Nat) : Bool :=
  if xtk T s = 1 then decide (0 < xq_m T P l q) && !((xG T).testBit q)
  else if xtk T s = 2 then decide (0 < xq_m T P l q) || (decide (0 < xq_m T P l ((q + 1) % xC T)) || decide (0 < xq_m T P l ((q + xC T - 1) % xC T)))
  else decide (0 < xq_m T P l q)
theorem xq_m_le (T : xt_T) (P : Nat → Nat) (l q : Nat) : xq_m T P l q ≤ xnM T := xt_cle _ _
/-- what a TEXT tells keeps to its bounds -/
def xi_T (T : xt_T) : Prop := (2 ≤ xN T ∧ xN T ≤ 61 ∧ 2 ≤ xC T ∧ xC T ≤ 6 ∧ xG T < 64 ∧ xnS T ≤ 6 ∧ xnM T ≤ 6 ∧ xnW T ≤ 6) ∧ (∀ s, s < xnS T → xtk T s ≤ 3 ∧ xtl T s ≤ 2 ∧ xth T s < xC T) ∧ (∀ m, m < xnM T → xtm T m ≤ 2 ∧ xtp T m < xC T ∧ xts T m ≤ 5) ∧ ∀ w, w < xnW T → xtf T w ≤ xtt T w ∧ xtt T w ≤ 99
def xi_P (T : xt_T) (P : Nat → Nat) : Prop := ∀ m, m < xnM T → P m < xC T
/-- how things stand keeps to its bounds -/
def xi_S (T : xt_T) (S : xt_S) : Prop := xsd S ≤ 100000 ∧ (∀ s, s < xnS T → xsh S s ≤ 3 ∧ xsq S s < xC T ∧ xss S s ≤ 61 ∧ xsm S s ≤ 2 ∧ (xsh S s = 0 → xss S s < xN T ∧ xsm S s ≤ 1) ∧ (xsh S s = 1 → xss S s = 0 ∧ xsm S s ≤ 1)) ∧ xi_P T (xsp S)
theorem pc_isFoundIn {M : xa_M} {k t nS : Nat} {S : xt_S} {T : xt_T} (hS : xh_S M k nS (xnM T) S) (hT : xh_T M t T) (iT : xi_T T) (iP : xi_P T (xsp S)) (s q : Nat) (hs : s < xnS T) (hq : q < xC T) :
    xa_E 16 0 (xa_ent [.ref k, .ref t, .int (nI s), .int (nI q)]) [] M (some (.int (nI (if xq_f T (xsp S) (xtl T s) s q = true then 1 else 0))), M) := by
  obtain ⟨⟨b1, b2, b3, b4, b5, b6, b7, b8⟩, bs, bm, bw⟩ := id iT
  have bs := bs s hs
  have hb : ∀ m, m < xnM T → xtm T m < 2147483648 ∧ xsp S m < 2147483648 := fun m hm => by have := bm m hm; have := iP m hm; omega
  have cm := fun (q : Nat) (hq : q < 2147483648) => xa_iff (pc_menIn hS hT b7 hb (xtl T s) q (by omega) hq)
  have cr := fun (x : Nat) (hx : x < 2147483648) => xa_iff (pc_onRing hT b3 b4 x hx)
  have cg := xa_iff (pc_hasGuild hT b5 q (by omega))
  obtain ⟨s0, -⟩ := id hS
  obtain ⟨t0, ⟨g1, t1, f1⟩, ⟨g2, t2, f2⟩, -⟩ := id hT
  have m0 := xq_m_le T (xsp S) (xtl T s) q
  have m1 := xq_m_le T (xsp S) (xtl T s) ((q + 1) % xC T)
  have m2 := xq_m_le T (xsp S) (xtl T s) ((q + xC T - 1) % xC T)
  have n1 : (q + 1) % xC T < xC T := Nat.mod_lt _ (by omega)
  have n2 : (q + xC T - 1) % xC T < xC T := Nat.mod_lt _ (by omega)
  refine xa_go4 (fun lv h0 h1 h2 h3 => ?_)
  have fin : ∀ lv : xa_L, lv 0 = some (.ref k) → lv 1 = some (.ref t) → lv 2 = some (.int (nI s)) → lv 3 = some (.int (nI q)) → lv 4 = some (.int (nI (xtl T s))) → xa_E 16 24 lv [.int (nI (if 0 < xq_m T (xsp S) (xtl T s) q then 1 else 0))] M (some (.int (nI (if xq_f T (xsp S) (xtl T s) s q = true then 1 else 0))), M) := by
    intro lv h0 h1 h2 h3 h4
    simp (disch := omega) only [↓ra_16_24, ↓ra_16_26, ↓ra_16_27, ↓ra_16_30, ↓ra_16_31, ↓ra_16_32, ↓ra_16_33, xa_kli, xa_klr, xa_kll, xa_ki, xa_kl, xa_kr, xa_kii, xa_kk, xa_kir, xa_krr, xa_kiir, xa_krir, xa_kdup, xa_kdup2, xa_kcp, xa_gf, xa_pf, xa_ga, xa_pa, xa_gq, xa_pq, xa_gl, xa_args, xa_ri, xa_rz, xa_rv, xa_s1, xa_s2, xa_c1, eq_self, List.getElem?_cons_succ, List.getElem?_cons_zero, true_and, and_true, nI_add, pk_mul, xt_in, xt_cl, xt_i0, xt_i1, h0, h1, h2, h3, h4, t0, t1, f1, xt_eq, reduceIte, xt_ne]
    by_cases k1 : xtk T s = 1
    · simp (disch := omega) only [if_pos k1, ↓ra_16_36, ↓ra_16_38, ↓ra_16_41, ↓ra_16_42, ↓ra_16_43, ↓ra_16_46, ↓ra_16_49, ↓ra_16_50, ↓ra_16_53, ↓ra_16_54, xa_kli, xa_klr, xa_kll, xa_ki, xa_kl, xa_kr, xa_kii, xa_kk, xa_kir, xa_krr, xa_kiir, xa_krir, xa_kdup, xa_kdup2, xa_kcp, xa_gf, xa_pf, xa_ga, xa_pa, xa_gq, xa_pq, xa_gl, xa_args, xa_ri, xa_rz, xa_rv, xa_s1, xa_s2, xa_c1, eq_self, List.getElem?_cons_succ, List.getElem?_cons_zero, true_and, and_true, nI_add, pk_mul, xt_in, xt_cl, xt_i0, xt_i1, xa_kc, xa_w8, xa_fit, lg_sl, List.flatMap_cons, List.flatMap_nil, List.map_cons, List.map_nil, List.sum_cons, List.sum_nil, Value.category, List.length_cons, List.length_nil, List.length_append, xa_rc, xa_rf, exists_eq_left, exists_eq', Option.some.injEq, Sum.inr.injEq, Prod.mk.injEq, Option.toList_some, Option.toList_none, List.cons_append, List.nil_append, Nat.reduceAdd, Nat.reduceLeDiff, Nat.reduceLT, List.set_cons_zero, List.set_cons_succ, eq_self, or_true, true_or, reduceIte, xt_ne, h0, h1, h2, h3, h4, t0, cg, mx_39, xt_b0]
      by_cases c1 : 0 < xq_m T (xsp S) (xtl T s) q <;> by_cases c2 : (xG T).testBit q = true <;> simp [xq_f, k1, c1, c2]
    · simp (disch := omega) only [if_neg k1, ↓ra_16_55, ↓ra_16_56, ↓ra_16_59, ↓ra_16_60, ↓ra_16_61, ↓ra_16_62, xa_kli, xa_klr, xa_kll, xa_ki, xa_kl, xa_kr, xa_kii, xa_kk, xa_kir, xa_krr, xa_kiir, xa_krir, xa_kdup, xa_kdup2, xa_kcp, xa_gf, xa_pf, xa_ga, xa_pa, xa_gq, xa_pq, xa_gl, xa_args, xa_ri, xa_rz, xa_rv, xa_s1, xa_s2, xa_c1, eq_self, List.getElem?_cons_succ, List.getElem?_cons_zero, true_and, and_true, nI_add, pk_mul, xt_in, xt_cl, xt_i0, xt_i1, h0, h1, h2, h3, h4, t0, t1, f1, xt_eq, reduceIte, xt_ne]
      by_cases k2 : xtk T s = 2
      · have f1 : xa_E 16 109 (xa_s1 lv 5 (.int (nI (if 0 < xq_m T (xsp S) (xtl T s) q then 1 else 0)))) [] M (some (.int (nI 1)), M) := by
          simp (disch := omega) only [↓ra_16_109, ↓ra_16_110, ↓ra_16_113, ↓ra_16_114, xa_kli, xa_klr, xa_kll, xa_ki, xa_kl, xa_kr, xa_kii, xa_kk, xa_kir, xa_krr, xa_kiir, xa_krir, xa_kdup, xa_kdup2, xa_kcp, xa_gf, xa_pf, xa_ga, xa_pa, xa_gq, xa_pq, xa_gl, xa_args, xa_ri, xa_rz, xa_rv, xa_s1, xa_s2, xa_c1, eq_self, List.getElem?_cons_succ, List.getElem?_cons_zero, true_and, and_true, nI_add, pk_mul, xt_in, xt_cl, xt_i0, xt_i1, eq_self, or_true]
        simp (disch := omega) only [if_pos k2, ↓ra_16_65, ↓ra_16_67, xa_kli, xa_klr, xa_kll, xa_ki, xa_kl, xa_kr, xa_kii, xa_kk, xa_kir, xa_krr, xa_kiir, xa_krir, xa_kdup, xa_kdup2, xa_kcp, xa_gf, xa_pf, xa_ga, xa_pa, xa_gq, xa_pq, xa_gl, xa_args, xa_ri, xa_rz, xa_rv, xa_s1, xa_s2, xa_c1, eq_self, List.getElem?_cons_succ, List.getElem?_cons_zero, true_and, and_true, nI_add, pk_mul, xt_in, xt_cl, xt_i0, xt_i1, h0, h1, h2, h3, h4, reduceIte, xt_b0]
        by_cases c1 : 0 < xq_m T (xsp S) (xtl T s) q
        · simp only [c1, not_true_eq_false, if_false, if_true] at f1 ⊢
          rw [show xq_f T (xsp S) (xtl T s) s q = true by simp [xq_f, k1, k2, c1], if_pos rfl]
          exact f1
        · simp only [c1, not_false_eq_true, if_false, if_true] at f1 ⊢
          simp (disch := omega) only [↓ra_16_70, ↓ra_16_71, ↓ra_16_72, ↓ra_16_74, ↓ra_16_75, ↓ra_16_76, ↓ra_16_77, ↓ra_16_78, ↓ra_16_81, ↓ra_16_84, xa_kli, xa_klr, xa_kll, xa_ki, xa_kl, xa_kr, xa_kii, xa_kk, xa_kir, xa_krr, xa_kiir, xa_krir, xa_kdup, xa_kdup2, xa_kcp, xa_gf, xa_pf, xa_ga, xa_pa, xa_gq, xa_pq, xa_gl, xa_args, xa_ri, xa_rz, xa_rv, xa_s1, xa_s2, xa_c1, eq_self, List.getElem?_cons_succ, List.getElem?_cons_zero, true_and, and_true, nI_add, pk_mul, xt_in, xt_cl, xt_i0, xt_i1, xa_kc, xa_w8, xa_fit, lg_sl, List.flatMap_cons, List.flatMap_nil, List.map_cons, List.map_nil, List.sum_cons, List.sum_nil, Value.category, List.length_cons, List.length_nil, List.length_append, xa_rc, xa_rf, exists_eq_left, exists_eq', Option.some.injEq, Sum.inr.injEq, Prod.mk.injEq, Option.toList_some, Option.toList_none, List.cons_append, List.nil_append, Nat.reduceAdd, Nat.reduceLeDiff, Nat.reduceLT, List.set_cons_zero, List.set_cons_succ, eq_self, or_true, true_or, reduceIte, xt_ne, h0, h1, h2, h3, h4, t0, s0, cr, cm, mx_40, mx_15, xt_lt]
          by_cases c2 : 0 < xq_m T (xsp S) (xtl T s) ((q + 1) % xC T)
          · simp only [c2, if_true]
            rw [show xq_f T (xsp S) (xtl T s) s q = true by simp [xq_f, k1, k2, c2], if_pos rfl]
            exact f1
          · simp only [c2, if_false]
            simp (disch := omega) only [↓ra_16_87, ↓ra_16_88, ↓ra_16_89, ↓ra_16_91, ↓ra_16_92, ↓ra_16_93, ↓ra_16_94, ↓ra_16_97, ↓ra_16_98, ↓ra_16_99, ↓ra_16_100, ↓ra_16_103, ↓ra_16_106, xa_kli, xa_klr, xa_kll, xa_ki, xa_kl, xa_kr, xa_kii, xa_kk, xa_kir, xa_krr, xa_kiir, xa_krir, xa_kdup, xa_kdup2, xa_kcp, xa_gf, xa_pf, xa_ga, xa_pa, xa_gq, xa_pq, xa_gl, xa_args, xa_ri, xa_rz, xa_rv, xa_s1, xa_s2, xa_c1, eq_self, List.getElem?_cons_succ, List.getElem?_cons_zero, true_and, and_true, nI_add, pk_mul, xt_in, xt_cl, xt_i0, xt_i1, xa_kc, xa_w8, xa_fit, lg_sl, List.flatMap_cons, List.flatMap_nil, List.map_cons, List.map_nil, List.sum_cons, List.sum_nil, Value.category, List.length_cons, List.length_nil, List.length_append, xa_rc, xa_rf, exists_eq_left, exists_eq', Option.some.injEq, Sum.inr.injEq, Prod.mk.injEq, Option.toList_some, Option.toList_none, List.cons_append, List.nil_append, Nat.reduceAdd, Nat.reduceLeDiff, Nat.reduceLT, List.set_cons_zero, List.set_cons_succ, eq_self, or_true, true_or, reduceIte, xt_ne, h0, h1, h2, h3, h4, t0, s0, cr, cm, mx_40, mx_15, xt_le, xt_sub]
            by_cases c3 : 0 < xq_m T (xsp S) (xtl T s) ((q + xC T - 1) % xC T)
            · rw [if_neg (by omega), show xq_f T (xsp S) (xtl T s) s q = true by simp [xq_f, k1, k2, c3], if_pos rfl]
              exact f1
            · rw [if_pos (by omega), show xq_f T (xsp S) (xtl T s) s q = false by simp [xq_f, k1, k2]; omega, if_neg (by decide)]
              simp (disch := omega) only [↓ra_16_113, ↓ra_16_114, xa_kli, xa_klr, xa_kll, xa_ki, xa_kl, xa_kr, xa_kii, xa_kk, xa_kir, xa_krr, xa_kiir, xa_krir, xa_kdup, xa_kdup2, xa_kcp, xa_gf, xa_pf, xa_ga, xa_pa, xa_gq, xa_pq, xa_gl, xa_args, xa_ri, xa_rz, xa_rv, xa_s1, xa_s2, xa_c1, eq_self, List.getElem?_cons_succ, List.getElem?_cons_zero, true_and, and_true, nI_add, pk_mul, xt_in, xt_cl, xt_i0, xt_i1, eq_self, true_or]
      · simp (disch := omega) only [if_neg k2, ↓ra_16_115, ↓ra_16_117, xa_kli, xa_klr, xa_kll, xa_ki, xa_kl, xa_kr, xa_kii, xa_kk, xa_kir, xa_krr, xa_kiir, xa_krir, xa_kdup, xa_kdup2, xa_kcp, xa_gf, xa_pf, xa_ga, xa_pa, xa_gq, xa_pq, xa_gl, xa_args, xa_ri, xa_rz, xa_rv, xa_s1, xa_s2, xa_c1, eq_self, List.getElem?_cons_succ, List.getElem?_cons_zero, true_and, and_true, nI_add, pk_mul, xt_in, xt_cl, xt_i0, xt_i1, h0, h1, h2, h3, h4, xt_b0, xt_b1]
        by_cases c1 : 0 < xq_m T (xsp S) (xtl T s) q <;> simp [xq_f, k1, k2, c1]
  simp (disch := omega) only [↓ra_16_0, ↓ra_16_1, ↓ra_16_4, ↓ra_16_5, ↓ra_16_6, ↓ra_16_8, ↓ra_16_9, ↓ra_16_10, ↓ra_16_12, ↓ra_16_13, ↓ra_16_16, xa_kli, xa_klr, xa_kll, xa_ki, xa_kl, xa_kr, xa_kii, xa_kk, xa_kir, xa_krr, xa_kiir, xa_krir, xa_kdup, xa_kdup2, xa_kcp, xa_gf, xa_pf, xa_ga, xa_pa, xa_gq, xa_pq, xa_gl, xa_args, xa_ri, xa_rz, xa_rv, xa_s1, xa_s2, xa_c1, eq_self, List.getElem?_cons_succ, List.getElem?_cons_zero, true_and, and_true, nI_add, pk_mul, xt_in, xt_cl, xt_i0, xt_i1, xa_kc, xa_w8, xa_fit, lg_sl, List.flatMap_cons, List.flatMap_nil, List.map_cons, List.map_nil, List.sum_cons, List.sum_nil, Value.category, List.length_cons, List.length_nil, List.length_append, xa_rc, xa_rf, exists_eq_left, exists_eq', Option.some.injEq, Sum.inr.injEq, Prod.mk.injEq, Option.toList_some, Option.toList_none, List.cons_append, List.nil_append, Nat.reduceAdd, Nat.reduceLeDiff, Nat.reduceLT, List.set_cons_zero, List.set_cons_succ, eq_self, or_true, true_or, reduceIte, xt_ne, h0, h1, h2, h3, t0, t1, t2, s0, f1, f2, cm, mx_15, xt_le]
  have := fin (xa_s1 lv 4 (.int (nI (xtl T s)))) (by simp [xa_s1, h0]) (by simp [xa_s1, h1]) (by simp [xa_s1, h2]) (by simp [xa_s1, xa_c1, h3]) (by simp [xa_s1])
  by_cases c1 : xq_m T (xsp S) (xtl T s) q ≤ 0
  · rw [if_neg (by omega)] at this
    simp only [if_pos c1, ↓ra_16_23, xa_kli, xa_klr, xa_kll, xa_ki, xa_kl, xa_kr, xa_kii, xa_kk, xa_kir, xa_krr, xa_kiir, xa_krir, xa_kdup, xa_kdup2, xa_kcp, xa_gf, xa_pf, xa_ga, xa_pa, xa_gq, xa_pq, xa_gl, xa_args, xa_ri, xa_rz, xa_rv, xa_s1, xa_s2, xa_c1, eq_self, List.getElem?_cons_succ, List.getElem?_cons_zero, true_and, and_true, nI_add, pk_mul, xt_in, xt_cl, xt_i0, xt_i1]
    exact this
  · rw [if_pos (by omega)] at this
    simp only [if_neg c1, ↓ra_16_19, ↓ra_16_20, xa_kli, xa_klr, xa_kll, xa_ki, xa_kl, xa_kr, xa_kii, xa_kk, xa_kir, xa_krr, xa_kiir, xa_krir, xa_kdup, xa_kdup2, xa_kcp, xa_gf, xa_pf, xa_ga, xa_pa, xa_gq, xa_pq, xa_gl, xa_args, xa_ri, xa_rz, xa_rv, xa_s1, xa_s2, xa_c1, eq_self, List.getElem?_cons_succ, List.getElem?_cons_zero, true_and, and_true, nI_add, pk_mul, xt_in, xt_cl, xt_i0, xt_i1]
    exact this
/-- a serf's day: how he is, how long he has stayed, how often he was met -/
def xq_d (T : xt_T) (P : Nat → Nat) (l s h q st mt : Nat) : Nat × Nat × Nat :=
  if h = 0 then
    (if xq_f T P l s q = true then
      (if xtk T s = 3 then (if 2 ≤ mt + 1 then (2, st, mt + 1) else (if xN T ≤ st + 1 then 3 else 0, st + 1, mt + 1)) else (2, st, mt))
    else (if xN T ≤ st + 1 then 3 else 0, st + 1, mt))
  else (h, st, mt)
/-- one serf's day, in his Standing -/
def xq_s1 (T : xt_T) (S : xt_S) (l s : Nat) : xt_S :=
  (xsd S, fun j => if j = s then (xq_d T (xsp S) l s (xsh S s) (xsq S s) (xss S s) (xsm S s)).1 else xsh S j, xsq S, fun j => if j = s then (xq_d T (xsp S) l s (xsh S s) (xsq S s) (xss S s) (xsm S s)).2.1 else xss S j, fun j => if j = s then (xq_d T (xsp S) l s (xsh S s) (xsq S s) (xss S s) (xsm S s)).2.2 else xsm S j, xsp S)
theorem xa_arw {M : xa_M} {a n k : Nat} {g : Nat → Int32} {f : Nat → Nat} (h : M.1 a = some (.inl (0, n, .inl g))) (hg : ∀ j, j < k → g j = nI (f j)) : xa_ar M a n k f := ⟨g, h, hg⟩
theorem pc_stayOrBeTaken {M : xa_M} {k t : Nat} {S : xt_S} {T : xt_T} (hS : xh_S M k (xnS T) (xnM T) S) (hT : xh_T M t T) (ht : t + 9 ≤ k ∨ k + 6 ≤ t) (iT : xi_T T) (dp : xi_P T (xsp S)) (s : Nat) (hs : s < xnS T) (h0s : xsh S s = 0) (dq : xsq S s < xC T) (d1 : xss S s ≤ 61) (d2 : xsm S s ≤ 2) :
    ∃ z, xa_E 20 0 (xa_ent [.ref k, .ref t, .int (nI s)]) [] M z ∧ z.1 = none ∧ xa_fr k (k + 6) M z.2 ∧ xh_S z.2 k (xnS T) (xnM T) (xq_s1 T S (xtl T s) s) := by
  obtain ⟨⟨b1, b2, b3, b4, b5, b6, b7, b8⟩, bs, bm, bw⟩ := id iT
  have cf := xa_iff (pc_isFoundIn hS hT iT dp s (xsq S s) hs dq)
  obtain ⟨s0, ⟨g1, s1, e1⟩, ⟨g2, s2, e2⟩, ⟨g3, s3, e3⟩, ⟨g4, s4, e4⟩, s5⟩ := id hS
  obtain ⟨t0, ⟨u1, t1, f1⟩, -⟩ := id hT
  have bk := (bs s hs).1
  refine xa_ge3 (fun lv h0 h1 h2 => ?_)
  simp (disch := omega) only [↓ra_20_0, ↓ra_20_1, ↓ra_20_2, ↓ra_20_3, ↓ra_20_4, ↓ra_20_7, ↓ra_20_8, ↓ra_20_9, ↓ra_20_12, xa_kli, xa_klr, xa_kll, xa_ki, xa_kl, xa_kr, xa_kii, xa_kk, xa_kir, xa_krr, xa_kiir, xa_krir, xa_kdup, xa_kdup2, xa_kcp, xa_gf, xa_pf, xa_ga, xa_pa, xa_gq, xa_pq, xa_gl, xa_args, xa_ri, xa_rz, xa_rv, xa_s1, xa_s2, xa_c1, eq_self, List.getElem?_cons_succ, List.getElem?_cons_zero, true_and, and_true, nI_add, pk_mul, xt_in, xt_cl, xt_i0, xt_i1, xa_kc, xa_w8, xa_fit, lg_sl, List.flatMap_cons, List.flatMap_nil, List.map_cons, List.map_nil, List.sum_cons, List.sum_nil, Value.category, List.length_cons, List.length_nil, List.length_append, xa_rc, xa_rf, exists_eq_left, exists_eq', Option.some.injEq, Sum.inr.injEq, Prod.mk.injEq, Option.toList_some, Option.toList_none, List.cons_append, List.nil_append, Nat.reduceAdd, Nat.reduceLeDiff, Nat.reduceLT, List.set_cons_zero, List.set_cons_succ, eq_self, or_true, true_or, reduceIte, xt_ne, h0, h1, h2, s0, s2, e2, cf, mx_16, xt_b0]
  -- he stays one day more, over any memory in which met alone may have changed
  have stay : ∀ (M1 : xa_M) (mt : Nat), xa_fr k (k + 6) M M1 → M1.1 k = M.1 k → M1.1 (k + 1) = M.1 (k + 1) → M1.1 (k + 2) = M.1 (k + 2) → M1.1 (k + 3) = M.1 (k + 3) → xa_ar M1 (k + 4) 6 (xnS T) (fun j => if j = s then mt else xsm S j) → xa_ar M1 (k + 5) 6 (xnM T) (xsp S) → (xq_d T (xsp S) (xtl T s) s (xsh S s) (xsq S s) (xss S s) (xsm S s)) = (if xN T ≤ xss S s + 1 then 3 else 0, xss S s + 1, mt) → ∃ z, xa_E 20 63 lv [] M1 z ∧ z.1 = none ∧ xa_fr k (k + 6) M z.2 ∧ xh_S z.2 k (xnS T) (xnM T) (xq_s1 T S (xtl T s) s) := by
    intro M1 mt fr m0 m1 m2 m3 m4 m5 eq
    have t0' : M1.1 t = M.1 t := fr.1 t (by omega)
    rw [s0] at m0
    rw [s1] at m1
    rw [s2] at m2
    rw [s3] at m3
    rw [t0] at t0'
    simp (disch := omega) only [↓ra_20_63, ↓ra_20_64, ↓ra_20_67, ↓ra_20_68, ↓ra_20_69, ↓ra_20_70, ↓ra_20_71, ↓ra_20_72, ↓ra_20_73, ↓ra_20_74, ↓ra_20_77, ↓ra_20_78, ↓ra_20_79, ↓ra_20_80, ↓ra_20_83, ↓ra_20_86, ↓ra_20_87, ↓ra_20_90, ↓ra_20_91, ↓ra_20_92, ↓ra_20_93, xa_kli, xa_klr, xa_kll, xa_ki, xa_kl, xa_kr, xa_kii, xa_kk, xa_kir, xa_krr, xa_kiir, xa_krir, xa_kdup, xa_kdup2, xa_kcp, xa_gf, xa_pf, xa_ga, xa_pa, xa_gq, xa_pq, xa_gl, xa_args, xa_ri, xa_rz, xa_rv, xa_s1, xa_s2, xa_c1, eq_self, List.getElem?_cons_succ, List.getElem?_cons_zero, true_and, and_true, nI_add, pk_mul, xt_in, xt_cl, xt_i0, xt_i1, h0, h1, h2, m0, m1, m2, m3, t0', xt_st, xt_ne, xt_us, e3, reduceIte, xt_lt]
    by_cases c : xss S s + 1 < xN T
    · simp only [if_pos c, exists_eq_left, true_and]
      refine ⟨xa_fr_tr fr (xa_fr_st (by omega) (by omega)), ?_, ?_, ?_, ?_, ?_, ?_⟩
      · exact (xa_st_ne (by omega)).trans m0
      · refine xa_ar_ne (xa_arw m1 (fun j hj => ?_)) (by omega)
        rw [e1 j hj]
        show _ = nI (if j = s then _ else _)
        rw [eq]
        by_cases e : j = s
        · subst e; rw [if_pos rfl, if_neg (by omega), h0s]
        · rw [if_neg e]
      · exact xa_ar_ne (xa_arw m2 e2) (by omega)
      · refine xa_ar_up e3 ?_ (fun j _ h => if_neg h)
        show (if s = s then _ else _) = _
        rw [if_pos rfl, eq]
      · refine xa_ar_ne (xa_ar_cg m4 (fun j _ => ?_)) (by omega)
        show _ = (if j = s then _ else _)
        rw [eq]
      · exact xa_ar_ne m5 (by omega)
    · simp only [if_neg c, exists_eq_left, true_and]
      refine ⟨xa_fr_tr (xa_fr_tr fr (xa_fr_st (by omega) (by omega))) (xa_fr_st (by omega) (by omega)), ?_, ?_, ?_, ?_, ?_, ?_⟩
      · exact (xa_st_ne (by omega)).trans ((xa_st_ne (by omega)).trans m0)
      · refine xa_ar_up e1 ?_ (fun j _ h => if_neg h)
        show (if s = s then _ else _) = _
        rw [if_pos rfl, eq, if_pos (by omega)]
      · exact xa_ar_ne (xa_ar_ne (xa_arw m2 e2) (by omega)) (by omega)
      · refine xa_ar_ne (xa_ar_up e3 ?_ (fun j _ h => if_neg h)) (by omega)
        show (if s = s then _ else _) = _
        rw [if_pos rfl, eq]
      · refine xa_ar_ne (xa_ar_ne (xa_ar_cg m4 (fun j _ => ?_)) (by omega)) (by omega)
        show _ = (if j = s then _ else _)
        rw [eq]
      · exact xa_ar_ne (xa_ar_ne m5 (by omega)) (by omega)
  by_cases cF : xq_f T (xsp S) (xtl T s) s (xsq S s) = true
  · simp only [cF, not_true_eq_false, if_false]
    simp (disch := omega) only [↓ra_20_15, ↓ra_20_16, ↓ra_20_19, ↓ra_20_20, ↓ra_20_21, ↓ra_20_22, xa_kli, xa_klr, xa_kll, xa_ki, xa_kl, xa_kr, xa_kii, xa_kk, xa_kir, xa_krr, xa_kiir, xa_krir, xa_kdup, xa_kdup2, xa_kcp, xa_gf, xa_pf, xa_ga, xa_pa, xa_gq, xa_pq, xa_gl, xa_args, xa_ri, xa_rz, xa_rv, xa_s1, xa_s2, xa_c1, eq_self, List.getElem?_cons_succ, List.getElem?_cons_zero, true_and, and_true, nI_add, pk_mul, xt_in, xt_cl, xt_i0, xt_i1, h0, h1, h2, t0, t1, f1, xt_eq]
    by_cases k3 : xtk T s = 3
    · simp (disch := omega) only [if_pos k3, ↓ra_20_25, ↓ra_20_26, ↓ra_20_29, ↓ra_20_30, ↓ra_20_31, ↓ra_20_32, ↓ra_20_33, ↓ra_20_34, ↓ra_20_35, ↓ra_20_36, ↓ra_20_39, ↓ra_20_40, ↓ra_20_41, ↓ra_20_42, ↓ra_20_45, ↓ra_20_46, ↓ra_20_49, ↓ra_20_50, ↓ra_20_51, ↓ra_20_52, xa_kli, xa_klr, xa_kll, xa_ki, xa_kl, xa_kr, xa_kii, xa_kk, xa_kir, xa_krr, xa_kiir, xa_krir, xa_kdup, xa_kdup2, xa_kcp, xa_gf, xa_pf, xa_ga, xa_pa, xa_gq, xa_pq, xa_gl, xa_args, xa_ri, xa_rz, xa_rv, xa_s1, xa_s2, xa_c1, eq_self, List.getElem?_cons_succ, List.getElem?_cons_zero, true_and, and_true, nI_add, pk_mul, xt_in, xt_cl, xt_i0, xt_i1, h0, h1, h2, s0, s4, t0, t1, f1, e4, xt_st, xt_ne, xt_us, reduceIte, xt_eq, xt_lt]
      by_cases c : xsm S s + 1 < 2
      · simp only [if_pos c]
        exact stay _ (xsm S s + 1) (xa_fr_st (by omega) (by omega)) (by simp [xt_st]) (by simp [xt_st]) (by simp [xt_st]) (by simp [xt_st]) (xa_ar_up e4 (if_pos rfl) (fun j _ h => if_neg h)) (xa_ar_ne s5 (by omega)) (by unfold xq_d; rw [if_pos h0s, if_pos cF, if_pos k3, if_neg (by omega)])
      · simp (disch := omega) only [if_neg c, ↓ra_20_55, ↓ra_20_56, ↓ra_20_59, ↓ra_20_60, ↓ra_20_61, ↓ra_20_62, xa_kli, xa_klr, xa_kll, xa_ki, xa_kl, xa_kr, xa_kii, xa_kk, xa_kir, xa_krr, xa_kiir, xa_krir, xa_kdup, xa_kdup2, xa_kcp, xa_gf, xa_pf, xa_ga, xa_pa, xa_gq, xa_pq, xa_gl, xa_args, xa_ri, xa_rz, xa_rv, xa_s1, xa_s2, xa_c1, eq_self, List.getElem?_cons_succ, List.getElem?_cons_zero, true_and, and_true, nI_add, pk_mul, xt_in, xt_cl, xt_i0, xt_i1, h0, h1, h2, s0, s1, xt_st, xt_ne, reduceIte, exists_eq_left]
        have eq : xq_d T (xsp S) (xtl T s) s (xsh S s) (xsq S s) (xss S s) (xsm S s) = (2, xss S s, xsm S s + 1) := by unfold xq_d; rw [if_pos h0s, if_pos cF, if_pos k3, if_pos (by omega)]
        refine ⟨xa_fr_tr (xa_fr_st (by omega) (by omega)) (xa_fr_st (by omega) (by omega)), ?_, ?_, ?_, ?_, ?_, ?_⟩
        · exact (xa_st_ne (by omega)).trans ((xa_st_ne (by omega)).trans s0)
        · refine xa_ar_up e1 ?_ (fun j _ h => if_neg h)
          show (if s = s then _ else _) = _
          rw [if_pos rfl, eq]
        · exact xa_ar_ne (xa_ar_ne (xa_arw s2 e2) (by omega)) (by omega)
        · refine xa_ar_ne (xa_ar_ne (xa_ar_cg (xa_arw s3 e3) (fun j _ => ?_)) (by omega)) (by omega)
          show _ = (if j = s then _ else _)
          rw [eq]
          by_cases e : j = s
          · subst e; rw [if_pos rfl]
          · rw [if_neg e]
        · refine xa_ar_ne (xa_ar_up e4 ?_ (fun j _ h => if_neg h)) (by omega)
          show (if s = s then _ else _) = _
          rw [if_pos rfl, eq]
        · exact xa_ar_ne (xa_ar_ne s5 (by omega)) (by omega)
    · simp (disch := omega) only [if_neg k3, ↓ra_20_35, ↓ra_20_36, ↓ra_20_39, ↓ra_20_40, ↓ra_20_41, ↓ra_20_42, ↓ra_20_45, ↓ra_20_46, ↓ra_20_49, ↓ra_20_50, ↓ra_20_51, ↓ra_20_52, ↓ra_20_55, ↓ra_20_56, ↓ra_20_59, ↓ra_20_60, ↓ra_20_61, ↓ra_20_62, xa_kli, xa_klr, xa_kll, xa_ki, xa_kl, xa_kr, xa_kii, xa_kk, xa_kir, xa_krr, xa_kiir, xa_krir, xa_kdup, xa_kdup2, xa_kcp, xa_gf, xa_pf, xa_ga, xa_pa, xa_gq, xa_pq, xa_gl, xa_args, xa_ri, xa_rz, xa_rv, xa_s1, xa_s2, xa_c1, eq_self, List.getElem?_cons_succ, List.getElem?_cons_zero, true_and, and_true, nI_add, pk_mul, xt_in, xt_cl, xt_i0, xt_i1, h0, h1, h2, s0, s1, t0, t1, f1, xt_st, xt_ne, reduceIte, xt_eq, exists_eq_left]
      have eq : xq_d T (xsp S) (xtl T s) s (xsh S s) (xsq S s) (xss S s) (xsm S s) = (2, xss S s, xsm S s) := by unfold xq_d; rw [if_pos h0s, if_pos cF, if_neg k3]
      refine ⟨xa_fr_st (by omega) (by omega), ?_, ?_, ?_, ?_, ?_, ?_⟩
      · exact (xa_st_ne (by omega)).trans s0
      · refine xa_ar_up e1 ?_ (fun j _ h => if_neg h)
        show (if s = s then _ else _) = _
        rw [if_pos rfl, eq]
      · exact xa_ar_ne (xa_arw s2 e2) (by omega)
      · refine xa_ar_ne (xa_ar_cg (xa_arw s3 e3) (fun j _ => ?_)) (by omega)
        show _ = (if j = s then _ else _)
        rw [eq]
        by_cases e : j = s
        · subst e; rw [if_pos rfl]
        · rw [if_neg e]
      · refine xa_ar_ne (xa_ar_cg (xa_arw s4 e4) (fun j _ => ?_)) (by omega)
        show _ = (if j = s then _ else _)
        rw [eq]
        by_cases e : j = s
        · subst e; rw [if_pos rfl]
        · rw [if_neg e]
      · exact xa_ar_ne s5 (by omega)
  · simp only [cF, not_false_eq_true, if_true]
    have hh : ∀ j, j < xnS T → xsm S j = (if j = s then xsm S s else xsm S j) := fun j _ => by
      by_cases e : j = s
      · subst e; rw [if_pos rfl]
      · rw [if_neg e]
    exact stay M (xsm S s) xa_fr_rf rfl rfl rfl rfl (xa_ar_cg (xa_arw s4 e4) hh) s5 (by unfold xq_d; rw [if_pos h0s, if_neg cF])
