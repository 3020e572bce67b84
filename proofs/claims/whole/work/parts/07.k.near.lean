theorem xt_m4n (n : Nat) (h : n < 2147483648) : (nI n = Int32.ofInt (-4)) = False := by
  refine eq_false (fun e => ?_)
  have := congrArg Int32.toInt e
  rw [nI_toInt (by omega)] at this
  have h4 : (Int32.ofInt (-4)).toInt = -4 := by decide
  omega
theorem xt_m4l (n : Nat) (h : n < 2147483648) : (Int32.ofInt (-4) < nI n) = True := by
  refine eq_true ?_
  rw [Int32.lt_iff_toInt_lt, nI_toInt (by omega)]
  have h4 : (Int32.ofInt (-4)).toInt = -4 := by decide
  omega
theorem xt_o4 (o : Option Nat) (h : ∀ n, o = some n → n < 2147483648) : (xt_o o = Int32.ofInt (-4)) = (o = none) := by
  cases o with
  | none => simp [xt_o]
  | some n =>
    show (nI n = _) = _
    rw [xt_m4n n (h n rfl)]
    simp
def xq_near (C q r : Nat) : Bool := decide (r = q) || (decide ((q + 1) % C = r) || decide ((r + 1) % C = q))
theorem pc_areNext {M : xa_M} {t : Nat} {T : xt_T} (hT : xh_T M t T) (hC : 2 ≤ xC T) (hC6 : xC T ≤ 6) (q r : Nat) (hq : q < 1000) (hr : r < 1000) : xa_E 41 0 (xa_ent [.ref t, .int (nI q), .int (nI r)]) [] M (some (.int (nI (if (q + 1) % xC T = r ∨ (r + 1) % xC T = q then 1 else 0))), M) := by
  have cr := fun (x : Nat) (hx : x < 2147483648) => xa_iff (pc_onRing hT hC hC6 x hx)
  have m1 : (q + 1) % xC T < xC T := Nat.mod_lt _ (by omega)
  have m2 : (r + 1) % xC T < xC T := Nat.mod_lt _ (by omega)
  have t0 := hT.1
  refine xa_go3 (fun lv h0 h1 h2 => ?_)
  simp (disch := omega) only [↓ra_41_0, ↓ra_41_1, ↓ra_41_2, ↓ra_41_3, ↓ra_41_4, ↓ra_41_7, ↓ra_41_8, ↓ra_41_11, ↓ra_41_12, ↓ra_41_13, ↓ra_41_14, ↓ra_41_15, ↓ra_41_18, ↓ra_41_19, ↓ra_41_22, ↓ra_41_23, ↓ra_41_26, ↓ra_41_27, xa_kli, xa_klr, xa_kll, xa_ki, xa_kl, xa_kr, xa_kii, xa_kk, xa_kir, xa_krr, xa_kiir, xa_krir, xa_kdup, xa_kdup2, xa_kcp, xa_gf, xa_pf, xa_ga, xa_pa, xa_gq, xa_pq, xa_gl, xa_args, xa_ri, xa_rz, xa_rv, xa_s1, xa_s2, xa_c1, eq_self, List.getElem?_cons_succ, List.getElem?_cons_zero, true_and, and_true, nI_add, pk_mul, xt_in, xt_cl, xt_i0, xt_i1, xa_kc, xa_w8, xa_fit, lg_sl, List.flatMap_cons, List.flatMap_nil, List.map_cons, List.map_nil, List.sum_cons, List.sum_nil, Value.category, List.length_cons, List.length_nil, List.length_append, xa_rc, xa_rf, exists_eq_left, exists_eq', Option.some.injEq, Sum.inr.injEq, Prod.mk.injEq, Option.toList_some, Option.toList_none, List.cons_append, List.nil_append, Nat.reduceAdd, Nat.reduceLeDiff, Nat.reduceLT, List.set_cons_zero, List.set_cons_succ, eq_self, or_true, true_or, reduceIte, xt_ne, h0, h1, h2, t0, cr, mx_40, xt_eq]
  by_cases c1 : (q + 1) % xC T = r <;> by_cases c2 : (r + 1) % xC T = q <;> simp [c1, c2]
/-- the last day that a notch proves which proves this day, of the first i -/
def xq_pf (T : xt_T) (day : Nat) : Nat → Option Nat
  | 0 => none
  | i + 1 => if xtf T i ≤ day ∧ day ≤ xtt T i then some (max ((xq_pf T day i).getD 0) (xtt T i)) else xq_pf T day i
theorem xq_pf_le {T : xt_T} {day : Nat} (hw : ∀ w, w < xnW T → xtf T w ≤ xtt T w ∧ xtt T w ≤ 99) : ∀ i, i ≤ xnW T → ∀ n, xq_pf T day i = some n → day ≤ n ∧ n ≤ 99
  | 0, _, n, h => by cases h
  | i + 1, hi, n, h => by
    unfold xq_pf at h
    have b := hw i (by omega)
    split at h
    · rename_i c
      cases h
      refine ⟨by omega, ?_⟩
      cases e : xq_pf T day i with
      | none => show max 0 _ ≤ 99; omega
      | some m => have := (xq_pf_le hw i (by omega) m e).2; show max m _ ≤ 99; omega
    · exact xq_pf_le hw i (by omega) n h
theorem pc_provedFrom {M : xa_M} {t : Nat} {T : xt_T} (hT : xh_T M t T) (iT : xi_T T) (day : Nat) (hd : day < 1000) : xa_E 42 0 (xa_ent [.ref t, .int (nI day)]) [] M (some (.int (xt_o (xq_pf T day (xnW T)))), M) := by
  obtain ⟨⟨b1, b2, b3, b4, b5, b6, b7, b8⟩, bs, bm, bw⟩ := id iT
  obtain ⟨t0, -, -, -, -, -, -, ⟨g7, t7, e7⟩, ⟨g8, t8, e8⟩⟩ := hT
  refine xa_go2 (fun lv h0 h1 => ?_)
  have loop : ∀ (n i : Nat) (lv : xa_L), lv 0 = some (.ref t) → lv 1 = some (.int (nI day)) → lv 2 = some (.int (xt_o (xq_pf T day i))) → lv 3 = some (.int (nI i)) → i + n = xnW T → xa_E 42 5 lv [] M (some (.int (xt_o (xq_pf T day (xnW T)))), M) := by
    intro n
    induction n with
    | zero =>
      intro i lv h0 h1 h2 h3 e
      have e : i = xnW T := by omega
      subst e
      simp (disch := omega) only [↓ra_42_5, ↓ra_42_6, ↓ra_42_7, ↓ra_42_10, ↓ra_42_50, ↓ra_42_51, xa_kli, xa_klr, xa_kll, xa_ki, xa_kl, xa_kr, xa_kii, xa_kk, xa_kir, xa_krr, xa_kiir, xa_krir, xa_kdup, xa_kdup2, xa_kcp, xa_gf, xa_pf, xa_ga, xa_pa, xa_gq, xa_pq, xa_gl, xa_args, xa_ri, xa_rz, xa_rv, xa_s1, xa_s2, xa_c1, eq_self, List.getElem?_cons_succ, List.getElem?_cons_zero, true_and, and_true, nI_add, pk_mul, xt_in, xt_cl, xt_i0, xt_i1, h0, h1, h2, h3, t0, xt_le, Nat.le_refl, if_true]
    | succ n ih =>
      intro i lv h0 h1 h2 h3 e
      have bi := bw i (by omega)
      have e7 := e7 i (by omega)
      have e8 := e8 i (by omega)
      simp (disch := omega) only [↓ra_42_5, ↓ra_42_6, ↓ra_42_7, ↓ra_42_10, ↓ra_42_13, ↓ra_42_14, ↓ra_42_17, ↓ra_42_18, ↓ra_42_19, ↓ra_42_20, ↓ra_42_23, ↓ra_42_24, ↓ra_42_25, ↓ra_42_28, ↓ra_42_29, ↓ra_42_30, xa_kli, xa_klr, xa_kll, xa_ki, xa_kl, xa_kr, xa_kii, xa_kk, xa_kir, xa_krr, xa_kiir, xa_krir, xa_kdup, xa_kdup2, xa_kcp, xa_gf, xa_pf, xa_ga, xa_pa, xa_gq, xa_pq, xa_gl, xa_args, xa_ri, xa_rz, xa_rv, xa_s1, xa_s2, xa_c1, eq_self, List.getElem?_cons_succ, List.getElem?_cons_zero, true_and, and_true, nI_add, pk_mul, xt_in, xt_cl, xt_i0, xt_i1, h0, h1, h2, h3, t0, t7, t8, e7, e8, xt_le, xt_lt]
      rw [if_neg (by omega)]
      have nxt : ∀ lv' : xa_L, lv' 0 = some (.ref t) → lv' 1 = some (.int (nI day)) → lv' 2 = some (.int (xt_o (xq_pf T day (i + 1)))) → lv' 3 = some (.int (nI i)) → xa_E 42 44 lv' [] M (some (.int (xt_o (xq_pf T day (xnW T)))), M) := by
        intro lv' g0 g1 g2 g3
        simp (disch := omega) only [↓ra_42_44, ↓ra_42_47, xa_kli, xa_klr, xa_kll, xa_ki, xa_kl, xa_kr, xa_kii, xa_kk, xa_kir, xa_krr, xa_kiir, xa_krir, xa_kdup, xa_kdup2, xa_kcp, xa_gf, xa_pf, xa_ga, xa_pa, xa_gq, xa_pq, xa_gl, xa_args, xa_ri, xa_rz, xa_rv, xa_s1, xa_s2, xa_c1, eq_self, List.getElem?_cons_succ, List.getElem?_cons_zero, true_and, and_true, nI_add, pk_mul, xt_in, xt_cl, xt_i0, xt_i1, g3]
        exact ih (i + 1) _ (by simp [xa_s1, xa_c1, g0]) (by simp [xa_s1, xa_c1, g1]) (by simp [xa_s1, xa_c1, g2]) (by simp [xa_s1, xa_c1, nI_add]) (by omega)
      by_cases c1 : xtf T i ≤ day ∧ day ≤ xtt T i
      · rw [if_neg (by omega), if_neg (by omega)]
        simp (disch := omega) only [↓ra_42_33, ↓ra_42_34, ↓ra_42_35, ↓ra_42_38, ↓ra_42_39, ↓ra_42_40, ↓ra_42_43, xa_kli, xa_klr, xa_kll, xa_ki, xa_kl, xa_kr, xa_kii, xa_kk, xa_kir, xa_krr, xa_kiir, xa_krir, xa_kdup, xa_kdup2, xa_kcp, xa_gf, xa_pf, xa_ga, xa_pa, xa_gq, xa_pq, xa_gl, xa_args, xa_ri, xa_rz, xa_rv, xa_s1, xa_s2, xa_c1, eq_self, List.getElem?_cons_succ, List.getElem?_cons_zero, true_and, and_true, nI_add, pk_mul, xt_in, xt_cl, xt_i0, xt_i1, xa_kc, xa_w8, xa_fit, lg_sl, List.flatMap_cons, List.flatMap_nil, List.map_cons, List.map_nil, List.sum_cons, List.sum_nil, Value.category, List.length_cons, List.length_nil, List.length_append, xa_rc, xa_rf, exists_eq_left, exists_eq', Option.some.injEq, Sum.inr.injEq, Prod.mk.injEq, Option.toList_some, Option.toList_none, List.cons_append, List.nil_append, Nat.reduceAdd, Nat.reduceLeDiff, Nat.reduceLT, List.set_cons_zero, List.set_cons_succ, eq_self, or_true, true_or, reduceIte, xt_ne, h0, h1, h2, h3, t0, t8, e8]
        refine nxt _ (by simp [xa_s1, xa_c1, h0]) (by simp [xa_s1, xa_c1, h1]) ?_ (by simp [xa_s1, xa_c1, h3])
        rw [show xq_pf T day (i + 1) = some (max ((xq_pf T day i).getD 0) (xtt T i)) from if_pos c1]
        cases eo : xq_pf T day i with
        | none =>
          simp (disch := omega) only [xa_s1, xa_c1, xt_o, xt_m4l, if_true, Option.getD_none, Nat.zero_max]
        | some m =>
          have := xq_pf_le (T := T) (day := day) bw i (by omega) m eo
          simp (disch := omega) only [xa_s1, xa_c1, xt_o, xt_lt, if_true, Option.getD_some]
          by_cases c : m < xtt T i
          · rw [if_pos c, Nat.max_eq_right (by omega)]
          · rw [if_neg c, Nat.max_eq_left (by omega)]
      · have ep : xq_pf T day (i + 1) = xq_pf T day i := if_neg c1
        have := nxt lv h0 h1 (by rw [ep]; exact h2) h3
        by_cases c2 : day < xtf T i
        · rw [if_pos c2]; exact this
        · rw [if_neg c2, if_pos (by omega)]; exact this
  simp (disch := omega) only [↓ra_42_0, ↓ra_42_2, ↓ra_42_3, ↓ra_42_4, xa_kli, xa_klr, xa_kll, xa_ki, xa_kl, xa_kr, xa_kii, xa_kk, xa_kir, xa_krr, xa_kiir, xa_krir, xa_kdup, xa_kdup2, xa_kcp, xa_gf, xa_pf, xa_ga, xa_pa, xa_gq, xa_pq, xa_gl, xa_args, xa_ri, xa_rz, xa_rv, xa_s1, xa_s2, xa_c1, eq_self, List.getElem?_cons_succ, List.getElem?_cons_zero, true_and, and_true, nI_add, pk_mul, xt_in, xt_cl, xt_i0, xt_i1, h0, h1]
  exact loop (xnW T) 0 _ (by simp [xa_s1, xa_c1, h0]) (by simp [xa_s1, xa_c1, h1]) (by simp [xa_s1, xa_c1, xq_pf, xt_o]) (by simp [xa_s1, xa_c1]) (by omega)
/-- the least below n that is so -/
def xt_lo (p : Nat → Bool) : Nat → Option Nat
  | 0 => none
  | n + 1 => match xt_lo p n with
    | some r => some r
    | none => if p n = true then some n else none
theorem xt_lo_mono {p : Nat → Bool} {r : Nat} : ∀ (n k : Nat), xt_lo p n = some r → xt_lo p (n + k) = some r
  | _, 0, h => h
  | n, k + 1, h => by
    show xt_lo p ((n + k) + 1) = _
    unfold xt_lo
    rw [xt_lo_mono n k h]
theorem xt_lo_some {p : Nat → Bool} {r : Nat} : ∀ (n : Nat), xt_lo p n = some r → r < n ∧ p r = true
  | 0, h => by cases h
  | n + 1, h => by
    unfold xt_lo at h
    cases e : xt_lo p n with
    | none =>
      rw [e] at h
      dsimp only at h
      split at h
      · rename_i c; cases h; exact ⟨by omega, c⟩
      · cases h
    | some m =>
      rw [e] at h
      have := xt_lo_some n (e.trans h)
      exact ⟨by omega, this.2⟩
theorem xt_lo_none {p : Nat → Bool} : ∀ (n : Nat), xt_lo p n = none ↔ ∀ j, j < n → p j = false
  | 0 => ⟨fun _ j h => absurd h (Nat.not_lt_zero j), fun _ => rfl⟩
  | n + 1 => by
    have ih := xt_lo_none (p := p) n
    unfold xt_lo
    constructor
    · intro h j hj
      cases e : xt_lo p n with
      | none =>
        rw [e] at h
        dsimp only at h
        split at h
        · cases h
        · rename_i c
          by_cases ej : j = n
          · subst ej; exact Bool.eq_false_iff.mpr c
          · exact ih.mp e j (by omega)
      | some m => rw [e] at h; cases h
    · intro h
      rw [ih.mpr (fun j hj => h j (by omega))]
      dsimp only
      rw [if_neg (by rw [h n (by omega)]; decide)]
theorem pc_lowestNear {M : xa_M} {w t : Nat} {T : xt_T} (hT : xh_T M t T) (hC : 2 ≤ xC T) (hC6 : xC T ≤ 6) (q b : Nat) (hq : q < 6) (hb : b < 64) :
    xa_E 47 0 (xa_ent [.ref w, .ref t, .int (nI q), .int (nI b)]) [] M (some (.int (xt_o (xt_lo (fun r => b.testBit r && xq_near (xC T) q r) (xC T)))), M) := by
  have ca := fun (q r : Nat) (hq : q < 1000) (hr : r < 1000) => xa_iff (pc_areNext hT hC hC6 q r hq hr)
  have t0 := hT.1
  refine xa_go4 (fun lv h0 h1 h2 h3 => ?_)
  have loop : ∀ (n i : Nat) (lv : xa_L), lv 1 = some (.ref t) → lv 2 = some (.int (nI q)) → lv 3 = some (.int (nI b)) → lv 4 = some (.int (nI i)) → i + n = xC T → xt_lo (fun r => b.testBit r && xq_near (xC T) q r) i = none → xa_E 47 3 lv [] M (some (.int (xt_o (xt_lo (fun r => b.testBit r && xq_near (xC T) q r) (xC T)))), M) := by
    intro n
    induction n with
    | zero =>
      intro i lv h1 h2 h3 h4 e hno
      have e : i = xC T := by omega
      subst e
      rw [hno]
      simp (disch := omega) only [↓ra_47_3, ↓ra_47_5, ↓ra_47_6, ↓ra_47_9, ↓ra_47_47, ↓ra_47_49, xa_kli, xa_klr, xa_kll, xa_ki, xa_kl, xa_kr, xa_kii, xa_kk, xa_kir, xa_krr, xa_kiir, xa_krir, xa_kdup, xa_kdup2, xa_kcp, xa_gf, xa_pf, xa_ga, xa_pa, xa_gq, xa_pq, xa_gl, xa_args, xa_ri, xa_rz, xa_rv, xa_s1, xa_s2, xa_c1, eq_self, List.getElem?_cons_succ, List.getElem?_cons_zero, true_and, and_true, nI_add, pk_mul, xt_in, xt_cl, xt_i0, xt_i1, h1, h2, h3, h4, t0, xt_le, Nat.le_refl, if_true, xt_o]
    | succ n ih =>
      intro i lv h1 h2 h3 h4 e hno
      have eb : nI (b / 2 ^ i) &&& nI 1 = nI (if b.testBit i = true then 1 else 0) := by
        have e1 := pk_andN (n := b / 2 ^ i) (Nat.lt_of_le_of_lt (Nat.div_le_self _ _) (by omega)) (m := nI 1) 1 (by decide)
        rw [e1, Nat.testBit_eq_decide_div_mod_eq]
        rcases Nat.mod_two_eq_zero_or_one (b / 2 ^ i) with h | h <;> simp [h]
      have nxt : ¬ (b.testBit i && xq_near (xC T) q i) = true → xa_E 47 41 lv [] M (some (.int (xt_o (xt_lo (fun r => b.testBit r && xq_near (xC T) q r) (xC T)))), M) := by
        intro hn
        simp (disch := omega) only [↓ra_47_41, ↓ra_47_44, xa_kli, xa_klr, xa_kll, xa_ki, xa_kl, xa_kr, xa_kii, xa_kk, xa_kir, xa_krr, xa_kiir, xa_krir, xa_kdup, xa_kdup2, xa_kcp, xa_gf, xa_pf, xa_ga, xa_pa, xa_gq, xa_pq, xa_gl, xa_args, xa_ri, xa_rz, xa_rv, xa_s1, xa_s2, xa_c1, eq_self, List.getElem?_cons_succ, List.getElem?_cons_zero, true_and, and_true, nI_add, pk_mul, xt_in, xt_cl, xt_i0, xt_i1, h4]
        refine ih (i + 1) _ (by simp [xa_s1, xa_c1, h1]) (by simp [xa_s1, xa_c1, h2]) (by simp [xa_s1, xa_c1, h3]) (by simp [xa_s1, xa_c1, nI_add]) (by omega) ?_
        unfold xt_lo
        rw [hno]
        dsimp only
        rw [if_neg hn]
      have hit : (b.testBit i && xq_near (xC T) q i) = true → xa_E 47 38 lv [] M (some (.int (xt_o (xt_lo (fun r => b.testBit r && xq_near (xC T) q r) (xC T)))), M) := by
        intro hn
        have e1 : xt_lo (fun r => b.testBit r && xq_near (xC T) q r) (i + 1) = some i := by
          unfold xt_lo
          rw [hno]
          dsimp only
          rw [if_pos hn]
        rw [show xC T = (i + 1) + n by omega, xt_lo_mono _ _ (by rw [show (i + 1) + n = xC T by omega]; exact e1)]
        simp (disch := omega) only [↓ra_47_38, ↓ra_47_40, xa_kli, xa_klr, xa_kll, xa_ki, xa_kl, xa_kr, xa_kii, xa_kk, xa_kir, xa_krr, xa_kiir, xa_krir, xa_kdup, xa_kdup2, xa_kcp, xa_gf, xa_pf, xa_ga, xa_pa, xa_gq, xa_pq, xa_gl, xa_args, xa_ri, xa_rz, xa_rv, xa_s1, xa_s2, xa_c1, eq_self, List.getElem?_cons_succ, List.getElem?_cons_zero, true_and, and_true, nI_add, pk_mul, xt_in, xt_cl, xt_i0, xt_i1, h4, xt_o]
      simp (disch := omega) only [↓ra_47_3, ↓ra_47_5, ↓ra_47_6, ↓ra_47_9, ↓ra_47_12, ↓ra_47_13, ↓ra_47_15, ↓ra_47_16, ↓ra_47_17, ↓ra_47_18, ↓ra_47_19, xa_kli, xa_klr, xa_kll, xa_ki, xa_kl, xa_kr, xa_kii, xa_kk, xa_kir, xa_krr, xa_kiir, xa_krir, xa_kdup, xa_kdup2, xa_kcp, xa_gf, xa_pf, xa_ga, xa_pa, xa_gq, xa_pq, xa_gl, xa_args, xa_ri, xa_rz, xa_rv, xa_s1, xa_s2, xa_c1, eq_self, List.getElem?_cons_succ, List.getElem?_cons_zero, true_and, and_true, nI_add, pk_mul, xt_in, xt_cl, xt_i0, xt_i1, h1, h2, h3, h4, t0, xt_le, xt_shr, eb, xt_b1]
      rw [if_neg (by omega)]
      by_cases c1 : b.testBit i = true
      · rw [if_pos c1]
        simp (disch := omega) only [↓ra_47_22, ↓ra_47_24, ↓ra_47_25, ↓ra_47_28, ↓ra_47_29, ↓ra_47_30, ↓ra_47_32, ↓ra_47_35, xa_kli, xa_klr, xa_kll, xa_ki, xa_kl, xa_kr, xa_kii, xa_kk, xa_kir, xa_krr, xa_kiir, xa_krir, xa_kdup, xa_kdup2, xa_kcp, xa_gf, xa_pf, xa_ga, xa_pa, xa_gq, xa_pq, xa_gl, xa_args, xa_ri, xa_rz, xa_rv, xa_s1, xa_s2, xa_c1, eq_self, List.getElem?_cons_succ, List.getElem?_cons_zero, true_and, and_true, nI_add, pk_mul, xt_in, xt_cl, xt_i0, xt_i1, xa_kc, xa_w8, xa_fit, lg_sl, List.flatMap_cons, List.flatMap_nil, List.map_cons, List.map_nil, List.sum_cons, List.sum_nil, Value.category, List.length_cons, List.length_nil, List.length_append, xa_rc, xa_rf, exists_eq_left, exists_eq', Option.some.injEq, Sum.inr.injEq, Prod.mk.injEq, Option.toList_some, Option.toList_none, List.cons_append, List.nil_append, Nat.reduceAdd, Nat.reduceLeDiff, Nat.reduceLT, List.set_cons_zero, List.set_cons_succ, eq_self, or_true, true_or, reduceIte, xt_ne, h1, h2, h3, h4, t0, xt_eq, ca, mx_41, xt_b0]
        by_cases c2 : i = q
        · rw [if_pos c2]
          exact hit (by rw [c1]; simp [xq_near, c2])
        · rw [if_neg c2]
          by_cases c3 : (q + 1) % xC T = i ∨ (i + 1) % xC T = q
          · rw [if_neg (not_not_intro c3)]
            exact hit (by simp only [c1, xq_near, Bool.true_and]; rcases c3 with h | h <;> simp [h])
          · rw [if_pos c3]
            exact nxt (by simp only [c1, xq_near, Bool.true_and]; simp; omega)
      · rw [if_neg c1]
        exact nxt (by simp [c1])
  simp (disch := omega) only [↓ra_47_0, ↓ra_47_1, xa_kli, xa_klr, xa_kll, xa_ki, xa_kl, xa_kr, xa_kii, xa_kk, xa_kir, xa_krr, xa_kiir, xa_krir, xa_kdup, xa_kdup2, xa_kcp, xa_gf, xa_pf, xa_ga, xa_pa, xa_gq, xa_pq, xa_gl, xa_args, xa_ri, xa_rz, xa_rv, xa_s1, xa_s2, xa_c1, eq_self, List.getElem?_cons_succ, List.getElem?_cons_zero, true_and, and_true, nI_add, pk_mul, xt_in, xt_cl, xt_i0, xt_i1]
  exact loop (xC T) 0 _ (by simp [xa_s1, xa_c1, h1]) (by simp [xa_s1, xa_c1, h2]) (by simp [xa_s1, xa_c1, h3]) (by simp [xa_s1, xa_c1]) (by omega) rfl
