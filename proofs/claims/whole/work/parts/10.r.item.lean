theorem xq_k1_le {len p m a p2 : Nat} {txt : Nat → Nat} (h : xq_k1 len txt p m = some (a, p2)) : p < p2 ∧ p2 ≤ len ∧ a ≤ 99 := by
  unfold xq_k1 at h
  cases hn : xq_num len txt p with
  | none => rw [hn] at h; cases h
  | some t =>
    obtain ⟨a', m', q⟩ := t
    rw [hn] at h
    dsimp only at h
    split at h
    · cases h
      unfold xq_num at hn
      split at hn
      · rename_i hc
        have := xq_val_le hc.1
        cases hn
        omega
      · cases hn
    · cases h
/-- items of one, two, three numbers -/
def xq_c1 (len : Nat) (txt : Nat → Nat) (p : Nat) (f : Nat → Option xt_T) : Option (Nat × xt_T) := match xq_k1 len txt p 59 with
  | none => none
  | some (a, p2) => (f a).map (fun T2 => (p2, T2))
def xq_c2 (len : Nat) (txt : Nat → Nat) (p : Nat) (f : Nat → Nat → Option xt_T) : Option (Nat × xt_T) := match xq_k1 len txt p 44 with
  | none => none
  | some (a, p2) => xq_c1 len txt p2 (f a)
def xq_c3 (len : Nat) (txt : Nat → Nat) (p : Nat) (f : Nat → Nat → Nat → Option xt_T) : Option (Nat × xt_T) := match xq_k1 len txt p 44 with
  | none => none
  | some (a, p2) => xq_c2 len txt p2 (f a)
theorem xq_c1_n {len p : Nat} {txt : Nat → Nat} {f : Nat → Option xt_T} (h : ∀ a p2, xq_k1 len txt p 59 = some (a, p2) → f a = none) : xq_c1 len txt p f = none := by
  unfold xq_c1
  cases hk : xq_k1 len txt p 59 with
  | none => rfl
  | some t =>
    obtain ⟨a, p2⟩ := t
    dsimp only
    rw [h a p2 hk]
    rfl
theorem xq_c2_n {len p : Nat} {txt : Nat → Nat} {f : Nat → Nat → Option xt_T} (h : ∀ a p2, xq_k1 len txt p 44 = some (a, p2) → ∀ b, f a b = none) : xq_c2 len txt p f = none := by
  unfold xq_c2
  cases hk : xq_k1 len txt p 44 with
  | none => rfl
  | some t =>
    obtain ⟨a, p2⟩ := t
    dsimp only
    exact xq_c1_n (fun b p3 _ => h a p2 hk b)
theorem xq_c3_n {len p : Nat} {txt : Nat → Nat} {f : Nat → Nat → Nat → Option xt_T} (h : ∀ a p2, xq_k1 len txt p 44 = some (a, p2) → ∀ b d, f a b d = none) : xq_c3 len txt p f = none := by
  unfold xq_c3
  cases hk : xq_k1 len txt p 44 with
  | none => rfl
  | some t =>
    obtain ⟨a, p2⟩ := t
    dsimp only
    exact xq_c2_n (fun b p3 _ d => h a p2 hk b d)
theorem xq_rn_k {len : Nat} {txt : Nat → Nat} : ∀ (r k p : Nat) (v : Nat → Nat) (p2 n : Nat) (v2 : Nat → Nat), xq_rn len txt r k p v = some (p2, n, v2) → k < n
  | 0, _, _, _, _, _, _, h => by cases h
  | r + 1, k, p, v, p2, n, v2, h => by
    unfold xq_rn at h
    split at h
    · cases h
    · split at h
      · cases h; omega
      · split at h
        · have := xq_rn_k r (k + 1) _ _ _ _ _ h; omega
        · cases h
def xq_item (len : Nat) (txt : Nat → Nat) (p : Nat) (T : xt_T) : Option (Nat × xt_T) := match xq_rn len txt 3 0 (p + 1) (fun _ => 0) with
  | none => none
  | some (p2, k, v) => (xq_acc T (txt p) k v).map (fun T2 => (p2, T2))
theorem xq_rn_s (len : Nat) (txt : Nat → Nat) (r k p : Nat) (v : Nat → Nat) : xq_rn len txt (r + 1) k p v = (match xq_k1 len txt p 59 with
    | some (a, p2) => some (p2, k + 1, fun j => if j = k then a else v j)
    | none => match xq_k1 len txt p 44 with
      | some (a, p2) => xq_rn len txt r (k + 1) p2 (fun j => if j = k then a else v j)
      | none => none) := by
  rw [xq_rn]
  unfold xq_k1
  cases xq_num len txt p with
  | none => rfl
  | some t =>
    obtain ⟨a, m, p2⟩ := t
    dsimp only
    by_cases c1 : m = 59
    · rw [if_pos c1, if_pos c1]
    · rw [if_neg c1, if_neg c1]
      by_cases c2 : m = 44
      · rw [if_pos c2, if_pos c2]
      · rw [if_neg c2, if_neg c2]
theorem xq_k1_x {len p a p2 : Nat} {txt : Nat → Nat} (h : xq_k1 len txt p 59 = some (a, p2)) : xq_k1 len txt p 44 = none := by
  unfold xq_k1 at h ⊢
  cases hn : xq_num len txt p with
  | none => rfl
  | some t =>
    obtain ⟨a', m, q⟩ := t
    rw [hn] at h
    dsimp only at h ⊢
    split at h
    · rename_i e; rw [if_neg (by omega)]
    · cases h
theorem xq_it1 {len p : Nat} {txt : Nat → Nat} {T : xt_T} {f : Nat → Option xt_T} (hf : ∀ k v, xq_acc T (txt p) k v = if k = 1 then f (v 0) else none) : xq_item len txt p T = xq_c1 len txt (p + 1) f := by
  unfold xq_item xq_c1
  rw [show (3 : Nat) = 2 + 1 from rfl, xq_rn_s]
  cases h1 : xq_k1 len txt (p + 1) 59 with
  | some t =>
    obtain ⟨a, p2⟩ := t
    dsimp only
    rw [hf, if_pos rfl, if_pos rfl]
  | none =>
    dsimp only
    cases h2 : xq_k1 len txt (p + 1) 44 with
    | none => rfl
    | some t =>
      obtain ⟨a, p2⟩ := t
      dsimp only
      cases h3 : xq_rn len txt 2 (0 + 1) p2 (fun j => if j = 0 then a else 0) with
      | none => rfl
      | some t =>
        obtain ⟨p3, k, v⟩ := t
        have := xq_rn_k _ _ _ _ _ _ _ h3
        dsimp only
        rw [hf, if_neg (by omega)]
        rfl
theorem xq_it2 {len p : Nat} {txt : Nat → Nat} {T : xt_T} {f : Nat → Nat → Option xt_T} (hf : ∀ k v, xq_acc T (txt p) k v = if k = 2 then f (v 0) (v 1) else none) : xq_item len txt p T = xq_c2 len txt (p + 1) f := by
  unfold xq_item xq_c2
  rw [show (3 : Nat) = 2 + 1 from rfl, xq_rn_s]
  cases h1 : xq_k1 len txt (p + 1) 59 with
  | some t =>
    obtain ⟨a, p2⟩ := t
    rw [xq_k1_x h1]
    dsimp only
    rw [hf, if_neg (by omega)]
    rfl
  | none =>
    dsimp only
    cases h2 : xq_k1 len txt (p + 1) 44 with
    | none => rfl
    | some t =>
      obtain ⟨a, p2⟩ := t
      dsimp only
      unfold xq_c1
      rw [show (2 : Nat) = 1 + 1 from rfl, xq_rn_s]
      cases h3 : xq_k1 len txt p2 59 with
      | some t =>
        obtain ⟨b, p3⟩ := t
        dsimp only
        rw [hf, if_pos rfl]
        simp
      | none =>
        dsimp only
        cases h4 : xq_k1 len txt p2 44 with
        | none => rfl
        | some t =>
          obtain ⟨b, p3⟩ := t
          dsimp only
          generalize (fun j => if j = 0 + 1 then b else (fun j => if j = 0 then a else 0) j) = vv
          cases h5 : xq_rn len txt 1 (0 + 1 + 1) p3 vv with
          | none => rfl
          | some t =>
            obtain ⟨p4, k, v⟩ := t
            have := xq_rn_k _ _ _ _ _ _ _ h5
            dsimp only
            rw [hf, if_neg (by omega)]
            rfl
theorem xq_it3 {len p : Nat} {txt : Nat → Nat} {T : xt_T} {f : Nat → Nat → Nat → Option xt_T} (hf : ∀ k v, xq_acc T (txt p) k v = if k = 3 then f (v 0) (v 1) (v 2) else none) : xq_item len txt p T = xq_c3 len txt (p + 1) f := by
  unfold xq_item xq_c3
  rw [show (3 : Nat) = 2 + 1 from rfl, xq_rn_s]
  cases h1 : xq_k1 len txt (p + 1) 59 with
  | some t =>
    obtain ⟨a, p2⟩ := t
    rw [xq_k1_x h1]
    dsimp only
    rw [hf, if_neg (by omega)]
    rfl
  | none =>
    dsimp only
    cases h2 : xq_k1 len txt (p + 1) 44 with
    | none => rfl
    | some t =>
      obtain ⟨a, p2⟩ := t
      dsimp only
      unfold xq_c2
      rw [show (2 : Nat) = 1 + 1 from rfl, xq_rn_s]
      cases h3 : xq_k1 len txt p2 59 with
      | some t =>
        obtain ⟨b, p3⟩ := t
        rw [xq_k1_x h3]
        dsimp only
        rw [hf, if_neg (by omega)]
        rfl
      | none =>
        dsimp only
        cases h4 : xq_k1 len txt p2 44 with
        | none => rfl
        | some t =>
          obtain ⟨b, p3⟩ := t
          dsimp only
          unfold xq_c1
          rw [show (1 : Nat) = 0 + 1 from rfl, xq_rn_s]
          cases h5 : xq_k1 len txt p3 59 with
          | some t =>
            obtain ⟨d, p4⟩ := t
            dsimp only
            rw [hf, if_pos rfl]
            simp
          | none =>
            dsimp only
            cases xq_k1 len txt p3 44 with
            | none => rfl
            | some t =>
              obtain ⟨d, p4⟩ := t
              rfl
theorem xq_it0 {len p : Nat} {txt : Nat → Nat} {T : xt_T} (hf : ∀ k v, xq_acc T (txt p) k v = none) : xq_item len txt p T = none := by
  unfold xq_item
  cases xq_rn len txt 3 0 (p + 1) (fun _ => 0) with
  | none => rfl
  | some t =>
    obtain ⟨p2, k, v⟩ := t
    dsimp only
    rw [hf]
    rfl
/-- what was read so far, in the row of 51 -/
def xv_R (t : Nat → Int32) (T : xt_T) : Prop :=
  (t 0 = nI (xN T) ∧ t 1 = nI (xC T) ∧ t 2 = nI (xG T) ∧ t 3 = nI (xnS T) ∧ t 4 = nI (xnM T) ∧ t 5 = nI (xnW T)) ∧
  (∀ s, s < xnS T → t (6 + 3 * s) = nI (xtk T s) ∧ t (6 + 3 * s + 1) = nI (xtl T s) ∧ t (6 + 3 * s + 2) = nI (xth T s)) ∧
  (∀ m, m < xnM T → t (24 + 3 * m) = nI (xtm T m) ∧ t (24 + 3 * m + 1) = nI (xtp T m) ∧ t (24 + 3 * m + 2) = nI (xts T m)) ∧
  ∀ w, w < xnW T → t (39 + 2 * w) = nI (xtf T w) ∧ t (39 + 2 * w + 1) = nI (xtt T w)
theorem xv_R_T {r t : Nat → Int32} {T : xt_T} (h : xv_R t T) (h6 : xnS T ≤ 6) (h5 : xnM T ≤ 5) (e2 : r 2 = nI 0) (e3 : r 3 = Int32.ofInt (-4)) (e5 : r 5 = Int32.ofInt (-4)) : xv_T r t T (xnM T) := by
  obtain ⟨⟨v0, v1, v2, v3, v4, v5⟩, vs, vm, vw⟩ := h
  refine ⟨⟨?_, v1, v2, v3, v4, v5⟩, fun s hs => ?_, vm, ⟨h5, Or.inl ⟨rfl, e5⟩⟩, vw⟩
  · rw [e2, v0, nI_add]; rfl
  · obtain ⟨p1, p2, p3⟩ := vs s hs
    rw [e3, if_neg (of_eq_false (xt_m4n s (by omega)))]
    exact ⟨p1, p2, p3⟩
def xq_ok (r2 h : Nat → Int32) (O : Option (Nat × xt_T)) (z : xa_Z) : Prop := match O with
  | none => z.1 = some (.int (nI 0))
  | some (p2, T2) => z.1 = some (.int (nI 1)) ∧ r2 9 = nI p2 ∧ xv_R h T2
theorem pd_readSerf {M : xa_M} {c len p : Nat} {txt : Nat → Nat} {r : Nat → Int32} {g : Nat → Nat → Int32} {T : xt_T} (hB : xb_M M c r g) (iX : xi_X len txt) (h8 : r 8 = nI len) (h9 : r 9 = nI p) (hp : p ≤ len) (ht : ∀ j, j < len → g 3 j = nI (txt j)) (hR : xv_R (g 4) T) (iT : xi_T T) (h5 : xnM T ≤ 5) : ∃ z, xa_E 110 0 (xa_ent [.ref c]) [] M z ∧ ∃ r2 h, xn c M r2 (xb_u g 4 h) z.2 ∧ (∀ j, j ≠ 9 → j ≠ 12 → r2 j = r j) ∧ xq_ok r2 h (xq_c3 len txt p (xq_aS T)) z := by
  obtain ⟨⟨b1, b2, b3, b4, b5, b6, b7, b8⟩, bs, bm, bw⟩ := id iT
  have ix := iX.1
  obtain ⟨⟨v0, v1, v2, v3, v4, v5⟩, vs, vm, vw⟩ := id hR
  obtain ⟨m0, m1, m2, m3, m4, -⟩ := id hB
  unfold xb_c at m0
  refine xa_ge1 (fun lv h0 => ?_)
  simp (disch := omega) only [↓ra_110_0, ↓ra_110_2, ↓ra_110_3, ↓ra_110_4, ↓ra_110_7, ↓ra_110_8, ↓ra_110_9, ↓ra_110_10, ↓ra_110_11, xa_kli, xa_klr, xa_kll, xa_ki, xa_kl, xa_kr, xa_kii, xa_kk, xa_kir, xa_krr, xa_kiir, xa_krir, xa_kdup, xa_kdup2, xa_kcp, xa_gf, xa_pf, xa_ga, xa_pa, xa_gq, xa_pq, xa_gl, xa_args, xa_ri, xa_rz, xa_rv, xa_s1, xa_s2, xa_c1, eq_self, List.getElem?_cons_succ, List.getElem?_cons_zero, true_and, and_true, nI_add, pk_mul, xt_in, xt_cl, xt_i0, xt_i1, xa_kc, xa_w8, xa_fit, lg_sl, List.flatMap_cons, List.flatMap_nil, List.map_cons, List.map_nil, List.sum_cons, List.sum_nil, Value.category, List.length_cons, List.length_nil, List.length_append, xa_rc, xa_rf, exists_eq_left, exists_eq', Option.some.injEq, Sum.inr.injEq, Prod.mk.injEq, Option.toList_some, Option.toList_none, List.cons_append, List.nil_append, Nat.reduceAdd, Nat.reduceLeDiff, Nat.reduceLT, List.set_cons_zero, List.set_cons_succ, eq_self, or_true, true_or, reduceIte, xt_ne, h0, m0, m4, v3, xt_eq]
  simp (disch := omega) only [↓ra_110_12, ↓ra_110_13, ↓ra_110_16, ↓ra_110_17, ↓ra_110_18, ↓ra_110_20, xa_kli, xa_klr, xa_kll, xa_ki, xa_kl, xa_kr, xa_kii, xa_kk, xa_kir, xa_krr, xa_kiir, xa_krir, xa_kdup, xa_kdup2, xa_kcp, xa_gf, xa_pf, xa_ga, xa_pa, xa_gq, xa_pq, xa_gl, xa_args, xa_ri, xa_rz, xa_rv, xa_s1, xa_s2, xa_c1, eq_self, List.getElem?_cons_succ, List.getElem?_cons_zero, true_and, and_true, nI_add, pk_mul, xt_in, xt_cl, xt_i0, xt_i1, xa_kc, xa_w8, xa_fit, lg_sl, List.flatMap_cons, List.flatMap_nil, List.map_cons, List.map_nil, List.sum_cons, List.sum_nil, Value.category, List.length_cons, List.length_nil, List.length_append, xa_rc, xa_rf, exists_eq_left, exists_eq', Option.some.injEq, Sum.inr.injEq, Prod.mk.injEq, Option.toList_some, Option.toList_none, List.cons_append, List.nil_append, Nat.reduceAdd, Nat.reduceLeDiff, Nat.reduceLT, List.set_cons_zero, List.set_cons_succ, eq_self, or_true, true_or, reduceIte, xt_ne, h0, m0, m4, v3, xt_eq]
  by_cases c6 : xnS T = 6
  · simp only [if_pos c6]
    simp (disch := omega) only [↓ra_110_34, ↓ra_110_35, xa_kli, xa_klr, xa_kll, xa_ki, xa_kl, xa_kr, xa_kii, xa_kk, xa_kir, xa_krr, xa_kiir, xa_krir, xa_kdup, xa_kdup2, xa_kcp, xa_gf, xa_pf, xa_ga, xa_pa, xa_gq, xa_pq, xa_gl, xa_args, xa_ri, xa_rz, xa_rv, xa_s1, xa_s2, xa_c1, eq_self, List.getElem?_cons_succ, List.getElem?_cons_zero, true_and, and_true, nI_add, pk_mul, xt_in, xt_cl, xt_i0, xt_i1, xa_kc, xa_w8, xa_fit, lg_sl, List.flatMap_cons, List.flatMap_nil, List.map_cons, List.map_nil, List.sum_cons, List.sum_nil, Value.category, List.length_cons, List.length_nil, List.length_append, xa_rc, xa_rf, exists_eq_left, exists_eq', Option.some.injEq, Sum.inr.injEq, Prod.mk.injEq, Option.toList_some, Option.toList_none, List.cons_append, List.nil_append, Nat.reduceAdd, Nat.reduceLeDiff, Nat.reduceLT, List.set_cons_zero, List.set_cons_succ, eq_self, or_true, true_or, reduceIte, xt_ne]
    refine ⟨r, g 4, by rw [xb_ui]; exact xn_r hB, fun _ _ _ => rfl, ?_⟩
    rw [xq_c3_n (fun a p2 _ b d => by unfold xq_aS; exact if_neg (by omega))]
    rfl
  · simp only [if_neg c6]
    obtain ⟨⟨z1, M1⟩, cE1, r1, hn1, er1, hc1⟩ := pd_number hB iX h8 h9 (by omega) ht 0 (3) 44 (by omega) (by omega) (by omega)
    dsimp only at hn1 hc1
    rcases hc1 with ⟨a, p2, q1, q2, q3, q4, q5, q6⟩ | ⟨q1, q2⟩
    · subst q4
      have l1 := xq_k1_le q1
      obtain ⟨n0, n1, n2, n3, n4, -⟩ := id hn1.2
      unfold xb_c at n0
      have hn2 := xn_s4 (h2 := upd (g 4) (6 + 3 * xnS T) (nI a)) hn1
      have e8 : r1 8 = nI len := (er1 8 (by omega) (by omega)).trans h8
      obtain ⟨⟨z3, M3⟩, cE3, r3, hn3, er3, hc3⟩ := pd_number hn2.2 iX e8 q5 (by omega) ht 0 (2) 44 (by omega) (by omega) (by omega)
      dsimp only at hn3 hc3
      have ec3 : xq_c3 len txt p (xq_aS T) = xq_c2 len txt p2 (xq_aS T a) := by unfold xq_c3; rw [q1]
      rw [ec3]
      have cv : upd (g 4) (6 + 3 * xnS T) (nI a) 1 = nI (xC T) := by rw [xt_us, if_neg (by omega)]; exact v1
      simp (disch := omega) only [↓ra_110_23, ↓ra_110_24, ↓ra_110_25, ↓ra_110_26, ↓ra_110_28, ↓ra_110_31, xa_kli, xa_klr, xa_kll, xa_ki, xa_kl, xa_kr, xa_kii, xa_kk, xa_kir, xa_krr, xa_kiir, xa_krir, xa_kdup, xa_kdup2, xa_kcp, xa_gf, xa_pf, xa_ga, xa_pa, xa_gq, xa_pq, xa_gl, xa_args, xa_ri, xa_rz, xa_rv, xa_s1, xa_s2, xa_c1, eq_self, List.getElem?_cons_succ, List.getElem?_cons_zero, true_and, and_true, nI_add, pk_mul, xt_in, xt_cl, xt_i0, xt_i1, xa_kc, xa_w8, xa_fit, lg_sl, List.flatMap_cons, List.flatMap_nil, List.map_cons, List.map_nil, List.sum_cons, List.sum_nil, Value.category, List.length_cons, List.length_nil, List.length_append, xa_rc, xa_rf, exists_eq_left, exists_eq', Option.some.injEq, Sum.inr.injEq, Prod.mk.injEq, Option.toList_some, Option.toList_none, List.cons_append, List.nil_append, Nat.reduceAdd, Nat.reduceLeDiff, Nat.reduceLT, List.set_cons_zero, List.set_cons_succ, eq_self, or_true, true_or, reduceIte, xt_ne, xt_eq, Nat.reduceEqDiff, Nat.one_ne_zero, if_false, h0, m0, m4, v1, xt_sub, xa_iff cE1, mx_108]
      simp (disch := omega) only [↓ra_110_36, ↓ra_110_37, ↓ra_110_40, ↓ra_110_41, ↓ra_110_42, ↓ra_110_45, xa_kli, xa_klr, xa_kll, xa_ki, xa_kl, xa_kr, xa_kii, xa_kk, xa_kir, xa_krr, xa_kiir, xa_krir, xa_kdup, xa_kdup2, xa_kcp, xa_gf, xa_pf, xa_ga, xa_pa, xa_gq, xa_pq, xa_gl, xa_args, xa_ri, xa_rz, xa_rv, xa_s1, xa_s2, xa_c1, eq_self, List.getElem?_cons_succ, List.getElem?_cons_zero, true_and, and_true, nI_add, pk_mul, xt_in, xt_cl, xt_i0, xt_i1, xa_kc, xa_w8, xa_fit, lg_sl, List.flatMap_cons, List.flatMap_nil, List.map_cons, List.map_nil, List.sum_cons, List.sum_nil, Value.category, List.length_cons, List.length_nil, List.length_append, xa_rc, xa_rf, exists_eq_left, exists_eq', Option.some.injEq, Sum.inr.injEq, Prod.mk.injEq, Option.toList_some, Option.toList_none, List.cons_append, List.nil_append, Nat.reduceAdd, Nat.reduceLeDiff, Nat.reduceLT, List.set_cons_zero, List.set_cons_succ, eq_self, or_true, true_or, reduceIte, xt_ne, h0, n0, n4, q6]
      rcases hc3 with ⟨b, p3, w1, w2, w3, w4, w5, w6⟩ | ⟨w1, w2⟩
      · subst w4
        have l3 := xq_k1_le w1
        obtain ⟨k0, k1, k2, k3, k4, -⟩ := id hn3.2
        unfold xb_c at k0
        rw [xb_ue] at k4
        have ec2 : xq_c2 len txt p2 (xq_aS T a) = xq_c1 len txt p3 (xq_aS T a b) := by unfold xq_c2; rw [w1]
        rw [ec2]
        have cv3 : upd (upd (g 4) (6 + 3 * xnS T) (nI a)) ((6 + 3 * xnS T) + 1) (nI b) 3 = nI (xnS T) := by rw [xt_us, if_neg (by omega), xt_us, if_neg (by omega)]; exact v3
        have cv1 : upd (upd (upd (g 4) (6 + 3 * xnS T) (nI a)) ((6 + 3 * xnS T) + 1) (nI b)) 3 (nI (xnS T + 1)) 1 = nI (xC T) := by rw [xt_us, if_neg (by omega), xt_us, if_neg (by omega)]; exact cv
        have hn4 := xn_s4' (upd (upd (upd (g 4) (6 + 3 * xnS T) (nI a)) ((6 + 3 * xnS T) + 1) (nI b)) 3 (nI (xnS T + 1))) (xn_s4' (upd (upd (g 4) (6 + 3 * xnS T) (nI a)) ((6 + 3 * xnS T) + 1) (nI b)) hn3)
        have f8 : r3 8 = nI len := (er3 8 (by omega) (by omega)).trans e8
        obtain ⟨⟨z5, M5⟩, cE5, r5, h5', hn5, er5, eh5, hc5⟩ := pd_readOne hn4.2 iX f8 w5 (by omega) ht ((6 + 3 * xnS T) + 2) 0 (xC T - 1) (by omega) (by omega) (by omega)
        dsimp only at hn5 hc5
        rw [xb_ue] at eh5
        rw [xb_u2] at hn5
        have er : ∀ j, j ≠ 9 → j ≠ 12 → r5 j = r j := fun j x y => (er5 j x y).trans ((er3 j x y).trans (er1 j x y))
        simp (disch := omega) only [↓ra_110_46, ↓ra_110_47, ↓ra_110_48, ↓ra_110_49, ↓ra_110_51, ↓ra_110_54, xa_kli, xa_klr, xa_kll, xa_ki, xa_kl, xa_kr, xa_kii, xa_kk, xa_kir, xa_krr, xa_kiir, xa_krir, xa_kdup, xa_kdup2, xa_kcp, xa_gf, xa_pf, xa_ga, xa_pa, xa_gq, xa_pq, xa_gl, xa_args, xa_ri, xa_rz, xa_rv, xa_s1, xa_s2, xa_c1, eq_self, List.getElem?_cons_succ, List.getElem?_cons_zero, true_and, and_true, nI_add, pk_mul, xt_in, xt_cl, xt_i0, xt_i1, xa_kc, xa_w8, xa_fit, lg_sl, List.flatMap_cons, List.flatMap_nil, List.map_cons, List.map_nil, List.sum_cons, List.sum_nil, Value.category, List.length_cons, List.length_nil, List.length_append, xa_rc, xa_rf, exists_eq_left, exists_eq', Option.some.injEq, Sum.inr.injEq, Prod.mk.injEq, Option.toList_some, Option.toList_none, List.cons_append, List.nil_append, Nat.reduceAdd, Nat.reduceLeDiff, Nat.reduceLT, List.set_cons_zero, List.set_cons_succ, eq_self, or_true, true_or, reduceIte, xt_ne, xt_eq, Nat.reduceEqDiff, Nat.one_ne_zero, if_false, h0, n0, xt_st, cv, xt_sub, xa_iff cE3, mx_108]
        simp (disch := omega) only [↓ra_110_59, ↓ra_110_60, ↓ra_110_63, ↓ra_110_64, ↓ra_110_65, ↓ra_110_66, ↓ra_110_67, ↓ra_110_70, ↓ra_110_71, ↓ra_110_72, ↓ra_110_75, ↓ra_110_76, ↓ra_110_77, ↓ra_110_78, ↓ra_110_79, ↓ra_110_80, xa_kli, xa_klr, xa_kll, xa_ki, xa_kl, xa_kr, xa_kii, xa_kk, xa_kir, xa_krr, xa_kiir, xa_krir, xa_kdup, xa_kdup2, xa_kcp, xa_gf, xa_pf, xa_ga, xa_pa, xa_gq, xa_pq, xa_gl, xa_args, xa_ri, xa_rz, xa_rv, xa_s1, xa_s2, xa_c1, eq_self, List.getElem?_cons_succ, List.getElem?_cons_zero, true_and, and_true, nI_add, pk_mul, xt_in, xt_cl, xt_i0, xt_i1, xa_kc, xa_w8, xa_fit, lg_sl, List.flatMap_cons, List.flatMap_nil, List.map_cons, List.map_nil, List.sum_cons, List.sum_nil, Value.category, List.length_cons, List.length_nil, List.length_append, xa_rc, xa_rf, exists_eq_left, exists_eq', Option.some.injEq, Sum.inr.injEq, Prod.mk.injEq, Option.toList_some, Option.toList_none, List.cons_append, List.nil_append, Nat.reduceAdd, Nat.reduceLeDiff, Nat.reduceLT, List.set_cons_zero, List.set_cons_succ, eq_self, or_true, true_or, reduceIte, xt_ne, h0, k0, k4, w6, xt_st, cv3]
        rcases hc5 with ⟨d, p4, y1, y2, y3, y4, y5, y6⟩ | ⟨y1, y2⟩
        · subst y4
          simp (disch := omega) only [↓ra_110_81, ↓ra_110_82, ↓ra_110_83, ↓ra_110_84, ↓ra_110_85, ↓ra_110_86, ↓ra_110_87, ↓ra_110_90, ↓ra_110_91, ↓ra_110_92, ↓ra_110_93, ↓ra_110_94, ↓ra_110_97, xa_kli, xa_klr, xa_kll, xa_ki, xa_kl, xa_kr, xa_kii, xa_kk, xa_kir, xa_krr, xa_kiir, xa_krir, xa_kdup, xa_kdup2, xa_kcp, xa_gf, xa_pf, xa_ga, xa_pa, xa_gq, xa_pq, xa_gl, xa_args, xa_ri, xa_rz, xa_rv, xa_s1, xa_s2, xa_c1, eq_self, List.getElem?_cons_succ, List.getElem?_cons_zero, true_and, and_true, nI_add, pk_mul, xt_in, xt_cl, xt_i0, xt_i1, xa_kc, xa_w8, xa_fit, lg_sl, List.flatMap_cons, List.flatMap_nil, List.map_cons, List.map_nil, List.sum_cons, List.sum_nil, Value.category, List.length_cons, List.length_nil, List.length_append, xa_rc, xa_rf, exists_eq_left, exists_eq', Option.some.injEq, Sum.inr.injEq, Prod.mk.injEq, Option.toList_some, Option.toList_none, List.cons_append, List.nil_append, Nat.reduceAdd, Nat.reduceLeDiff, Nat.reduceLT, List.set_cons_zero, List.set_cons_succ, eq_self, or_true, true_or, reduceIte, xt_ne, h0, k0, k4, xt_st, cv1, xt_sub, xa_iff cE5, mx_109]
          have ef : xq_c1 len txt p3 (xq_aS T a b) = some (p4, ((xN T, xC T, xG T, xnS T + 1, xnM T, xnW T), fun j => if j = xnS T then a else xtk T j, fun j => if j = xnS T then b else xtl T j, fun j => if j = xnS T then d else xth T j, T.2.2.2.2)) := by unfold xq_c1; rw [y1]; dsimp only; unfold xq_aS; rw [if_pos (by omega)]; rfl
          rw [ef]
          have oj : ∀ j, j ≠ (6 + 3 * xnS T) → j ≠ (6 + 3 * xnS T) + 1 → j ≠ (6 + 3 * xnS T) + 2 → j ≠ 3 → h5' j = g 4 j := fun j x1 x2 x3 x4 => by rw [eh5 j x3, xt_us, if_neg x4, xt_us, if_neg x2, xt_us, if_neg x1]
          have ok : h5' (6 + 3 * xnS T) = nI a := by rw [eh5 _ (by omega), xt_us, if_neg (by omega), xt_us, if_neg (by omega), xt_us, if_pos rfl]
          have ok1 : h5' ((6 + 3 * xnS T) + 1) = nI b := by rw [eh5 _ (by omega), xt_us, if_neg (by omega), xt_us, if_pos rfl]
          have oc : h5' 3 = nI (xnS T + 1) := by rw [eh5 _ (by omega), xt_us, if_pos rfl]
          refine ⟨r5, h5', xn_t hn2 (xn_t hn4 hn5), er, rfl, y5, ?_⟩
          refine ⟨⟨(oj 0 (by omega) (by omega) (by omega) (by omega)).trans v0, (oj 1 (by omega) (by omega) (by omega) (by omega)).trans v1, (oj 2 (by omega) (by omega) (by omega) (by omega)).trans v2, oc, (oj 4 (by omega) (by omega) (by omega) (by omega)).trans v4, (oj 5 (by omega) (by omega) (by omega) (by omega)).trans v5⟩, fun s hs => ?_, fun m hm => ?_, fun w hw => ?_⟩
          · have hs : s < xnS T + 1 := hs
            show _ = nI (if s = xnS T then a else xtk T s) ∧ _ = nI (if s = xnS T then b else xtl T s) ∧ _ = nI (if s = xnS T then d else xth T s)
            by_cases e : s = xnS T
            · rw [if_pos e, if_pos e, if_pos e, e]; exact ⟨ok, ok1, y6⟩
            · rw [if_neg e, if_neg e, if_neg e, oj _ (by omega) (by omega) (by omega) (by omega), oj _ (by omega) (by omega) (by omega) (by omega), oj _ (by omega) (by omega) (by omega) (by omega)]; exact vs s (by omega)
          · rw [oj _ (by omega) (by omega) (by omega) (by omega), oj _ (by omega) (by omega) (by omega) (by omega), oj _ (by omega) (by omega) (by omega) (by omega)]; exact vm m hm
          · rw [oj _ (by omega) (by omega) (by omega) (by omega), oj _ (by omega) (by omega) (by omega) (by omega)]; exact vw w hw
        · subst y2
          simp (disch := omega) only [↓ra_110_81, ↓ra_110_82, ↓ra_110_83, ↓ra_110_84, ↓ra_110_85, ↓ra_110_86, ↓ra_110_87, ↓ra_110_90, ↓ra_110_91, ↓ra_110_92, ↓ra_110_93, ↓ra_110_94, ↓ra_110_97, xa_kli, xa_klr, xa_kll, xa_ki, xa_kl, xa_kr, xa_kii, xa_kk, xa_kir, xa_krr, xa_kiir, xa_krir, xa_kdup, xa_kdup2, xa_kcp, xa_gf, xa_pf, xa_ga, xa_pa, xa_gq, xa_pq, xa_gl, xa_args, xa_ri, xa_rz, xa_rv, xa_s1, xa_s2, xa_c1, eq_self, List.getElem?_cons_succ, List.getElem?_cons_zero, true_and, and_true, nI_add, pk_mul, xt_in, xt_cl, xt_i0, xt_i1, xa_kc, xa_w8, xa_fit, lg_sl, List.flatMap_cons, List.flatMap_nil, List.map_cons, List.map_nil, List.sum_cons, List.sum_nil, Value.category, List.length_cons, List.length_nil, List.length_append, xa_rc, xa_rf, exists_eq_left, exists_eq', Option.some.injEq, Sum.inr.injEq, Prod.mk.injEq, Option.toList_some, Option.toList_none, List.cons_append, List.nil_append, Nat.reduceAdd, Nat.reduceLeDiff, Nat.reduceLT, List.set_cons_zero, List.set_cons_succ, eq_self, or_true, true_or, reduceIte, xt_ne, h0, k0, k4, xt_st, cv1, xt_sub, xa_iff cE5, mx_109]
          refine ⟨r5, h5', xn_t hn2 (xn_t hn4 hn5), er, ?_⟩
          rw [xq_c1_n (fun d p4 e => by have := y1 d p4 e; unfold xq_aS; exact if_neg (by omega))]
          rfl
      · subst w2
        simp (disch := omega) only [↓ra_110_46, ↓ra_110_47, ↓ra_110_48, ↓ra_110_49, ↓ra_110_51, ↓ra_110_54, ↓ra_110_57, ↓ra_110_58, xa_kli, xa_klr, xa_kll, xa_ki, xa_kl, xa_kr, xa_kii, xa_kk, xa_kir, xa_krr, xa_kiir, xa_krir, xa_kdup, xa_kdup2, xa_kcp, xa_gf, xa_pf, xa_ga, xa_pa, xa_gq, xa_pq, xa_gl, xa_args, xa_ri, xa_rz, xa_rv, xa_s1, xa_s2, xa_c1, eq_self, List.getElem?_cons_succ, List.getElem?_cons_zero, true_and, and_true, nI_add, pk_mul, xt_in, xt_cl, xt_i0, xt_i1, xa_kc, xa_w8, xa_fit, lg_sl, List.flatMap_cons, List.flatMap_nil, List.map_cons, List.map_nil, List.sum_cons, List.sum_nil, Value.category, List.length_cons, List.length_nil, List.length_append, xa_rc, xa_rf, exists_eq_left, exists_eq', Option.some.injEq, Sum.inr.injEq, Prod.mk.injEq, Option.toList_some, Option.toList_none, List.cons_append, List.nil_append, Nat.reduceAdd, Nat.reduceLeDiff, Nat.reduceLT, List.set_cons_zero, List.set_cons_succ, eq_self, or_true, true_or, reduceIte, xt_ne, xt_eq, Nat.reduceEqDiff, Nat.one_ne_zero, if_false, h0, n0, xt_st, cv, xt_sub, xa_iff cE3, mx_108]
        refine ⟨r3, _, xn_t hn2 hn3, fun j x y => (er3 j x y).trans (er1 j x y), ?_⟩
        rw [xq_c2_n (fun b p3 e d => by have := w1 b p3 e; unfold xq_aS; exact if_neg (by omega))]
        rfl
    · subst q2
      simp (disch := omega) only [↓ra_110_23, ↓ra_110_24, ↓ra_110_25, ↓ra_110_26, ↓ra_110_28, ↓ra_110_31, ↓ra_110_34, ↓ra_110_35, xa_kli, xa_klr, xa_kll, xa_ki, xa_kl, xa_kr, xa_kii, xa_kk, xa_kir, xa_krr, xa_kiir, xa_krir, xa_kdup, xa_kdup2, xa_kcp, xa_gf, xa_pf, xa_ga, xa_pa, xa_gq, xa_pq, xa_gl, xa_args, xa_ri, xa_rz, xa_rv, xa_s1, xa_s2, xa_c1, eq_self, List.getElem?_cons_succ, List.getElem?_cons_zero, true_and, and_true, nI_add, pk_mul, xt_in, xt_cl, xt_i0, xt_i1, xa_kc, xa_w8, xa_fit, lg_sl, List.flatMap_cons, List.flatMap_nil, List.map_cons, List.map_nil, List.sum_cons, List.sum_nil, Value.category, List.length_cons, List.length_nil, List.length_append, xa_rc, xa_rf, exists_eq_left, exists_eq', Option.some.injEq, Sum.inr.injEq, Prod.mk.injEq, Option.toList_some, Option.toList_none, List.cons_append, List.nil_append, Nat.reduceAdd, Nat.reduceLeDiff, Nat.reduceLT, List.set_cons_zero, List.set_cons_succ, eq_self, or_true, true_or, reduceIte, xt_ne, xt_eq, Nat.reduceEqDiff, Nat.one_ne_zero, if_false, h0, m0, m4, v1, xt_sub, xa_iff cE1, mx_108]
      refine ⟨r1, g 4, by rw [xb_ui]; exact hn1, er1, ?_⟩
      rw [xq_c3_n (fun a p2 e b d => by have := q1 a p2 e; unfold xq_aS; exact if_neg (by omega))]
      rfl
theorem pd_readMan {M : xa_M} {c len p : Nat} {txt : Nat → Nat} {r : Nat → Int32} {g : Nat → Nat → Int32} {T : xt_T} (hB : xb_M M c r g) (iX : xi_X len txt) (h8 : r 8 = nI len) (h9 : r 9 = nI p) (hp : p ≤ len) (ht : ∀ j, j < len → g 3 j = nI (txt j)) (hR : xv_R (g 4) T) (iT : xi_T T) (h5 : xnM T ≤ 5) : ∃ z, xa_E 111 0 (xa_ent [.ref c]) [] M z ∧ ∃ r2 h, xn c M r2 (xb_u g 4 h) z.2 ∧ (∀ j, j ≠ 9 → j ≠ 12 → r2 j = r j) ∧ xq_ok r2 h (xq_c3 len txt p (xq_aM T)) z := by
  obtain ⟨⟨b1, b2, b3, b4, b5, b6, b7, b8⟩, bs, bm, bw⟩ := id iT
  have ix := iX.1
  obtain ⟨⟨v0, v1, v2, v3, v4, v5⟩, vs, vm, vw⟩ := id hR
  obtain ⟨m0, m1, m2, m3, m4, -⟩ := id hB
  unfold xb_c at m0
  refine xa_ge1 (fun lv h0 => ?_)
  simp (disch := omega) only [↓ra_111_0, ↓ra_111_2, ↓ra_111_3, ↓ra_111_4, ↓ra_111_7, ↓ra_111_8, ↓ra_111_9, ↓ra_111_10, ↓ra_111_11, xa_kli, xa_klr, xa_kll, xa_ki, xa_kl, xa_kr, xa_kii, xa_kk, xa_kir, xa_krr, xa_kiir, xa_krir, xa_kdup, xa_kdup2, xa_kcp, xa_gf, xa_pf, xa_ga, xa_pa, xa_gq, xa_pq, xa_gl, xa_args, xa_ri, xa_rz, xa_rv, xa_s1, xa_s2, xa_c1, eq_self, List.getElem?_cons_succ, List.getElem?_cons_zero, true_and, and_true, nI_add, pk_mul, xt_in, xt_cl, xt_i0, xt_i1, xa_kc, xa_w8, xa_fit, lg_sl, List.flatMap_cons, List.flatMap_nil, List.map_cons, List.map_nil, List.sum_cons, List.sum_nil, Value.category, List.length_cons, List.length_nil, List.length_append, xa_rc, xa_rf, exists_eq_left, exists_eq', Option.some.injEq, Sum.inr.injEq, Prod.mk.injEq, Option.toList_some, Option.toList_none, List.cons_append, List.nil_append, Nat.reduceAdd, Nat.reduceLeDiff, Nat.reduceLT, List.set_cons_zero, List.set_cons_succ, eq_self, or_true, true_or, reduceIte, xt_ne, h0, m0, m4, v4, xt_eq]
  simp (disch := omega) only [↓ra_111_12, ↓ra_111_13, ↓ra_111_16, ↓ra_111_17, ↓ra_111_18, ↓ra_111_19, xa_kli, xa_klr, xa_kll, xa_ki, xa_kl, xa_kr, xa_kii, xa_kk, xa_kir, xa_krr, xa_kiir, xa_krir, xa_kdup, xa_kdup2, xa_kcp, xa_gf, xa_pf, xa_ga, xa_pa, xa_gq, xa_pq, xa_gl, xa_args, xa_ri, xa_rz, xa_rv, xa_s1, xa_s2, xa_c1, eq_self, List.getElem?_cons_succ, List.getElem?_cons_zero, true_and, and_true, nI_add, pk_mul, xt_in, xt_cl, xt_i0, xt_i1, xa_kc, xa_w8, xa_fit, lg_sl, List.flatMap_cons, List.flatMap_nil, List.map_cons, List.map_nil, List.sum_cons, List.sum_nil, Value.category, List.length_cons, List.length_nil, List.length_append, xa_rc, xa_rf, exists_eq_left, exists_eq', Option.some.injEq, Sum.inr.injEq, Prod.mk.injEq, Option.toList_some, Option.toList_none, List.cons_append, List.nil_append, Nat.reduceAdd, Nat.reduceLeDiff, Nat.reduceLT, List.set_cons_zero, List.set_cons_succ, eq_self, or_true, true_or, reduceIte, xt_ne, h0, m0, m4, v4, xt_eq]
  by_cases c6 : xnM T = 5
  · simp only [if_pos c6]
    simp (disch := omega) only [↓ra_111_33, ↓ra_111_34, xa_kli, xa_klr, xa_kll, xa_ki, xa_kl, xa_kr, xa_kii, xa_kk, xa_kir, xa_krr, xa_kiir, xa_krir, xa_kdup, xa_kdup2, xa_kcp, xa_gf, xa_pf, xa_ga, xa_pa, xa_gq, xa_pq, xa_gl, xa_args, xa_ri, xa_rz, xa_rv, xa_s1, xa_s2, xa_c1, eq_self, List.getElem?_cons_succ, List.getElem?_cons_zero, true_and, and_true, nI_add, pk_mul, xt_in, xt_cl, xt_i0, xt_i1, xa_kc, xa_w8, xa_fit, lg_sl, List.flatMap_cons, List.flatMap_nil, List.map_cons, List.map_nil, List.sum_cons, List.sum_nil, Value.category, List.length_cons, List.length_nil, List.length_append, xa_rc, xa_rf, exists_eq_left, exists_eq', Option.some.injEq, Sum.inr.injEq, Prod.mk.injEq, Option.toList_some, Option.toList_none, List.cons_append, List.nil_append, Nat.reduceAdd, Nat.reduceLeDiff, Nat.reduceLT, List.set_cons_zero, List.set_cons_succ, eq_self, or_true, true_or, reduceIte, xt_ne]
    refine ⟨r, g 4, by rw [xb_ui]; exact xn_r hB, fun _ _ _ => rfl, ?_⟩
    rw [xq_c3_n (fun a p2 _ b d => by unfold xq_aM; exact if_neg (by omega))]
    rfl
  · simp only [if_neg c6]
    obtain ⟨⟨z1, M1⟩, cE1, r1, hn1, er1, hc1⟩ := pd_number hB iX h8 h9 (by omega) ht 0 (2) 44 (by omega) (by omega) (by omega)
    dsimp only at hn1 hc1
    rcases hc1 with ⟨a, p2, q1, q2, q3, q4, q5, q6⟩ | ⟨q1, q2⟩
    · subst q4
      have l1 := xq_k1_le q1
      obtain ⟨n0, n1, n2, n3, n4, -⟩ := id hn1.2
      unfold xb_c at n0
      have hn2 := xn_s4 (h2 := upd (g 4) (24 + 3 * xnM T) (nI a)) hn1
      have e8 : r1 8 = nI len := (er1 8 (by omega) (by omega)).trans h8
      obtain ⟨⟨z3, M3⟩, cE3, r3, hn3, er3, hc3⟩ := pd_number hn2.2 iX e8 q5 (by omega) ht 0 (xC T - 1) 44 (by omega) (by omega) (by omega)
      dsimp only at hn3 hc3
      have ec3 : xq_c3 len txt p (xq_aM T) = xq_c2 len txt p2 (xq_aM T a) := by unfold xq_c3; rw [q1]
      rw [ec3]
      have cv : upd (g 4) (24 + 3 * xnM T) (nI a) 1 = nI (xC T) := by rw [xt_us, if_neg (by omega)]; exact v1
      simp (disch := omega) only [↓ra_111_22, ↓ra_111_23, ↓ra_111_24, ↓ra_111_25, ↓ra_111_27, ↓ra_111_30, xa_kli, xa_klr, xa_kll, xa_ki, xa_kl, xa_kr, xa_kii, xa_kk, xa_kir, xa_krr, xa_kiir, xa_krir, xa_kdup, xa_kdup2, xa_kcp, xa_gf, xa_pf, xa_ga, xa_pa, xa_gq, xa_pq, xa_gl, xa_args, xa_ri, xa_rz, xa_rv, xa_s1, xa_s2, xa_c1, eq_self, List.getElem?_cons_succ, List.getElem?_cons_zero, true_and, and_true, nI_add, pk_mul, xt_in, xt_cl, xt_i0, xt_i1, xa_kc, xa_w8, xa_fit, lg_sl, List.flatMap_cons, List.flatMap_nil, List.map_cons, List.map_nil, List.sum_cons, List.sum_nil, Value.category, List.length_cons, List.length_nil, List.length_append, xa_rc, xa_rf, exists_eq_left, exists_eq', Option.some.injEq, Sum.inr.injEq, Prod.mk.injEq, Option.toList_some, Option.toList_none, List.cons_append, List.nil_append, Nat.reduceAdd, Nat.reduceLeDiff, Nat.reduceLT, List.set_cons_zero, List.set_cons_succ, eq_self, or_true, true_or, reduceIte, xt_ne, xt_eq, Nat.reduceEqDiff, Nat.one_ne_zero, if_false, h0, m0, m4, v1, xt_sub, xa_iff cE1, mx_108]
      simp (disch := omega) only [↓ra_111_35, ↓ra_111_36, ↓ra_111_39, ↓ra_111_40, ↓ra_111_41, ↓ra_111_44, xa_kli, xa_klr, xa_kll, xa_ki, xa_kl, xa_kr, xa_kii, xa_kk, xa_kir, xa_krr, xa_kiir, xa_krir, xa_kdup, xa_kdup2, xa_kcp, xa_gf, xa_pf, xa_ga, xa_pa, xa_gq, xa_pq, xa_gl, xa_args, xa_ri, xa_rz, xa_rv, xa_s1, xa_s2, xa_c1, eq_self, List.getElem?_cons_succ, List.getElem?_cons_zero, true_and, and_true, nI_add, pk_mul, xt_in, xt_cl, xt_i0, xt_i1, xa_kc, xa_w8, xa_fit, lg_sl, List.flatMap_cons, List.flatMap_nil, List.map_cons, List.map_nil, List.sum_cons, List.sum_nil, Value.category, List.length_cons, List.length_nil, List.length_append, xa_rc, xa_rf, exists_eq_left, exists_eq', Option.some.injEq, Sum.inr.injEq, Prod.mk.injEq, Option.toList_some, Option.toList_none, List.cons_append, List.nil_append, Nat.reduceAdd, Nat.reduceLeDiff, Nat.reduceLT, List.set_cons_zero, List.set_cons_succ, eq_self, or_true, true_or, reduceIte, xt_ne, h0, n0, n4, q6]
      rcases hc3 with ⟨b, p3, w1, w2, w3, w4, w5, w6⟩ | ⟨w1, w2⟩
      · subst w4
        have l3 := xq_k1_le w1
        obtain ⟨k0, k1, k2, k3, k4, -⟩ := id hn3.2
        unfold xb_c at k0
        rw [xb_ue] at k4
        have ec2 : xq_c2 len txt p2 (xq_aM T a) = xq_c1 len txt p3 (xq_aM T a b) := by unfold xq_c2; rw [w1]
        rw [ec2]
        have cv3 : upd (upd (g 4) (24 + 3 * xnM T) (nI a)) ((24 + 3 * xnM T) + 1) (nI b) 4 = nI (xnM T) := by rw [xt_us, if_neg (by omega), xt_us, if_neg (by omega)]; exact v4
        have cv1 : upd (upd (upd (g 4) (24 + 3 * xnM T) (nI a)) ((24 + 3 * xnM T) + 1) (nI b)) 4 (nI (xnM T + 1)) 1 = nI (xC T) := by rw [xt_us, if_neg (by omega), xt_us, if_neg (by omega)]; exact cv
        have hn4 := xn_s4' (upd (upd (upd (g 4) (24 + 3 * xnM T) (nI a)) ((24 + 3 * xnM T) + 1) (nI b)) 4 (nI (xnM T + 1))) (xn_s4' (upd (upd (g 4) (24 + 3 * xnM T) (nI a)) ((24 + 3 * xnM T) + 1) (nI b)) hn3)
        have f8 : r3 8 = nI len := (er3 8 (by omega) (by omega)).trans e8
        obtain ⟨⟨z5, M5⟩, cE5, r5, h5', hn5, er5, eh5, hc5⟩ := pd_readOne hn4.2 iX f8 w5 (by omega) ht ((24 + 3 * xnM T) + 2) 0 (5) (by omega) (by omega) (by omega)
        dsimp only at hn5 hc5
        rw [xb_ue] at eh5
        rw [xb_u2] at hn5
        have er : ∀ j, j ≠ 9 → j ≠ 12 → r5 j = r j := fun j x y => (er5 j x y).trans ((er3 j x y).trans (er1 j x y))
        simp (disch := omega) only [↓ra_111_45, ↓ra_111_46, ↓ra_111_47, ↓ra_111_48, ↓ra_111_51, ↓ra_111_52, ↓ra_111_53, ↓ra_111_54, ↓ra_111_55, ↓ra_111_57, ↓ra_111_60, xa_kli, xa_klr, xa_kll, xa_ki, xa_kl, xa_kr, xa_kii, xa_kk, xa_kir, xa_krr, xa_kiir, xa_krir, xa_kdup, xa_kdup2, xa_kcp, xa_gf, xa_pf, xa_ga, xa_pa, xa_gq, xa_pq, xa_gl, xa_args, xa_ri, xa_rz, xa_rv, xa_s1, xa_s2, xa_c1, eq_self, List.getElem?_cons_succ, List.getElem?_cons_zero, true_and, and_true, nI_add, pk_mul, xt_in, xt_cl, xt_i0, xt_i1, xa_kc, xa_w8, xa_fit, lg_sl, List.flatMap_cons, List.flatMap_nil, List.map_cons, List.map_nil, List.sum_cons, List.sum_nil, Value.category, List.length_cons, List.length_nil, List.length_append, xa_rc, xa_rf, exists_eq_left, exists_eq', Option.some.injEq, Sum.inr.injEq, Prod.mk.injEq, Option.toList_some, Option.toList_none, List.cons_append, List.nil_append, Nat.reduceAdd, Nat.reduceLeDiff, Nat.reduceLT, List.set_cons_zero, List.set_cons_succ, eq_self, or_true, true_or, reduceIte, xt_ne, xt_eq, Nat.reduceEqDiff, Nat.one_ne_zero, if_false, h0, n0, xt_st, cv, xt_sub, xa_iff cE3, mx_108]
        simp (disch := omega) only [↓ra_111_65, ↓ra_111_66, ↓ra_111_69, ↓ra_111_70, ↓ra_111_71, ↓ra_111_72, ↓ra_111_73, ↓ra_111_76, ↓ra_111_77, ↓ra_111_78, ↓ra_111_81, ↓ra_111_82, ↓ra_111_83, ↓ra_111_84, ↓ra_111_85, ↓ra_111_86, xa_kli, xa_klr, xa_kll, xa_ki, xa_kl, xa_kr, xa_kii, xa_kk, xa_kir, xa_krr, xa_kiir, xa_krir, xa_kdup, xa_kdup2, xa_kcp, xa_gf, xa_pf, xa_ga, xa_pa, xa_gq, xa_pq, xa_gl, xa_args, xa_ri, xa_rz, xa_rv, xa_s1, xa_s2, xa_c1, eq_self, List.getElem?_cons_succ, List.getElem?_cons_zero, true_and, and_true, nI_add, pk_mul, xt_in, xt_cl, xt_i0, xt_i1, xa_kc, xa_w8, xa_fit, lg_sl, List.flatMap_cons, List.flatMap_nil, List.map_cons, List.map_nil, List.sum_cons, List.sum_nil, Value.category, List.length_cons, List.length_nil, List.length_append, xa_rc, xa_rf, exists_eq_left, exists_eq', Option.some.injEq, Sum.inr.injEq, Prod.mk.injEq, Option.toList_some, Option.toList_none, List.cons_append, List.nil_append, Nat.reduceAdd, Nat.reduceLeDiff, Nat.reduceLT, List.set_cons_zero, List.set_cons_succ, eq_self, or_true, true_or, reduceIte, xt_ne, h0, k0, k4, w6, xt_st, cv3]
        rcases hc5 with ⟨d, p4, y1, y2, y3, y4, y5, y6⟩ | ⟨y1, y2⟩
        · subst y4
          simp (disch := omega) only [↓ra_111_87, ↓ra_111_88, ↓ra_111_89, ↓ra_111_90, ↓ra_111_91, ↓ra_111_92, ↓ra_111_93, ↓ra_111_96, xa_kli, xa_klr, xa_kll, xa_ki, xa_kl, xa_kr, xa_kii, xa_kk, xa_kir, xa_krr, xa_kiir, xa_krir, xa_kdup, xa_kdup2, xa_kcp, xa_gf, xa_pf, xa_ga, xa_pa, xa_gq, xa_pq, xa_gl, xa_args, xa_ri, xa_rz, xa_rv, xa_s1, xa_s2, xa_c1, eq_self, List.getElem?_cons_succ, List.getElem?_cons_zero, true_and, and_true, nI_add, pk_mul, xt_in, xt_cl, xt_i0, xt_i1, xa_kc, xa_w8, xa_fit, lg_sl, List.flatMap_cons, List.flatMap_nil, List.map_cons, List.map_nil, List.sum_cons, List.sum_nil, Value.category, List.length_cons, List.length_nil, List.length_append, xa_rc, xa_rf, exists_eq_left, exists_eq', Option.some.injEq, Sum.inr.injEq, Prod.mk.injEq, Option.toList_some, Option.toList_none, List.cons_append, List.nil_append, Nat.reduceAdd, Nat.reduceLeDiff, Nat.reduceLT, List.set_cons_zero, List.set_cons_succ, eq_self, or_true, true_or, reduceIte, xt_ne, h0, k0, k4, xt_st, cv1, xt_sub, xa_iff cE5, mx_109]
          have ef : xq_c1 len txt p3 (xq_aM T a b) = some (p4, xq_am T a b d) := by unfold xq_c1; rw [y1]; dsimp only; unfold xq_aM; rw [if_pos (by omega)]; rfl
          rw [ef]
          have oj : ∀ j, j ≠ (24 + 3 * xnM T) → j ≠ (24 + 3 * xnM T) + 1 → j ≠ (24 + 3 * xnM T) + 2 → j ≠ 4 → h5' j = g 4 j := fun j x1 x2 x3 x4 => by rw [eh5 j x3, xt_us, if_neg x4, xt_us, if_neg x2, xt_us, if_neg x1]
          have ok : h5' (24 + 3 * xnM T) = nI a := by rw [eh5 _ (by omega), xt_us, if_neg (by omega), xt_us, if_neg (by omega), xt_us, if_pos rfl]
          have ok1 : h5' ((24 + 3 * xnM T) + 1) = nI b := by rw [eh5 _ (by omega), xt_us, if_neg (by omega), xt_us, if_pos rfl]
          have oc : h5' 4 = nI (xnM T + 1) := by rw [eh5 _ (by omega), xt_us, if_pos rfl]
          refine ⟨r5, h5', xn_t hn2 (xn_t hn4 hn5), er, rfl, y5, ?_⟩
          refine ⟨⟨(oj 0 (by omega) (by omega) (by omega) (by omega)).trans v0, (oj 1 (by omega) (by omega) (by omega) (by omega)).trans v1, (oj 2 (by omega) (by omega) (by omega) (by omega)).trans v2, (oj 3 (by omega) (by omega) (by omega) (by omega)).trans v3, oc, (oj 5 (by omega) (by omega) (by omega) (by omega)).trans v5⟩, fun s hs => ?_, fun m hm => ?_, fun w hw => ?_⟩
          · have hs : s < xnS T := hs
            rw [oj _ (by omega) (by omega) (by omega) (by omega), oj _ (by omega) (by omega) (by omega) (by omega), oj _ (by omega) (by omega) (by omega) (by omega)]; exact vs s hs
          · have hm : m < xnM T + 1 := hm
            show _ = nI (if m = xnM T then a else xtm T m) ∧ _ = nI (if m = xnM T then b else xtp T m) ∧ _ = nI (if m = xnM T then d else xts T m)
            by_cases e : m = xnM T
            · rw [if_pos e, if_pos e, if_pos e, e]; exact ⟨ok, ok1, y6⟩
            · rw [if_neg e, if_neg e, if_neg e, oj _ (by omega) (by omega) (by omega) (by omega), oj _ (by omega) (by omega) (by omega) (by omega), oj _ (by omega) (by omega) (by omega) (by omega)]; exact vm m (by omega)
          · rw [oj _ (by omega) (by omega) (by omega) (by omega), oj _ (by omega) (by omega) (by omega) (by omega)]; exact vw w hw
        · subst y2
          simp (disch := omega) only [↓ra_111_87, ↓ra_111_88, ↓ra_111_89, ↓ra_111_90, ↓ra_111_91, ↓ra_111_92, ↓ra_111_93, ↓ra_111_96, xa_kli, xa_klr, xa_kll, xa_ki, xa_kl, xa_kr, xa_kii, xa_kk, xa_kir, xa_krr, xa_kiir, xa_krir, xa_kdup, xa_kdup2, xa_kcp, xa_gf, xa_pf, xa_ga, xa_pa, xa_gq, xa_pq, xa_gl, xa_args, xa_ri, xa_rz, xa_rv, xa_s1, xa_s2, xa_c1, eq_self, List.getElem?_cons_succ, List.getElem?_cons_zero, true_and, and_true, nI_add, pk_mul, xt_in, xt_cl, xt_i0, xt_i1, xa_kc, xa_w8, xa_fit, lg_sl, List.flatMap_cons, List.flatMap_nil, List.map_cons, List.map_nil, List.sum_cons, List.sum_nil, Value.category, List.length_cons, List.length_nil, List.length_append, xa_rc, xa_rf, exists_eq_left, exists_eq', Option.some.injEq, Sum.inr.injEq, Prod.mk.injEq, Option.toList_some, Option.toList_none, List.cons_append, List.nil_append, Nat.reduceAdd, Nat.reduceLeDiff, Nat.reduceLT, List.set_cons_zero, List.set_cons_succ, eq_self, or_true, true_or, reduceIte, xt_ne, h0, k0, k4, xt_st, cv1, xt_sub, xa_iff cE5, mx_109]
          refine ⟨r5, h5', xn_t hn2 (xn_t hn4 hn5), er, ?_⟩
          rw [xq_c1_n (fun d p4 e => by have := y1 d p4 e; unfold xq_aM; exact if_neg (by omega))]
          rfl
      · subst w2
        simp (disch := omega) only [↓ra_111_45, ↓ra_111_46, ↓ra_111_47, ↓ra_111_48, ↓ra_111_51, ↓ra_111_52, ↓ra_111_53, ↓ra_111_54, ↓ra_111_55, ↓ra_111_57, ↓ra_111_60, ↓ra_111_63, ↓ra_111_64, xa_kli, xa_klr, xa_kll, xa_ki, xa_kl, xa_kr, xa_kii, xa_kk, xa_kir, xa_krr, xa_kiir, xa_krir, xa_kdup, xa_kdup2, xa_kcp, xa_gf, xa_pf, xa_ga, xa_pa, xa_gq, xa_pq, xa_gl, xa_args, xa_ri, xa_rz, xa_rv, xa_s1, xa_s2, xa_c1, eq_self, List.getElem?_cons_succ, List.getElem?_cons_zero, true_and, and_true, nI_add, pk_mul, xt_in, xt_cl, xt_i0, xt_i1, xa_kc, xa_w8, xa_fit, lg_sl, List.flatMap_cons, List.flatMap_nil, List.map_cons, List.map_nil, List.sum_cons, List.sum_nil, Value.category, List.length_cons, List.length_nil, List.length_append, xa_rc, xa_rf, exists_eq_left, exists_eq', Option.some.injEq, Sum.inr.injEq, Prod.mk.injEq, Option.toList_some, Option.toList_none, List.cons_append, List.nil_append, Nat.reduceAdd, Nat.reduceLeDiff, Nat.reduceLT, List.set_cons_zero, List.set_cons_succ, eq_self, or_true, true_or, reduceIte, xt_ne, xt_eq, Nat.reduceEqDiff, Nat.one_ne_zero, if_false, h0, n0, xt_st, cv, xt_sub, xa_iff cE3, mx_108]
        refine ⟨r3, _, xn_t hn2 hn3, fun j x y => (er3 j x y).trans (er1 j x y), ?_⟩
        rw [xq_c2_n (fun b p3 e d => by have := w1 b p3 e; unfold xq_aM; exact if_neg (by omega))]
        rfl
    · subst q2
      simp (disch := omega) only [↓ra_111_22, ↓ra_111_23, ↓ra_111_24, ↓ra_111_25, ↓ra_111_27, ↓ra_111_30, ↓ra_111_33, ↓ra_111_34, xa_kli, xa_klr, xa_kll, xa_ki, xa_kl, xa_kr, xa_kii, xa_kk, xa_kir, xa_krr, xa_kiir, xa_krir, xa_kdup, xa_kdup2, xa_kcp, xa_gf, xa_pf, xa_ga, xa_pa, xa_gq, xa_pq, xa_gl, xa_args, xa_ri, xa_rz, xa_rv, xa_s1, xa_s2, xa_c1, eq_self, List.getElem?_cons_succ, List.getElem?_cons_zero, true_and, and_true, nI_add, pk_mul, xt_in, xt_cl, xt_i0, xt_i1, xa_kc, xa_w8, xa_fit, lg_sl, List.flatMap_cons, List.flatMap_nil, List.map_cons, List.map_nil, List.sum_cons, List.sum_nil, Value.category, List.length_cons, List.length_nil, List.length_append, xa_rc, xa_rf, exists_eq_left, exists_eq', Option.some.injEq, Sum.inr.injEq, Prod.mk.injEq, Option.toList_some, Option.toList_none, List.cons_append, List.nil_append, Nat.reduceAdd, Nat.reduceLeDiff, Nat.reduceLT, List.set_cons_zero, List.set_cons_succ, eq_self, or_true, true_or, reduceIte, xt_ne, xt_eq, Nat.reduceEqDiff, Nat.one_ne_zero, if_false, h0, m0, m4, v1, xt_sub, xa_iff cE1, mx_108]
      refine ⟨r1, g 4, by rw [xb_ui]; exact hn1, er1, ?_⟩
      rw [xq_c3_n (fun a p2 e b d => by have := q1 a p2 e; unfold xq_aM; exact if_neg (by omega))]
      rfl
