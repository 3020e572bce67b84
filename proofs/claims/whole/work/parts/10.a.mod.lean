-- the model: its registers r (by the number of the field), its rows g (1 told, 2 now, 3 text, 4 read, 5 undone, 6 aside, 7 can, 8 seen, 9 kept)
def xb_c (c : Nat) (r : Nat → Int32) : List Value := [.ref (c + 1), .ref (c + 2), .int (r 2), .int (r 3), .int (r 4), .int (r 5), .int (r 6), .ref (c + 3), .int (r 8), .int (r 9), .ref (c + 4), .int (r 11), .int (r 12), .ref (c + 5), .int (r 14), .ref (c + 6), .ref (c + 7), .ref (c + 8), .int (r 18), .ref (c + 9), .int (r 20)]
def xb_M (M : xa_M) (c : Nat) (r : Nat → Int32) (g : Nat → Nat → Int32) : Prop := M.1 c = some (.inr (7, xb_c c r)) ∧ M.1 (c + 1) = some (.inl (0, 51, .inl (g 1))) ∧ M.1 (c + 2) = some (.inl (0, 31, .inl (g 2))) ∧ M.1 (c + 3) = some (.inl (0, 200, .inl (g 3))) ∧ M.1 (c + 4) = some (.inl (0, 51, .inl (g 4))) ∧ M.1 (c + 5) = some (.inl (0, 248, .inl (g 5))) ∧ M.1 (c + 6) = some (.inl (0, 31, .inl (g 6))) ∧ M.1 (c + 7) = some (.inl (2, 1098, .inl (g 7))) ∧ M.1 (c + 8) = some (.inl (0, 24, .inl (g 8))) ∧ M.1 (c + 9) = some (.inl (0, 62, .inl (g 9)))
/-- another row -/
def xb_u (g : Nat → Nat → Int32) (k : Nat) (h : Nat → Int32) : Nat → Nat → Int32 := fun j => if j = k then h else g j
theorem xb_sm {M M1 : xa_M} {c : Nat} {r : Nat → Int32} {g : Nat → Nat → Int32} (h : xb_M M c r g) (e : xa_sm c (c + 10) M M1) : xb_M M1 c r g := by
  obtain ⟨m0, m1, m2, m3, m4, m5, m6, m7, m8, m9⟩ := h
  exact ⟨(e _ (by omega) (by omega)).trans m0, (e _ (by omega) (by omega)).trans m1, (e _ (by omega) (by omega)).trans m2, (e _ (by omega) (by omega)).trans m3, (e _ (by omega) (by omega)).trans m4, (e _ (by omega) (by omega)).trans m5, (e _ (by omega) (by omega)).trans m6, (e _ (by omega) (by omega)).trans m7, (e _ (by omega) (by omega)).trans m8, (e _ (by omega) (by omega)).trans m9⟩
/-- a store into a field -/
theorem xb_f {M : xa_M} {c : Nat} {r r2 : Nat → Int32} {g : Nat → Nat → Int32} (h : xb_M M c r g) : xb_M (xa_st M c (.inr (7, xb_c c r2))) c r2 g := by
  obtain ⟨m0, m1, m2, m3, m4, m5, m6, m7, m8, m9⟩ := h
  exact ⟨xa_st_eq, (xa_st_ne (by omega)).trans m1, (xa_st_ne (by omega)).trans m2, (xa_st_ne (by omega)).trans m3, (xa_st_ne (by omega)).trans m4, (xa_st_ne (by omega)).trans m5, (xa_st_ne (by omega)).trans m6, (xa_st_ne (by omega)).trans m7, (xa_st_ne (by omega)).trans m8, (xa_st_ne (by omega)).trans m9⟩
theorem xb_s2 {M : xa_M} {c : Nat} {r : Nat → Int32} {g : Nat → Nat → Int32} {h2 : Nat → Int32} (h : xb_M M c r g) : xb_M (xa_st M (c + 2) (.inl (0, 31, .inl h2))) c r (xb_u g 2 h2) := by
  obtain ⟨m0, m1, m2, m3, m4, m5, m6, m7, m8, m9⟩ := h
  exact ⟨(xa_st_ne (by omega)).trans m0, (xa_st_ne (by omega)).trans m1, xa_st_eq, (xa_st_ne (by omega)).trans m3, (xa_st_ne (by omega)).trans m4, (xa_st_ne (by omega)).trans m5, (xa_st_ne (by omega)).trans m6, (xa_st_ne (by omega)).trans m7, (xa_st_ne (by omega)).trans m8, (xa_st_ne (by omega)).trans m9⟩
theorem xb_u2 (g : Nat → Nat → Int32) (k : Nat) (h h2 : Nat → Int32) : xb_u (xb_u g k h) k h2 = xb_u g k h2 := by
  funext j
  unfold xb_u
  by_cases e : j = k
  · rw [if_pos e, if_pos e]
  · rw [if_neg e, if_neg e, if_neg e]
theorem xb_ue (g : Nat → Nat → Int32) (k : Nat) (h : Nat → Int32) : xb_u g k h k = h := if_pos rfl
theorem xb_un (g : Nat → Nat → Int32) (k j : Nat) (h : Nat → Int32) (e : j ≠ k) : xb_u g k h j = g j := if_neg e
theorem xb_ui (g : Nat → Nat → Int32) (k : Nat) : xb_u g k (g k) = g := by
  funext j
  unfold xb_u
  by_cases e : j = k
  · rw [if_pos e, e]
  · rw [if_neg e]
/-- what a call of the model leaves -/
def xn (c : Nat) (M : xa_M) (r : Nat → Int32) (g : Nat → Nat → Int32) (M1 : xa_M) : Prop := xa_fr c (c + 10) M M1 ∧ xb_M M1 c r g
theorem xn_r {c : Nat} {M : xa_M} {r : Nat → Int32} {g : Nat → Nat → Int32} (h : xb_M M c r g) : xn c M r g M := ⟨xa_fr_rf, h⟩
theorem xn_t {c : Nat} {M M1 M2 : xa_M} {r r2 : Nat → Int32} {g g2 : Nat → Nat → Int32} (h : xn c M r g M1) (h2 : xn c M1 r2 g2 M2) : xn c M r2 g2 M2 := ⟨xa_fr_tr h.1 h2.1, h2.2⟩
theorem xn_s2 {c : Nat} {M M1 : xa_M} {r : Nat → Int32} {g : Nat → Nat → Int32} {h2 : Nat → Int32} (h : xn c M r g M1) : xn c M r (xb_u g 2 h2) (xa_st M1 (c + 2) (.inl (0, 31, .inl h2))) := ⟨xa_fr_tr h.1 (xa_fr_st (by omega) (by omega)), xb_s2 h.2⟩
theorem xn_f {c : Nat} {M M1 : xa_M} {r r2 : Nat → Int32} {g : Nat → Nat → Int32} (h : xn c M r g M1) : xn c M r2 g (xa_st M1 c (.inr (7, xb_c c r2))) := ⟨xa_fr_tr h.1 (xa_fr_st (by omega) (by omega)), xb_f h.2⟩
/-- what is told, as the model sees it under what it supposes (N and more, another lord, one man more) -/
def xv_T (r t : Nat → Int32) (T : xt_T) (n : Nat) : Prop :=
  (t 0 + r 2 = nI (xN T) ∧ t 1 = nI (xC T) ∧ t 2 = nI (xG T) ∧ t 3 = nI (xnS T) ∧ t 4 = nI n ∧ t 5 = nI (xnW T)) ∧
  (∀ s, s < xnS T → t (6 + 3 * s) = nI (xtk T s) ∧ (if nI s = r 3 then r 4 else t (6 + 3 * s + 1)) = nI (xtl T s) ∧ t (6 + 3 * s + 2) = nI (xth T s)) ∧
  (∀ m, m < n → t (24 + 3 * m) = nI (xtm T m) ∧ t (24 + 3 * m + 1) = nI (xtp T m) ∧ t (24 + 3 * m + 2) = nI (xts T m)) ∧
  (n ≤ 5 ∧ ((xnM T = n ∧ r 5 = Int32.ofInt (-4)) ∨ (xnM T = n + 1 ∧ r 5 = nI (xtm T n) ∧ r 6 = nI (xts T n)))) ∧
  ∀ w, w < xnW T → t (39 + 2 * w) = nI (xtf T w) ∧ t (39 + 2 * w + 1) = nI (xtt T w)
/-- how things stand, in a row of 31 -/
def xv_S (h : Nat → Int32) (nS n : Nat) (S : xt_S) : Prop :=
  h 0 = nI (xsd S) ∧ (∀ s, s < nS → h (1 + 4 * s) = nI (xsh S s) ∧ h (1 + 4 * s + 1) = nI (xsq S s) ∧ h (1 + 4 * s + 2) = nI (xss S s) ∧ h (1 + 4 * s + 3) = nI (xsm S s)) ∧ ∀ m, m < n → h (25 + m) = nI (xsp S m)
def xv_A (M : xa_M) (c : Nat) (r : Nat → Int32) (g : Nat → Nat → Int32) (T : xt_T) (n : Nat) (S : xt_S) : Prop :=
  xb_M M c r g ∧ xv_T r (g 1) T n ∧ xv_S (g 2) (xnS T) n S ∧ (xnM T = n + 1 → g 2 30 = nI (xsp S n))
-- longs
theorem xt_cmp0 (x y : Int64) : (lg_cmp x y < nI 0) = (x < y) := by
  unfold lg_cmp
  simp only [gt_iff_lt, Int64.lt_iff_toInt_lt, ← Int64.toInt_inj]
  repeat' split
  all_goals (apply propext; constructor <;> intro hh <;> first | omega | decide | exact absurd hh (by decide))
theorem xt_cmp1 (x y : Int64) : (nI 0 < lg_cmp x y) = (y < x) := by
  unfold lg_cmp
  simp only [gt_iff_lt, Int64.lt_iff_toInt_lt, ← Int64.toInt_inj]
  repeat' split
  all_goals (apply propext; constructor <;> intro hh <;> first | omega | decide | exact absurd hh (by decide))
theorem pd_in {M : xa_M} (x y z : Int64) : xa_E 92 0 (xa_ent [.long x, .long y, .long z]) [] M (some (.int (nI (if y ≤ x ∧ x ≤ z then 1 else 0))), M) := by
  refine xa_goL x y z (fun lv h0 h1 h2 => ?_)
  simp (disch := omega) only [↓ra_92_0, ↓ra_92_1, ↓ra_92_2, ↓ra_92_3, ↓ra_92_6, ↓ra_92_7, ↓ra_92_9, ↓ra_92_10, ↓ra_92_13, ↓ra_92_14, ↓ra_92_17, ↓ra_92_18, xa_kli, xa_klr, xa_kll, xa_ki, xa_kl, xa_kr, xa_kii, xa_kk, xa_kir, xa_krr, xa_kiir, xa_krir, xa_kdup, xa_kdup2, xa_kcp, xa_gf, xa_pf, xa_ga, xa_pa, xa_gq, xa_pq, xa_gl, xa_args, xa_ri, xa_rz, xa_rv, xa_s1, xa_s2, xa_c1, eq_self, List.getElem?_cons_succ, List.getElem?_cons_zero, true_and, and_true, nI_add, pk_mul, xt_in, xt_cl, xt_i0, xt_i1, xa_kc, xa_w8, xa_fit, lg_sl, List.flatMap_cons, List.flatMap_nil, List.map_cons, List.map_nil, List.sum_cons, List.sum_nil, Value.category, List.length_cons, List.length_nil, List.length_append, xa_rc, xa_rf, exists_eq_left, exists_eq', Option.some.injEq, Sum.inr.injEq, Prod.mk.injEq, Option.toList_some, Option.toList_none, List.cons_append, List.nil_append, Nat.reduceAdd, Nat.reduceLeDiff, Nat.reduceLT, List.set_cons_zero, List.set_cons_succ, eq_self, or_true, true_or, reduceIte, xt_ne, h0, h1, h2, xt_cmp0, xt_cmp1]
  by_cases a : x < y
  · have : ¬ (y ≤ x ∧ x ≤ z) := fun c => Int64.lt_irrefl (Int64.lt_of_lt_of_le a c.1)
    simp [a, this]
  · by_cases b : z < x
    · have : ¬ (y ≤ x ∧ x ≤ z) := fun c => Int64.lt_irrefl (Int64.lt_of_lt_of_le b c.2)
      simp [a, b, this]
    · have : y ≤ x ∧ x ≤ z := ⟨Int64.not_lt.mp a, Int64.not_lt.mp b⟩
      simp [a, b, this]
