section XaGo
variable {mid : Nat} {a b c d e : Value} {M : xa_M} {res : xa_Z}
theorem xa_go0 (h : ∀ lv : xa_L, xa_E mid 0 lv [] M res) : xa_E mid 0 (xa_ent []) [] M res := h _
theorem xa_go1 (h : ∀ lv : xa_L, lv 0 = some a → xa_E mid 0 lv [] M res) : xa_E mid 0 (xa_ent [a]) [] M res := by
  refine h _ ?_ <;> simp [xa_ent, lv_args, List.lookup]
theorem xa_go2 (h : ∀ lv : xa_L, lv 0 = some a → lv 1 = some b → xa_E mid 0 lv [] M res) (ha : a.category = 1 := by rfl) : xa_E mid 0 (xa_ent [a, b]) [] M res := by
  refine h _ ?_ ?_ <;> simp [xa_ent, lv_args, ha, List.lookup]
theorem xa_go3 (h : ∀ lv : xa_L, lv 0 = some a → lv 1 = some b → lv 2 = some c → xa_E mid 0 lv [] M res) (ha : a.category = 1 := by rfl) (hb : b.category = 1 := by rfl) : xa_E mid 0 (xa_ent [a, b, c]) [] M res := by
  refine h _ ?_ ?_ ?_ <;> simp [xa_ent, lv_args, ha, hb, List.lookup]
theorem xa_go4 (h : ∀ lv : xa_L, lv 0 = some a → lv 1 = some b → lv 2 = some c → lv 3 = some d → xa_E mid 0 lv [] M res) (ha : a.category = 1 := by rfl) (hb : b.category = 1 := by rfl) (hc : c.category = 1 := by rfl) : xa_E mid 0 (xa_ent [a, b, c, d]) [] M res := by
  refine h _ ?_ ?_ ?_ ?_ <;> simp [xa_ent, lv_args, ha, hb, hc, List.lookup]
theorem xa_go5 (h : ∀ lv : xa_L, lv 0 = some a → lv 1 = some b → lv 2 = some c → lv 3 = some d → lv 4 = some e → xa_E mid 0 lv [] M res) (ha : a.category = 1 := by rfl) (hb : b.category = 1 := by rfl) (hc : c.category = 1 := by rfl) (hd : d.category = 1 := by rfl) : xa_E mid 0 (xa_ent [a, b, c, d, e]) [] M res := by
  refine h _ ?_ ?_ ?_ ?_ ?_ <;> simp [xa_ent, lv_args, ha, hb, hc, hd, List.lookup]
theorem xa_goL (x y z : Int64) (h : ∀ lv : xa_L, lv 0 = some (.long x) → lv 2 = some (.long y) → lv 4 = some (.long z) → xa_E mid 0 lv [] M res) : xa_E mid 0 (xa_ent [.long x, .long y, .long z]) [] M res := by
  refine h _ ?_ ?_ ?_ <;> simp [xa_ent, lv_args, Value.category, List.lookup]
theorem xa_ge0 {Q : xa_Z → Prop} (h : ∀ lv : xa_L,  ∃ z, xa_E mid 0 lv [] M z ∧ Q z)  : ∃ z, xa_E mid 0 (xa_ent []) [] M z ∧ Q z := by
  exact h _
theorem xa_ge1 {Q : xa_Z → Prop} (h : ∀ lv : xa_L, lv 0 = some a → ∃ z, xa_E mid 0 lv [] M z ∧ Q z)  : ∃ z, xa_E mid 0 (xa_ent [a]) [] M z ∧ Q z := by
  refine h _ ?_ <;> simp [xa_ent, lv_args, List.lookup]
theorem xa_ge2 {Q : xa_Z → Prop} (h : ∀ lv : xa_L, lv 0 = some a → lv 1 = some b → ∃ z, xa_E mid 0 lv [] M z ∧ Q z) (ha : a.category = 1 := by rfl) : ∃ z, xa_E mid 0 (xa_ent [a, b]) [] M z ∧ Q z := by
  refine h _ ?_ ?_ <;> simp [xa_ent, lv_args, ha, List.lookup]
theorem xa_ge3 {Q : xa_Z → Prop} (h : ∀ lv : xa_L, lv 0 = some a → lv 1 = some b → lv 2 = some c → ∃ z, xa_E mid 0 lv [] M z ∧ Q z) (ha : a.category = 1 := by rfl) (hb : b.category = 1 := by rfl) : ∃ z, xa_E mid 0 (xa_ent [a, b, c]) [] M z ∧ Q z := by
  refine h _ ?_ ?_ ?_ <;> simp [xa_ent, lv_args, ha, hb, List.lookup]
theorem xa_ge4 {Q : xa_Z → Prop} (h : ∀ lv : xa_L, lv 0 = some a → lv 1 = some b → lv 2 = some c → lv 3 = some d → ∃ z, xa_E mid 0 lv [] M z ∧ Q z) (ha : a.category = 1 := by rfl) (hb : b.category = 1 := by rfl) (hc : c.category = 1 := by rfl) : ∃ z, xa_E mid 0 (xa_ent [a, b, c, d]) [] M z ∧ Q z := by
  refine h _ ?_ ?_ ?_ ?_ <;> simp [xa_ent, lv_args, ha, hb, hc, List.lookup]
theorem xa_ge5 {Q : xa_Z → Prop} (h : ∀ lv : xa_L, lv 0 = some a → lv 1 = some b → lv 2 = some c → lv 3 = some d → lv 4 = some e → ∃ z, xa_E mid 0 lv [] M z ∧ Q z) (ha : a.category = 1 := by rfl) (hb : b.category = 1 := by rfl) (hc : c.category = 1 := by rfl) (hd : d.category = 1 := by rfl) : ∃ z, xa_E mid 0 (xa_ent [a, b, c, d, e]) [] M z ∧ Q z := by
  refine h _ ?_ ?_ ?_ ?_ ?_ <;> simp [xa_ent, lv_args, ha, hb, hc, hd, List.lookup]
end XaGo
/-- a call whose end is known -/
theorem xa_call {M : xa_M} {m : Nat} {As r : List Value} {K : xa_Z → Prop} {z : xa_Z} (h : xa_E m 0 (xa_ent As) [] M z) (k : K z) (w : xa_w8 r := by exact Nat.le_of_ble_eq_true rfl) (f : xa_fit m As := by exact Nat.le_of_ble_eq_true rfl) : xa_kc xa_E M m As r K := ⟨w, f, z, h, k⟩
theorem s_l : ∀ n, n < 32 → ((nI n &&& 31).toBitVec.smod 32).toNat = n := by decide +kernel
-- numbers
theorem xt_in (j n : Nat) (h : j < n) (hn : n < 2147483648) : vp_in (nI j) n = True := eq_true (vp_in_nI h hn)
theorem xt_cl (n : Nat) (h : n < 2147483648) : (nI n).toNatClampNeg = n := nI_clamp h
theorem xt_le (a b : Nat) (ha : a < 2147483648) (hb : b < 2147483648) : (nI a ≤ nI b) = (a ≤ b) := propext (nI_leI ha hb)
theorem xt_lt (a b : Nat) (ha : a < 2147483648) (hb : b < 2147483648) : (nI a < nI b) = (a < b) := propext (nI_ltI ha hb)
theorem xt_eq (a b : Nat) (ha : a < 2147483648) (hb : b < 2147483648) : (nI a = nI b) = (a = b) := propext (nI_eq ha hb)
theorem xt_eq0 (a : Nat) (ha : a < 2147483648) : (nI a = 0) = (a = 0) := propext (nI_eq (b := 0) ha (by decide))
theorem xt_lt0 (a : Nat) (ha : a < 2147483648) : (nI a < 0) = False := eq_false (nI_pos ha)
theorem xt_0le (a : Nat) (ha : a < 2147483648) : ((0 : Int32) ≤ nI a) = True := eq_true (nI_pos' ha)
theorem xt_0lt (a : Nat) (ha : a < 2147483648) : ((0 : Int32) < nI a) = (0 < a) := propext (nI_ltI (a := 0) (by omega) ha)
theorem xt_le0 (a : Nat) (ha : a < 2147483648) : (nI a ≤ 0) = (a = 0) := propext ((nI_leI (b := 0) ha (by omega)).trans (by omega))
theorem xt_sub (a b : Nat) (h : b ≤ a) : nI a - nI b = nI (a - b) := pk_sub h
theorem xt_rem (a d : Nat) (ha : a < 2147483648) (h0 : 0 < d) (hd : d < 2147483648) : nI a - nI a / nI d * nI d = nI (a % d) := pk_rem ha h0 hd
theorem xt_div (a d : Nat) (ha : a < 2147483648) (h0 : 0 < d) (hd : d < 2147483648) : nI a / nI d = nI (a / d) := pk_div ha h0 hd
theorem xt_i0 : (0 : Int32) = nI 0 := rfl
theorem xt_i1 : (1 : Int32) = nI 1 := rfl
theorem xt_us {f : Nat → Int32} (k : Nat) (x : Int32) (j : Nat) : upd f k x j = if j = k then x else f j := rfl
-- memory
theorem xt_ne (a b : Nat) (h : a ≠ b) : (a = b) = False := eq_false h
theorem xt_st (M : xa_M) (a : Nat) (e : xa_C) (q : Nat) : (xa_st M a e).1 q = if q = a then some e else M.1 q := rfl
theorem xa_st_ne {M : xa_M} {a b : Nat} {e : xa_C} (h : a ≠ b) : (xa_st M b e).1 a = M.1 a := if_neg h
theorem xa_st_eq {M : xa_M} {a : Nat} {e : xa_C} : (xa_st M a e).1 a = some e := if_pos rfl
theorem xt_st2 (M : xa_M) (a : Nat) (e : xa_C) : (xa_st M a e).2 = M.2 := rfl
/-- outside lo .. hi nothing changed -/
def xa_fr (lo hi : Nat) (M M1 : xa_M) : Prop := (∀ a, a < lo ∨ hi ≤ a → M1.1 a = M.1 a) ∧ M1.2 = M.2
theorem xa_fr_rf {lo hi : Nat} {M : xa_M} : xa_fr lo hi M M := ⟨fun _ _ => rfl, rfl⟩
theorem xa_fr_tr {lo hi : Nat} {M M1 M2 : xa_M} (h : xa_fr lo hi M M1) (g : xa_fr lo hi M1 M2) : xa_fr lo hi M M2 := ⟨fun a ha => (g.1 a ha).trans (h.1 a ha), g.2.trans h.2⟩
theorem xa_fr_w {lo hi lo2 hi2 : Nat} {M M1 : xa_M} (h : xa_fr lo hi M M1) (h1 : lo2 ≤ lo) (h2 : hi ≤ hi2) : xa_fr lo2 hi2 M M1 := ⟨fun a ha => h.1 a (by omega), h.2⟩
theorem xa_fr_st {lo hi : Nat} {M : xa_M} {a : Nat} {e : xa_C} (h1 : lo ≤ a) (h2 : a < hi) : xa_fr lo hi M (xa_st M a e) := ⟨fun q hq => by rw [xt_st, if_neg (by omega)], rfl⟩
/-- a row of n ints at a, of which the first k are known -/
def xa_ar (M : xa_M) (a n k : Nat) (f : Nat → Nat) : Prop := ∃ g : Nat → Int32, M.1 a = some (.inl (0, n, .inl g)) ∧ ∀ j, j < k → g j = nI (f j)
theorem xa_ar_fr {M M1 : xa_M} {a n k lo hi : Nat} {f : Nat → Nat} (h : xa_ar M a n k f) (hf : xa_fr lo hi M M1) (ha : a < lo ∨ hi ≤ a) : xa_ar M1 a n k f := by
  obtain ⟨g, h1, h2⟩ := h
  exact ⟨g, by rw [hf.1 a ha]; exact h1, h2⟩
theorem xa_ar_ne {M : xa_M} {a n k b : Nat} {e : xa_C} {f : Nat → Nat} (h : xa_ar M a n k f) (ha : a ≠ b) : xa_ar (xa_st M b e) a n k f := by
  obtain ⟨g, h1, h2⟩ := h
  exact ⟨g, by rw [xt_st, if_neg ha]; exact h1, h2⟩
theorem xa_ar_mono {M : xa_M} {a n k k2 : Nat} {f : Nat → Nat} (h : xa_ar M a n k f) (hk : k2 ≤ k) : xa_ar M a n k2 f := by
  obtain ⟨g, h1, h2⟩ := h
  exact ⟨g, h1, fun j hj => h2 j (by omega)⟩
theorem xa_ar_cg {M : xa_M} {a n k : Nat} {f f2 : Nat → Nat} (h : xa_ar M a n k f) (hf : ∀ j, j < k → f j = f2 j) : xa_ar M a n k f2 := by
  obtain ⟨g, h1, h2⟩ := h
  exact ⟨g, h1, fun j hj => by rw [h2 j hj, hf j hj]⟩
/-- a store into a row -/
theorem xa_ar_up {M : xa_M} {a n k i v : Nat} {g : Nat → Int32} {f f2 : Nat → Nat} (hg : ∀ j, j < k → g j = nI (f j)) (hi : f2 i = v) (hj : ∀ j, j < k → j ≠ i → f2 j = f j) : xa_ar (xa_st M a (.inl (0, n, .inl (upd g i (nI v))))) a n k f2 := by
  refine ⟨_, by rw [xt_st, if_pos rfl], fun j hk => ?_⟩
  rw [xt_us]
  by_cases e : j = i
  · subst e
    rw [if_pos rfl, hi]
  · rw [if_neg e, hg j hk, hj j hk e]
-- a Standing: (days, how, quarter, stayed, met, post)
abbrev xt_S : Type := Nat × (Nat → Nat) × (Nat → Nat) × (Nat → Nat) × (Nat → Nat) × (Nat → Nat)
-- what a TEXT tells: (N, C, guilds, serfs, men, notches), kind, lord, home, master, post, step, from, to
abbrev xt_T : Type := (Nat × Nat × Nat × Nat × Nat × Nat) × (Nat → Nat) × (Nat → Nat) × (Nat → Nat) × (Nat → Nat) × (Nat → Nat) × (Nat → Nat) × (Nat → Nat) × (Nat → Nat)
abbrev xN (T : xt_T) : Nat := T.1.1
abbrev xC (T : xt_T) : Nat := T.1.2.1
abbrev xG (T : xt_T) : Nat := T.1.2.2.1
abbrev xnS (T : xt_T) : Nat := T.1.2.2.2.1
abbrev xnM (T : xt_T) : Nat := T.1.2.2.2.2.1
abbrev xnW (T : xt_T) : Nat := T.1.2.2.2.2.2
abbrev xtk (T : xt_T) : Nat → Nat := T.2.1
abbrev xtl (T : xt_T) : Nat → Nat := T.2.2.1
abbrev xth (T : xt_T) : Nat → Nat := T.2.2.2.1
abbrev xtm (T : xt_T) : Nat → Nat := T.2.2.2.2.1
abbrev xtp (T : xt_T) : Nat → Nat := T.2.2.2.2.2.1
abbrev xts (T : xt_T) : Nat → Nat := T.2.2.2.2.2.2.1
abbrev xtf (T : xt_T) : Nat → Nat := T.2.2.2.2.2.2.2.1
abbrev xtt (T : xt_T) : Nat → Nat := T.2.2.2.2.2.2.2.2
abbrev xsd (S : xt_S) : Nat := S.1
abbrev xsh (S : xt_S) : Nat → Nat := S.2.1
abbrev xsq (S : xt_S) : Nat → Nat := S.2.2.1
abbrev xss (S : xt_S) : Nat → Nat := S.2.2.2.1
abbrev xsm (S : xt_S) : Nat → Nat := S.2.2.2.2.1
abbrev xsp (S : xt_S) : Nat → Nat := S.2.2.2.2.2
def xh_S (M : xa_M) (k nS nM : Nat) (S : xt_S) : Prop := M.1 k = some (.inr (2, [.int (nI (xsd S)), .ref (k + 1), .ref (k + 2), .ref (k + 3), .ref (k + 4), .ref (k + 5)])) ∧ xa_ar M (k + 1) 6 nS (xsh S) ∧ xa_ar M (k + 2) 6 nS (xsq S) ∧ xa_ar M (k + 3) 6 nS (xss S) ∧ xa_ar M (k + 4) 6 nS (xsm S) ∧ xa_ar M (k + 5) 6 nM (xsp S)
def xh_T (M : xa_M) (k : Nat) (T : xt_T) : Prop := M.1 k = some (.inr (4, [.int (nI (xN T)), .int (nI (xC T)), .int (nI (xG T)), .int (nI (xnS T)), .ref (k + 1), .ref (k + 2), .ref (k + 3), .int (nI (xnM T)), .ref (k + 4), .ref (k + 5), .ref (k + 6), .int (nI (xnW T)), .ref (k + 7), .ref (k + 8)])) ∧ xa_ar M (k + 1) 6 (xnS T) (xtk T) ∧ xa_ar M (k + 2) 6 (xnS T) (xtl T) ∧ xa_ar M (k + 3) 6 (xnS T) (xth T) ∧ xa_ar M (k + 4) 6 (xnM T) (xtm T) ∧ xa_ar M (k + 5) 6 (xnM T) (xtp T) ∧ xa_ar M (k + 6) 6 (xnM T) (xts T) ∧ xa_ar M (k + 7) 6 (xnW T) (xtf T) ∧ xa_ar M (k + 8) 6 (xnW T) (xtt T)
theorem xh_S_fr {M M1 : xa_M} {k nS nM lo hi : Nat} {S : xt_S} (h : xh_S M k nS nM S) (hf : xa_fr lo hi M M1) (ha : k + 6 ≤ lo ∨ hi ≤ k) : xh_S M1 k nS nM S := by
  obtain ⟨h0, h1, h2, h3, h4, h5⟩ := h
  exact ⟨by rw [hf.1 k (by omega)]; exact h0, xa_ar_fr h1 hf (by omega), xa_ar_fr h2 hf (by omega), xa_ar_fr h3 hf (by omega), xa_ar_fr h4 hf (by omega), xa_ar_fr h5 hf (by omega)⟩
theorem xh_T_fr {M M1 : xa_M} {k lo hi : Nat} {T : xt_T} (h : xh_T M k T) (hf : xa_fr lo hi M M1) (ha : k + 9 ≤ lo ∨ hi ≤ k) : xh_T M1 k T := by
  obtain ⟨h0, h1, h2, h3, h4, h5, h6, h7, h8⟩ := h
  exact ⟨by rw [hf.1 k (by omega)]; exact h0, xa_ar_fr h1 hf (by omega), xa_ar_fr h2 hf (by omega), xa_ar_fr h3 hf (by omega), xa_ar_fr h4 hf (by omega), xa_ar_fr h5 hf (by omega), xa_ar_fr h6 hf (by omega), xa_ar_fr h7 hf (by omega), xa_ar_fr h8 hf (by omega)⟩
def xt_c (p : Nat → Bool) : Nat → Nat
  | 0 => 0
  | n + 1 => xt_c p n + if p n then 1 else 0
theorem xt_cle (p : Nat → Bool) : ∀ n, xt_c p n ≤ n
  | 0 => Nat.le_refl 0
  | n + 1 => by have := xt_cle p n; unfold xt_c; split <;> omega
theorem xt_cc {p q : Nat → Bool} : ∀ {n : Nat}, (∀ j, j < n → p j = q j) → xt_c p n = xt_c q n
  | 0, _ => rfl
  | n + 1, h => by rw [xt_c, xt_c, xt_cc (fun j hj => h j (by omega)), h n (by omega)]
theorem xt_cpos {p : Nat → Bool} : ∀ {n : Nat}, 0 < xt_c p n ↔ ∃ j, j < n ∧ p j = true
  | 0 => by simp [xt_c]
  | n + 1 => by
    have ih := xt_cpos (p := p) (n := n)
    rw [xt_c]
    constructor
    · intro h
      by_cases hp : p n = true
      · exact ⟨n, by omega, hp⟩
      · rw [if_neg hp] at h
        obtain ⟨j, hj, hpj⟩ := ih.mp (by omega)
        exact ⟨j, by omega, hpj⟩
    · rintro ⟨j, hj, hpj⟩
      by_cases e : j = n
      · subst e; rw [if_pos hpj]; omega
      · have := ih.mpr ⟨j, by omega, hpj⟩
        omega
