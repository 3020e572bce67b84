def xq_pd (T : xt_T) : Nat → (Nat → Nat) → (Nat → Nat)
  | 0, P => P
  | d + 1, P => xq_pm T (xq_pd T d P)
theorem xi_pd {T : xt_T} {P : Nat → Nat} (hC : 2 ≤ xC T) (h : xi_P T P) : ∀ d, xi_P T (xq_pd T d P)
  | 0 => h
  | _ + 1 => fun _ _ => Nat.mod_lt _ (by omega)
/-- may he be in q on day d, n days before he is free, with so many to spare -/
def xq_can (C : Nat) (F : Nat → Nat → Bool) : Nat → Nat → Nat → Nat → Bool
  | 0, _, _, _ => true
  | n + 1, d, left, q => if F d q = true then (if left = 0 then false else xq_reach C (xq_can C F n (d + 1) (left - 1)) q) else xq_reach C (xq_can C F n (d + 1) left) q
theorem xt_lo_cg {p p2 : Nat → Bool} : ∀ n, (∀ j, j < n → p j = p2 j) → xt_lo p n = xt_lo p2 n
  | 0, _ => rfl
  | n + 1, h => by
    unfold xt_lo
    rw [xt_lo_cg n (fun j hj => h j (by omega)), h n (by omega)]
theorem xt_bs_cg {p p2 : Nat → Bool} : ∀ n, (∀ j, j < n → p j = p2 j) → xt_bs p n = xt_bs p2 n
  | 0, _ => rfl
  | n + 1, h => by
    unfold xt_bs
    rw [xt_bs_cg n (fun j hj => h j (by omega)), h n (by omega)]
theorem xq_reach_cg {C q : Nat} {p p2 : Nat → Bool} (h : ∀ j, j < C → p j = p2 j) : xq_reach C p q = xq_reach C p2 q := by
  unfold xq_reach
  rw [xt_lo_cg C (p2 := fun r => p2 r && xq_near C q r) (fun j hj => by rw [h j hj])]
theorem xq_reach_bs {C q : Nat} {p : Nat → Bool} : xq_reach C (xt_bs p C).testBit q = xq_reach C p q := xq_reach_cg (fun j hj => by rw [xt_bs_bit]; simp [hj])
theorem xt_andn : ∀ a, a < 64 → ∀ b, b < 64 → nI a &&& (nI b ^^^ Int32.ofInt (-1)) = nI (a &&& (63 ^^^ b)) := by decide +kernel
theorem xt_bs_ext {C x : Nat} {p : Nat → Bool} (hx : x < 2 ^ C) (h : ∀ j, j < C → x.testBit j = p j) : x = xt_bs p C := by
  apply Nat.eq_of_testBit_eq
  intro j
  rw [xt_bs_bit]
  by_cases c : j < C
  · rw [h j c]; simp [c]
  · rw [Nat.testBit_lt_two_pow (Nat.lt_of_lt_of_le hx (Nat.pow_le_pow_right (by decide) (by omega)))]; simp [c]
theorem xt_63 : ∀ j, j < 6 → (63 : Nat).testBit j = true := by decide
theorem xt_bs_andn {C : Nat} (hC : C ≤ 6) (p f : Nat → Bool) : xt_bs p C &&& (63 ^^^ xt_bs f C) = xt_bs (fun q => p q && !f q) C := by
  refine xt_bs_ext (Nat.lt_of_le_of_lt Nat.and_le_left (xt_bs_lt _ _)) (fun j hj => ?_)
  rw [Nat.testBit_and, Nat.testBit_xor, xt_bs_bit, xt_bs_bit, xt_63 j (by omega)]
  simp [hj]
theorem xt_bs_and {C : Nat} (p f : Nat → Bool) : xt_bs p C &&& xt_bs f C = xt_bs (fun q => p q && f q) C := by
  refine xt_bs_ext (Nat.lt_of_le_of_lt Nat.and_le_left (xt_bs_lt _ _)) (fun j hj => ?_)
  rw [Nat.testBit_and, xt_bs_bit, xt_bs_bit]
  simp [hj]
theorem xt_bs_or {C : Nat} (p f : Nat → Bool) : xt_bs p C ||| xt_bs f C = xt_bs (fun q => p q || f q) C := by
  refine xt_bs_ext (Nat.or_lt_two_pow (xt_bs_lt _ _) (xt_bs_lt _ _)) (fun j hj => ?_)
  rw [Nat.testBit_or, xt_bs_bit, xt_bs_bit]
  simp [hj]
theorem xt_bs_all {C : Nat} : 2 ^ C - 1 = xt_bs (fun _ => true) C := by
  refine xt_bs_ext (by have := Nat.two_pow_pos C; omega) (fun j hj => ?_)
  rw [Nat.testBit_two_pow_sub_one]
  simp [hj]
/-- the Ways at w, whatever they hold; then with what was looked up -/
def xh_W0 (M : xa_M) (w : Nat) : Prop := ∃ (a b : Int32) (f g0 g1 : Nat → Int32) (g : Nat → Option Nat), M.1 w = some (.inr (5, [.int a, .int b, .ref (w + 1), .ref (w + 2)])) ∧ M.1 (w + 1) = some (.inl (0, 60, .inl f)) ∧ M.1 (w + 2) = some (.inl (4, 2, .inr (.inr (.inr (.inr g))))) ∧ g 0 = some (w + 3) ∧ g 1 = some (w + 4) ∧ M.1 (w + 3) = some (.inl (0, 61, .inl g0)) ∧ M.1 (w + 4) = some (.inl (0, 61, .inl g1))
def xh_W (M : xa_M) (w L sp C : Nat) (F : Nat → Nat → Bool) (n d : Nat) : Prop := ∃ (g0 g1 : Nat → Int32) (g : Nat → Option Nat), M.1 w = some (.inr (5, [.int (nI L), .int (nI sp), .ref (w + 1), .ref (w + 2)])) ∧ xa_ar M (w + 1) 60 n (fun d => xt_bs (F d) C) ∧ M.1 (w + 2) = some (.inl (4, 2, .inr (.inr (.inr (.inr g))))) ∧ g 0 = some (w + 3) ∧ g 1 = some (w + 4) ∧ M.1 (w + 3) = some (.inl (0, 61, .inl g0)) ∧ M.1 (w + 4) = some (.inl (0, 61, .inl g1)) ∧ ∀ j, d ≤ j → j ≤ L → g0 j = nI (xt_bs (xq_can C F (L - j) j 0) C) ∧ g1 j = nI (xt_bs (xq_can C F (L - j) j 1) C)
theorem xh_W_fr {M M1 : xa_M} {w L sp C n d lo hi : Nat} {F : Nat → Nat → Bool} (h : xh_W M w L sp C F n d) (hf : xa_fr lo hi M M1) (ha : w + 5 ≤ lo ∨ hi ≤ w) : xh_W M1 w L sp C F n d := by
  obtain ⟨g0, g1, g, h0, h1, h2, h3, h4, h5, h6, h7⟩ := h
  exact ⟨g0, g1, g, (hf.1 _ (by omega)).trans h0, xa_ar_fr h1 hf (by omega), (hf.1 _ (by omega)).trans h2, h3, h4, (hf.1 _ (by omega)).trans h5, (hf.1 _ (by omega)).trans h6, h7⟩
theorem xh_W0_fr {M M1 : xa_M} {w lo hi : Nat} (h : xh_W0 M w) (hf : xa_fr lo hi M M1) (ha : w + 5 ≤ lo ∨ hi ≤ w) : xh_W0 M1 w := by
  obtain ⟨a, b, f, g0, g1, g, h0, h1, h2, h3, h4, h5, h6⟩ := h
  exact ⟨a, b, f, g0, g1, g, (hf.1 _ (by omega)).trans h0, (hf.1 _ (by omega)).trans h1, (hf.1 _ (by omega)).trans h2, h3, h4, (hf.1 _ (by omega)).trans h5, (hf.1 _ (by omega)).trans h6⟩
theorem xh_W_W0 {M : xa_M} {w L sp C n d : Nat} {F : Nat → Nat → Bool} (h : xh_W M w L sp C F n d) : xh_W0 M w := by
  obtain ⟨g0, g1, g, h0, ⟨f, h1, -⟩, h2, h3, h4, h5, h6, h7⟩ := h
  exact ⟨_, _, f, g0, g1, g, h0, h1, h2, h3, h4, h5, h6⟩
/-- one day further back -/
theorem xq_can0 {C : Nat} {F : Nat → Nat → Bool} (hC : C ≤ 6) (n d : Nat) : xt_bs (xq_reach C (xt_bs (xq_can C F n (d + 1) 0) C).testBit) C &&& (63 ^^^ xt_bs (F d) C) = xt_bs (xq_can C F (n + 1) d 0) C := by
  rw [xt_bs_andn hC]
  refine xt_bs_cg C (fun q _ => ?_)
  rw [xq_reach_bs]
  show _ = (if F d q = true then _ else _)
  by_cases c : F d q = true
  · rw [if_pos c, if_pos rfl, c]; simp
  · rw [if_neg c]; simp [c]
theorem xq_can1 {C : Nat} {F : Nat → Nat → Bool} (hC : C ≤ 6) (n d : Nat) : (xt_bs (xq_reach C (xt_bs (xq_can C F n (d + 1) 1) C).testBit) C &&& (63 ^^^ xt_bs (F d) C)) ||| (xt_bs (xq_reach C (xt_bs (xq_can C F n (d + 1) 0) C).testBit) C &&& xt_bs (F d) C) = xt_bs (xq_can C F (n + 1) d 1) C := by
  rw [xt_bs_andn hC, xt_bs_and, xt_bs_or]
  refine xt_bs_cg C (fun q _ => ?_)
  rw [xq_reach_bs, xq_reach_bs]
  show _ = (if F d q = true then _ else _)
  by_cases c : F d q = true
  · rw [if_pos c, if_neg (by decide), c]; simp
  · rw [if_neg c]; simp [c]
