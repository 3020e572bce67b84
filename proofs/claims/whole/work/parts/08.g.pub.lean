/-- the cells lo .. hi are as they were -/
def xa_sm (lo hi : Nat) (M M1 : xa_M) : Prop := ∀ a, lo ≤ a → a < hi → M1.1 a = M.1 a
theorem xa_ar_sm {M M1 : xa_M} {a n k lo hi : Nat} {f : Nat → Nat} (h : xa_ar M a n k f) (g : xa_sm lo hi M M1) (h1 : lo ≤ a) (h2 : a < hi) : xa_ar M1 a n k f := by
  obtain ⟨w, x, y⟩ := h
  exact ⟨w, (g a h1 h2).trans x, y⟩
theorem xh_S_sm {M M1 : xa_M} {k nS nM : Nat} {S : xt_S} (h : xh_S M k nS nM S) (g : xa_sm k (k + 6) M M1) : xh_S M1 k nS nM S := by
  obtain ⟨h0, h1, h2, h3, h4, h5⟩ := h
  exact ⟨(g k (by omega) (by omega)).trans h0, xa_ar_sm h1 g (by omega) (by omega), xa_ar_sm h2 g (by omega) (by omega), xa_ar_sm h3 g (by omega) (by omega), xa_ar_sm h4 g (by omega) (by omega), xa_ar_sm h5 g (by omega) (by omega)⟩
theorem xh_T_sm {M M1 : xa_M} {k : Nat} {T : xt_T} (h : xh_T M k T) (g : xa_sm k (k + 9) M M1) : xh_T M1 k T := by
  obtain ⟨h0, h1, h2, h3, h4, h5, h6, h7, h8⟩ := h
  exact ⟨(g k (by omega) (by omega)).trans h0, xa_ar_sm h1 g (by omega) (by omega), xa_ar_sm h2 g (by omega) (by omega), xa_ar_sm h3 g (by omega) (by omega), xa_ar_sm h4 g (by omega) (by omega), xa_ar_sm h5 g (by omega) (by omega), xa_ar_sm h6 g (by omega) (by omega), xa_ar_sm h7 g (by omega) (by omega), xa_ar_sm h8 g (by omega) (by omega)⟩
theorem xh_X_sm {M M1 : xa_M} {x len : Nat} {txt : Nat → Nat} (h : xh_X M x len txt) (g : xa_sm x (x + 3) M M1) : xh_X M1 x len txt := by
  obtain ⟨w, a, a2, h0, h1, h2, h3⟩ := h
  exact ⟨w, a, a2, (g _ (by omega) (by omega)).trans h0, (g _ (by omega) (by omega)).trans h1, h2, (g _ (by omega) (by omega)).trans h3⟩
theorem xh_P_sm {M M1 : xa_M} {p n nS nM size : Nat} {L : Nat → xt_S} (h : xh_P M p n nS nM size L) (g : xa_sm p (p + 2 + 6 * n) M M1) : xh_P M1 p n nS nM size L := by
  obtain ⟨a, σ, h0, h1, h2, h3, h4, h5, h6⟩ := h
  have key : ∀ i, i < n → xa_sm (p + 2 + 6 * σ i) (p + 2 + 6 * σ i + 6) M M1 := fun i hi c x y => g c (by omega) (by have := (h2 i hi).1; omega)
  exact ⟨a, σ, (g _ (by omega) (by omega)).trans h0, (g _ (by omega) (by omega)).trans h1, h2, h3, fun i hi => xh_S_sm (h4 i hi) (key i (by omega)), fun i hi => (h5 i hi).elim (fun S0 h => ⟨S0, xh_S_sm h (key i hi)⟩), h6⟩
theorem xh_G_sm {M M1 : xa_M} {p size : Nat} {a b c : Nat → Nat} (h : xh_G M p size a b c) (g : xa_sm p (p + 4) M M1) : xh_G M1 p size a b c := by
  obtain ⟨h0, h1, h2, h3⟩ := h
  exact ⟨(g p (by omega) (by omega)).trans h0, xa_ar_sm h1 g (by omega) (by omega), xa_ar_sm h2 g (by omega) (by omega), xa_ar_sm h3 g (by omega) (by omega)⟩
theorem xh_W0_sm {M M1 : xa_M} {w : Nat} (h : xh_W0 M w) (g : xa_sm w (w + 5) M M1) : xh_W0 M1 w := by
  obtain ⟨a, b, f, g0, g1, gg, h0, h1, h2, h3, h4, h5, h6⟩ := h
  exact ⟨a, b, f, g0, g1, gg, (g _ (by omega) (by omega)).trans h0, (g _ (by omega) (by omega)).trans h1, (g _ (by omega) (by omega)).trans h2, h3, h4, (g _ (by omega) (by omega)).trans h5, (g _ (by omega) (by omega)).trans h6⟩
theorem xA_X {M M1 : xa_M} {b : Nat} {A : xt_A} {X : Nat × (Nat → Nat)} (h : xh_X M1 (b + 1) X.1 X.2) (hA : xh_A M b A) (f : xa_fr (b + 1) (b + 4) M M1) : xh_A M1 b (yT A, yS A, X, yU A, yK A, yG A) := by
  obtain ⟨hO, hX, hT, ⟨T0, hU⟩, hS, ⟨S0, hN⟩, hP, hK, hG, hW⟩ := hA
  exact ⟨(f.1 b (by omega)).trans hO, h, xh_T_fr hT f (by omega), ⟨_, xh_T_fr hU f (by omega)⟩, xh_S_fr hS f (by omega), ⟨_, xh_S_fr hN f (by omega)⟩, xh_P_fr hP f (by omega), xh_P_fr hK f (by omega), xh_G_fr hG f (by omega), xh_W0_fr hW f (by omega)⟩
theorem xA_U {M M1 : xa_M} {b : Nat} {A : xt_A} (h : ∃ T0, xh_T M1 (b + 13) T0) (hA : xh_A M b A) (f : xa_fr (b + 13) (b + 22) M M1) : xh_A M1 b A := by
  obtain ⟨hO, hX, hT, ⟨T0, hU⟩, hS, ⟨S0, hN⟩, hP, hK, hG, hW⟩ := hA
  exact ⟨(f.1 b (by omega)).trans hO, xh_X_fr hX f (by omega), xh_T_fr hT f (by omega), h, xh_S_fr hS f (by omega), ⟨_, xh_S_fr hN f (by omega)⟩, xh_P_fr hP f (by omega), xh_P_fr hK f (by omega), xh_G_fr hG f (by omega), xh_W0_fr hW f (by omega)⟩
theorem xA_S {M M1 : xa_M} {b : Nat} {A : xt_A} {S : xt_S} (h : xh_S M1 (b + 22) (xnS (yT A)) (xnM (yT A)) S) (hA : xh_A M b A) (f : xa_fr (b + 22) (b + 28) M M1) : xh_A M1 b (yT A, S, yX A, yU A, yK A, yG A) := by
  obtain ⟨hO, hX, hT, ⟨T0, hU⟩, hS, ⟨S0, hN⟩, hP, hK, hG, hW⟩ := hA
  exact ⟨(f.1 b (by omega)).trans hO, xh_X_fr hX f (by omega), xh_T_fr hT f (by omega), ⟨_, xh_T_fr hU f (by omega)⟩, h, ⟨_, xh_S_fr hN f (by omega)⟩, xh_P_fr hP f (by omega), xh_P_fr hK f (by omega), xh_G_fr hG f (by omega), xh_W0_fr hW f (by omega)⟩
theorem xA_N {M M1 : xa_M} {b : Nat} {A : xt_A} (h : ∃ S0, xh_S M1 (b + 28) 0 0 S0) (hA : xh_A M b A) (f : xa_fr (b + 28) (b + 34) M M1) : xh_A M1 b A := by
  obtain ⟨hO, hX, hT, ⟨T0, hU⟩, hS, ⟨S0, hN⟩, hP, hK, hG, hW⟩ := hA
  exact ⟨(f.1 b (by omega)).trans hO, xh_X_fr hX f (by omega), xh_T_fr hT f (by omega), ⟨_, xh_T_fr hU f (by omega)⟩, xh_S_fr hS f (by omega), h, xh_P_fr hP f (by omega), xh_P_fr hK f (by omega), xh_G_fr hG f (by omega), xh_W0_fr hW f (by omega)⟩
theorem xA_P {M M1 : xa_M} {b : Nat} {A : xt_A} {P : Nat × (Nat → xt_S)} (h : xh_P M1 (b + 34) 8 (xnS (yT A)) (xnM (yT A)) P.1 P.2) (hA : xh_A M b A) (f : xa_fr (b + 34) (b + 84) M M1) : xh_A M1 b (yT A, yS A, yX A, P, yK A, yG A) := by
  obtain ⟨hO, hX, hT, ⟨T0, hU⟩, hS, ⟨S0, hN⟩, hP, hK, hG, hW⟩ := hA
  exact ⟨(f.1 b (by omega)).trans hO, xh_X_fr hX f (by omega), xh_T_fr hT f (by omega), ⟨_, xh_T_fr hU f (by omega)⟩, xh_S_fr hS f (by omega), ⟨_, xh_S_fr hN f (by omega)⟩, h, xh_P_fr hK f (by omega), xh_G_fr hG f (by omega), xh_W0_fr hW f (by omega)⟩
theorem xA_K {M M1 : xa_M} {b : Nat} {A : xt_A} {P : Nat × (Nat → xt_S)} (h : xh_P M1 (b + 84) 2 (xnS (yT A)) (xnM (yT A)) P.1 P.2) (hA : xh_A M b A) (f : xa_fr (b + 84) (b + 98) M M1) : xh_A M1 b (yT A, yS A, yX A, yU A, P, yG A) := by
  obtain ⟨hO, hX, hT, ⟨T0, hU⟩, hS, ⟨S0, hN⟩, hP, hK, hG, hW⟩ := hA
  exact ⟨(f.1 b (by omega)).trans hO, xh_X_fr hX f (by omega), xh_T_fr hT f (by omega), ⟨_, xh_T_fr hU f (by omega)⟩, xh_S_fr hS f (by omega), ⟨_, xh_S_fr hN f (by omega)⟩, xh_P_fr hP f (by omega), h, xh_G_fr hG f (by omega), xh_W0_fr hW f (by omega)⟩
theorem xA_G {M M1 : xa_M} {b : Nat} {A : xt_A} {G : Nat × (Nat → Nat) × (Nat → Nat) × (Nat → Nat)} (h : xh_G M1 (b + 98) G.1 G.2.1 G.2.2.1 G.2.2.2) (hA : xh_A M b A) (f : xa_fr (b + 98) (b + 102) M M1) : xh_A M1 b (yT A, yS A, yX A, yU A, yK A, G) := by
  obtain ⟨hO, hX, hT, ⟨T0, hU⟩, hS, ⟨S0, hN⟩, hP, hK, hG, hW⟩ := hA
  exact ⟨(f.1 b (by omega)).trans hO, xh_X_fr hX f (by omega), xh_T_fr hT f (by omega), ⟨_, xh_T_fr hU f (by omega)⟩, xh_S_fr hS f (by omega), ⟨_, xh_S_fr hN f (by omega)⟩, xh_P_fr hP f (by omega), xh_P_fr hK f (by omega), h, xh_W0_fr hW f (by omega)⟩
theorem xA_W {M M1 : xa_M} {b : Nat} {A : xt_A} (h : xh_W0 M1 (b + 102)) (hA : xh_A M b A) (f : xa_fr (b + 102) (b + 107) M M1) : xh_A M1 b A := by
  obtain ⟨hO, hX, hT, ⟨T0, hU⟩, hS, ⟨S0, hN⟩, hP, hK, hG, hW⟩ := hA
  exact ⟨(f.1 b (by omega)).trans hO, xh_X_fr hX f (by omega), xh_T_fr hT f (by omega), ⟨_, xh_T_fr hU f (by omega)⟩, xh_S_fr hS f (by omega), ⟨_, xh_S_fr hN f (by omega)⟩, xh_P_fr hP f (by omega), xh_P_fr hK f (by omega), xh_G_fr hG f (by omega), h⟩
theorem xA_2 {M M1 : xa_M} {b l1 h1 l2 h2 : Nat} {A : xt_A} (hA : xh_A M b A) (g : xa_f2 l1 h1 l2 h2 M M1) (e1 : b + 13 ≤ l1) (e2 : h1 ≤ b + 22 ∨ (b + 102 ≤ l1 ∧ h1 ≤ b + 107)) (e3 : b + 28 ≤ l2) (e4 : h2 ≤ b + 34) (hU : ∃ T0, xh_T M1 (b + 13) T0) (hN : ∃ S0, xh_S M1 (b + 28) 0 0 S0) (hW : xh_W0 M1 (b + 102)) : xh_A M1 b A := by
  obtain ⟨hO, hX, hT, -, hS, -, hP, hK, hG, -⟩ := hA
  have k : ∀ lo hi, hi ≤ b + 13 ∨ (b + 22 ≤ lo ∧ hi ≤ b + 28) ∨ (b + 34 ≤ lo ∧ hi ≤ b + 102) → xa_sm lo hi M M1 := fun lo hi c a x y => g.1 a (by omega) (by omega)
  exact ⟨(k b (b + 1) (by omega) b (by omega) (by omega)).trans hO, xh_X_sm hX (k _ _ (by omega)), xh_T_sm hT (k _ _ (by omega)), hU, xh_S_sm hS (k _ _ (by omega)), hN, xh_P_sm hP (k _ _ (by omega)), xh_P_sm hK (k _ _ (by omega)), xh_G_sm hG (k _ _ (by omega)), hW⟩
/-- what a call of the class answers, and leaves -/
def xm (b : Nat) (M : xa_M) (v : Int32) (A : xt_A) (z : xa_Z) : Prop := z.1 = some (.int v) ∧ xa_fr b (b + 107) M z.2 ∧ xh_A z.2 b A
theorem xm_r {b : Nat} {M : xa_M} {v : Int32} {A : xt_A} (hA : xh_A M b A) : xm b M v A (some (.int v), M) := ⟨rfl, xa_fr_rf, hA⟩
theorem xm_w {b lo hi : Nat} {M M1 : xa_M} {v : Int32} {A : xt_A} (hA : xh_A M1 b A) (f : xa_fr (b + lo) (b + hi) M M1) (h : hi ≤ 107) : xm b M v A (some (.int v), M1) := ⟨rfl, xa_fr_w f (by omega) (by omega), hA⟩
theorem xa_f2_fr {l1 h1 l2 h2 lo hi : Nat} {M M1 : xa_M} (g : xa_f2 l1 h1 l2 h2 M M1) (a : lo ≤ l1) (b : h1 ≤ hi) (c : lo ≤ l2) (d : h2 ≤ hi) : xa_fr lo hi M M1 := ⟨fun x hx => g.1 x (by omega) (by omega), g.2⟩
/-- switches -/
def xa_swt (x : Int32) (pc : Nat) (d lo hi : Int) (offs : Array Int) : Option Nat :=
  match (if x.toInt < lo ∨ hi < x.toInt then some d else offs[(x.toInt - lo).toNat]?) with
  | some o => if 0 ≤ (pc : Int) + o then some ((pc : Int) + o).toNat else none
  | none => none
theorem xt_sw {x : Int32} {pc : Nat} {d lo hi : Int} {offs : Array Int} {K : Nat → Prop} (t : Nat) (h : xa_swt x pc d lo hi offs = some t) : xa_sw x pc d lo hi offs K = K t := by
  unfold xa_swt at h
  unfold xa_sw
  by_cases c : x.toInt < lo ∨ hi < x.toInt
  · rw [if_pos c] at h ⊢
    dsimp only at h
    unfold xa_jmp
    split at h
    · rename_i c2; rw [if_pos c2]; cases h; rfl
    · cases h
  · rw [if_neg c] at h ⊢
    split at h
    · rename_i o e
      rw [e]
      dsimp only
      unfold xa_jmp
      split at h
      · rename_i c2; rw [if_pos c2]; cases h; rfl
      · cases h
    · cases h
theorem xt_swo {x : Int32} {pc : Nat} {d lo hi : Int} {offs : Array Int} {K : Nat → Prop} (t : Nat) (h : x.toInt < lo ∨ hi < x.toInt) (ht : 0 ≤ (pc : Int) + d ∧ ((pc : Int) + d).toNat = t) : xa_sw x pc d lo hi offs K = K t := by
  unfold xa_sw xa_jmp
  rw [if_pos h, if_pos ht.1, ht.2]
