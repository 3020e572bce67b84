section XaTwo
variable {st : List Value} {lv : xa_L} {M : xa_M}
theorem xa_kli_two {i : Nat} {K K' : Int32 → Prop} (a : xa_kli lv i K) (b : xa_kli lv i K') : ∃ x, K x ∧ K' x := by
  unfold xa_kli at a b
  split at a
  · rename_i x h; rw [h] at b; exact ⟨x, a, b⟩
  · exact a.elim
theorem xa_klr_two {i : Nat} {K K' : Nat → Prop} (a : xa_klr lv i K) (b : xa_klr lv i K') : ∃ x, K x ∧ K' x := by
  unfold xa_klr at a b
  split at a
  · rename_i x h; rw [h] at b; exact ⟨x, a, b⟩
  · exact a.elim
theorem xa_kll_two {i : Nat} {K K' : Int64 → Prop} (a : xa_kll lv i K) (b : xa_kll lv i K') : ∃ x, K x ∧ K' x := by
  unfold xa_kll at a b
  split at a
  · rename_i x h; rw [h] at b; exact ⟨x, a, b⟩
  · exact a.elim
theorem xa_ki_two {K K' : Int32 → List Value → Prop} (a : xa_ki st K) (b : xa_ki st K') : ∃ x r, K x r ∧ K' x r := by
  unfold xa_ki at a b
  split at a
  · exact ⟨_, _, a, b⟩
  · exact a.elim
theorem xa_kl_two {K K' : Int64 → List Value → Prop} (a : xa_kl st K) (b : xa_kl st K') : ∃ x r, K x r ∧ K' x r := by
  unfold xa_kl at a b
  split at a
  · exact ⟨_, _, a, b⟩
  · exact a.elim
theorem xa_kr_two {K K' : Nat → List Value → Prop} (a : xa_kr st K) (b : xa_kr st K') : ∃ x r, K x r ∧ K' x r := by
  unfold xa_kr at a b
  split at a
  · exact ⟨_, _, a, b⟩
  · exact a.elim
theorem xa_kii_two {K K' : Int32 → Int32 → List Value → Prop} (a : xa_kii st K) (b : xa_kii st K') : ∃ x y r, K x y r ∧ K' x y r := by
  unfold xa_kii at a b
  split at a
  · exact ⟨_, _, _, a, b⟩
  · exact a.elim
theorem xa_kk_two {K K' : Int64 → Int64 → List Value → Prop} (a : xa_kk st K) (b : xa_kk st K') : ∃ x y r, K x y r ∧ K' x y r := by
  unfold xa_kk at a b
  split at a
  · exact ⟨_, _, _, a, b⟩
  · exact a.elim
theorem xa_kir_two {K K' : Nat → Int32 → List Value → Prop} (a : xa_kir st K) (b : xa_kir st K') : ∃ x y r, K x y r ∧ K' x y r := by
  unfold xa_kir at a b
  split at a
  · exact ⟨_, _, _, a, b⟩
  · exact a.elim
theorem xa_krr_two {K K' : Nat → Nat → List Value → Prop} (a : xa_krr st K) (b : xa_krr st K') : ∃ x y r, K x y r ∧ K' x y r := by
  unfold xa_krr at a b
  split at a
  · exact ⟨_, _, _, a, b⟩
  · exact a.elim
theorem xa_kiir_two {K K' : Nat → Int32 → Int32 → List Value → Prop} (a : xa_kiir st K) (b : xa_kiir st K') : ∃ x y z r, K x y z r ∧ K' x y z r := by
  unfold xa_kiir at a b
  split at a
  · exact ⟨_, _, _, _, a, b⟩
  · exact a.elim
theorem xa_krir_two {K K' : Nat → Int32 → Nat → List Value → Prop} (a : xa_krir st K) (b : xa_krir st K') : ∃ x y z r, K x y z r ∧ K' x y z r := by
  unfold xa_krir at a b
  split at a
  · exact ⟨_, _, _, _, a, b⟩
  · exact a.elim
theorem xa_kdup_two {K K' : Value → List Value → Prop} (a : xa_kdup st K) (b : xa_kdup st K') : ∃ x r, K x r ∧ K' x r := by
  unfold xa_kdup at a b
  split at a
  · exact ⟨_, _, a, b⟩
  · exact ⟨_, _, a, b⟩
  · exact a.elim
theorem xa_kdup2_two {K K' : Value → Value → List Value → Prop} (a : xa_kdup2 st K) (b : xa_kdup2 st K') : ∃ x y r, K x y r ∧ K' x y r := by
  unfold xa_kdup2 at a b
  split at a
  · exact ⟨_, _, _, a, b⟩
  · exact a.elim
theorem xa_kcp_two {K K' : Nat → Int32 → Nat → Int32 → Int32 → List Value → Prop} (a : xa_kcp st K) (b : xa_kcp st K') : ∃ x y z u v r, K x y z u v r ∧ K' x y z u v r := by
  unfold xa_kcp at a b
  split at a
  · exact ⟨_, _, _, _, _, _, a, b⟩
  · exact a.elim
theorem xa_gf_two {x ci k : Nat} {K K' : Value → Prop} (a : xa_gf M x ci k K) (b : xa_gf M x ci k K') : ∃ v, K v ∧ K' v := by
  unfold xa_gf at a b
  split at a
  · rename_i c fs h
    rw [h] at b
    have a := a.2
    have b := b.2
    try dsimp only at b
    split at a
    · rename_i v h2; rw [h2] at b; exact ⟨v, a, b⟩
    · exact a.elim
  · exact a.elim
theorem xa_pf_two {x ci k : Nat} {v : Value} {K K' : xa_M → Prop} (a : xa_pf M x ci k v K) (b : xa_pf M x ci k v K') : ∃ v, K v ∧ K' v := by
  unfold xa_pf at a b
  split at a
  · rename_i c fs h
    rw [h] at b
    exact ⟨_, a.2.2, b.2.2⟩
  · exact a.elim
theorem xa_ga_two {t x : Nat} {i : Int32} {K K' : Int32 → Prop} (a : xa_ga t M x i K) (b : xa_ga t M x i K') : ∃ v, K v ∧ K' v := by
  unfold xa_ga at a b
  split at a
  · rename_i c n f h
    rw [h] at b
    exact ⟨_, a.2.2, b.2.2⟩
  · exact a.elim
theorem xa_pa_two {t x : Nat} {i v : Int32} {K K' : xa_M → Prop} (a : xa_pa t M x i v K) (b : xa_pa t M x i v K') : ∃ v, K v ∧ K' v := by
  unfold xa_pa at a b
  split at a
  · rename_i c n f h
    rw [h] at b
    exact ⟨_, a.2.2, b.2.2⟩
  · exact a.elim
theorem xa_gq_two {x : Nat} {i : Int32} {K K' : Nat → Prop} (a : xa_gq M x i K) (b : xa_gq M x i K') : ∃ v, K v ∧ K' v := by
  unfold xa_gq at a b
  split at a
  · rename_i c n f h
    rw [h] at b
    have a := a.2.2
    have b := b.2.2
    try dsimp only at b
    split at a
    · rename_i v h2; rw [h2] at b; exact ⟨v, a, b⟩
    · exact a.elim
  · exact a.elim
theorem xa_pq_two {x v : Nat} {i : Int32} {K K' : xa_M → Prop} (a : xa_pq M x i v K) (b : xa_pq M x i v K') : ∃ v, K v ∧ K' v := by
  unfold xa_pq at a b
  split at a
  · rename_i c n f h
    rw [h] at b
    exact ⟨_, a.2.2.2, b.2.2.2⟩
  · exact a.elim
theorem xa_gl_two {x : Nat} {K K' : Int32 → Prop} (a : xa_gl M x K) (b : xa_gl M x K') : ∃ v, K v ∧ K' v := by
  unfold xa_gl at a b
  split at a
  · rename_i c n f h
    rw [h] at b
    exact ⟨_, a.2, b.2⟩
  · exact a.elim
theorem xa_cp_two {s d : Nat} {sp dp n : Int32} {K K' : xa_M → Prop} (a : xa_cp M s sp d dp n K) (b : xa_cp M s sp d dp n K') : ∃ v, K v ∧ K' v := by
  unfold xa_cp at a b
  split at a
  · rename_i t0 n0 f t1 n1 g h0 h1
    rw [h0, h1] at b
    exact ⟨_, a.2.2.2.2.2.2.2, b.2.2.2.2.2.2.2⟩
  · exact a.elim
theorem xa_jmp_two {pc : Nat} {o : Int} {K K' : Nat → Prop} (a : xa_jmp pc o K) (b : xa_jmp pc o K') : ∃ v, K v ∧ K' v := by
  unfold xa_jmp at a b
  split at a
  · rename_i h; rw [if_pos h] at b; exact ⟨_, a, b⟩
  · exact a.elim
theorem xa_args_two {n : Nat} {K K' : List Value → List Value → Prop} (a : xa_args n st K) (b : xa_args n st K') : ∃ x y, K x y ∧ K' x y := by
  unfold xa_args at a b
  split at a
  all_goals first | exact a.elim | exact ⟨_, _, a, b⟩
theorem xa_sw_two {x : Int32} {pc : Nat} {d lo hi : Int} {offs : Array Int} {K K' : Nat → Prop} (a : xa_sw x pc d lo hi offs K) (b : xa_sw x pc d lo hi offs K') : ∃ v, K v ∧ K' v := by
  unfold xa_sw at a b
  split at a
  · rename_i h; rw [if_pos h] at b; exact xa_jmp_two a b
  · rename_i h; rw [if_neg h] at b
    split at a
    · rename_i o ho; rw [ho] at b; exact xa_jmp_two a b
    · exact a.elim
end XaTwo
def xa_D : xa_J := fun mid pc lv st M res => ∀ res', xa_E mid pc lv st M res' → res' = res
theorem xa_kc_two {M : xa_M} {m : Nat} {As r : List Value} {K K' : xa_Z → Prop} (a : xa_kc xa_D M m As r K) (b : xa_kc xa_E M m As r K') : ∃ z, K z ∧ K' z := by
  obtain ⟨-, -, z, a1, a2⟩ := a
  obtain ⟨-, -, z', b1, b2⟩ := b
  have e : z' = z := a1 z' b1
  subst e
  exact ⟨z', a2, b2⟩
theorem xa_inv_det {q : xa_MI} {kd : Nat → Bool} {i mid pc : Nat} {lv : xa_L} {st : List Value} {M : xa_M} {res res' : xa_Z} (a : xa_inv xa_D q kd i mid pc lv st M res) (b : xa_inv xa_E q kd i mid pc lv st M res') : res' = res := by
  unfold xa_inv at a b
  split at a
  · rename_i k m2 n rest h
    rw [h] at b
    try dsimp only at b
    split at a
    · rename_i hk
      rw [if_pos hk] at b
      split at a
      · rename_i c; rw [if_pos c] at b
        obtain ⟨_, _, a, b⟩ := xa_kr_two a b
        exact a.2 _ b.2
      · rename_i c; rw [if_neg c] at b
        split at a
        · rename_i c; rw [if_pos c] at b
          obtain ⟨_, _, _, a, b⟩ := xa_kii_two a b
          exact a.2 _ b.2
        · rename_i c; rw [if_neg c] at b
          split at a
          · rename_i c; rw [if_pos c] at b
            obtain ⟨_, _, _, a, b⟩ := xa_kii_two a b
            exact a.2 _ b.2
          · rename_i c; rw [if_neg c] at b
            split at a
            · rename_i c; rw [if_pos c] at b
              obtain ⟨_, _, _, _, _, _, a, b⟩ := xa_kcp_two a b
              obtain ⟨_, a, b⟩ := xa_cp_two a.2 b.2
              exact a _ b
            · rename_i c; rw [if_neg c] at b
              split at a
              · rename_i c; rw [if_pos c] at b
                obtain ⟨_, _, a, b⟩ := xa_kr_two a b
                exact a.2.2 _ b.2.2
              · rename_i c; rw [if_neg c] at b
                split at a
                · rename_i c; rw [if_pos c] at b
                  obtain ⟨_, _, _, a, b⟩ := xa_kir_two a b
                  exact a.2.2.2 _ b.2.2.2
                · rename_i c; rw [if_neg c] at b
                  split at a
                  · rename_i c; rw [if_pos c] at b
                    obtain ⟨_, _, a, b⟩ := xa_args_two a b
                    obtain ⟨_, a, b⟩ := xa_kc_two a.2 b.2
                    exact a _ b
                  · rename_i c; rw [if_neg c] at b
                    split at a
                    · rename_i c; rw [if_pos c] at b
                      obtain ⟨_, _, a, b⟩ := xa_args_two a b
                      obtain ⟨_, a, b⟩ := xa_kc_two a.2 b.2
                      exact a _ b
                    · rename_i c; rw [if_neg c] at b
                      split at a
                      · rename_i c; rw [if_pos c] at b
                        obtain ⟨_, _, a, b⟩ := xa_args_two a b
                        obtain ⟨_, a, b⟩ := xa_kc_two a b
                        exact a _ b
                      · exact a.elim
    · exact a.elim
  · exact a.elim
theorem xa_t1 {α : Type} {P Q : α → Prop} {C : Prop} (h : ∃ x, P x ∧ Q x) (f : ∀ x, P x → Q x → C) : C := h.elim (fun x h => f x h.1 h.2)
theorem xa_t2 {α β : Type} {P Q : α → β → Prop} {C : Prop} (h : ∃ x y, P x y ∧ Q x y) (f : ∀ x y, P x y → Q x y → C) : C := h.elim (fun x h => xa_t1 h (f x))
theorem xa_t3 {α β γ : Type} {P Q : α → β → γ → Prop} {C : Prop} (h : ∃ x y z, P x y z ∧ Q x y z) (f : ∀ x y z, P x y z → Q x y z → C) : C := h.elim (fun x h => xa_t2 h (f x))
theorem xa_t4 {α β γ δ : Type} {P Q : α → β → γ → δ → Prop} {C : Prop} (h : ∃ x y z u, P x y z u ∧ Q x y z u) (f : ∀ x y z u, P x y z u → Q x y z u → C) : C := h.elim (fun x h => xa_t3 h (f x))
set_option maxHeartbeats 4000000 in
theorem xa_do_det {q : xa_MI} {ins : xa_I} {mid pc : Nat} {lv : xa_L} {st : List Value} {M : xa_M} {res res' : xa_Z} (a : xa_do xa_D q ins mid pc lv st M res) (b : xa_do xa_E q ins mid pc lv st M res') : res' = res := by
  unfold xa_do at a b
  split at a
  all_goals first
    | exact a.elim
    | exact a _ b
    | exact xa_inv_det a b
    | exact a.2 _ b.2
    | exact xa_t1 (xa_kli_two a b) (fun _ a b => a _ b)
    | exact xa_t1 (xa_klr_two a b) (fun _ a b => a _ b)
    | exact xa_t1 (xa_kll_two a b) (fun _ a b => a _ b)
    | exact xa_t1 (xa_jmp_two a b) (fun _ a b => a _ b)
    | exact xa_t2 (xa_ki_two a b) (fun _ _ a b => a _ b)
    | exact xa_t2 (xa_ki_two a b) (fun _ _ a b => a.2.2 _ b.2.2)
    | exact xa_t2 (xa_ki_two a b) (fun _ _ a b => xa_t1 (xa_sw_two a b) (fun _ a b => a _ b))
    | exact xa_t2 (xa_ki_two a b) (fun _ _ a b => xa_t1 (xa_jmp_two a b) (fun _ a b => a _ b))
    | (refine xa_t2 (xa_ki_two a b) (fun _ _ a b => ?_); (split at a <;> rename_i c <;> first | (rw [if_pos c] at b; first | exact a _ b | exact xa_t1 (xa_jmp_two a b) (fun _ a b => a _ b)) | (rw [if_neg c] at b; first | exact a _ b | exact xa_t1 (xa_jmp_two a b) (fun _ a b => a _ b))))
    | exact xa_t2 (xa_kl_two a b) (fun _ _ a b => a _ b)
    | exact xa_t2 (xa_kdup_two a b) (fun _ _ a b => a _ b)
    | exact xa_t3 (xa_kdup2_two a b) (fun _ _ _ a b => a _ b)
    | exact xa_t3 (xa_kk_two a b) (fun _ _ _ a b => a _ b)
    | exact xa_t3 (xa_kk_two a b) (fun _ _ _ a b => a.2 _ b.2)
    | exact xa_t3 (xa_kii_two a b) (fun _ _ _ a b => a _ b)
    | exact xa_t3 (xa_kii_two a b) (fun _ _ _ a b => a.2 _ b.2)
    | (refine xa_t3 (xa_kii_two a b) (fun _ _ _ a b => ?_); (split at a <;> rename_i c <;> first | (rw [if_pos c] at b; first | exact a _ b | exact xa_t1 (xa_jmp_two a b) (fun _ a b => a _ b)) | (rw [if_neg c] at b; first | exact a _ b | exact xa_t1 (xa_jmp_two a b) (fun _ a b => a _ b))))
    | exact xa_t3 (xa_kir_two a b) (fun _ _ _ a b => xa_t1 (xa_ga_two a b) (fun _ a b => a _ b))
    | exact xa_t3 (xa_kir_two a b) (fun _ _ _ a b => xa_t1 (xa_gq_two a b) (fun _ a b => a _ b))
    | exact xa_t2 (xa_kr_two a b) (fun _ _ a b => a _ b)
    | exact xa_t2 (xa_kr_two a b) (fun _ _ a b => xa_t1 (xa_gl_two a b) (fun _ a b => a _ b))
    | exact xa_t4 (xa_kiir_two a b) (fun _ _ _ _ a b => xa_t1 (xa_pa_two a b) (fun _ a b => a _ b))
    | exact xa_t4 (xa_krir_two a b) (fun _ _ _ _ a b => xa_t1 (xa_pq_two a b) (fun _ a b => a _ b))
    | skip
  · try dsimp only at b
    split at a
    · rename_i v pl h
      rw [h] at b
      exact a _ b
    · exact a.elim
  · try dsimp only at b
    split at a
    · rename_i ci k pl h
      rw [h] at b
      exact xa_t2 (xa_kr_two a b) (fun _ _ a b => xa_t1 (xa_gf_two a b) (fun _ a b => a _ b))
    · exact a.elim
  · try dsimp only at b
    split at a
    · rename_i ci k pl h
      rw [h] at b
      try dsimp only at b
      split at a
      · rename_i c
        rw [if_pos c] at b
        exact xa_t3 (xa_kir_two a b) (fun _ _ _ a b => xa_t1 (xa_pf_two a b) (fun _ a b => a _ b))
      · rename_i c
        rw [if_neg c] at b
        split at a
        · rename_i c
          rw [if_pos c] at b
          exact xa_t3 (xa_kir_two a b) (fun _ _ _ a b => xa_t1 (xa_pf_two a.2 b.2) (fun _ a b => a _ b))
        · rename_i c
          rw [if_neg c] at b
          exact xa_t3 (xa_krr_two a b) (fun _ _ _ a b => xa_t1 (xa_pf_two a b) (fun _ a b => a _ b))
    · exact a.elim
  · try dsimp only at b
    split at a
    · rename_i ci pl h
      rw [h] at b
      exact a _ b
    · exact a.elim
  · try dsimp only at b
    split at a
    · rename_i ci pl h
      rw [h] at b
      exact xa_t2 (xa_ki_two a b) (fun _ _ a b => a.2.2.2 _ b.2.2.2)
    · exact a.elim
  · rename_i i
    have b : (match (xa_nt q.2.2.2.2.1).lookup i with
      | some (_, _) => xa_kii st (fun n k r => (n = nI 2 ∧ k = nI 61) ∧ xa_E mid (pc + 4) lv (.ref M.2.1 :: r) (xa_al (xa_al (xa_al M (.inl (4, 2, .inr (.inr (.inr (.inr (fun i => if i < 2 then some (M.2.1 + 1 + i) else none)))))) 2) (.inl (0, 61, .inl (fun _ => 0))) 61) (.inl (0, 61, .inl (fun _ => 0))) 61) res')
      | none => False) := b
    split at a
    · rename_i ci pl h
      rw [h] at b
      exact xa_t3 (xa_kii_two a b) (fun _ _ _ a b => a.2 _ b.2)
    · exact a.elim
  · split at a
    · try dsimp only at b
      split at a
      · rename_i c
        rw [if_pos c] at b
        rw [a, b]
      · rename_i c
        rw [if_neg c] at b
        rw [a.2.2, b.2.2]
    · exact a.elim
  · split at a
    · try dsimp only at b
      rw [a.2, b.2]
    · exact a.elim
/-- a method has one end -/
theorem xa_det {mid pc : Nat} {lv : xa_L} {st : List Value} {M : xa_M} {res res' : xa_Z} (x : xa_E mid pc lv st M res) (y : xa_E mid pc lv st M res') : res' = res :=
  x xa_D (fun mid pc lv st M res h => by
    obtain ⟨q, ins, h1, h2, h3⟩ := h
    intro r hr
    exact xa_do_det h3 ((xa_row h1 h2).mp hr)) res' y
theorem xa_iff {mid pc : Nat} {lv : xa_L} {st : List Value} {M : xa_M} {res : xa_Z} (x : xa_E mid pc lv st M res) (z : xa_Z) : xa_E mid pc lv st M z ↔ z = res := ⟨fun y => xa_det x y, fun e => e ▸ x⟩
