section XaMnc
variable {l : Launch} {mid pc : Nat} {lv : xa_L} {st r : List Value} {M : xa_M} {res : xa_Z} {q : xa_MI}
theorem xw_oc (c : ClassId) (h : Nat) : xw_o2 c h = vp_cell c (2, .inr (.inr (.inr (.inr (fun i => if i < 2 then some (h + 1 + i) else none))))) := by
  rw [vp_cell_q]
  show ((xw_o0 c).setSlot 0 _).setSlot 1 _ = _
  have e0 : xw_o0 c = arrV c 2 (fun _ => .null) := by unfold xw_o0; rw [arrV_new]
  rw [e0, arrV_store, arrV_store]
  unfold arrV
  congr 1
theorem xw_ic (c : ClassId) : xw_in c = vp_cell c (61, .inl (fun _ => 0)) := by
  rw [vp_cell_i]
  unfold xw_in
  rw [arrV_new]
theorem xs_mna {i ci pl : Nat} {n k : Int32} (h1 : xa_mt[mid]? = some q) (hcl : xa_in (.classLink q.1.cls i "[[I")) (hac : xa_in (.arrayClass .int)) (hd : decode q.2.1 pc = .ok (.multianewarray i 2, 4)) (hn : n = nI 2) (hk : k = nI 61) (x : xa_P l mid (pc + 4) lv (.ref M.2.1 :: r) (xa_al (xa_al (xa_al M (.inl (4, 2, .inr (.inr (.inr (.inr (fun i => if i < 2 then some (M.2.1 + 1 + i) else none)))))) 2) (.inl (0, 61, .inl (fun _ => 0))) 61) (.inl (0, 61, .inl (fun _ => 0))) 61) res) : xa_P l mid pc lv (.int k :: .int n :: r) M res := by
  subst hn
  subst hk
  obtain ⟨n1, n2, n4, n3⟩ := x
  have n1 : M.2.1 + 1 + 1 + 1 ≤ res.2.2.1 := n1
  have n2 : M.2.2.1 + 2 + 61 + 61 ≤ res.2.2.2.1 := n2
  refine ⟨by omega, by omega, n4, fun q' hq' b0 H0 D cA p e s m args below meth c H locs cells slots sz sl ls hF hK hR hL hl e1 e2 => ?_⟩
  cases h1.symm.trans hq'
  intro T hT X
  have hts := hF.2.2.2.2.2.1
  obtain ⟨vm₁, cB, comp, hW, fA, fC, X', step⟩ := xw_multi X hF.1 hF.2.2.2.2.1 (hts _ (xa_word hcl)) hK.2.1.2.1 (hts _ (xa_word hac)) (g := F0 m pc ls (.int (nI 61) :: .int (nI 2) :: r)) rfl (by rw [hF.2.1]; exact hd) rfl (by show cells + 3 ≤ res.2.2.1 - sz; omega) (by show slots + 124 ≤ res.2.2.2.1 - sl; omega)
  have eA : cB = cA 4 := Option.some.inj (fA.symm.trans (hK.1.2 4 _ rfl).2)
  have eC : comp = cA 0 := Option.some.inj (fC.symm.trans (hK.1.2 0 _ rfl).2)
  subst eA
  subst eC
  obtain ⟨z1, z2, z3, z4, z5, z6⟩ := xw_s3 (T.setVm vm₁) (cA 4) (cA 0)
  have hh : (T.setVm vm₁).heap = H := hT
  rw [hh] at z1 z2 z4 z5 z6
  obtain ⟨r1, r2, r3, r4⟩ := hR
  have hR' : xa_R b0 H0 D cA (xa_al (xa_al (xa_al M (.inl (4, 2, .inr (.inr (.inr (.inr (fun i => if i < 2 then some (M.2.1 + 1 + i) else none)))))) 2) (.inl (0, 61, .inl (fun _ => 0))) 61) (.inl (0, 61, .inl (fun _ => 0))) 61) (xw_t3 (T.setVm vm₁) (cA 4) (cA 0)).heap := by
    refine ⟨by rw [z1, ← r1]; rfl, by rw [z1]; omega, fun y hy => by rw [z6 y (by omega)]; exact r3 y hy, fun a f hf => ?_⟩
    unfold xa_al at hf
    dsimp only at hf
    by_cases c2 : a = M.2.1 + 1 + 1
    · rw [if_pos c2] at hf
      cases hf
      rw [c2, r1]
      exact ⟨by omega, by show (xw_t3 (T.setVm vm₁) (cA 4) (cA 0)).heap[H.size + 1 + 1]? = some (vp_cell _ _); rw [← xw_ic]; exact z5⟩
    · rw [if_neg c2] at hf
      by_cases c1 : a = M.2.1 + 1
      · rw [if_pos c1] at hf
        cases hf
        rw [c1, r1]
        exact ⟨by omega, by show (xw_t3 (T.setVm vm₁) (cA 4) (cA 0)).heap[H.size + 1]? = some (vp_cell _ _); rw [← xw_ic]; exact z4⟩
      · rw [if_neg c1] at hf
        by_cases c0 : a = M.2.1
        · rw [if_pos c0] at hf
          cases hf
          rw [c0, r1]
          exact ⟨r2, by show (xw_t3 (T.setVm vm₁) (cA 4) (cA 0)).heap[H.size]? = some (vp_cell _ _); rw [← xw_oc]; exact z2⟩
        · rw [if_neg c0] at hf
          have h2 := (r4 a f hf).2
          exact ⟨(r4 a f hf).1, h2.kept (z6 a h2.lt)⟩
  have W9 := n3 q h1 b0 H0 D cA p e s m args below meth c _ (locs ++ [⟨T.heap.size, 0⟩] ++ [⟨T.heap.size, 1⟩]) (cells + 3) (slots + 124) sz sl ls hF hK hR' (fun y hy => by
    have hb : b0 ≤ T.heap.size := by rw [hT]; exact r2
    rcases List.mem_append.mp hy with h | h
    · rcases List.mem_append.mp h with h | h
      · exact hL y h
      · rw [List.mem_singleton.mp h]; exact hb
    · rw [List.mem_singleton.mp h]; exact hb) hl (by show _ = M.2.1 + 1 + 1 + 1; omega) (by show _ = M.2.2.1 + 2 + 61 + 61; omega)
  obtain ⟨t, a1, b1⟩ := W9 _ rfl X'
  refine ⟨t, step t ?_, b1⟩
  have e5 : T.heap.size = M.2.1 := by rw [hT]; exact r1.symm
  rw [e5]
  exact a1
end XaMnc
