theorem xl_good {z : xa_MI} (hm : xa_mok z) : GoodIn lw_tbl (xa_ws z) := by
  intro w hw
  rcases List.mem_cons.mp hw with rfl | h
  · exact ⟨hm.1.1, Or.inl rfl⟩
  · have h2 := List.mem_filter.mp h
    exact ⟨h2.1, good_of_word h2.2⟩
/-- the law calls a method of class or model -/
theorem xl_callV {p : Program} {l : Launch} {e : Env} {s : State} {m : MethodId} {below : List Frame} {meth : Method} {c : Code} {b L : Nat} {xs : Nat → Int32} (C0 : lw_At p s m meth c b L xs) {D : va_G} {cA : Nat → ClassId} {M : xa_M} {zr : xa_Z} {m2 i pc n x : Nat} {z : xa_MI} {As fs r st : List Value} {H : Heap} {locs : List Loc} {cells slots : Nat} {Q : State → Prop} {ls : Array Slot}
    (hK : xa_K D cA s.heap.size s.heap M.2.2.2 s) (hR : xa_R s.heap.size s.heap D cA M H) (hz : xa_mt[m2]? = some z) (hli : xa_in (.methodLink R_law i z.1)) (hin : xa_in (.instanceMethod z.1)) (hse : xa_in (.selects z.1.cls z.1 z.1)) (hpar : (parseMethodDescriptor z.1.desc).map (fun d => d.parameters.length) = some n) (hn : As.length = n) (hfit : (lg_sl (.ref x :: As)).length ≤ z.2.2.1) (hb : M.1 x = some (.inr (z.2.2.2.2.1, fs))) (hE : xa_E m2 0 (xa_ent (.ref x :: As)) [] M zr) (h2 : zr.2.2 = M.2)
    (hsz : ls.size = 4) (hst : st = As.reverse ++ .ref x :: r) (hw8 : (r.map fun v => v.category).sum ≤ 8) (hd : decode code pc = .ok (.invokevirtual i, 3)) (hrm : z.2.2.2.2.2 + 1 ≤ 10 ∧ 8 + (z.2.2.1 + 11) + 40 * z.2.2.2.2.2 ≤ 356) (hcs : cells ≤ 600000 ∧ slots ≤ 7302250)
    (kk : ∀ (H1 : Heap) (L1 : List Loc), xa_R s.heap.size s.heap D cA zr.2 H1 → (∀ y ∈ L1, s.heap.size ≤ y.base) → W p l e room_1 s m #[Value.ref b] below meth c H1 (locs ++ L1) cells slots Q (F0 m (pc + 3) ls (zr.1.toList ++ r))) : W p l e room_1 s m #[Value.ref b] below meth c H locs cells slots Q (F0 m pc ls st) := by
  obtain ⟨hx, hbc, hr, hml, hown, hts, hX, hbl, hlocks, hgv⟩ := id C0
  have hm := xa_mt_ok z (List.mem_of_getElem? hz)
  have hM := xa_met (b0 := s.heap.size) (H0 := s.heap) (D := D) (cA := cA) hz hm hfit (xa_sound l hE)
  have e1 : zr.2.2.1 - M.2.1 = 0 := by rw [h2]; exact Nat.sub_self _
  have e2 : zr.2.2.2.1 - M.2.2.1 = 0 := by rw [h2]; exact Nat.sub_self _
  have cw := callB_of (R := room_1) (own := R_law) (index := i) (ws' := lw_tbl.filter goodWord) n hts (xl_good hm) rfl (rm := xa_rm z (zr.2.2.1 - M.2.1) (zr.2.2.2.1 - M.2.2.1)) rfl rfl (hts _ hm.2.1.1) (hts _ hli.1) (xa_hdn hm hpar) hrm
  obtain ⟨⟨C, T, N⟩, hc⟩ : ∃ w, xa_cl[z.2.2.2.2.1]? = some w := by
    cases hq : xa_cl[z.2.2.2.2.1]? with
    | none => have := hm.2.2.2.2.2.2; rw [hq] at this; cases this
    | some w => exact ⟨w, rfl⟩
  have hC : C = z.1.cls := by have := hm.2.2.2.2.2.2; rw [hc] at this; exact Option.some.inj this
  have hrv := va_recv hK.1 (xa_one hR hb) (ci := z.2.2.2.2.1) (q0 := 0) hc rfl
  refine xa_callW (z := zr) (r := r) (va_runV (C := z.1.cls) ⟨hx, hbc, hml, hown, hts⟩ hM ⟨cw, hts _ hin.1, hts _ hse.1⟩ ⟨fun a U g mk x => ⟨x.1, xa_K_same rfl x.2.1, x.2.2⟩, by rw [← hC]; exact hrv, fun U hU hW => ⟨rfl, xa_K_warm hW hK, by rw [hU]; exact hR⟩⟩ rfl hn hsz hst (lv_room hw8) hd ⟨by rw [e1]; exact hcs.1, by rw [e2]; exact hcs.2⟩) (fun H1 L1 a1 a2 => ?_)
  rw [e1, e2]
  exact kk H1 L1 a1 a2
theorem xl_callI {p : Program} {l : Launch} {e : Env} {s : State} {m : MethodId} {below : List Frame} {meth : Method} {c : Code} {b L : Nat} {xs : Nat → Int32} (C0 : lw_At p s m meth c b L xs) {D : va_G} {cA : Nat → ClassId} {M : xa_M} {zr : xa_Z} {m2 i pc x : Nat} {z : xa_MI} {r : List Value} {H : Heap} {locs : List Loc} {cells slots : Nat} {Q : State → Prop} {ls : Array Slot}
    (hK : xa_K D cA s.heap.size s.heap M.2.2.2 s) (hR : xa_R s.heap.size s.heap D cA M H) (hz : xa_mt[m2]? = some z) (hli : xa_in (.methodLink R_law i z.1)) (hin : xa_in (.instanceMethod z.1)) (hnm : z.1.name = "<init>") (hpar : (parseMethodDescriptor z.1.desc).map (fun d => d.parameters.length) = some 0) (hfit : (lg_sl [.ref x]).length ≤ z.2.2.1) (hE : xa_E m2 0 (xa_ent [.ref x]) [] M zr)
    (hsz : ls.size = 4) (hw8 : (r.map fun v => v.category).sum ≤ 8) (hd : decode code pc = .ok (.invokespecial i, 3)) (hrm : z.2.2.2.2.2 + 1 ≤ 10 ∧ 8 + (z.2.2.1 + 11) + 40 * z.2.2.2.2.2 ≤ 356) (hcs : cells + (zr.2.2.1 - M.2.1) ≤ 600000 ∧ slots + (zr.2.2.2.1 - M.2.2.1) ≤ 7302250)
    (kk : ∀ (H1 : Heap) (L1 : List Loc), xa_R s.heap.size s.heap D cA zr.2 H1 → (∀ y ∈ L1, s.heap.size ≤ y.base) → W p l e room_1 s m #[Value.ref b] below meth c H1 (locs ++ L1) (cells + (zr.2.2.1 - M.2.1)) (slots + (zr.2.2.2.1 - M.2.2.1)) Q (F0 m (pc + 3) ls (zr.1.toList ++ r))) : W p l e room_1 s m #[Value.ref b] below meth c H locs cells slots Q (F0 m pc ls (.ref x :: r)) := by
  obtain ⟨hx, hbc, hr, hml, hown, hts, hX, hbl, hlocks, hgv⟩ := id C0
  have hm := xa_mt_ok z (List.mem_of_getElem? hz)
  have hM := xa_met (b0 := s.heap.size) (H0 := s.heap) (D := D) (cA := cA) hz hm hfit (xa_sound l hE)
  have cw := callB_of (R := room_1) (own := R_law) (index := i) (ws' := lw_tbl.filter goodWord) 0 hts (xl_good hm) rfl (rm := xa_rm z (zr.2.2.1 - M.2.1) (zr.2.2.2.1 - M.2.2.1)) rfl rfl (hts _ hm.2.1.1) (hts _ hli.1) (xa_hdn hm hpar) hrm
  have hrt : z.2.2.2.1 = none := xa_rt hz hnm
  rw [hrt] at cw
  exact xa_callW (z := zr) (r := r) (va_runI (As := []) (b := x) ⟨hx, hbc, hml, hown, hts⟩ hM ⟨cw, hnm, hts _ hin.1⟩ ⟨fun a U g mk x => ⟨x.1, xa_K_same rfl x.2.1, x.2.2⟩, fun U hU hW => ⟨rfl, xa_K_warm hW hK, by rw [hU]; exact hR⟩⟩ rfl rfl hsz rfl (lv_room hw8) hd hcs) kk
theorem xl_new {p : Program} {l : Launch} {e : Env} {s : State} {m : MethodId} {below : List Frame} {meth : Method} {c : Code} {b L : Nat} {xs : Nat → Int32} (C0 : lw_At p s m meth c b L xs) {D : va_G} {cA : Nat → ClassId} {M : xa_M} {i pc ci : Nat} {C : String} {T : u_T} {N : Nat} {r : List Value} {H : Heap} {locs : List Loc} {cells slots : Nat} {Q : State → Prop} {ls : Array Slot}
    (hK : xa_K D cA s.heap.size s.heap M.2.2.2 s) (hR : xa_R s.heap.size s.heap D cA M H) (hc : xa_cl[ci]? = some (C, T, N)) (hli : xa_in (.classLink R_law i C)) (hd : decode code pc = .ok (.new i, 3)) (hcs : cells + 1 ≤ 600000 ∧ slots + N ≤ 7302250)
    (kk : ∀ H1 : Heap, xa_R s.heap.size s.heap D cA (xa_al M (.inr (ci, xa_df ci)) (xa_df ci).length) H1 → W p l e room_1 s m #[Value.ref b] below meth c H1 locs (cells + 1) (slots + N) Q (F0 m (pc + 3) ls (.ref M.2.1 :: r))) : W p l e room_1 s m #[Value.ref b] below meth c H locs cells slots Q (F0 m pc ls r) := by
  obtain ⟨hx, hbc, hr, hml, hown, hts, hX, hbl, hlocks, hgv⟩ := id C0
  obtain ⟨o1, o2, o3, o4, o5, o6, o7⟩ := xa_cls_ok hc
  have hKn := hK.1.1 ci _ hc
  refine W.newcK hx hbc hown (hts _ hli.1) (hts _ o6.1) (hts _ o7.1) rfl hd hcs.1 hcs.2 hKn.2.1 rfl fun H1 kC hkC e1 z1 o1' => ?_
  rw [hR.1] at kk
  refine kk H1 (xa_R_new hR ?_ z1 o1')
  exact ⟨_, hc, (u_born (xa_tyf ci) hts (fun w hw => (o1 w hw).1) hKn hkC e1 o2).to o5⟩
theorem xl_S {s : State} {D : va_G} {cA : Nat → ClassId} {M : xa_M} {H : Heap} {locs : List Loc} (hR : xa_R s.heap.size s.heap D cA M H) (hL : ∀ y ∈ locs, s.heap.size ≤ y.base) : va_S (fun q : Nat => s.heap.size ≤ q) s.heap H locs := ⟨hR.2.1, fun q h _ => hR.2.2.1 q h, hL⟩
theorem xh_A_lo {M M1 : xa_M} {b c : Nat} {A : xt_A} (h : xh_A M b A) (f : ∀ q, q < c → M1.1 q = M.1 q) (hc : b + 107 ≤ c) : xh_A M1 b A := by
  have k : ∀ lo hi, hi ≤ b + 107 → xa_sm lo hi M M1 := fun lo hi h a x y => f a (by omega)
  obtain ⟨hO, hX, hT, ⟨T0, hU⟩, hS, ⟨S0, hN⟩, hP, hK, hG, hW⟩ := h
  exact ⟨(f b (by omega)).trans hO, xh_X_sm hX (k _ _ (by omega)), xh_T_sm hT (k _ _ (by omega)), ⟨_, xh_T_sm hU (k _ _ (by omega))⟩, xh_S_sm hS (k _ _ (by omega)), ⟨_, xh_S_sm hN (k _ _ (by omega))⟩, xh_P_sm hP (k _ _ (by omega)), xh_P_sm hK (k _ _ (by omega)), xh_G_sm hG (k _ _ (by omega)), xh_W0_sm hW (k _ _ (by omega))⟩
/-- where class and model stand between two calls of the law -/
def xl_st (s : State) (D : va_G) (cA : Nat → ClassId) (sa : Nat) (M : xa_M) (H : Heap) (locs : List Loc) : Prop := ∃ A : xt_A, xh_A M s.heap.size A ∧ xh_B M (s.heap.size + 107) A ∧ xi_A A ∧ xa_R s.heap.size s.heap D cA M H ∧ M.2.2.2 = sa ∧ ∀ y ∈ locs, s.heap.size ≤ y.base
abbrev xl_lv (b h i : Nat) : List (Nat × Value) := [(0, .ref b), (1, .ref h), (2, .ref (h + 107)), (3, .int (nI i))]
theorem xl_case0 {p : Program} {l : Launch} {e : Env} {s : State} {m : MethodId} {below : List Frame} {meth : Method} {c : Code} {b L : Nat} {xs : Nat → Int32} (C0 : lw_At p s m meth c b L xs) {D : va_G} {cA : Nat → ClassId} {sa i p0 m1 m2 i1 i2 : Nat} {off : Int} {z1 z2 : xa_MI} {M : xa_M} {H : Heap} {locs : List Loc} {Q : State → Prop} {ls : Array Slot}
    (hK : xa_K D cA s.heap.size s.heap sa s) (hst : xl_st s D cA sa M H locs) (hl : lv_has ls 4 (xl_lv b s.heap.size i)) (hi : i + 5 ≤ L) (hL : L ≤ 2560)
    (hJ : ∀ A, xh_A M s.heap.size A → xh_B M (s.heap.size + 107) A → xi_A A → xj m1 m2 s.heap.size (s.heap.size + 107) [] M)
    (g1 : xa_mt[m1]? = some z1) (g1l : xa_in (.methodLink R_law i1 z1.1)) (g1i : xa_in (.instanceMethod z1.1)) (g1s : xa_in (.selects z1.1.cls z1.1 z1.1)) (g1p : (parseMethodDescriptor z1.1.desc).map (fun d => d.parameters.length) = some 0) (g1f : 1 ≤ z1.2.2.1) (g1r : z1.2.2.2.2.2 + 1 ≤ 10 ∧ 8 + (z1.2.2.1 + 11) + 40 * z1.2.2.2.2.2 ≤ 356) (g1c : z1.2.2.2.2.1 = 6)
    (g2 : xa_mt[m2]? = some z2) (g2l : xa_in (.methodLink R_law i2 z2.1)) (g2i : xa_in (.instanceMethod z2.1)) (g2s : xa_in (.selects z2.1.cls z2.1 z2.1)) (g2p : (parseMethodDescriptor z2.1.desc).map (fun d => d.parameters.length) = some 0) (g2f : 1 ≤ z2.2.2.1) (g2r : z2.2.2.2.2.2 + 1 ≤ 10 ∧ 8 + (z2.2.2.1 + 11) + 40 * z2.2.2.2.2.2 ≤ 356) (g2c : z2.2.2.2.2.1 = 7)
    (ha_0 : decode code (p0) = .ok (.aload_n 1, 1)) (ha_v : decode code (p0 + 1) = .ok (.invokevirtual i1, 3)) (hb_0 : decode code (p0 + 4) = .ok (.aload_n 2, 1)) (hb_v : decode code (p0 + 5) = .ok (.invokevirtual i2, 3)) (hj : decode code (p0 + 8) = .ok (.if_icmp .eq off, 3)) (ht : ((p0 + 8 : Nat) : Int) + off = ((887 : Nat) : Int))
    (kk : ∀ (M2 : xa_M) (H2 : Heap) (L2 : List Loc), xl_st s D cA sa M2 H2 L2 → W p l e room_1 s m #[Value.ref b] below meth c H2 L2 117 2819 Q (F0 m 887 ls [])) : W p l e room_1 s m #[Value.ref b] below meth c H locs 117 2819 Q (F0 m p0 ls []) := by
  obtain ⟨hx, hbc, hr, hml, hown, hts, hX, hbl, hlocks, hgv⟩ := id C0
  obtain ⟨A, hA, hB, iA, hR, hsa, hlo⟩ := hst
  have hbA : ¬ (fun q : Nat => s.heap.size ≤ q) b := Nat.not_le.mpr hbl
  have hS := xl_S hR hlo
  obtain ⟨v, M1, M2, A2, e1, e2, f1, f2, ⟨fs, hc7⟩, hA2, hB2, iA2⟩ := hJ A hA hB iA
  have hO := hA.1
  unfold xh_O at hO
  rw [← hsa] at hK
  refine lv_aload_n hx hbc ha_0 rfl (lv_at hl 1 rfl) ?_
  refine xl_callV C0 (x := s.heap.size) (As := []) (r := []) hK hR g1 g1l g1i g1s g1p rfl (by show 1 ≤ _; exact g1f) (by rw [g1c]; exact hO) e1 f1 hl.1 rfl (by decide) ha_v g1r (by decide) (fun H1 L1 hR1 hL1 => ?_)
  have hlo1 : ∀ y ∈ locs ++ L1, s.heap.size ≤ y.base := fun y hy => (List.mem_append.mp hy).elim (hlo y) (hL1 y)
  have hS1 := xl_S hR1 hlo1
  have hK1 : xa_K D cA s.heap.size s.heap M1.2.2.2 s := by rw [show M1.2.2.2 = M.2.2.2 by rw [f1]]; exact hK
  refine lv_aload_n hx hbc hb_0 rfl (lv_at hl 2 rfl) ?_
  refine xl_callV C0 (x := s.heap.size + 107) (As := []) (r := [.int v]) hK1 hR1 g2 g2l g2i g2s g2p rfl (by show 1 ≤ _; exact g2f) (by rw [g2c]; exact hc7) e2 (by show M2.2 = M1.2; rw [f1, f2]) hl.1 rfl (by show (1 : Nat) ≤ 8; decide) hb_v g2r (by decide) (fun H2 L2 hR2 hL2 => ?_)
  refine lv_icmp_eq (tgt := 887) hx hbc hj ht (fun _ => ?_) (fun h => absurd rfl h)
  exact kk M2 H2 _ ⟨A2, hA2, hB2, iA2, hR2, by show M2.2.2.2 = sa; rw [f2]; exact hsa, fun y hy => (List.mem_append.mp hy).elim (hlo1 y) (hL2 y)⟩
theorem xl_case1 {p : Program} {l : Launch} {e : Env} {s : State} {m : MethodId} {below : List Frame} {meth : Method} {c : Code} {b L : Nat} {xs : Nat → Int32} (C0 : lw_At p s m meth c b L xs) {D : va_G} {cA : Nat → ClassId} {sa i p0 m1 m2 i1 i2 : Nat} {off : Int} {z1 z2 : xa_MI} {M : xa_M} {H : Heap} {locs : List Loc} {Q : State → Prop} {ls : Array Slot}
    (hK : xa_K D cA s.heap.size s.heap sa s) (hst : xl_st s D cA sa M H locs) (hl : lv_has ls 4 (xl_lv b s.heap.size i)) (hi : i + 5 ≤ L) (hL : L ≤ 2560)
    (hJ : ∀ A, xh_A M s.heap.size A → xh_B M (s.heap.size + 107) A → xi_A A → xj m1 m2 s.heap.size (s.heap.size + 107) [.int (xs (nI i + nI 1).toNatClampNeg)] M)
    (g1 : xa_mt[m1]? = some z1) (g1l : xa_in (.methodLink R_law i1 z1.1)) (g1i : xa_in (.instanceMethod z1.1)) (g1s : xa_in (.selects z1.1.cls z1.1 z1.1)) (g1p : (parseMethodDescriptor z1.1.desc).map (fun d => d.parameters.length) = some 1) (g1f : 2 ≤ z1.2.2.1) (g1r : z1.2.2.2.2.2 + 1 ≤ 10 ∧ 8 + (z1.2.2.1 + 11) + 40 * z1.2.2.2.2.2 ≤ 356) (g1c : z1.2.2.2.2.1 = 6)
    (g2 : xa_mt[m2]? = some z2) (g2l : xa_in (.methodLink R_law i2 z2.1)) (g2i : xa_in (.instanceMethod z2.1)) (g2s : xa_in (.selects z2.1.cls z2.1 z2.1)) (g2p : (parseMethodDescriptor z2.1.desc).map (fun d => d.parameters.length) = some 1) (g2f : 2 ≤ z2.2.2.1) (g2r : z2.2.2.2.2.2 + 1 ≤ 10 ∧ 8 + (z2.2.2.1 + 11) + 40 * z2.2.2.2.2.2 ≤ 356) (g2c : z2.2.2.2.2.1 = 7)
    (ha_0 : decode code (p0) = .ok (.aload_n 1, 1)) (ha_0_a : decode code (p0 + 1) = .ok (.aload_n 0, 1)) (ha_0_b : decode code (p0 + 2) = .ok (.iload_n 3, 1)) (ha_0_c : decode code (p0 + 3) = .ok (.iconst 1, 1)) (ha_0_d : decode code (p0 + 4) = .ok (.iadd, 1)) (ha_0_e : decode code (p0 + 5) = .ok (.iaload, 1)) (ha_v : decode code (p0 + 6) = .ok (.invokevirtual i1, 3)) (hb_0 : decode code (p0 + 9) = .ok (.aload_n 2, 1)) (hb_0_a : decode code (p0 + 10) = .ok (.aload_n 0, 1)) (hb_0_b : decode code (p0 + 11) = .ok (.iload_n 3, 1)) (hb_0_c : decode code (p0 + 12) = .ok (.iconst 1, 1)) (hb_0_d : decode code (p0 + 13) = .ok (.iadd, 1)) (hb_0_e : decode code (p0 + 14) = .ok (.iaload, 1)) (hb_v : decode code (p0 + 15) = .ok (.invokevirtual i2, 3)) (hj : decode code (p0 + 18) = .ok (.if_icmp .eq off, 3)) (ht : ((p0 + 18 : Nat) : Int) + off = ((887 : Nat) : Int))
    (kk : ∀ (M2 : xa_M) (H2 : Heap) (L2 : List Loc), xl_st s D cA sa M2 H2 L2 → W p l e room_1 s m #[Value.ref b] below meth c H2 L2 117 2819 Q (F0 m 887 ls [])) : W p l e room_1 s m #[Value.ref b] below meth c H locs 117 2819 Q (F0 m p0 ls []) := by
  obtain ⟨hx, hbc, hr, hml, hown, hts, hX, hbl, hlocks, hgv⟩ := id C0
  obtain ⟨A, hA, hB, iA, hR, hsa, hlo⟩ := hst
  have hbA : ¬ (fun q : Nat => s.heap.size ≤ q) b := Nat.not_le.mpr hbl
  have hS := xl_S hR hlo
  obtain ⟨v, M1, M2, A2, e1, e2, f1, f2, ⟨fs, hc7⟩, hA2, hB2, iA2⟩ := hJ A hA hB iA
  have hO := hA.1
  unfold xh_O at hO
  rw [← hsa] at hK
  have in0 : vp_in (nI i + nI 1) L := by rw [nI_add]; exact vp_in_nI (by omega) (by omega)
  refine lv_aload_n hx hbc ha_0 rfl (lv_at hl 1 rfl) ?_
  refine lv_aload_n hx hbc ha_0_a rfl (lv_at hl 0 rfl) ?_
  refine lv_iload_n hx hbc ha_0_b rfl (lv_at hl 3 rfl) ?_
  refine lv_iconst (v := nI 1) hx hbc ha_0_c (by decide) ?_
  refine lv_iadd hx hbc ha_0_d ?_
  refine va_sld hx hbc hX hbl hbA hS in0 ha_0_e ?_
  refine xl_callV C0 (x := s.heap.size) (As := [.int (xs (nI i + nI 1).toNatClampNeg)]) (r := []) hK hR g1 g1l g1i g1s g1p rfl (by show 2 ≤ _; exact g1f) (by rw [g1c]; exact hO) e1 f1 hl.1 rfl (by decide) ha_v g1r (by decide) (fun H1 L1 hR1 hL1 => ?_)
  have hlo1 : ∀ y ∈ locs ++ L1, s.heap.size ≤ y.base := fun y hy => (List.mem_append.mp hy).elim (hlo y) (hL1 y)
  have hS1 := xl_S hR1 hlo1
  have hK1 : xa_K D cA s.heap.size s.heap M1.2.2.2 s := by rw [show M1.2.2.2 = M.2.2.2 by rw [f1]]; exact hK
  refine lv_aload_n hx hbc hb_0 rfl (lv_at hl 2 rfl) ?_
  refine lv_aload_n hx hbc hb_0_a rfl (lv_at hl 0 rfl) ?_
  refine lv_iload_n hx hbc hb_0_b rfl (lv_at hl 3 rfl) ?_
  refine lv_iconst (v := nI 1) hx hbc hb_0_c (by decide) ?_
  refine lv_iadd hx hbc hb_0_d ?_
  refine va_sld hx hbc hX hbl hbA hS1 in0 hb_0_e ?_
  refine xl_callV C0 (x := s.heap.size + 107) (As := [.int (xs (nI i + nI 1).toNatClampNeg)]) (r := [.int v]) hK1 hR1 g2 g2l g2i g2s g2p rfl (by show 2 ≤ _; exact g2f) (by rw [g2c]; exact hc7) e2 (by show M2.2 = M1.2; rw [f1, f2]) hl.1 rfl (by show (1 : Nat) ≤ 8; decide) hb_v g2r (by decide) (fun H2 L2 hR2 hL2 => ?_)
  refine lv_icmp_eq (tgt := 887) hx hbc hj ht (fun _ => ?_) (fun h => absurd rfl h)
  exact kk M2 H2 _ ⟨A2, hA2, hB2, iA2, hR2, by show M2.2.2.2 = sa; rw [f2]; exact hsa, fun y hy => (List.mem_append.mp hy).elim (hlo1 y) (hL2 y)⟩
theorem xl_case2 {p : Program} {l : Launch} {e : Env} {s : State} {m : MethodId} {below : List Frame} {meth : Method} {c : Code} {b L : Nat} {xs : Nat → Int32} (C0 : lw_At p s m meth c b L xs) {D : va_G} {cA : Nat → ClassId} {sa i p0 m1 m2 i1 i2 : Nat} {off : Int} {z1 z2 : xa_MI} {M : xa_M} {H : Heap} {locs : List Loc} {Q : State → Prop} {ls : Array Slot}
    (hK : xa_K D cA s.heap.size s.heap sa s) (hst : xl_st s D cA sa M H locs) (hl : lv_has ls 4 (xl_lv b s.heap.size i)) (hi : i + 5 ≤ L) (hL : L ≤ 2560)
    (hJ : ∀ A, xh_A M s.heap.size A → xh_B M (s.heap.size + 107) A → xi_A A → xj m1 m2 s.heap.size (s.heap.size + 107) [.int (xs (nI i + nI 1).toNatClampNeg), .int (xs (nI i + nI 2).toNatClampNeg)] M)
    (g1 : xa_mt[m1]? = some z1) (g1l : xa_in (.methodLink R_law i1 z1.1)) (g1i : xa_in (.instanceMethod z1.1)) (g1s : xa_in (.selects z1.1.cls z1.1 z1.1)) (g1p : (parseMethodDescriptor z1.1.desc).map (fun d => d.parameters.length) = some 2) (g1f : 3 ≤ z1.2.2.1) (g1r : z1.2.2.2.2.2 + 1 ≤ 10 ∧ 8 + (z1.2.2.1 + 11) + 40 * z1.2.2.2.2.2 ≤ 356) (g1c : z1.2.2.2.2.1 = 6)
    (g2 : xa_mt[m2]? = some z2) (g2l : xa_in (.methodLink R_law i2 z2.1)) (g2i : xa_in (.instanceMethod z2.1)) (g2s : xa_in (.selects z2.1.cls z2.1 z2.1)) (g2p : (parseMethodDescriptor z2.1.desc).map (fun d => d.parameters.length) = some 2) (g2f : 3 ≤ z2.2.2.1) (g2r : z2.2.2.2.2.2 + 1 ≤ 10 ∧ 8 + (z2.2.2.1 + 11) + 40 * z2.2.2.2.2.2 ≤ 356) (g2c : z2.2.2.2.2.1 = 7)
    (ha_0 : decode code (p0) = .ok (.aload_n 1, 1)) (ha_0_a : decode code (p0 + 1) = .ok (.aload_n 0, 1)) (ha_0_b : decode code (p0 + 2) = .ok (.iload_n 3, 1)) (ha_0_c : decode code (p0 + 3) = .ok (.iconst 1, 1)) (ha_0_d : decode code (p0 + 4) = .ok (.iadd, 1)) (ha_0_e : decode code (p0 + 5) = .ok (.iaload, 1)) (ha_1_a : decode code (p0 + 6) = .ok (.aload_n 0, 1)) (ha_1_b : decode code (p0 + 7) = .ok (.iload_n 3, 1)) (ha_1_c : decode code (p0 + 8) = .ok (.iconst 2, 1)) (ha_1_d : decode code (p0 + 9) = .ok (.iadd, 1)) (ha_1_e : decode code (p0 + 10) = .ok (.iaload, 1)) (ha_v : decode code (p0 + 11) = .ok (.invokevirtual i1, 3)) (hb_0 : decode code (p0 + 14) = .ok (.aload_n 2, 1)) (hb_0_a : decode code (p0 + 15) = .ok (.aload_n 0, 1)) (hb_0_b : decode code (p0 + 16) = .ok (.iload_n 3, 1)) (hb_0_c : decode code (p0 + 17) = .ok (.iconst 1, 1)) (hb_0_d : decode code (p0 + 18) = .ok (.iadd, 1)) (hb_0_e : decode code (p0 + 19) = .ok (.iaload, 1)) (hb_1_a : decode code (p0 + 20) = .ok (.aload_n 0, 1)) (hb_1_b : decode code (p0 + 21) = .ok (.iload_n 3, 1)) (hb_1_c : decode code (p0 + 22) = .ok (.iconst 2, 1)) (hb_1_d : decode code (p0 + 23) = .ok (.iadd, 1)) (hb_1_e : decode code (p0 + 24) = .ok (.iaload, 1)) (hb_v : decode code (p0 + 25) = .ok (.invokevirtual i2, 3)) (hj : decode code (p0 + 28) = .ok (.if_icmp .eq off, 3)) (ht : ((p0 + 28 : Nat) : Int) + off = ((887 : Nat) : Int))
    (kk : ∀ (M2 : xa_M) (H2 : Heap) (L2 : List Loc), xl_st s D cA sa M2 H2 L2 → W p l e room_1 s m #[Value.ref b] below meth c H2 L2 117 2819 Q (F0 m 887 ls [])) : W p l e room_1 s m #[Value.ref b] below meth c H locs 117 2819 Q (F0 m p0 ls []) := by
  obtain ⟨hx, hbc, hr, hml, hown, hts, hX, hbl, hlocks, hgv⟩ := id C0
  obtain ⟨A, hA, hB, iA, hR, hsa, hlo⟩ := hst
  have hbA : ¬ (fun q : Nat => s.heap.size ≤ q) b := Nat.not_le.mpr hbl
  have hS := xl_S hR hlo
  obtain ⟨v, M1, M2, A2, e1, e2, f1, f2, ⟨fs, hc7⟩, hA2, hB2, iA2⟩ := hJ A hA hB iA
  have hO := hA.1
  unfold xh_O at hO
  rw [← hsa] at hK
  have in0 : vp_in (nI i + nI 1) L := by rw [nI_add]; exact vp_in_nI (by omega) (by omega)
  have in1 : vp_in (nI i + nI 2) L := by rw [nI_add]; exact vp_in_nI (by omega) (by omega)
  refine lv_aload_n hx hbc ha_0 rfl (lv_at hl 1 rfl) ?_
  refine lv_aload_n hx hbc ha_0_a rfl (lv_at hl 0 rfl) ?_
  refine lv_iload_n hx hbc ha_0_b rfl (lv_at hl 3 rfl) ?_
  refine lv_iconst (v := nI 1) hx hbc ha_0_c (by decide) ?_
  refine lv_iadd hx hbc ha_0_d ?_
  refine va_sld hx hbc hX hbl hbA hS in0 ha_0_e ?_
  refine lv_aload_n hx hbc ha_1_a rfl (lv_at hl 0 rfl) ?_
  refine lv_iload_n hx hbc ha_1_b rfl (lv_at hl 3 rfl) ?_
  refine lv_iconst (v := nI 2) hx hbc ha_1_c (by decide) ?_
  refine lv_iadd hx hbc ha_1_d ?_
  refine va_sld hx hbc hX hbl hbA hS in1 ha_1_e ?_
  refine xl_callV C0 (x := s.heap.size) (As := [.int (xs (nI i + nI 1).toNatClampNeg), .int (xs (nI i + nI 2).toNatClampNeg)]) (r := []) hK hR g1 g1l g1i g1s g1p rfl (by show 3 ≤ _; exact g1f) (by rw [g1c]; exact hO) e1 f1 hl.1 rfl (by decide) ha_v g1r (by decide) (fun H1 L1 hR1 hL1 => ?_)
  have hlo1 : ∀ y ∈ locs ++ L1, s.heap.size ≤ y.base := fun y hy => (List.mem_append.mp hy).elim (hlo y) (hL1 y)
  have hS1 := xl_S hR1 hlo1
  have hK1 : xa_K D cA s.heap.size s.heap M1.2.2.2 s := by rw [show M1.2.2.2 = M.2.2.2 by rw [f1]]; exact hK
  refine lv_aload_n hx hbc hb_0 rfl (lv_at hl 2 rfl) ?_
  refine lv_aload_n hx hbc hb_0_a rfl (lv_at hl 0 rfl) ?_
  refine lv_iload_n hx hbc hb_0_b rfl (lv_at hl 3 rfl) ?_
  refine lv_iconst (v := nI 1) hx hbc hb_0_c (by decide) ?_
  refine lv_iadd hx hbc hb_0_d ?_
  refine va_sld hx hbc hX hbl hbA hS1 in0 hb_0_e ?_
  refine lv_aload_n hx hbc hb_1_a rfl (lv_at hl 0 rfl) ?_
  refine lv_iload_n hx hbc hb_1_b rfl (lv_at hl 3 rfl) ?_
  refine lv_iconst (v := nI 2) hx hbc hb_1_c (by decide) ?_
  refine lv_iadd hx hbc hb_1_d ?_
  refine va_sld hx hbc hX hbl hbA hS1 in1 hb_1_e ?_
  refine xl_callV C0 (x := s.heap.size + 107) (As := [.int (xs (nI i + nI 1).toNatClampNeg), .int (xs (nI i + nI 2).toNatClampNeg)]) (r := [.int v]) hK1 hR1 g2 g2l g2i g2s g2p rfl (by show 3 ≤ _; exact g2f) (by rw [g2c]; exact hc7) e2 (by show M2.2 = M1.2; rw [f1, f2]) hl.1 rfl (by show (1 : Nat) ≤ 8; decide) hb_v g2r (by decide) (fun H2 L2 hR2 hL2 => ?_)
  refine lv_icmp_eq (tgt := 887) hx hbc hj ht (fun _ => ?_) (fun h => absurd rfl h)
  exact kk M2 H2 _ ⟨A2, hA2, hB2, iA2, hR2, by show M2.2.2.2 = sa; rw [f2]; exact hsa, fun y hy => (List.mem_append.mp hy).elim (hlo1 y) (hL2 y)⟩
theorem xl_case3 {p : Program} {l : Launch} {e : Env} {s : State} {m : MethodId} {below : List Frame} {meth : Method} {c : Code} {b L : Nat} {xs : Nat → Int32} (C0 : lw_At p s m meth c b L xs) {D : va_G} {cA : Nat → ClassId} {sa i p0 m1 m2 i1 i2 : Nat} {off : Int} {z1 z2 : xa_MI} {M : xa_M} {H : Heap} {locs : List Loc} {Q : State → Prop} {ls : Array Slot}
    (hK : xa_K D cA s.heap.size s.heap sa s) (hst : xl_st s D cA sa M H locs) (hl : lv_has ls 4 (xl_lv b s.heap.size i)) (hi : i + 5 ≤ L) (hL : L ≤ 2560)
    (hJ : ∀ A, xh_A M s.heap.size A → xh_B M (s.heap.size + 107) A → xi_A A → xj m1 m2 s.heap.size (s.heap.size + 107) [.int (xs (nI i + nI 1).toNatClampNeg), .int (xs (nI i + nI 2).toNatClampNeg), .int (xs (nI i + nI 3).toNatClampNeg)] M)
    (g1 : xa_mt[m1]? = some z1) (g1l : xa_in (.methodLink R_law i1 z1.1)) (g1i : xa_in (.instanceMethod z1.1)) (g1s : xa_in (.selects z1.1.cls z1.1 z1.1)) (g1p : (parseMethodDescriptor z1.1.desc).map (fun d => d.parameters.length) = some 3) (g1f : 4 ≤ z1.2.2.1) (g1r : z1.2.2.2.2.2 + 1 ≤ 10 ∧ 8 + (z1.2.2.1 + 11) + 40 * z1.2.2.2.2.2 ≤ 356) (g1c : z1.2.2.2.2.1 = 6)
    (g2 : xa_mt[m2]? = some z2) (g2l : xa_in (.methodLink R_law i2 z2.1)) (g2i : xa_in (.instanceMethod z2.1)) (g2s : xa_in (.selects z2.1.cls z2.1 z2.1)) (g2p : (parseMethodDescriptor z2.1.desc).map (fun d => d.parameters.length) = some 3) (g2f : 4 ≤ z2.2.2.1) (g2r : z2.2.2.2.2.2 + 1 ≤ 10 ∧ 8 + (z2.2.2.1 + 11) + 40 * z2.2.2.2.2.2 ≤ 356) (g2c : z2.2.2.2.2.1 = 7)
    (ha_0 : decode code (p0) = .ok (.aload_n 1, 1)) (ha_0_a : decode code (p0 + 1) = .ok (.aload_n 0, 1)) (ha_0_b : decode code (p0 + 2) = .ok (.iload_n 3, 1)) (ha_0_c : decode code (p0 + 3) = .ok (.iconst 1, 1)) (ha_0_d : decode code (p0 + 4) = .ok (.iadd, 1)) (ha_0_e : decode code (p0 + 5) = .ok (.iaload, 1)) (ha_1_a : decode code (p0 + 6) = .ok (.aload_n 0, 1)) (ha_1_b : decode code (p0 + 7) = .ok (.iload_n 3, 1)) (ha_1_c : decode code (p0 + 8) = .ok (.iconst 2, 1)) (ha_1_d : decode code (p0 + 9) = .ok (.iadd, 1)) (ha_1_e : decode code (p0 + 10) = .ok (.iaload, 1)) (ha_2_a : decode code (p0 + 11) = .ok (.aload_n 0, 1)) (ha_2_b : decode code (p0 + 12) = .ok (.iload_n 3, 1)) (ha_2_c : decode code (p0 + 13) = .ok (.iconst 3, 1)) (ha_2_d : decode code (p0 + 14) = .ok (.iadd, 1)) (ha_2_e : decode code (p0 + 15) = .ok (.iaload, 1)) (ha_v : decode code (p0 + 16) = .ok (.invokevirtual i1, 3)) (hb_0 : decode code (p0 + 19) = .ok (.aload_n 2, 1)) (hb_0_a : decode code (p0 + 20) = .ok (.aload_n 0, 1)) (hb_0_b : decode code (p0 + 21) = .ok (.iload_n 3, 1)) (hb_0_c : decode code (p0 + 22) = .ok (.iconst 1, 1)) (hb_0_d : decode code (p0 + 23) = .ok (.iadd, 1)) (hb_0_e : decode code (p0 + 24) = .ok (.iaload, 1)) (hb_1_a : decode code (p0 + 25) = .ok (.aload_n 0, 1)) (hb_1_b : decode code (p0 + 26) = .ok (.iload_n 3, 1)) (hb_1_c : decode code (p0 + 27) = .ok (.iconst 2, 1)) (hb_1_d : decode code (p0 + 28) = .ok (.iadd, 1)) (hb_1_e : decode code (p0 + 29) = .ok (.iaload, 1)) (hb_2_a : decode code (p0 + 30) = .ok (.aload_n 0, 1)) (hb_2_b : decode code (p0 + 31) = .ok (.iload_n 3, 1)) (hb_2_c : decode code (p0 + 32) = .ok (.iconst 3, 1)) (hb_2_d : decode code (p0 + 33) = .ok (.iadd, 1)) (hb_2_e : decode code (p0 + 34) = .ok (.iaload, 1)) (hb_v : decode code (p0 + 35) = .ok (.invokevirtual i2, 3)) (hj : decode code (p0 + 38) = .ok (.if_icmp .eq off, 3)) (ht : ((p0 + 38 : Nat) : Int) + off = ((887 : Nat) : Int))
    (kk : ∀ (M2 : xa_M) (H2 : Heap) (L2 : List Loc), xl_st s D cA sa M2 H2 L2 → W p l e room_1 s m #[Value.ref b] below meth c H2 L2 117 2819 Q (F0 m 887 ls [])) : W p l e room_1 s m #[Value.ref b] below meth c H locs 117 2819 Q (F0 m p0 ls []) := by
  obtain ⟨hx, hbc, hr, hml, hown, hts, hX, hbl, hlocks, hgv⟩ := id C0
  obtain ⟨A, hA, hB, iA, hR, hsa, hlo⟩ := hst
  have hbA : ¬ (fun q : Nat => s.heap.size ≤ q) b := Nat.not_le.mpr hbl
  have hS := xl_S hR hlo
  obtain ⟨v, M1, M2, A2, e1, e2, f1, f2, ⟨fs, hc7⟩, hA2, hB2, iA2⟩ := hJ A hA hB iA
  have hO := hA.1
  unfold xh_O at hO
  rw [← hsa] at hK
  have in0 : vp_in (nI i + nI 1) L := by rw [nI_add]; exact vp_in_nI (by omega) (by omega)
  have in1 : vp_in (nI i + nI 2) L := by rw [nI_add]; exact vp_in_nI (by omega) (by omega)
  have in2 : vp_in (nI i + nI 3) L := by rw [nI_add]; exact vp_in_nI (by omega) (by omega)
  refine lv_aload_n hx hbc ha_0 rfl (lv_at hl 1 rfl) ?_
  refine lv_aload_n hx hbc ha_0_a rfl (lv_at hl 0 rfl) ?_
  refine lv_iload_n hx hbc ha_0_b rfl (lv_at hl 3 rfl) ?_
  refine lv_iconst (v := nI 1) hx hbc ha_0_c (by decide) ?_
  refine lv_iadd hx hbc ha_0_d ?_
  refine va_sld hx hbc hX hbl hbA hS in0 ha_0_e ?_
  refine lv_aload_n hx hbc ha_1_a rfl (lv_at hl 0 rfl) ?_
  refine lv_iload_n hx hbc ha_1_b rfl (lv_at hl 3 rfl) ?_
  refine lv_iconst (v := nI 2) hx hbc ha_1_c (by decide) ?_
  refine lv_iadd hx hbc ha_1_d ?_
  refine va_sld hx hbc hX hbl hbA hS in1 ha_1_e ?_
  refine lv_aload_n hx hbc ha_2_a rfl (lv_at hl 0 rfl) ?_
  refine lv_iload_n hx hbc ha_2_b rfl (lv_at hl 3 rfl) ?_
  refine lv_iconst (v := nI 3) hx hbc ha_2_c (by decide) ?_
  refine lv_iadd hx hbc ha_2_d ?_
  refine va_sld hx hbc hX hbl hbA hS in2 ha_2_e ?_
  refine xl_callV C0 (x := s.heap.size) (As := [.int (xs (nI i + nI 1).toNatClampNeg), .int (xs (nI i + nI 2).toNatClampNeg), .int (xs (nI i + nI 3).toNatClampNeg)]) (r := []) hK hR g1 g1l g1i g1s g1p rfl (by show 4 ≤ _; exact g1f) (by rw [g1c]; exact hO) e1 f1 hl.1 rfl (by decide) ha_v g1r (by decide) (fun H1 L1 hR1 hL1 => ?_)
  have hlo1 : ∀ y ∈ locs ++ L1, s.heap.size ≤ y.base := fun y hy => (List.mem_append.mp hy).elim (hlo y) (hL1 y)
  have hS1 := xl_S hR1 hlo1
  have hK1 : xa_K D cA s.heap.size s.heap M1.2.2.2 s := by rw [show M1.2.2.2 = M.2.2.2 by rw [f1]]; exact hK
  refine lv_aload_n hx hbc hb_0 rfl (lv_at hl 2 rfl) ?_
  refine lv_aload_n hx hbc hb_0_a rfl (lv_at hl 0 rfl) ?_
  refine lv_iload_n hx hbc hb_0_b rfl (lv_at hl 3 rfl) ?_
  refine lv_iconst (v := nI 1) hx hbc hb_0_c (by decide) ?_
  refine lv_iadd hx hbc hb_0_d ?_
  refine va_sld hx hbc hX hbl hbA hS1 in0 hb_0_e ?_
  refine lv_aload_n hx hbc hb_1_a rfl (lv_at hl 0 rfl) ?_
  refine lv_iload_n hx hbc hb_1_b rfl (lv_at hl 3 rfl) ?_
  refine lv_iconst (v := nI 2) hx hbc hb_1_c (by decide) ?_
  refine lv_iadd hx hbc hb_1_d ?_
  refine va_sld hx hbc hX hbl hbA hS1 in1 hb_1_e ?_
  refine lv_aload_n hx hbc hb_2_a rfl (lv_at hl 0 rfl) ?_
  refine lv_iload_n hx hbc hb_2_b rfl (lv_at hl 3 rfl) ?_
  refine lv_iconst (v := nI 3) hx hbc hb_2_c (by decide) ?_
  refine lv_iadd hx hbc hb_2_d ?_
  refine va_sld hx hbc hX hbl hbA hS1 in2 hb_2_e ?_
  refine xl_callV C0 (x := s.heap.size + 107) (As := [.int (xs (nI i + nI 1).toNatClampNeg), .int (xs (nI i + nI 2).toNatClampNeg), .int (xs (nI i + nI 3).toNatClampNeg)]) (r := [.int v]) hK1 hR1 g2 g2l g2i g2s g2p rfl (by show 4 ≤ _; exact g2f) (by rw [g2c]; exact hc7) e2 (by show M2.2 = M1.2; rw [f1, f2]) hl.1 rfl (by show (1 : Nat) ≤ 8; decide) hb_v g2r (by decide) (fun H2 L2 hR2 hL2 => ?_)
  refine lv_icmp_eq (tgt := 887) hx hbc hj ht (fun _ => ?_) (fun h => absurd rfl h)
  exact kk M2 H2 _ ⟨A2, hA2, hB2, iA2, hR2, by show M2.2.2.2 = sa; rw [f2]; exact hsa, fun y hy => (List.mem_append.mp hy).elim (hlo1 y) (hL2 y)⟩
theorem xl_case4 {p : Program} {l : Launch} {e : Env} {s : State} {m : MethodId} {below : List Frame} {meth : Method} {c : Code} {b L : Nat} {xs : Nat → Int32} (C0 : lw_At p s m meth c b L xs) {D : va_G} {cA : Nat → ClassId} {sa i p0 m1 m2 i1 i2 : Nat} {off : Int} {z1 z2 : xa_MI} {M : xa_M} {H : Heap} {locs : List Loc} {Q : State → Prop} {ls : Array Slot}
    (hK : xa_K D cA s.heap.size s.heap sa s) (hst : xl_st s D cA sa M H locs) (hl : lv_has ls 4 (xl_lv b s.heap.size i)) (hi : i + 5 ≤ L) (hL : L ≤ 2560)
    (hJ : ∀ A, xh_A M s.heap.size A → xh_B M (s.heap.size + 107) A → xi_A A → xj m1 m2 s.heap.size (s.heap.size + 107) [.int (xs (nI i + nI 1).toNatClampNeg), .int (xs (nI i + nI 2).toNatClampNeg), .int (xs (nI i + nI 3).toNatClampNeg), .int (xs (nI i + nI 4).toNatClampNeg)] M)
    (g1 : xa_mt[m1]? = some z1) (g1l : xa_in (.methodLink R_law i1 z1.1)) (g1i : xa_in (.instanceMethod z1.1)) (g1s : xa_in (.selects z1.1.cls z1.1 z1.1)) (g1p : (parseMethodDescriptor z1.1.desc).map (fun d => d.parameters.length) = some 4) (g1f : 5 ≤ z1.2.2.1) (g1r : z1.2.2.2.2.2 + 1 ≤ 10 ∧ 8 + (z1.2.2.1 + 11) + 40 * z1.2.2.2.2.2 ≤ 356) (g1c : z1.2.2.2.2.1 = 6)
    (g2 : xa_mt[m2]? = some z2) (g2l : xa_in (.methodLink R_law i2 z2.1)) (g2i : xa_in (.instanceMethod z2.1)) (g2s : xa_in (.selects z2.1.cls z2.1 z2.1)) (g2p : (parseMethodDescriptor z2.1.desc).map (fun d => d.parameters.length) = some 4) (g2f : 5 ≤ z2.2.2.1) (g2r : z2.2.2.2.2.2 + 1 ≤ 10 ∧ 8 + (z2.2.2.1 + 11) + 40 * z2.2.2.2.2.2 ≤ 356) (g2c : z2.2.2.2.2.1 = 7)
    (ha_0 : decode code (p0) = .ok (.aload_n 1, 1)) (ha_0_a : decode code (p0 + 1) = .ok (.aload_n 0, 1)) (ha_0_b : decode code (p0 + 2) = .ok (.iload_n 3, 1)) (ha_0_c : decode code (p0 + 3) = .ok (.iconst 1, 1)) (ha_0_d : decode code (p0 + 4) = .ok (.iadd, 1)) (ha_0_e : decode code (p0 + 5) = .ok (.iaload, 1)) (ha_1_a : decode code (p0 + 6) = .ok (.aload_n 0, 1)) (ha_1_b : decode code (p0 + 7) = .ok (.iload_n 3, 1)) (ha_1_c : decode code (p0 + 8) = .ok (.iconst 2, 1)) (ha_1_d : decode code (p0 + 9) = .ok (.iadd, 1)) (ha_1_e : decode code (p0 + 10) = .ok (.iaload, 1)) (ha_2_a : decode code (p0 + 11) = .ok (.aload_n 0, 1)) (ha_2_b : decode code (p0 + 12) = .ok (.iload_n 3, 1)) (ha_2_c : decode code (p0 + 13) = .ok (.iconst 3, 1)) (ha_2_d : decode code (p0 + 14) = .ok (.iadd, 1)) (ha_2_e : decode code (p0 + 15) = .ok (.iaload, 1)) (ha_3_a : decode code (p0 + 16) = .ok (.aload_n 0, 1)) (ha_3_b : decode code (p0 + 17) = .ok (.iload_n 3, 1)) (ha_3_c : decode code (p0 + 18) = .ok (.iconst 4, 1)) (ha_3_d : decode code (p0 + 19) = .ok (.iadd, 1)) (ha_3_e : decode code (p0 + 20) = .ok (.iaload, 1)) (ha_v : decode code (p0 + 21) = .ok (.invokevirtual i1, 3)) (hb_0 : decode code (p0 + 24) = .ok (.aload_n 2, 1)) (hb_0_a : decode code (p0 + 25) = .ok (.aload_n 0, 1)) (hb_0_b : decode code (p0 + 26) = .ok (.iload_n 3, 1)) (hb_0_c : decode code (p0 + 27) = .ok (.iconst 1, 1)) (hb_0_d : decode code (p0 + 28) = .ok (.iadd, 1)) (hb_0_e : decode code (p0 + 29) = .ok (.iaload, 1)) (hb_1_a : decode code (p0 + 30) = .ok (.aload_n 0, 1)) (hb_1_b : decode code (p0 + 31) = .ok (.iload_n 3, 1)) (hb_1_c : decode code (p0 + 32) = .ok (.iconst 2, 1)) (hb_1_d : decode code (p0 + 33) = .ok (.iadd, 1)) (hb_1_e : decode code (p0 + 34) = .ok (.iaload, 1)) (hb_2_a : decode code (p0 + 35) = .ok (.aload_n 0, 1)) (hb_2_b : decode code (p0 + 36) = .ok (.iload_n 3, 1)) (hb_2_c : decode code (p0 + 37) = .ok (.iconst 3, 1)) (hb_2_d : decode code (p0 + 38) = .ok (.iadd, 1)) (hb_2_e : decode code (p0 + 39) = .ok (.iaload, 1)) (hb_3_a : decode code (p0 + 40) = .ok (.aload_n 0, 1)) (hb_3_b : decode code (p0 + 41) = .ok (.iload_n 3, 1)) (hb_3_c : decode code (p0 + 42) = .ok (.iconst 4, 1)) (hb_3_d : decode code (p0 + 43) = .ok (.iadd, 1)) (hb_3_e : decode code (p0 + 44) = .ok (.iaload, 1)) (hb_v : decode code (p0 + 45) = .ok (.invokevirtual i2, 3)) (hj : decode code (p0 + 48) = .ok (.if_icmp .eq off, 3)) (ht : ((p0 + 48 : Nat) : Int) + off = ((887 : Nat) : Int))
    (kk : ∀ (M2 : xa_M) (H2 : Heap) (L2 : List Loc), xl_st s D cA sa M2 H2 L2 → W p l e room_1 s m #[Value.ref b] below meth c H2 L2 117 2819 Q (F0 m 887 ls [])) : W p l e room_1 s m #[Value.ref b] below meth c H locs 117 2819 Q (F0 m p0 ls []) := by
  obtain ⟨hx, hbc, hr, hml, hown, hts, hX, hbl, hlocks, hgv⟩ := id C0
  obtain ⟨A, hA, hB, iA, hR, hsa, hlo⟩ := hst
  have hbA : ¬ (fun q : Nat => s.heap.size ≤ q) b := Nat.not_le.mpr hbl
  have hS := xl_S hR hlo
  obtain ⟨v, M1, M2, A2, e1, e2, f1, f2, ⟨fs, hc7⟩, hA2, hB2, iA2⟩ := hJ A hA hB iA
  have hO := hA.1
  unfold xh_O at hO
  rw [← hsa] at hK
  have in0 : vp_in (nI i + nI 1) L := by rw [nI_add]; exact vp_in_nI (by omega) (by omega)
  have in1 : vp_in (nI i + nI 2) L := by rw [nI_add]; exact vp_in_nI (by omega) (by omega)
  have in2 : vp_in (nI i + nI 3) L := by rw [nI_add]; exact vp_in_nI (by omega) (by omega)
  have in3 : vp_in (nI i + nI 4) L := by rw [nI_add]; exact vp_in_nI (by omega) (by omega)
  refine lv_aload_n hx hbc ha_0 rfl (lv_at hl 1 rfl) ?_
  refine lv_aload_n hx hbc ha_0_a rfl (lv_at hl 0 rfl) ?_
  refine lv_iload_n hx hbc ha_0_b rfl (lv_at hl 3 rfl) ?_
  refine lv_iconst (v := nI 1) hx hbc ha_0_c (by decide) ?_
  refine lv_iadd hx hbc ha_0_d ?_
  refine va_sld hx hbc hX hbl hbA hS in0 ha_0_e ?_
  refine lv_aload_n hx hbc ha_1_a rfl (lv_at hl 0 rfl) ?_
  refine lv_iload_n hx hbc ha_1_b rfl (lv_at hl 3 rfl) ?_
  refine lv_iconst (v := nI 2) hx hbc ha_1_c (by decide) ?_
  refine lv_iadd hx hbc ha_1_d ?_
  refine va_sld hx hbc hX hbl hbA hS in1 ha_1_e ?_
  refine lv_aload_n hx hbc ha_2_a rfl (lv_at hl 0 rfl) ?_
  refine lv_iload_n hx hbc ha_2_b rfl (lv_at hl 3 rfl) ?_
  refine lv_iconst (v := nI 3) hx hbc ha_2_c (by decide) ?_
  refine lv_iadd hx hbc ha_2_d ?_
  refine va_sld hx hbc hX hbl hbA hS in2 ha_2_e ?_
  refine lv_aload_n hx hbc ha_3_a rfl (lv_at hl 0 rfl) ?_
  refine lv_iload_n hx hbc ha_3_b rfl (lv_at hl 3 rfl) ?_
  refine lv_iconst (v := nI 4) hx hbc ha_3_c (by decide) ?_
  refine lv_iadd hx hbc ha_3_d ?_
  refine va_sld hx hbc hX hbl hbA hS in3 ha_3_e ?_
  refine xl_callV C0 (x := s.heap.size) (As := [.int (xs (nI i + nI 1).toNatClampNeg), .int (xs (nI i + nI 2).toNatClampNeg), .int (xs (nI i + nI 3).toNatClampNeg), .int (xs (nI i + nI 4).toNatClampNeg)]) (r := []) hK hR g1 g1l g1i g1s g1p rfl (by show 5 ≤ _; exact g1f) (by rw [g1c]; exact hO) e1 f1 hl.1 rfl (by decide) ha_v g1r (by decide) (fun H1 L1 hR1 hL1 => ?_)
  have hlo1 : ∀ y ∈ locs ++ L1, s.heap.size ≤ y.base := fun y hy => (List.mem_append.mp hy).elim (hlo y) (hL1 y)
  have hS1 := xl_S hR1 hlo1
  have hK1 : xa_K D cA s.heap.size s.heap M1.2.2.2 s := by rw [show M1.2.2.2 = M.2.2.2 by rw [f1]]; exact hK
  refine lv_aload_n hx hbc hb_0 rfl (lv_at hl 2 rfl) ?_
  refine lv_aload_n hx hbc hb_0_a rfl (lv_at hl 0 rfl) ?_
  refine lv_iload_n hx hbc hb_0_b rfl (lv_at hl 3 rfl) ?_
  refine lv_iconst (v := nI 1) hx hbc hb_0_c (by decide) ?_
  refine lv_iadd hx hbc hb_0_d ?_
  refine va_sld hx hbc hX hbl hbA hS1 in0 hb_0_e ?_
  refine lv_aload_n hx hbc hb_1_a rfl (lv_at hl 0 rfl) ?_
  refine lv_iload_n hx hbc hb_1_b rfl (lv_at hl 3 rfl) ?_
  refine lv_iconst (v := nI 2) hx hbc hb_1_c (by decide) ?_
  refine lv_iadd hx hbc hb_1_d ?_
  refine va_sld hx hbc hX hbl hbA hS1 in1 hb_1_e ?_
  refine lv_aload_n hx hbc hb_2_a rfl (lv_at hl 0 rfl) ?_
  refine lv_iload_n hx hbc hb_2_b rfl (lv_at hl 3 rfl) ?_
  refine lv_iconst (v := nI 3) hx hbc hb_2_c (by decide) ?_
  refine lv_iadd hx hbc hb_2_d ?_
  refine va_sld hx hbc hX hbl hbA hS1 in2 hb_2_e ?_
  refine lv_aload_n hx hbc hb_3_a rfl (lv_at hl 0 rfl) ?_
  refine lv_iload_n hx hbc hb_3_b rfl (lv_at hl 3 rfl) ?_
  refine lv_iconst (v := nI 4) hx hbc hb_3_c (by decide) ?_
  refine lv_iadd hx hbc hb_3_d ?_
  refine va_sld hx hbc hX hbl hbA hS1 in3 hb_3_e ?_
  refine xl_callV C0 (x := s.heap.size + 107) (As := [.int (xs (nI i + nI 1).toNatClampNeg), .int (xs (nI i + nI 2).toNatClampNeg), .int (xs (nI i + nI 3).toNatClampNeg), .int (xs (nI i + nI 4).toNatClampNeg)]) (r := [.int v]) hK1 hR1 g2 g2l g2i g2s g2p rfl (by show 5 ≤ _; exact g2f) (by rw [g2c]; exact hc7) e2 (by show M2.2 = M1.2; rw [f1, f2]) hl.1 rfl (by show (1 : Nat) ≤ 8; decide) hb_v g2r (by decide) (fun H2 L2 hR2 hL2 => ?_)
  refine lv_icmp_eq (tgt := 887) hx hbc hj ht (fun _ => ?_) (fun h => absurd rfl h)
  exact kk M2 H2 _ ⟨A2, hA2, hB2, iA2, hR2, by show M2.2.2.2 = sa; rw [f2]; exact hsa, fun y hy => (List.mem_append.mp hy).elim (hlo1 y) (hL2 y)⟩
