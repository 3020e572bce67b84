section XaT
variable {l : Launch} {mid pc : Nat} {lv : xa_L} {st r : List Value} {M : xa_M} {res : xa_Z} {q : xa_MI}
theorem xs_gq {a : Nat} {i : Int32} (h1 : xa_mt[mid]? = some q) (hd : decode q.2.1 pc = .ok (.aaload, 1)) (x : xa_gq M a i (fun v => xa_P l mid (pc + 1) lv (.ref v :: r) M res)) : xa_P l mid pc lv (.int i :: .ref a :: r) M res := by
  unfold xa_gq at x
  split at x
  · rename_i t' n f hc
    obtain ⟨ht, hi, x⟩ := x
    split at x
    · rename_i v hv
      refine xa_stp h1 x rfl (fun {b0 H0 D cA p e R s m args below meth c H locs cells slots Q ls} hF hK hR hL hl _ k' => ?_)
      have hlt : i.toNatClampNeg < n := Nat.not_le.mp fun z => hi (Or.inr z)
      have hcell : H[a]? = some (arrV (cA t') n (fun j => va_rf (f j))) := (hR.2.2.2 a _ hc).2
      have hk := k' ls H locs hl hR hL
      have hread : (arrV (cA t') n (fun j => va_rf (f j))).slots[i.toNatClampNeg]? = some (.ref v) := by rw [arrV_read _ _ hlt, hv]; rfl
      rcases ht with rfl | rfl
      · exact W.aald (v := .ref v) (ty := .object RX2) hF.1 hF.2.1 hcell ((hK.1.2 3 _ rfl).1 n (fun j => va_rf (f j))) rfl (fun z => by cases z) (by rw [arrV_size]; exact hi) hread rfl rfl hd hk
      · exact W.aald (v := .ref v) (ty := .array .int) hF.1 hF.2.1 hcell ((hK.1.2 4 _ rfl).1 n (fun j => va_rf (f j))) rfl (fun z => by cases z) (by rw [arrV_size]; exact hi) hread rfl rfl hd hk
    · exact x.elim
  · exact x.elim
theorem xs_pq {a v : Nat} {i : Int32} (h1 : xa_mt[mid]? = some q) (hd : decode q.2.1 pc = .ok (.aastore, 1)) (x : xa_pq M a i v (fun M2 => xa_P l mid (pc + 1) lv r M2 res)) : xa_P l mid pc lv (.ref v :: .int i :: .ref a :: r) M res := by
  unfold xa_pq at x
  split at x
  · rename_i t' n f hc
    obtain ⟨rfl, hi, ⟨fs, hv⟩, x⟩ := x
    refine xa_stp h1 x rfl (fun {b0 H0 D cA p e R s m args below meth c H locs cells slots Q ls} hF hK hR hL hl _ k' => ?_)
    have hlt : i.toNatClampNeg < n := Nat.not_le.mp fun z => hi (Or.inr z)
    have h0 : ¬ i < 0 := fun z => hi (Or.inl z)
    have hcell : H[a]? = some (arrV (cA 3) n (fun j => va_rf (f j))) := (hR.2.2.2 a _ hc).2
    obtain ⟨r', hr', cellV, g1, g2, g3, -⟩ := (hR.2.2.2 v _ hv).2
    have hcls := (hK.1.1 2 (RX2, TX2, 6) rfl).2
    obtain ⟨kA, comp, k1, k2, k3, -⟩ := (hK.1.2 3 _ rfl).2
    have hcomp : comp = D.1 2 := Option.some.inj (k3.symm.trans hcls.1)
    subst hcomp
    obtain ⟨kC, hkC, -⟩ := id hcls.2
    refine W.aast hF.1 hF.2.1 hcell (fun q h => by cases h) (fun h => by cases h) k1 k2 rfl hkC ⟨h0, by rw [arrV_size]; exact hlt⟩ g1 (fun q h => by rw [g3] at h; cases h) (by rw [g2]; exact hkC) (by rw [g2]; exact va_assign hcls) rfl rfl hd fun H1 e1 z oq => ?_
    refine k' ls H1 _ hl (xa_R_set hR hc ?_ z oq) (fun y hy => ?_)
    · show H1[a]? = some (vp_cell _ _)
      rw [e1]
      rw [vp_cell_q, arrV_store]
      congr 2
      funext j
      by_cases hq : j = i.toNatClampNeg
      · subst hq
        simp [updV, va_up, va_rf]
      · simp [updV, va_up, hq]
    · rcases List.mem_append.mp hy with h | h
      · exact hL y h
      · rw [List.mem_singleton.mp h]
        exact (hR.2.2.2 a _ hc).1
  · exact x.elim
theorem xs_gl {a : Nat} (h1 : xa_mt[mid]? = some q) (hd : decode q.2.1 pc = .ok (.arraylength, 1)) (x : xa_gl M a (fun v => xa_P l mid (pc + 1) lv (.int v :: r) M res)) : xa_P l mid pc lv (.ref a :: r) M res := by
  unfold xa_gl at x
  split at x
  · rename_i t n z hc
    obtain ⟨ht, x⟩ := x
    refine xa_stp h1 x rfl (fun {b0 H0 D cA p e R s m args below meth c H locs cells slots Q ls} hF hK hR hL hl _ k' => ?_)
    have hP := xa_one hR hc
    have hk := k' ls H locs hl hR hL
    rcases ht with rfl | rfl
    · exact va_alen (x := (n, z)) hF.1 hF.2.1 hK.1 hP 0 0 rfl rfl rfl hd hk
    · exact va_alen (x := (n, z)) hF.1 hF.2.1 hK.1 hP 0 3 rfl rfl rfl hd hk
  · exact x.elim
theorem xs_cp {i : Nat} {s0 d : Nat} {sp dp n : Int32} (h1 : xa_mt[mid]? = some q) (hd : decode q.2.1 pc = .ok (.invokestatic i, 3)) (hli : xa_in (.methodLink q.1.cls i arraycopyName)) (hnat : xa_in (.native arraycopyName)) (hsta : xa_in (.static arraycopyName)) (hini : xa_in (.initialized "java/lang/System")) (hw8 : xa_w8 r) (hrk : 0 < q.2.2.2.2.2) (x : xa_cp M s0 sp d dp n (fun M2 => xa_P l mid (pc + 3) lv r M2 res)) : xa_P l mid pc lv (.int n :: .int dp :: .ref d :: .int sp :: .ref s0 :: r) M res := by
  unfold xa_cp at x
  split at x
  · rename_i t0 n0 f t1 n1 g hc0 hc1
    obtain ⟨rfl, rfl, g1, g2, g3, g4, g5, x⟩ := x
    refine xa_stp h1 x rfl (fun {b0 H0 D cA p e R s m args below meth c H locs cells slots Q ls} hF hK hR hL hl hrm k' => ?_)
    have nn : ∀ z : Int32, ¬ z < 0 → z.toInt = (z.toNatClampNeg : Int) := by
      intro z hz
      have hz0 : (0 : Int) ≤ z.toInt := by
        have := Int32.not_lt.mp hz
        simpa using Int32.le_iff_toInt_le.mp this
      show z.toInt = ((z.toInt.toNat : Nat) : Int)
      omega
    intro T hT X
    have hts := hF.2.2.2.2.2.1
    have hd0 : H[s0]? = some (vp_cell (cA 0) (n0, .inl f)) := (hR.2.2.2 s0 _ hc0).2
    have hd1 : H[d]? = some (vp_cell (cA 0) (n1, .inl g)) := (hR.2.2.2 d _ hc1).2
    obtain ⟨-, k0, hk0, cm0, hkk0⟩ := (hK.1.2 0 _ rfl).1 n0 (fun j => .int (f j))
    obtain ⟨-, k1, hk1, cm1, hkk1⟩ := (hK.1.2 0 _ rfl).1 n1 (fun j => .int (g j))
    obtain ⟨vm', X', step⟩ := X.arraycopy hF.1 hF.2.2.2.2.1 (hts _ (xa_word hli)) (hts _ (xa_word hnat)) (hts _ (xa_word hsta)) (hts _ (xa_word hini)) (src := s0) (dst := d) (cs := vp_cell (cA 0) (n0, .inl f)) (cd := vp_cell (cA 0) (n1, .inl g)) (srcPos := sp) (destPos := dp) (n := n) (by rw [hT]; exact hd0) (by rw [hT]; exact hd1)
      (fun _ h => by cases h) (fun _ h => by cases h) (fun h => by cases h) (fun h => by cases h) hk0 hk1 hkk0 hkk1 (by simp [refKind]) g1 g2 g3
      (by rw [nn sp g1, nn n g3]; show ¬ _ > ((arrV (cA 0) n0 (fun j => .int (f j))).slots.size : Int); rw [arrV_size]; omega)
      (by rw [nn dp g2, nn n g3]; show ¬ _ > ((arrV (cA 0) n1 (fun j => .int (g j))).slots.size : Int); rw [arrV_size]; omega)
      (fun vm₁ _ i hi => by
        have e : (vp_cell (cA 0) (n0, .inl f)).slots.getD (sp.toNatClampNeg + i) .null = .int (f (sp.toNatClampNeg + i)) := by
          show (arrV (cA 0) n0 (fun j => .int (f j))).slots.getD _ _ = _
          rw [Array.getD_eq_getD_getElem?, arrV_read _ _ (by omega)]
          rfl
        refine ⟨?_, ?_⟩
        · rw [e]
          rfl
        · rw [e]
          exact trivial)
      (g := F0 m pc ls (.int n :: .int dp :: .ref d :: .int sp :: .ref s0 :: r)) rfl (by rw [hF.2.2.1]; exact hl.1) (rest := r) rfl (by rw [hF.2.1]; exact hd) (by rw [hrm.1]; exact hrk) (by rw [hrm.2.1]; have := hw8; unfold xa_w8 at this; show 2 * 0 + _ + (7 + 11) ≤ _; omega)
    have e1 : copied (vp_cell (cA 0) (n0, .inl f)) (vp_cell (cA 0) (n1, .inl g)) sp dp n = vp_cell (cA 0) (n1, .inl (va_cpy f g sp.toNatClampNeg dp.toNatClampNeg n.toNatClampNeg)) := va_copied (fun z => .int z) (cA 0) (cA 0) f g g4
    rw [e1] at X' step
    have hlt : d < H.size := (Array.getElem?_eq_some_iff.mp hd1).1
    have hheap : ((T.setVm vm').setCell d (vp_cell (cA 0) (n1, .inl (va_cpy f g sp.toNatClampNeg dp.toNatClampNeg n.toNatClampNeg)))).heap = H.setIfInBounds d (vp_cell (cA 0) (n1, .inl (va_cpy f g sp.toNatClampNeg dp.toNatClampNeg n.toNatClampNeg))) := by rw [← hT]; rfl
    have oq : ∀ q : Nat, q ≠ d → (H.setIfInBounds d (vp_cell (cA 0) (n1, .inl (va_cpy f g sp.toNatClampNeg dp.toNatClampNeg n.toNatClampNeg))))[q]? = H[q]? := fun q hq => by simp [Array.getElem?_setIfInBounds, Ne.symm hq]
    obtain ⟨t, a1, b1⟩ := k' ls _ _ hl (xa_R_set hR hc1 (show (H.setIfInBounds d _)[d]? = some _ by simp [Array.getElem?_setIfInBounds, hlt]) (by simp) oq) (fun y hy => by
        rcases List.mem_append.mp hy with h | h
        · exact hL y h
        · obtain ⟨z, -, hz⟩ := List.mem_map.mp h
          rw [← hz]
          exact (hR.2.2.2 d _ hc1).1) _ hheap X'
    exact ⟨t, step t a1, b1⟩
  · exact x.elim
theorem xs_new {i : Nat} (h1 : xa_mt[mid]? = some q) (hm : xa_mok q) {ci pl : Nat} (hf : (xa_nt q.2.2.2.2.1).lookup i = some (ci, pl)) (hci : ci < 8) (hli : ∀ C T N, xa_cl[ci]? = some (C, T, N) → xa_in (.classLink q.1.cls i C)) (hd : decode q.2.1 pc = .ok (.new i, 3)) (x : xa_P l mid (pc + 3) lv (.ref M.2.1 :: st) (xa_al M (.inr (ci, xa_df ci)) (xa_df ci).length) res) : xa_P l mid pc lv st M res := by
  refine xa_sta h1 x (fun {b0 H0 D cA p e R s m args below meth c H locs cells slots Q ls} hF hK hR hl hcs k' => ?_)
  obtain ⟨⟨C, T, N⟩, hc⟩ : ∃ z, xa_cl[ci]? = some z := by
    match ci, hci with
    | 0, _ => exact ⟨_, rfl⟩
    | 1, _ => exact ⟨_, rfl⟩
    | 2, _ => exact ⟨_, rfl⟩
    | 3, _ => exact ⟨_, rfl⟩
    | 4, _ => exact ⟨_, rfl⟩
    | 5, _ => exact ⟨_, rfl⟩
    | 6, _ => exact ⟨_, rfl⟩
    | 7, _ => exact ⟨_, rfl⟩
  obtain ⟨o1, o2, o3, o4, o5, o6, o7⟩ := xa_cls_ok hc
  have o4 : N = (xa_df ci).length := o4
  have hts := hF.2.2.2.2.2.1
  have hKn := hK.1.1 ci _ hc
  rw [← o4] at hcs k'
  refine W.newcK hF.1 hF.2.1 hF.2.2.2.2.1 (hts _ (xa_word (hli C T N hc))) (hts _ (xa_word o6)) (hts _ (xa_word o7)) rfl hd hcs.1 hcs.2 hKn.2.1 rfl fun H1 kC hkC e1 z1 o1' => ?_
  rw [hR.1] at k'
  refine k' H1 (xa_R_new hR ?_ z1 o1')
  exact ⟨_, hc, (u_born (xa_tyf ci) hts (fun w hw => xa_word (o1 w hw)) hKn hkC e1 o2).to o5⟩
theorem xs_newa {t : Nat} {atype : ArrayType} {ty : FieldType} {n : Int32} (h1 : xa_mt[mid]? = some q) (hd : decode q.2.1 pc = .ok (.newarray atype, 2)) (hty : newarray.typeOf atype = ty) (ht : ∀ cA : Nat → ClassId, (xa_tys cA)[t]? = some (cA t, ty)) (hin : xa_in (.arrayClass ty)) (hpr : ∀ (U : State) (cA : ClassId), va_RA U cA ty → U.vm.findClass ("[" ++ ty.toString) = some cA) (hdf : defaultValue ty = .int 0) (hcb : componentBytes ty ≤ 8) (hn : ¬ n < 0) (hn2 : n.toNatClampNeg ≤ 2000) (x : xa_P l mid (pc + 2) lv (.ref M.2.1 :: r) (xa_al M (.inl (t, n.toNatClampNeg, .inl (fun _ => 0))) n.toNatClampNeg) res) : xa_P l mid pc lv (.int n :: r) M res := by
  refine xa_sta h1 x (fun {b0 H0 D cA p e R s m args below meth c H locs cells slots Q ls} hF hK hR hl hcs k' => ?_)
  subst hty
  have hb : n.toNatClampNeg * componentBytes (newarray.typeOf atype) ≤ 536870912 := Nat.le_trans (Nat.mul_le_mul hn2 hcb) (by decide)
  refine va_newaK (g := F0 m pc ls (.int n :: r)) hF.1 hF.2.1 (hF.2.2.2.2.2.1 _ (xa_word hin)) rfl hd rfl hn rfl hb hcs.1 hcs.2 rfl fun H1 cI e1 z1 o1 hAr hNm => ?_
  rw [hR.1] at k'
  refine k' H1 (xa_R_new hR ?_ z1 o1)
  have e : cI = cA t := Option.some.inj (hNm.symm.trans (hpr s (cA t) (hK.1.2 t _ (ht cA)).2))
  subst e
  show H1[H.size]? = some (vp_cell _ _)
  rw [e1, vp_cell_i, hdf]
theorem xs_anew {i : Nat} {n : Int32} (h1 : xa_mt[mid]? = some q) (hd : decode q.2.1 pc = .ok (.anewarray i, 3)) (hli : xa_in (.classLink q.1.cls i RX2)) (hn : ¬ n < 0) (hn2 : n.toNatClampNeg ≤ 2000) (x : xa_P l mid (pc + 3) lv (.ref M.2.1 :: r) (xa_al M (.inl (3, n.toNatClampNeg, .inr (.inr (.inr (.inr (fun _ => none)))))) n.toNatClampNeg) res) : xa_P l mid pc lv (.int n :: r) M res := by
  refine xa_sta h1 x (fun {b0 H0 D cA p e R s m args below meth c H locs cells slots Q ls} hF hK hR hl hcs k' => ?_)
  refine W.anew hF.1 hF.2.1 hF.2.2.2.2.1 (hF.2.2.2.2.2.1 _ (xa_word hli)) (va_AO.use hK.2.1.2.2) rfl hd rfl hn (by omega) hcs.1 hcs.2 fun cI kA comp f1 f2 f3 f4 => ?_
  rw [hR.1] at k'
  generalize hH1 : H.push ({ cls := cI, slots := Array.replicate n.toNatClampNeg .null, vm := .none } : Cell) = H1
  have z1 : H1.size = H.size + 1 := by rw [← hH1, Array.size_push]
  have e1 : H1[H.size]? = some (arrV cI n.toNatClampNeg (fun _ => .null)) := by rw [← hH1, Array.getElem?_push_size, ← arrV_new]
  have o1 : ∀ q : Nat, q < H.size → H1[q]? = H[q]? := fun q hq => by rw [← hH1, Array.getElem?_push, if_neg (Nat.ne_of_lt hq)]
  refine k' H1 (xa_R_new hR ?_ z1 o1)
  obtain ⟨kA', comp', -, -, -, k4⟩ := (hK.1.2 3 _ rfl).2
  have e : cI = cA 3 := Option.some.inj (f1.symm.trans k4)
  subst e
  show H1[H.size]? = some (vp_cell _ _)
  rw [e1, vp_cell_q]
  rfl
/-- what the callee gave, and on -/
theorem xa_callW {b0 : Nat} {H0 : Heap} {D : va_G} {cA : Nat → ClassId} {p : Program} {e : Env} {R : Room} {s : State} {m : MethodId} {args a : Array Value} {below : List Frame} {meth : Method} {c : Code} {H : Heap} {locs : List Loc} {cells slots mc ms : Nat} {Q : State → Prop} {ls : Array Slot} {st0 : List Value} {z : xa_Z} (hr : va_Run p l e R s m args below meth c H locs cells slots mc ms (F0 m pc ls st0) r (xa_Q b0 H0 D cA z a) (fun x => b0 ≤ x))
    (kk : ∀ (H1 : Heap) (L : List Loc), xa_R b0 H0 D cA z.2 H1 → (∀ x ∈ L, b0 ≤ x.base) → W p l e R s m args below meth c H1 (locs ++ L) (cells + mc) (slots + ms) Q (F0 m (pc + 3) ls (z.1.toList ++ r))) : W p l e R s m args below meth c H locs cells slots Q (F0 m pc ls st0) := by
  intro T hT X
  obtain ⟨v, st₀, t, T', L, h0, X', hL, e1, e2, ⟨hv, hR⟩, stp⟩ := hr T hT X
  cases hv
  obtain ⟨t2, a1, b1⟩ := kk T'.heap L (by rw [e1]; exact hR) hL T' rfl X'
  exact ⟨t2, stp t2 a1, b1⟩
/-- the contract of a method, out of the judgement -/
theorem xa_met {b0 : Nat} {H0 : Heap} {D : va_G} {cA : Nat → ClassId} {m2 : Nat} {z : xa_MI} {As : List Value} {zr : xa_Z} (hz : xa_mt[m2]? = some z) (hm : xa_mok z) (hfit : (lg_sl As).length ≤ z.2.2.1) (h : xa_P l m2 0 (xa_ent As) [] M zr) :
    Met l z.1 (xa_ws z) (xa_rm z (zr.2.2.1 - M.2.1) (zr.2.2.2.1 - M.2.2.1)) (fun v U => v = As.toArray ∧ xa_K D cA b0 H0 M.2.2.2 U ∧ xa_R b0 H0 D cA M U.heap) (xa_Q b0 H0 D cA zr) (zr.2.2.1 - M.2.1) (zr.2.2.2.1 - M.2.2.1) (fun x => b0 ≤ x) := by
  refine Met.ofW (cc := z.2.1) (maxL := z.2.2.1) (ret := z.2.2.2.1) hm.2.2.2.1 rfl ?_
  intro p e s m args below meth c s₁ B hml hv
  obtain ⟨rfl, hK, hR⟩ := hv
  have hl := lv_entry As (n := z.2.2.1) hfit
  rw [lg_entry_eq]
  generalize (lg_sl As ++ List.replicate (z.2.2.1 - (lg_sl As).length) Slot.unset).toArray = ls at hl ⊢
  exact h.2.2.2 z hz b0 H0 D cA p e s m _ below meth c s.heap [] 0 0 M.2.1 M.2.2.1 ls ⟨B.exec, B.bytes, hml, B.returns, findClass_of_methodNamed B.named, atoms_spec (ws := xa_ws z) B.pre, B.notSynchronized, (name_of_methodNamed B.named B.method).1⟩ hK hR (fun _ h => by cases h) ⟨hl.1, hl.2.1, fun i v hi => hl.2.2 (i, v) (xa_lkm hi)⟩ rfl rfl
theorem xa_good {z : xa_MI} (hm : xa_mok z) : GoodIn (xa_ws q) (xa_ws z) := by
  intro w hw
  rcases List.mem_cons.mp hw with rfl | h
  · exact ⟨xa_word hm.1, Or.inl rfl⟩
  · have h2 := List.mem_filter.mp h
    exact ⟨List.mem_cons_of_mem _ h, good_of_word h2.2⟩
theorem xa_args_spec {n : Nat} {K : List Value → List Value → Prop} (x : xa_args n st K) : ∃ As r, st = As.reverse ++ r ∧ As.length = n ∧ K As r := by
  unfold xa_args at x
  split at x
  all_goals first | exact x.elim | exact ⟨_, _, rfl, rfl, x⟩
/-- a call -/
theorem xs_call {m2 : Nat} {z : xa_MI} {As : List Value} {zr : xa_Z} (h1 : xa_mt[mid]? = some q) (hz : xa_mt[m2]? = some z) (hm : xa_mok z) (hrk : z.2.2.2.2.2 < q.2.2.2.2.2) (hfit : xa_fit m2 As) (hz1 : xa_P l m2 0 (xa_ent As) [] M zr) (hz2 : xa_P l mid (pc + 3) lv (zr.1.toList ++ r) zr.2 res)
    (hw : ∀ {b0 : Nat} {H0 : Heap} {D : va_G} {cA : Nat → ClassId} {p : Program} {e : Env} {R : Room} {s : State} {m : MethodId} {args : Array Value} {below : List Frame} {meth : Method} {c : Code} {H : Heap} {locs : List Loc} {cells slots : Nat} {ls : Array Slot}, xa_Fx q p s m args meth c → xa_K D cA b0 H0 M.2.2.2 s → xa_R b0 H0 D cA M H → xa_lv ls q.2.2.1 lv →
      Met l z.1 (xa_ws z) (xa_rm z (zr.2.2.1 - M.2.1) (zr.2.2.2.1 - M.2.2.1)) (fun v U => v = As.toArray ∧ xa_K D cA b0 H0 M.2.2.2 U ∧ xa_R b0 H0 D cA M U.heap) (xa_Q b0 H0 D cA zr) (zr.2.2.1 - M.2.1) (zr.2.2.2.1 - M.2.2.1) (fun x => b0 ≤ x) →
      FrameBlind (fun v U => v = As.toArray ∧ xa_K D cA b0 H0 M.2.2.2 U ∧ xa_R b0 H0 D cA M U.heap) → (∀ U : State, U.heap = H → s.WarmedH U.vm → As.toArray = As.toArray ∧ xa_K D cA b0 H0 M.2.2.2 U ∧ xa_R b0 H0 D cA M U.heap) → (z.2.2.2.2.2 + 1 ≤ R.frames ∧ 8 + (z.2.2.1 + 11) + 40 * z.2.2.2.2.2 ≤ R.locals) → (cells + (zr.2.2.1 - M.2.1) ≤ R.cells ∧ slots + (zr.2.2.2.1 - M.2.2.1) ≤ R.slots) →
      va_Run p l e R s m args below meth c H locs cells slots (zr.2.2.1 - M.2.1) (zr.2.2.2.1 - M.2.2.1) (F0 m pc ls st) r (xa_Q b0 H0 D cA zr As.toArray) (fun x => b0 ≤ x)) : xa_P l mid pc lv st M res := by
  obtain ⟨n1, n2, n4, n3⟩ := hz2
  have hz1' := id hz1
  obtain ⟨c1, c2, hsa, -⟩ := hz1'
  have hfit' : (lg_sl As).length ≤ z.2.2.1 := by
    unfold xa_fit xa_mxl at hfit
    rw [hz] at hfit
    exact hfit
  refine ⟨by omega, by omega, n4.trans hsa, fun q' hq' b0 H0 D cA p e s m args below meth c H locs cells slots sz sl ls hF hK hR hL hl e1 e2 => ?_⟩
  cases h1.symm.trans hq'
  refine xa_callW (z := zr) (hw hF hK hR hl (xa_met hz hm hfit' hz1) (fun a U g mk x => ⟨x.1, xa_K_same rfl x.2.1, x.2.2⟩) (fun U hU hW => ⟨rfl, xa_K_warm hW hK, by rw [hU]; exact hR⟩) ⟨by show _ ≤ q.2.2.2.2.2; omega, by have := hm.2.2.2.2.1; show _ ≤ 40 * q.2.2.2.2.2; omega⟩ ⟨by show _ ≤ res.2.2.1 - sz; omega, by show _ ≤ res.2.2.2.1 - sl; omega⟩) (fun H1 L hR1 hL1 => ?_)
  exact n3 q h1 b0 H0 D cA p e s m args below meth c H1 (locs ++ L) _ _ sz sl ls hF (by rw [hsa]; exact hK) hR1 (fun y hy => (List.mem_append.mp hy).elim (hL y) (hL1 y)) hl (by omega) (by omega)
end XaT
