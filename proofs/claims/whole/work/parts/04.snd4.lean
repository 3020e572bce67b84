theorem xa_cst8 {n : Int} (h : -128 ≤ n) (h2 : n ≤ 127) : (Int8.ofInt n).toInt32 = xa_cst n := by
  rw [xa_cst_eq]
  apply Int32.toInt_inj.mp
  rw [Int8.toInt_toInt32, Int8.toInt_ofInt_of_le h (by omega)]
  rw [Int32.toInt_ofInt_of_le (by omega) (by omega)]
theorem xa_cst16 {n : Int} (h : -32768 ≤ n) (h2 : n ≤ 32767) : (Int16.ofInt n).toInt32 = xa_cst n := by
  rw [xa_cst_eq]
  apply Int32.toInt_inj.mp
  rw [Int16.toInt_toInt32, Int16.toInt_ofInt_of_le h (by omega)]
  rw [Int32.toInt_ofInt_of_le (by omega) (by omega)]
def xa_tyq (ci k : Nat) : Bool := (if xa_ty ci k = 0 then decide (xa_tyf ci k = .int) else if xa_ty ci k = 1 then decide (xa_tyf ci k = .boolean) else (match xa_tyf ci k with
  | .array _ => true
  | .object _ => true
  | _ => false))
theorem xa_tyq_ok : ∀ ci, ci < 8 → ∀ k, k < 21 → k < (xa_df ci).length → xa_tyq ci k = true := by decide +kernel
theorem xa_tyc {ci k : Nat} {C : String} {T : u_T} {N : Nat} (g1 : xa_cl[ci]? = some (C, T, N)) (g2 : k < N) : (xa_ty ci k = 0 → xa_tyf ci k = .int) ∧ (xa_ty ci k = 1 → xa_tyf ci k = .boolean) ∧ (¬ xa_ty ci k = 0 → ¬ xa_ty ci k = 1 → (∀ x : Nat, narrow (xa_tyf ci k) (.ref x) = .ref x) ∧ ∀ x : Nat, fits (xa_tyf ci k) (.ref x) = true) := by
  have hci : ci < 8 := (List.getElem?_eq_some_iff.mp g1).1
  have h4 : N = (xa_df ci).length := (xa_cls_ok g1).2.2.2.1
  have hk : k < 21 := by
    have : ∀ c, c < 8 → (xa_df c).length ≤ 21 := by decide +kernel
    have := this ci hci
    omega
  have h := xa_tyq_ok ci hci k hk (by omega)
  unfold xa_tyq at h
  refine ⟨fun c => ?_, fun c => ?_, fun c d => ?_⟩
  · rw [if_pos c] at h; exact of_decide_eq_true h
  · rw [if_neg (by omega), if_pos c] at h; exact of_decide_eq_true h
  · rw [if_neg c, if_neg d] at h
    split at h
    · rename_i t ht
      rw [ht]
      exact ⟨fun _ => rfl, fun _ => rfl⟩
    · rename_i t ht
      rw [ht]
      exact ⟨fun _ => rfl, fun _ => rfl⟩
    · cases h
theorem xa_ct_ok {q : xa_MI} (hm : xa_mok q) {i k m2 n pl p2 p3 : Nat} (h : (xa_ct q.2.2.2.2.1).lookup i = some (k, m2, n, pl, p2, p3)) : ∃ z : xa_MI, xa_mt[m2]? = some z ∧ xa_mok z ∧
    (k = 0 → xa_in (.methodLink q.1.cls i z.1) ∧ xa_in (.instanceMethod z.1) ∧ xa_in (.selects z.1.cls z.1 z.1) ∧ (parseMethodDescriptor z.1.desc).map (fun d => d.parameters.length) = some (n - 1) ∧ 0 < n) ∧
    (k = 1 → xa_in (.methodLink q.1.cls i z.1) ∧ xa_in (.static z.1) ∧ (parseMethodDescriptor z.1.desc).map (fun d => d.parameters.length) = some n) ∧
    (k = 2 → xa_in (.methodLink q.1.cls i z.1) ∧ xa_in (.instanceMethod z.1) ∧ z.1.name = "<init>" ∧ (parseMethodDescriptor z.1.desc).map (fun d => d.parameters.length) = some (n - 1) ∧ 0 < n) ∧
    (k = 3 → Cond.methodLinkNest q.1.cls i z.1 RX6 ∈ lw_tbl ∧ xa_in (.static z.1) ∧ (parseMethodDescriptor z.1.desc).map (fun d => d.parameters.length) = some n) ∧
    (k = 4 → Cond.methodLinkNest q.1.cls i z.1 RX6 ∈ lw_tbl ∧ xa_in (.instanceMethod z.1) ∧ z.1.name = "<init>" ∧ (parseMethodDescriptor z.1.desc).map (fun d => d.parameters.length) = some (n - 1) ∧ 0 < n) ∧
    (k = 5 → xa_in (.methodLink q.1.cls i objectInit)) ∧ (k = 6 → xa_in (.methodLink q.1.cls i Lib.Math.max.name)) ∧ (k = 7 → xa_in (.methodLink q.1.cls i Lib.Math.min.name)) ∧ (k = 8 → xa_in (.methodLink q.1.cls i arraycopyName)) ∧
    (k = 9 → xa_in (.methodLink q.1.cls i ⟨"java/lang/String", "length", "()I"⟩)) ∧ (k = 10 → xa_in (.methodLink q.1.cls i ⟨"java/lang/String", "charAt", "(I)C"⟩)) := by
  have ht := xa_ctt _ _ (xa_lkm h)
  unfold xa_ctc at ht
  dsimp only at ht
  rw [xa_cn_own hm] at ht
  split at ht
  · rename_i z hz
    rw [Bool.and_eq_true, Bool.and_eq_true, Bool.and_eq_true, Bool.and_eq_true, Bool.and_eq_true, Bool.and_eq_true, Bool.and_eq_true, Bool.and_eq_true, Bool.and_eq_true, Bool.and_eq_true] at ht
    obtain ⟨⟨⟨⟨⟨⟨⟨⟨⟨⟨a0, a1⟩, a2⟩, a3⟩, a4⟩, a5⟩, a6⟩, a7⟩, a8⟩, a9⟩, a10⟩ := ht
    have a0 := xa_imp a0
    have a1 := xa_imp a1
    have a2 := xa_imp a2
    have a3 := xa_imp a3
    have a4 := xa_imp a4
    have a5 := xa_imp a5
    have a6 := xa_imp a6
    have a7 := xa_imp a7
    have a8 := xa_imp a8
    have a9 := xa_imp a9
    have a10 := xa_imp a10
    exact ⟨z, hz, xa_mt_ok z (List.mem_of_getElem? hz), fun h => ⟨xa_pl _ (a0 h).1 rfl, xa_pl _ (a0 h).2.1 rfl, xa_pl _ (a0 h).2.2.1 rfl, (a0 h).2.2.2.1, (a0 h).2.2.2.2⟩, fun h => ⟨xa_pl _ (a1 h).1 rfl, xa_pl _ (a1 h).2.1 rfl, (a1 h).2.2⟩, fun h => ⟨xa_pl _ (a2 h).1 rfl, xa_pl _ (a2 h).2.1 rfl, (a2 h).2.2.1, (a2 h).2.2.2.1, (a2 h).2.2.2.2⟩, fun h => ⟨List.mem_of_getElem? (a3 h).1, xa_pl _ (a3 h).2.1 rfl, (a3 h).2.2⟩, fun h => ⟨List.mem_of_getElem? (a4 h).1, xa_pl _ (a4 h).2.1 rfl, (a4 h).2.2.1, (a4 h).2.2.2.1, (a4 h).2.2.2.2⟩, fun h => xa_pl _ (a5 h) rfl, fun h => xa_pl _ (a6 h) rfl, fun h => xa_pl _ (a7 h) rfl, fun h => xa_pl _ (a8 h) rfl, fun h => xa_pl _ (a9 h) rfl, fun h => xa_pl _ (a10 h) rfl⟩
  · cases ht
section XaU
variable {l : Launch} {mid pc : Nat} {lv : xa_L} {st r : List Value} {M : xa_M} {res : xa_Z} {q : xa_MI}
/-- the branch that isn't taken: some target -/
theorem xs_n {o : Int} {st' : List Value} {pc' : Nat} (h1 : xa_mt[mid]? = some q) (ho : 0 ≤ (pc : Int) + o) (hn : xa_P l mid pc' lv st' M res) (hw : ∀ {p : Program} {e : Env} {R : Room} {s : State} {m : MethodId} {args : Array Value} {below : List Frame} {meth : Method} {c : Code} {H : Heap} {locs : List Loc} {cells slots : Nat} {Q : State → Prop} {ls : Array Slot} {tgt : Nat}, (pc : Int) + o = (tgt : Int) → p.tables.exec = Jvm.exec → c.code = q.2.1 → W p l e R s m args below meth c H locs cells slots Q (F0 m pc' ls st') → W p l e R s m args below meth c H locs cells slots Q (F0 m pc ls st)) : xa_P l mid pc lv st M res :=
  xs_p h1 hn (fun hx hb k => hw (tgt := ((pc : Int) + o).toNat) (by omega) hx hb k)
theorem xa_rk {m2 : Nat} {z : xa_MI} (hz : xa_mt[m2]? = some z) (h : xa_rnk m2 < q.2.2.2.2.2) : z.2.2.2.2.2 < q.2.2.2.2.2 := by
  unfold xa_rnk at h
  rw [hz] at h
  exact h
theorem xa_rt_all : ∀ z ∈ xa_mt, z.1.name = "<init>" → z.2.2.2.1 = none := by
  have h : xa_mt.all (fun z => !(z.1.name == "<init>") || decide (z.2.2.2.1 = none)) = true := by decide +kernel
  intro z hz hn
  have := List.all_eq_true.mp h z hz
  rw [hn] at this
  simpa using this
theorem xa_rt {m2 : Nat} {z : xa_MI} (hz : xa_mt[m2]? = some z) (h : z.1.name = "<init>") : z.2.2.2.1 = none := xa_rt_all z (List.mem_of_getElem? hz) h
theorem xa_hdn {z : xa_MI} (hm : xa_mok z) {n : Nat} (h : (parseMethodDescriptor z.1.desc).map (fun d => d.parameters.length) = some n) : z.1.cls ≠ "java/lang/invoke/MethodHandle" ∧ z.1.cls ≠ "java/lang/invoke/VarHandle" ∧ (parseMethodDescriptor z.1.desc).map (fun d => d.parameters.length) = some n := ⟨hm.2.2.1.1, hm.2.2.1.2, h⟩
theorem xs_len {i : Nat} {a : Nat} (h1 : xa_mt[mid]? = some q) (hd : decode q.2.1 pc = .ok (.invokevirtual i, 3)) (hli : xa_in (.methodLink q.1.cls i ⟨"java/lang/String", "length", "()I"⟩)) (hrk : 4 ≤ q.2.2.2.2.2) (ha : a = M.2.2.2) (hw8 : xa_w8 r) (x : xa_P l mid (pc + 3) lv (.int (nI 78) :: r) M res) : xa_P l mid pc lv (.ref a :: r) M res := by
  subst ha
  refine xa_stp h1 x rfl (fun {b0 H0 D cA p e R s m args below meth c H locs cells slots Q ls} hF hK hR hL hl hrm k' => ?_)
  obtain ⟨-, hbz, va, v1, v2, v3, v4, v5, v6⟩ := hK.2
  have hS : xj_S b0 H0 M.2.2.2 va s := ⟨v1, v2, v3, v4, v5, v6⟩
  have hts := hF.2.2.2.2.2.1
  obtain ⟨cellB, k1, k2, k3, -⟩ := v1.kept (H1 := H) (fun x _ h => hR.2.2.1 x (by omega))
  have cw := callB_of (R := R) (own := q.1.cls) (index := i) (ws' := lw_tbl.filter goodWord) 0 hts (xj_good (z := qj_length) xj_clength) rfl (rm := { frames := 1, cells := 0, slots := 0, locals := 40 }) rfl rfl (hts _ (xa_word xj_iS)) (hts _ (xa_word hli)) (by decide +kernel) ⟨by rw [hrm.1]; show 1 + 1 ≤ _; omega, by rw [hrm.2.1]; show 8 + (1 + 11) + 40 ≤ _; omega⟩
  exact xj_call (va_runV (C := "java/lang/String") (As := []) (rest := r) ⟨hF.1, hF.2.1, hF.2.2.1, hF.2.2.2.2.1, hts⟩ (cj_length l b0 M.2.2.2 va H0) ⟨cw, hts _ (xa_word xj_ilength), hts _ (xa_word xj_slength)⟩ ⟨xj_blind, ⟨cellB, k1, k2, k3⟩, xj_pre' hS (fun x h => hR.2.2.1 x h)⟩ rfl rfl hl.1 rfl (lv_room hw8) hd ⟨hrm.2.2.1, hrm.2.2.2⟩) (k' ls H locs hl hR hL)
theorem xs_chr {i : Nat} {a : Nat} {j : Int32} (h1 : xa_mt[mid]? = some q) (hd : decode q.2.1 pc = .ok (.invokevirtual i, 3)) (hli : xa_in (.methodLink q.1.cls i ⟨"java/lang/String", "charAt", "(I)C"⟩)) (hrk : 4 ≤ q.2.2.2.2.2) (ha : a = M.2.2.2) (hj : vp_in j 78) (hw8 : xa_w8 r) (x : xa_P l mid (pc + 3) lv (.int (nI (xa_tx.getD j.toNatClampNeg 0)) :: r) M res) : xa_P l mid pc lv (.int j :: .ref a :: r) M res := by
  subst ha
  obtain ⟨kk, hkk, rfl⟩ := vp_in_of hj (by decide)
  rw [nI_clamp (by omega)] at x
  refine xa_stp h1 x rfl (fun {b0 H0 D cA p e R s m args below meth c H locs cells slots Q ls} hF hK hR hL hl hrm k' => ?_)
  obtain ⟨-, hbz, va, v1, v2, v3, v4, v5, v6⟩ := hK.2
  have hS : xj_S b0 H0 M.2.2.2 va s := ⟨v1, v2, v3, v4, v5, v6⟩
  have hts := hF.2.2.2.2.2.1
  obtain ⟨cellB, k1, k2, k3, -⟩ := v1.kept (H1 := H) (fun x _ h => hR.2.2.1 x (by omega))
  have cw := callB_of (R := R) (own := q.1.cls) (index := i) (ws' := lw_tbl.filter goodWord) 1 hts (xj_good (z := qj_charAt) xj_ccharAt) rfl (rm := { frames := 3, cells := 0, slots := 0, locals := 120 }) rfl rfl (hts _ (xa_word xj_iS)) (hts _ (xa_word hli)) (by decide +kernel) ⟨by rw [hrm.1]; show 3 + 1 ≤ _; omega, by rw [hrm.2.1]; show 8 + (2 + 11) + 120 ≤ _; omega⟩
  exact xj_call (va_runV (C := "java/lang/String") (As := [.int (nI kk)]) (rest := r) ⟨hF.1, hF.2.1, hF.2.2.1, hF.2.2.2.2.1, hts⟩ (cj_charAt l b0 M.2.2.2 va H0 kk hkk) ⟨cw, hts _ (xa_word xj_icharAt), hts _ (xa_word xj_scharAt)⟩ ⟨xj_blind, ⟨cellB, k1, k2, k3⟩, xj_pre' hS (fun x h => hR.2.2.1 x h)⟩ rfl rfl hl.1 rfl (lv_room hw8) hd ⟨hrm.2.2.1, hrm.2.2.2⟩) (k' ls H locs hl hR hL)
theorem xs_invI {i len : Nat} (h1 : xa_mt[mid]? = some q) (hm : xa_mok q) (hd : decode q.2.1 pc = .ok (.invokespecial i, len)) (hok : xa_ok q pc (.invokespecial i) len = true) (x : xa_inv (xa_P l) q (fun k => k == 2 || k == 4 || k == 5) i mid pc lv st M res) : xa_P l mid pc lv st M res := by
  simp only [xa_ok, Bool.and_eq_true, beq_iff_eq] at hok
  obtain ⟨rfl, hok⟩ := hok
  unfold xa_inv at x
  split at x
  · rename_i k m2 n rest hl
    obtain ⟨pl, p2, p3⟩ := rest
    rw [hl] at hok
    dsimp only at hok
    split at x
    · rename_i hk
      obtain ⟨z, hz, hzm, t0, t1, t2, t3, t4, t5, t6, t7, t8, t9, t10⟩ := xa_ct_ok hm hl
      have hk3 : k = 2 ∨ k = 4 ∨ k = 5 := by simpa [or_assoc] using hk
      rcases hk3 with rfl | rfl | rfl
      · simp (decide := true) only [if_true, if_false, decide_eq_true_eq] at hok x
        obtain ⟨As, r, rfl, hn, hrf, hw8, hfit, zr, hz1, hz2⟩ := xa_args_spec x
        obtain ⟨u1, u2, u3, u4, u5⟩ := t2 rfl
        obtain ⟨b, As', rfl⟩ : ∃ (b : Nat) (As' : List Value), As = .ref b :: As' := by
          unfold xa_rf at hrf
          split at hrf
          · exact ⟨_, _, rfl⟩
          · exact hrf.elim
        refine xs_call h1 hz hzm (xa_rk hz hok) hfit hz1 hz2 (fun {b0 H0 D cA p e R s m args below meth c H locs cells slots ls} hF hK hR hl hM hB hU hRm hf => ?_)
        have hts := hF.2.2.2.2.2.1
        have hn2 : As'.length = n - 1 := by rw [← hn]; rfl
        have hst : (Value.ref b :: As').reverse ++ r = As'.reverse ++ .ref b :: r := by simp
        have cw := callB_of (R := R) (own := q.1.cls) (index := i) (ws' := lw_tbl.filter goodWord) (n - 1) hts (xa_good hzm) rfl (rm := xa_rm z (zr.2.2.1 - M.2.1) (zr.2.2.2.1 - M.2.2.1)) rfl rfl (hts _ (xa_word hzm.2.1)) (hts _ (xa_word u1)) (xa_hdn hzm u4) hRm
        have hrt : z.2.2.2.1 = none := xa_rt hz u3
        rw [hrt] at cw
        exact va_runI ⟨hF.1, hF.2.1, hF.2.2.1, hF.2.2.2.2.1, hts⟩ hM ⟨cw, u3, hts _ (xa_word u2)⟩ ⟨hB, hU⟩ rfl hn2 hl.1 hst (lv_room hw8) hd hf
      · simp (decide := true) only [if_true, if_false, decide_eq_true_eq] at hok x
        obtain ⟨As, r, rfl, hn, hrf, hw8, hfit, zr, hz1, hz2⟩ := xa_args_spec x
        obtain ⟨u1, u2, u3, u4, u5⟩ := t4 rfl
        obtain ⟨b, As', rfl⟩ : ∃ (b : Nat) (As' : List Value), As = .ref b :: As' := by
          unfold xa_rf at hrf
          split at hrf
          · exact ⟨_, _, rfl⟩
          · exact hrf.elim
        refine xs_call h1 hz hzm (xa_rk hz hok) hfit hz1 hz2 (fun {b0 H0 D cA p e R s m args below meth c H locs cells slots ls} hF hK hR hl hM hB hU hRm hf => ?_)
        have hts := hF.2.2.2.2.2.1
        have hn2 : As'.length = n - 1 := by rw [← hn]; rfl
        have hst : (Value.ref b :: As').reverse ++ r = As'.reverse ++ .ref b :: r := by simp
        have cw := va_cnB (R := R) (own := q.1.cls) (index := i) (ws' := lw_tbl.filter goodWord) (n - 1) hts (xa_good hzm) rfl (rm := xa_rm z (zr.2.2.1 - M.2.1) (zr.2.2.2.1 - M.2.2.1)) rfl rfl (hK.2.1.1.2 _ _ _ _ u1) (hts _ (xa_word hzm.2.1)) (xa_hdn hzm u4) hRm
        have hrt : z.2.2.2.1 = none := xa_rt hz u3
        rw [hrt] at cw
        exact va_runIN ⟨hF.1, hF.2.1, hF.2.2.1, hF.2.2.2.2.1, hts⟩ hM ⟨cw, u3, hts _ (xa_word u2)⟩ ⟨hB, hU⟩ rfl hn2 hl.1 hst (lv_room hw8) hd hf
      · simp (decide := true) only [if_true, if_false, decide_eq_true_eq] at hok x
        unfold xa_kr at x
        split at x
        · refine xa_stp h1 x.2 rfl (fun hF hK hR hL hl hrm k => ?_)
          have hts := hF.2.2.2.2.2.1
          have hw8 := x.1
          unfold xa_w8 at hw8
          exact W.objInit hF.1 hF.2.1 hF.2.2.2.2.1 (hts _ (xa_word (t5 rfl))) (hts _ (xa_word xa_oi)) (hts _ (xa_word xa_oc)) rfl (by rw [hF.2.2.1]; exact hl.1) rfl hd (by rw [hrm.1]; exact hok) (by rw [hrm.2.1]; show 2 * 0 + _ + 12 ≤ _; omega) (k _ _ _ hl hR hL)
        · exact x.elim
    · exact x.elim
  · exact x.elim
theorem xs_invS {i len : Nat} (h1 : xa_mt[mid]? = some q) (hm : xa_mok q) (hd : decode q.2.1 pc = .ok (.invokestatic i, len)) (hok : xa_ok q pc (.invokestatic i) len = true) (x : xa_inv (xa_P l) q (fun k => k == 1 || k == 3 || k == 6 || k == 7 || k == 8) i mid pc lv st M res) : xa_P l mid pc lv st M res := by
  simp only [xa_ok, Bool.and_eq_true, beq_iff_eq] at hok
  obtain ⟨rfl, hok⟩ := hok
  unfold xa_inv at x
  split at x
  · rename_i k m2 n rest hl
    obtain ⟨pl, p2, p3⟩ := rest
    rw [hl] at hok
    dsimp only at hok
    split at x
    · rename_i hk
      obtain ⟨z, hz, hzm, t0, t1, t2, t3, t4, t5, t6, t7, t8, t9, t10⟩ := xa_ct_ok hm hl
      have hk3 : k = 1 ∨ k = 3 ∨ k = 6 ∨ k = 7 ∨ k = 8 := by simpa [or_assoc] using hk
      rcases hk3 with rfl | rfl | rfl | rfl | rfl
      · simp (decide := true) only [if_true, if_false, decide_eq_true_eq] at hok x
        obtain ⟨As, r, rfl, hn, hw8, hfit, zr, hz1, hz2⟩ := xa_args_spec x
        obtain ⟨u1, u2, u3⟩ := t1 rfl
        refine xs_call h1 hz hzm (xa_rk hz hok) hfit hz1 hz2 (fun {b0 H0 D cA p e R s m args below meth c H locs cells slots ls} hF hK hR hl hM hB hU hRm hf => ?_)
        have hts := hF.2.2.2.2.2.1
        have cw := callB_of (R := R) (own := q.1.cls) (index := i) (ws' := lw_tbl.filter goodWord) n hts (xa_good hzm) rfl (rm := xa_rm z (zr.2.2.1 - M.2.1) (zr.2.2.2.1 - M.2.2.1)) rfl rfl (hts _ (xa_word hzm.2.1)) (hts _ (xa_word u1)) (xa_hdn hzm u3) hRm
        exact va_runS ⟨hF.1, hF.2.1, hF.2.2.1, hF.2.2.2.2.1, hts⟩ hM ⟨cw, hts _ (xa_word u2)⟩ ⟨hB, hU⟩ rfl hn hl.1 rfl (lv_room hw8) hd hf
      · simp (decide := true) only [if_true, if_false, decide_eq_true_eq] at hok x
        obtain ⟨As, r, rfl, hn, hw8, hfit, zr, hz1, hz2⟩ := xa_args_spec x
        obtain ⟨u1, u2, u3⟩ := t3 rfl
        refine xs_call h1 hz hzm (xa_rk hz hok) hfit hz1 hz2 (fun {b0 H0 D cA p e R s m args below meth c H locs cells slots ls} hF hK hR hl hM hB hU hRm hf => ?_)
        have hts := hF.2.2.2.2.2.1
        have cw := va_cnB (R := R) (own := q.1.cls) (index := i) (ws' := lw_tbl.filter goodWord) n hts (xa_good hzm) rfl (rm := xa_rm z (zr.2.2.1 - M.2.1) (zr.2.2.2.1 - M.2.2.1)) rfl rfl (hK.2.1.1.2 _ _ _ _ u1) (hts _ (xa_word hzm.2.1)) (xa_hdn hzm u3) hRm
        exact va_runSN ⟨hF.1, hF.2.1, hF.2.2.1, hF.2.2.2.2.1, hts⟩ hM ⟨cw, hts _ (xa_word u2), trivial⟩ ⟨hB, hU⟩ rfl hn hl.1 rfl (lv_room hw8) hd hf
      · simp (decide := true) only [if_true, if_false, decide_eq_true_eq] at hok x
        unfold xa_kii at x
        split at x
        · refine xa_stp h1 x.2 rfl (fun hF hK hR hL hl hrm k => ?_)
          have hts := hF.2.2.2.2.2.1
          have hw8 := x.1
          unfold xa_w8 at hw8
          exact va_mmax hF.1 hF.2.1 (by rw [hF.2.2.1]; exact hl.1.symm) hF.2.2.2.2.1 (hts _ (xa_word (t6 rfl))) (hts _ (xa_word xa_maxs)) (hts _ (xa_word xa_mi)) (hts _ (xa_word xa_maxc)) (by rw [hrm.1]; exact hok) (by rw [hrm.2.1]; omega) hrm.2.2.1 hrm.2.2.2 hd (k _ _ _ hl hR hL)
        · exact x.elim
      · simp (decide := true) only [if_true, if_false, decide_eq_true_eq] at hok x
        unfold xa_kii at x
        split at x
        · refine xa_stp h1 x.2 rfl (fun hF hK hR hL hl hrm k => ?_)
          have hts := hF.2.2.2.2.2.1
          have hw8 := x.1
          unfold xa_w8 at hw8
          exact va_mmin hF.1 hF.2.1 (by rw [hF.2.2.1]; exact hl.1.symm) hF.2.2.2.2.1 (hts _ (xa_word (t7 rfl))) (hts _ (xa_word xa_mins)) (hts _ (xa_word xa_mi)) (hts _ (xa_word xa_minc)) (by rw [hrm.1]; exact hok) (by rw [hrm.2.1]; omega) hrm.2.2.1 hrm.2.2.2 hd (k _ _ _ hl hR hL)
        · exact x.elim
      · simp (decide := true) only [if_true, if_false, decide_eq_true_eq] at hok x
        unfold xa_kcp at x
        split at x
        · exact xs_cp h1 hd (t8 rfl) xa_acn xa_acs xa_aci x.1 hok x.2
        · exact x.elim
    · exact x.elim
  · exact x.elim
theorem xs_invV {i len : Nat} (h1 : xa_mt[mid]? = some q) (hm : xa_mok q) (hd : decode q.2.1 pc = .ok (.invokevirtual i, len)) (hok : xa_ok q pc (.invokevirtual i) len = true) (x : xa_inv (xa_P l) q (fun k => k == 0 || k == 9 || k == 10) i mid pc lv st M res) : xa_P l mid pc lv st M res := by
  simp only [xa_ok, Bool.and_eq_true, beq_iff_eq] at hok
  obtain ⟨rfl, hok⟩ := hok
  unfold xa_inv at x
  split at x
  · rename_i k m2 n rest hl
    obtain ⟨pl, p2, p3⟩ := rest
    rw [hl] at hok
    dsimp only at hok
    split at x
    · rename_i hk
      obtain ⟨z, hz, hzm, t0, t1, t2, t3, t4, t5, t6, t7, t8, t9, t10⟩ := xa_ct_ok hm hl
      have hk3 : k = 0 ∨ k = 9 ∨ k = 10 := by simpa [or_assoc] using hk
      rcases hk3 with rfl | rfl | rfl
      · simp (decide := true) only [if_true, if_false, decide_eq_true_eq] at hok x
        obtain ⟨As, r, rfl, hn, hrc, hw8, hfit, zr, hz1, hz2⟩ := xa_args_spec x
        obtain ⟨u1, u2, u3, u4, u5⟩ := t0 rfl
        obtain ⟨b, As', fs, rfl, hb⟩ : ∃ (b : Nat) (As' fs : List Value), As = .ref b :: As' ∧ M.1 b = some (.inr (z.2.2.2.2.1, fs)) := by
          unfold xa_rc at hrc
          split at hrc
          · obtain ⟨fs, hfs⟩ := hrc
            refine ⟨_, _, fs, rfl, ?_⟩
            rw [hfs]
            unfold xa_mcl
            rw [hz]
          · exact hrc.elim
        refine xs_call h1 hz hzm (xa_rk hz hok) hfit hz1 hz2 (fun {b0 H0 D cA p e R s m args below meth c H locs cells slots ls} hF hK hR hl hM hB hU hRm hf => ?_)
        have hts := hF.2.2.2.2.2.1
        have hn2 : As'.length = n - 1 := by rw [← hn]; rfl
        have hst : (Value.ref b :: As').reverse ++ r = As'.reverse ++ .ref b :: r := by simp
        have cw := callB_of (R := R) (own := q.1.cls) (index := i) (ws' := lw_tbl.filter goodWord) (n - 1) hts (xa_good hzm) rfl (rm := xa_rm z (zr.2.2.1 - M.2.1) (zr.2.2.2.1 - M.2.2.1)) rfl rfl (hts _ (xa_word hzm.2.1)) (hts _ (xa_word u1)) (xa_hdn hzm u4) hRm
        obtain ⟨⟨C, T, N⟩, hc⟩ : ∃ w, xa_cl[z.2.2.2.2.1]? = some w := by
          cases hq : xa_cl[z.2.2.2.2.1]? with
          | none => have := hzm.2.2.2.2.2.2; rw [hq] at this; cases this
          | some w => exact ⟨w, rfl⟩
        have hC : C = z.1.cls := by have := hzm.2.2.2.2.2.2; rw [hc] at this; exact Option.some.inj this
        have hrv := va_recv hK.1 (xa_one hR hb) (ci := z.2.2.2.2.1) (q0 := 0) hc rfl
        exact va_runV (C := z.1.cls) ⟨hF.1, hF.2.1, hF.2.2.1, hF.2.2.2.2.1, hts⟩ hM ⟨cw, hts _ (xa_word u2), hts _ (xa_word u3)⟩ ⟨hB, by rw [← hC]; exact hrv, hU⟩ rfl hn2 hl.1 hst (lv_room hw8) hd hf
      · simp (decide := true) only [if_true, if_false, decide_eq_true_eq] at hok x
        unfold xa_kr at x
        split at x
        · exact xs_len h1 hd (t9 rfl) hok x.1 x.2.1 x.2.2
        · exact x.elim
      · simp (decide := true) only [if_true, if_false, decide_eq_true_eq] at hok x
        unfold xa_kir at x
        split at x
        · exact xs_chr h1 hd (t10 rfl) hok x.1 x.2.1 x.2.2.1 x.2.2.2
        · exact x.elim
    · exact x.elim
  · exact x.elim
end XaU
set_option maxHeartbeats 4000000 in
theorem xa_sound_step (l : Launch) {mid pc : Nat} {lv : xa_L} {st : List Value} {M : xa_M} {res : xa_Z} (x : xa_F (xa_P l) mid pc lv st M res) : xa_P l mid pc lv st M res := by
  obtain ⟨q, ins, h1, h2, h3⟩ := x
  obtain ⟨len, hd, hok⟩ := xa_fet_spec h2
  have hm : xa_mok q := xa_mt_ok q (List.mem_of_getElem? h1)
  unfold xa_do at h3
  split at h3
  · have e : len = 1 := by simpa [xa_ok] using hok
    subst e
    exact xs_p h1 h3 (fun hx hb k => lv_iconst hx hb hd (xa_cst_eq _).symm k)
  · simp only [xa_ok, Bool.and_eq_true, beq_iff_eq, decide_eq_true_eq] at hok
    obtain ⟨rfl, ha, hb9⟩ := hok
    exact xs_p h1 h3 (fun hx hb k => lv_bipush hx hb hd (xa_cst8 ha hb9) k)
  · simp only [xa_ok, Bool.and_eq_true, beq_iff_eq, decide_eq_true_eq] at hok
    obtain ⟨rfl, ha, hb9⟩ := hok
    exact xs_p h1 h3 (fun hx hb k => lv_sipush hx hb hd (xa_cst16 ha hb9) k)
  · have e : len = 1 := by simpa [xa_ok] using hok
    subst e
    exact xs_p h1 h3 (fun hx hb k => lv_lconst hx hb hd rfl k)
  · have e : len = 3 := by simpa [xa_ok] using hok
    subst e
    split at h3
    · rename_i v pl hl
      have ht := of_decide_eq_true (xa_ltt _ _ (xa_lkm hl))
      rw [xa_cn_own hm] at ht
      exact xa_stp h1 h3 rfl (fun hF _ hR hL hl _ k => lv_ldc2 hF.1 hF.2.1 hF.2.2.2.2.1 (hF.2.2.2.2.2.1 _ (xa_word (xa_pl _ ht rfl))) hd (k _ _ _ hl hR hL))
    · exact h3.elim
  · have e : len = 2 := by simpa [xa_ok] using hok
    subst e
    unfold xa_kli at h3
    split at h3
    · rename_i x hv
      exact xs_load h1 hv h3 (fun hx hb hl k => lv_iload hx hb hd hl k)
    · exact h3.elim
  · have e : len = 1 := by simpa [xa_ok] using hok
    subst e
    unfold xa_kli at h3
    split at h3
    · rename_i x hv
      exact xs_load h1 hv h3 (fun hx hb hl k => lv_iload_n hx hb hd rfl hl k)
    · exact h3.elim
  · have e : len = 1 := by simpa [xa_ok] using hok
    subst e
    unfold xa_klr at h3
    split at h3
    · rename_i x hv
      exact xs_load h1 hv h3 (fun hx hb hl k => lv_aload_n hx hb hd rfl hl k)
    · exact h3.elim
  · have e : len = 2 := by simpa [xa_ok] using hok
    subst e
    unfold xa_kll at h3
    split at h3
    · rename_i x hv
      exact xs_load h1 hv h3 (fun hx hb hl k => lv_lload hx hb hd hl k)
    · exact h3.elim
  · have e : len = 1 := by simpa [xa_ok] using hok
    subst e
    unfold xa_kll at h3
    split at h3
    · rename_i x hv
      exact xs_load h1 hv h3 (fun hx hb hl k => lv_lload_n hx hb hd rfl hl k)
    · exact h3.elim
  · simp only [xa_ok, Bool.and_eq_true, beq_iff_eq, decide_eq_true_eq] at hok
    obtain ⟨rfl, hi⟩ := hok
    unfold xa_ki at h3
    split at h3
    · exact xa_stp h1 h3 rfl (fun hF _ hR hL hl _ k => lv_istore hF.1 hF.2.1 hd (xa_ll_has hl) hi rfl (fun ls' hl' => k ls' _ _ (xa_lv_s1 hl hl') hR hL))
    · exact h3.elim
  · simp only [xa_ok, Bool.and_eq_true, beq_iff_eq, decide_eq_true_eq] at hok
    obtain ⟨rfl, hi⟩ := hok
    unfold xa_ki at h3
    split at h3
    · exact xa_stp h1 h3 rfl (fun hF _ hR hL hl _ k => lv_istore_n hF.1 hF.2.1 hd rfl (xa_ll_has hl) hi rfl (fun ls' hl' => k ls' _ _ (xa_lv_s1 hl hl') hR hL))
    · exact h3.elim
  · simp only [xa_ok, Bool.and_eq_true, beq_iff_eq, decide_eq_true_eq] at hok
    obtain ⟨rfl, hi⟩ := hok
    unfold xa_kr at h3
    split at h3
    · exact xa_stp h1 h3 rfl (fun hF _ hR hL hl _ k => lv_astore_n hF.1 hF.2.1 hd rfl (xa_ll_has hl) hi rfl (fun ls' hl' => k ls' _ _ (xa_lv_s1 hl hl') hR hL))
    · exact h3.elim
  · simp only [xa_ok, Bool.and_eq_true, beq_iff_eq, decide_eq_true_eq] at hok
    obtain ⟨rfl, hi⟩ := hok
    unfold xa_kl at h3
    split at h3
    · exact xa_stp h1 h3 rfl (fun hF _ hR hL hl _ k => lv_lstore hF.1 hF.2.1 hd (xa_ll_has hl) hi rfl (fun ls' hl' => k ls' _ _ (xa_lv_s2 hl hl') hR hL))
    · exact h3.elim
  · simp only [xa_ok, Bool.and_eq_true, beq_iff_eq, decide_eq_true_eq] at hok
    obtain ⟨rfl, hi⟩ := hok
    unfold xa_kl at h3
    split at h3
    · exact xa_stp h1 h3 rfl (fun hF _ hR hL hl _ k => lv_lstore_n hF.1 hF.2.1 hd rfl (xa_ll_has hl) hi rfl (fun ls' hl' => k ls' _ _ (xa_lv_s2 hl hl') hR hL))
    · exact h3.elim
  · simp only [xa_ok, Bool.and_eq_true, beq_iff_eq, decide_eq_true_eq] at hok
    obtain ⟨rfl, hi⟩ := hok
    unfold xa_kli at h3
    split at h3
    · rename_i x hv
      refine xa_stp h1 h3 rfl (fun hF _ hR hL hl _ k => ?_)
      obtain ⟨j, hj⟩ := List.getElem?_of_mem (xa_ll_mem (xa_lv_lt hl hv) hv)
      exact lv_iinc hF.1 hF.2.1 hd (xa_ll_has hl) hj (by rw [xa_cst_eq]) hi rfl (fun ls' hl' => k ls' _ _ (xa_lv_s1 hl hl') hR hL)
    · exact h3.elim
  · have e : len = 1 := by simpa [xa_ok] using hok
    subst e
    unfold xa_kii at h3
    split at h3
    · exact xs_p h1 h3 (fun hx hb k => lv_iadd hx hb hd k)
    · exact h3.elim
  · have e : len = 1 := by simpa [xa_ok] using hok
    subst e
    unfold xa_kii at h3
    split at h3
    · exact xs_p h1 h3 (fun hx hb k => lv_isub hx hb hd k)
    · exact h3.elim
  · have e : len = 1 := by simpa [xa_ok] using hok
    subst e
    unfold xa_kii at h3
    split at h3
    · exact xs_p h1 h3 (fun hx hb k => lv_imul hx hb hd k)
    · exact h3.elim
  · have e : len = 1 := by simpa [xa_ok] using hok
    subst e
    unfold xa_kii at h3
    split at h3
    · exact xs_p h1 h3 (fun hx hb k => lv_iand hx hb hd k)
    · exact h3.elim
  · have e : len = 1 := by simpa [xa_ok] using hok
    subst e
    unfold xa_kii at h3
    split at h3
    · exact xs_p h1 h3 (fun hx hb k => lv_ior hx hb hd k)
    · exact h3.elim
  · have e : len = 1 := by simpa [xa_ok] using hok
    subst e
    unfold xa_kii at h3
    split at h3
    · exact xs_p h1 h3 (fun hx hb k => lv_ixor hx hb hd k)
    · exact h3.elim
  · have e : len = 1 := by simpa [xa_ok] using hok
    subst e
    unfold xa_kii at h3
    split at h3
    · exact xs_p h1 h3 (fun hx hb k => lv_ishl hx hb hd k)
    · exact h3.elim
  · have e : len = 1 := by simpa [xa_ok] using hok
    subst e
    unfold xa_kii at h3
    split at h3
    · exact xs_p h1 h3 (fun hx hb k => lv_ishr hx hb hd k)
    · exact h3.elim
  · have e : len = 1 := by simpa [xa_ok] using hok
    subst e
    unfold xa_kii at h3
    split at h3
    · exact xs_p h1 h3.2 (fun hx hb k => lv_idiv hx hb hd h3.1 k)
    · exact h3.elim
  · have e : len = 1 := by simpa [xa_ok] using hok
    subst e
    unfold xa_kii at h3
    split at h3
    · exact xs_p h1 h3.2 (fun hx hb k => lv_irem hx hb hd h3.1 k)
    · exact h3.elim
  · have e : len = 1 := by simpa [xa_ok] using hok
    subst e
    unfold xa_kk at h3
    split at h3
    · exact xs_p h1 h3 (fun hx hb k => lv_ladd hx hb hd k)
    · exact h3.elim
  · have e : len = 1 := by simpa [xa_ok] using hok
    subst e
    unfold xa_kk at h3
    split at h3
    · exact xs_p h1 h3 (fun hx hb k => lv_lmul hx hb hd k)
    · exact h3.elim
  · have e : len = 1 := by simpa [xa_ok] using hok
    subst e
    unfold xa_kk at h3
    split at h3
    · exact xs_p h1 h3.2 (fun hx hb k => lv_ldiv hx hb hd h3.1 k)
    · exact h3.elim
  · have e : len = 1 := by simpa [xa_ok] using hok
    subst e
    unfold xa_kk at h3
    split at h3
    · exact xs_p h1 h3.2 (fun hx hb k => lv_lrem hx hb hd h3.1 k)
    · exact h3.elim
  · have e : len = 1 := by simpa [xa_ok] using hok
    subst e
    unfold xa_kk at h3
    split at h3
    · exact xs_p h1 h3 (fun hx hb k => W.lcmp hx hb hd k)
    · exact h3.elim
  · have e : len = 1 := by simpa [xa_ok] using hok
    subst e
    unfold xa_ki at h3
    split at h3
    · exact xs_p h1 h3 (fun hx hb k => lv_i2l hx hb hd rfl k)
    · exact h3.elim
  · have e : len = 1 := by simpa [xa_ok] using hok
    subst e
    unfold xa_kl at h3
    split at h3
    · exact xs_p h1 h3 (fun hx hb k => lv_l2i hx hb hd rfl k)
    · exact h3.elim
  · have e : len = 1 := by simpa [xa_ok] using hok
    subst e
    unfold xa_ki at h3
    split at h3
    · exact xs_p h1 h3 (fun hx hb k => lv_i2c hx hb hd rfl k)
    · exact h3.elim
  · have e : len = 1 := by simpa [xa_ok] using hok
    subst e
    unfold xa_kdup at h3
    split at h3
    · exact xs_p h1 h3 (fun hx hb k => lv_dup hx hb hd rfl k)
    · exact xs_p h1 h3 (fun hx hb k => lv_dup hx hb hd rfl k)
    · exact h3.elim
  · have e : len = 1 := by simpa [xa_ok] using hok
    subst e
    unfold xa_kdup2 at h3
    split at h3
    · exact xs_p h1 h3 (fun hx hb k => lv_dup2_11 hx hb hd rfl rfl k)
    · exact h3.elim
  · have e : len = 1 := by simpa [xa_ok] using hok
    subst e
    unfold xa_kdup at h3
    split at h3
    · exact xs_p h1 h3 (fun hx hb k => lv_pop hx hb hd rfl k)
    · exact xs_p h1 h3 (fun hx hb k => lv_pop hx hb hd rfl k)
    · exact h3.elim
  · have e : len = 3 := by simpa [xa_ok] using hok
    subst e
    exact xs_j h1 h3 (fun ht hx hb k => lv_goto hx hb hd ht k)
  · simp only [xa_ok, Bool.and_eq_true, beq_iff_eq, decide_eq_true_eq] at hok
    obtain ⟨rfl, ho⟩ := hok
    unfold xa_ki at h3
    split at h3
    · split at h3
      · rename_i c
        exact xs_j h1 h3 (fun ht hx hb k => lv_if_eq hx hb hd ht (fun _ => k) (fun c2 => absurd c c2))
      · rename_i c
        exact xs_n h1 ho h3 (fun ht hx hb k => lv_if_eq hx hb hd ht (fun c2 => absurd c2 c) (fun _ => k))
    · exact h3.elim
  · simp only [xa_ok, Bool.and_eq_true, beq_iff_eq, decide_eq_true_eq] at hok
    obtain ⟨rfl, ho⟩ := hok
    unfold xa_ki at h3
    split at h3
    · split at h3
      · rename_i c
        exact xs_n h1 ho h3 (fun ht hx hb k => lv_if_ne hx hb hd ht (fun c2 => absurd c c2) (fun _ => k))
      · rename_i c
        exact xs_j h1 h3 (fun ht hx hb k => lv_if_ne hx hb hd ht (fun _ => k) (fun c2 => absurd c2 c))
    · exact h3.elim
  · simp only [xa_ok, Bool.and_eq_true, beq_iff_eq, decide_eq_true_eq] at hok
    obtain ⟨rfl, ho⟩ := hok
    unfold xa_ki at h3
    split at h3
    · split at h3
      · rename_i c
        exact xs_j h1 h3 (fun ht hx hb k => lv_if_lt hx hb hd ht (fun _ => k) (fun c2 => absurd c c2))
      · rename_i c
        exact xs_n h1 ho h3 (fun ht hx hb k => lv_if_lt hx hb hd ht (fun c2 => absurd c2 c) (fun _ => k))
    · exact h3.elim
  · simp only [xa_ok, Bool.and_eq_true, beq_iff_eq, decide_eq_true_eq] at hok
    obtain ⟨rfl, ho⟩ := hok
    unfold xa_ki at h3
    split at h3
    · split at h3
      · rename_i c
        exact xs_j h1 h3 (fun ht hx hb k => lv_if_ge hx hb hd ht (fun _ => k) (fun c2 => absurd c c2))
      · rename_i c
        exact xs_n h1 ho h3 (fun ht hx hb k => lv_if_ge hx hb hd ht (fun c2 => absurd c2 c) (fun _ => k))
    · exact h3.elim
  · simp only [xa_ok, Bool.and_eq_true, beq_iff_eq, decide_eq_true_eq] at hok
    obtain ⟨rfl, ho⟩ := hok
    unfold xa_ki at h3
    split at h3
    · split at h3
      · rename_i c
        exact xs_j h1 h3 (fun ht hx hb k => lv_if_gt hx hb hd ht (fun _ => k) (fun c2 => absurd c c2))
      · rename_i c
        exact xs_n h1 ho h3 (fun ht hx hb k => lv_if_gt hx hb hd ht (fun c2 => absurd c2 c) (fun _ => k))
    · exact h3.elim
  · simp only [xa_ok, Bool.and_eq_true, beq_iff_eq, decide_eq_true_eq] at hok
    obtain ⟨rfl, ho⟩ := hok
    unfold xa_ki at h3
    split at h3
    · split at h3
      · rename_i c
        exact xs_j h1 h3 (fun ht hx hb k => lv_if_le hx hb hd ht (fun _ => k) (fun c2 => absurd c c2))
      · rename_i c
        exact xs_n h1 ho h3 (fun ht hx hb k => lv_if_le hx hb hd ht (fun c2 => absurd c2 c) (fun _ => k))
    · exact h3.elim
  · simp only [xa_ok, Bool.and_eq_true, beq_iff_eq, decide_eq_true_eq] at hok
    obtain ⟨rfl, ho⟩ := hok
    unfold xa_kii at h3
    split at h3
    · split at h3
      · rename_i c
        exact xs_j h1 h3 (fun ht hx hb k => lv_icmp_eq hx hb hd ht (fun _ => k) (fun c2 => absurd c c2))
      · rename_i c
        exact xs_n h1 ho h3 (fun ht hx hb k => lv_icmp_eq hx hb hd ht (fun c2 => absurd c2 c) (fun _ => k))
    · exact h3.elim
  · simp only [xa_ok, Bool.and_eq_true, beq_iff_eq, decide_eq_true_eq] at hok
    obtain ⟨rfl, ho⟩ := hok
    unfold xa_kii at h3
    split at h3
    · split at h3
      · rename_i c
        exact xs_n h1 ho h3 (fun ht hx hb k => lv_icmp_ne hx hb hd ht (fun c2 => absurd c c2) (fun _ => k))
      · rename_i c
        exact xs_j h1 h3 (fun ht hx hb k => lv_icmp_ne hx hb hd ht (fun _ => k) (fun c2 => absurd c2 c))
    · exact h3.elim
  · simp only [xa_ok, Bool.and_eq_true, beq_iff_eq, decide_eq_true_eq] at hok
    obtain ⟨rfl, ho⟩ := hok
    unfold xa_kii at h3
    split at h3
    · split at h3
      · rename_i c
        exact xs_j h1 h3 (fun ht hx hb k => lv_icmp_lt hx hb hd ht (fun _ => k) (fun c2 => absurd c c2))
      · rename_i c
        exact xs_n h1 ho h3 (fun ht hx hb k => lv_icmp_lt hx hb hd ht (fun c2 => absurd c2 c) (fun _ => k))
    · exact h3.elim
  · simp only [xa_ok, Bool.and_eq_true, beq_iff_eq, decide_eq_true_eq] at hok
    obtain ⟨rfl, ho⟩ := hok
    unfold xa_kii at h3
    split at h3
    · split at h3
      · rename_i c
        exact xs_j h1 h3 (fun ht hx hb k => lv_icmp_ge hx hb hd ht (fun _ => k) (fun c2 => absurd c c2))
      · rename_i c
        exact xs_n h1 ho h3 (fun ht hx hb k => lv_icmp_ge hx hb hd ht (fun c2 => absurd c2 c) (fun _ => k))
    · exact h3.elim
  · simp only [xa_ok, Bool.and_eq_true, beq_iff_eq, decide_eq_true_eq] at hok
    obtain ⟨rfl, ho⟩ := hok
    unfold xa_kii at h3
    split at h3
    · split at h3
      · rename_i c
        exact xs_j h1 h3 (fun ht hx hb k => lv_icmp_gt hx hb hd ht (fun _ => k) (fun c2 => absurd c c2))
      · rename_i c
        exact xs_n h1 ho h3 (fun ht hx hb k => lv_icmp_gt hx hb hd ht (fun c2 => absurd c2 c) (fun _ => k))
    · exact h3.elim
  · simp only [xa_ok, Bool.and_eq_true, beq_iff_eq, decide_eq_true_eq] at hok
    obtain ⟨rfl, ho⟩ := hok
    unfold xa_kii at h3
    split at h3
    · split at h3
      · rename_i c
        exact xs_j h1 h3 (fun ht hx hb k => lv_icmp_le hx hb hd ht (fun _ => k) (fun c2 => absurd c c2))
      · rename_i c
        exact xs_n h1 ho h3 (fun ht hx hb k => lv_icmp_le hx hb hd ht (fun c2 => absurd c2 c) (fun _ => k))
    · exact h3.elim
  · unfold xa_ki at h3
    split at h3
    · unfold xa_sw at h3
      split at h3
      · rename_i c
        exact xs_j h1 h3 (fun ht hx hb k => lv_tableOut hx hb hd c ht k)
      · rename_i c
        split at h3
        · rename_i o ho
          exact xs_j h1 h3 (fun ht hx hb k => lv_tableIn hx hb hd (fun z => c (Or.inl z)) (fun z => c (Or.inr z)) ho ht k)
        · exact h3.elim
    · exact h3.elim
  · unfold xa_ki at h3
    split at h3
    · exact xs_j h1 h3 (fun ht hx hb k => lv_lookup hx hb hd hok rfl ht k)
    · exact h3.elim
  · have e : len = 3 := by simpa [xa_ok] using hok
    subst e
    split at h3
    · rename_i ci k pl hl
      unfold xa_kr at h3
      split at h3
      · exact xs_get h1 hm hl hd h3
      · exact h3.elim
    · exact h3.elim
  · simp only [xa_ok, Bool.and_eq_true, beq_iff_eq] at hok
    obtain ⟨rfl, hok⟩ := hok
    split at h3
    · rename_i ci k pl hl
      rw [hl] at hok
      dsimp only at hok
      have hfin : xa_fin ci k = true → q.1.name = "<init>" ∧ ci = q.2.2.2.2.1 := fun hf => by
        rw [if_pos hf] at hok
        simpa using hok
      obtain ⟨C, T, N, g1, g2, -⟩ := xa_fl_ok hm hl
      have hty := xa_tyc g1 g2
      split at h3
      · rename_i c
        rw [c] at hty
        unfold xa_kir at h3
        split at h3
        · exact xs_put h1 hm hl hd hfin (by rw [hty.1 rfl]; rfl) (by rw [hty.1 rfl]; rfl) h3
        · exact h3.elim
      · split at h3
        · rename_i c
          rw [c] at hty
          unfold xa_kir at h3
          split at h3
          · obtain ⟨h01, h3⟩ := h3
            refine xs_put h1 hm hl hd hfin ?_ ?_ h3
            · rw [hty.2.1 rfl]
              rcases h01 with rfl | rfl <;> rfl
            · rw [hty.2.1 rfl]
              rcases h01 with rfl | rfl <;> rfl
          · exact h3.elim
        · rename_i c0 c1
          obtain ⟨t2, t3⟩ := hty.2.2 c0 c1
          unfold xa_krr at h3
          split at h3
          · exact xs_put h1 hm hl hd hfin (t2 _) (t3 _) h3
          · exact h3.elim
    · exact h3.elim
  · have e : len = 1 := by simpa [xa_ok] using hok
    subst e
    unfold xa_kir at h3
    split at h3
    · exact xs_ga (ins := .iaload) h1 h3 (fun hx hb hK hP hi k => va_iald hx hb hK hP 0 0 rfl rfl hi hd k)
    · exact h3.elim
  · have e : len = 1 := by simpa [xa_ok] using hok
    subst e
    unfold xa_kir at h3
    split at h3
    · exact xs_ga (ins := .iaload) h1 h3 (fun hx hb hK hP hi k => va_cald hx hb hK hP 0 1 rfl rfl hi hd k)
    · exact h3.elim
  · have e : len = 1 := by simpa [xa_ok] using hok
    subst e
    unfold xa_kir at h3
    split at h3
    · exact xs_ga (ins := .iaload) h1 h3 (fun hx hb hK hP hi k => va_zald hx hb hK hP 0 2 rfl rfl hi hd k)
    · exact h3.elim
  · have e : len = 1 := by simpa [xa_ok] using hok
    subst e
    unfold xa_kiir at h3
    split at h3
    · refine xs_pa h1 h3 (fun {D cA p e R s m args below meth c H locs cells slots Q ls n f} hx hb hK hc hi k => W.iast hx hb hc ((hK.2 0 _ rfl).1 n _) (fun z => by cases z) (by rw [arrV_size]; exact hi) rfl rfl hd (fun H' e1 e2 e3 => k H' (by first | (rw [e1, arrV_store]; done) | (rw [e1, arrV_store]; rfl)) e2 e3))
    · exact h3.elim
  · have e : len = 1 := by simpa [xa_ok] using hok
    subst e
    unfold xa_kiir at h3
    split at h3
    · refine xs_pa h1 h3 (fun {D cA p e R s m args below meth c H locs cells slots Q ls n f} hx hb hK hc hi k => W.cast hx hb hc ((hK.2 1 _ rfl).1 n _) (fun z => by cases z) (by rw [arrV_size]; exact hi) rfl rfl hd (fun H' e1 e2 e3 => k H' (by first | (rw [e1, arrV_store]; done) | (rw [e1, arrV_store]; rfl)) e2 e3))
    · exact h3.elim
  · have e : len = 1 := by simpa [xa_ok] using hok
    subst e
    unfold xa_kiir at h3
    split at h3
    · refine xs_pa h1 h3 (fun {D cA p e R s m args below meth c H locs cells slots Q ls n f} hx hb hK hc hi k => W.zast hx hb hc ((hK.2 2 _ rfl).1 n _) (fun z => by cases z) (by rw [arrV_size]; exact hi) rfl rfl hd (fun H' e1 e2 e3 => k H' (by first | (rw [e1, arrV_store]; done) | (rw [e1, arrV_store]; rfl)) e2 e3))
    · exact h3.elim
  · have e : len = 1 := by simpa [xa_ok] using hok
    subst e
    unfold xa_kir at h3
    split at h3
    · exact xs_gq h1 hd h3
    · exact h3.elim
  · have e : len = 1 := by simpa [xa_ok] using hok
    subst e
    unfold xa_krir at h3
    split at h3
    · exact xs_pq h1 hd h3
    · exact h3.elim
  · have e : len = 1 := by simpa [xa_ok] using hok
    subst e
    unfold xa_kr at h3
    split at h3
    · exact xs_gl h1 hd h3
    · exact h3.elim
  · simp only [xa_ok, Bool.and_eq_true, beq_iff_eq] at hok
    obtain ⟨rfl, hok⟩ := hok
    split at h3
    · rename_i ci pl hl
      rw [hl] at hok
      have hci : ci < 8 := of_decide_eq_true hok
      have ht := xa_ntt _ _ (xa_lkm hl)
      unfold xa_ntc at ht
      dsimp only at ht
      rw [if_pos hci] at ht
      have ht := of_decide_eq_true ht
      rw [xa_cn_own hm] at ht
      refine xs_new h1 hm hl hci (fun C T N hC => ?_) hd h3
      have e : xa_cn ci = C := by unfold xa_cn; rw [hC]; rfl
      rw [e] at ht
      exact xa_pl _ ht rfl
    · exact h3.elim
  · have e : len = 2 := by simpa [xa_ok] using hok
    subst e
    unfold xa_ki at h3
    split at h3
    · exact xs_newa h1 hd (ty := .int) rfl (fun _ => rfl) xa_ac_int (fun _ _ h => h) rfl (by decide) h3.1 h3.2.1 h3.2.2
    · exact h3.elim
  · have e : len = 2 := by simpa [xa_ok] using hok
    subst e
    unfold xa_ki at h3
    split at h3
    · exact xs_newa h1 hd (ty := .char) rfl (fun _ => rfl) xa_ac_char (fun _ _ h => h) rfl (by decide) h3.1 h3.2.1 h3.2.2
    · exact h3.elim
  · have e : len = 2 := by simpa [xa_ok] using hok
    subst e
    unfold xa_ki at h3
    split at h3
    · exact xs_newa h1 hd (ty := .boolean) rfl (fun _ => rfl) xa_ac_boolean (fun _ _ h => h) rfl (by decide) h3.1 h3.2.1 h3.2.2
    · exact h3.elim
  · have e : len = 3 := by simpa [xa_ok] using hok
    subst e
    split at h3
    · rename_i ci pl hl
      have ht := xa_ntt _ _ (xa_lkm hl)
      unfold xa_ki at h3
      split at h3
      · obtain ⟨rfl, h31, h32, h33⟩ := h3
        have ht := of_decide_eq_true ht
        rw [xa_cn_own hm] at ht
        exact xs_anew h1 hd (xa_pl _ ht rfl) h31 h32 h33
      · exact h3.elim
    · exact h3.elim
  · simp only [xa_ok, Bool.and_eq_true, beq_iff_eq] at hok
    obtain ⟨rfl, hok⟩ := hok
    split at h3
    · rename_i ci pl hl
      rw [hl] at hok
      have hci : ¬ ci < 8 := by simpa using hok
      have ht := xa_ntt _ _ (xa_lkm hl)
      unfold xa_ntc at ht
      dsimp only at ht
      rw [if_neg hci] at ht
      have ht := of_decide_eq_true ht
      rw [xa_cn_own hm] at ht
      unfold xa_kii at h3
      split at h3
      · exact xs_mna (ci := ci) (pl := pl) h1 (xa_pl _ ht rfl) xa_ac_int hd h3.1.1 h3.1.2 h3.2
      · exact h3.elim
    · exact h3.elim
  · have e : len = 2 := by simpa [xa_ok] using hok
    subst e
    obtain ⟨⟨h61, rfl⟩, h3⟩ := h3
    have hcn : q.1.cls = RX6 := by
      have := hm.2.2.2.2.2.2
      rw [h61] at this
      exact (Option.some.inj this).symm
    exact xa_stp h1 h3 rfl (fun hF hK hR hL hl _ k => va_ldcS hF.1 hF.2.1 (by rw [← hcn]; exact hF.2.2.2.2.1) hK.2.1.1.1 hd (k _ _ _ hl hR hL))
  · exact xs_invI h1 hm hd hok h3
  · exact xs_invS h1 hm hd hok h3
  · exact xs_invV h1 hm hd hok h3
  · have e : len = 1 := by simpa [xa_ok] using hok
    subst e
    split at h3
    · split at h3
      · rename_i c
        subst h3
        exact ⟨Nat.le_refl _, Nat.le_refl _, rfl, fun q' hq' b0 H0 D cA p e s m args below meth c0 H locs cells slots sz sl ls hF hK hR hL hl e1 e2 => by
          cases h1.symm.trans hq'
          have z1 : M.2.1 - sz = cells := by omega
          have z2 : M.2.2.1 - sl = slots := by omega
          show W p l e (xa_rm q (M.2.1 - sz) (M.2.2.1 - sl)) s m args below meth c0 H locs cells slots (MQ below _ args s (M.2.1 - sz) (M.2.2.1 - sl) _) _
          rw [z1, z2]
          exact W.iret hF.1 hF.2.1 (by rw [hF.2.2.2.1, c]) (fun t ht hW => ⟨rfl, by rw [ht]; exact hR⟩) hL hd (hlocks := hF.2.2.2.2.2.2.1)⟩
      · rename_i c
        obtain ⟨c, h01, h3⟩ := h3
        subst h3
        exact ⟨Nat.le_refl _, Nat.le_refl _, rfl, fun q' hq' b0 H0 D cA p e s m args below meth c0 H locs cells slots sz sl ls hF hK hR hL hl e1 e2 => by
          cases h1.symm.trans hq'
          have z1 : M.2.1 - sz = cells := by omega
          have z2 : M.2.2.1 - sl = slots := by omega
          show W p l e (xa_rm q (M.2.1 - sz) (M.2.2.1 - sl)) s m args below meth c0 H locs cells slots (MQ below _ args s (M.2.1 - sz) (M.2.2.1 - sl) _) _
          rw [z1, z2]
          exact W.zret (ty := .boolean) hF.1 hF.2.1 (by rw [hF.2.2.2.1, c]) (by rcases h01 with rfl | rfl <;> rfl) (fun t ht hW => ⟨rfl, by rw [ht]; exact hR⟩) hL hd (hlocks := hF.2.2.2.2.2.2.1)⟩
    · exact h3.elim
  · have e : len = 1 := by simpa [xa_ok] using hok
    subst e
    split at h3
    · obtain ⟨c, h3⟩ := h3
      subst h3
      exact ⟨Nat.le_refl _, Nat.le_refl _, rfl, fun q' hq' b0 H0 D cA p e s m args below meth c0 H locs cells slots sz sl ls hF hK hR hL hl e1 e2 => by
        cases h1.symm.trans hq'
        have z1 : M.2.1 - sz = cells := by omega
        have z2 : M.2.2.1 - sl = slots := by omega
        show W p l e (xa_rm q (M.2.1 - sz) (M.2.2.1 - sl)) s m args below meth c0 H locs cells slots (MQ below _ args s (M.2.1 - sz) (M.2.2.1 - sl) _) _
        rw [z1, z2]
        exact W.vret hF.1 hF.2.1 (by rw [hF.2.2.2.1, c]) (fun t ht hW => ⟨rfl, by rw [ht]; exact hR⟩) hL hd (hlocks := hF.2.2.2.2.2.2.1)⟩
    · exact h3.elim
  · exact h3.elim
theorem xa_sound (l : Launch) {mid pc : Nat} {lv : xa_L} {st : List Value} {M : xa_M} {res : xa_Z} (x : xa_E mid pc lv st M res) : xa_P l mid pc lv st M res :=
  x (xa_P l) (fun _ _ _ _ _ _ y => xa_sound_step l y)
