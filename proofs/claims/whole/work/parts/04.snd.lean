theorem xa_lkm {α : Type} {l : List (Nat × α)} {i : Nat} {v : α} (h : l.lookup i = some v) : (i, v) ∈ l := by
  induction l with
  | nil => cases h
  | cons x l ih =>
    obtain ⟨j, w⟩ := x
    rw [List.lookup_cons] at h
    by_cases e : (i == j) = true
    · rw [e] at h
      simp only [beq_iff_eq] at e
      cases h
      subst e
      exact List.mem_cons_self
    · rw [Bool.not_eq_true] at e
      rw [e] at h
      exact List.mem_cons_of_mem _ (ih h)
def xa_tyf (ci : Nat) : Nat → FieldType := match ci with
  | 0 => tyX0
  | 1 => tyX1
  | 2 => tyX2
  | 3 => tyX3
  | 4 => tyX4
  | 5 => tyX5
  | 6 => tyX6
  | 7 => tyX7
  | _ => fun _ => .int
def xa_cn (i : Nat) : String := ((xa_cl[i]?).map (fun z => z.1)).getD ""
def xa_flc (own : Nat) (e : Nat × Nat × Nat × Nat) : Bool := match xa_cl[e.2.1]? with
  | some (C, T, N) => decide (e.2.2.1 < N ∧ (T e.2.2.1).1 = C ∧ (T e.2.2.1).2.2.2 = xa_fin e.2.1 e.2.2.1 ∧ lw_tbl[e.2.2.2]? = some (.fieldLink (xa_cn own) e.1 C (T e.2.2.1).2.1 (T e.2.2.1).2.2.1))
  | none => false
set_option maxRecDepth 100000 in
theorem xa_flt0 : ∀ e ∈ xa_fl 0, xa_flc 0 e = true := by decide +kernel
set_option maxRecDepth 100000 in
theorem xa_flt1 : ∀ e ∈ xa_fl 1, xa_flc 1 e = true := by decide +kernel
set_option maxRecDepth 100000 in
theorem xa_flt2 : ∀ e ∈ xa_fl 2, xa_flc 2 e = true := by decide +kernel
set_option maxRecDepth 100000 in
theorem xa_flt3 : ∀ e ∈ xa_fl 3, xa_flc 3 e = true := by decide +kernel
set_option maxRecDepth 100000 in
theorem xa_flt4 : ∀ e ∈ xa_fl 4, xa_flc 4 e = true := by decide +kernel
set_option maxRecDepth 100000 in
theorem xa_flt5 : ∀ e ∈ xa_fl 5, xa_flc 5 e = true := by decide +kernel
set_option maxRecDepth 100000 in
theorem xa_flt6 : ∀ e ∈ xa_fl 6, xa_flc 6 e = true := by decide +kernel
set_option maxRecDepth 100000 in
theorem xa_flt7 : ∀ e ∈ xa_fl 7, xa_flc 7 e = true := by decide +kernel
theorem xa_flt (own : Nat) : ∀ e ∈ xa_fl own, xa_flc own e = true := by
  match own with
  | 0 => exact xa_flt0
  | 1 => exact xa_flt1
  | 2 => exact xa_flt2
  | 3 => exact xa_flt3
  | 4 => exact xa_flt4
  | 5 => exact xa_flt5
  | 6 => exact xa_flt6
  | 7 => exact xa_flt7
  | n + 8 => intro e h; cases h
theorem xa_cn_own {q : xa_MI} (hm : xa_mok q) : xa_cn q.2.2.2.2.1 = q.1.cls := by
  unfold xa_cn
  rw [hm.2.2.2.2.2.2]
  rfl
theorem xa_fl_ok {q : xa_MI} (hm : xa_mok q) {i ci k pl : Nat} (h : (xa_fl q.2.2.2.2.1).lookup i = some (ci, k, pl)) : ∃ (C : String) (T : u_T) (N : Nat), xa_cl[ci]? = some (C, T, N) ∧ k < N ∧ (T k).1 = C ∧ xa_in (.fieldLink q.1.cls i C (T k).2.1 (T k).2.2.1) ∧ (T k).2.2.2 = xa_fin ci k := by
  have h1 := xa_flt _ _ (xa_lkm h)
  unfold xa_flc at h1
  dsimp only at h1
  split at h1
  · rename_i C T N hc
    obtain ⟨a1, a2, a3, a4⟩ := of_decide_eq_true h1
    rw [xa_cn_own hm] at a4
    exact ⟨C, T, N, hc, a1, a2, xa_pl pl a4 rfl, a3⟩
  · cases h1
def xa_cok (ci : Nat) (z : vw_C) : Prop := (∀ w ∈ u_ws z.1 z.2.1 z.2.2, xa_in w) ∧ (∀ k, k < z.2.2 → parseFieldDescriptor (z.2.1 k).2.2.1 = some (xa_tyf ci k)) ∧ (∀ a, a < z.2.2 → ∀ b, b < z.2.2 → a ≠ b → (z.2.1 a).2.1 ≠ (z.2.1 b).2.1) ∧ z.2.2 = (xa_df ci).length ∧ (∀ j, j < z.2.2 → defaultValue (xa_tyf ci j) = vp_V (xa_df ci) j) ∧ xa_in (.instantiable z.1 z.2.2) ∧ xa_in (.initialized z.1)
set_option maxRecDepth 100000 in
theorem xa_ckm0 : ∀ w ∈ u_ws RX0 TX0 2, w ∈ lw_tbl := by decide +kernel
set_option maxRecDepth 100000 in
theorem xa_ckg0 : ∀ w ∈ u_ws RX0 TX0 2, goodWord w = true := by decide +kernel
theorem xa_cku0 : ∀ w ∈ u_ws RX0 TX0 2, xa_in w := fun w hw => ⟨xa_ckm0 w hw, xa_ckg0 w hw⟩
set_option maxRecDepth 100000 in
theorem xa_ck0 : xa_cok 0 (RX0, TX0, 2) := ⟨xa_cku0, tyX0_ok, nmX0, rfl, by decide +kernel, xa_pl 194 rfl rfl, xa_pl 49 rfl rfl⟩
set_option maxRecDepth 100000 in
theorem xa_ckm1 : ∀ w ∈ u_ws RX1 TX1 4, w ∈ lw_tbl := by decide +kernel
set_option maxRecDepth 100000 in
theorem xa_ckg1 : ∀ w ∈ u_ws RX1 TX1 4, goodWord w = true := by decide +kernel
theorem xa_cku1 : ∀ w ∈ u_ws RX1 TX1 4, xa_in w := fun w hw => ⟨xa_ckm1 w hw, xa_ckg1 w hw⟩
set_option maxRecDepth 100000 in
theorem xa_ck1 : xa_cok 1 (RX1, TX1, 4) := ⟨xa_cku1, tyX1_ok, nmX1, rfl, by decide +kernel, xa_pl 214 rfl rfl, xa_pl 51 rfl rfl⟩
set_option maxRecDepth 100000 in
theorem xa_ckm2 : ∀ w ∈ u_ws RX2 TX2 6, w ∈ lw_tbl := by decide +kernel
set_option maxRecDepth 100000 in
theorem xa_ckg2 : ∀ w ∈ u_ws RX2 TX2 6, goodWord w = true := by decide +kernel
theorem xa_cku2 : ∀ w ∈ u_ws RX2 TX2 6, xa_in w := fun w hw => ⟨xa_ckm2 w hw, xa_ckg2 w hw⟩
set_option maxRecDepth 100000 in
theorem xa_ck2 : xa_cok 2 (RX2, TX2, 6) := ⟨xa_cku2, tyX2_ok, nmX2, rfl, by decide +kernel, xa_pl 161 rfl rfl, xa_pl 48 rfl rfl⟩
set_option maxRecDepth 100000 in
theorem xa_ckm3 : ∀ w ∈ u_ws RX3 TX3 4, w ∈ lw_tbl := by decide +kernel
set_option maxRecDepth 100000 in
theorem xa_ckg3 : ∀ w ∈ u_ws RX3 TX3 4, goodWord w = true := by decide +kernel
theorem xa_cku3 : ∀ w ∈ u_ws RX3 TX3 4, xa_in w := fun w hw => ⟨xa_ckm3 w hw, xa_ckg3 w hw⟩
set_option maxRecDepth 100000 in
theorem xa_ck3 : xa_cok 3 (RX3, TX3, 4) := ⟨xa_cku3, tyX3_ok, nmX3, rfl, by decide +kernel, xa_pl 68 rfl rfl, xa_pl 46 rfl rfl⟩
set_option maxRecDepth 100000 in
theorem xa_ckm4 : ∀ w ∈ u_ws RX4 TX4 14, w ∈ lw_tbl := by decide +kernel
set_option maxRecDepth 100000 in
theorem xa_ckg4 : ∀ w ∈ u_ws RX4 TX4 14, goodWord w = true := by decide +kernel
theorem xa_cku4 : ∀ w ∈ u_ws RX4 TX4 14, xa_in w := fun w hw => ⟨xa_ckm4 w hw, xa_ckg4 w hw⟩
set_option maxRecDepth 100000 in
theorem xa_ck4 : xa_cok 4 (RX4, TX4, 14) := ⟨xa_cku4, tyX4_ok, nmX4, rfl, by decide +kernel, xa_pl 90 rfl rfl, xa_pl 47 rfl rfl⟩
set_option maxRecDepth 100000 in
theorem xa_ckm5 : ∀ w ∈ u_ws RX5 TX5 4, w ∈ lw_tbl := by decide +kernel
set_option maxRecDepth 100000 in
theorem xa_ckg5 : ∀ w ∈ u_ws RX5 TX5 4, goodWord w = true := by decide +kernel
theorem xa_cku5 : ∀ w ∈ u_ws RX5 TX5 4, xa_in w := fun w hw => ⟨xa_ckm5 w hw, xa_ckg5 w hw⟩
set_option maxRecDepth 100000 in
theorem xa_ck5 : xa_cok 5 (RX5, TX5, 4) := ⟨xa_cku5, tyX5_ok, nmX5, rfl, by decide +kernel, xa_pl 234 rfl rfl, xa_pl 52 rfl rfl⟩
set_option maxRecDepth 100000 in
theorem xa_ckm6 : ∀ w ∈ u_ws RX6 TX6 9, w ∈ lw_tbl := by decide +kernel
set_option maxRecDepth 100000 in
theorem xa_ckg6 : ∀ w ∈ u_ws RX6 TX6 9, goodWord w = true := by decide +kernel
theorem xa_cku6 : ∀ w ∈ u_ws RX6 TX6 9, xa_in w := fun w hw => ⟨xa_ckm6 w hw, xa_ckg6 w hw⟩
set_option maxRecDepth 100000 in
theorem xa_ck6 : xa_cok 6 (RX6, TX6, 9) := ⟨xa_cku6, tyX6_ok, nmX6, rfl, by decide +kernel, xa_pl 60 rfl rfl, xa_pl 45 rfl rfl⟩
set_option maxRecDepth 100000 in
theorem xa_ckm7 : ∀ w ∈ u_ws RX7 TX7 21, w ∈ lw_tbl := by decide +kernel
set_option maxRecDepth 100000 in
theorem xa_ckg7 : ∀ w ∈ u_ws RX7 TX7 21, goodWord w = true := by decide +kernel
theorem xa_cku7 : ∀ w ∈ u_ws RX7 TX7 21, xa_in w := fun w hw => ⟨xa_ckm7 w hw, xa_ckg7 w hw⟩
set_option maxRecDepth 100000 in
theorem xa_ck7 : xa_cok 7 (RX7, TX7, 21) := ⟨xa_cku7, tyX7_ok, nmX7, rfl, by decide +kernel, xa_pl 690 rfl rfl, xa_pl 58 rfl rfl⟩
theorem xa_cls_ok {ci : Nat} {C : String} {T : u_T} {N : Nat} (h : xa_cl[ci]? = some (C, T, N)) : xa_cok ci (C, T, N) := by
  match ci, h with
  | 0, h => cases h; exact xa_ck0
  | 1, h => cases h; exact xa_ck1
  | 2, h => cases h; exact xa_ck2
  | 3, h => cases h; exact xa_ck3
  | 4, h => cases h; exact xa_ck4
  | 5, h => cases h; exact xa_ck5
  | 6, h => cases h; exact xa_ck6
  | 7, h => cases h; exact xa_ck7
  | n + 8, h => simp at h
def xa_e (cA : Nat → ClassId) (e : xa_C) : va_E := match e with
  | .inl (t, x) => .inl (cA t, x)
  | .inr o => .inr o
/-- the heap is the memory's: from b0 on; below it nothing changed -/
def xa_R (b0 : Nat) (H0 : Heap) (D : va_G) (cA : Nat → ClassId) (M : xa_M) (H : Heap) : Prop :=
  M.2.1 = H.size ∧ b0 ≤ H.size ∧ (∀ q : Nat, q < b0 → H[q]? = H0[q]?) ∧ ∀ (a : Nat) (e : xa_C), M.1 a = some e → b0 ≤ a ∧ va_at D xa_cl (a, xa_e cA e) H
def xa_tys (cA : Nat → ClassId) : List (ClassId × FieldType) := [(cA 0, .int), (cA 1, .char), (cA 2, .boolean), (cA 3, .object RX2), (cA 4, .array .int)]
def xa_TX : String := "n9;c4;g2;s0,0,1;s1,0,2;s2,1,3;s3,1,0;s0,2,0;m0,0,1;m1,1,2;w0,3;w2,6;w5,9;w3,5;"
def xa_nst (s : State) : Prop := ∀ (a : String) (i : Nat) (x : MethodName) (h : String), Cond.methodLinkNest a i x h ∈ lw_tbl → va_Nw (.methodLinkNest a i x h) s
/-- what is known of the class's own text, which lies below b0 -/
def xa_Sx (b0 : Nat) (H0 : Heap) (sa : Nat) (s : State) : Prop := ((vk_R RX6 62 xa_TX sa s ∧ xa_nst s) ∧ va_Nw (.arrayOver (.array .int)) s ∧ va_AO RX2 s) ∧ b0 = H0.size ∧ ∃ va : Nat, va_O "java/lang/String" sa (fun q => b0 ≤ q) s H0 ∧ va_OF "java/lang/String" "coder" "B" (.int 0) sa (fun q => b0 ≤ q) s H0 ∧ va_OF "java/lang/String" "value" "[B" (.ref va) sa (fun q => b0 ≤ q) s H0 ∧ va_T .byte va 78 (fun j => .int (nI (xa_tx.getD j 0))) (fun q => b0 ≤ q) s H0 ∧ va_Z "java/lang/String" "COMPACT_STRINGS" "Z" (.int 1) (fun q => b0 ≤ q) s H0 ∧ va_Zq "jdk/internal/util/Preconditions" "SIOOBE_FORMATTER" "Ljava/util/function/BiFunction;" (fun q => b0 ≤ q) s H0
theorem xa_aov {u U : State} (hvm : u.vm.Alike U.vm) (h : va_Nw (.arrayOver (.array .int)) u) : va_Nw (.arrayOver (.array .int)) U := by
  obtain ⟨comp, c, k, h1, h2, h3, h4, h5⟩ := arrayOverA_spec h
  obtain ⟨k', hk', he⟩ := hvm.2.2 _ _ h3
  have hi : (U.vm.classes.findIdx? fun (x : Class) => match x.kind with | .array component _ => component == comp | _ => false) = some c := by
    have e2 := (va_idx_bare u.vm comp).trans h2
    have e3 := va_idx_bare U.vm comp
    first | rw [hvm.bare_eq] at e3 | rw [← hvm.bare_eq] at e3
    exact e3.symm.trans e2
  have hkind : k'.kind = .array comp (.array .int) := by rw [he]; exact h4
  have f1 : U.vm.findClass (FieldType.array .int).toString = some comp := by rw [hvm.findClass]; exact h1
  have f2 : U.vm.findClass ("[" ++ (FieldType.array .int).toString) = some c := by rw [hvm.findClass]; exact h5
  unfold va_Nw Cond.before Cond.holds
  simp only [Cond.value]
  rw [f1, Option.bind_some]
  refine (congrArg (fun o : Option Nat => (o.bind (fun c => (U.vm.classes[c]?).map fun (k : Class) => match k.kind with | .array _ ty => decide (ty = FieldType.array .int) && decide (U.vm.findClass ("[" ++ (FieldType.array .int).toString) = some c) | _ => false) == some true)) hi).trans ?_
  simp [hk', hkind, f2]
theorem xa_Sx_moved {b0 : Nat} {H0 : Heap} {sa : Nat} {u U : State} (hvm : u.vm.Alike U.vm) (hr : vk_R RX6 62 xa_TX sa U ∧ xa_nst U) (h : xa_Sx b0 H0 sa u) : xa_Sx b0 H0 sa U := by
  obtain ⟨⟨-, haa, hao⟩, hb, va, h1, h2, h3, h4, h5, h6⟩ := h
  exact ⟨⟨hr, xa_aov hvm haa, va_AO.moved hvm hao⟩, hb, va, va_O.moved hvm h1, va_OF.moved hvm h2, va_OF.moved hvm h3, va_T.moved hvm h4, va_Z.moved hvm h5, va_Zq.moved hvm h6⟩
def xa_K (D : va_G) (cA : Nat → ClassId) (b0 : Nat) (H0 : Heap) (sa : Nat) (s : State) : Prop := va_K D xa_cl (xa_tys cA) s ∧ xa_Sx b0 H0 sa s
theorem xa_K_warm {D : va_G} {cA : Nat → ClassId} {b0 : Nat} {H0 : Heap} {sa : Nat} {s U : State} (hW : s.WarmedH U.vm) (h : xa_K D cA b0 H0 sa s) : xa_K D cA b0 H0 sa U := ⟨va_K.moved hW.alike h.1, xa_Sx_moved hW.alike ⟨vk_R.warm hW h.2.1.1.1, fun a i x y hm => va_Nw.warmM hW (h.2.1.1.2 a i x y hm)⟩ h.2⟩
theorem xa_K_same {D : va_G} {cA : Nat → ClassId} {b0 : Nat} {H0 : Heap} {sa : Nat} {u U : State} (hv : U.vm = u.vm) (h : xa_K D cA b0 H0 sa u) : xa_K D cA b0 H0 sa U := ⟨va_K.moved (by rw [hv]; exact Vm.Alike.refl _) h.1, xa_Sx_moved (by rw [hv]; exact Vm.Alike.refl _) ⟨vk_R.same hv h.2.1.1.1, fun a i x y hm => va_Nw.same rfl hv.symm (h.2.1.1.2 a i x y hm)⟩ h.2⟩
def xa_lv (ls : Array Slot) (nL : Nat) (lv : xa_L) : Prop := ls.size = nL ∧ lv_wf ls ∧ ∀ (i : Nat) (v : Value), lv i = some v → ls[i]? = some (.val v)
def xa_ws (q : xa_MI) : List Cond := Cond.code q.1 q.2.1 q.2.2.1 q.2.2.2.1 :: lw_tbl.filter goodWord
def xa_Fx (q : xa_MI) (p : Program) (s : State) (m : MethodId) (args : Array Value) (meth : Method) (c : Code) : Prop :=
  p.tables.exec = Jvm.exec ∧ c.code = q.2.1 ∧ c.maxLocals = q.2.2.1 ∧ meth.sig.returnType = q.2.2.2.1 ∧ s.vm.findClass q.1.cls = some m.cls ∧ (∀ w ∈ xa_ws q, w.before args s = true) ∧ meth.locks = false ∧ meth.name = q.1.name
def xa_rm (q : xa_MI) (mc ms : Nat) : Room := { frames := q.2.2.2.2.2, cells := mc, slots := ms, locals := 40 * q.2.2.2.2.2 }
def xa_Q (b0 : Nat) (H0 : Heap) (D : va_G) (cA : Nat → ClassId) (res : xa_Z) : Array Value → State → Outcome → State → Prop := fun _ _ o t => o = .returned res.1 ∧ xa_R b0 H0 D cA res.2 t.heap
def xa_P (l : Launch) : xa_J := fun mid pc lv st M res => M.2.1 ≤ res.2.2.1 ∧ M.2.2.1 ≤ res.2.2.2.1 ∧ res.2.2.2.2 = M.2.2.2 ∧ ∀ (q : xa_MI), xa_mt[mid]? = some q → ∀ (b0 : Nat) (H0 : Heap) (D : va_G) (cA : Nat → ClassId) (p : Program) (e : Env) (s : State) (m : MethodId) (args : Array Value) (below : List Frame) (meth : Method) (c : Code) (H : Heap) (locs : List Loc) (cells slots sz sl : Nat) (ls : Array Slot),
  xa_Fx q p s m args meth c → xa_K D cA b0 H0 M.2.2.2 s → xa_R b0 H0 D cA M H → (∀ x ∈ locs, b0 ≤ x.base) → xa_lv ls q.2.2.1 lv → sz + cells = M.2.1 → sl + slots = M.2.2.1 →
  W p l e (xa_rm q (res.2.2.1 - sz) (res.2.2.2.1 - sl)) s m args below meth c H locs cells slots (MQ below (xa_Q b0 H0 D cA res) args s (res.2.2.1 - sz) (res.2.2.2.1 - sl) (fun x => b0 ≤ x)) (F0 m pc ls st)
theorem xa_word {q : xa_MI} {w : Cond} (h : xa_in w) : w ∈ xa_ws q := List.mem_cons_of_mem _ (List.mem_filter.mpr h)
theorem xa_fet_spec {q : xa_MI} {pc : Nat} {ins : xa_I} (h : xa_fet q pc = some ins) : ∃ len : Nat, decode q.2.1 pc = .ok (ins, len) ∧ xa_ok q pc ins len = true := by
  unfold xa_fet at h
  split at h
  · rename_i i n hd
    split at h
    · rename_i hk
      cases h
      exact ⟨n, hd, hk⟩
    · cases h
  · cases h
theorem xa_R_set {b0 : Nat} {H0 : Heap} {D : va_G} {cA : Nat → ClassId} {M : xa_M} {H H1 : Heap} {a : Nat} {e0 e : xa_C} (hR : xa_R b0 H0 D cA M H) (ha : M.1 a = some e0) (he : va_at D xa_cl (a, xa_e cA e) H1) (z : H1.size = H.size) (oq : ∀ q : Nat, q ≠ a → H1[q]? = H[q]?) : xa_R b0 H0 D cA (xa_st M a e) H1 := by
  obtain ⟨r1, r2, r3, r4⟩ := hR
  refine ⟨by rw [z]; exact r1, by rw [z]; exact r2, fun q hq => ?_, fun b f hb => ?_⟩
  · have := (r4 a _ ha).1
    rw [oq q (by omega)]
    exact r3 q hq
  · unfold xa_st at hb
    dsimp only at hb
    by_cases h : b = a
    · rw [if_pos h] at hb
      cases hb
      subst h
      exact ⟨(r4 b _ ha).1, he⟩
    · rw [if_neg h] at hb
      exact ⟨(r4 b f hb).1, (r4 b f hb).2.kept (oq b h)⟩
theorem xa_R_new {b0 : Nat} {H0 : Heap} {D : va_G} {cA : Nat → ClassId} {M : xa_M} {H H1 : Heap} {e : xa_C} {n : Nat} (hR : xa_R b0 H0 D cA M H) (he : va_at D xa_cl (H.size, xa_e cA e) H1) (z : H1.size = H.size + 1) (oq : ∀ q : Nat, q < H.size → H1[q]? = H[q]?) : xa_R b0 H0 D cA (xa_al M e n) H1 := by
  obtain ⟨r1, r2, r3, r4⟩ := hR
  refine ⟨by rw [z, ← r1]; rfl, by omega, fun q hq => ?_, fun b f hb => ?_⟩
  · rw [oq q (by omega)]
    exact r3 q hq
  · unfold xa_al at hb
    dsimp only at hb
    by_cases h : b = M.2.1
    · rw [if_pos h] at hb
      cases hb
      rw [h, r1]
      exact ⟨r2, he⟩
    · rw [if_neg h] at hb
      have h2 := (r4 b f hb).2
      exact ⟨(r4 b f hb).1, h2.kept (oq b h2.lt)⟩
def xa_ll (nL : Nat) (lv : xa_L) : List (Nat × Value) := (List.range nL).filterMap (fun i => (lv i).map (fun v => (i, v)))
theorem xa_ll_mem {nL : Nat} {lv : xa_L} {i : Nat} {v : Value} (hi : i < nL) (h : lv i = some v) : (i, v) ∈ xa_ll nL lv := List.mem_filterMap.mpr ⟨i, List.mem_range.mpr hi, by rw [h]; rfl⟩
theorem xa_ll_has {ls : Array Slot} {nL : Nat} {lv : xa_L} (h : xa_lv ls nL lv) : lv_has ls nL (xa_ll nL lv) := by
  refine ⟨h.1, h.2.1, fun x hx => ?_⟩
  obtain ⟨i, -, hi⟩ := List.mem_filterMap.mp hx
  cases hv : lv i with
  | none => rw [hv] at hi; cases hi
  | some v => rw [hv] at hi; cases hi; exact h.2.2 i v hv
theorem xa_lv_lt {ls : Array Slot} {nL : Nat} {lv : xa_L} (h : xa_lv ls nL lv) {i : Nat} {v : Value} (hi : lv i = some v) : i < nL := by
  rw [← h.1]; exact lv_lt (h.2.2 i v hi)
theorem xa_c1_spec {w : Option Value} {v : Value} (h : xa_c1 w = some v) : w = some v ∧ v.category = 1 := by
  unfold xa_c1 at h
  split at h
  · cases h; exact ⟨rfl, rfl⟩
  · cases h; exact ⟨rfl, rfl⟩
  · cases h
theorem xa_lv_s1 {ls ls' : Array Slot} {nL i : Nat} {lv : xa_L} {v : Value} (h : xa_lv ls nL lv) (h' : lv_has ls' nL ((i, v) :: (xa_ll nL lv).filter (fun q => !(q.1 == i) && !(q.1 + 1 == i && q.2.category == 2)))) : xa_lv ls' nL (xa_s1 lv i v) := by
  refine ⟨h'.1, h'.2.1, fun j w hj => ?_⟩
  unfold xa_s1 at hj
  by_cases e : j = i
  · rw [if_pos e] at hj
    cases hj
    subst e
    exact h'.2.2 (j, _) List.mem_cons_self
  · rw [if_neg e] at hj
    by_cases e2 : j + 1 = i
    · rw [if_pos e2] at hj
      obtain ⟨a1, a2⟩ := xa_c1_spec hj
      refine h'.2.2 (j, w) (List.mem_cons_of_mem _ (List.mem_filter.mpr ⟨xa_ll_mem (xa_lv_lt h a1) a1, ?_⟩))
      simp [e, a2]
    · rw [if_neg e2] at hj
      refine h'.2.2 (j, w) (List.mem_cons_of_mem _ (List.mem_filter.mpr ⟨xa_ll_mem (xa_lv_lt h hj) hj, ?_⟩))
      simp [e, e2]
theorem xa_lv_s2 {ls ls' : Array Slot} {nL i : Nat} {lv : xa_L} {v : Value} (h : xa_lv ls nL lv) (h' : lv_has ls' nL ((i, v) :: (xa_ll nL lv).filter (fun q => !(q.1 == i) && (!(q.1 == i + 1) && !(q.1 + 1 == i && q.2.category == 2))))) : xa_lv ls' nL (xa_s2 lv i v) := by
  refine ⟨h'.1, h'.2.1, fun j w hj => ?_⟩
  unfold xa_s2 at hj
  by_cases e : j = i
  · rw [if_pos e] at hj
    cases hj
    subst e
    exact h'.2.2 (j, _) List.mem_cons_self
  · rw [if_neg e] at hj
    by_cases e3 : j = i + 1
    · rw [if_pos e3] at hj; cases hj
    · rw [if_neg e3] at hj
      by_cases e2 : j + 1 = i
      · rw [if_pos e2] at hj
        obtain ⟨a1, a2⟩ := xa_c1_spec hj
        refine h'.2.2 (j, w) (List.mem_cons_of_mem _ (List.mem_filter.mpr ⟨xa_ll_mem (xa_lv_lt h a1) a1, ?_⟩))
        simp [e, e3, a2]
      · rw [if_neg e2] at hj
        refine h'.2.2 (j, w) (List.mem_cons_of_mem _ (List.mem_filter.mpr ⟨xa_ll_mem (xa_lv_lt h hj) hj, ?_⟩))
        simp [e, e2, e3]
theorem xa_cst_eq (n : Int) : xa_cst n = Int32.ofInt n := by
  unfold xa_cst
  split
  · rfl
  · rename_i h
    obtain ⟨k, rfl⟩ := Int.eq_ofNat_of_zero_le (Int.not_lt.mp h)
    rfl
/-- a step that makes no cell -/
theorem xa_stp {l : Launch} {mid pc pc' : Nat} {lv lv' : xa_L} {st st' : List Value} {M M' : xa_M} {res : xa_Z} {q : xa_MI} (h1 : xa_mt[mid]? = some q) (hn : xa_P l mid pc' lv' st' M' res) (hz : M'.2 = M.2)
    (hw : ∀ {b0 : Nat} {H0 : Heap} {D : va_G} {cA : Nat → ClassId} {p : Program} {e : Env} {R : Room} {s : State} {m : MethodId} {args : Array Value} {below : List Frame} {meth : Method} {c : Code} {H : Heap} {locs : List Loc} {cells slots : Nat} {Q : State → Prop} {ls : Array Slot}, xa_Fx q p s m args meth c → xa_K D cA b0 H0 M.2.2.2 s → xa_R b0 H0 D cA M H → (∀ x ∈ locs, b0 ≤ x.base) → xa_lv ls q.2.2.1 lv → (R.frames = q.2.2.2.2.2 ∧ R.locals = 40 * q.2.2.2.2.2 ∧ cells ≤ R.cells ∧ slots ≤ R.slots) →
      (∀ (ls' : Array Slot) (H' : Heap) (locs' : List Loc), xa_lv ls' q.2.2.1 lv' → xa_R b0 H0 D cA M' H' → (∀ x ∈ locs', b0 ≤ x.base) → W p l e R s m args below meth c H' locs' cells slots Q (F0 m pc' ls' st')) → W p l e R s m args below meth c H locs cells slots Q (F0 m pc ls st)) : xa_P l mid pc lv st M res := by
  obtain ⟨n1, n2, n4, n3⟩ := hn
  rw [hz] at n1 n2 n4
  refine ⟨n1, n2, n4, fun q' hq' b0 H0 D cA p e s m args below meth c H locs cells slots sz sl ls hF hK hR hL hl e1 e2 => ?_⟩
  cases h1.symm.trans hq'
  refine hw hF hK hR hL hl ⟨rfl, rfl, by show cells ≤ _ - _; omega, by show slots ≤ _ - _; omega⟩ (fun ls' H' locs' a1 a2 a3 => ?_)
  exact n3 q h1 b0 H0 D cA p e s m args below meth c H' locs' cells slots sz sl ls' hF (by rw [hz]; exact hK) a2 a3 a1 (by rw [hz]; exact e1) (by rw [hz]; exact e2)
/-- a step that makes a cell of n slots -/
theorem xa_sta {l : Launch} {mid pc pc' : Nat} {lv : xa_L} {st st' : List Value} {M : xa_M} {res : xa_Z} {q : xa_MI} {ce : xa_C} {n : Nat} (h1 : xa_mt[mid]? = some q) (hn : xa_P l mid pc' lv st' (xa_al M ce n) res)
    (hw : ∀ {b0 : Nat} {H0 : Heap} {D : va_G} {cA : Nat → ClassId} {p : Program} {e : Env} {R : Room} {s : State} {m : MethodId} {args : Array Value} {below : List Frame} {meth : Method} {c : Code} {H : Heap} {locs : List Loc} {cells slots : Nat} {Q : State → Prop} {ls : Array Slot}, xa_Fx q p s m args meth c → xa_K D cA b0 H0 M.2.2.2 s → xa_R b0 H0 D cA M H → xa_lv ls q.2.2.1 lv → (cells + 1 ≤ R.cells ∧ slots + n ≤ R.slots) →
      (∀ (H' : Heap), xa_R b0 H0 D cA (xa_al M ce n) H' → W p l e R s m args below meth c H' locs (cells + 1) (slots + n) Q (F0 m pc' ls st')) → W p l e R s m args below meth c H locs cells slots Q (F0 m pc ls st)) : xa_P l mid pc lv st M res := by
  obtain ⟨n1, n2, n4, n3⟩ := hn
  have n1 : M.2.1 + 1 ≤ res.2.2.1 := n1
  have n2 : M.2.2.1 + n ≤ res.2.2.2.1 := n2
  refine ⟨by omega, by omega, n4, fun q' hq' b0 H0 D cA p e s m args below meth c H locs cells slots sz sl ls hF hK hR hL hl e1 e2 => ?_⟩
  cases h1.symm.trans hq'
  refine hw hF hK hR hl ⟨by show cells + 1 ≤ _ - _; omega, by show slots + n ≤ _ - _; omega⟩ (fun H' a2 => ?_)
  exact n3 q h1 b0 H0 D cA p e s m args below meth c H' locs (cells + 1) (slots + n) sz sl ls hF hK a2 hL hl (by show _ = M.2.1 + 1; omega) (by show _ = M.2.2.1 + n; omega)
section XaS
variable {l : Launch} {mid pc : Nat} {lv : xa_L} {st r : List Value} {M : xa_M} {res : xa_Z} {q : xa_MI}
/-- pure steps -/
theorem xs_p {pc' : Nat} {st' : List Value} (h1 : xa_mt[mid]? = some q) (hn : xa_P l mid pc' lv st' M res) (hw : ∀ {p : Program} {e : Env} {R : Room} {s : State} {m : MethodId} {args : Array Value} {below : List Frame} {meth : Method} {c : Code} {H : Heap} {locs : List Loc} {cells slots : Nat} {Q : State → Prop} {ls : Array Slot}, p.tables.exec = Jvm.exec → c.code = q.2.1 → W p l e R s m args below meth c H locs cells slots Q (F0 m pc' ls st') → W p l e R s m args below meth c H locs cells slots Q (F0 m pc ls st)) : xa_P l mid pc lv st M res :=
  xa_stp h1 hn rfl (fun hF _ hR hL hl _ k => hw hF.1 hF.2.1 (k _ _ _ hl hR hL))
theorem xs_j {o : Int} (h1 : xa_mt[mid]? = some q) (x : xa_jmp pc o (fun t => xa_P l mid t lv r M res)) (hw : ∀ {p : Program} {e : Env} {R : Room} {s : State} {m : MethodId} {args : Array Value} {below : List Frame} {meth : Method} {c : Code} {H : Heap} {locs : List Loc} {cells slots : Nat} {Q : State → Prop} {ls : Array Slot} {tgt : Nat}, (pc : Int) + o = (tgt : Int) → p.tables.exec = Jvm.exec → c.code = q.2.1 → W p l e R s m args below meth c H locs cells slots Q (F0 m tgt ls r) → W p l e R s m args below meth c H locs cells slots Q (F0 m pc ls st)) : xa_P l mid pc lv st M res := by
  unfold xa_jmp at x
  split at x
  · rename_i c
    exact xs_p h1 x (fun hx hb k => hw (by omega) hx hb k)
  · exact x.elim
theorem xs_load {i : Nat} {v : Value} {pc' : Nat} (h1 : xa_mt[mid]? = some q) (hv : lv i = some v) (hn : xa_P l mid pc' lv (v :: st) M res) (hw : ∀ {p : Program} {e : Env} {R : Room} {s : State} {m : MethodId} {args : Array Value} {below : List Frame} {meth : Method} {c : Code} {H : Heap} {locs : List Loc} {cells slots : Nat} {Q : State → Prop} {ls : Array Slot}, p.tables.exec = Jvm.exec → c.code = q.2.1 → ls[i]? = some (.val v) → W p l e R s m args below meth c H locs cells slots Q (F0 m pc' ls (v :: st)) → W p l e R s m args below meth c H locs cells slots Q (F0 m pc ls st)) : xa_P l mid pc lv st M res :=
  xa_stp h1 hn rfl (fun hF _ hR hL hl _ k => hw hF.1 hF.2.1 (hl.2.2 i v hv) (k _ _ _ hl hR hL))

theorem xs_get {i : Nat} {a : Nat} (h1 : xa_mt[mid]? = some q) (hm : xa_mok q) {ci k pl : Nat} (hf : (xa_fl q.2.2.2.2.1).lookup i = some (ci, k, pl)) (hd : decode q.2.1 pc = .ok (.getfield i, 3)) (x : xa_gf M a ci k (fun v => xa_P l mid (pc + 3) lv (v :: r) M res)) : xa_P l mid pc lv (.ref a :: r) M res := by
  unfold xa_gf at x
  split at x
  · rename_i c0 fs hc
    obtain ⟨hce, x⟩ := x
    subst hce
    split at x
    · rename_i v hv
      refine xa_stp h1 x rfl (fun {b0 H0 D cA p e R s m args below meth c H locs cells slots Q ls} hF hK hR hL hl _ k' => ?_)
      obtain ⟨C, T, N, g1, g2, g3, g4, -⟩ := xa_fl_ok hm hf
      have hP : va_P D xa_cl [(a, .inr (c0, fs))] H := fun j z hj => by
        have hz : j < 1 := (List.getElem?_eq_some_iff.mp hj).1
        rw [show j = 0 by omega] at hj
        cases hj
        exact (hR.2.2.2 a _ hc).2
      exact va_get (D := D) (ci := c0) (v := v) (C := C) (T := T) (N := N) (Ts := xa_ws q) (own := q.1.cls) (ref := C) hF.1 hF.2.1 hF.2.2.2.2.2.1 (fun w hw => xa_word ((xa_cls_ok g1).1 w hw)) hF.2.2.2.2.1 hK.1 hP 0 rfl g1 k g2 (hF.2.2.2.2.2.1 _ (xa_word g4)) (fun _ h9 => by rw [← g3]; exact h9) hv hd (k' ls H locs hl hR hL)
    · exact x.elim
  · exact x.elim
theorem xs_put {i : Nat} {a : Nat} {v : Value} (h1 : xa_mt[mid]? = some q) (hm : xa_mok q) {ci k pl : Nat} (hf : (xa_fl q.2.2.2.2.1).lookup i = some (ci, k, pl)) (hd : decode q.2.1 pc = .ok (.putfield i, 3)) (hfin : xa_fin ci k = true → q.1.name = "<init>" ∧ ci = q.2.2.2.2.1) (hn : narrow (xa_tyf ci k) v = v) (hfit : fits (xa_tyf ci k) v = true) (x : xa_pf M a ci k v (fun M2 => xa_P l mid (pc + 3) lv r M2 res)) : xa_P l mid pc lv (v :: .ref a :: r) M res := by
  unfold xa_pf at x
  split at x
  · rename_i c0 fs hc
    obtain ⟨hce, hkl, x⟩ := x
    subst hce
    refine xa_stp h1 x rfl (fun {b0 H0 D cA p e R s m args below meth c H locs cells slots Q ls} hF hK hR hL hl _ k' => ?_)
    obtain ⟨C, T, N, g1, g2, g3, g4, g5⟩ := xa_fl_ok hm hf
    obtain ⟨o1, o2, o3, -⟩ := xa_cls_ok g1
    have hts := hF.2.2.2.2.2.1
    have hin : ∀ w ∈ u_ws C T N, w ∈ xa_ws q := fun w hw => xa_word (o1 w hw)
    have hap := va_apart (own := q.1.cls) (D := D) hts hin (xa_tyf c0) o2 o3 hK.1 g1
    obtain ⟨r0, hr1, cell, q1, q2, q3, q4⟩ := (hR.2.2.2 a _ hc).2
    have hr : r0 = (C, T, N) := Option.some.inj (hr1.symm.trans g1)
    subst hr
    obtain ⟨hS, hfc, kC, hkC, hkind⟩ := hK.1.1 c0 _ g1
    obtain ⟨cf, kf, fi, f, hi, hsl⟩ := hS k g2
    have hlay := hts _ (hin _ (u_in_lay g2))
    have hst := (u_facts hfc hkC (u_lays hts hin g2) hi).1
    have hlink := hts _ (xa_word (q := q) g4)
    have hfd : s.fieldFound? C (T k).2.1 (T k).2.2.1 = some (cf, kf, fi, f) := by rw [← g3]; exact hi
    have fin2 : ∀ H' : Heap, H'[a]? = some (cell.setSlot f.slot v) → H'.size = H.size → (∀ q, q ≠ a → H'[q]? = H[q]?) → W p l e R s m args below meth c H' (locs ++ [⟨a, f.slot⟩]) cells slots Q (F0 m (pc + 3) ls r) := by
      intro H' e1 e2 e3
      rw [hsl] at e1 ⊢
      refine k' ls H' _ hl (xa_R_set hR hc ?_ e2 e3) (fun y hy => ?_)
      · exact ⟨_, g1, t_OB.to (V := updV (vp_V fs) k v) ⟨_, e1, q2, q3, t_set q4 hap g2 v⟩ (fun j _ => vp_updV_set hkl v j)⟩
      · rcases List.mem_append.mp hy with h | h
        · exact hL y h
        · rw [List.mem_singleton.mp h]
          exact (hR.2.2.2 a _ hc).1
    unfold u_lay at hlay
    by_cases hfn : (T k).2.2.2 = true
    · rw [if_pos hfn] at hlay
      obtain ⟨hnm, hci⟩ := hfin (by rw [← g5]; exact hfn)
      have hown2 : q.1.cls = C := by
        have := hm.2.2.2.2.2.2
        rw [← hci, g1] at this
        exact (Option.some.inj this).symm
      have hcf : m.cls = cf := by
        obtain ⟨_, _, c', _, _, _, -, -, hf', -, -, -, hown3, -⟩ := Cond.laysFinal_spec hlay
        have e1 : c' = cf := by have := hi.symm.trans hf'; simp at this; exact this.1.symm
        have hown := hF.2.2.2.2.1
        rw [hown2, ← g3] at hown
        rw [← e1]; exact Option.some.inj (hown.symm.trans hown3)
      have h6 := u_fits hfc hkC hkind (Or.inr hlay) hi (o2 k g2) hn hfit
      exact W.putFinK hF.1 hF.2.1 hF.2.2.2.2.1 hlink hfd hst hcf (by rw [hF.2.2.2.2.2.2.2, hnm]) (by rw [q2]; exact h6) q1 q3 (by rw [hsl]; exact k2_hasslot (q4 k g2)) rfl rfl hd fin2
    · rw [if_neg hfn] at hlay
      have h6 := u_store hfc hkC hkind hlay hi (o2 k g2) hn hfit
      exact W.putK hF.1 hF.2.1 (f := f) ⟨hF.2.2.2.2.1, hlink, ⟨_, _, _, hfd⟩, hst⟩ (by rw [q2]; exact h6) q1 q3 (by rw [hsl]; exact k2_hasslot (q4 k g2)) rfl rfl hd fin2
  · exact x.elim
/-- the world of one cell -/
theorem xa_one {b0 : Nat} {H0 : Heap} {D : va_G} {cA : Nat → ClassId} {H : Heap} {a : Nat} {e : xa_C} (hR : xa_R b0 H0 D cA M H) (hc : M.1 a = some e) : va_P D xa_cl [(a, xa_e cA e)] H := fun j z hj => by
  have hz : j < 1 := (List.getElem?_eq_some_iff.mp hj).1
  rw [show j = 0 by omega] at hj
  cases hj
  exact (hR.2.2.2 a _ hc).2
/-- array loads of ints -/
theorem xs_ga {t : Nat} {a : Nat} {i : Int32} {ins : xa_I} (h1 : xa_mt[mid]? = some q) (x : xa_ga t M a i (fun v => xa_P l mid (pc + 1) lv (.int v :: r) M res))
    (hw : ∀ {D : va_G} {cA : Nat → ClassId} {p : Program} {e : Env} {R : Room} {s : State} {m : MethodId} {args : Array Value} {below : List Frame} {meth : Method} {c : Code} {H : Heap} {locs : List Loc} {cells slots : Nat} {Q : State → Prop} {ls : Array Slot} {n : Nat} {f : Nat → Int32}, p.tables.exec = Jvm.exec → c.code = q.2.1 → va_K D xa_cl (xa_tys cA) s → va_P D xa_cl [(a, .inl (cA t, n, .inl f))] H → vp_in i n → W p l e R s m args below meth c H locs cells slots Q (F0 m (pc + 1) ls (.int (f i.toNatClampNeg) :: r)) → W p l e R s m args below meth c H locs cells slots Q (F0 m pc ls (.int i :: .ref a :: r))) : xa_P l mid pc lv (.int i :: .ref a :: r) M res := by
  unfold xa_ga at x
  split at x
  · rename_i t' n f hc
    obtain ⟨rfl, hi, x⟩ := x
    exact xa_stp h1 x rfl (fun hF hK hR hL hl _ k' => hw hF.1 hF.2.1 hK.1 (xa_one hR hc) hi (k' _ _ _ hl hR hL))
  · exact x.elim
/-- array stores of ints -/
theorem xs_pa {t : Nat} {a : Nat} {i x0 x1 : Int32} (h1 : xa_mt[mid]? = some q) (x : xa_pa t M a i x1 (fun M2 => xa_P l mid (pc + 1) lv r M2 res))
    (hw : ∀ {D : va_G} {cA : Nat → ClassId} {p : Program} {e : Env} {R : Room} {s : State} {m : MethodId} {args : Array Value} {below : List Frame} {meth : Method} {c : Code} {H : Heap} {locs : List Loc} {cells slots : Nat} {Q : State → Prop} {ls : Array Slot} {n : Nat} {f : Nat → Int32}, p.tables.exec = Jvm.exec → c.code = q.2.1 → va_K D xa_cl (xa_tys cA) s → H[a]? = some (arrV (cA t) n (fun j => .int (f j))) → vp_in i n → (∀ H' : Heap, H'[a]? = some (arrV (cA t) n (updV (fun j => .int (f j)) i.toNatClampNeg (.int x1))) → H'.size = H.size → (∀ q, q ≠ a → H'[q]? = H[q]?) → W p l e R s m args below meth c H' (locs ++ [⟨a, i.toNatClampNeg⟩]) cells slots Q (F0 m (pc + 1) ls r)) → W p l e R s m args below meth c H locs cells slots Q (F0 m pc ls (.int x0 :: .int i :: .ref a :: r))) : xa_P l mid pc lv (.int x0 :: .int i :: .ref a :: r) M res := by
  unfold xa_pa at x
  split at x
  · rename_i t' n f hc
    obtain ⟨rfl, hi, x⟩ := x
    refine xa_stp h1 x rfl (fun hF hK hR hL hl _ k' => hw hF.1 hF.2.1 hK.1 (hR.2.2.2 a _ hc).2 hi (fun H' e1 e2 e3 => ?_))
    refine k' _ H' _ hl (xa_R_set hR hc ?_ e2 e3) (fun y hy => ?_)
    · show H'[a]? = some (vp_cell _ _)
      rw [e1, vp_cell_i]
      congr 2
      funext j
      simp only [updV, upd]
      split <;> rfl
    · rcases List.mem_append.mp hy with h | h
      · exact hL y h
      · rw [List.mem_singleton.mp h]
        exact (hR.2.2.2 a _ hc).1
  · exact x.elim
end XaS

